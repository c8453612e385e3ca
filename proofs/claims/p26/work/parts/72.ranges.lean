/-! the law's own glacier: its ranges -/
def RP (A : AD) (N : Nat) (k : Nat) (f : Nat → Int32) : Prop := match k with
  | 0 => (∃ h, f 0 = nI h ∧ h ≤ 30) ∧ (∃ s, f 1 = nI s ∧ s ≤ 300) ∧ ∃ c, f 2 = nI c ∧ c ≤ 100 * N
  | 1 => (∃ b, f 0 = nI b ∧ b < cn A 0) ∧ (∃ d o, f 1 = nI d ∧ 1 ≤ d ∧ d ≤ 200 ∧ f 2 = nI o ∧ o ≤ 300 ∧ ((f 3 = 1 ∧ o < d) ∨ (f 3 = 0 ∧ d ≤ o))) ∧ ∃ n, f 5 = nI n ∧ n ≤ 10 * N ∧ ((n = 0 ∧ f 4 = -1) ∨ (1 ≤ n ∧ ∃ l, f 4 = nI l ∧ l ≤ 300))
  | 2 => (∃ b, f 0 = nI b ∧ b < cn A 0) ∧ (∃ g, f 1 = nI g ∧ g ≤ 99) ∧ ∃ v, f 2 = nI v ∧ ((v = 0 ∧ f 3 = -1) ∨ ∃ p, f 3 = nI p ∧ p ≤ 99)
  | 3 => (∃ b, f 0 = nI b ∧ b < cn A 0) ∧ ∃ g, f 1 = nI g ∧ g < 1000
  | _ => (∃ z, f 0 = nI z ∧ 2 ≤ z ∧ z ≤ 6) ∧ (∃ s, f 1 = nI s ∧ s ≤ 40) ∧ (∃ p, f 2 = nI p ∧ p < cn A 0) ∧ (∃ hu, f 3 = nI hu ∧ ((f 4 = 1 ∧ hu ≤ 2) ∨ (f 4 = 0 ∧ hu = 3))) ∧ (f 7 = 0 ∨ f 7 = 1) ∧ ∃ n, f 6 = nI n ∧ n ≤ 100 * N
/-- the ranges of all that the law's glacier holds; N: how much may have happened -/
def RI (A : AD) (Y : SM) (N : Nat) : Prop := (∀ j, j < 8 → ∃ w, sm_wa Y j = nI w ∧ w ≤ 30) ∧ ∀ k r, k < 5 → r < cn A k → RP A N k (sm_v Y k r)
section Ri
variable {A : AD} {σ : GL} {Y : SM} {N : Nat}
theorem RP.up {k N' : Nat} {f : Nat → Int32} (h : RP A N k f) (hN : N ≤ N') : RP A N' k f := by
  match k, h with
  | 0, ⟨h1, h2, c, h3, h4⟩ => exact ⟨h1, h2, c, h3, by omega⟩
  | 1, ⟨h1, h2, n, h3, h4, h5⟩ => exact ⟨h1, h2, n, h3, by omega, h5⟩
  | 2, h => exact h
  | 3, h => exact h
  | _ + 4, ⟨h1, h2, h3, h4, h5, n, h6, h7⟩ => exact ⟨h1, h2, h3, h4, h5, n, h6, by omega⟩
theorem RI.of (h : RI A Y N) {Y' : SM} {N' : Nat} (hw : sm_wa Y' = sm_wa Y) (hN : N ≤ N') (hr : ∀ k r, k < 5 → r < cn A k → sm_v Y' k r = sm_v Y k r ∨ RP A N' k (sm_v Y' k r)) : RI A Y' N' := by
  refine ⟨fun j hj => by rw [hw]; exact h.1 j hj, fun k r hk hr' => ?_⟩
  rcases hr k r hk hr' with e | e
  · rw [e]
    exact (h.2 k r hk hr').up hN
  · exact e
theorem sm_row_ne {k r j k' r' : Nat} {x : Int32} (h : ¬ (k' = k ∧ r' = r)) : sm_v (sm_set Y k r j x) k' r' = sm_v Y k' r' := by
  funext c
  exact sm_v_ne (fun w => h ⟨w.1, w.2.1⟩)
theorem RI.set (h : RI A Y N) {k r j : Nat} {x : Int32} {N' : Nat} (hN : N ≤ N') (hp : RP A N' k (sm_v (sm_set Y k r j x) k r)) : RI A (sm_set Y k r j x) N' := by
  refine h.of rfl hN (fun k' r' _ _ => ?_)
  by_cases e : k' = k ∧ r' = r
  · rw [e.1, e.2]
    exact Or.inr hp
  · exact Or.inl (sm_row_ne e)
theorem RI.s01 (h : RI A Y N) : S01 A Y := fun r hr => by
  obtain ⟨-, ⟨d, o, -, -, -, -, -, h6⟩, -⟩ := h.2 1 r (by decide) hr
  exact h6.elim (fun w => Or.inr w.1) (fun w => Or.inl w.1)
theorem RI.h01 (h : RI A Y N) : H01 A Y := fun t ht => by
  obtain ⟨-, -, -, ⟨hu, -, h6⟩, -⟩ := h.2 4 t (by decide) ht
  exact h6.elim (fun w => Or.inr w.1) (fun w => Or.inl w.1)
theorem RI.fok (h : RI A Y N) : FOk A Y := fun r hr => (h.2 3 r (by decide) hr).2
theorem RI.tok (h : RI A Y N) {t : Nat} (ht : t < cn A 4) : TOk A Y t := by
  obtain ⟨-, -, h3, -, h5, -⟩ := h.2 4 t (by decide) ht
  exact ⟨h3, h.h01 t ht, h5⟩
/-- melting by 3 m, or snow of c -/
def MSn (ml sn : Int32) : Prop := (∃ m, m ≤ 30 ∧ ml = nI (3 * m) ∧ sn = 0) ∨ ∃ c, c ≤ 300 ∧ ml = 0 ∧ sn = nI c
theorem neg301 : ∀ d : Fin 301, ¬ 0 < -(nI d.val) := by decide +kernel
theorem sub_max {o c : Nat} (ho : o ≤ 1000) (hc : c ≤ 300) : iMax 0 (nI o - nI c) = nI (o - c) := by
  by_cases h : c ≤ o
  · rw [nI_sub h, show iMax 0 (nI (o - c)) = nI (max 0 (o - c)) from iMax_n (x := 0) (by omega) (by omega), Nat.zero_max]
  · have e : nI o - nI c = -(nI (c - o)) := by rw [← Int32.neg_sub, nI_sub (by omega)]
    have := neg301 ⟨c - o, by omega⟩
    dsimp only at this
    rw [e, show o - c = 0 by omega]
    unfold iMax
    rw [if_neg this]
    rfl
theorem out_ms {ml sn : Int32} (h : MSn ml sn) {o : Nat} (ho : o ≤ 200) : ∃ o', o' ≤ 300 ∧ iMax 0 (nI o + ml - sn) = nI o' := by
  rcases h with ⟨m, hm, rfl, rfl⟩ | ⟨c, hc, rfl, rfl⟩
  · refine ⟨o + 3 * m, by omega, ?_⟩
    rw [Int32.sub_zero, nI_ad, show iMax 0 (nI (o + 3 * m)) = nI (max 0 (o + 3 * m)) from iMax_n (x := 0) (by omega) (by omega), Nat.zero_max]
  · exact ⟨o - c, by omega, by rw [Int32.add_zero, sub_max (by omega) hc]⟩
theorem br_ms {ml sn : Int32} (h : MSn ml sn) {g : Nat} (hg : g ≤ 99) : ∃ g', g' ≤ 99 ∧ iMax 0 (iMin 99 (nI g + sn - ml / 3)) = nI g' := by
  rcases h with ⟨m, hm, rfl, rfl⟩ | ⟨c, hc, rfl, rfl⟩
  · obtain ⟨-, -, -, q4, q5⟩ := neg31 ⟨m, by omega⟩
    dsimp only at q4 q5
    rw [← q5, q4, Int32.add_zero]
    have e : iMin 99 (nI g - nI m) = nI g - nI m := by
      unfold iMin
      by_cases h2 : m ≤ g
      · rw [nI_sub h2]
        by_cases h3 : nI (g - m) < 99
        · rw [if_pos h3]
        · rw [if_neg h3]
          have h4 : ¬ g - m < 99 := fun w => h3 ((nI_ltI (a := g - m) (b := 99) (by omega) (by omega)).mpr w)
          rw [show g - m = 99 by omega]
          rfl
      · rw [if_pos]
        have e2 : nI g - nI m = -(nI (m - g)) := by rw [← Int32.neg_sub, nI_sub (by omega)]
        have h5 := neg301 ⟨m - g, by omega⟩
        dsimp only at h5
        rw [e2, Int32.lt_iff_toInt_lt]
        rw [Int32.lt_iff_toInt_lt] at h5
        have z1 : (0 : Int32).toInt = 0 := rfl
        have z2 : (99 : Int32).toInt = 99 := rfl
        omega
    rw [e, sub_max (by omega) (by omega)]
    exact ⟨g - m, by omega, rfl⟩
  · rw [show (0 : Int32) / 3 = 0 from by decide, Int32.sub_zero, nI_ad, show iMin 99 (nI (g + c)) = nI (min 99 (g + c)) from iMin_n (x := 99) (by omega) (by omega), show iMax 0 (nI (min 99 (g + c))) = nI (max 0 (min 99 (g + c))) from iMax_n (x := 0) (by omega) (by omega)]
    exact ⟨_, by omega, rfl⟩
theorem RI.w145 {b : Nat} {ml sn : Int32} (hm : MSn ml sn) : ∀ (k i : Nat) (Y : SM), RI A Y N → i + k ≤ cn A 1 → RI A (l_Sim_weather_145 A b ml sn k i Y) N
  | 0, _, _, h, _ => h
  | k + 1, i, Y, h, hi => by
    have hr : i < cn A 1 := by omega
    have hR := h.2 1 i (by decide) hr
    obtain ⟨h1, ⟨d, o, e1, d1, d2, e2, o3, hs⟩, h5⟩ := hR
    unfold l_Sim_weather_145
    by_cases c0 : sm_v Y 1 i 0 = nI b
    · rw [if_pos c0]
      by_cases c1 : sm_v Y 1 i 3 = 0
      · rw [if_pos c1]
        exact RI.w145 hm k (i + 1) Y h (by omega)
      · rw [if_neg c1]
        rcases hs with ⟨s1, s2⟩ | ⟨s1, -⟩
        · obtain ⟨o', ho, eo⟩ := out_ms hm (o := o) (by omega)
          rw [e2, eo, sm_v_at, sm_v_ne (k' := 1) (r' := i) (j' := 1) (fun w => absurd w.2.2 (by decide)), e1]
          by_cases c2 : o' < d
          · rw [if_pos ((nI_ltI (by omega) (by omega)).mpr c2)]
            refine RI.w145 hm k (i + 1) _ (h.set (Nat.le_refl _) ?_) (by omega)
            refine ⟨?_, ⟨d, o', ?_, d1, d2, sm_v_at, ho, Or.inl ⟨?_, c2⟩⟩, ?_⟩
            · rw [sm_v_ne (fun w => absurd w.2.2 (by decide))]
              exact h1
            · rw [sm_v_ne (fun w => absurd w.2.2 (by decide))]
              exact e1
            · rw [sm_v_ne (fun w => absurd w.2.2 (by decide))]
              exact s1
            · rw [sm_v_ne (j' := 5) (fun w => absurd w.2.2 (by decide)), sm_v_ne (j' := 4) (fun w => absurd w.2.2 (by decide))]
              exact h5
          · rw [if_neg (fun w => c2 ((nI_ltI (by omega) (by omega)).mp w))]
            refine RI.w145 hm k (i + 1) _ (h.of rfl (Nat.le_refl _) (fun k' r' _ _ => ?_)) (by omega)
            by_cases e : k' = 1 ∧ r' = i
            · refine Or.inr ?_
              rw [e.1, e.2]
              refine ⟨?_, ⟨d, o', ?_, d1, d2, ?_, ho, Or.inr ⟨sm_v_at, by omega⟩⟩, ?_⟩
              · rw [sm_v_ne (fun w => absurd w.2.2 (by decide)), sm_v_ne (fun w => absurd w.2.2 (by decide))]
                exact h1
              · rw [sm_v_ne (fun w => absurd w.2.2 (by decide)), sm_v_ne (fun w => absurd w.2.2 (by decide))]
                exact e1
              · rw [sm_v_ne (fun w => absurd w.2.2 (by decide)), sm_v_at]
              · rw [sm_v_ne (j' := 5) (fun w => absurd w.2.2 (by decide)), sm_v_ne (j' := 5) (fun w => absurd w.2.2 (by decide)), sm_v_ne (j' := 4) (fun w => absurd w.2.2 (by decide)), sm_v_ne (j' := 4) (fun w => absurd w.2.2 (by decide))]
                exact h5
            · exact Or.inl ((sm_row_ne e).trans (sm_row_ne e))
        · exact absurd s1 c1
    · rw [if_neg c0]
      exact RI.w145 hm k (i + 1) Y h (by omega)
theorem RI.w230 {b : Nat} {ml sn : Int32} (hm : MSn ml sn) : ∀ (k i : Nat) (Y : SM), RI A Y N → i + k ≤ cn A 2 → RI A (l_Sim_weather_230 A b ml sn k i Y) N
  | 0, _, _, h, _ => h
  | k + 1, i, Y, h, hi => by
    have hr : i < cn A 2 := by omega
    have hR := h.2 2 i (by decide) hr
    obtain ⟨h1, ⟨g, e1, g1⟩, h3⟩ := hR
    unfold l_Sim_weather_230
    by_cases c0 : sm_v Y 2 i 0 = nI b
    · rw [if_pos c0]
      obtain ⟨g', hg, eg⟩ := br_ms hm g1
      rw [e1, eg]
      refine RI.w230 hm k (i + 1) _ (h.set (Nat.le_refl _) ?_) (by omega)
      refine ⟨?_, ⟨g', sm_v_at, hg⟩, ?_⟩
      · rw [sm_v_ne (fun w => absurd w.2.2 (by decide))]
        exact h1
      · rw [sm_v_ne (j' := 2) (fun w => absurd w.2.2 (by decide)), sm_v_ne (j' := 3) (fun w => absurd w.2.2 (by decide))]
        exact h3
    · rw [if_neg c0]
      exact RI.w230 hm k (i + 1) Y h (by omega)
theorem RI.w131 {b : Nat} {ml sn : Int32} (hm : MSn ml sn) (h : RI A Y N) : RI A (g_Sim_weather_131 A Y b ml sn) N := RI.w230 hm _ _ _ (RI.w145 hm _ _ _ h (by omega)) (by omega)
theorem RI.weather (h : RI A Y N) {b : Nat} (hb : b < cn A 0) : RI A (s_Sim_weather A Y b) (N + 1) := by
  obtain ⟨w, hw, hw3⟩ := h.1 (sm_dy Y % 8) (Nat.mod_lt _ (by decide))
  have hR := h.2 0 b (by decide) hb
  obtain ⟨⟨hgt, hh, hh3⟩, ⟨s, hs, hs3⟩, ⟨c, ec, hc⟩⟩ := hR
  have e300 : (300 : Int32) - nI s = nI (300 - s) := nI_sub (a := 300) hs3
  have hrow : ∀ {s' : Nat}, s' ≤ 300 → RI A (sm_set Y 0 b 1 (nI s')) (N + 1) := fun {s'} q => by
    refine h.set (by omega) ⟨⟨hgt, ?_, hh3⟩, ⟨s', sm_v_at, q⟩, ⟨c, ?_, by omega⟩⟩
    · rw [sm_v_ne (fun w => absurd w.2.2 (by decide))]
      exact hh
    · rw [sm_v_ne (fun w => absurd w.2.2 (by decide))]
      exact ec
  unfold s_Sim_weather
  rw [hw, hh]
  by_cases hc1 : w ≤ hgt
  · have its : nI w - nI hgt = -(nI (hgt - w)) := by rw [← Int32.neg_sub, nI_sub hc1]
    obtain ⟨q1, q2, q3, -, -⟩ := neg31 ⟨hgt - w, by omega⟩
    dsimp only at q1 q2 q3
    rw [its, if_pos q1]
    have hg : g_Sim_weather_33 A Y b (-(nI (hgt - w))) 0 = g_Sim_weather_79 A Y b 0 (nI (min ((hgt - w) / 2) (300 - s))) := by
      have hg2 : g_Sim_weather_33 A Y b (-(nI (hgt - w))) 0 = g_Sim_weather_46 A Y b 0 (nI ((hgt - w) / 2)) := by
        unfold g_Sim_weather_33
        by_cases q : hgt - w = 0
        · rw [if_pos (q2.mpr q), q]
          rfl
        · rw [if_neg (fun f => q (q2.mp f)), q3]
      rw [hg2]
      unfold g_Sim_weather_46
      rw [hs, e300]
      by_cases q : (hgt - w) / 2 ≤ 300 - s
      · rw [if_pos (nI_le q (by omega)), Nat.min_eq_left q]
      · rw [if_neg (nI_ge (by omega) (by omega)), Nat.min_eq_right (by omega)]
    rw [hg]
    generalize hm : min ((hgt - w) / 2) (300 - s) = m
    unfold g_Sim_weather_79 g_Sim_weather_113
    rw [hs, nI_ad, Int32.sub_zero, if_pos (show (0 : Int32) ≤ nI (s + m) from nI_le (a := 0) (by omega) (by omega)), if_pos (show (0 : Int32) ≤ nI (s + m) from nI_le (a := 0) (by omega) (by omega))]
    exact RI.w131 (Or.inr ⟨m, by omega, rfl, rfl⟩) (hrow (by omega))
  · have its : nI w - nI hgt = nI (w - hgt) := nI_sub (by omega)
    obtain ⟨-, -, -, q4, q5⟩ := neg31 ⟨w - hgt, by omega⟩
    dsimp only at q4 q5
    have hn0 : ¬ nI (w - hgt) ≤ 0 := show ¬ nI (w - hgt) ≤ nI 0 from nI_ge (by omega) (by omega)
    rw [its, if_neg hn0, q5]
    unfold g_Sim_weather_33 g_Sim_weather_46
    rw [if_pos (show (0 : Int32) ≤ nI (w - hgt) from nI_le (a := 0) (by omega) (by omega)), hs, e300, if_pos (show (0 : Int32) ≤ nI (300 - s) from nI_le (a := 0) (by omega) (by omega))]
    generalize hm : w - hgt = m
    have hms : MSn (nI (3 * m)) 0 := Or.inl ⟨m, by omega, rfl, rfl⟩
    unfold g_Sim_weather_79 g_Sim_weather_113
    rw [hs, Int32.add_zero]
    by_cases q : 3 * m ≤ s
    · rw [nI_sub q, if_pos (show (0 : Int32) ≤ nI (s - 3 * m) from nI_le (a := 0) (by omega) (by omega)), if_pos (show (0 : Int32) ≤ nI (s - 3 * m) from nI_le (a := 0) (by omega) (by omega))]
      exact RI.w131 hms (hrow (by omega))
    · have el : nI s - nI (3 * m) = -(nI (3 * m - s)) := by rw [← Int32.neg_sub, nI_sub (by omega)]
      have hneg : ¬ (0 : Int32) ≤ nI s - nI (3 * m) := by
        rw [el]
        intro f
        have := neg91 ⟨3 * m - s, by omega⟩ f
        dsimp only at this
        omega
      rw [if_neg hneg, if_neg hneg, sm_v_ne (k' := 0) (j' := 2) (j := 1) (fun w => absurd w.2.2 (by decide)), ec, show nI c - (nI s - nI (3 * m)) = nI (c + (3 * m - s)) from by rw [Int32.sub_eq_add_neg, Int32.neg_sub, nI_sub (by omega), nI_ad]]
      refine RI.w131 hms (h.of rfl (by omega) (fun k' r' _ _ => ?_))
      by_cases e : k' = 0 ∧ r' = b
      · refine Or.inr ?_
        rw [e.1, e.2]
        refine ⟨⟨hgt, ?_, hh3⟩, ⟨0, ?_, by omega⟩, ⟨_, sm_v_at, by omega⟩⟩
        · rw [sm_v_ne (fun w => absurd w.2.2 (by decide)), sm_v_ne (fun w => absurd w.2.2 (by decide))]
          exact hh
        · rw [sm_v_ne (fun w => absurd w.2.2 (by decide)), sm_v_at]
          rfl
      · exact Or.inl ((sm_row_ne e).trans (sm_row_ne e))
end Ri
