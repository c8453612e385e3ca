/-! bands over a day -/
/-- bands, warmths and the day stay -/
def SB0 (Y' Y : SM) : Prop := (∀ r c, sm_v Y' 0 r c = sm_v Y 0 r c) ∧ sm_wa Y' = sm_wa Y ∧ sm_dy Y' = sm_dy Y
section Bd
variable {A : AD} {Y : SM} {N : Nat}
theorem SB0.rf : SB0 Y Y := ⟨fun _ _ => rfl, rfl, rfl⟩
theorem SB0.tr {Y1 Y2 Y3 : SM} (a : SB0 Y1 Y2) (b : SB0 Y2 Y3) : SB0 Y1 Y3 := ⟨fun r c => (a.1 r c).trans (b.1 r c), a.2.1.trans b.2.1, a.2.2.trans b.2.2⟩
theorem SB0.set {k r j : Nat} {x : Int32} (h : k ≠ 0) : SB0 (sm_set Y k r j x) Y := ⟨fun _ _ => sm_v_ne (fun w => h w.1.symm), rfl, rfl⟩
theorem sb145 {b : Nat} {ml sn : Int32} : ∀ (k i : Nat) (Y : SM), SB0 (l_Sim_weather_145 A b ml sn k i Y) Y
  | 0, _, _ => SB0.rf
  | k + 1, i, Y => by
    unfold l_Sim_weather_145
    (repeat' split) <;> first | exact sb145 _ _ _ | exact (sb145 _ _ _).tr (SB0.set (by decide)) | exact (sb145 _ _ _).tr ((SB0.set (by decide)).tr (SB0.set (by decide)))
theorem sb230 {b : Nat} {ml sn : Int32} : ∀ (k i : Nat) (Y : SM), SB0 (l_Sim_weather_230 A b ml sn k i Y) Y
  | 0, _, _ => SB0.rf
  | k + 1, i, Y => by
    unfold l_Sim_weather_230
    (repeat' split) <;> first | exact sb230 _ _ _ | exact (sb230 _ _ _).tr (SB0.set (by decide))
theorem sb131 {b : Nat} {ml sn : Int32} : SB0 (g_Sim_weather_131 A Y b ml sn) Y := (sb230 _ _ _).tr (sb145 _ _ _)
theorem sb57 {t j : Nat} : ∀ (k : Nat) (lk : Int32) (Y : SM), SB0 (l_Sim_eats_57 A t j k lk Y).2 Y
  | 0, _, _ => SB0.rf
  | k + 1, lk, Y => by
    unfold l_Sim_eats_57
    (repeat' split) <;> first | exact SB0.rf | exact (sb57 _ _ _).tr (SB0.set (by decide))
theorem sb43 {t : Nat} : ∀ (k i : Nat) (lk : Int32) (Y : SM), SB0 (l_Sim_eats_43 A t k i lk Y).2 Y
  | 0, _, _, _ => SB0.rf
  | k + 1, i, lk, Y => (sb43 k (i + 1) _ _).tr (sb57 _ _ _)
theorem sbE {t : Nat} : SB0 (s_Sim_eats A Y t) Y := by
  unfold s_Sim_eats
  (repeat' split) <;> first | exact (SB0.set (by decide)).tr ((sb43 _ _ _ _).tr (SB0.set (by decide))) | exact ((SB0.set (by decide)).tr (SB0.set (by decide))).tr ((sb43 _ _ _ _).tr (SB0.set (by decide)))
theorem sb108 : ∀ (k i : Nat) (Y : SM), SB0 (l_Sim_pass_108 A k i Y) Y
  | 0, _, _ => SB0.rf
  | k + 1, i, Y => by
    unfold l_Sim_pass_108
    (repeat' split) <;> first | exact (sb108 _ _ _).tr sbE | exact sb108 _ _ _
theorem sb286 : ∀ (k i : Nat) (Y : SM), SB0 (l_Sim_pass_286 A k i Y) Y
  | 0, _, _ => SB0.rf
  | k + 1, i, Y => (sb286 k (i + 1) _).tr (SB0.set (by decide))
theorem sbR0 {m i : Nat} : SB0 (rdY Y m i) Y := by
  unfold rdY
  exact (SB0.set (by decide)).tr ((SB0.set (by decide)).tr (SB0.set (by decide)))
theorem sbR {m i : Nat} {x : Int32} : SB0 (sm_rd' (rdY Y m i) x) Y := ⟨fun r c => (rd_v (Y := rdY Y m i) (x := x)).trans ((sbR0 (Y := Y) (m := m) (i := i)).1 r c), (sbR0 (Y := Y) (m := m) (i := i)).2.1, (sbR0 (Y := Y) (m := m) (i := i)).2.2⟩
theorem sbFa {t c : Nat} : SB0 (fallY Y t c) Y := ⟨fun r c' => by
  show sm_v (fall2 (fall1 Y c) t) 0 r c' = _
  unfold fall2 fall1
  rw [sm_v_ne (fun w => absurd w.1 (by decide)), sm_v_ne (fun w => absurd w.1 (by decide)), sm_v_ne (fun w => absurd w.1 (by decide)), sm_v_ne (fun w => absurd w.1 (by decide))], rfl, rfl⟩
theorem sb184 {m : Nat} : ∀ (k i : Nat) (Y : SM), SB0 (l_Sim_pass_184 A m k i Y) Y
  | 0, _, _ => SB0.rf
  | k + 1, i, Y => by
    rw [read_step]
    (repeat' split) <;> first | exact sb184 k (i + 1) Y | exact (sb184 k (i + 1) _).tr sbR
theorem sb156 : ∀ (k i : Nat) (Y : SM), SB0 (l_Sim_pass_156 A k i Y) Y
  | 0, _, _ => SB0.rf
  | k + 1, i, Y => (sb156 k (i + 1) _).tr (sb184 _ _ _)
theorem sbX : ∀ (l : List Nat) (Y : SM), SB0 (crossF Y l) Y
  | [], _ => SB0.rf
  | _ :: l, _ => (sbX l _).tr (SB0.set (by decide))
theorem sbG {t : Nat} {x : Int32} : SB0 (s_Sim_goes A Y t x).2 Y := by
  unfold s_Sim_goes
  by_cases h0 : s_Sim_can A Y t x = 0
  · rw [if_pos h0]
    exact SB0.rf
  rw [if_neg h0]
  cases wayO A Y t x with
  | none => exact SB0.rf
  | some l =>
    show SB0 (goesL (sm_set Y 4 t 7 1) t x l) Y
    unfold goesL
    cases fallF (sm_set Y 4 t 7 1) t l with
    | some f => exact sbFa.tr (SB0.set (by decide))
    | none => exact ((SB0.set (by decide)).tr (sbX l _)).tr (SB0.set (by decide))
theorem sbP {t c : Nat} : SB0 (s_Sim_probes Y t c).2 Y := by
  unfold s_Sim_probes
  (repeat' split) <;> first | exact SB0.rf | exact (SB0.set (by decide)).tr ((SB0.set (by decide)).tr (SB0.set (by decide)))
theorem sbF29 {t : Nat} {w : Int32} : ∀ (k i : Nat), SB0 (l_Sim_fills_29 A Y t w k i).2 Y
  | 0, _ => SB0.rf
  | k + 1, i => by
    rw [fills_step]
    (repeat' split) <;> first | exact sbF29 _ _ | exact (SB0.set (by decide)).tr (SB0.set (by decide))
theorem sbF {t : Nat} {w : Int32} : SB0 (s_Sim_fills A Y t w).2 Y := by
  unfold s_Sim_fills
  (repeat' split) <;> first | exact SB0.rf | exact sbF29 _ _
theorem sbD {s : Nat} : SB0 (s_Sim_drills A Y s).2 Y := by
  unfold s_Sim_drills
  by_cases c : sm_v Y 1 s 3 = 1
  · rw [if_pos c]
    exact SB0.rf
  · rw [if_neg c]
    rcases drill_loop (A := A) (Y := Y) (k0 := s) (cn A 4) 0 with ⟨-, q⟩ | ⟨-, q⟩ <;> rw [q]
    · exact SB0.rf
    · exact (SB0.set (by decide)).tr (SB0.set (by decide))
theorem sbC {r : Nat} : SB0 (s_Sim_carries A Y r).2 Y := by
  unfold s_Sim_carries
  by_cases h0 : s_Sim_holds A Y r = 0
  · rw [if_pos h0]
    exact SB0.rf
  rw [if_neg h0]
  by_cases e0 : sm_v Y 5 r 0 = 0
  · rw [if_pos e0]
    exact sbG
  rw [if_neg e0]
  by_cases e1 : sm_v Y 5 r 0 = 1
  · rw [if_pos e1]
    exact sbG
  rw [if_neg e1]
  by_cases e2 : sm_v Y 5 r 0 = 2
  · rw [if_pos e2]
    exact sbP
  rw [if_neg e2]
  by_cases e3 : sm_v Y 5 r 0 = 3
  · rw [if_pos e3]
    exact sbF
  rw [if_neg e3]
  exact sbD
theorem sbOrd : ∀ (k i : Nat) (Y : SM), SB0 (ordF A k i Y) Y
  | 0, _, _ => SB0.rf
  | k + 1, i, Y => (sbOrd k (i + 1) _).tr ⟨fun r c => (sbC (A := A) (Y := Y) (r := i)).1 r c, (sbC (A := A) (Y := Y) (r := i)).2.1, (sbC (A := A) (Y := Y) (r := i)).2.2⟩
/-- weather in a band: what comes, what goes -/
theorem weather_row {b w g s c : Nat} (hw : sm_wa Y (sm_dy Y % 8) = nI w) (hw3 : w ≤ 30) (hh : sm_v Y 0 b 0 = nI g) (hh3 : g ≤ 30) (hs : sm_v Y 0 b 1 = nI s) (hs3 : s ≤ 300) (ec : sm_v Y 0 b 2 = nI c) : ∃ s' c', sm_v (s_Sim_weather A Y b) 0 b 1 = nI s' ∧ sm_v (s_Sim_weather A Y b) 0 b 2 = nI c' ∧ s' ≤ 300 ∧ ((g < w ∧ s + c' = s' + c + 3 * (w - g) ∧ (0 < s' → c' = c)) ∨ (w ≤ g ∧ s ≤ s' ∧ c' = c)) := by
  have e300 : (300 : Int32) - nI s = nI (300 - s) := nI_sub (a := 300) hs3
  unfold s_Sim_weather
  rw [hw, hh]
  by_cases hc1 : w ≤ g
  · have its : nI w - nI g = -(nI (g - w)) := by rw [← Int32.neg_sub, nI_sub hc1]
    obtain ⟨q1, q2, q3, -, -⟩ := neg31 ⟨g - w, by omega⟩
    dsimp only at q1 q2 q3
    rw [its, if_pos q1]
    have hg : g_Sim_weather_33 A Y b (-(nI (g - w))) 0 = g_Sim_weather_79 A Y b 0 (nI (min ((g - w) / 2) (300 - s))) := by
      have hg2 : g_Sim_weather_33 A Y b (-(nI (g - w))) 0 = g_Sim_weather_46 A Y b 0 (nI ((g - w) / 2)) := by
        unfold g_Sim_weather_33
        by_cases q : g - w = 0
        · rw [if_pos (q2.mpr q), q]
          rfl
        · rw [if_neg (fun f => q (q2.mp f)), q3]
      rw [hg2]
      unfold g_Sim_weather_46
      rw [hs, e300]
      by_cases q : (g - w) / 2 ≤ 300 - s
      · rw [if_pos (nI_le q (by omega)), Nat.min_eq_left q]
      · rw [if_neg (nI_ge (by omega) (by omega)), Nat.min_eq_right (by omega)]
    rw [hg]
    generalize hm : min ((g - w) / 2) (300 - s) = m
    unfold g_Sim_weather_79 g_Sim_weather_113
    rw [hs, nI_ad, Int32.sub_zero, if_pos (show (0 : Int32) ≤ nI (s + m) from nI_le (a := 0) (by omega) (by omega)), if_pos (show (0 : Int32) ≤ nI (s + m) from nI_le (a := 0) (by omega) (by omega))]
    refine ⟨s + m, c, (sb131.1 b 1).trans sm_v_at, (sb131.1 b 2).trans ((sm_v_ne (fun w => absurd w.2.2 (by decide))).trans ec), by omega, Or.inr ⟨hc1, by omega, rfl⟩⟩
  · have its : nI w - nI g = nI (w - g) := nI_sub (by omega)
    obtain ⟨-, -, -, q4, q5⟩ := neg31 ⟨w - g, by omega⟩
    dsimp only at q4 q5
    have hn0 : ¬ nI (w - g) ≤ 0 := show ¬ nI (w - g) ≤ nI 0 from nI_ge (by omega) (by omega)
    rw [its, if_neg hn0, q5]
    unfold g_Sim_weather_33 g_Sim_weather_46
    rw [if_pos (show (0 : Int32) ≤ nI (w - g) from nI_le (a := 0) (by omega) (by omega)), hs, e300, if_pos (show (0 : Int32) ≤ nI (300 - s) from nI_le (a := 0) (by omega) (by omega))]
    generalize hm : w - g = m
    unfold g_Sim_weather_79 g_Sim_weather_113
    rw [hs, Int32.add_zero]
    by_cases q : 3 * m ≤ s
    · rw [nI_sub q, if_pos (show (0 : Int32) ≤ nI (s - 3 * m) from nI_le (a := 0) (by omega) (by omega)), if_pos (show (0 : Int32) ≤ nI (s - 3 * m) from nI_le (a := 0) (by omega) (by omega))]
      exact ⟨s - 3 * m, c, (sb131.1 b 1).trans sm_v_at, (sb131.1 b 2).trans ((sm_v_ne (fun w => absurd w.2.2 (by decide))).trans ec), by omega, Or.inl ⟨by omega, by omega, fun _ => rfl⟩⟩
    · have el : nI s - nI (3 * m) = -(nI (3 * m - s)) := by rw [← Int32.neg_sub, nI_sub (by omega)]
      have hneg : ¬ (0 : Int32) ≤ nI s - nI (3 * m) := by
        rw [el]
        intro f
        have := neg91 ⟨3 * m - s, by omega⟩ f
        dsimp only at this
        omega
      rw [if_neg hneg, if_neg hneg, sm_v_ne (k' := 0) (j' := 2) (j := 1) (fun w => absurd w.2.2 (by decide)), ec, show nI c - (nI s - nI (3 * m)) = nI (c + (3 * m - s)) from by rw [Int32.sub_eq_add_neg, Int32.neg_sub, nI_sub (by omega), nI_ad]]
      exact ⟨0, c + (3 * m - s), (sb131.1 b 1).trans ((sm_v_ne (fun w => absurd w.2.2 (by decide))).trans sm_v_at), (sb131.1 b 2).trans sm_v_at, by omega, Or.inl ⟨by omega, by omega, fun w => absurd w (by omega)⟩⟩
end Bd
