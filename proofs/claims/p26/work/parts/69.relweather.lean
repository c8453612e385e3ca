/-! the camp and the law's own glacier: weather -/
section Pw
variable {A : AD} {σ : GL} {Y : SM}
def S01 (A : AD) (Y : SM) : Prop := ∀ r, r < cn A 1 → sm_v Y 1 r 3 = 0 ∨ sm_v Y 1 r 3 = 1
theorem i_asm (a b c : Int32) : a + b - c = a + (b - c) := by rw [Int32.sub_eq_add_neg, Int32.sub_eq_add_neg, Int32.add_assoc]
theorem iMin_sym {a b : Int32} : iMin a b = iMin b a := by
  unfold iMin
  by_cases h : b < a
  · rw [if_pos h, if_neg (by rw [Int32.lt_iff_toInt_lt]; rw [Int32.lt_iff_toInt_lt] at h; omega)]
  · rw [if_neg h]
    by_cases h2 : a < b
    · rw [if_pos h2]
    · rw [if_neg h2]
      apply Int32.toInt_inj.mp
      rw [Int32.lt_iff_toInt_lt] at h h2
      omega
theorem stakes_eq (hA : AOk A) {b : Nat} {ml sn : Int32} : ∀ (k i : Nat) (σ : GL) (Y : SM), PM A σ Y → S01 A Y → i + k ≤ cn A 1 → PM A (l_Glacier_moveStakes_2 (nI b) (ml - sn) k i σ) (l_Sim_weather_145 A b ml sn k i Y) ∧ S01 A (l_Sim_weather_145 A b ml sn k i Y)
  | 0, _, _, _, hP, h1, _ => ⟨hP, h1⟩
  | k + 1, i, σ, Y, hP, h1, hi => by
    have hr : i < cn A 1 := by omega
    have e1 := hP.set hA (k := 1) (r := i) (c := 2) (v := iMax 0 (sm_v Y 1 i 2 + (ml - sn))) (by decide) hr (by decide) (by decide)
    unfold l_Glacier_moveStakes_2 l_Sim_weather_145
    rw [hP.get hA (k := 1) (c := 0) (by decide) hr (by decide) (by decide), hP.get hA (k := 1) (c := 3) (by decide) hr (by decide) (by decide), hP.get hA (k := 1) (c := 2) (by decide) hr (by decide) (by decide), i_asm, e1.get hA (k := 1) (c := 1) (by decide) hr (by decide) (by decide), sm_v_at]
    by_cases c0 : sm_v Y 1 i 0 = nI b
    · rw [if_pos c0, if_pos c0]
      rcases h1 i hr with c1 | c1
      · rw [c1, if_neg (show ¬ (0 : Int32) = 1 by decide), if_pos (show (0 : Int32) = 0 from rfl)]
        exact stakes_eq hA k (i + 1) σ Y hP h1 (by omega)
      · rw [c1, if_pos (show (1 : Int32) = 1 from rfl), if_neg (show ¬ (1 : Int32) = 0 by decide)]
        have s1 : S01 A (sm_set Y 1 i 2 (iMax 0 (sm_v Y 1 i 2 + (ml - sn)))) := fun r hr' => by
          rw [sm_v_ne (fun w => absurd w.2.2 (by decide))]
          exact h1 r hr'
        by_cases c2 : iMax 0 (sm_v Y 1 i 2 + (ml - sn)) < sm_v (sm_set Y 1 i 2 (iMax 0 (sm_v Y 1 i 2 + (ml - sn)))) 1 i 1
        · rw [if_pos c2, if_neg (by rw [Int32.le_iff_toInt_le]; rw [Int32.lt_iff_toInt_lt] at c2; omega)]
          refine stakes_eq hA k (i + 1) _ _ ?_ s1 (by omega)
          refine PM.of (e1.set hA (k := 1) (r := i) (c := 3) (v := 1) (by decide) hr (by decide) (by decide)) (fun k' r' c' _ _ _ => ?_) rfl rfl rfl
          rw [sm_v_set (k := 1) (r := i) (j := 3)]
          by_cases q : k' = 1 ∧ r' = i ∧ c' = 3
          · rw [if_pos q, q.1, q.2.1, q.2.2, sm_v_ne (fun w => absurd w.2.2 (by decide)), c1]
          · rw [if_neg q]
        · rw [if_neg c2, if_pos (by rw [Int32.le_iff_toInt_le]; rw [Int32.lt_iff_toInt_lt] at c2; omega)]
          refine stakes_eq hA k (i + 1) _ _ (e1.set hA (by decide) hr (by decide) (by decide)) (fun r hr' => ?_) (by omega)
          rw [sm_v_set]
          by_cases q : 1 = 1 ∧ r = i ∧ 3 = 3
          · rw [if_pos q]
            exact Or.inl rfl
          · rw [if_neg q]
            exact s1 r hr'
    · rw [if_neg c0, if_neg c0]
      exact stakes_eq hA k (i + 1) σ Y hP h1 (by omega)
theorem bridges_eq (hA : AOk A) {b : Nat} {ml sn x : Int32} (hx : x = sn - ml / 3) : ∀ (k i : Nat) (σ : GL) (Y : SM), PM A σ Y → i + k ≤ cn A 2 → PM A (l_Glacier_moveBridges_2 (nI b) x k i σ) (l_Sim_weather_230 A b ml sn k i Y)
  | 0, _, _, _, hP, _ => hP
  | k + 1, i, σ, Y, hP, hi => by
    have hr : i < cn A 2 := by omega
    unfold l_Glacier_moveBridges_2 l_Sim_weather_230
    rw [hP.get hA (k := 2) (c := 0) (by decide) hr (by decide) (by decide), hP.get hA (k := 2) (c := 1) (by decide) hr (by decide) (by decide), i_asm, ← hx, iMin_sym]
    by_cases c0 : sm_v Y 2 i 0 = nI b
    · rw [if_pos c0, if_pos c0]
      exact bridges_eq hA hx k (i + 1) _ _ (hP.set hA (by decide) hr (by decide) (by decide)) (by omega)
    · rw [if_neg c0, if_neg c0]
      exact bridges_eq hA hx k (i + 1) _ _ hP (by omega)
theorem moved_eq (hP : PM A σ Y) (hA : AOk A) (h1 : S01 A Y) {b : Nat} {ml sn d x : Int32} (hd : d = ml - sn) (hx : x = sn - ml / 3) : PM A (s_Glacier_moveBridges (s_Glacier_moveStakes σ (nI b) d) (nI b) x) (g_Sim_weather_131 A Y b ml sn) ∧ S01 A (g_Sim_weather_131 A Y b ml sn) := by
  subst hd
  unfold s_Glacier_moveBridges s_Glacier_moveStakes g_Sim_weather_131
  rw [hP.1 1 (by decide)]
  obtain ⟨q1, q2⟩ := stakes_eq hA (b := b) (ml := ml) (sn := sn) (cn A 1) 0 σ Y hP h1 (by omega)
  rw [q1.1 2 (by decide)]
  refine ⟨bridges_eq hA hx (cn A 2) 0 _ _ q1 (by omega), ?_⟩
  generalize l_Sim_weather_145 A b ml sn (cn A 1) 0 Y = Y1 at q2
  have : ∀ (k i : Nat) (Y : SM), S01 A Y → S01 A (l_Sim_weather_230 A b ml sn k i Y) := by
    intro k
    induction k with
    | zero => exact fun i Y h => h
    | succ k ih =>
      intro i Y h
      unfold l_Sim_weather_230
      by_cases c0 : sm_v Y 2 i 0 = nI b
      · rw [if_pos c0]
        refine ih _ _ (fun r hr => ?_)
        rw [sm_v_ne (fun w => absurd w.1 (by decide))]
        exact h r hr
      · rw [if_neg c0]
        exact ih _ _ h
  exact this _ _ _ q2
theorem neg91 : ∀ d : Fin 91, 0 ≤ -(nI d.val) → d.val = 0 := by decide +kernel
theorem neg31 : ∀ d : Fin 31, (-(nI d.val) ≤ 0) ∧ (0 ≤ -(nI d.val) ↔ d.val = 0) ∧ (-(-(nI d.val))) / 2 = nI (d.val / 2) ∧ (3 * nI d.val) / 3 = nI d.val ∧ 3 * nI d.val = nI (3 * d.val) := by decide +kernel
theorem weather_eq (hP : PM A σ Y) (hA : AOk A) (h1 : S01 A Y) {b w h s : Nat} (hb : b < cn A 0) (hw : sm_wa Y (sm_dy Y % 8) = nI w) (hw3 : w ≤ 30) (hh : sm_v Y 0 b 0 = nI h) (hh3 : h ≤ 30) (hs : sm_v Y 0 b 1 = nI s) (hs3 : s ≤ 300) : PM A (s_Glacier_weather σ (nI b)) (s_Sim_weather A Y b) ∧ S01 A (s_Sim_weather A Y b) := by
  have e300 : (300 : Int32) - nI s = nI (300 - s) := nI_sub (a := 300) hs3
  unfold s_Glacier_weather s_Sim_weather
  rw [today_eq hP, hP.get hA (k := 0) (c := 0) (by decide) hb (by decide) (by decide), hP.get hA (k := 0) (c := 1) (by decide) hb (by decide) (by decide), hw, hh, hs, e300]
  by_cases hc : w ≤ h
  · -- it snows, or nothing
    have its : nI w - nI h = -(nI (h - w)) := by rw [← Int32.neg_sub, nI_sub hc]
    obtain ⟨q1, q2, q3, -, -⟩ := neg31 ⟨h - w, by omega⟩
    dsimp only at q1 q2 q3
    rw [its, if_pos q1, if_pos q1, q3, iMin_n (by omega) (by omega)]
    have hg : g_Sim_weather_33 A Y b (-(nI (h - w))) 0 = g_Sim_weather_79 A Y b 0 (nI (min ((h - w) / 2) (300 - s))) := by
      have hg2 : g_Sim_weather_33 A Y b (-(nI (h - w))) 0 = g_Sim_weather_46 A Y b 0 (nI ((h - w) / 2)) := by
        unfold g_Sim_weather_33
        by_cases q : h - w = 0
        · rw [if_pos (q2.mpr q), q]
          rfl
        · rw [if_neg (fun f => q (q2.mp f)), q3]
      rw [hg2]
      unfold g_Sim_weather_46
      rw [hs, e300]
      by_cases q : (h - w) / 2 ≤ 300 - s
      · rw [if_pos (nI_le q (by omega)), Nat.min_eq_left q]
      · rw [if_neg (nI_ge (by omega) (by omega)), Nat.min_eq_right (by omega)]
    rw [hg]
    generalize hm : min ((h - w) / 2) (300 - s) = m
    have hm2 : m ≤ 300 - s := by omega
    unfold g_Sim_weather_79 g_Sim_weather_113
    rw [hs, nI_ad, Int32.sub_zero, if_pos (show (0 : Int32) ≤ nI (s + m) from nI_le (a := 0) (by omega) (by omega)), if_pos (show (0 : Int32) ≤ nI (s + m) from nI_le (a := 0) (by omega) (by omega))]
    have e1 := hP.add hA (k := 0) (r := b) (c := 1) (v := nI m) (by decide) hb (by decide) (by decide)
    rw [hs, nI_ad] at e1
    refine moved_eq e1 hA (fun r hr => ?_) (Int32.zero_sub _).symm ?_
    · rw [sm_v_ne (fun w => absurd w.1 (by decide))]
      exact h1 r hr
    · rw [show (0 : Int32) / 3 = 0 from by decide, Int32.sub_zero]
  · -- it melts
    have its : nI w - nI h = nI (w - h) := nI_sub (by omega)
    obtain ⟨-, -, -, q4, q5⟩ := neg31 ⟨w - h, by omega⟩
    dsimp only at q4 q5
    have hn0 : ¬ nI (w - h) ≤ 0 := show ¬ nI (w - h) ≤ nI 0 from nI_ge (by omega) (by omega)
    rw [its, if_neg hn0, if_neg hn0, q5, iMin_n (by omega) (by omega)]
    rw [q5] at q4
    unfold g_Sim_weather_33 g_Sim_weather_46
    rw [if_pos (show (0 : Int32) ≤ nI (w - h) from nI_le (a := 0) (by omega) (by omega)), hs, e300, if_pos (show (0 : Int32) ≤ nI (300 - s) from nI_le (a := 0) (by omega) (by omega))]
    generalize hm : w - h = m at q4 ⊢
    unfold g_Sim_weather_79 g_Sim_weather_113
    rw [hs, Int32.add_zero]
    have e1 := (hP.add hA (k := 0) (r := b) (c := 1) (v := -(nI (min s (3 * m)))) (by decide) hb (by decide) (by decide)).add hA (k := 0) (r := b) (c := 2) (v := nI (3 * m) - nI (min s (3 * m))) (by decide) hb (by decide) (by decide)
    rw [hs, sm_v_ne (k' := 0) (j' := 2) (j := 1) (fun w => absurd w.2.2 (by decide))] at e1
    have hS : ∀ (x : Int32), S01 A (sm_set Y 0 b 1 x) := fun x r hr => by
      rw [sm_v_ne (fun w => absurd w.1 (by decide))]
      exact h1 r hr
    by_cases q : 3 * m ≤ s
    · rw [nI_sub q, if_pos (show (0 : Int32) ≤ nI (s - 3 * m) from nI_le (a := 0) (by omega) (by omega)), if_pos (show (0 : Int32) ≤ nI (s - 3 * m) from nI_le (a := 0) (by omega) (by omega))]
      rw [Nat.min_eq_right q] at e1 ⊢
      rw [Int32.sub_self, Int32.add_zero, ← Int32.sub_eq_add_neg, nI_sub q] at e1
      rw [Int32.sub_self]
      refine moved_eq (Y := sm_set Y 0 b 1 (nI (s - 3 * m))) (PM.of e1 (fun k' r' c' _ _ _ => ?_) rfl rfl rfl) hA (hS _) (Int32.sub_zero _).symm ?_
      · rw [sm_v_set (k := 0) (r := b) (j := 2)]
        by_cases g : k' = 0 ∧ r' = b ∧ c' = 2
        · rw [if_pos g, g.1, g.2.1, g.2.2, sm_v_ne (fun w => absurd w.2.2 (by decide))]
        · rw [if_neg g]
      · rw [q4, Int32.zero_sub]
    · have el : nI s - nI (3 * m) = -(nI (3 * m - s)) := by rw [← Int32.neg_sub, nI_sub (by omega)]
      have hneg : ¬ (0 : Int32) ≤ nI s - nI (3 * m) := by
        rw [el]
        intro f
        have := neg91 ⟨3 * m - s, by omega⟩ f
        dsimp only at this
        omega
      rw [if_neg hneg, if_neg hneg, sm_v_ne (k' := 0) (j' := 2) (j := 1) (fun w => absurd w.2.2 (by decide))]
      rw [Nat.min_eq_left (by omega)] at e1 ⊢
      rw [← Int32.sub_eq_add_neg (nI s), Int32.sub_self] at e1
      rw [show sm_v Y 0 b 2 - (nI s - nI (3 * m)) = sm_v Y 0 b 2 + (nI (3 * m) - nI s) from by rw [Int32.sub_eq_add_neg, Int32.neg_sub]]
      refine moved_eq e1 hA (fun r hr => ?_) (Int32.sub_zero _).symm ?_
      · rw [sm_v_ne (fun w => absurd w.1 (by decide))]
        exact hS _ r hr
      · rw [q4, Int32.zero_sub]
end Pw
