/-! bands over a day, all of them -/
/-- weather in band j leaves the other bands, all heights, the day and its warmth -/
def WO (j : Nat) (Y' Y : SM) : Prop := (∀ b c, b ≠ j ∨ c = 0 → sm_v Y' 0 b c = sm_v Y 0 b c) ∧ sm_wa Y' = sm_wa Y ∧ sm_dy Y' = sm_dy Y
section Bx
variable {A : AD} {Y : SM} {N : Nat}
theorem WO.rf {j : Nat} : WO j Y Y := ⟨fun _ _ _ => rfl, rfl, rfl⟩
theorem WO.tr {j : Nat} {Y1 Y2 Y3 : SM} (a : WO j Y1 Y2) (b : WO j Y2 Y3) : WO j Y1 Y3 := ⟨fun r c h => (a.1 r c h).trans (b.1 r c h), a.2.1.trans b.2.1, a.2.2.trans b.2.2⟩
theorem WO.sb {j : Nat} {Y' : SM} (h : SB0 Y' Y) : WO j Y' Y := ⟨fun r c _ => h.1 r c, h.2.1, h.2.2⟩
theorem WO.set {j c : Nat} {x : Int32} (hc : c ≠ 0) : WO j (sm_set Y 0 j c x) Y := ⟨fun b d h => sm_v_ne (fun w => h.elim (fun q => q w.2.1) (fun q => hc (w.2.2.symm.trans q))), rfl, rfl⟩
theorem wo113 {j : Nat} {ml sn lf : Int32} : WO j (g_Sim_weather_113 A Y j ml sn lf) Y := by
  unfold g_Sim_weather_113
  by_cases h : 0 ≤ lf
  · rw [if_pos h]
    exact WO.sb sb131
  · rw [if_neg h]
    exact (WO.sb sb131).tr (WO.set (by decide))
theorem wo79 {j : Nat} {ml sn : Int32} : WO j (g_Sim_weather_79 A Y j ml sn) Y := by
  unfold g_Sim_weather_79
  by_cases h : 0 ≤ sm_v Y 0 j 1 + sn - ml
  · rw [if_pos h]
    exact wo113.tr (WO.set (by decide))
  · rw [if_neg h]
    exact wo113.tr (WO.set (by decide))
theorem wo46 {j : Nat} {ml sn : Int32} : WO j (g_Sim_weather_46 A Y j ml sn) Y := by
  unfold g_Sim_weather_46
  by_cases h : sn ≤ 300 - sm_v Y 0 j 1
  · rw [if_pos h]
    exact wo79
  · rw [if_neg h]
    exact wo79
theorem wo33 {j : Nat} {its ml : Int32} : WO j (g_Sim_weather_33 A Y j its ml) Y := by
  unfold g_Sim_weather_33
  by_cases h : 0 ≤ its
  · rw [if_pos h]
    exact wo46
  · rw [if_neg h]
    exact wo46
theorem woW {j : Nat} : WO j (s_Sim_weather A Y j) Y := by
  unfold s_Sim_weather
  by_cases h : sm_wa Y (sm_dy Y % 8) - sm_v Y 0 j 0 ≤ 0
  · rw [if_pos h]
    exact wo33
  · rw [if_neg h]
    exact wo33
theorem out72 {b : Nat} : ∀ (k i : Nat) (Y : SM), b < i → ∀ c, sm_v (l_Sim_pass_72 A k i Y) 0 b c = sm_v Y 0 b c
  | 0, _, _, _, _ => rfl
  | k + 1, i, Y, hb, c => (out72 k (i + 1) _ (by omega) c).trans (woW.1 b c (Or.inl (by omega)))
theorem band72 {b w g s c : Nat} : ∀ (k i : Nat) (Y : SM), sm_wa Y (sm_dy Y % 8) = nI w → w ≤ 30 → sm_v Y 0 b 0 = nI g → g ≤ 30 → sm_v Y 0 b 1 = nI s → s ≤ 300 → sm_v Y 0 b 2 = nI c → i ≤ b → b < i + k → ∃ s' c', sm_v (l_Sim_pass_72 A k i Y) 0 b 1 = nI s' ∧ sm_v (l_Sim_pass_72 A k i Y) 0 b 2 = nI c' ∧ s' ≤ 300 ∧ ((g < w ∧ s + c' = s' + c + 3 * (w - g) ∧ (0 < s' → c' = c)) ∨ (w ≤ g ∧ s ≤ s' ∧ c' = c))
  | 0, i, _, _, _, _, _, _, _, _, h1, h2 => by omega
  | k + 1, i, Y, hw, hw3, hg, hg3, hs, hs3, hc, h1, h2 => by
    by_cases e : b = i
    · subst e
      obtain ⟨s', c', e1, e2, e3⟩ := weather_row (A := A) hw hw3 hg hg3 hs hs3 hc
      exact ⟨s', c', (out72 k (b + 1) _ (by omega) 1).trans e1, (out72 k (b + 1) _ (by omega) 2).trans e2, e3⟩
    · have q := woW (A := A) (Y := Y) (j := i)
      exact band72 k (i + 1) (s_Sim_weather A Y i) (by rw [q.2.1, q.2.2]; exact hw) hw3 (by rw [q.1 b 0 (Or.inr rfl)]; exact hg) hg3 (by rw [q.1 b 1 (Or.inl e)]; exact hs) hs3 (by rw [q.1 b 2 (Or.inl e)]; exact hc) (by omega) (by omega)
/-- a band over a whole day -/
theorem band_day {b w g s c : Nat} (hb : b < cn A 0) (hw : sm_wa Y (sm_dy Y % 8) = nI w) (hw3 : w ≤ 30) (hg : sm_v Y 0 b 0 = nI g) (hg3 : g ≤ 30) (hs : sm_v Y 0 b 1 = nI s) (hs3 : s ≤ 300) (hc : sm_v Y 0 b 2 = nI c) : ∃ s' c', sm_v (dayF A Y) 0 b 1 = nI s' ∧ sm_v (dayF A Y) 0 b 2 = nI c' ∧ s' ≤ 300 ∧ ((g < w ∧ s + c' = s' + c + 3 * (w - g) ∧ (0 < s' → c' = c)) ∨ (w ≤ g ∧ s ≤ s' ∧ c' = c)) := by
  have o := sbOrd (A := A) (cn A 5) 0 Y
  obtain ⟨s', c', e1, e2, e3⟩ := band72 (A := A) (b := b) (w := w) (g := g) (s := s) (c := c) (cn A 0) 0 (ordF A (cn A 5) 0 Y) (by rw [o.2.1, o.2.2]; exact hw) hw3 ((o.1 b 0).trans hg) hg3 ((o.1 b 1).trans hs) hs3 ((o.1 b 2).trans hc) (Nat.zero_le b) (by omega)
  have r : SB0 (l_Sim_pass_286 A (cn A 4) 0 (l_Sim_pass_156 A (cn A 4) 0 (l_Sim_pass_108 A (cn A 4) 0 (l_Sim_pass_72 A (cn A 0) 0 (ordF A (cn A 5) 0 Y))))) (l_Sim_pass_72 A (cn A 0) 0 (ordF A (cn A 5) 0 Y)) := (sb286 _ _ _).tr ((sb156 _ _ _).tr (sb108 _ _ _))
  exact ⟨s', c', (r.1 b 1).trans e1, (r.1 b 2).trans e2, e3⟩
end Bx
