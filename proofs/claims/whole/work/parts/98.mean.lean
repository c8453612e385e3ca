/-! the mean -/
theorem mean_t : ∀ a, a < 16 → ∀ b, b < 100 → ∀ m, m < 5 → (FP.ddiv (FP.i2d (nI (100 * a + b))) (FP.i2d (nI (m + 1)))) &&& 0x7fffffffffffffff ≤ 0x7ff0000000000000 := by decide +kernel
theorem mean_n {s m : Nat} (hs : s < 1600) (h1 : 1 ≤ m) (h5 : m ≤ 5) : vf_n64 (FP.ddiv (FP.i2d (nI s)) (FP.i2d (nI m))) := by
  have h := mean_t (s / 100) (by omega) (s % 100) (by omega) (m - 1) (by omega)
  rw [show 100 * (s / 100) + s % 100 = s by omega, show m - 1 + 1 = m by omega] at h
  exact h
theorem snow_sum {f : Nat → Int32} : ∀ m, (∀ r, r < m → btw 0 (f r) 300) → ∃ s, sumR f m = nI s ∧ s ≤ 300 * m
  | 0, _ => ⟨0, rfl, Nat.le_refl _⟩
  | m + 1, h => by
    obtain ⟨s, s1, s2⟩ := snow_sum m (fun r hr => h r (by omega))
    obtain ⟨k, k1, -, k3⟩ := h m (by omega)
    exact ⟨s + k, by rw [sumR, s1, k1, nI_add], by omega⟩
theorem p_mean_ok : PK_p_mean RALL := by
  intro n A K σ τ T F U G P M H Y hn hR
  obtain ⟨rT, rG, rC, rR, rD, rB, rO⟩ := hR
  have c0 : sh_ha H 0 ≤ 5 := rC.1
  have g0 : gN σ 0 = sh_ha H 0 := rG.n0
  have hs : gSum σ 0 1 = sumR (sx_sn Y) (sh_ha H 0) := gSum_s rG.n0 (fun r hr => (rG.bands hr).2.1)
  have hm : l_Model_mean_9 (mo_th' M 0) H Y (sh_ha H 0) 0 0 = sumR (sx_sn Y) (sh_ha H 0) := loop_sum (g := l_Model_mean_9 (mo_th' M 0) H Y) (fun _ _ => rfl) (fun _ _ _ => rfl)
  obtain ⟨s, s1, s2⟩ := snow_sum (f := sx_sn Y) (sh_ha H 0) (fun r hr => (rR.1.1 r hr).1)
  unfold s_Camp_mean s_Model_mean
  rw [g0, hs, hm, s1]
  by_cases z : sh_ha H 0 = 0
  · rw [z]
    refine ⟨?_, fun w => absurd (show nI 0 ≤ (0 : Int32) by decide) w, fun w => absurd (show nI 0 = (0 : Int32) from rfl) w, ?_⟩
    · rw [if_pos (show nI 0 ≤ (0 : Int32) by decide), if_pos (show nI 0 = (0 : Int32) from rfl)]
    · rw [if_pos (show nI 0 = (0 : Int32) from rfl)]
      exact ⟨rT, rG, rC, rR, by omega, rB, rO⟩
  · have v := mean_n (s := s) (m := sh_ha H 0) (by omega) (by omega) c0
    rw [if_neg (nI_nle (by omega) (by omega)), if_neg (nI_ne0 (by omega) (by omega))]
    exact ⟨rfl, fun _ => v, fun _ => v, rT, rG, rC, rR, by omega, rB, rO⟩
