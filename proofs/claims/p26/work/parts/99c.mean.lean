/-! the mean of the snow -/
theorem mean_t : ∀ a, a < 16 → ∀ b, b < 100 → ∀ m, m < 5 → (FP.ddiv (FP.i2d (nI (100 * a + b))) (FP.i2d (nI (m + 1)))) &&& 0x7fffffffffffffff ≤ 0x7ff0000000000000 := by decide +kernel
theorem mean_n {s m : Nat} (hs : s < 1600) (h1 : 1 ≤ m) (h5 : m ≤ 5) : vf_n64 (FP.ddiv (FP.i2d (nI s)) (FP.i2d (nI m))) := by
  have h := mean_t (s / 100) (by omega) (s % 100) (by omega) (m - 1) (by omega)
  rw [show 100 * (s / 100) + s % 100 = s by omega, show m - 1 + 1 = m by omega] at h
  exact h
theorem mean_u : ∀ a, a < 16 → ∀ b, b < 100 → ∀ m, m < 5 → FP.dcmp (FP.ddiv (FP.i2d (nI (100 * a + b))) (FP.i2d (nI (m + 1)))) (FP.ddiv (FP.i2d (nI (100 * a + b))) (FP.i2d (nI (m + 1)))) = some .eq := by decide +kernel
theorem mean_q {s m : Nat} (hs : s < 1600) (h1 : 1 ≤ m) (h5 : m ≤ 5) : FP.dcmp (FP.ddiv (FP.i2d (nI s)) (FP.i2d (nI m))) (FP.ddiv (FP.i2d (nI s)) (FP.i2d (nI m))) = some .eq := by
  have h := mean_u (s / 100) (by omega) (s % 100) (by omega) (m - 1) (by omega)
  rw [show 100 * (s / 100) + s % 100 = s by omega, show m - 1 + 1 = m by omega] at h
  exact h
theorem snow_N {f : Nat → Int32} : ∀ n, (∀ r, r < n → ∃ s, f r = nI s ∧ s ≤ 300) → ∃ s, sumN f n = nI s ∧ s ≤ 300 * n
  | 0, _ => ⟨0, rfl, Nat.le_refl _⟩
  | n + 1, h => by
    obtain ⟨s, s1, s2⟩ := snow_N n (fun r hr => h r (by omega))
    obtain ⟨k, k1, k2⟩ := h n (by omega)
    exact ⟨s + k, by rw [show sumN f (n + 1) = sumN f n + f n from rfl, s1, k1, nI_ad], by omega⟩
