/-! food where something is done, and at meals -/
section Fe
variable {A : AD} {σ : GL} {Y : SM} {N : Nat}
theorem fd_fills (h : RI A Y N) (hP : PM A σ Y) (hA : AOk A) {t : Nat} (ht : t < cn A 4) {w : Int32} : fdN A (s_Sim_fills A Y t w).2 = fdN A Y := by
  obtain ⟨-, ⟨s, hs, hs4⟩, -⟩ := h.2 4 t (by decide) ht
  unfold s_Sim_fills
  by_cases c1 : sm_v Y 4 t 4 = 0
  · rw [if_pos c1]
  rw [if_neg c1]
  rcases store_loop hP hA h.fok (t := t) (w := w) (cn A 3) 0 (by omega) with ⟨-, e2⟩ | ⟨j, hj, -, e2⟩
  · rw [e2]
  · rw [e2]
    obtain ⟨a, ha, ea⟩ := gvA_n (w := w) hs hs4
    obtain ⟨f, ef, hf⟩ := h.fok j hj
    have em : gvF Y t j w = nI (min a f) := by
      unfold gvF
      rw [ea, ef]
      by_cases q : a ≤ f
      · rw [if_pos (nI_le q (by omega)), Nat.min_eq_left q]
      · rw [if_neg (nI_ge (by omega) (by omega)), Nat.min_eq_right (by omega)]
    rw [em]
    show fdN A (gvY Y t j (nI (min a f))) = _
    unfold gvY
    rw [ef, nI_sub (show min a f ≤ f by omega)]
    have hs2 : sm_v (sm_set Y 3 j 1 (nI (f - min a f))) 4 t 1 = nI s := (sm_v_ne (fun w => absurd w.1 (by decide))).trans hs
    have e3 := fd_store (A := A) (Y := Y) (f' := f - min a f) hj ef (by omega) (by omega)
    have e4 := fd_sack (A := A) (Y := sm_set Y 3 j 1 (nI (f - min a f))) (s' := s + min a f) ht hs2 (by omega) (by omega)
    rw [hs2, nI_ad]
    omega
theorem fd_fall (h : RI A Y N) {t c : Nat} (ht : t < cn A 4) : fdN A (fallY Y t c) ≤ fdN A Y := by
  obtain ⟨-, ⟨s, hs, hs4⟩, -⟩ := h.2 4 t (by decide) ht
  have e2 := half41 ⟨s, by omega⟩
  dsimp only at e2
  have hs2 : sm_v (fall1 Y c) 4 t 1 = nI s := by
    unfold fall1
    rw [sm_v_ne (fun w => absurd w.1 (by decide)), sm_v_ne (fun w => absurd w.1 (by decide))]
    exact hs
  have f1 : fdN A (fall1 Y c) = fdN A Y := by
    unfold fall1
    rw [fd_set (by decide), fd_set (by decide)]
  have f2 := fd_sack (A := A) (Y := fall1 Y c) (s' := s / 2) ht hs2 (by omega) (by omega)
  have f3 : fdN A (fallY Y t c) = fdN A (sm_set (fall1 Y c) 4 t 1 (nI (s / 2))) := by
    show fdN A (fall2 (fall1 Y c) t) = _
    unfold fall2
    rw [fd_set (by decide), hs2, e2]
  omega
theorem fd_eat43 {t : Nat} : ∀ (k i l : Nat) (Y : SM), FOk A Y → i + k ≤ cn A 3 → l < 100 → ∃ l', l' ≤ l ∧ (l_Sim_eats_43 A t k i (nI l) Y).1 = nI l' ∧ fdN A (l_Sim_eats_43 A t k i (nI l) Y).2 + l = fdN A Y + l'
  | 0, _, l, _, _, _, _ => ⟨l, Nat.le_refl _, rfl, rfl⟩
  | k + 1, i, l, Y, hF, hi, hl => by
    have hr : i < cn A 3 := by omega
    obtain ⟨f, ef, hf⟩ := hF i hr
    unfold l_Sim_eats_43
    rw [nI_clamp (show l < 2 ^ 31 by omega)]
    by_cases hb : sm_v Y 3 i 0 = sm_v Y 4 t 2
    · rw [eats57 l f Y hb ef hf (by omega)]
      dsimp only
      have hF2 : FOk A (sm_set Y 3 i 1 (nI (f - min l f))) := fun r hr' => by
        rw [sm_v_set]
        by_cases e : 3 = 3 ∧ r = i ∧ 1 = 1
        · rw [if_pos e]
          exact ⟨_, rfl, by omega⟩
        · rw [if_neg e]
          exact hF r hr'
      obtain ⟨l', q0, q1, q2⟩ := fd_eat43 (t := t) k (i + 1) (l - min l f) _ hF2 (by omega) (by omega)
      have e3 := fd_store (A := A) (Y := Y) (f' := f - min l f) hr ef (by omega) (by omega)
      exact ⟨l', by omega, q1, by omega⟩
    · rw [eats57n hb]
      exact fd_eat43 k (i + 1) l Y hF (by omega) hl
end Fe
