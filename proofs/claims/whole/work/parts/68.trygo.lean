/-! the pure part: a team goes -/
theorem half_eq : ∀ k, k ≤ 40 → (nI k) / 2 = nI k - (nI k + 1) / 2 := by decide +kernel
theorem half_b : ∀ k, k ≤ 40 → (nI k) / 2 = nI (k / 2) := by decide +kernel
theorem gA_at {σ : GL} {k c : Nat} {row v w : Int32} (h : gG σ k row c = w) : gA σ k row c v = gS σ k row c (w + v) := by unfold gA; rw [h]
theorem sumR_upd {f : Nat → Int32} {t : Nat} {v : Int32} : ∀ n, sumR (upd f t (f t + v)) n = if t < n then sumR f n + v else sumR f n := by
  intro n
  induction n with
  | zero => rfl
  | succ n ih =>
    show sumR (upd f t (f t + v)) n + upd f t (f t + v) n = if t < n + 1 then sumR f n + f n + v else sumR f n + f n
    rw [ih]
    by_cases h : t < n
    · rw [if_pos h, if_pos (by omega), upd_ne _ _ (by omega : n ≠ t), Int32.add_assoc, Int32.add_assoc, Int32.add_comm v]
    · rw [if_neg h]
      by_cases e : t = n
      · subst e
        rw [if_pos (by omega), upd_at, Int32.add_assoc]
      · rw [if_neg (by omega), upd_ne _ _ (by omega : n ≠ t)]
theorem letFall_eq {σ : GL} {H : SH} {Y : SX} {M : MO} {t j : Nat} (hG : RG σ H Y) (hC : RC H) (hR : RR H Y) (ht : t < sh_ha H 11) (hj : j < sh_ha H 6) : RG (gS (s_Glacier_letFall σ (nI t) (nI j)) 4 (nI t) 7 1) H (s_Model_fall M H (sx_do' Y (upd (sx_do Y) t 1)) t j) ∧ RR H (s_Model_fall M H (sx_do' Y (upd (sx_do Y) t 1)) t j) ∧ sx_dy (s_Model_fall M H (sx_do' Y (upd (sx_do Y) t 1)) t j) = sx_dy Y := by
  have h4 : sh_ha H 11 ≤ 1000 := by unfold RC at hC; omega
  have h6 : sh_ha H 6 ≤ 1000 := by unfold RC at hC; omega
  obtain ⟨k, hk, -, hk4⟩ := (hR.2.2.2.2 t ht).2.2.1
  have e5 : sx_sk Y t / 2 = sx_sk Y t - (sx_sk Y t + 1) / 2 := by rw [hk]; exact half_eq k hk4
  -- the class
  obtain ⟨Y1, h1⟩ : ∃ Z, Z = sx_br' Y (upd (sx_br Y) j 0) := ⟨_, rfl⟩
  have s1 := sx_set_br h1
  obtain ⟨σ1, c1⟩ : ∃ s, s = gS σ 2 (nI j) 1 0 := ⟨_, rfl⟩
  have b1 : RB σ1 H Y1 := by rw [c1, h1]; exact hG.rb.w_2_1 hj h6
  have r1 : RR H Y1 := by rw [h1]; exact hR.w_br ⟨0, rfl, by omega, by omega⟩
  obtain ⟨Y2, h2⟩ : ∃ Z, Z = sx_fe' Y1 (upd (sx_fe Y1) j (sx_fe Y1 j + 1)) := ⟨_, rfl⟩
  have s2 := sx_set_fe h2
  obtain ⟨σ2, c2⟩ : ∃ s, s = gA σ1 2 (nI j) 5 1 := ⟨_, rfl⟩
  have b2 : RB σ2 H Y2 := by rw [c2, gA_at (b1.g_2_5 hj hC), h2]; exact b1.w_2_5 hj h6
  have r2 : RR H Y2 := by rw [h2]; exact r1
  obtain ⟨Y3, h3⟩ : ∃ Z, Z = sx_sk' Y2 (upd (sx_sk Y2) t (sx_sk Y2 t / 2)) := ⟨_, rfl⟩
  have s3 := sx_set_sk h3
  obtain ⟨σ3, c3⟩ : ∃ s, s = gS σ2 4 (nI t) 1 (gG σ2 4 (nI t) 1 / 2) := ⟨_, rfl⟩
  have b3 : RB σ3 H Y3 := by rw [c3, b2.g_4_1 ht hC, h3]; exact b2.w_4_1 ht h4
  have k2 : sx_sk Y2 t = nI k := by rw [← hk]; simp only [s1, s2]
  have r3 : RR H Y3 := by rw [h3]; exact r2.w_sk (by rw [k2, half_b k hk4]; exact ⟨k / 2, rfl, by omega, by omega⟩)
  obtain ⟨Y4, h4'⟩ : ∃ Z, Z = sx_fn' Y3 (upd (sx_fn Y3) t (sx_fn Y3 t + 1)) := ⟨_, rfl⟩
  have s4 := sx_set_fn h4'
  obtain ⟨σ4, c4⟩ : ∃ s, s = gA σ3 4 (nI t) 6 1 := ⟨_, rfl⟩
  have b4 : RB σ4 H Y4 := by rw [c4, gA_at (b3.g_4_6 ht hC), h4']; exact b3.w_4_6 ht h4
  have r4 : RR H Y4 := by rw [h4']; exact r3
  obtain ⟨Y5, h5⟩ : ∃ Z, Z = sx_do' Y4 (upd (sx_do Y4) t 1) := ⟨_, rfl⟩
  have s5 := sx_set_do h5
  have b5 : RB (gS σ4 4 (nI t) 7 1) H Y5 := by rw [h5]; exact b4.w_4_7 ht h4
  have r5 : RR H Y5 := by rw [h5]; exact r4.w_do ⟨1, rfl, by omega, by omega⟩
  obtain ⟨Y6, h6'⟩ : ∃ Z, Z = sx_fa' Y5 (sx_fa Y5 + 1) := ⟨_, rfl⟩
  have s6 := sx_set_fa h6'
  have b6 : RB (gS σ4 4 (nI t) 7 1) H Y6 := by rw [h6']; exact b5
  have r6 : RR H Y6 := by rw [h6']; exact r5
  -- the reference
  obtain ⟨Z0, z0⟩ : ∃ Z, Z = sx_do' Y (upd (sx_do Y) t 1) := ⟨_, rfl⟩
  obtain ⟨Z1, z1⟩ : ∃ Z, Z = sx_br' Z0 (upd (sx_br Z0) j 0) := ⟨_, rfl⟩
  obtain ⟨Z2, z2⟩ : ∃ Z, Z = sx_fe' Z1 (upd (sx_fe Z0) j (sx_fe Z0 j + 1)) := ⟨_, rfl⟩
  obtain ⟨Z3, z3⟩ : ∃ Z, Z = sx_sk' Z2 (upd (sx_sk Z0) t (sx_sk Z0 t - (sx_sk Z0 t + 1) / 2)) := ⟨_, rfl⟩
  obtain ⟨Z4, z4⟩ : ∃ Z, Z = sx_fn' Z3 (upd (sx_fn Z0) t (sx_fn Z0 t + 1)) := ⟨_, rfl⟩
  obtain ⟨Z5, z5⟩ : ∃ Z, Z = sx_fa' Z4 (sx_fa Z0 + 1) := ⟨_, rfl⟩
  have m : s_Model_fall M H (sx_do' Y (upd (sx_do Y) t 1)) t j = Z5 := by rw [← z0, z5, z4, z3, z2, z1]; rfl
  have t0 := sx_set_do z0; have t1 := sx_set_br z1; have t2 := sx_set_fe z2; have t3 := sx_set_sk z3; have t4 := sx_set_fn z4; have t5 := sx_set_fa z5
  have eY : Z5 = Y6 := sx_ext (by simp only [s1, s2, s3, s4, s5, s6, t0, t1, t2, t3, t4, t5, e5]) (by simp only [s1, s2, s3, s4, s5, s6, t0, t1, t2, t3, t4, t5, e5]) (by simp only [s1, s2, s3, s4, s5, s6, t0, t1, t2, t3, t4, t5, e5]) (by simp only [s1, s2, s3, s4, s5, s6, t0, t1, t2, t3, t4, t5, e5]) (by simp only [s1, s2, s3, s4, s5, s6, t0, t1, t2, t3, t4, t5, e5]) (by simp only [s1, s2, s3, s4, s5, s6, t0, t1, t2, t3, t4, t5, e5]) (by simp only [s1, s2, s3, s4, s5, s6, t0, t1, t2, t3, t4, t5, e5]) (by simp only [s1, s2, s3, s4, s5, s6, t0, t1, t2, t3, t4, t5, e5]) (by simp only [s1, s2, s3, s4, s5, s6, t0, t1, t2, t3, t4, t5, e5]) (by simp only [s1, s2, s3, s4, s5, s6, t0, t1, t2, t3, t4, t5, e5]) (by simp only [s1, s2, s3, s4, s5, s6, t0, t1, t2, t3, t4, t5, e5]) (by simp only [s1, s2, s3, s4, s5, s6, t0, t1, t2, t3, t4, t5, e5]) (by simp only [s1, s2, s3, s4, s5, s6, t0, t1, t2, t3, t4, t5, e5]) (by simp only [s1, s2, s3, s4, s5, s6, t0, t1, t2, t3, t4, t5, e5]) (by simp only [s1, s2, s3, s4, s5, s6, t0, t1, t2, t3, t4, t5, e5]) (by simp only [s1, s2, s3, s4, s5, s6, t0, t1, t2, t3, t4, t5, e5]) (by simp only [s1, s2, s3, s4, s5, s6, t0, t1, t2, t3, t4, t5, e5]) (by simp only [s1, s2, s3, s4, s5, s6, t0, t1, t2, t3, t4, t5, e5]) (by simp only [s1, s2, s3, s4, s5, s6, t0, t1, t2, t3, t4, t5, e5]) (by simp only [s1, s2, s3, s4, s5, s6, t0, t1, t2, t3, t4, t5, e5]) (by simp only [s1, s2, s3, s4, s5, s6, t0, t1, t2, t3, t4, t5, e5]) (by simp only [s1, s2, s3, s4, s5, s6, t0, t1, t2, t3, t4, t5, e5]) (by simp only [s1, s2, s3, s4, s5, s6, t0, t1, t2, t3, t4, t5, e5]) (by simp only [s1, s2, s3, s4, s5, s6, t0, t1, t2, t3, t4, t5, e5])
  have cl : gS (s_Glacier_letFall σ (nI t) (nI j)) 4 (nI t) 7 1 = gS σ4 4 (nI t) 7 1 := by rw [c4, c3, c2, c1]; rfl
  rw [m, cl, eY]
  refine ⟨b6.rg ⟨?_, ?_⟩, r6, by simp only [s1, s2, s3, s4, s5, s6]⟩
  · simp only [s1, s2, s3, s4, s5, s6]; exact hG.ru.1
  · simp only [s1, s2, s3, s4, s5, s6]
    rw [sumR_upd, if_pos ht, hG.ru.2]
