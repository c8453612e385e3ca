/-! the pure part: what is known grows old; the day ends -/
theorem RR.w_kn_hi {H : SH} {Y : SX} {i : Nat} {v : Int32} (hR : RR H Y) (hi : sh_ha H 6 ≤ i) : RR H (sx_kn' Y (upd (sx_kn Y) i v)) :=
  ⟨hR.1, hR.2.1, fun r hr => ⟨(hR.2.2.1 r hr).1, (hR.2.2.1 r hr).2.1, by
    show btw 0 (upd (sx_kn Y) i v r) 3
    rw [upd_ne _ _ (by omega)]
    exact (hR.2.2.1 r hr).2.2⟩, hR.2.2.2⟩
theorem known_lo {H : SH} {M : MO} (hC : RC H) : ∀ k i (σ : GL) (Y : SX), i + k = 4 → RB σ H Y → RR H Y → RB (l_Glacier_endDay_42 (sh_ha H 6 - i) i σ) H (l_Model_dayRest_216 M H k i Y) ∧ RR H (l_Model_dayRest_216 M H k i Y) ∧ FR Y (l_Model_dayRest_216 M H k i Y) := by
  intro k
  have h4 : sh_ha H 6 ≤ 4 := by unfold RC at hC; omega
  induction k with
  | zero =>
    intro i σ Y h hB hR
    rw [show sh_ha H 6 - i = 0 by omega]
    exact ⟨hB, hR, FR.rf⟩
  | succ k ih =>
    intro i σ Y h hB hR
    have f1 : FR Y (sx_kn' Y (upd (sx_kn Y) i (iMax 0 (sx_kn Y i - 1)))) := ⟨rfl, rfl, rfl, rfl, rfl, rfl, rfl⟩
    rw [l_Model_dayRest_216]
    by_cases c : i < sh_ha H 6
    · obtain ⟨-, -, q, hq, -, hq3⟩ := hR.2.2.1 i c
      have hv : iMax 0 (sx_kn Y i - 1) = nI (q - 1) := by
        rw [hq, show (1 : Int32) = nI 1 from rfl, out_s (by omega) (by omega)]
      have r1 : RR H (sx_kn' Y (upd (sx_kn Y) i (iMax 0 (sx_kn Y i - 1)))) := hR.w_kn (by rw [hv]; exact ⟨q - 1, rfl, by omega, by omega⟩)
      rw [show sh_ha H 6 - i = (sh_ha H 6 - (i + 1)) + 1 by omega, l_Glacier_endDay_42, hB.g_2_2 c hC]
      obtain ⟨k1, k2, k3⟩ := ih (i + 1) _ _ (by omega) (hB.w_2_2 (v := iMax 0 (sx_kn Y i - 1)) c (by omega)) r1
      exact ⟨k1, k2, f1.tr k3⟩
    · obtain ⟨k1, k2, k3⟩ := ih (i + 1) σ _ (by omega) (known_hi (i := i) (v := iMax 0 (sx_kn Y i - 1)) hB (by omega)) (hR.w_kn_hi (by omega))
      rw [show sh_ha H 6 - (i + 1) = 0 by omega] at k1
      rw [show sh_ha H 6 - i = 0 by omega]
      exact ⟨k1, k2, f1.tr k3⟩
theorem endDay_eq {σ : GL} {H : SH} {Y : SX} {M : MO} (hG : RG σ H Y) (hC : RC H) (hR : RR H Y) : RG (s_Glacier_endDay σ) H (l_Model_dayRest_216 M H 4 0 (l_Model_dayRest_196 M H 4 0 (sx_dy' Y (sx_dy Y + 1)))) ∧ RR H (l_Model_dayRest_216 M H 4 0 (l_Model_dayRest_196 M H 4 0 (sx_dy' Y (sx_dy Y + 1)))) ∧ sx_dy (l_Model_dayRest_216 M H 4 0 (l_Model_dayRest_196 M H 4 0 (sx_dy' Y (sx_dy Y + 1)))) = sx_dy Y + 1 := by
  have hB := hG.rb
  obtain ⟨Y1, h1⟩ : ∃ Z, Z = sx_dy' Y (sx_dy Y + 1) := ⟨_, rfl⟩
  have s1 := sx_set_dy h1
  have u1 : RU H Y1 := by rw [h1]; exact hG.ru
  obtain ⟨σ1, c1⟩ : ∃ t, t = gSD σ (gD σ + 1) := ⟨_, rfl⟩
  have b1 : RB σ1 H Y1 := by
    rw [c1, h1]
    exact ⟨hB.1, hB.2.1, hB.2.2.1, hB.2.2.2.1, hB.2.2.2.2.1, hB.2.2.2.2.2.1, hB.2.2.2.2.2.2.1, by
      show gD σ + 1 = nI (sx_dy Y + 1)
      rw [hB.2.2.2.2.2.2.2.1, nI_1], hB.2.2.2.2.2.2.2.2⟩
  have r1 : RR H Y1 := by rw [h1]; exact hR
  have d1 : sx_dy Y1 = sx_dy Y + 1 := by simp only [s1]
  have n4 : gN σ1 4 = sh_ha H 11 := b1.1.2.2.2.2
  obtain ⟨b2, r2, f2⟩ := done_lo (M := M) hC 4 0 σ1 Y1 rfl b1 r1
  rw [← h1]
  unfold s_Glacier_endDay
  rw [← c1, n4]
  rw [Nat.sub_zero] at b2
  generalize l_Glacier_endDay_12 (sh_ha H 11) 0 σ1 = σ2 at b2 ⊢
  generalize l_Model_dayRest_196 M H 4 0 Y1 = Y2 at b2 r2 f2 ⊢
  have n2 : gN σ2 2 = sh_ha H 6 := b2.1.2.2.1
  obtain ⟨b3, r3, f3⟩ := known_lo (M := M) hC 4 0 σ2 Y2 rfl b2 r2
  rw [Nat.sub_zero] at b3
  rw [n2]
  exact ⟨b3.rg ((f2.tr f3).ru u1), r3, ((f2.tr f3).1).trans d1⟩
