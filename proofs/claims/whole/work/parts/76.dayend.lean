/-! the pure part: stakes read, the day ends -/
theorem reads_eq {H : SH} {M : MO} {t : Nat} (hC : RC H) (ht : t < sh_ha H 11) : ∀ k i (σ : GL) (Y : SX), i + k ≤ sh_ha H 3 → RG σ H Y → RR H Y → RG (l_Glacier_readStakes_2 (nI t) k i σ) H (l_Model_readAll_2 M H t k i Y) ∧ RR H (l_Model_readAll_2 M H t k i Y) ∧ sx_dy (l_Model_readAll_2 M H t k i Y) = sx_dy Y := by
  intro k
  induction k with
  | zero => intro i σ Y _ h hr; exact ⟨h, hr, rfl⟩
  | succ k ih =>
    intro i σ Y h hG hR
    have h3 : sh_ha H 3 ≤ 1000 := by unfold RC at hC; omega
    have h4 : sh_ha H 11 ≤ 1000 := by unfold RC at hC; omega
    have hi : i < sh_ha H 3 := by omega
    have hB := hG.rb
    obtain ⟨-, ⟨s, hs, -, hs1⟩, -⟩ := hR.2.1 i hi
    rw [l_Glacier_readStakes_2, l_Model_readAll_2, hB.g_1_0 hi hC, hB.g_1_3 hi hC, hB.g_1_2 hi hC, hB.g_4_2 ht hC]
    by_cases e : sh_si H i = sx_pl Y t
    · rw [if_pos e, if_pos e]
      match s, hs1 with
      | _ + 2, q => exact absurd q (by omega)
      | 0, _ =>
        rw [hs, if_neg (c := (nI 0 : Int32) = 1) (by decide), if_pos (c := (nI 0 : Int32) = 0) rfl]
        exact ih _ _ _ (by omega) hG hR
      | 1, _ =>
        rw [hs, if_pos (c := (nI 1 : Int32) = 1) rfl, if_neg (c := (nI 1 : Int32) = 0) (by decide)]
        obtain ⟨Y1, h1⟩ : ∃ Z, Z = sx_la' Y (upd (sx_la Y) i (sx_ou Y i)) := ⟨_, rfl⟩
        have s1 := sx_set_la h1
        obtain ⟨σ1, c1⟩ : ∃ t, t = gS σ 1 (nI i) 4 (sx_ou Y i) := ⟨_, rfl⟩
        have b1 : RB σ1 H Y1 := by rw [c1, h1]; exact hB.w_1_4 hi h3
        have r1 : RR H Y1 := by rw [h1]; exact hR
        have p1 : sx_re Y1 = sx_re Y := by simp only [s1]
        obtain ⟨Y2, h2⟩ : ∃ Z, Z = sx_re' Y1 (upd (sx_re Y) i (sx_re Y i + 1)) := ⟨_, rfl⟩
        have s2 := sx_set_re h2
        obtain ⟨σ2, c2⟩ : ∃ t, t = gA σ1 1 (nI i) 5 1 := ⟨_, rfl⟩
        have b2 : RB σ2 H Y2 := by rw [c2, gA_at (b1.g_1_5 hi hC), h2, ← p1]; exact b1.w_1_5 hi h3
        have r2 : RR H Y2 := by rw [h2]; exact r1
        have p2 : sx_ma Y2 = sx_ma Y := by simp only [s1, s2]
        obtain ⟨Y3, h3'⟩ : ∃ Z, Z = sx_ma' Y2 (upd (sx_ma Y) t (sx_ma Y t + 1)) := ⟨_, rfl⟩
        have s3 := sx_set_ma h3'
        obtain ⟨σ3, c3⟩ : ∃ v, v = gA σ2 4 (nI t) 5 1 := ⟨_, rfl⟩
        have b3 : RB σ3 H Y3 := by rw [c3, gA_at (b2.g_4_5 ht hC), h3', ← p2]; exact b2.w_4_5 ht h4
        have r3 : RR H Y3 := by rw [h3']; exact r2
        obtain ⟨Y4, h4'⟩ : ∃ Z, Z = sx_rd' Y3 (sx_rd Y + 1) := ⟨_, rfl⟩
        have s4 := sx_set_rd h4'
        have b4 : RB σ3 H Y4 := by rw [h4']; exact b3
        have r4 : RR H Y4 := by rw [h4']; exact r3
        have g4 : RG σ3 H Y4 := by
          refine b4.rg ⟨?_, ?_⟩
          · simp only [s1, s2, s3, s4]
            rw [sumR_upd, if_pos ht, hG.ru.1]
          · simp only [s1, s2, s3, s4]; exact hG.ru.2
        rw [← c1, ← c2, ← c3, ← h1, ← h2, ← h3', ← h4']
        obtain ⟨k1, k2, k3⟩ := ih (i + 1) σ3 Y4 (by omega) g4 r4
        exact ⟨k1, k2, by rw [k3]; simp only [s1, s2, s3, s4]⟩
    · rw [if_neg e, if_neg e]
      exact ih _ _ _ (by omega) hG hR
theorem done_hi {σ : GL} {H : SH} {Y : SX} {i : Nat} {v : Int32} (hB : RB σ H Y) (hi : sh_ha H 11 ≤ i) : RB σ H (sx_do' Y (upd (sx_do Y) i v)) :=
  ⟨hB.1, hB.2.1, hB.2.2.1, hB.2.2.2.1, hB.2.2.2.2.1, fun r hr => by
    obtain ⟨a0, a1, a2, a3, a4, a5, a6, a7⟩ := hB.2.2.2.2.2.1 r hr
    exact ⟨a0, a1, a2, a3, a4, a5, a6, a7.trans (upd_ne _ _ (by omega)).symm⟩, hB.2.2.2.2.2.2⟩
theorem known_hi {σ : GL} {H : SH} {Y : SX} {i : Nat} {v : Int32} (hB : RB σ H Y) (hi : sh_ha H 6 ≤ i) : RB σ H (sx_kn' Y (upd (sx_kn Y) i v)) :=
  ⟨hB.1, hB.2.1, hB.2.2.1, fun r hr => by
    obtain ⟨a0, a1, a2, a3, a4, a5⟩ := hB.2.2.2.1 r hr
    exact ⟨a0, a1, a2.trans (upd_ne _ _ (by omega)).symm, a3, a4, a5⟩, hB.2.2.2.2.1, hB.2.2.2.2.2.1, hB.2.2.2.2.2.2⟩
theorem done_lo {H : SH} {M : MO} (hC : RC H) : ∀ k i (σ : GL) (Y : SX), i + k = 4 → RB σ H Y → RR H Y → RB (l_Glacier_endDay_12 (sh_ha H 11 - i) i σ) H (l_Model_dayRest_196 M H k i Y) ∧ RR H (l_Model_dayRest_196 M H k i Y) ∧ FR Y (l_Model_dayRest_196 M H k i Y) := by
  intro k
  have h4 : sh_ha H 11 ≤ 4 := by unfold RC at hC; omega
  induction k with
  | zero =>
    intro i σ Y h hB hR
    rw [show sh_ha H 11 - i = 0 by omega]
    exact ⟨hB, hR, FR.rf⟩
  | succ k ih =>
    intro i σ Y h hB hR
    have r1 : RR H (sx_do' Y (upd (sx_do Y) i 0)) := hR.w_do ⟨0, rfl, by omega, by omega⟩
    have f1 : FR Y (sx_do' Y (upd (sx_do Y) i 0)) := ⟨rfl, rfl, rfl, rfl, rfl, rfl, rfl⟩
    rw [l_Model_dayRest_196]
    by_cases c : i < sh_ha H 11
    · rw [show sh_ha H 11 - i = (sh_ha H 11 - (i + 1)) + 1 by omega, l_Glacier_endDay_12]
      obtain ⟨k1, k2, k3⟩ := ih (i + 1) _ _ (by omega) (hB.w_4_7 (v := 0) c (by omega)) r1
      exact ⟨k1, k2, f1.tr k3⟩
    · obtain ⟨k1, k2, k3⟩ := ih (i + 1) σ _ (by omega) (done_hi (v := 0) hB (by omega)) r1
      rw [show sh_ha H 11 - (i + 1) = 0 by omega] at k1
      rw [show sh_ha H 11 - i = 0 by omega]
      exact ⟨k1, k2, f1.tr k3⟩
