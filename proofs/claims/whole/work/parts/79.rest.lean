/-! the pure part: the rest of a day -/
theorem here_eq {σ : GL} {H : SH} {Y : SX} {t : Nat} (hB : RB σ H Y) (hC : RC H) (ht : t < sh_ha H 11) : s_Glacier_isHere σ (nI t) = if sx_he Y t = 1 then 1 else 0 := by
  unfold s_Glacier_isHere
  rw [hB.g_4_4 ht hC]
theorem day_w {T : TM} {F : FM} {H : SH} {M : MO} (hC : RC H) : ∀ k i (σ : GL) (Y : SX), i + k ≤ sh_ha H 0 → sx_dy Y < 1000000 → RB σ H Y → RR H Y → RB (l_Glacier_passDay_37 T F k i σ) H (l_Model_dayRest_49 M H k i Y) ∧ RR H (l_Model_dayRest_49 M H k i Y) ∧ FR Y (l_Model_dayRest_49 M H k i Y) := by
  intro k
  induction k with
  | zero => intro i σ Y _ _ h hr; exact ⟨h, hr, FR.rf⟩
  | succ k ih =>
    intro i σ Y h hd hB hR
    obtain ⟨k1, k2, k3⟩ := weather_eq (M := M) hB hC hR hd (show i < sh_ha H 0 by omega)
    have e : l_Model_dayRest_49 M H (k + 1) i Y = l_Model_dayRest_49 M H k (i + 1) (stepW M H Y i) := by
      rw [l_Model_dayRest_49]
      unfold stepW
      split
      · split
        · rfl
        · rfl
      · split
        · rfl
        · rfl
    rw [l_Glacier_passDay_37, e]
    obtain ⟨j1, j2, j3⟩ := ih (i + 1) _ _ (by omega) (by rw [k3.1]; exact hd) k1 k2
    exact ⟨j1, j2, k3.tr j3⟩
theorem day_e {T : TM} {F : FM} {H : SH} {M : MO} (hC : RC H) : ∀ k i (σ : GL) (Y : SX), i + k ≤ sh_ha H 11 → RB σ H Y → RR H Y → RB (l_Glacier_passDay_61 T F k i σ) H (l_Model_dayRest_110 M H k i Y) ∧ RR H (l_Model_dayRest_110 M H k i Y) ∧ FR Y (l_Model_dayRest_110 M H k i Y) := by
  intro k
  induction k with
  | zero => intro i σ Y _ h hr; exact ⟨h, hr, FR.rf⟩
  | succ k ih =>
    intro i σ Y h hB hR
    rw [l_Glacier_passDay_61, l_Model_dayRest_110, here_eq hB hC (by omega)]
    by_cases c : sx_he Y i = 1
    · rw [if_pos c, if10, if_pos c]
      obtain ⟨k1, k2, k3⟩ := eat_eq (M := M) hB hC hR (by omega) c
      obtain ⟨j1, j2, j3⟩ := ih (i + 1) _ _ (by omega) k1 k2
      exact ⟨j1, j2, k3.tr j3⟩
    · rw [if_neg c, if00, if_neg c]
      exact ih _ _ _ (by omega) hB hR
theorem day_r {T : TM} {F : FM} {H : SH} {M : MO} (hC : RC H) : ∀ k i (σ : GL) (Y : SX), i + k ≤ sh_ha H 11 → RG σ H Y → RR H Y → RG (l_Glacier_passDay_93 T F k i σ) H (l_Model_dayRest_148 M H k i Y) ∧ RR H (l_Model_dayRest_148 M H k i Y) ∧ sx_dy (l_Model_dayRest_148 M H k i Y) = sx_dy Y := by
  intro k
  induction k with
  | zero => intro i σ Y _ h hr; exact ⟨h, hr, rfl⟩
  | succ k ih =>
    intro i σ Y h hG hR
    rw [l_Glacier_passDay_93, l_Model_dayRest_148, here_eq hG.rb hC (by omega)]
    by_cases c : sx_he Y i = 1
    · rw [if_pos c, if10, if_pos c]
      unfold s_Glacier_readStakes s_Model_readAll
      rw [hG.n1]
      obtain ⟨k1, k2, k3⟩ := reads_eq (M := M) (t := i) hC (by omega) (sh_ha H 3) 0 σ Y (by omega) hG hR
      obtain ⟨j1, j2, j3⟩ := ih (i + 1) _ _ (by omega) k1 k2
      exact ⟨j1, j2, j3.trans k3⟩
    · rw [if_neg c, if00, if_neg c]
      exact ih _ _ _ (by omega) hG hR
/-- a day behind its orders -/
theorem rest_eq {T : TM} {F : FM} {σ : GL} {H : SH} {Y : SX} {M : MO} (hG : RG σ H Y) (hC : RC H) (hR : RR H Y) (hd : sx_dy Y < 1000000) : RG (s_Glacier_endDay (l_Glacier_passDay_93 T F (gN (l_Glacier_passDay_61 T F (gN (l_Glacier_passDay_37 T F (gN σ 0) 0 σ) 4) 0 (l_Glacier_passDay_37 T F (gN σ 0) 0 σ)) 4) 0 (l_Glacier_passDay_61 T F (gN (l_Glacier_passDay_37 T F (gN σ 0) 0 σ) 4) 0 (l_Glacier_passDay_37 T F (gN σ 0) 0 σ)))) H (s_Model_dayRest M H Y) ∧ RR H (s_Model_dayRest M H Y) ∧ sx_dy (s_Model_dayRest M H Y) = sx_dy Y + 1 := by
  unfold s_Model_dayRest
  obtain ⟨b1, r1, f1⟩ := day_w (T := T) (F := F) (M := M) hC (sh_ha H 0) 0 σ Y (by omega) hd hG.rb hR
  rw [hG.n0]
  generalize l_Glacier_passDay_37 T F (sh_ha H 0) 0 σ = σ1 at b1 ⊢
  generalize l_Model_dayRest_49 M H (sh_ha H 0) 0 Y = Y1 at b1 r1 f1 ⊢
  rw [show gN σ1 4 = sh_ha H 11 from b1.1.2.2.2.2]
  obtain ⟨b2, r2, f2⟩ := day_e (T := T) (F := F) (M := M) hC (sh_ha H 11) 0 σ1 Y1 (by omega) b1 r1
  generalize l_Glacier_passDay_61 T F (sh_ha H 11) 0 σ1 = σ2 at b2 ⊢
  generalize l_Model_dayRest_110 M H (sh_ha H 11) 0 Y1 = Y2 at b2 r2 f2 ⊢
  rw [show gN σ2 4 = sh_ha H 11 from b2.1.2.2.2.2]
  have g2 : RG σ2 H Y2 := b2.rg ((f1.tr f2).ru hG.ru)
  obtain ⟨g3, r3, d3⟩ := day_r (T := T) (F := F) (M := M) hC (sh_ha H 11) 0 σ2 Y2 (by omega) g2 r2
  generalize l_Glacier_passDay_93 T F (sh_ha H 11) 0 σ2 = σ3 at g3 ⊢
  generalize l_Model_dayRest_148 M H (sh_ha H 11) 0 Y2 = Y3 at g3 r3 d3 ⊢
  obtain ⟨g4, r4, d4⟩ := endDay_eq (M := M) g3 hC r3
  exact ⟨g4, r4, d4.trans (by rw [d3, (f1.tr f2).1])⟩
