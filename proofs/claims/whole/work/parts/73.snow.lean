/-! the pure part: stakes under snow, bridges -/
theorem stakes_snow {H : SH} {M : MO} {r w : Nat} {x3 : Int32} (hC : RC H) (hw : w ≤ 1000) : ∀ k i (σ : GL) (Y : SX), i + k ≤ sh_ha H 3 → RB σ H Y → RR H Y → RB (l_Glacier_moveStakes_2 (nI r) (-(nI w)) k i σ) H (l_Model_snow_st M H r x3 (nI w) k i Y) ∧ RR H (l_Model_snow_st M H r x3 (nI w) k i Y) := by
  intro k
  induction k with
  | zero => intro i σ Y _ h hr; exact ⟨h, hr⟩
  | succ k ih =>
    intro i σ Y h hB hR
    have h3 : sh_ha H 3 ≤ 1000 := by unfold RC at hC; omega
    have hi : i < sh_ha H 3 := by omega
    obtain ⟨-, ⟨s, hs, -, hs1⟩, d, d1, d2, d3, d4⟩ := hR.2.1 i hi
    rw [l_Glacier_moveStakes_2, l_Model_snow_st, hB.g_1_0 hi hC, hB.g_1_3 hi hC, hB.g_1_2 hi hC]
    by_cases e : sh_si H i = nI r
    · rw [if_pos e, if_pos e]
      match s, hs1 with
      | _ + 2, q => exact absurd q (by omega)
      | 0, _ =>
        rw [hs, if_neg (c := (nI 0 : Int32) = 1) (by decide), if_neg (c := (nI 0 : Int32) = 1) (by decide)]
        exact ih _ _ _ (by omega) hB hR
      | 1, _ =>
        obtain ⟨a, a1, a2⟩ := d4 hs
        have hv : iMax 0 (sx_ou Y i + -(nI w)) = nI (a - w) := by rw [a1, ← Int32.sub_eq_add_neg, out_s (by omega) (by omega)]
        have hv2 : iMax 0 (sx_ou Y i - nI w) = nI (a - w) := by rw [a1, out_s (by omega) (by omega)]
        rw [hs, if_pos (c := (nI 1 : Int32) = 1) rfl, if_pos (c := (nI 1 : Int32) = 1) rfl, hv, hv2]
        have b1 := hB.w_1_2 (v := nI (a - w)) hi h3
        rw [b1.g_1_1 hi hC, d1, if_neg (nI_ge (by omega : a - w < d) (by omega))]
        obtain ⟨Y1, h1⟩ : ∃ Z, Z = sx_ou' Y (upd (sx_ou Y) i (nI (a - w))) := ⟨_, rfl⟩
        have s1 := sx_set_ou h1
        rw [← h1] at b1 ⊢
        have b2 := b1.w_1_3 (v := 1) hi h3
        rw [sd_same (by rw [show sx_sd Y1 = sx_sd Y by simp only [s1], hs]; rfl)] at b2
        exact ih _ _ _ (by omega) b2 (by rw [h1]; exact hR.w_ou (fun _ d' e' _ => ⟨a - w, rfl, by
            rw [d1] at e'
            have := (nI_eq (a := d) (b := d') (by omega) (by omega)).mp e'
            omega⟩))
    · rw [if_neg e, if_neg e]
      exact ih _ _ _ (by omega) hB hR
theorem iMin_99 {x : Int32} (h : x ≤ 0) : iMax 0 (iMin x 99) = 0 := by
  have e : iMin x 99 = x := by
    unfold iMin
    rw [if_neg]
    intro w
    rw [Int32.lt_iff_toInt_lt, show (99 : Int32).toInt = 99 from by decide] at w
    rw [Int32.le_iff_toInt_le, show (0 : Int32).toInt = 0 from by decide] at h
    omega
  rw [e, iMax0n h]
theorem bridges_melt {H : SH} {M : MO} {r w : Nat} (hC : RC H) (hw : w ≤ 1000) : ∀ k i (σ : GL) (Y : SX), i + k ≤ sh_ha H 6 → RB σ H Y → RR H Y → RB (l_Glacier_moveBridges_2 (nI r) (-(nI w)) k i σ) H (l_Model_melt_1_br M H r (nI w) k i Y) ∧ RR H (l_Model_melt_1_br M H r (nI w) k i Y) := by
  intro k
  induction k with
  | zero => intro i σ Y _ h hr; exact ⟨h, hr⟩
  | succ k ih =>
    intro i σ Y h hB hR
    have h6 : sh_ha H 6 ≤ 1000 := by unfold RC at hC; omega
    have hi : i < sh_ha H 6 := by omega
    obtain ⟨-, ⟨b, hb, -, hb9⟩, -⟩ := hR.2.2.1 i hi
    rw [l_Glacier_moveBridges_2, l_Model_melt_1_br, hB.g_2_0 hi hC, hB.g_2_1 hi hC]
    by_cases e : sh_ab H i = nI r
    · rw [if_pos e, if_pos e]
      have hv : iMax 0 (iMin (sx_br Y i + -(nI w)) 99) = nI (b - w) := by
        rw [hb, ← Int32.sub_eq_add_neg]
        by_cases c : w ≤ b
        · rw [nI_subn c, show (99 : Int32) = nI 99 from rfl, iMin_nI (by omega) (by omega), Nat.min_eq_left (by omega), iMax0 (by omega)]
        · rw [iMin_99 (nI_sub_le (by omega) (by omega)), show b - w = 0 by omega, nI_0]
      have hv2 : iMax 0 (sx_br Y i - nI w) = nI (b - w) := by rw [hb, out_s (by omega) (by omega)]
      rw [hv, hv2]
      exact ih _ _ _ (by omega) (hB.w_2_1 hi h6) (hR.w_br ⟨b - w, rfl, by omega, by omega⟩)
    · rw [if_neg e, if_neg e]
      exact ih _ _ _ (by omega) hB hR
theorem bridges_snow {H : SH} {M : MO} {r w : Nat} {x3 : Int32} (hC : RC H) (hw : w ≤ 1000) : ∀ k i (σ : GL) (Y : SX), i + k ≤ sh_ha H 6 → RB σ H Y → RR H Y → RB (l_Glacier_moveBridges_2 (nI r) (nI w) k i σ) H (l_Model_snow_br M H r x3 (nI w) k i Y) ∧ RR H (l_Model_snow_br M H r x3 (nI w) k i Y) := by
  intro k
  induction k with
  | zero => intro i σ Y _ h hr; exact ⟨h, hr⟩
  | succ k ih =>
    intro i σ Y h hB hR
    have h6 : sh_ha H 6 ≤ 1000 := by unfold RC at hC; omega
    have hi : i < sh_ha H 6 := by omega
    obtain ⟨-, ⟨b, hb, -, hb9⟩, -⟩ := hR.2.2.1 i hi
    rw [l_Glacier_moveBridges_2, l_Model_snow_br, hB.g_2_0 hi hC, hB.g_2_1 hi hC]
    by_cases e : sh_ab H i = nI r
    · rw [if_pos e, if_pos e]
      have hv2 : iMin 99 (sx_br Y i + nI w) = nI (min 99 (b + w)) := by rw [hb, nI_add, show (99 : Int32) = nI 99 from rfl, iMin_nI (by omega) (by omega)]
      have hv : iMax 0 (iMin (sx_br Y i + nI w) 99) = nI (min 99 (b + w)) := by rw [iMin_comm, hv2, iMax0 (by omega)]
      rw [hv, hv2]
      exact ih _ _ _ (by omega) (hB.w_2_1 hi h6) (hR.w_br ⟨min 99 (b + w), rfl, by omega, by omega⟩)
    · rw [if_neg e, if_neg e]
      exact ih _ _ _ (by omega) hB hR
