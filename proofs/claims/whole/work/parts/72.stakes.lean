/-! the pure part: stakes and bridges in the weather -/
theorem iMax0 {n : Nat} (h : n < 2 ^ 31) : iMax 0 (nI n) = nI n := by
  unfold iMax
  by_cases e : n = 0
  · rw [e]; decide
  · rw [if_pos]
    rw [Int32.lt_iff_toInt_lt, nI_toInt h, show (0 : Int32).toInt = 0 from by decide]
    omega
theorem iMax0n {x : Int32} (h : x ≤ 0) : iMax 0 x = 0 := by
  unfold iMax
  rw [if_neg (j_nlt.mpr h)]
theorem nI_sub_le {a b : Nat} (h : a ≤ b) (hb : b < 2 ^ 31) : nI a - nI b ≤ 0 := by
  have e : nI a - nI b = -(nI (b - a)) := by
    rw [← nI_subn h]
    apply Int32.toBitVec_inj.mp
    show (nI a).toBitVec - (nI b).toBitVec = -((nI b).toBitVec - (nI a).toBitVec)
    generalize (nI a).toBitVec = x; generalize (nI b).toBitVec = y
    bv_omega
  rw [e, Int32.le_iff_toInt_le, Int32.toInt_neg, nI_toInt (by omega), show (0 : Int32).toInt = 0 from by decide]
  rw [Int.bmod_eq_of_le (by omega) (by omega)]
  omega
theorem out_s {k w : Nat} (hk : k < 2 ^ 30) (hw : w < 2 ^ 30) : iMax 0 (nI k - nI w) = nI (k - w) := by
  by_cases h : w ≤ k
  · rw [nI_subn h, iMax0 (by omega)]
  · rw [iMax0n (nI_sub_le (by omega) (by omega)), show k - w = 0 by omega, nI_0]
theorem sd_same {Y : SX} {i : Nat} {v : Int32} (h : sx_sd Y i = v) : sx_sd' Y (upd (sx_sd Y) i v) = Y := by
  have e : upd (sx_sd Y) i v = sx_sd Y := by
    funext j
    unfold upd
    by_cases e : j = i
    · rw [if_pos e, e, h]
    · rw [if_neg e]
  rw [e]
/-- a stake that stands: what the class writes -/
theorem stake_w {σ : GL} {H : SH} {Y : SX} {i k d : Nat} {v : Int32} (hB : RB σ H Y) (hC : RC H) (hi : i < sh_ha H 3) (hd : sh_dp H i = nI d) (hd2 : d ≤ 200) (hv : v = nI k) (hk : k < 2 ^ 30) : (if gG (gS σ 1 (nI i) 2 v) 1 (nI i) 1 ≤ v then gS (gS σ 1 (nI i) 2 v) 1 (nI i) 3 0 else gS (gS σ 1 (nI i) 2 v) 1 (nI i) 3 1) = (if k < d then gS (gS σ 1 (nI i) 2 v) 1 (nI i) 3 1 else gS (gS σ 1 (nI i) 2 v) 1 (nI i) 3 0) := by
  have h3 : sh_ha H 3 ≤ 1000 := by unfold RC at hC; omega
  have b1 := hB.w_1_2 (v := v) hi h3
  rw [b1.g_1_1 hi hC, hd, hv]
  by_cases h : k < d
  · rw [if_pos h, if_neg (nI_ge h (by omega))]
  · rw [if_neg h, if_pos (nI_le (by omega) (by omega))]
theorem stakes_melt {H : SH} {M : MO} {r w : Nat} {x3 : Int32} (hC : RC H) (hw : w ≤ 1000) : ∀ k i (σ : GL) (Y : SX), i + k ≤ sh_ha H 3 → RB σ H Y → RR H Y → RB (l_Glacier_moveStakes_2 (nI r) (nI w) k i σ) H (l_Model_melt_1_st M H r x3 (nI w) k i Y) ∧ RR H (l_Model_melt_1_st M H r x3 (nI w) k i Y) := by
  intro k
  induction k with
  | zero => intro i σ Y _ h hr; exact ⟨h, hr⟩
  | succ k ih =>
    intro i σ Y h hB hR
    have h3 : sh_ha H 3 ≤ 1000 := by unfold RC at hC; omega
    have hi : i < sh_ha H 3 := by omega
    obtain ⟨-, ⟨s, hs, -, hs1⟩, d, d1, d2, d3, d4⟩ := hR.2.1 i hi
    rw [l_Glacier_moveStakes_2, l_Model_melt_1_st, hB.g_1_0 hi hC, hB.g_1_3 hi hC, hB.g_1_2 hi hC, upd_at]
    by_cases e : sh_si H i = nI r
    · rw [if_pos e, if_pos e]
      match s, hs1 with
      | _ + 2, q => exact absurd q (by omega)
      | 0, _ =>
        rw [hs, if_neg (c := (nI 0 : Int32) = 1) (by decide), if_pos (c := (nI 0 : Int32) = 0) rfl]
        exact ih _ _ _ (by omega) hB hR
      | 1, _ =>
        obtain ⟨a, a1, a2⟩ := d4 hs
        have hv : iMax 0 (sx_ou Y i + nI w) = nI (a + w) := by rw [a1, nI_add, iMax0 (by omega)]
        have hv2 : sx_ou Y i + nI w = nI (a + w) := by rw [a1, nI_add]
        rw [hs, if_pos (c := (nI 1 : Int32) = 1) rfl, if_neg (c := (nI 1 : Int32) = 0) (by decide), hv, hv2, d1]
        have b1 := hB.w_1_2 (v := nI (a + w)) hi h3
        rw [b1.g_1_1 hi hC, d1]
        by_cases c : a + w < d
        · rw [if_neg (nI_ge c (by omega)), if_pos ((nI_ltI (by omega) (by omega)).mpr c)]
          obtain ⟨Y1, h1⟩ : ∃ Z, Z = sx_ou' Y (upd (sx_ou Y) i (nI (a + w))) := ⟨_, rfl⟩
          have s1 := sx_set_ou h1
          rw [← h1] at b1 ⊢
          have b2 := b1.w_1_3 (v := 1) hi h3
          rw [sd_same (by rw [show sx_sd Y1 = sx_sd Y by simp only [s1], hs]; rfl)] at b2
          exact ih _ _ _ (by omega) b2 (by rw [h1]; exact hR.w_ou (fun _ d' e' _ => ⟨a + w, rfl, by
            rw [d1] at e'
            have := (nI_eq (a := d) (b := d') (by omega) (by omega)).mp e'
            omega⟩))
        · rw [if_pos (nI_le (by omega) (by omega)), if_neg (fun q => c ((nI_ltI (by omega) (by omega)).mp q))]
          obtain ⟨Y1, h1⟩ : ∃ Z, Z = sx_ou' Y (upd (sx_ou Y) i (nI (a + w))) := ⟨_, rfl⟩
          have s1 := sx_set_ou h1
          have p1 : sx_sd Y1 = sx_sd Y := by simp only [s1]
          rw [← h1] at b1 ⊢
          have b2 := b1.w_1_3 (v := 0) hi h3
          rw [← p1]
          obtain ⟨Z1, z1⟩ : ∃ Z, Z = sx_sd' Y (upd (sx_sd Y) i 0) := ⟨_, rfl⟩
          have u1 := sx_set_sd z1
          have q1 : RR H Z1 := by rw [z1]; exact hR.w_sd0
          obtain ⟨Z2, z2⟩ : ∃ Z, Z = sx_ou' Z1 (upd (sx_ou Z1) i (nI (a + w))) := ⟨_, rfl⟩
          have u2 := sx_set_ou z2
          have q2 : RR H Z2 := by rw [z2]; exact q1.w_ou (fun y => by
            have : sx_sd Z1 i = 0 := by rw [z1]; exact upd_at _ _ _
            rw [this] at y
            exact absurd y (by decide))
          obtain ⟨Y2, h2⟩ : ∃ Z, Z = sx_sd' Y1 (upd (sx_sd Y1) i 0) := ⟨_, rfl⟩
          have s2 := sx_set_sd h2
          have eZ : Z2 = Y2 := sx_ext (by simp only [s1, s2, u1, u2]) (by simp only [s1, s2, u1, u2]) (by simp only [s1, s2, u1, u2]) (by simp only [s1, s2, u1, u2]) (by simp only [s1, s2, u1, u2]) (by simp only [s1, s2, u1, u2]) (by simp only [s1, s2, u1, u2]) (by simp only [s1, s2, u1, u2]) (by simp only [s1, s2, u1, u2]) (by simp only [s1, s2, u1, u2]) (by simp only [s1, s2, u1, u2]) (by simp only [s1, s2, u1, u2]) (by simp only [s1, s2, u1, u2]) (by simp only [s1, s2, u1, u2]) (by simp only [s1, s2, u1, u2]) (by simp only [s1, s2, u1, u2]) (by simp only [s1, s2, u1, u2]) (by simp only [s1, s2, u1, u2]) (by simp only [s1, s2, u1, u2]) (by simp only [s1, s2, u1, u2]) (by simp only [s1, s2, u1, u2]) (by simp only [s1, s2, u1, u2]) (by simp only [s1, s2, u1, u2]) (by simp only [s1, s2, u1, u2])
          rw [← h2] at b2 ⊢
          exact ih _ _ _ (by omega) b2 (by rw [← eZ]; exact q2)
    · rw [if_neg e, if_neg e]
      exact ih _ _ _ (by omega) hB hR
