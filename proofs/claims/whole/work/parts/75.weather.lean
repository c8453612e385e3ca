/-! the pure part: a band's weather -/
theorem warm_todayB {σ : GL} {H : SH} {Y : SX} (hB : RB σ H Y) (hd : sx_dy Y < 1000000) : s_Glacier_warmthToday σ = s_State_warmth Y := by
  unfold s_Glacier_warmthToday s_State_warmth s_Glacier_warmthOf
  have hj := Nat.mod_lt (sx_dy Y) (show 8 > 0 by decide)
  rw [hB.2.2.2.2.2.2.2.1, nI_rem (by omega), if_neg (nI_pos (by omega)), if_neg (nI_ge hj (by decide)), nI_clamp (by omega)]
  exact hB.2.2.2.2.2.2.1 _ hj
theorem nI_3 (w : Nat) : (3 : Int32) * nI w = nI (3 * w) := (Int32.ofNat_mul 3 w).symm
theorem neg_half : ∀ w, w ≤ 40 → (nI w) / 2 = nI (w / 2) := half_b
theorem nI_negsub {a b : Nat} (h : a ≤ b) : -(nI a - nI b) = nI (b - a) := by
  rw [← nI_subn h]
  apply Int32.toBitVec_inj.mp
  show -((nI a).toBitVec - (nI b).toBitVec) = (nI b).toBitVec - (nI a).toBitVec
  generalize (nI a).toBitVec = x; generalize (nI b).toBitVec = y
  bv_omega
/-- a band's step of the reference's day -/
def stepW (M : MO) (H : SH) (Y : SX) (i : Nat) : SX := if ((s_State_warmth Y) - ((sh_hg H) i)) ≤ 0 then (if 0 ≤ ((s_State_warmth Y) - ((sh_hg H) i)) then Y else s_Model_snow M H Y i ((-((s_State_warmth Y) - ((sh_hg H) i))) / 2)) else (if 0 ≤ ((s_State_warmth Y) - ((sh_hg H) i)) then s_Model_melt_1 M H Y i ((s_State_warmth Y) - ((sh_hg H) i)) else s_Model_snow M H (s_Model_melt_1 M H Y i ((s_State_warmth Y) - ((sh_hg H) i))) i ((-((s_State_warmth Y) - ((sh_hg H) i))) / 2))
theorem snow_eq {σ : GL} {H : SH} {Y : SX} {M : MO} {r w s : Nat} (hB : RB σ H Y) (hC : RC H) (hR : RR H Y) (hr : r < sh_ha H 0) (hs : sx_sn Y r = nI s) (hs2 : s ≤ 300) (hw : w ≤ 20) : RB (s_Glacier_moveBridges (s_Glacier_moveStakes (gA σ 0 (nI r) 1 (nI (min w (300 - s)))) (nI r) (-(nI (min w (300 - s))))) (nI r) (nI (min w (300 - s)))) H (s_Model_snow M H Y r (nI w)) ∧ RR H (s_Model_snow M H Y r (nI w)) ∧ FR Y (s_Model_snow M H Y r (nI w)) := by
  have h0 : sh_ha H 0 ≤ 1000 := by unfold RC at hC; omega
  have e1 : iMin (nI w) (300 - sx_sn Y r) = nI (min w (300 - s)) := by
    rw [hs, show (300 : Int32) = nI 300 from rfl, nI_subn hs2, iMin_nI (by omega) (by omega)]
  unfold s_Model_snow
  rw [e1]
  obtain ⟨Y1, h1⟩ : ∃ Z, Z = sx_sn' Y (upd (sx_sn Y) r (sx_sn Y r + nI (min w (300 - s)))) := ⟨_, rfl⟩
  have f1 : FR Y Y1 := by rw [h1]; exact FR.sn
  have r1 : RR H Y1 := by rw [h1]; exact hR.w_sn (by rw [hs, nI_add]; exact ⟨_, rfl, by omega, by omega⟩)
  obtain ⟨σ1, c1⟩ : ∃ t, t = gA σ 0 (nI r) 1 (nI (min w (300 - s))) := ⟨_, rfl⟩
  have b1 : RB σ1 H Y1 := by rw [c1, gA_at (hB.g_0_1 hr hC), h1]; exact hB.w_0_1 hr h0
  rw [← c1, ← h1]
  have n1 : gN σ1 1 = sh_ha H 3 := b1.1.2.1
  obtain ⟨b2, r2⟩ := stakes_snow (M := M) (r := r) (w := min w (300 - s)) (x3 := nI w) hC (by omega) (sh_ha H 3) 0 σ1 Y1 (by omega) b1 r1
  have f2 := l_Model_snow_st_fr (H := H) (M := M) (r := r) (x3 := nI w) (ml := nI (min w (300 - s))) (sh_ha H 3) 0 Y1
  unfold s_Glacier_moveStakes
  rw [n1]
  generalize l_Glacier_moveStakes_2 (nI r) (-(nI (min w (300 - s)))) (sh_ha H 3) 0 σ1 = σ2 at b2 ⊢
  generalize l_Model_snow_st M H r (nI w) (nI (min w (300 - s))) (sh_ha H 3) 0 Y1 = Y2 at b2 r2 f2 ⊢
  have n2 : gN σ2 2 = sh_ha H 6 := b2.1.2.2.1
  obtain ⟨b3, r3⟩ := bridges_snow (M := M) (r := r) (w := min w (300 - s)) (x3 := nI w) hC (by omega) (sh_ha H 6) 0 σ2 Y2 (by omega) b2 r2
  have f3 := l_Model_snow_br_fr (H := H) (M := M) (r := r) (x3 := nI w) (ml := nI (min w (300 - s))) (sh_ha H 6) 0 Y2
  unfold s_Glacier_moveBridges
  rw [n2]
  exact ⟨b3, r3, (f1.tr f2).tr f3⟩
theorem melt_eq {σ : GL} {H : SH} {Y : SX} {M : MO} {r w s : Nat} (hB : RB σ H Y) (hC : RC H) (hR : RR H Y) (hr : r < sh_ha H 0) (hs : sx_sn Y r = nI s) (hs2 : s ≤ 300) (hw : w ≤ 30) : RB (s_Glacier_moveBridges (s_Glacier_moveStakes (gA (gA σ 0 (nI r) 1 (-(nI (min s (3 * w))))) 0 (nI r) 2 (nI (3 * w) - nI (min s (3 * w)))) (nI r) (nI (3 * w))) (nI r) (-(nI w))) H (s_Model_melt_1 M H Y r (nI w)) ∧ RR H (s_Model_melt_1 M H Y r (nI w)) ∧ FR Y (s_Model_melt_1 M H Y r (nI w)) := by
  have h0 : sh_ha H 0 ≤ 1000 := by unfold RC at hC; omega
  have e1 : iMin (nI (3 * w)) (sx_sn Y r) = nI (min s (3 * w)) := by
    rw [hs, iMin_nI (by omega) (by omega), Nat.min_comm]
  unfold s_Model_melt_1
  rw [nI_3, e1]
  obtain ⟨Y1, h1⟩ : ∃ Z, Z = sx_sn' Y (upd (sx_sn Y) r (sx_sn Y r - nI (min s (3 * w)))) := ⟨_, rfl⟩
  have f1 : FR Y Y1 := by rw [h1]; exact FR.sn
  have s1 := sx_set_sn h1
  have r1 : RR H Y1 := by rw [h1]; exact hR.w_sn (by rw [hs, nI_subn (by omega)]; exact ⟨_, rfl, by omega, by omega⟩)
  obtain ⟨σ1, c1⟩ : ∃ t, t = gA σ 0 (nI r) 1 (-(nI (min s (3 * w)))) := ⟨_, rfl⟩
  have b1 : RB σ1 H Y1 := by rw [c1, gA_at (hB.g_0_1 hr hC), ← Int32.sub_eq_add_neg, h1]; exact hB.w_0_1 hr h0
  have p1 : sx_ic Y1 = sx_ic Y := by simp only [s1]
  rw [← c1, ← h1, ← p1]
  obtain ⟨Y2, h2⟩ : ∃ Z, Z = sx_ic' Y1 (upd (sx_ic Y1) r (sx_ic Y1 r + (nI (3 * w) - nI (min s (3 * w))))) := ⟨_, rfl⟩
  have f2 : FR Y1 Y2 := by rw [h2]; exact FR.ic
  have r2 : RR H Y2 := by rw [h2]; exact r1
  obtain ⟨σ2, c2⟩ : ∃ t, t = gA σ1 0 (nI r) 2 (nI (3 * w) - nI (min s (3 * w))) := ⟨_, rfl⟩
  have b2 : RB σ2 H Y2 := by rw [c2, gA_at (b1.g_0_2 hr hC), h2]; exact b1.w_0_2 hr h0
  rw [← c2, ← h2]
  have n1 : gN σ2 1 = sh_ha H 3 := b2.1.2.1
  obtain ⟨b3, r3⟩ := stakes_melt (M := M) (r := r) (w := 3 * w) (x3 := nI w) hC (by omega) (sh_ha H 3) 0 σ2 Y2 (by omega) b2 r2
  have f3 := l_Model_melt_1_st_fr (H := H) (M := M) (r := r) (x3 := nI w) (ml := nI (3 * w)) (sh_ha H 3) 0 Y2
  unfold s_Glacier_moveStakes
  rw [n1]
  generalize l_Glacier_moveStakes_2 (nI r) (nI (3 * w)) (sh_ha H 3) 0 σ2 = σ3 at b3 ⊢
  generalize l_Model_melt_1_st M H r (nI w) (nI (3 * w)) (sh_ha H 3) 0 Y2 = Y3 at b3 r3 f3 ⊢
  have n2 : gN σ3 2 = sh_ha H 6 := b3.1.2.2.1
  obtain ⟨b4, r4⟩ := bridges_melt (M := M) (r := r) (w := w) hC (by omega) (sh_ha H 6) 0 σ3 Y3 (by omega) b3 r3
  have f4 := l_Model_melt_1_br_fr (H := H) (M := M) (r := r) (x3 := nI w) (sh_ha H 6) 0 Y3
  unfold s_Glacier_moveBridges
  rw [n2]
  exact ⟨b4, r4, ((f1.tr f2).tr f3).tr f4⟩
theorem weather_eq {σ : GL} {H : SH} {Y : SX} {M : MO} {r : Nat} (hB : RB σ H Y) (hC : RC H) (hR : RR H Y) (hd : sx_dy Y < 1000000) (hr : r < sh_ha H 0) : RB (s_Glacier_weather σ (nI r)) H (stepW M H Y r) ∧ RR H (stepW M H Y r) ∧ FR Y (stepW M H Y r) := by
  obtain ⟨⟨s, hs, -, hs2⟩, b, hb, -, hb2⟩ := hR.1.1 r hr
  obtain ⟨a, ha, -, ha2⟩ := hR.1.2 (sx_dy Y % 8) (Nat.mod_lt _ (by decide))
  have hwa : s_State_warmth Y = nI a := ha
  unfold s_Glacier_weather stepW
  rw [warm_todayB hB hd, hB.g_0_0 hr hC, hB.g_0_1 hr hC, hwa, hb, hs]
  by_cases h : b < a
  · rw [nI_subn (by omega : b ≤ a), if_neg (nI_nle (by omega) (by omega)), if_neg (nI_nle (by omega) (by omega)), if_pos (nI_pos' (by omega)), nI_3, iMin_nI (by omega) (by omega)]
    exact melt_eq hB hC hR hr hs hs2 (by omega)
  · have hm : nI a - nI b ≤ 0 := nI_sub_le (by omega) (by omega)
    have hx : iMin (nI ((b - a) / 2)) (300 - nI s) = nI (min ((b - a) / 2) (300 - s)) := by rw [show (300 : Int32) = nI 300 from rfl, nI_subn hs2, iMin_nI (by omega) (by omega)]
    rw [if_pos hm, if_pos hm, nI_negsub (by omega : a ≤ b), half_b _ (by omega), hx]
    obtain ⟨k1, k2, k3⟩ := snow_eq (M := M) hB hC hR hr hs hs2 (show (b - a) / 2 ≤ 20 by omega)
    by_cases e : a = b
    · subst e
      have e0 : nI a - nI a = 0 := by rw [nI_subn (Nat.le_refl a), Nat.sub_self, nI_0]
      rw [e0, if_pos (c := (0 : Int32) ≤ 0) (by decide)]
      have e2 : s_Model_snow M H Y r (nI ((a - a) / 2)) = Y := by
        rw [Nat.sub_self]
        unfold s_Model_snow
        have e1 : iMin (nI (0 / 2)) (300 - sx_sn Y r) = nI 0 := by
          rw [hs, show (300 : Int32) = nI 300 from rfl, nI_subn hs2, iMin_nI (by omega) (by omega)]
          rw [Nat.zero_div, Nat.zero_min]
        have e3 : sx_sn' Y (upd (sx_sn Y) r (sx_sn Y r + nI 0)) = Y := by rw [nI_0, upd_same]
        rw [e1, e3, snow_st0 hR _ _ (by omega), snow_br0 hR _ _ (by omega)]
      rw [e2] at k1
      exact ⟨k1, hR, FR.rf⟩
    · rw [if_neg (c := (0 : Int32) ≤ nI a - nI b)]
      · exact ⟨k1, k2, k3⟩
      · intro w
        have := nI_negsub (show a ≤ b by omega)
        have h2 : nI a - nI b = 0 := Int32.le_antisymm hm w
        rw [h2] at this
        have h3 : nI (b - a) = 0 := this.symm
        exact nI_ne0 (by omega) (by omega) h3
