/-! the pure part: melt -/
theorem melt_loop {A : TA} {K : TK} {σ τ : GL} {T : TM} {F : FM} {U : TM} {G : FM} {P : CP} {M : MO} {H : SH} {Y : SX} {r n : Nat} (hG : RG σ H Y) (hd : sx_dy Y < 1000000) : ∀ k i v, i + k ≤ 1000 → l_Camp_melt_37 A K σ τ T F U G P (sh_hg H r) k i v = l_Model_meltsIn_5 M H Y r n k i v := by
  intro k
  induction k with
  | zero => intro i v _; rfl
  | succ k ih =>
    intro i v h
    rw [l_Camp_melt_37, l_Model_meltsIn_5]
    have e : s_Glacier_day σ = nI (sx_dy Y) := hG.rest.2.1
    rw [e, nI_add, nI_rem (by omega), warm_of hG (Nat.mod_lt _ (by decide))]
    exact ih _ _ (by omega)
theorem pos_of {x : Int32} (h : 1 ≤ x) : 0 ≤ x := by
  rw [Int32.le_iff_toInt_le] at *
  rw [show (1 : Int32).toInt = 1 from by decide] at h
  rw [show (0 : Int32).toInt = 0 from by decide]
  omega
theorem q_melt {A : TA} {K : TK} {σ τ : GL} {T : TM} {F : FM} {U : TM} {G : FM} {P : CP} {M : MO} {H : SH} {Y : SX} {x1 x2 : Int32} (hG : RG σ H Y) (hC : RC H) (hR : RR H Y) (hd : sx_dy Y < 1000000) : mo_th (s_Model_melt_0 M H Y x1 x2).2 = (if (s_Camp_melt A K σ τ T F U G P x1 x2).1 = 0 then 0 else if (s_Camp_melt A K σ τ T F U G P x1 x2).1 = 1 then 1 else 2) ∧ ((s_Camp_melt A K σ τ T F U G P x1 x2).1 = 0 → (s_Camp_melt A K σ τ T F U G P x1 x2).2 = (s_Model_melt_0 M H Y x1 x2).1) ∧ (RT A P M → RT A P (s_Model_melt_0 M H Y x1 x2).2) := by
  have e0 : (σ.1 0).2 = sh_ha H 0 := hG.n0
  have hM : sh_ha H 0 ≤ 1000 := by unfold RC at hC; omega
  unfold s_Camp_melt s_Model_melt_0 s_Model_no
  by_cases h1 : 0 ≤ x1 ∧ x1 < nI (sh_ha H 0)
  · rw [need_in e0 h1, is_in h1 hM, if00, if10, range_iff, isIn_iff]
    obtain ⟨r, hr, rfl⟩ := row_of hM (j_nlt.mpr h1.1) h1.2
    rw [nI_clamp (by omega), hG.rb.g_0_0 hr hC]
    by_cases h2 : 1 ≤ x2 ∧ x2 ≤ 60
    · rw [if_pos h2, if_pos h2, if00, if10]
      obtain ⟨b, hb, rfl⟩ := col_of (n := 60) (x := x2) (by decide) ⟨pos_of h2.1, h2.2⟩
      rw [nI_clamp (by omega)]
      exact ⟨rfl, fun _ => melt_loop hG hd b 0 0 (by omega), fun h => h⟩
    · rw [if_neg h2, if_neg h2, if20, if00]
      exact ⟨rfl, fun h => absurd h i20, fun h => h⟩
  · rw [need_out e0 h1, is_out h1 hM, if10, if00]
    exact ⟨rfl, fun h => absurd h i10, fun h => h⟩
