/-! the reference's calls, over its own state -/
theorem vp_np {x : Int32} {n : Nat} (h0 : ¬ x < 0) (h1 : x.toNatClampNeg < n) : vp_in x n := fun w => w.elim h0 (fun w2 => absurd h1 (Nat.not_lt.mpr w2))
theorem isIn_ok {x a b : Int32} (h : ¬ s_Model_isIn x a b = 0) : ¬ x < a ∧ ¬ b < x := by
  unfold s_Model_isIn at h
  split at h
  · exact absurd rfl h
  · rename_i c
    split at h
    · exact absurd rfl h
    · rename_i c2
      exact ⟨c, c2⟩
theorem isIn_lt {x : Int32} {b n : Nat} (h : ¬ s_Model_isIn x 0 (nI b) = 0) (hn : b < n) (hn2 : n < 2 ^ 31) : x.toNatClampNeg < n := by
  obtain ⟨h1, h2⟩ := isIn_ok h
  obtain ⟨j, hj, rfl⟩ := nI_of h1
  rw [nI_clamp hj]
  rcases Nat.lt_or_ge b j with w | w
  · exact absurd ((nI_ltI (by omega) hj).mpr w) h2
  · omega
theorem ms_at_m {Γ : G9} {h : AH} {m q r sb ro : Nat} {M : MO} {H : SH} {Y : SX} (geo : m + 2 ≤ q ∧ m + 2 ≤ r ∧ (q + 24 ≤ r ∨ r + 21 ≤ q)) (hB : sh_ha H 0 ≤ 5) (hS : sh_ha H 3 ≤ 6) (hC : sh_ha H 6 ≤ 4) (hD : sh_ha H 9 ≤ 4) (hE : sh_ha H 11 ≤ 4) : (md_ Γ h m q r r sb ro M H Y) m = some (.inr (11, [.int (mo_th M), .ref (m + 1), .int (nI (mo_sz M)), .int (mo_ea M), .int (nI (mo_tk M)), .int (nI (mo_dp M)), .ref q, .ref r, .ref sb, .int (mo_wk M), .ref ro])) := by
  unfold md_
  exact ((blk_out (by omega)).trans ((blk_out (by omega)).trans (mo_g0)))
theorem d_Model_thrown_0 : decode M_Model_thrown.2.1 0 = .ok (.aload_n 0, 1) := by decide +kernel
theorem d_Model_thrown_1 : decode M_Model_thrown.2.1 1 = .ok (.getfield 37, 3) := by decide +kernel
theorem d_Model_thrown_4 : decode M_Model_thrown.2.1 4 = .ok (.ireturn, 1) := by decide +kernel
def s_Model_thrown (M : MO) (H : SH) (Y : SX) : Int32 := (mo_th M)
set_option maxRecDepth 100000 in
set_option maxHeartbeats 800000 in
theorem c_Model_thrown {Γ : G9} {h : AH} {m q r sb ro z : Nat} {M : MO} {H : SH} {Y : SX} (geo : m + 2 ≤ q ∧ m + 2 ≤ r ∧ (q + 24 ≤ r ∨ r + 21 ≤ q)) (hB : sh_ha H 0 ≤ 5) (hS : sh_ha H 3 ≤ 6) (hC : sh_ha H 6 ≤ 4) (hD : sh_ha H 9 ≤ 4) (hE : sh_ha H 11 ≤ 4) : CallR Γ M_Model_thrown 0 [.ref m] (md_ Γ h m q r r sb ro M H Y) z (some (.int (s_Model_thrown M H Y))) (md_ Γ h m q r r sb ro M H Y) := by
  refine Call.of_go (L := [some (.ref m)]) (by decide +kernel) rfl (by exact Nat.le_of_ble_eq_true rfl) ?_
  unfold s_Model_thrown
  refine Go.aload_0 d_Model_thrown_0 rfl ?_
  refine Go.getfield d_Model_thrown_1 rfl f_Model_37 (ms_at_m (by omega) hB hS hC hD hE) (by rfl) ?_
  exact Go.iret d_Model_thrown_4 rfl rfl ⟨rfl, rfl, rfl⟩
theorem ms_put_m_thrown {Γ : G9} {h : AH} {m q r sb ro : Nat} {M : MO} {H : SH} {Y : SX} {v : Int32} (geo : m + 2 ≤ q ∧ m + 2 ≤ r ∧ (q + 24 ≤ r ∨ r + 21 ≤ q)) (hB : sh_ha H 0 ≤ 5) (hS : sh_ha H 3 ≤ 6) (hC : sh_ha H 6 ≤ 4) (hD : sh_ha H 9 ≤ 4) (hE : sh_ha H 11 ≤ 4) : hup (md_ Γ h m q r r sb ro M H Y) m (.inr (11, [.int (mo_th M), .ref (m + 1), .int (nI (mo_sz M)), .int (mo_ea M), .int (nI (mo_tk M)), .int (nI (mo_dp M)), .ref q, .ref r, .ref sb, .int (mo_wk M), .ref ro].set 0 (.int v))) = (md_ Γ h m q r r sb ro (mo_th' M v) H Y) := by
  unfold md_
  exact ((hup_blk (by omega)).trans (blk_in ((hup_blk (by omega)).trans (blk_in (mo_p_th (v := v))))))
theorem d_Model_no_0 : decode M_Model_no.2.1 0 = .ok (.aload_n 0, 1) := by decide +kernel
theorem d_Model_no_1 : decode M_Model_no.2.1 1 = .ok (.iload_n 1, 1) := by decide +kernel
theorem d_Model_no_2 : decode M_Model_no.2.1 2 = .ok (.putfield 37, 3) := by decide +kernel
theorem d_Model_no_5 : decode M_Model_no.2.1 5 = .ok (.iconst 0, 1) := by decide +kernel
theorem d_Model_no_6 : decode M_Model_no.2.1 6 = .ok (.ireturn, 1) := by decide +kernel
def s_Model_no (M : MO) (H : SH) (Y : SX) (x1 : Int32) : Int32 × MO := (0, (mo_th' M x1))
set_option maxRecDepth 100000 in
set_option maxHeartbeats 800000 in
theorem c_Model_no {Γ : G9} {h : AH} {m q r sb ro z : Nat} {M : MO} {H : SH} {Y : SX} {x1 : Int32} (geo : m + 2 ≤ q ∧ m + 2 ≤ r ∧ (q + 24 ≤ r ∨ r + 21 ≤ q)) (hB : sh_ha H 0 ≤ 5) (hS : sh_ha H 3 ≤ 6) (hC : sh_ha H 6 ≤ 4) (hD : sh_ha H 9 ≤ 4) (hE : sh_ha H 11 ≤ 4) : CallR Γ M_Model_no 0 [.ref m, .int x1] (md_ Γ h m q r r sb ro M H Y) z (some (.int (s_Model_no M H Y x1).1)) (md_ Γ h m q r r sb ro (s_Model_no M H Y x1).2 H Y) := by
  refine Call.of_go (L := [some (.ref m), some (.int x1)]) (by decide +kernel) rfl (by exact Nat.le_of_ble_eq_true rfl) ?_
  unfold s_Model_no
  refine Go.aload_0 d_Model_no_0 rfl ?_
  refine Go.iload_1 d_Model_no_1 rfl ?_
  refine Go.putfield d_Model_no_2 rfl f_Model_37_p (Or.inl (fun C T N h => by cases h; rfl)) (ms_at_m (by omega) hB hS hC hD hE) (by exact Nat.le_of_ble_eq_true rfl) rfl rfl ?_
  refine Go.heq (ms_put_m_thrown (by omega) hB hS hC hD hE) ?_
  refine Go.iconst (v := 0) d_Model_no_5 rfl (by decide) ?_
  exact Go.iret d_Model_no_6 rfl rfl ⟨rfl, by dsimp only, rfl⟩
theorem ms_at_q {Γ : G9} {h : AH} {m q r sb ro : Nat} {M : MO} {H : SH} {Y : SX} (geo : m + 2 ≤ q ∧ m + 2 ≤ r ∧ (q + 24 ≤ r ∨ r + 21 ≤ q)) (hB : sh_ha H 0 ≤ 5) (hS : sh_ha H 3 ≤ 6) (hC : sh_ha H 6 ≤ 4) (hD : sh_ha H 9 ≤ 4) (hE : sh_ha H 11 ≤ 4) : (md_ Γ h m q r r sb ro M H Y) q = some (.inr (9, [.ref (q + 1), .ref (q + 2), .ref (q + 3), .ref (q + 4), .ref (q + 5), .ref (q + 6), .int (sh_ln H), .ref (q + 7), .ref (q + 8), .ref (q + 9), .ref (q + 10), .ref (q + 11), .ref (q + 12), .ref (q + 13), .ref (q + 14), .ref (q + 15), .ref (q + 16), .ref (q + 17), .ref (q + 18), .int (sh_dt H), .int (nI (sh_or H)), .ref (q + 19), .ref (q + 20), .ref (q + 21), .ref (q + 22), .ref (q + 23)])) := by
  unfold md_
  exact ((blk_out (by omega)).trans (sh_g0))
theorem ms_at_q_5 {Γ : G9} {h : AH} {m q r sb ro : Nat} {M : MO} {H : SH} {Y : SX} (geo : m + 2 ≤ q ∧ m + 2 ≤ r ∧ (q + 24 ≤ r ∨ r + 21 ≤ q)) (hB : sh_ha H 0 ≤ 5) (hS : sh_ha H 3 ≤ 6) (hC : sh_ha H 6 ≤ 4) (hD : sh_ha H 9 ≤ 4) (hE : sh_ha H 11 ≤ 4) : (md_ Γ h m q r r sb ro M H Y) (q + 5) = some (aI Γ 12 (fun j => nI ((sh_ha H) j))) := by
  unfold md_
  exact ((blk_out (by omega)).trans (sh_g5))
theorem ms_c_Model_isIn_ {Γ : G9} {h : AH} {m q r sb ro z : Nat} {M : MO} {H : SH} {Y : SX} {x1 : Int32} {x2 : Int32} {x3 : Int32} (geo : m + 2 ≤ q ∧ m + 2 ≤ r ∧ (q + 24 ≤ r ∨ r + 21 ≤ q)) (hB : sh_ha H 0 ≤ 5) (hS : sh_ha H 3 ≤ 6) (hC : sh_ha H 6 ≤ 4) (hD : sh_ha H 9 ≤ 4) (hE : sh_ha H 11 ≤ 4) : CallR Γ M_Model_isIn 0 [.int x1, .int x2, .int x3] (md_ Γ h m q r r sb ro M H Y) z (some (.int (s_Model_isIn x1 x2 x3))) (md_ Γ h m q r r sb ro M H Y) := by
  unfold md_
  exact CallR.conv rfl rfl (c_Model_isIn)
theorem d_Model_is_0 : decode M_Model_is.2.1 0 = .ok (.iload_n 2, 1) := by decide +kernel
theorem d_Model_is_1 : decode M_Model_is.2.1 1 = .ok (.iconst 0, 1) := by decide +kernel
theorem d_Model_is_2 : decode M_Model_is.2.1 2 = .ok (.aload_n 0, 1) := by decide +kernel
theorem d_Model_is_3 : decode M_Model_is.2.1 3 = .ok (.getfield 20, 3) := by decide +kernel
theorem d_Model_is_6 : decode M_Model_is.2.1 6 = .ok (.getfield 40, 3) := by decide +kernel
theorem d_Model_is_9 : decode M_Model_is.2.1 9 = .ok (.iload_n 1, 1) := by decide +kernel
theorem d_Model_is_10 : decode M_Model_is.2.1 10 = .ok (.iaload, 1) := by decide +kernel
theorem d_Model_is_11 : decode M_Model_is.2.1 11 = .ok (.iconst 1, 1) := by decide +kernel
theorem d_Model_is_12 : decode M_Model_is.2.1 12 = .ok (.isub, 1) := by decide +kernel
theorem d_Model_is_13 : decode M_Model_is.2.1 13 = .ok (.invokestatic 43, 3) := by decide +kernel
theorem d_Model_is_16 : decode M_Model_is.2.1 16 = .ok (.ireturn, 1) := by decide +kernel
def s_Model_is (M : MO) (H : SH) (Y : SX) (x1 : Nat) (x2 : Int32) : Int32 := (s_Model_isIn x2 0 ((nI ((sh_ha H) x1)) - 1))
set_option maxRecDepth 100000 in
set_option maxHeartbeats 800000 in
theorem c_Model_is {Γ : G9} {h : AH} {m q r sb ro z : Nat} {M : MO} {H : SH} {Y : SX} {x1 : Nat} {vx1 : Int32} {x2 : Int32} (ex1 : vx1 = nI x1) (bx1 : x1 < 12) (geo : m + 2 ≤ q ∧ m + 2 ≤ r ∧ (q + 24 ≤ r ∨ r + 21 ≤ q)) (hB : sh_ha H 0 ≤ 5) (hS : sh_ha H 3 ≤ 6) (hC : sh_ha H 6 ≤ 4) (hD : sh_ha H 9 ≤ 4) (hE : sh_ha H 11 ≤ 4) : CallR Γ M_Model_is 1 [.ref m, .int vx1, .int x2] (md_ Γ h m q r r sb ro M H Y) z (some (.int (s_Model_is M H Y x1 x2))) (md_ Γ h m q r r sb ro M H Y) := by
  subst ex1
  refine Call.of_go (L := [some (.ref m), some (.int (nI x1)), some (.int x2)]) (by decide +kernel) rfl (by exact Nat.le_of_ble_eq_true rfl) ?_
  unfold s_Model_is
  refine Go.iload_2 d_Model_is_0 rfl ?_
  refine Go.iconst (v := 0) d_Model_is_1 rfl (by decide) ?_
  refine Go.aload_0 d_Model_is_2 rfl ?_
  refine Go.getfield d_Model_is_3 rfl f_Model_20 (ms_at_m (by omega) hB hS hC hD hE) (by rfl) ?_
  refine Go.getfield d_Model_is_6 rfl f_Model_40 (ms_at_q (by omega) hB hS hC hD hE) (by rfl) ?_
  refine Go.iload_1 d_Model_is_9 rfl ?_
  refine Go.iaload d_Model_is_10 rfl (ms_at_q_5 (by omega) hB hS hC hD hE) (show vp_in (nI x1) 12 from by first | exact vp_in_nI (by omega) (by omega) | exact vp_nle (by assumption) (by omega) (by omega)) ?_
  rw [nI_clamp (show x1 < 2 ^ 31 by omega)]
  refine Go.iconst (v := 1) d_Model_is_11 rfl (by decide) ?_
  refine Go.isub d_Model_is_12 rfl ?_
  refine Go.cs3r d_Model_is_13 rfl l_Model_43 k_Model_isIn_s rfl (ms_c_Model_isIn_ (by omega) hB hS hC hD hE) (Nat.ble_eq_true_of_le (by omega)) rfl rfl ?_
  exact Go.iret d_Model_is_16 rfl (nb (s_Model_isIn_01 ..)) ⟨rfl, rfl, rfl⟩
set_option maxRecDepth 100000 in
set_option maxHeartbeats 800000 in
theorem s_Model_is_01 (M : MO) (H : SH) (Y : SX) (x1 : Nat) (x2 : Int32) : (s_Model_is M H Y x1 x2) = 0 ∨ (s_Model_is M H Y x1 x2) = 1 := by
  unfold s_Model_is
  exact s_Model_isIn_01 ..
theorem is_ok {M : MO} {H : SH} {Y : SX} {k : Nat} {x : Int32} (h : ¬ s_Model_is M H Y k x = 0) : ¬ x < 0 ∧ ¬ (nI (sh_ha H k) - 1) < x := isIn_ok h
theorem is_lt {M : MO} {H : SH} {Y : SX} {k n : Nat} {x : Int32} (h : ¬ s_Model_is M H Y k x = 0) (hb : sh_ha H k ≤ n) (hn : n < 2 ^ 31) : x.toNatClampNeg < n := by
  obtain ⟨h1, h2⟩ := is_ok h
  obtain ⟨j, hj, rfl⟩ := nI_of h1
  rw [nI_clamp hj]
  cases e : sh_ha H k with
  | zero =>
    rw [e] at h2
    exact absurd (Int32.lt_of_lt_of_le (show nI 0 - 1 < 0 by decide) (nI_pos' hj)) h2
  | succ c =>
    rw [e, nI_pred] at h2
    rcases Nat.lt_or_ge c j with w | w
    · exact absurd ((nI_ltI (by omega) hj).mpr w) h2
    · omega
theorem d_Model_errorAt_0 : decode M_Model_errorAt.2.1 0 = .ok (.aload_n 0, 1) := by decide +kernel
theorem d_Model_errorAt_1 : decode M_Model_errorAt.2.1 1 = .ok (.iconst 0, 1) := by decide +kernel
theorem d_Model_errorAt_2 : decode M_Model_errorAt.2.1 2 = .ok (.putfield 37, 3) := by decide +kernel
theorem d_Model_errorAt_5 : decode M_Model_errorAt.2.1 5 = .ok (.aload_n 0, 1) := by decide +kernel
theorem d_Model_errorAt_6 : decode M_Model_errorAt.2.1 6 = .ok (.getfield 13, 3) := by decide +kernel
theorem d_Model_errorAt_9 : decode M_Model_errorAt.2.1 9 = .ok (.ireturn, 1) := by decide +kernel
def s_Model_errorAt (M : MO) (H : SH) (Y : SX) : Int32 × MO := ((mo_ea M), (mo_th' M 0))
set_option maxRecDepth 100000 in
set_option maxHeartbeats 800000 in
theorem c_Model_errorAt {Γ : G9} {h : AH} {m q r sb ro z : Nat} {M : MO} {H : SH} {Y : SX} (geo : m + 2 ≤ q ∧ m + 2 ≤ r ∧ (q + 24 ≤ r ∨ r + 21 ≤ q)) (hB : sh_ha H 0 ≤ 5) (hS : sh_ha H 3 ≤ 6) (hC : sh_ha H 6 ≤ 4) (hD : sh_ha H 9 ≤ 4) (hE : sh_ha H 11 ≤ 4) : CallR Γ M_Model_errorAt 0 [.ref m] (md_ Γ h m q r r sb ro M H Y) z (some (.int (s_Model_errorAt M H Y).1)) (md_ Γ h m q r r sb ro (s_Model_errorAt M H Y).2 H Y) := by
  refine Call.of_go (L := [some (.ref m)]) (by decide +kernel) rfl (by exact Nat.le_of_ble_eq_true rfl) ?_
  unfold s_Model_errorAt
  refine Go.aload_0 d_Model_errorAt_0 rfl ?_
  refine Go.iconst (v := 0) d_Model_errorAt_1 rfl (by decide) ?_
  refine Go.putfield d_Model_errorAt_2 rfl f_Model_37_p (Or.inl (fun C T N h => by cases h; rfl)) (ms_at_m (by omega) hB hS hC hD hE) (by exact Nat.le_of_ble_eq_true rfl) rfl rfl ?_
  refine Go.heq (ms_put_m_thrown (by omega) hB hS hC hD hE) ?_
  refine Go.aload_0 d_Model_errorAt_5 rfl ?_
  refine Go.getfield d_Model_errorAt_6 rfl f_Model_13 (ms_at_m (by omega) hB hS hC hD hE) (by rfl) ?_
  exact Go.iret d_Model_errorAt_9 rfl rfl ⟨rfl, by dsimp only, rfl⟩
theorem ms_at_q_9 {Γ : G9} {h : AH} {m q r sb ro : Nat} {M : MO} {H : SH} {Y : SX} (geo : m + 2 ≤ q ∧ m + 2 ≤ r ∧ (q + 24 ≤ r ∨ r + 21 ≤ q)) (hB : sh_ha H 0 ≤ 5) (hS : sh_ha H 3 ≤ 6) (hC : sh_ha H 6 ≤ 4) (hD : sh_ha H 9 ≤ 4) (hE : sh_ha H 11 ≤ 4) : (md_ Γ h m q r r sb ro M H Y) (q + 9) = some (aI Γ 6 (sh_si H)) := by
  unfold md_
  exact ((blk_out (by omega)).trans (sh_g9))
theorem ms_at_q_10 {Γ : G9} {h : AH} {m q r sb ro : Nat} {M : MO} {H : SH} {Y : SX} (geo : m + 2 ≤ q ∧ m + 2 ≤ r ∧ (q + 24 ≤ r ∨ r + 21 ≤ q)) (hB : sh_ha H 0 ≤ 5) (hS : sh_ha H 3 ≤ 6) (hC : sh_ha H 6 ≤ 4) (hD : sh_ha H 9 ≤ 4) (hE : sh_ha H 11 ≤ 4) : (md_ Γ h m q r r sb ro M H Y) (q + 10) = some (aI Γ 6 (sh_dp H)) := by
  unfold md_
  exact ((blk_out (by omega)).trans (sh_g10))
theorem ms_at_r {Γ : G9} {h : AH} {m q r sb ro : Nat} {M : MO} {H : SH} {Y : SX} (geo : m + 2 ≤ q ∧ m + 2 ≤ r ∧ (q + 24 ≤ r ∨ r + 21 ≤ q)) (hB : sh_ha H 0 ≤ 5) (hS : sh_ha H 3 ≤ 6) (hC : sh_ha H 6 ≤ 4) (hD : sh_ha H 9 ≤ 4) (hE : sh_ha H 11 ≤ 4) : (md_ Γ h m q r r sb ro M H Y) r = some (.inr (10, [.int (nI (sx_dy Y)), .int (sx_rd Y), .int (sx_fa Y), .int (sx_ca Y), .ref (r + 1), .ref (r + 2), .ref (r + 3), .ref (r + 4), .ref (r + 5), .ref (r + 6), .ref (r + 7), .ref (r + 8), .ref (r + 9), .ref (r + 10), .ref (r + 11), .ref (r + 12), .ref (r + 13), .ref (r + 14), .ref (r + 15), .ref (r + 16), .ref (r + 17), .ref (r + 18), .ref (r + 19), .ref (r + 20)])) := by
  unfold md_
  exact (sx_g0)
theorem ms_at_r_4 {Γ : G9} {h : AH} {m q r sb ro : Nat} {M : MO} {H : SH} {Y : SX} (geo : m + 2 ≤ q ∧ m + 2 ≤ r ∧ (q + 24 ≤ r ∨ r + 21 ≤ q)) (hB : sh_ha H 0 ≤ 5) (hS : sh_ha H 3 ≤ 6) (hC : sh_ha H 6 ≤ 4) (hD : sh_ha H 9 ≤ 4) (hE : sh_ha H 11 ≤ 4) : (md_ Γ h m q r r sb ro M H Y) (r + 4) = some (aI Γ 6 (sx_ou Y)) := by
  unfold md_
  exact (sx_g4)
theorem ms_at_r_5 {Γ : G9} {h : AH} {m q r sb ro : Nat} {M : MO} {H : SH} {Y : SX} (geo : m + 2 ≤ q ∧ m + 2 ≤ r ∧ (q + 24 ≤ r ∨ r + 21 ≤ q)) (hB : sh_ha H 0 ≤ 5) (hS : sh_ha H 3 ≤ 6) (hC : sh_ha H 6 ≤ 4) (hD : sh_ha H 9 ≤ 4) (hE : sh_ha H 11 ≤ 4) : (md_ Γ h m q r r sb ro M H Y) (r + 5) = some (aI Γ 6 (sx_sd Y)) := by
  unfold md_
  exact (sx_g5)
theorem ms_at_r_6 {Γ : G9} {h : AH} {m q r sb ro : Nat} {M : MO} {H : SH} {Y : SX} (geo : m + 2 ≤ q ∧ m + 2 ≤ r ∧ (q + 24 ≤ r ∨ r + 21 ≤ q)) (hB : sh_ha H 0 ≤ 5) (hS : sh_ha H 3 ≤ 6) (hC : sh_ha H 6 ≤ 4) (hD : sh_ha H 9 ≤ 4) (hE : sh_ha H 11 ≤ 4) : (md_ Γ h m q r r sb ro M H Y) (r + 6) = some (aI Γ 6 (sx_la Y)) := by
  unfold md_
  exact (sx_g6)
theorem ms_at_r_7 {Γ : G9} {h : AH} {m q r sb ro : Nat} {M : MO} {H : SH} {Y : SX} (geo : m + 2 ≤ q ∧ m + 2 ≤ r ∧ (q + 24 ≤ r ∨ r + 21 ≤ q)) (hB : sh_ha H 0 ≤ 5) (hS : sh_ha H 3 ≤ 6) (hC : sh_ha H 6 ≤ 4) (hD : sh_ha H 9 ≤ 4) (hE : sh_ha H 11 ≤ 4) : (md_ Γ h m q r r sb ro M H Y) (r + 7) = some (aI Γ 6 (sx_re Y)) := by
  unfold md_
  exact (sx_g7)
theorem d_Model_stakeTold_0 : decode M_Model_stakeTold.2.1 0 = .ok (.iload_n 2, 1) := by decide +kernel
theorem d_Model_stakeTold_1 : decode M_Model_stakeTold.2.1 1 = .ok (.tableswitch 85 0 4 #[35, 45, 55, 65, 75], 35) := by decide +kernel
theorem d_Model_stakeTold_36 : decode M_Model_stakeTold.2.1 36 = .ok (.aload_n 0, 1) := by decide +kernel
theorem d_Model_stakeTold_37 : decode M_Model_stakeTold.2.1 37 = .ok (.getfield 20, 3) := by decide +kernel
theorem d_Model_stakeTold_40 : decode M_Model_stakeTold.2.1 40 = .ok (.getfield 178, 3) := by decide +kernel
theorem d_Model_stakeTold_43 : decode M_Model_stakeTold.2.1 43 = .ok (.iload_n 1, 1) := by decide +kernel
theorem d_Model_stakeTold_44 : decode M_Model_stakeTold.2.1 44 = .ok (.iaload, 1) := by decide +kernel
theorem d_Model_stakeTold_45 : decode M_Model_stakeTold.2.1 45 = .ok (.ireturn, 1) := by decide +kernel
theorem d_Model_stakeTold_46 : decode M_Model_stakeTold.2.1 46 = .ok (.aload_n 0, 1) := by decide +kernel
theorem d_Model_stakeTold_47 : decode M_Model_stakeTold.2.1 47 = .ok (.getfield 20, 3) := by decide +kernel
theorem d_Model_stakeTold_50 : decode M_Model_stakeTold.2.1 50 = .ok (.getfield 210, 3) := by decide +kernel
theorem d_Model_stakeTold_53 : decode M_Model_stakeTold.2.1 53 = .ok (.iload_n 1, 1) := by decide +kernel
theorem d_Model_stakeTold_54 : decode M_Model_stakeTold.2.1 54 = .ok (.iaload, 1) := by decide +kernel
theorem d_Model_stakeTold_55 : decode M_Model_stakeTold.2.1 55 = .ok (.ireturn, 1) := by decide +kernel
theorem d_Model_stakeTold_56 : decode M_Model_stakeTold.2.1 56 = .ok (.aload_n 0, 1) := by decide +kernel
theorem d_Model_stakeTold_57 : decode M_Model_stakeTold.2.1 57 = .ok (.getfield 27, 3) := by decide +kernel
theorem d_Model_stakeTold_60 : decode M_Model_stakeTold.2.1 60 = .ok (.getfield 304, 3) := by decide +kernel
theorem d_Model_stakeTold_63 : decode M_Model_stakeTold.2.1 63 = .ok (.iload_n 1, 1) := by decide +kernel
theorem d_Model_stakeTold_64 : decode M_Model_stakeTold.2.1 64 = .ok (.iaload, 1) := by decide +kernel
theorem d_Model_stakeTold_65 : decode M_Model_stakeTold.2.1 65 = .ok (.ireturn, 1) := by decide +kernel
theorem d_Model_stakeTold_66 : decode M_Model_stakeTold.2.1 66 = .ok (.aload_n 0, 1) := by decide +kernel
theorem d_Model_stakeTold_67 : decode M_Model_stakeTold.2.1 67 = .ok (.getfield 27, 3) := by decide +kernel
theorem d_Model_stakeTold_70 : decode M_Model_stakeTold.2.1 70 = .ok (.getfield 277, 3) := by decide +kernel
theorem d_Model_stakeTold_73 : decode M_Model_stakeTold.2.1 73 = .ok (.iload_n 1, 1) := by decide +kernel
theorem d_Model_stakeTold_74 : decode M_Model_stakeTold.2.1 74 = .ok (.iaload, 1) := by decide +kernel
theorem d_Model_stakeTold_75 : decode M_Model_stakeTold.2.1 75 = .ok (.ireturn, 1) := by decide +kernel
theorem d_Model_stakeTold_76 : decode M_Model_stakeTold.2.1 76 = .ok (.aload_n 0, 1) := by decide +kernel
theorem d_Model_stakeTold_77 : decode M_Model_stakeTold.2.1 77 = .ok (.getfield 27, 3) := by decide +kernel
theorem d_Model_stakeTold_80 : decode M_Model_stakeTold.2.1 80 = .ok (.getfield 394, 3) := by decide +kernel
theorem d_Model_stakeTold_83 : decode M_Model_stakeTold.2.1 83 = .ok (.iload_n 1, 1) := by decide +kernel
theorem d_Model_stakeTold_84 : decode M_Model_stakeTold.2.1 84 = .ok (.iaload, 1) := by decide +kernel
theorem d_Model_stakeTold_85 : decode M_Model_stakeTold.2.1 85 = .ok (.ireturn, 1) := by decide +kernel
theorem d_Model_stakeTold_86 : decode M_Model_stakeTold.2.1 86 = .ok (.aload_n 0, 1) := by decide +kernel
theorem d_Model_stakeTold_87 : decode M_Model_stakeTold.2.1 87 = .ok (.getfield 27, 3) := by decide +kernel
theorem d_Model_stakeTold_90 : decode M_Model_stakeTold.2.1 90 = .ok (.getfield 397, 3) := by decide +kernel
theorem d_Model_stakeTold_93 : decode M_Model_stakeTold.2.1 93 = .ok (.iload_n 1, 1) := by decide +kernel
theorem d_Model_stakeTold_94 : decode M_Model_stakeTold.2.1 94 = .ok (.iaload, 1) := by decide +kernel
theorem d_Model_stakeTold_95 : decode M_Model_stakeTold.2.1 95 = .ok (.ireturn, 1) := by decide +kernel
def s_Model_stakeTold (M : MO) (H : SH) (Y : SX) (x1 : Nat) (x2 : Int32) : Int32 := (if x2 = 0 then ((sh_si H) x1) else (if x2 = 1 then ((sh_dp H) x1) else (if x2 = 2 then ((sx_ou Y) x1) else (if x2 = 3 then ((sx_sd Y) x1) else (if x2 = 4 then ((sx_la Y) x1) else ((sx_re Y) x1))))))
set_option maxRecDepth 100000 in
set_option maxHeartbeats 800000 in
theorem c_Model_stakeTold {Γ : G9} {h : AH} {m q r sb ro z : Nat} {M : MO} {H : SH} {Y : SX} {x1 : Nat} {vx1 : Int32} {x2 : Int32} (ex1 : vx1 = nI x1) (bx1 : x1 < 6) (geo : m + 2 ≤ q ∧ m + 2 ≤ r ∧ (q + 24 ≤ r ∨ r + 21 ≤ q)) (hB : sh_ha H 0 ≤ 5) (hS : sh_ha H 3 ≤ 6) (hC : sh_ha H 6 ≤ 4) (hD : sh_ha H 9 ≤ 4) (hE : sh_ha H 11 ≤ 4) : CallR Γ M_Model_stakeTold 0 [.ref m, .int vx1, .int x2] (md_ Γ h m q r r sb ro M H Y) z (some (.int (s_Model_stakeTold M H Y x1 x2))) (md_ Γ h m q r r sb ro M H Y) := by
  subst ex1
  refine Call.of_go (L := [some (.ref m), some (.int (nI x1)), some (.int x2)]) (by decide +kernel) rfl (by exact Nat.le_of_ble_eq_true rfl) ?_
  unfold s_Model_stakeTold
  refine Go.iload_2 d_Model_stakeTold_0 rfl ?_
  by_cases w1_1 : x2 = 0
  · refine Go.tsw (t := 36) d_Model_stakeTold_1 (by rw [w1_1]; rfl) ?_
    refine Go.aload_0 d_Model_stakeTold_36 rfl ?_
    refine Go.getfield d_Model_stakeTold_37 rfl f_Model_20 (ms_at_m (by omega) hB hS hC hD hE) (by rfl) ?_
    refine Go.getfield d_Model_stakeTold_40 rfl f_Model_178 (ms_at_q (by omega) hB hS hC hD hE) (by rfl) ?_
    refine Go.iload_1 d_Model_stakeTold_43 rfl ?_
    refine Go.iaload d_Model_stakeTold_44 rfl (ms_at_q_9 (by omega) hB hS hC hD hE) (show vp_in (nI x1) 6 from by first | exact vp_in_nI (by omega) (by omega) | exact vp_nle (by assumption) (by omega) (by omega)) ?_
    rw [nI_clamp (show x1 < 2 ^ 31 by omega)]
    rw [if_pos w1_1]
    exact Go.iret d_Model_stakeTold_45 rfl rfl ⟨rfl, rfl, rfl⟩
  by_cases w1_2 : x2 = 1
  · refine Go.tsw (t := 46) d_Model_stakeTold_1 (by rw [w1_2]; rfl) ?_
    refine Go.aload_0 d_Model_stakeTold_46 rfl ?_
    refine Go.getfield d_Model_stakeTold_47 rfl f_Model_20 (ms_at_m (by omega) hB hS hC hD hE) (by rfl) ?_
    refine Go.getfield d_Model_stakeTold_50 rfl f_Model_210 (ms_at_q (by omega) hB hS hC hD hE) (by rfl) ?_
    refine Go.iload_1 d_Model_stakeTold_53 rfl ?_
    refine Go.iaload d_Model_stakeTold_54 rfl (ms_at_q_10 (by omega) hB hS hC hD hE) (show vp_in (nI x1) 6 from by first | exact vp_in_nI (by omega) (by omega) | exact vp_nle (by assumption) (by omega) (by omega)) ?_
    rw [nI_clamp (show x1 < 2 ^ 31 by omega)]
    rw [if_neg w1_1, if_pos w1_2]
    exact Go.iret d_Model_stakeTold_55 rfl rfl ⟨rfl, rfl, rfl⟩
  by_cases w1_3 : x2 = 2
  · refine Go.tsw (t := 56) d_Model_stakeTold_1 (by rw [w1_3]; rfl) ?_
    refine Go.aload_0 d_Model_stakeTold_56 rfl ?_
    refine Go.getfield d_Model_stakeTold_57 rfl f_Model_27 (ms_at_m (by omega) hB hS hC hD hE) (by rfl) ?_
    refine Go.getfield d_Model_stakeTold_60 rfl f_Model_304 (ms_at_r (by omega) hB hS hC hD hE) (by rfl) ?_
    refine Go.iload_1 d_Model_stakeTold_63 rfl ?_
    refine Go.iaload d_Model_stakeTold_64 rfl (ms_at_r_4 (by omega) hB hS hC hD hE) (show vp_in (nI x1) 6 from by first | exact vp_in_nI (by omega) (by omega) | exact vp_nle (by assumption) (by omega) (by omega)) ?_
    rw [nI_clamp (show x1 < 2 ^ 31 by omega)]
    rw [if_neg w1_1, if_neg w1_2, if_pos w1_3]
    exact Go.iret d_Model_stakeTold_65 rfl rfl ⟨rfl, rfl, rfl⟩
  by_cases w1_4 : x2 = 3
  · refine Go.tsw (t := 66) d_Model_stakeTold_1 (by rw [w1_4]; rfl) ?_
    refine Go.aload_0 d_Model_stakeTold_66 rfl ?_
    refine Go.getfield d_Model_stakeTold_67 rfl f_Model_27 (ms_at_m (by omega) hB hS hC hD hE) (by rfl) ?_
    refine Go.getfield d_Model_stakeTold_70 rfl f_Model_277 (ms_at_r (by omega) hB hS hC hD hE) (by rfl) ?_
    refine Go.iload_1 d_Model_stakeTold_73 rfl ?_
    refine Go.iaload d_Model_stakeTold_74 rfl (ms_at_r_5 (by omega) hB hS hC hD hE) (show vp_in (nI x1) 6 from by first | exact vp_in_nI (by omega) (by omega) | exact vp_nle (by assumption) (by omega) (by omega)) ?_
    rw [nI_clamp (show x1 < 2 ^ 31 by omega)]
    rw [if_neg w1_1, if_neg w1_2, if_neg w1_3, if_pos w1_4]
    exact Go.iret d_Model_stakeTold_75 rfl rfl ⟨rfl, rfl, rfl⟩
  by_cases w1_5 : x2 = 4
  · refine Go.tsw (t := 76) d_Model_stakeTold_1 (by rw [w1_5]; rfl) ?_
    refine Go.aload_0 d_Model_stakeTold_76 rfl ?_
    refine Go.getfield d_Model_stakeTold_77 rfl f_Model_27 (ms_at_m (by omega) hB hS hC hD hE) (by rfl) ?_
    refine Go.getfield d_Model_stakeTold_80 rfl f_Model_394 (ms_at_r (by omega) hB hS hC hD hE) (by rfl) ?_
    refine Go.iload_1 d_Model_stakeTold_83 rfl ?_
    refine Go.iaload d_Model_stakeTold_84 rfl (ms_at_r_6 (by omega) hB hS hC hD hE) (show vp_in (nI x1) 6 from by first | exact vp_in_nI (by omega) (by omega) | exact vp_nle (by assumption) (by omega) (by omega)) ?_
    rw [nI_clamp (show x1 < 2 ^ 31 by omega)]
    rw [if_neg w1_1, if_neg w1_2, if_neg w1_3, if_neg w1_4, if_pos w1_5]
    exact Go.iret d_Model_stakeTold_85 rfl rfl ⟨rfl, rfl, rfl⟩
  refine Go.tsw (t := 86) d_Model_stakeTold_1 (tsw_out fun n hn => by
      match n, hn with
      | 0, _ => exact fun w => w1_1 (i32_eq w)
      | 1, _ => exact fun w => w1_2 (i32_eq w)
      | 2, _ => exact fun w => w1_3 (i32_eq w)
      | 3, _ => exact fun w => w1_4 (i32_eq w)
      | 4, _ => exact fun w => w1_5 (i32_eq w)
      | _ + 5, w => exact absurd w (by simp)) ?_
  refine Go.aload_0 d_Model_stakeTold_86 rfl ?_
  refine Go.getfield d_Model_stakeTold_87 rfl f_Model_27 (ms_at_m (by omega) hB hS hC hD hE) (by rfl) ?_
  refine Go.getfield d_Model_stakeTold_90 rfl f_Model_397 (ms_at_r (by omega) hB hS hC hD hE) (by rfl) ?_
  refine Go.iload_1 d_Model_stakeTold_93 rfl ?_
  refine Go.iaload d_Model_stakeTold_94 rfl (ms_at_r_7 (by omega) hB hS hC hD hE) (show vp_in (nI x1) 6 from by first | exact vp_in_nI (by omega) (by omega) | exact vp_nle (by assumption) (by omega) (by omega)) ?_
  rw [nI_clamp (show x1 < 2 ^ 31 by omega)]
  rw [if_neg w1_1, if_neg w1_2, if_neg w1_3, if_neg w1_4, if_neg w1_5]
  exact Go.iret d_Model_stakeTold_95 rfl rfl ⟨rfl, rfl, rfl⟩
theorem ms_at_q_11 {Γ : G9} {h : AH} {m q r sb ro : Nat} {M : MO} {H : SH} {Y : SX} (geo : m + 2 ≤ q ∧ m + 2 ≤ r ∧ (q + 24 ≤ r ∨ r + 21 ≤ q)) (hB : sh_ha H 0 ≤ 5) (hS : sh_ha H 3 ≤ 6) (hC : sh_ha H 6 ≤ 4) (hD : sh_ha H 9 ≤ 4) (hE : sh_ha H 11 ≤ 4) : (md_ Γ h m q r r sb ro M H Y) (q + 11) = some (aI Γ 4 (sh_ab H)) := by
  unfold md_
  exact ((blk_out (by omega)).trans (sh_g11))
theorem ms_at_r_8 {Γ : G9} {h : AH} {m q r sb ro : Nat} {M : MO} {H : SH} {Y : SX} (geo : m + 2 ≤ q ∧ m + 2 ≤ r ∧ (q + 24 ≤ r ∨ r + 21 ≤ q)) (hB : sh_ha H 0 ≤ 5) (hS : sh_ha H 3 ≤ 6) (hC : sh_ha H 6 ≤ 4) (hD : sh_ha H 9 ≤ 4) (hE : sh_ha H 11 ≤ 4) : (md_ Γ h m q r r sb ro M H Y) (r + 8) = some (aI Γ 4 (sx_br Y)) := by
  unfold md_
  exact (sx_g8)
theorem ms_at_r_9 {Γ : G9} {h : AH} {m q r sb ro : Nat} {M : MO} {H : SH} {Y : SX} (geo : m + 2 ≤ q ∧ m + 2 ≤ r ∧ (q + 24 ≤ r ∨ r + 21 ≤ q)) (hB : sh_ha H 0 ≤ 5) (hS : sh_ha H 3 ≤ 6) (hC : sh_ha H 6 ≤ 4) (hD : sh_ha H 9 ≤ 4) (hE : sh_ha H 11 ≤ 4) : (md_ Γ h m q r r sb ro M H Y) (r + 9) = some (aI Γ 4 (sx_kn Y)) := by
  unfold md_
  exact (sx_g9)
theorem ms_at_r_10 {Γ : G9} {h : AH} {m q r sb ro : Nat} {M : MO} {H : SH} {Y : SX} (geo : m + 2 ≤ q ∧ m + 2 ≤ r ∧ (q + 24 ≤ r ∨ r + 21 ≤ q)) (hB : sh_ha H 0 ≤ 5) (hS : sh_ha H 3 ≤ 6) (hC : sh_ha H 6 ≤ 4) (hD : sh_ha H 9 ≤ 4) (hE : sh_ha H 11 ≤ 4) : (md_ Γ h m q r r sb ro M H Y) (r + 10) = some (aI Γ 4 (sx_pr Y)) := by
  unfold md_
  exact (sx_g10)
theorem ms_at_r_11 {Γ : G9} {h : AH} {m q r sb ro : Nat} {M : MO} {H : SH} {Y : SX} (geo : m + 2 ≤ q ∧ m + 2 ≤ r ∧ (q + 24 ≤ r ∨ r + 21 ≤ q)) (hB : sh_ha H 0 ≤ 5) (hS : sh_ha H 3 ≤ 6) (hC : sh_ha H 6 ≤ 4) (hD : sh_ha H 9 ≤ 4) (hE : sh_ha H 11 ≤ 4) : (md_ Γ h m q r r sb ro M H Y) (r + 11) = some (aI Γ 4 (sx_cr Y)) := by
  unfold md_
  exact (sx_g11)
theorem ms_at_r_12 {Γ : G9} {h : AH} {m q r sb ro : Nat} {M : MO} {H : SH} {Y : SX} (geo : m + 2 ≤ q ∧ m + 2 ≤ r ∧ (q + 24 ≤ r ∨ r + 21 ≤ q)) (hB : sh_ha H 0 ≤ 5) (hS : sh_ha H 3 ≤ 6) (hC : sh_ha H 6 ≤ 4) (hD : sh_ha H 9 ≤ 4) (hE : sh_ha H 11 ≤ 4) : (md_ Γ h m q r r sb ro M H Y) (r + 12) = some (aI Γ 4 (sx_fe Y)) := by
  unfold md_
  exact (sx_g12)
theorem d_Model_crevasseTold_0 : decode M_Model_crevasseTold.2.1 0 = .ok (.iload_n 2, 1) := by decide +kernel
theorem d_Model_crevasseTold_1 : decode M_Model_crevasseTold.2.1 1 = .ok (.tableswitch 93 0 4 #[35, 45, 55, 73, 83], 35) := by decide +kernel
theorem d_Model_crevasseTold_36 : decode M_Model_crevasseTold.2.1 36 = .ok (.aload_n 0, 1) := by decide +kernel
theorem d_Model_crevasseTold_37 : decode M_Model_crevasseTold.2.1 37 = .ok (.getfield 20, 3) := by decide +kernel
theorem d_Model_crevasseTold_40 : decode M_Model_crevasseTold.2.1 40 = .ok (.getfield 187, 3) := by decide +kernel
theorem d_Model_crevasseTold_43 : decode M_Model_crevasseTold.2.1 43 = .ok (.iload_n 1, 1) := by decide +kernel
theorem d_Model_crevasseTold_44 : decode M_Model_crevasseTold.2.1 44 = .ok (.iaload, 1) := by decide +kernel
theorem d_Model_crevasseTold_45 : decode M_Model_crevasseTold.2.1 45 = .ok (.ireturn, 1) := by decide +kernel
theorem d_Model_crevasseTold_46 : decode M_Model_crevasseTold.2.1 46 = .ok (.aload_n 0, 1) := by decide +kernel
theorem d_Model_crevasseTold_47 : decode M_Model_crevasseTold.2.1 47 = .ok (.getfield 27, 3) := by decide +kernel
theorem d_Model_crevasseTold_50 : decode M_Model_crevasseTold.2.1 50 = .ok (.getfield 307, 3) := by decide +kernel
theorem d_Model_crevasseTold_53 : decode M_Model_crevasseTold.2.1 53 = .ok (.iload_n 1, 1) := by decide +kernel
theorem d_Model_crevasseTold_54 : decode M_Model_crevasseTold.2.1 54 = .ok (.iaload, 1) := by decide +kernel
theorem d_Model_crevasseTold_55 : decode M_Model_crevasseTold.2.1 55 = .ok (.ireturn, 1) := by decide +kernel
theorem d_Model_crevasseTold_56 : decode M_Model_crevasseTold.2.1 56 = .ok (.aload_n 0, 1) := by decide +kernel
theorem d_Model_crevasseTold_57 : decode M_Model_crevasseTold.2.1 57 = .ok (.getfield 27, 3) := by decide +kernel
theorem d_Model_crevasseTold_60 : decode M_Model_crevasseTold.2.1 60 = .ok (.getfield 286, 3) := by decide +kernel
theorem d_Model_crevasseTold_63 : decode M_Model_crevasseTold.2.1 63 = .ok (.iload_n 1, 1) := by decide +kernel
theorem d_Model_crevasseTold_64 : decode M_Model_crevasseTold.2.1 64 = .ok (.iaload, 1) := by decide +kernel
theorem d_Model_crevasseTold_65 : decode M_Model_crevasseTold.2.1 65 = .ok (.ifCond .le 7, 3) := by decide +kernel
theorem d_Model_crevasseTold_68 : decode M_Model_crevasseTold.2.1 68 = .ok (.iconst 1, 1) := by decide +kernel
theorem d_Model_crevasseTold_69 : decode M_Model_crevasseTold.2.1 69 = .ok (.goto 4, 3) := by decide +kernel
theorem d_Model_crevasseTold_72 : decode M_Model_crevasseTold.2.1 72 = .ok (.iconst 0, 1) := by decide +kernel
theorem d_Model_crevasseTold_73 : decode M_Model_crevasseTold.2.1 73 = .ok (.ireturn, 1) := by decide +kernel
theorem d_Model_crevasseTold_74 : decode M_Model_crevasseTold.2.1 74 = .ok (.aload_n 0, 1) := by decide +kernel
theorem d_Model_crevasseTold_75 : decode M_Model_crevasseTold.2.1 75 = .ok (.getfield 27, 3) := by decide +kernel
theorem d_Model_crevasseTold_78 : decode M_Model_crevasseTold.2.1 78 = .ok (.getfield 351, 3) := by decide +kernel
theorem d_Model_crevasseTold_81 : decode M_Model_crevasseTold.2.1 81 = .ok (.iload_n 1, 1) := by decide +kernel
theorem d_Model_crevasseTold_82 : decode M_Model_crevasseTold.2.1 82 = .ok (.iaload, 1) := by decide +kernel
theorem d_Model_crevasseTold_83 : decode M_Model_crevasseTold.2.1 83 = .ok (.ireturn, 1) := by decide +kernel
theorem d_Model_crevasseTold_84 : decode M_Model_crevasseTold.2.1 84 = .ok (.aload_n 0, 1) := by decide +kernel
theorem d_Model_crevasseTold_85 : decode M_Model_crevasseTold.2.1 85 = .ok (.getfield 27, 3) := by decide +kernel
theorem d_Model_crevasseTold_88 : decode M_Model_crevasseTold.2.1 88 = .ok (.getfield 348, 3) := by decide +kernel
theorem d_Model_crevasseTold_91 : decode M_Model_crevasseTold.2.1 91 = .ok (.iload_n 1, 1) := by decide +kernel
theorem d_Model_crevasseTold_92 : decode M_Model_crevasseTold.2.1 92 = .ok (.iaload, 1) := by decide +kernel
theorem d_Model_crevasseTold_93 : decode M_Model_crevasseTold.2.1 93 = .ok (.ireturn, 1) := by decide +kernel
theorem d_Model_crevasseTold_94 : decode M_Model_crevasseTold.2.1 94 = .ok (.aload_n 0, 1) := by decide +kernel
theorem d_Model_crevasseTold_95 : decode M_Model_crevasseTold.2.1 95 = .ok (.getfield 27, 3) := by decide +kernel
theorem d_Model_crevasseTold_98 : decode M_Model_crevasseTold.2.1 98 = .ok (.getfield 332, 3) := by decide +kernel
theorem d_Model_crevasseTold_101 : decode M_Model_crevasseTold.2.1 101 = .ok (.iload_n 1, 1) := by decide +kernel
theorem d_Model_crevasseTold_102 : decode M_Model_crevasseTold.2.1 102 = .ok (.iaload, 1) := by decide +kernel
theorem d_Model_crevasseTold_103 : decode M_Model_crevasseTold.2.1 103 = .ok (.ireturn, 1) := by decide +kernel
def s_Model_crevasseTold (M : MO) (H : SH) (Y : SX) (x1 : Nat) (x2 : Int32) : Int32 := (if x2 = 0 then ((sh_ab H) x1) else (if x2 = 1 then ((sx_br Y) x1) else (if x2 = 2 then (if ((sx_kn Y) x1) ≤ 0 then 0 else 1) else (if x2 = 3 then ((sx_pr Y) x1) else (if x2 = 4 then ((sx_cr Y) x1) else ((sx_fe Y) x1))))))
set_option maxRecDepth 100000 in
set_option maxHeartbeats 800000 in
theorem c_Model_crevasseTold {Γ : G9} {h : AH} {m q r sb ro z : Nat} {M : MO} {H : SH} {Y : SX} {x1 : Nat} {vx1 : Int32} {x2 : Int32} (ex1 : vx1 = nI x1) (bx1 : x1 < 4) (geo : m + 2 ≤ q ∧ m + 2 ≤ r ∧ (q + 24 ≤ r ∨ r + 21 ≤ q)) (hB : sh_ha H 0 ≤ 5) (hS : sh_ha H 3 ≤ 6) (hC : sh_ha H 6 ≤ 4) (hD : sh_ha H 9 ≤ 4) (hE : sh_ha H 11 ≤ 4) : CallR Γ M_Model_crevasseTold 0 [.ref m, .int vx1, .int x2] (md_ Γ h m q r r sb ro M H Y) z (some (.int (s_Model_crevasseTold M H Y x1 x2))) (md_ Γ h m q r r sb ro M H Y) := by
  subst ex1
  refine Call.of_go (L := [some (.ref m), some (.int (nI x1)), some (.int x2)]) (by decide +kernel) rfl (by exact Nat.le_of_ble_eq_true rfl) ?_
  unfold s_Model_crevasseTold
  refine Go.iload_2 d_Model_crevasseTold_0 rfl ?_
  by_cases w1_1 : x2 = 0
  · refine Go.tsw (t := 36) d_Model_crevasseTold_1 (by rw [w1_1]; rfl) ?_
    refine Go.aload_0 d_Model_crevasseTold_36 rfl ?_
    refine Go.getfield d_Model_crevasseTold_37 rfl f_Model_20 (ms_at_m (by omega) hB hS hC hD hE) (by rfl) ?_
    refine Go.getfield d_Model_crevasseTold_40 rfl f_Model_187 (ms_at_q (by omega) hB hS hC hD hE) (by rfl) ?_
    refine Go.iload_1 d_Model_crevasseTold_43 rfl ?_
    refine Go.iaload d_Model_crevasseTold_44 rfl (ms_at_q_11 (by omega) hB hS hC hD hE) (show vp_in (nI x1) 4 from by first | exact vp_in_nI (by omega) (by omega) | exact vp_nle (by assumption) (by omega) (by omega)) ?_
    rw [nI_clamp (show x1 < 2 ^ 31 by omega)]
    rw [if_pos w1_1]
    exact Go.iret d_Model_crevasseTold_45 rfl rfl ⟨rfl, rfl, rfl⟩
  by_cases w1_2 : x2 = 1
  · refine Go.tsw (t := 46) d_Model_crevasseTold_1 (by rw [w1_2]; rfl) ?_
    refine Go.aload_0 d_Model_crevasseTold_46 rfl ?_
    refine Go.getfield d_Model_crevasseTold_47 rfl f_Model_27 (ms_at_m (by omega) hB hS hC hD hE) (by rfl) ?_
    refine Go.getfield d_Model_crevasseTold_50 rfl f_Model_307 (ms_at_r (by omega) hB hS hC hD hE) (by rfl) ?_
    refine Go.iload_1 d_Model_crevasseTold_53 rfl ?_
    refine Go.iaload d_Model_crevasseTold_54 rfl (ms_at_r_8 (by omega) hB hS hC hD hE) (show vp_in (nI x1) 4 from by first | exact vp_in_nI (by omega) (by omega) | exact vp_nle (by assumption) (by omega) (by omega)) ?_
    rw [nI_clamp (show x1 < 2 ^ 31 by omega)]
    rw [if_neg w1_1, if_pos w1_2]
    exact Go.iret d_Model_crevasseTold_55 rfl rfl ⟨rfl, rfl, rfl⟩
  by_cases w1_3 : x2 = 2
  · refine Go.tsw (t := 56) d_Model_crevasseTold_1 (by rw [w1_3]; rfl) ?_
    refine Go.aload_0 d_Model_crevasseTold_56 rfl ?_
    refine Go.getfield d_Model_crevasseTold_57 rfl f_Model_27 (ms_at_m (by omega) hB hS hC hD hE) (by rfl) ?_
    refine Go.getfield d_Model_crevasseTold_60 rfl f_Model_286 (ms_at_r (by omega) hB hS hC hD hE) (by rfl) ?_
    refine Go.iload_1 d_Model_crevasseTold_63 rfl ?_
    refine Go.iaload d_Model_crevasseTold_64 rfl (ms_at_r_9 (by omega) hB hS hC hD hE) (show vp_in (nI x1) 4 from by first | exact vp_in_nI (by omega) (by omega) | exact vp_nle (by assumption) (by omega) (by omega)) ?_
    rw [nI_clamp (show x1 < 2 ^ 31 by omega)]
    refine Go.if_le (t := 72) d_Model_crevasseTold_65 (by decide) rfl (fun c65_4 => ?_) (fun c65_4 => ?_)
    · refine Go.iconst (v := 0) d_Model_crevasseTold_72 rfl (by decide) ?_
      rw [if_neg w1_1, if_neg w1_2, if_pos w1_3, if_pos c65_4]
      exact Go.iret d_Model_crevasseTold_73 rfl rfl ⟨rfl, rfl, rfl⟩
    · refine Go.iconst (v := 1) d_Model_crevasseTold_68 rfl (by decide) ?_
      refine Go.goto (t := 73) d_Model_crevasseTold_69 (by decide) ?_
      rw [if_neg w1_1, if_neg w1_2, if_pos w1_3, if_neg c65_4]
      exact Go.iret d_Model_crevasseTold_73 rfl rfl ⟨rfl, rfl, rfl⟩
  by_cases w1_5 : x2 = 3
  · refine Go.tsw (t := 74) d_Model_crevasseTold_1 (by rw [w1_5]; rfl) ?_
    refine Go.aload_0 d_Model_crevasseTold_74 rfl ?_
    refine Go.getfield d_Model_crevasseTold_75 rfl f_Model_27 (ms_at_m (by omega) hB hS hC hD hE) (by rfl) ?_
    refine Go.getfield d_Model_crevasseTold_78 rfl f_Model_351 (ms_at_r (by omega) hB hS hC hD hE) (by rfl) ?_
    refine Go.iload_1 d_Model_crevasseTold_81 rfl ?_
    refine Go.iaload d_Model_crevasseTold_82 rfl (ms_at_r_10 (by omega) hB hS hC hD hE) (show vp_in (nI x1) 4 from by first | exact vp_in_nI (by omega) (by omega) | exact vp_nle (by assumption) (by omega) (by omega)) ?_
    rw [nI_clamp (show x1 < 2 ^ 31 by omega)]
    rw [if_neg w1_1, if_neg w1_2, if_neg w1_3, if_pos w1_5]
    exact Go.iret d_Model_crevasseTold_83 rfl rfl ⟨rfl, rfl, rfl⟩
  by_cases w1_6 : x2 = 4
  · refine Go.tsw (t := 84) d_Model_crevasseTold_1 (by rw [w1_6]; rfl) ?_
    refine Go.aload_0 d_Model_crevasseTold_84 rfl ?_
    refine Go.getfield d_Model_crevasseTold_85 rfl f_Model_27 (ms_at_m (by omega) hB hS hC hD hE) (by rfl) ?_
    refine Go.getfield d_Model_crevasseTold_88 rfl f_Model_348 (ms_at_r (by omega) hB hS hC hD hE) (by rfl) ?_
    refine Go.iload_1 d_Model_crevasseTold_91 rfl ?_
    refine Go.iaload d_Model_crevasseTold_92 rfl (ms_at_r_11 (by omega) hB hS hC hD hE) (show vp_in (nI x1) 4 from by first | exact vp_in_nI (by omega) (by omega) | exact vp_nle (by assumption) (by omega) (by omega)) ?_
    rw [nI_clamp (show x1 < 2 ^ 31 by omega)]
    rw [if_neg w1_1, if_neg w1_2, if_neg w1_3, if_neg w1_5, if_pos w1_6]
    exact Go.iret d_Model_crevasseTold_93 rfl rfl ⟨rfl, rfl, rfl⟩
  refine Go.tsw (t := 94) d_Model_crevasseTold_1 (tsw_out fun n hn => by
      match n, hn with
      | 0, _ => exact fun w => w1_1 (i32_eq w)
      | 1, _ => exact fun w => w1_2 (i32_eq w)
      | 2, _ => exact fun w => w1_3 (i32_eq w)
      | 3, _ => exact fun w => w1_5 (i32_eq w)
      | 4, _ => exact fun w => w1_6 (i32_eq w)
      | _ + 5, w => exact absurd w (by simp)) ?_
  refine Go.aload_0 d_Model_crevasseTold_94 rfl ?_
  refine Go.getfield d_Model_crevasseTold_95 rfl f_Model_27 (ms_at_m (by omega) hB hS hC hD hE) (by rfl) ?_
  refine Go.getfield d_Model_crevasseTold_98 rfl f_Model_332 (ms_at_r (by omega) hB hS hC hD hE) (by rfl) ?_
  refine Go.iload_1 d_Model_crevasseTold_101 rfl ?_
  refine Go.iaload d_Model_crevasseTold_102 rfl (ms_at_r_12 (by omega) hB hS hC hD hE) (show vp_in (nI x1) 4 from by first | exact vp_in_nI (by omega) (by omega) | exact vp_nle (by assumption) (by omega) (by omega)) ?_
  rw [nI_clamp (show x1 < 2 ^ 31 by omega)]
  rw [if_neg w1_1, if_neg w1_2, if_neg w1_3, if_neg w1_5, if_neg w1_6]
  exact Go.iret d_Model_crevasseTold_103 rfl rfl ⟨rfl, rfl, rfl⟩
theorem ms_at_r_13 {Γ : G9} {h : AH} {m q r sb ro : Nat} {M : MO} {H : SH} {Y : SX} (geo : m + 2 ≤ q ∧ m + 2 ≤ r ∧ (q + 24 ≤ r ∨ r + 21 ≤ q)) (hB : sh_ha H 0 ≤ 5) (hS : sh_ha H 3 ≤ 6) (hC : sh_ha H 6 ≤ 4) (hD : sh_ha H 9 ≤ 4) (hE : sh_ha H 11 ≤ 4) : (md_ Γ h m q r r sb ro M H Y) (r + 13) = some (aI Γ 4 (sx_fo Y)) := by
  unfold md_
  exact (sx_g13)
theorem ms_at_q_13 {Γ : G9} {h : AH} {m q r sb ro : Nat} {M : MO} {H : SH} {Y : SX} (geo : m + 2 ≤ q ∧ m + 2 ≤ r ∧ (q + 24 ≤ r ∨ r + 21 ≤ q)) (hB : sh_ha H 0 ≤ 5) (hS : sh_ha H 3 ≤ 6) (hC : sh_ha H 6 ≤ 4) (hD : sh_ha H 9 ≤ 4) (hE : sh_ha H 11 ≤ 4) : (md_ Γ h m q r r sb ro M H Y) (q + 13) = some (aI Γ 4 (sh_di H)) := by
  unfold md_
  exact ((blk_out (by omega)).trans (sh_g13))
theorem d_Model_depotTold_0 : decode M_Model_depotTold.2.1 0 = .ok (.iload_n 2, 1) := by decide +kernel
theorem d_Model_depotTold_1 : decode M_Model_depotTold.2.1 1 = .ok (.ifCond .ne 15, 3) := by decide +kernel
theorem d_Model_depotTold_4 : decode M_Model_depotTold.2.1 4 = .ok (.aload_n 0, 1) := by decide +kernel
theorem d_Model_depotTold_5 : decode M_Model_depotTold.2.1 5 = .ok (.getfield 20, 3) := by decide +kernel
theorem d_Model_depotTold_8 : decode M_Model_depotTold.2.1 8 = .ok (.getfield 181, 3) := by decide +kernel
theorem d_Model_depotTold_11 : decode M_Model_depotTold.2.1 11 = .ok (.iload_n 1, 1) := by decide +kernel
theorem d_Model_depotTold_12 : decode M_Model_depotTold.2.1 12 = .ok (.iaload, 1) := by decide +kernel
theorem d_Model_depotTold_13 : decode M_Model_depotTold.2.1 13 = .ok (.goto 12, 3) := by decide +kernel
theorem d_Model_depotTold_16 : decode M_Model_depotTold.2.1 16 = .ok (.aload_n 0, 1) := by decide +kernel
theorem d_Model_depotTold_17 : decode M_Model_depotTold.2.1 17 = .ok (.getfield 27, 3) := by decide +kernel
theorem d_Model_depotTold_20 : decode M_Model_depotTold.2.1 20 = .ok (.getfield 308, 3) := by decide +kernel
theorem d_Model_depotTold_23 : decode M_Model_depotTold.2.1 23 = .ok (.iload_n 1, 1) := by decide +kernel
theorem d_Model_depotTold_24 : decode M_Model_depotTold.2.1 24 = .ok (.iaload, 1) := by decide +kernel
theorem d_Model_depotTold_25 : decode M_Model_depotTold.2.1 25 = .ok (.ireturn, 1) := by decide +kernel
def s_Model_depotTold (M : MO) (H : SH) (Y : SX) (x1 : Nat) (x2 : Int32) : Int32 := (if x2 = 0 then ((sh_di H) x1) else ((sx_fo Y) x1))
set_option maxRecDepth 100000 in
set_option maxHeartbeats 800000 in
theorem c_Model_depotTold {Γ : G9} {h : AH} {m q r sb ro z : Nat} {M : MO} {H : SH} {Y : SX} {x1 : Nat} {vx1 : Int32} {x2 : Int32} (ex1 : vx1 = nI x1) (bx1 : x1 < 4) (geo : m + 2 ≤ q ∧ m + 2 ≤ r ∧ (q + 24 ≤ r ∨ r + 21 ≤ q)) (hB : sh_ha H 0 ≤ 5) (hS : sh_ha H 3 ≤ 6) (hC : sh_ha H 6 ≤ 4) (hD : sh_ha H 9 ≤ 4) (hE : sh_ha H 11 ≤ 4) : CallR Γ M_Model_depotTold 0 [.ref m, .int vx1, .int x2] (md_ Γ h m q r r sb ro M H Y) z (some (.int (s_Model_depotTold M H Y x1 x2))) (md_ Γ h m q r r sb ro M H Y) := by
  subst ex1
  refine Call.of_go (L := [some (.ref m), some (.int (nI x1)), some (.int x2)]) (by decide +kernel) rfl (by exact Nat.le_of_ble_eq_true rfl) ?_
  unfold s_Model_depotTold
  refine Go.iload_2 d_Model_depotTold_0 rfl ?_
  refine Go.if_ne (t := 16) d_Model_depotTold_1 (by decide) rfl (fun c1_1 => ?_) (fun c1_1 => ?_)
  · refine Go.aload_0 d_Model_depotTold_16 rfl ?_
    refine Go.getfield d_Model_depotTold_17 rfl f_Model_27 (ms_at_m (by omega) hB hS hC hD hE) (by rfl) ?_
    refine Go.getfield d_Model_depotTold_20 rfl f_Model_308 (ms_at_r (by omega) hB hS hC hD hE) (by rfl) ?_
    refine Go.iload_1 d_Model_depotTold_23 rfl ?_
    refine Go.iaload d_Model_depotTold_24 rfl (ms_at_r_13 (by omega) hB hS hC hD hE) (show vp_in (nI x1) 4 from by first | exact vp_in_nI (by omega) (by omega) | exact vp_nle (by assumption) (by omega) (by omega)) ?_
    rw [nI_clamp (show x1 < 2 ^ 31 by omega)]
    rw [if_neg c1_1]
    exact Go.iret d_Model_depotTold_25 rfl rfl ⟨rfl, rfl, rfl⟩
  · refine Go.aload_0 d_Model_depotTold_4 rfl ?_
    refine Go.getfield d_Model_depotTold_5 rfl f_Model_20 (ms_at_m (by omega) hB hS hC hD hE) (by rfl) ?_
    refine Go.getfield d_Model_depotTold_8 rfl f_Model_181 (ms_at_q (by omega) hB hS hC hD hE) (by rfl) ?_
    refine Go.iload_1 d_Model_depotTold_11 rfl ?_
    refine Go.iaload d_Model_depotTold_12 rfl (ms_at_q_13 (by omega) hB hS hC hD hE) (show vp_in (nI x1) 4 from by first | exact vp_in_nI (by omega) (by omega) | exact vp_nle (by assumption) (by omega) (by omega)) ?_
    rw [nI_clamp (show x1 < 2 ^ 31 by omega)]
    refine Go.goto (t := 25) d_Model_depotTold_13 (by decide) ?_
    rw [if_pos c1_1]
    exact Go.iret d_Model_depotTold_25 rfl rfl ⟨rfl, rfl, rfl⟩
theorem ms_at_q_16 {Γ : G9} {h : AH} {m q r sb ro : Nat} {M : MO} {H : SH} {Y : SX} (geo : m + 2 ≤ q ∧ m + 2 ≤ r ∧ (q + 24 ≤ r ∨ r + 21 ≤ q)) (hB : sh_ha H 0 ≤ 5) (hS : sh_ha H 3 ≤ 6) (hC : sh_ha H 6 ≤ 4) (hD : sh_ha H 9 ≤ 4) (hE : sh_ha H 11 ≤ 4) : (md_ Γ h m q r r sb ro M H Y) (q + 16) = some (aI Γ 4 (sh_sz H)) := by
  unfold md_
  exact ((blk_out (by omega)).trans (sh_g16))
theorem ms_at_r_14 {Γ : G9} {h : AH} {m q r sb ro : Nat} {M : MO} {H : SH} {Y : SX} (geo : m + 2 ≤ q ∧ m + 2 ≤ r ∧ (q + 24 ≤ r ∨ r + 21 ≤ q)) (hB : sh_ha H 0 ≤ 5) (hS : sh_ha H 3 ≤ 6) (hC : sh_ha H 6 ≤ 4) (hD : sh_ha H 9 ≤ 4) (hE : sh_ha H 11 ≤ 4) : (md_ Γ h m q r r sb ro M H Y) (r + 14) = some (aI Γ 4 (sx_sk Y)) := by
  unfold md_
  exact (sx_g14)
theorem ms_at_r_15 {Γ : G9} {h : AH} {m q r sb ro : Nat} {M : MO} {H : SH} {Y : SX} (geo : m + 2 ≤ q ∧ m + 2 ≤ r ∧ (q + 24 ≤ r ∨ r + 21 ≤ q)) (hB : sh_ha H 0 ≤ 5) (hS : sh_ha H 3 ≤ 6) (hC : sh_ha H 6 ≤ 4) (hD : sh_ha H 9 ≤ 4) (hE : sh_ha H 11 ≤ 4) : (md_ Γ h m q r r sb ro M H Y) (r + 15) = some (aI Γ 4 (sx_pl Y)) := by
  unfold md_
  exact (sx_g15)
theorem ms_at_r_16 {Γ : G9} {h : AH} {m q r sb ro : Nat} {M : MO} {H : SH} {Y : SX} (geo : m + 2 ≤ q ∧ m + 2 ≤ r ∧ (q + 24 ≤ r ∨ r + 21 ≤ q)) (hB : sh_ha H 0 ≤ 5) (hS : sh_ha H 3 ≤ 6) (hC : sh_ha H 6 ≤ 4) (hD : sh_ha H 9 ≤ 4) (hE : sh_ha H 11 ≤ 4) : (md_ Γ h m q r r sb ro M H Y) (r + 16) = some (aI Γ 4 (sx_hu Y)) := by
  unfold md_
  exact (sx_g16)
theorem ms_at_r_17 {Γ : G9} {h : AH} {m q r sb ro : Nat} {M : MO} {H : SH} {Y : SX} (geo : m + 2 ≤ q ∧ m + 2 ≤ r ∧ (q + 24 ≤ r ∨ r + 21 ≤ q)) (hB : sh_ha H 0 ≤ 5) (hS : sh_ha H 3 ≤ 6) (hC : sh_ha H 6 ≤ 4) (hD : sh_ha H 9 ≤ 4) (hE : sh_ha H 11 ≤ 4) : (md_ Γ h m q r r sb ro M H Y) (r + 17) = some (aI Γ 4 (sx_he Y)) := by
  unfold md_
  exact (sx_g17)
theorem ms_at_r_18 {Γ : G9} {h : AH} {m q r sb ro : Nat} {M : MO} {H : SH} {Y : SX} (geo : m + 2 ≤ q ∧ m + 2 ≤ r ∧ (q + 24 ≤ r ∨ r + 21 ≤ q)) (hB : sh_ha H 0 ≤ 5) (hS : sh_ha H 3 ≤ 6) (hC : sh_ha H 6 ≤ 4) (hD : sh_ha H 9 ≤ 4) (hE : sh_ha H 11 ≤ 4) : (md_ Γ h m q r r sb ro M H Y) (r + 18) = some (aI Γ 4 (sx_ma Y)) := by
  unfold md_
  exact (sx_g18)
theorem ms_at_r_19 {Γ : G9} {h : AH} {m q r sb ro : Nat} {M : MO} {H : SH} {Y : SX} (geo : m + 2 ≤ q ∧ m + 2 ≤ r ∧ (q + 24 ≤ r ∨ r + 21 ≤ q)) (hB : sh_ha H 0 ≤ 5) (hS : sh_ha H 3 ≤ 6) (hC : sh_ha H 6 ≤ 4) (hD : sh_ha H 9 ≤ 4) (hE : sh_ha H 11 ≤ 4) : (md_ Γ h m q r r sb ro M H Y) (r + 19) = some (aI Γ 4 (sx_fn Y)) := by
  unfold md_
  exact (sx_g19)
theorem ms_at_r_20 {Γ : G9} {h : AH} {m q r sb ro : Nat} {M : MO} {H : SH} {Y : SX} (geo : m + 2 ≤ q ∧ m + 2 ≤ r ∧ (q + 24 ≤ r ∨ r + 21 ≤ q)) (hB : sh_ha H 0 ≤ 5) (hS : sh_ha H 3 ≤ 6) (hC : sh_ha H 6 ≤ 4) (hD : sh_ha H 9 ≤ 4) (hE : sh_ha H 11 ≤ 4) : (md_ Γ h m q r r sb ro M H Y) (r + 20) = some (aI Γ 4 (sx_do Y)) := by
  unfold md_
  exact (sx_g20)
theorem d_Model_teamTold_0 : decode M_Model_teamTold.2.1 0 = .ok (.iload_n 2, 1) := by decide +kernel
theorem d_Model_teamTold_1 : decode M_Model_teamTold.2.1 1 = .ok (.tableswitch 113 0 6 #[43, 53, 63, 73, 83, 93, 103], 43) := by decide +kernel
theorem d_Model_teamTold_44 : decode M_Model_teamTold.2.1 44 = .ok (.aload_n 0, 1) := by decide +kernel
theorem d_Model_teamTold_45 : decode M_Model_teamTold.2.1 45 = .ok (.getfield 20, 3) := by decide +kernel
theorem d_Model_teamTold_48 : decode M_Model_teamTold.2.1 48 = .ok (.getfield 222, 3) := by decide +kernel
theorem d_Model_teamTold_51 : decode M_Model_teamTold.2.1 51 = .ok (.iload_n 1, 1) := by decide +kernel
theorem d_Model_teamTold_52 : decode M_Model_teamTold.2.1 52 = .ok (.iaload, 1) := by decide +kernel
theorem d_Model_teamTold_53 : decode M_Model_teamTold.2.1 53 = .ok (.ireturn, 1) := by decide +kernel
theorem d_Model_teamTold_54 : decode M_Model_teamTold.2.1 54 = .ok (.aload_n 0, 1) := by decide +kernel
theorem d_Model_teamTold_55 : decode M_Model_teamTold.2.1 55 = .ok (.getfield 27, 3) := by decide +kernel
theorem d_Model_teamTold_58 : decode M_Model_teamTold.2.1 58 = .ok (.getfield 309, 3) := by decide +kernel
theorem d_Model_teamTold_61 : decode M_Model_teamTold.2.1 61 = .ok (.iload_n 1, 1) := by decide +kernel
theorem d_Model_teamTold_62 : decode M_Model_teamTold.2.1 62 = .ok (.iaload, 1) := by decide +kernel
theorem d_Model_teamTold_63 : decode M_Model_teamTold.2.1 63 = .ok (.ireturn, 1) := by decide +kernel
theorem d_Model_teamTold_64 : decode M_Model_teamTold.2.1 64 = .ok (.aload_n 0, 1) := by decide +kernel
theorem d_Model_teamTold_65 : decode M_Model_teamTold.2.1 65 = .ok (.getfield 27, 3) := by decide +kernel
theorem d_Model_teamTold_68 : decode M_Model_teamTold.2.1 68 = .ok (.getfield 310, 3) := by decide +kernel
theorem d_Model_teamTold_71 : decode M_Model_teamTold.2.1 71 = .ok (.iload_n 1, 1) := by decide +kernel
theorem d_Model_teamTold_72 : decode M_Model_teamTold.2.1 72 = .ok (.iaload, 1) := by decide +kernel
theorem d_Model_teamTold_73 : decode M_Model_teamTold.2.1 73 = .ok (.ireturn, 1) := by decide +kernel
theorem d_Model_teamTold_74 : decode M_Model_teamTold.2.1 74 = .ok (.aload_n 0, 1) := by decide +kernel
theorem d_Model_teamTold_75 : decode M_Model_teamTold.2.1 75 = .ok (.getfield 27, 3) := by decide +kernel
theorem d_Model_teamTold_78 : decode M_Model_teamTold.2.1 78 = .ok (.getfield 391, 3) := by decide +kernel
theorem d_Model_teamTold_81 : decode M_Model_teamTold.2.1 81 = .ok (.iload_n 1, 1) := by decide +kernel
theorem d_Model_teamTold_82 : decode M_Model_teamTold.2.1 82 = .ok (.iaload, 1) := by decide +kernel
theorem d_Model_teamTold_83 : decode M_Model_teamTold.2.1 83 = .ok (.ireturn, 1) := by decide +kernel
theorem d_Model_teamTold_84 : decode M_Model_teamTold.2.1 84 = .ok (.aload_n 0, 1) := by decide +kernel
theorem d_Model_teamTold_85 : decode M_Model_teamTold.2.1 85 = .ok (.getfield 27, 3) := by decide +kernel
theorem d_Model_teamTold_88 : decode M_Model_teamTold.2.1 88 = .ok (.getfield 283, 3) := by decide +kernel
theorem d_Model_teamTold_91 : decode M_Model_teamTold.2.1 91 = .ok (.iload_n 1, 1) := by decide +kernel
theorem d_Model_teamTold_92 : decode M_Model_teamTold.2.1 92 = .ok (.iaload, 1) := by decide +kernel
theorem d_Model_teamTold_93 : decode M_Model_teamTold.2.1 93 = .ok (.ireturn, 1) := by decide +kernel
theorem d_Model_teamTold_94 : decode M_Model_teamTold.2.1 94 = .ok (.aload_n 0, 1) := by decide +kernel
theorem d_Model_teamTold_95 : decode M_Model_teamTold.2.1 95 = .ok (.getfield 27, 3) := by decide +kernel
theorem d_Model_teamTold_98 : decode M_Model_teamTold.2.1 98 = .ok (.getfield 400, 3) := by decide +kernel
theorem d_Model_teamTold_101 : decode M_Model_teamTold.2.1 101 = .ok (.iload_n 1, 1) := by decide +kernel
theorem d_Model_teamTold_102 : decode M_Model_teamTold.2.1 102 = .ok (.iaload, 1) := by decide +kernel
theorem d_Model_teamTold_103 : decode M_Model_teamTold.2.1 103 = .ok (.ireturn, 1) := by decide +kernel
theorem d_Model_teamTold_104 : decode M_Model_teamTold.2.1 104 = .ok (.aload_n 0, 1) := by decide +kernel
theorem d_Model_teamTold_105 : decode M_Model_teamTold.2.1 105 = .ok (.getfield 27, 3) := by decide +kernel
theorem d_Model_teamTold_108 : decode M_Model_teamTold.2.1 108 = .ok (.getfield 335, 3) := by decide +kernel
theorem d_Model_teamTold_111 : decode M_Model_teamTold.2.1 111 = .ok (.iload_n 1, 1) := by decide +kernel
theorem d_Model_teamTold_112 : decode M_Model_teamTold.2.1 112 = .ok (.iaload, 1) := by decide +kernel
theorem d_Model_teamTold_113 : decode M_Model_teamTold.2.1 113 = .ok (.ireturn, 1) := by decide +kernel
theorem d_Model_teamTold_114 : decode M_Model_teamTold.2.1 114 = .ok (.aload_n 0, 1) := by decide +kernel
theorem d_Model_teamTold_115 : decode M_Model_teamTold.2.1 115 = .ok (.getfield 27, 3) := by decide +kernel
theorem d_Model_teamTold_118 : decode M_Model_teamTold.2.1 118 = .ok (.getfield 325, 3) := by decide +kernel
theorem d_Model_teamTold_121 : decode M_Model_teamTold.2.1 121 = .ok (.iload_n 1, 1) := by decide +kernel
theorem d_Model_teamTold_122 : decode M_Model_teamTold.2.1 122 = .ok (.iaload, 1) := by decide +kernel
theorem d_Model_teamTold_123 : decode M_Model_teamTold.2.1 123 = .ok (.ireturn, 1) := by decide +kernel
def s_Model_teamTold (M : MO) (H : SH) (Y : SX) (x1 : Nat) (x2 : Int32) : Int32 := (if x2 = 0 then ((sh_sz H) x1) else (if x2 = 1 then ((sx_sk Y) x1) else (if x2 = 2 then ((sx_pl Y) x1) else (if x2 = 3 then ((sx_hu Y) x1) else (if x2 = 4 then ((sx_he Y) x1) else (if x2 = 5 then ((sx_ma Y) x1) else (if x2 = 6 then ((sx_fn Y) x1) else ((sx_do Y) x1))))))))
set_option maxRecDepth 100000 in
set_option maxHeartbeats 800000 in
theorem c_Model_teamTold {Γ : G9} {h : AH} {m q r sb ro z : Nat} {M : MO} {H : SH} {Y : SX} {x1 : Nat} {vx1 : Int32} {x2 : Int32} (ex1 : vx1 = nI x1) (bx1 : x1 < 4) (geo : m + 2 ≤ q ∧ m + 2 ≤ r ∧ (q + 24 ≤ r ∨ r + 21 ≤ q)) (hB : sh_ha H 0 ≤ 5) (hS : sh_ha H 3 ≤ 6) (hC : sh_ha H 6 ≤ 4) (hD : sh_ha H 9 ≤ 4) (hE : sh_ha H 11 ≤ 4) : CallR Γ M_Model_teamTold 0 [.ref m, .int vx1, .int x2] (md_ Γ h m q r r sb ro M H Y) z (some (.int (s_Model_teamTold M H Y x1 x2))) (md_ Γ h m q r r sb ro M H Y) := by
  subst ex1
  refine Call.of_go (L := [some (.ref m), some (.int (nI x1)), some (.int x2)]) (by decide +kernel) rfl (by exact Nat.le_of_ble_eq_true rfl) ?_
  unfold s_Model_teamTold
  refine Go.iload_2 d_Model_teamTold_0 rfl ?_
  by_cases w1_1 : x2 = 0
  · refine Go.tsw (t := 44) d_Model_teamTold_1 (by rw [w1_1]; rfl) ?_
    refine Go.aload_0 d_Model_teamTold_44 rfl ?_
    refine Go.getfield d_Model_teamTold_45 rfl f_Model_20 (ms_at_m (by omega) hB hS hC hD hE) (by rfl) ?_
    refine Go.getfield d_Model_teamTold_48 rfl f_Model_222 (ms_at_q (by omega) hB hS hC hD hE) (by rfl) ?_
    refine Go.iload_1 d_Model_teamTold_51 rfl ?_
    refine Go.iaload d_Model_teamTold_52 rfl (ms_at_q_16 (by omega) hB hS hC hD hE) (show vp_in (nI x1) 4 from by first | exact vp_in_nI (by omega) (by omega) | exact vp_nle (by assumption) (by omega) (by omega)) ?_
    rw [nI_clamp (show x1 < 2 ^ 31 by omega)]
    rw [if_pos w1_1]
    exact Go.iret d_Model_teamTold_53 rfl rfl ⟨rfl, rfl, rfl⟩
  by_cases w1_2 : x2 = 1
  · refine Go.tsw (t := 54) d_Model_teamTold_1 (by rw [w1_2]; rfl) ?_
    refine Go.aload_0 d_Model_teamTold_54 rfl ?_
    refine Go.getfield d_Model_teamTold_55 rfl f_Model_27 (ms_at_m (by omega) hB hS hC hD hE) (by rfl) ?_
    refine Go.getfield d_Model_teamTold_58 rfl f_Model_309 (ms_at_r (by omega) hB hS hC hD hE) (by rfl) ?_
    refine Go.iload_1 d_Model_teamTold_61 rfl ?_
    refine Go.iaload d_Model_teamTold_62 rfl (ms_at_r_14 (by omega) hB hS hC hD hE) (show vp_in (nI x1) 4 from by first | exact vp_in_nI (by omega) (by omega) | exact vp_nle (by assumption) (by omega) (by omega)) ?_
    rw [nI_clamp (show x1 < 2 ^ 31 by omega)]
    rw [if_neg w1_1, if_pos w1_2]
    exact Go.iret d_Model_teamTold_63 rfl rfl ⟨rfl, rfl, rfl⟩
  by_cases w1_3 : x2 = 2
  · refine Go.tsw (t := 64) d_Model_teamTold_1 (by rw [w1_3]; rfl) ?_
    refine Go.aload_0 d_Model_teamTold_64 rfl ?_
    refine Go.getfield d_Model_teamTold_65 rfl f_Model_27 (ms_at_m (by omega) hB hS hC hD hE) (by rfl) ?_
    refine Go.getfield d_Model_teamTold_68 rfl f_Model_310 (ms_at_r (by omega) hB hS hC hD hE) (by rfl) ?_
    refine Go.iload_1 d_Model_teamTold_71 rfl ?_
    refine Go.iaload d_Model_teamTold_72 rfl (ms_at_r_15 (by omega) hB hS hC hD hE) (show vp_in (nI x1) 4 from by first | exact vp_in_nI (by omega) (by omega) | exact vp_nle (by assumption) (by omega) (by omega)) ?_
    rw [nI_clamp (show x1 < 2 ^ 31 by omega)]
    rw [if_neg w1_1, if_neg w1_2, if_pos w1_3]
    exact Go.iret d_Model_teamTold_73 rfl rfl ⟨rfl, rfl, rfl⟩
  by_cases w1_4 : x2 = 3
  · refine Go.tsw (t := 74) d_Model_teamTold_1 (by rw [w1_4]; rfl) ?_
    refine Go.aload_0 d_Model_teamTold_74 rfl ?_
    refine Go.getfield d_Model_teamTold_75 rfl f_Model_27 (ms_at_m (by omega) hB hS hC hD hE) (by rfl) ?_
    refine Go.getfield d_Model_teamTold_78 rfl f_Model_391 (ms_at_r (by omega) hB hS hC hD hE) (by rfl) ?_
    refine Go.iload_1 d_Model_teamTold_81 rfl ?_
    refine Go.iaload d_Model_teamTold_82 rfl (ms_at_r_16 (by omega) hB hS hC hD hE) (show vp_in (nI x1) 4 from by first | exact vp_in_nI (by omega) (by omega) | exact vp_nle (by assumption) (by omega) (by omega)) ?_
    rw [nI_clamp (show x1 < 2 ^ 31 by omega)]
    rw [if_neg w1_1, if_neg w1_2, if_neg w1_3, if_pos w1_4]
    exact Go.iret d_Model_teamTold_83 rfl rfl ⟨rfl, rfl, rfl⟩
  by_cases w1_5 : x2 = 4
  · refine Go.tsw (t := 84) d_Model_teamTold_1 (by rw [w1_5]; rfl) ?_
    refine Go.aload_0 d_Model_teamTold_84 rfl ?_
    refine Go.getfield d_Model_teamTold_85 rfl f_Model_27 (ms_at_m (by omega) hB hS hC hD hE) (by rfl) ?_
    refine Go.getfield d_Model_teamTold_88 rfl f_Model_283 (ms_at_r (by omega) hB hS hC hD hE) (by rfl) ?_
    refine Go.iload_1 d_Model_teamTold_91 rfl ?_
    refine Go.iaload d_Model_teamTold_92 rfl (ms_at_r_17 (by omega) hB hS hC hD hE) (show vp_in (nI x1) 4 from by first | exact vp_in_nI (by omega) (by omega) | exact vp_nle (by assumption) (by omega) (by omega)) ?_
    rw [nI_clamp (show x1 < 2 ^ 31 by omega)]
    rw [if_neg w1_1, if_neg w1_2, if_neg w1_3, if_neg w1_4, if_pos w1_5]
    exact Go.iret d_Model_teamTold_93 rfl rfl ⟨rfl, rfl, rfl⟩
  by_cases w1_6 : x2 = 5
  · refine Go.tsw (t := 94) d_Model_teamTold_1 (by rw [w1_6]; rfl) ?_
    refine Go.aload_0 d_Model_teamTold_94 rfl ?_
    refine Go.getfield d_Model_teamTold_95 rfl f_Model_27 (ms_at_m (by omega) hB hS hC hD hE) (by rfl) ?_
    refine Go.getfield d_Model_teamTold_98 rfl f_Model_400 (ms_at_r (by omega) hB hS hC hD hE) (by rfl) ?_
    refine Go.iload_1 d_Model_teamTold_101 rfl ?_
    refine Go.iaload d_Model_teamTold_102 rfl (ms_at_r_18 (by omega) hB hS hC hD hE) (show vp_in (nI x1) 4 from by first | exact vp_in_nI (by omega) (by omega) | exact vp_nle (by assumption) (by omega) (by omega)) ?_
    rw [nI_clamp (show x1 < 2 ^ 31 by omega)]
    rw [if_neg w1_1, if_neg w1_2, if_neg w1_3, if_neg w1_4, if_neg w1_5, if_pos w1_6]
    exact Go.iret d_Model_teamTold_103 rfl rfl ⟨rfl, rfl, rfl⟩
  by_cases w1_7 : x2 = 6
  · refine Go.tsw (t := 104) d_Model_teamTold_1 (by rw [w1_7]; rfl) ?_
    refine Go.aload_0 d_Model_teamTold_104 rfl ?_
    refine Go.getfield d_Model_teamTold_105 rfl f_Model_27 (ms_at_m (by omega) hB hS hC hD hE) (by rfl) ?_
    refine Go.getfield d_Model_teamTold_108 rfl f_Model_335 (ms_at_r (by omega) hB hS hC hD hE) (by rfl) ?_
    refine Go.iload_1 d_Model_teamTold_111 rfl ?_
    refine Go.iaload d_Model_teamTold_112 rfl (ms_at_r_19 (by omega) hB hS hC hD hE) (show vp_in (nI x1) 4 from by first | exact vp_in_nI (by omega) (by omega) | exact vp_nle (by assumption) (by omega) (by omega)) ?_
    rw [nI_clamp (show x1 < 2 ^ 31 by omega)]
    rw [if_neg w1_1, if_neg w1_2, if_neg w1_3, if_neg w1_4, if_neg w1_5, if_neg w1_6, if_pos w1_7]
    exact Go.iret d_Model_teamTold_113 rfl rfl ⟨rfl, rfl, rfl⟩
  refine Go.tsw (t := 114) d_Model_teamTold_1 (tsw_out fun n hn => by
      match n, hn with
      | 0, _ => exact fun w => w1_1 (i32_eq w)
      | 1, _ => exact fun w => w1_2 (i32_eq w)
      | 2, _ => exact fun w => w1_3 (i32_eq w)
      | 3, _ => exact fun w => w1_4 (i32_eq w)
      | 4, _ => exact fun w => w1_5 (i32_eq w)
      | 5, _ => exact fun w => w1_6 (i32_eq w)
      | 6, _ => exact fun w => w1_7 (i32_eq w)
      | _ + 7, w => exact absurd w (by simp)) ?_
  refine Go.aload_0 d_Model_teamTold_114 rfl ?_
  refine Go.getfield d_Model_teamTold_115 rfl f_Model_27 (ms_at_m (by omega) hB hS hC hD hE) (by rfl) ?_
  refine Go.getfield d_Model_teamTold_118 rfl f_Model_325 (ms_at_r (by omega) hB hS hC hD hE) (by rfl) ?_
  refine Go.iload_1 d_Model_teamTold_121 rfl ?_
  refine Go.iaload d_Model_teamTold_122 rfl (ms_at_r_20 (by omega) hB hS hC hD hE) (show vp_in (nI x1) 4 from by first | exact vp_in_nI (by omega) (by omega) | exact vp_nle (by assumption) (by omega) (by omega)) ?_
  rw [nI_clamp (show x1 < 2 ^ 31 by omega)]
  rw [if_neg w1_1, if_neg w1_2, if_neg w1_3, if_neg w1_4, if_neg w1_5, if_neg w1_6, if_neg w1_7]
  exact Go.iret d_Model_teamTold_123 rfl rfl ⟨rfl, rfl, rfl⟩
theorem d_Model_bandTold_79 : decode M_Model_bandTold.2.1 79 = .ok (.iload 4, 2) := by decide +kernel
theorem d_Model_bandTold_81 : decode M_Model_bandTold.2.1 81 = .ok (.aload_n 0, 1) := by decide +kernel
theorem d_Model_bandTold_82 : decode M_Model_bandTold.2.1 82 = .ok (.getfield 20, 3) := by decide +kernel
theorem d_Model_bandTold_85 : decode M_Model_bandTold.2.1 85 = .ok (.getfield 40, 3) := by decide +kernel
theorem d_Model_bandTold_88 : decode M_Model_bandTold.2.1 88 = .ok (.iconst 3, 1) := by decide +kernel
theorem d_Model_bandTold_89 : decode M_Model_bandTold.2.1 89 = .ok (.iaload, 1) := by decide +kernel
theorem d_Model_bandTold_90 : decode M_Model_bandTold.2.1 90 = .ok (.if_icmp .ge 40, 3) := by decide +kernel
theorem d_Model_bandTold_93 : decode M_Model_bandTold.2.1 93 = .ok (.iload_n 3, 1) := by decide +kernel
theorem d_Model_bandTold_94 : decode M_Model_bandTold.2.1 94 = .ok (.aload_n 0, 1) := by decide +kernel
theorem d_Model_bandTold_95 : decode M_Model_bandTold.2.1 95 = .ok (.getfield 20, 3) := by decide +kernel
theorem d_Model_bandTold_98 : decode M_Model_bandTold.2.1 98 = .ok (.getfield 178, 3) := by decide +kernel
theorem d_Model_bandTold_101 : decode M_Model_bandTold.2.1 101 = .ok (.iload 4, 2) := by decide +kernel
theorem d_Model_bandTold_103 : decode M_Model_bandTold.2.1 103 = .ok (.iaload, 1) := by decide +kernel
theorem d_Model_bandTold_104 : decode M_Model_bandTold.2.1 104 = .ok (.iload_n 1, 1) := by decide +kernel
theorem d_Model_bandTold_105 : decode M_Model_bandTold.2.1 105 = .ok (.if_icmp .ne 16, 3) := by decide +kernel
theorem d_Model_bandTold_108 : decode M_Model_bandTold.2.1 108 = .ok (.aload_n 0, 1) := by decide +kernel
theorem d_Model_bandTold_109 : decode M_Model_bandTold.2.1 109 = .ok (.getfield 27, 3) := by decide +kernel
theorem d_Model_bandTold_112 : decode M_Model_bandTold.2.1 112 = .ok (.getfield 277, 3) := by decide +kernel
theorem d_Model_bandTold_115 : decode M_Model_bandTold.2.1 115 = .ok (.iload 4, 2) := by decide +kernel
theorem d_Model_bandTold_117 : decode M_Model_bandTold.2.1 117 = .ok (.iaload, 1) := by decide +kernel
theorem d_Model_bandTold_118 : decode M_Model_bandTold.2.1 118 = .ok (.goto 4, 3) := by decide +kernel
theorem d_Model_bandTold_121 : decode M_Model_bandTold.2.1 121 = .ok (.iconst 0, 1) := by decide +kernel
theorem d_Model_bandTold_122 : decode M_Model_bandTold.2.1 122 = .ok (.iadd, 1) := by decide +kernel
theorem d_Model_bandTold_123 : decode M_Model_bandTold.2.1 123 = .ok (.istore_n 3, 1) := by decide +kernel
theorem d_Model_bandTold_124 : decode M_Model_bandTold.2.1 124 = .ok (.iinc 4 1, 3) := by decide +kernel
theorem d_Model_bandTold_127 : decode M_Model_bandTold.2.1 127 = .ok (.goto (-48), 3) := by decide +kernel
def l_Model_bandTold_79 (M : MO) (H : SH) (Y : SX) (x1 : Nat) (x2 : Int32) : Nat → Nat → Int32 → Int32
  | 0, _, s => s
  | k + 1, i, s => (if ((sh_si H) i) = (nI x1) then (l_Model_bandTold_79 M H Y x1 x2 k (i + 1) (s + ((sx_sd Y) i))) else (l_Model_bandTold_79 M H Y x1 x2 k (i + 1) (s + 0)))
set_option maxRecDepth 100000 in
set_option maxHeartbeats 800000 in
theorem l_Model_bandTold_79_go {Γ : G9} {h : AH} {m q r sb ro z : Nat} {n : Nat} {Q : QT} {X : XT} {M : MO} {H : SH} {Y : SX} {x1 : Nat} {x2 : Int32} (bx1 : x1 < 5) (geo : m + 2 ≤ q ∧ m + 2 ≤ r ∧ (q + 24 ≤ r ∨ r + 21 ≤ q)) (hB : sh_ha H 0 ≤ 5) (hS : sh_ha H 3 ≤ 6) (hC : sh_ha H 6 ≤ 4) (hD : sh_ha H 9 ≤ 4) (hE : sh_ha H 11 ≤ 4) (hn20 : n ≤ 20) (hn : sh_ha H 3 = n) : ∀ (k i : Nat) (s : Int32), i + k = n → Go Γ M_Model_bandTold 1 0 0 130 [some (.ref m), some (.int (nI x1)), some (.int x2), some (.int (l_Model_bandTold_79 M H Y x1 x2 k i s)), some (.int (nI (i + k)))] [] (md_ Γ h m q r r sb ro M H Y) z Q X → Go Γ M_Model_bandTold 1 0 0 79 [some (.ref m), some (.int (nI x1)), some (.int x2), some (.int s), some (.int (nI i))] [] (md_ Γ h m q r r sb ro M H Y) z Q X := by
  intro k
  induction k with
  | zero =>
    intro i s hi hk
    refine Go.iload_4 d_Model_bandTold_79 rfl ?_
    refine Go.aload_0 d_Model_bandTold_81 rfl ?_
    refine Go.getfield d_Model_bandTold_82 rfl f_Model_20 (ms_at_m (by omega) hB hS hC hD hE) (by rfl) ?_
    refine Go.getfield d_Model_bandTold_85 rfl f_Model_40 (ms_at_q (by omega) hB hS hC hD hE) (by rfl) ?_
    refine Go.iconst (v := 3) d_Model_bandTold_88 rfl (by decide) ?_
    refine Go.iaload d_Model_bandTold_89 rfl (ms_at_q_5 (by omega) hB hS hC hD hE) (show vp_in (nI 3) 12 from by first | exact vp_in_nI (by omega) (by omega) | exact vp_nle (by assumption) (by omega) (by omega)) ?_
    rw [show (3 : Int32).toNatClampNeg = 3 from by decide]
    refine Go.icmp_ge (t := 130) d_Model_bandTold_90 (by decide) rfl (fun c90_1 => ?_) (fun c90_1 => ?_)
    · exact hk
    · exact absurd (nI_le (by omega) (by omega)) c90_1
  | succ k ih =>
    intro i s hi hk
    unfold l_Model_bandTold_79 at hk
    rw [show i + (k + 1) = i + 1 + k by omega] at hk
    refine Go.iload_4 d_Model_bandTold_79 rfl ?_
    refine Go.aload_0 d_Model_bandTold_81 rfl ?_
    refine Go.getfield d_Model_bandTold_82 rfl f_Model_20 (ms_at_m (by omega) hB hS hC hD hE) (by rfl) ?_
    refine Go.getfield d_Model_bandTold_85 rfl f_Model_40 (ms_at_q (by omega) hB hS hC hD hE) (by rfl) ?_
    refine Go.iconst (v := 3) d_Model_bandTold_88 rfl (by decide) ?_
    refine Go.iaload d_Model_bandTold_89 rfl (ms_at_q_5 (by omega) hB hS hC hD hE) (show vp_in (nI 3) 12 from by first | exact vp_in_nI (by omega) (by omega) | exact vp_nle (by assumption) (by omega) (by omega)) ?_
    rw [show (3 : Int32).toNatClampNeg = 3 from by decide]
    refine Go.icmp_ge (t := 130) d_Model_bandTold_90 (by decide) rfl (fun c90_1 => ?_) (fun c90_1 => ?_)
    · exact absurd c90_1 (nI_ge (by omega) (by omega))
    · refine Go.iload_3 d_Model_bandTold_93 rfl ?_
      refine Go.aload_0 d_Model_bandTold_94 rfl ?_
      refine Go.getfield d_Model_bandTold_95 rfl f_Model_20 (ms_at_m (by omega) hB hS hC hD hE) (by rfl) ?_
      refine Go.getfield d_Model_bandTold_98 rfl f_Model_178 (ms_at_q (by omega) hB hS hC hD hE) (by rfl) ?_
      refine Go.iload_4 d_Model_bandTold_101 rfl ?_
      refine Go.iaload d_Model_bandTold_103 rfl (ms_at_q_9 (by omega) hB hS hC hD hE) (show vp_in (nI i) 6 from by first | exact vp_in_nI (by omega) (by omega) | exact vp_nle (by assumption) (by omega) (by omega)) ?_
      rw [nI_clamp (show i < 2 ^ 31 by omega)]
      refine Go.iload_1 d_Model_bandTold_104 rfl ?_
      refine Go.icmp_ne (t := 121) d_Model_bandTold_105 (by decide) rfl (fun c105_2 => ?_) (fun c105_2 => ?_)
      · refine Go.iconst (v := 0) d_Model_bandTold_121 rfl (by decide) ?_
        refine Go.iadd d_Model_bandTold_122 rfl ?_
        refine Go.istore_3 d_Model_bandTold_123 rfl (by rfl) ?_
        refine Go.iinc_4 d_Model_bandTold_124 rfl (by rfl) (nI_inc _) ?_
        refine Go.goto (t := 79) d_Model_bandTold_127 (by decide) ?_
        rw [if_neg c105_2] at hk
        exact ih (i + 1) _ (by omega) hk
      · refine Go.aload_0 d_Model_bandTold_108 rfl ?_
        refine Go.getfield d_Model_bandTold_109 rfl f_Model_27 (ms_at_m (by omega) hB hS hC hD hE) (by rfl) ?_
        refine Go.getfield d_Model_bandTold_112 rfl f_Model_277 (ms_at_r (by omega) hB hS hC hD hE) (by rfl) ?_
        refine Go.iload_4 d_Model_bandTold_115 rfl ?_
        refine Go.iaload d_Model_bandTold_117 rfl (ms_at_r_5 (by omega) hB hS hC hD hE) (show vp_in (nI i) 6 from by first | exact vp_in_nI (by omega) (by omega) | exact vp_nle (by assumption) (by omega) (by omega)) ?_
        rw [nI_clamp (show i < 2 ^ 31 by omega)]
        refine Go.goto (t := 122) d_Model_bandTold_118 (by decide) ?_
        refine Go.iadd d_Model_bandTold_122 rfl ?_
        refine Go.istore_3 d_Model_bandTold_123 rfl (by rfl) ?_
        refine Go.iinc_4 d_Model_bandTold_124 rfl (by rfl) (nI_inc _) ?_
        refine Go.goto (t := 79) d_Model_bandTold_127 (by decide) ?_
        rw [if_pos c105_2] at hk
        exact ih (i + 1) _ (by omega) hk
theorem d_Model_bandTold_135 : decode M_Model_bandTold.2.1 135 = .ok (.iload 4, 2) := by decide +kernel
theorem d_Model_bandTold_137 : decode M_Model_bandTold.2.1 137 = .ok (.aload_n 0, 1) := by decide +kernel
theorem d_Model_bandTold_138 : decode M_Model_bandTold.2.1 138 = .ok (.getfield 20, 3) := by decide +kernel
theorem d_Model_bandTold_141 : decode M_Model_bandTold.2.1 141 = .ok (.getfield 40, 3) := by decide +kernel
theorem d_Model_bandTold_144 : decode M_Model_bandTold.2.1 144 = .ok (.bipush 6, 2) := by decide +kernel
theorem d_Model_bandTold_146 : decode M_Model_bandTold.2.1 146 = .ok (.iaload, 1) := by decide +kernel
theorem d_Model_bandTold_147 : decode M_Model_bandTold.2.1 147 = .ok (.if_icmp .ge 31, 3) := by decide +kernel
theorem d_Model_bandTold_150 : decode M_Model_bandTold.2.1 150 = .ok (.iload_n 3, 1) := by decide +kernel
theorem d_Model_bandTold_151 : decode M_Model_bandTold.2.1 151 = .ok (.aload_n 0, 1) := by decide +kernel
theorem d_Model_bandTold_152 : decode M_Model_bandTold.2.1 152 = .ok (.getfield 20, 3) := by decide +kernel
theorem d_Model_bandTold_155 : decode M_Model_bandTold.2.1 155 = .ok (.getfield 187, 3) := by decide +kernel
theorem d_Model_bandTold_158 : decode M_Model_bandTold.2.1 158 = .ok (.iload 4, 2) := by decide +kernel
theorem d_Model_bandTold_160 : decode M_Model_bandTold.2.1 160 = .ok (.iaload, 1) := by decide +kernel
theorem d_Model_bandTold_161 : decode M_Model_bandTold.2.1 161 = .ok (.iload_n 1, 1) := by decide +kernel
theorem d_Model_bandTold_162 : decode M_Model_bandTold.2.1 162 = .ok (.if_icmp .ne 7, 3) := by decide +kernel
theorem d_Model_bandTold_165 : decode M_Model_bandTold.2.1 165 = .ok (.iconst 1, 1) := by decide +kernel
theorem d_Model_bandTold_166 : decode M_Model_bandTold.2.1 166 = .ok (.goto 4, 3) := by decide +kernel
theorem d_Model_bandTold_169 : decode M_Model_bandTold.2.1 169 = .ok (.iconst 0, 1) := by decide +kernel
theorem d_Model_bandTold_170 : decode M_Model_bandTold.2.1 170 = .ok (.iadd, 1) := by decide +kernel
theorem d_Model_bandTold_171 : decode M_Model_bandTold.2.1 171 = .ok (.istore_n 3, 1) := by decide +kernel
theorem d_Model_bandTold_172 : decode M_Model_bandTold.2.1 172 = .ok (.iinc 4 1, 3) := by decide +kernel
theorem d_Model_bandTold_175 : decode M_Model_bandTold.2.1 175 = .ok (.goto (-40), 3) := by decide +kernel
def l_Model_bandTold_135 (M : MO) (H : SH) (Y : SX) (x1 : Nat) (x2 : Int32) : Nat → Nat → Int32 → Int32
  | 0, _, s => s
  | k + 1, i, s => (if ((sh_ab H) i) = (nI x1) then (l_Model_bandTold_135 M H Y x1 x2 k (i + 1) (s + 1)) else (l_Model_bandTold_135 M H Y x1 x2 k (i + 1) (s + 0)))
set_option maxRecDepth 100000 in
set_option maxHeartbeats 800000 in
theorem l_Model_bandTold_135_go {Γ : G9} {h : AH} {m q r sb ro z : Nat} {n : Nat} {Q : QT} {X : XT} {M : MO} {H : SH} {Y : SX} {x1 : Nat} {x2 : Int32} (bx1 : x1 < 5) (geo : m + 2 ≤ q ∧ m + 2 ≤ r ∧ (q + 24 ≤ r ∨ r + 21 ≤ q)) (hB : sh_ha H 0 ≤ 5) (hS : sh_ha H 3 ≤ 6) (hC : sh_ha H 6 ≤ 4) (hD : sh_ha H 9 ≤ 4) (hE : sh_ha H 11 ≤ 4) (hn20 : n ≤ 20) (hn : sh_ha H 6 = n) : ∀ (k i : Nat) (s : Int32), i + k = n → Go Γ M_Model_bandTold 1 0 0 178 [some (.ref m), some (.int (nI x1)), some (.int x2), some (.int (l_Model_bandTold_135 M H Y x1 x2 k i s)), some (.int (nI (i + k)))] [] (md_ Γ h m q r r sb ro M H Y) z Q X → Go Γ M_Model_bandTold 1 0 0 135 [some (.ref m), some (.int (nI x1)), some (.int x2), some (.int s), some (.int (nI i))] [] (md_ Γ h m q r r sb ro M H Y) z Q X := by
  intro k
  induction k with
  | zero =>
    intro i s hi hk
    refine Go.iload_4 d_Model_bandTold_135 rfl ?_
    refine Go.aload_0 d_Model_bandTold_137 rfl ?_
    refine Go.getfield d_Model_bandTold_138 rfl f_Model_20 (ms_at_m (by omega) hB hS hC hD hE) (by rfl) ?_
    refine Go.getfield d_Model_bandTold_141 rfl f_Model_40 (ms_at_q (by omega) hB hS hC hD hE) (by rfl) ?_
    refine Go.bipush (v := 6) d_Model_bandTold_144 rfl (by decide) ?_
    refine Go.iaload d_Model_bandTold_146 rfl (ms_at_q_5 (by omega) hB hS hC hD hE) (show vp_in (nI 6) 12 from by first | exact vp_in_nI (by omega) (by omega) | exact vp_nle (by assumption) (by omega) (by omega)) ?_
    rw [show (6 : Int32).toNatClampNeg = 6 from by decide]
    refine Go.icmp_ge (t := 178) d_Model_bandTold_147 (by decide) rfl (fun c147_1 => ?_) (fun c147_1 => ?_)
    · exact hk
    · exact absurd (nI_le (by omega) (by omega)) c147_1
  | succ k ih =>
    intro i s hi hk
    unfold l_Model_bandTold_135 at hk
    rw [show i + (k + 1) = i + 1 + k by omega] at hk
    refine Go.iload_4 d_Model_bandTold_135 rfl ?_
    refine Go.aload_0 d_Model_bandTold_137 rfl ?_
    refine Go.getfield d_Model_bandTold_138 rfl f_Model_20 (ms_at_m (by omega) hB hS hC hD hE) (by rfl) ?_
    refine Go.getfield d_Model_bandTold_141 rfl f_Model_40 (ms_at_q (by omega) hB hS hC hD hE) (by rfl) ?_
    refine Go.bipush (v := 6) d_Model_bandTold_144 rfl (by decide) ?_
    refine Go.iaload d_Model_bandTold_146 rfl (ms_at_q_5 (by omega) hB hS hC hD hE) (show vp_in (nI 6) 12 from by first | exact vp_in_nI (by omega) (by omega) | exact vp_nle (by assumption) (by omega) (by omega)) ?_
    rw [show (6 : Int32).toNatClampNeg = 6 from by decide]
    refine Go.icmp_ge (t := 178) d_Model_bandTold_147 (by decide) rfl (fun c147_1 => ?_) (fun c147_1 => ?_)
    · exact absurd c147_1 (nI_ge (by omega) (by omega))
    · refine Go.iload_3 d_Model_bandTold_150 rfl ?_
      refine Go.aload_0 d_Model_bandTold_151 rfl ?_
      refine Go.getfield d_Model_bandTold_152 rfl f_Model_20 (ms_at_m (by omega) hB hS hC hD hE) (by rfl) ?_
      refine Go.getfield d_Model_bandTold_155 rfl f_Model_187 (ms_at_q (by omega) hB hS hC hD hE) (by rfl) ?_
      refine Go.iload_4 d_Model_bandTold_158 rfl ?_
      refine Go.iaload d_Model_bandTold_160 rfl (ms_at_q_11 (by omega) hB hS hC hD hE) (show vp_in (nI i) 4 from by first | exact vp_in_nI (by omega) (by omega) | exact vp_nle (by assumption) (by omega) (by omega)) ?_
      rw [nI_clamp (show i < 2 ^ 31 by omega)]
      refine Go.iload_1 d_Model_bandTold_161 rfl ?_
      refine Go.icmp_ne (t := 169) d_Model_bandTold_162 (by decide) rfl (fun c162_2 => ?_) (fun c162_2 => ?_)
      · refine Go.iconst (v := 0) d_Model_bandTold_169 rfl (by decide) ?_
        refine Go.iadd d_Model_bandTold_170 rfl ?_
        refine Go.istore_3 d_Model_bandTold_171 rfl (by rfl) ?_
        refine Go.iinc_4 d_Model_bandTold_172 rfl (by rfl) (nI_inc _) ?_
        refine Go.goto (t := 135) d_Model_bandTold_175 (by decide) ?_
        rw [if_neg c162_2] at hk
        exact ih (i + 1) _ (by omega) hk
      · refine Go.iconst (v := 1) d_Model_bandTold_165 rfl (by decide) ?_
        refine Go.goto (t := 170) d_Model_bandTold_166 (by decide) ?_
        refine Go.iadd d_Model_bandTold_170 rfl ?_
        refine Go.istore_3 d_Model_bandTold_171 rfl (by rfl) ?_
        refine Go.iinc_4 d_Model_bandTold_172 rfl (by rfl) (nI_inc _) ?_
        refine Go.goto (t := 135) d_Model_bandTold_175 (by decide) ?_
        rw [if_pos c162_2] at hk
        exact ih (i + 1) _ (by omega) hk
theorem ms_at_q_7 {Γ : G9} {h : AH} {m q r sb ro : Nat} {M : MO} {H : SH} {Y : SX} (geo : m + 2 ≤ q ∧ m + 2 ≤ r ∧ (q + 24 ≤ r ∨ r + 21 ≤ q)) (hB : sh_ha H 0 ≤ 5) (hS : sh_ha H 3 ≤ 6) (hC : sh_ha H 6 ≤ 4) (hD : sh_ha H 9 ≤ 4) (hE : sh_ha H 11 ≤ 4) : (md_ Γ h m q r r sb ro M H Y) (q + 7) = some (aI Γ 5 (sh_hg H)) := by
  unfold md_
  exact ((blk_out (by omega)).trans (sh_g7))
theorem ms_at_r_2 {Γ : G9} {h : AH} {m q r sb ro : Nat} {M : MO} {H : SH} {Y : SX} (geo : m + 2 ≤ q ∧ m + 2 ≤ r ∧ (q + 24 ≤ r ∨ r + 21 ≤ q)) (hB : sh_ha H 0 ≤ 5) (hS : sh_ha H 3 ≤ 6) (hC : sh_ha H 6 ≤ 4) (hD : sh_ha H 9 ≤ 4) (hE : sh_ha H 11 ≤ 4) : (md_ Γ h m q r r sb ro M H Y) (r + 2) = some (aI Γ 5 (sx_sn Y)) := by
  unfold md_
  exact (sx_g2)
theorem ms_at_r_3 {Γ : G9} {h : AH} {m q r sb ro : Nat} {M : MO} {H : SH} {Y : SX} (geo : m + 2 ≤ q ∧ m + 2 ≤ r ∧ (q + 24 ≤ r ∨ r + 21 ≤ q)) (hB : sh_ha H 0 ≤ 5) (hS : sh_ha H 3 ≤ 6) (hC : sh_ha H 6 ≤ 4) (hD : sh_ha H 9 ≤ 4) (hE : sh_ha H 11 ≤ 4) : (md_ Γ h m q r r sb ro M H Y) (r + 3) = some (aI Γ 5 (sx_ic Y)) := by
  unfold md_
  exact (sx_g3)
theorem d_Model_bandTold_0 : decode M_Model_bandTold.2.1 0 = .ok (.iconst 0, 1) := by decide +kernel
theorem d_Model_bandTold_1 : decode M_Model_bandTold.2.1 1 = .ok (.istore_n 3, 1) := by decide +kernel
theorem d_Model_bandTold_2 : decode M_Model_bandTold.2.1 2 = .ok (.iload_n 2, 1) := by decide +kernel
theorem d_Model_bandTold_3 : decode M_Model_bandTold.2.1 3 = .ok (.tableswitch 129 0 4 #[33, 43, 53, 63, 73], 33) := by decide +kernel
theorem d_Model_bandTold_36 : decode M_Model_bandTold.2.1 36 = .ok (.aload_n 0, 1) := by decide +kernel
theorem d_Model_bandTold_37 : decode M_Model_bandTold.2.1 37 = .ok (.getfield 20, 3) := by decide +kernel
theorem d_Model_bandTold_40 : decode M_Model_bandTold.2.1 40 = .ok (.getfield 200, 3) := by decide +kernel
theorem d_Model_bandTold_43 : decode M_Model_bandTold.2.1 43 = .ok (.iload_n 1, 1) := by decide +kernel
theorem d_Model_bandTold_44 : decode M_Model_bandTold.2.1 44 = .ok (.iaload, 1) := by decide +kernel
theorem d_Model_bandTold_45 : decode M_Model_bandTold.2.1 45 = .ok (.ireturn, 1) := by decide +kernel
theorem d_Model_bandTold_46 : decode M_Model_bandTold.2.1 46 = .ok (.aload_n 0, 1) := by decide +kernel
theorem d_Model_bandTold_47 : decode M_Model_bandTold.2.1 47 = .ok (.getfield 27, 3) := by decide +kernel
theorem d_Model_bandTold_50 : decode M_Model_bandTold.2.1 50 = .ok (.getfield 303, 3) := by decide +kernel
theorem d_Model_bandTold_53 : decode M_Model_bandTold.2.1 53 = .ok (.iload_n 1, 1) := by decide +kernel
theorem d_Model_bandTold_54 : decode M_Model_bandTold.2.1 54 = .ok (.iaload, 1) := by decide +kernel
theorem d_Model_bandTold_55 : decode M_Model_bandTold.2.1 55 = .ok (.ireturn, 1) := by decide +kernel
theorem d_Model_bandTold_56 : decode M_Model_bandTold.2.1 56 = .ok (.aload_n 0, 1) := by decide +kernel
theorem d_Model_bandTold_57 : decode M_Model_bandTold.2.1 57 = .ok (.getfield 27, 3) := by decide +kernel
theorem d_Model_bandTold_60 : decode M_Model_bandTold.2.1 60 = .ok (.getfield 388, 3) := by decide +kernel
theorem d_Model_bandTold_63 : decode M_Model_bandTold.2.1 63 = .ok (.iload_n 1, 1) := by decide +kernel
theorem d_Model_bandTold_64 : decode M_Model_bandTold.2.1 64 = .ok (.iaload, 1) := by decide +kernel
theorem d_Model_bandTold_65 : decode M_Model_bandTold.2.1 65 = .ok (.ireturn, 1) := by decide +kernel
theorem d_Model_bandTold_66 : decode M_Model_bandTold.2.1 66 = .ok (.aload_n 0, 1) := by decide +kernel
theorem d_Model_bandTold_67 : decode M_Model_bandTold.2.1 67 = .ok (.aload_n 0, 1) := by decide +kernel
theorem d_Model_bandTold_68 : decode M_Model_bandTold.2.1 68 = .ok (.getfield 27, 3) := by decide +kernel
theorem d_Model_bandTold_71 : decode M_Model_bandTold.2.1 71 = .ok (.iload_n 1, 1) := by decide +kernel
theorem d_Model_bandTold_72 : decode M_Model_bandTold.2.1 72 = .ok (.invokevirtual 358, 3) := by decide +kernel
theorem d_Model_bandTold_75 : decode M_Model_bandTold.2.1 75 = .ok (.ireturn, 1) := by decide +kernel
theorem d_Model_bandTold_76 : decode M_Model_bandTold.2.1 76 = .ok (.iconst 0, 1) := by decide +kernel
theorem d_Model_bandTold_77 : decode M_Model_bandTold.2.1 77 = .ok (.istore 4, 2) := by decide +kernel
theorem d_Model_bandTold_130 : decode M_Model_bandTold.2.1 130 = .ok (.iload_n 3, 1) := by decide +kernel
theorem d_Model_bandTold_131 : decode M_Model_bandTold.2.1 131 = .ok (.ireturn, 1) := by decide +kernel
theorem d_Model_bandTold_132 : decode M_Model_bandTold.2.1 132 = .ok (.iconst 0, 1) := by decide +kernel
theorem d_Model_bandTold_133 : decode M_Model_bandTold.2.1 133 = .ok (.istore 4, 2) := by decide +kernel
theorem d_Model_bandTold_178 : decode M_Model_bandTold.2.1 178 = .ok (.iload_n 3, 1) := by decide +kernel
theorem d_Model_bandTold_179 : decode M_Model_bandTold.2.1 179 = .ok (.ireturn, 1) := by decide +kernel
def s_Model_bandTold (M : MO) (H : SH) (Y : SX) (x1 : Nat) (x2 : Int32) : Int32 := (if x2 = 0 then ((sh_hg H) x1) else (if x2 = 1 then ((sx_sn Y) x1) else (if x2 = 2 then ((sx_ic Y) x1) else (if x2 = 3 then (s_Model_teamsIn M H Y (nI x1)) else (if x2 = 4 then (l_Model_bandTold_79 M H Y x1 x2 (sh_ha H 3) 0 0) else (l_Model_bandTold_135 M H Y x1 x2 (sh_ha H 6) 0 0))))))
set_option maxRecDepth 100000 in
set_option maxHeartbeats 800000 in
theorem c_Model_bandTold {Γ : G9} {h : AH} {m q r sb ro z : Nat} {M : MO} {H : SH} {Y : SX} {x1 : Nat} {vx1 : Int32} {x2 : Int32} (ex1 : vx1 = nI x1) (bx1 : x1 < 5) (geo : m + 2 ≤ q ∧ m + 2 ≤ r ∧ (q + 24 ≤ r ∨ r + 21 ≤ q)) (hB : sh_ha H 0 ≤ 5) (hS : sh_ha H 3 ≤ 6) (hC : sh_ha H 6 ≤ 4) (hD : sh_ha H 9 ≤ 4) (hE : sh_ha H 11 ≤ 4) : CallR Γ M_Model_bandTold 1 [.ref m, .int vx1, .int x2] (md_ Γ h m q r r sb ro M H Y) z (some (.int (s_Model_bandTold M H Y x1 x2))) (md_ Γ h m q r r sb ro M H Y) := by
  subst ex1
  refine Call.of_go (L := [some (.ref m), some (.int (nI x1)), some (.int x2), none, none]) (by decide +kernel) rfl (by exact Nat.le_of_ble_eq_true rfl) ?_
  unfold s_Model_bandTold
  refine Go.iconst (v := 0) d_Model_bandTold_0 rfl (by decide) ?_
  refine Go.istore_3 d_Model_bandTold_1 rfl (by rfl) ?_
  refine Go.iload_2 d_Model_bandTold_2 rfl ?_
  by_cases w3_1 : x2 = 0
  · refine Go.tsw (t := 36) d_Model_bandTold_3 (by rw [w3_1]; rfl) ?_
    refine Go.aload_0 d_Model_bandTold_36 rfl ?_
    refine Go.getfield d_Model_bandTold_37 rfl f_Model_20 (ms_at_m (by omega) hB hS hC hD hE) (by rfl) ?_
    refine Go.getfield d_Model_bandTold_40 rfl f_Model_200 (ms_at_q (by omega) hB hS hC hD hE) (by rfl) ?_
    refine Go.iload_1 d_Model_bandTold_43 rfl ?_
    refine Go.iaload d_Model_bandTold_44 rfl (ms_at_q_7 (by omega) hB hS hC hD hE) (show vp_in (nI x1) 5 from by first | exact vp_in_nI (by omega) (by omega) | exact vp_nle (by assumption) (by omega) (by omega)) ?_
    rw [nI_clamp (show x1 < 2 ^ 31 by omega)]
    rw [if_pos w3_1]
    exact Go.iret d_Model_bandTold_45 rfl rfl ⟨rfl, rfl, rfl⟩
  by_cases w3_2 : x2 = 1
  · refine Go.tsw (t := 46) d_Model_bandTold_3 (by rw [w3_2]; rfl) ?_
    refine Go.aload_0 d_Model_bandTold_46 rfl ?_
    refine Go.getfield d_Model_bandTold_47 rfl f_Model_27 (ms_at_m (by omega) hB hS hC hD hE) (by rfl) ?_
    refine Go.getfield d_Model_bandTold_50 rfl f_Model_303 (ms_at_r (by omega) hB hS hC hD hE) (by rfl) ?_
    refine Go.iload_1 d_Model_bandTold_53 rfl ?_
    refine Go.iaload d_Model_bandTold_54 rfl (ms_at_r_2 (by omega) hB hS hC hD hE) (show vp_in (nI x1) 5 from by first | exact vp_in_nI (by omega) (by omega) | exact vp_nle (by assumption) (by omega) (by omega)) ?_
    rw [nI_clamp (show x1 < 2 ^ 31 by omega)]
    rw [if_neg w3_1, if_pos w3_2]
    exact Go.iret d_Model_bandTold_55 rfl rfl ⟨rfl, rfl, rfl⟩
  by_cases w3_3 : x2 = 2
  · refine Go.tsw (t := 56) d_Model_bandTold_3 (by rw [w3_3]; rfl) ?_
    refine Go.aload_0 d_Model_bandTold_56 rfl ?_
    refine Go.getfield d_Model_bandTold_57 rfl f_Model_27 (ms_at_m (by omega) hB hS hC hD hE) (by rfl) ?_
    refine Go.getfield d_Model_bandTold_60 rfl f_Model_388 (ms_at_r (by omega) hB hS hC hD hE) (by rfl) ?_
    refine Go.iload_1 d_Model_bandTold_63 rfl ?_
    refine Go.iaload d_Model_bandTold_64 rfl (ms_at_r_3 (by omega) hB hS hC hD hE) (show vp_in (nI x1) 5 from by first | exact vp_in_nI (by omega) (by omega) | exact vp_nle (by assumption) (by omega) (by omega)) ?_
    rw [nI_clamp (show x1 < 2 ^ 31 by omega)]
    rw [if_neg w3_1, if_neg w3_2, if_pos w3_3]
    exact Go.iret d_Model_bandTold_65 rfl rfl ⟨rfl, rfl, rfl⟩
  by_cases w3_4 : x2 = 3
  · refine Go.tsw (t := 66) d_Model_bandTold_3 (by rw [w3_4]; rfl) ?_
    refine Go.aload_0 d_Model_bandTold_66 rfl ?_
    refine Go.aload_0 d_Model_bandTold_67 rfl ?_
    refine Go.getfield d_Model_bandTold_68 rfl f_Model_27 (ms_at_m (by omega) hB hS hC hD hE) (by rfl) ?_
    refine Go.iload_1 d_Model_bandTold_71 rfl ?_
    refine Go.cv2r d_Model_bandTold_72 rfl l_Model_358 k_Model_teamsIn_v (ms_at_m (by omega) hB hS hC hD hE) rfl (c_Model_teamsIn (by omega) hB hS hC hD hE) (Nat.ble_eq_true_of_le (by omega)) rfl rfl ?_
    rw [if_neg w3_1, if_neg w3_2, if_neg w3_3, if_pos w3_4]
    exact Go.iret d_Model_bandTold_75 rfl rfl ⟨rfl, rfl, rfl⟩
  by_cases w3_5 : x2 = 4
  · refine Go.tsw (t := 76) d_Model_bandTold_3 (by rw [w3_5]; rfl) ?_
    refine Go.iconst (v := 0) d_Model_bandTold_76 rfl (by decide) ?_
    refine Go.istore_4 d_Model_bandTold_77 rfl (by rfl) ?_
    refine l_Model_bandTold_79_go (n := (sh_ha H 3)) bx1 geo hB hS hC hD hE (by omega) rfl (sh_ha H 3) 0 0 (by omega) ?_
    refine Go.iload_3 d_Model_bandTold_130 rfl ?_
    rw [if_neg w3_1, if_neg w3_2, if_neg w3_3, if_neg w3_4, if_pos w3_5]
    exact Go.iret d_Model_bandTold_131 rfl rfl ⟨rfl, rfl, rfl⟩
  refine Go.tsw (t := 132) d_Model_bandTold_3 (tsw_out fun n hn => by
      match n, hn with
      | 0, _ => exact fun w => w3_1 (i32_eq w)
      | 1, _ => exact fun w => w3_2 (i32_eq w)
      | 2, _ => exact fun w => w3_3 (i32_eq w)
      | 3, _ => exact fun w => w3_4 (i32_eq w)
      | 4, _ => exact fun w => w3_5 (i32_eq w)
      | _ + 5, w => exact absurd w (by simp)) ?_
  refine Go.iconst (v := 0) d_Model_bandTold_132 rfl (by decide) ?_
  refine Go.istore_4 d_Model_bandTold_133 rfl (by rfl) ?_
  refine l_Model_bandTold_135_go (n := (sh_ha H 6)) bx1 geo hB hS hC hD hE (by omega) rfl (sh_ha H 6) 0 0 (by omega) ?_
  refine Go.iload_3 d_Model_bandTold_178 rfl ?_
  rw [if_neg w3_1, if_neg w3_2, if_neg w3_3, if_neg w3_4, if_neg w3_5]
  exact Go.iret d_Model_bandTold_179 rfl rfl ⟨rfl, rfl, rfl⟩
theorem d_Model_band_0 : decode M_Model_band.2.1 0 = .ok (.aload_n 0, 1) := by decide +kernel
theorem d_Model_band_1 : decode M_Model_band.2.1 1 = .ok (.iconst 0, 1) := by decide +kernel
theorem d_Model_band_2 : decode M_Model_band.2.1 2 = .ok (.putfield 37, 3) := by decide +kernel
theorem d_Model_band_5 : decode M_Model_band.2.1 5 = .ok (.aload_n 0, 1) := by decide +kernel
theorem d_Model_band_6 : decode M_Model_band.2.1 6 = .ok (.iconst 0, 1) := by decide +kernel
theorem d_Model_band_7 : decode M_Model_band.2.1 7 = .ok (.iload_n 1, 1) := by decide +kernel
theorem d_Model_band_8 : decode M_Model_band.2.1 8 = .ok (.invokevirtual 450, 3) := by decide +kernel
theorem d_Model_band_11 : decode M_Model_band.2.1 11 = .ok (.ifCond .eq 21, 3) := by decide +kernel
theorem d_Model_band_14 : decode M_Model_band.2.1 14 = .ok (.iload_n 2, 1) := by decide +kernel
theorem d_Model_band_15 : decode M_Model_band.2.1 15 = .ok (.iconst 0, 1) := by decide +kernel
theorem d_Model_band_16 : decode M_Model_band.2.1 16 = .ok (.iconst 5, 1) := by decide +kernel
theorem d_Model_band_17 : decode M_Model_band.2.1 17 = .ok (.invokestatic 43, 3) := by decide +kernel
theorem d_Model_band_20 : decode M_Model_band.2.1 20 = .ok (.ifCond .eq 12, 3) := by decide +kernel
theorem d_Model_band_23 : decode M_Model_band.2.1 23 = .ok (.aload_n 0, 1) := by decide +kernel
theorem d_Model_band_24 : decode M_Model_band.2.1 24 = .ok (.iload_n 1, 1) := by decide +kernel
theorem d_Model_band_25 : decode M_Model_band.2.1 25 = .ok (.iload_n 2, 1) := by decide +kernel
theorem d_Model_band_26 : decode M_Model_band.2.1 26 = .ok (.invokevirtual 454, 3) := by decide +kernel
theorem d_Model_band_29 : decode M_Model_band.2.1 29 = .ok (.goto 8, 3) := by decide +kernel
theorem d_Model_band_32 : decode M_Model_band.2.1 32 = .ok (.aload_n 0, 1) := by decide +kernel
theorem d_Model_band_33 : decode M_Model_band.2.1 33 = .ok (.iconst 1, 1) := by decide +kernel
theorem d_Model_band_34 : decode M_Model_band.2.1 34 = .ok (.invokevirtual 427, 3) := by decide +kernel
theorem d_Model_band_37 : decode M_Model_band.2.1 37 = .ok (.ireturn, 1) := by decide +kernel
def s_Model_band (M : MO) (H : SH) (Y : SX) (x1 : Int32) (x2 : Int32) : Int32 × MO := (if (s_Model_is (mo_th' M 0) H Y 0 x1) = 0 then ((s_Model_no (mo_th' M 0) H Y 1).1, (s_Model_no (mo_th' M 0) H Y 1).2) else (if (s_Model_isIn x2 0 5) = 0 then ((s_Model_no (mo_th' M 0) H Y 1).1, (s_Model_no (mo_th' M 0) H Y 1).2) else ((s_Model_bandTold (mo_th' M 0) H Y x1.toNatClampNeg x2), (mo_th' M 0))))
set_option maxRecDepth 100000 in
set_option maxHeartbeats 800000 in
theorem c_Model_band {Γ : G9} {h : AH} {m q r sb ro z : Nat} {M : MO} {H : SH} {Y : SX} {x1 : Int32} {x2 : Int32} (geo : m + 2 ≤ q ∧ m + 2 ≤ r ∧ (q + 24 ≤ r ∨ r + 21 ≤ q)) (hB : sh_ha H 0 ≤ 5) (hS : sh_ha H 3 ≤ 6) (hC : sh_ha H 6 ≤ 4) (hD : sh_ha H 9 ≤ 4) (hE : sh_ha H 11 ≤ 4) : CallR Γ M_Model_band 2 [.ref m, .int x1, .int x2] (md_ Γ h m q r r sb ro M H Y) z (some (.int (s_Model_band M H Y x1 x2).1)) (md_ Γ h m q r r sb ro (s_Model_band M H Y x1 x2).2 H Y) := by
  refine Call.of_go (L := [some (.ref m), some (.int x1), some (.int x2)]) (by decide +kernel) rfl (by exact Nat.le_of_ble_eq_true rfl) ?_
  unfold s_Model_band
  refine Go.aload_0 d_Model_band_0 rfl ?_
  refine Go.iconst (v := 0) d_Model_band_1 rfl (by decide) ?_
  refine Go.putfield d_Model_band_2 rfl f_Model_37_p (Or.inl (fun C T N h => by cases h; rfl)) (ms_at_m (by omega) hB hS hC hD hE) (by exact Nat.le_of_ble_eq_true rfl) rfl rfl ?_
  refine Go.heq (ms_put_m_thrown (by omega) hB hS hC hD hE) ?_
  refine Go.aload_0 d_Model_band_5 rfl ?_
  refine Go.iconst (v := 0) d_Model_band_6 rfl (by decide) ?_
  refine Go.iload_1 d_Model_band_7 rfl ?_
  refine Go.cv2r d_Model_band_8 rfl l_Model_450 k_Model_is_v (ms_at_m (by omega) hB hS hC hD hE) rfl (c_Model_is (x1 := 0) rfl (by omega) (by omega) hB hS hC hD hE) (Nat.ble_eq_true_of_le (by omega)) rfl rfl ?_
  refine Go.if_eq (t := 32) d_Model_band_11 (by decide) rfl (fun c11_1 => ?_) (fun c11_1 => ?_)
  · refine Go.aload_0 d_Model_band_32 rfl ?_
    refine Go.iconst (v := 1) d_Model_band_33 rfl (by decide) ?_
    refine Go.cv1r d_Model_band_34 rfl l_Model_427 k_Model_no_v (ms_at_m (by omega) hB hS hC hD hE) rfl (c_Model_no (by omega) hB hS hC hD hE) (Nat.ble_eq_true_of_le (by omega)) rfl rfl ?_
    rw [if_pos c11_1]
    exact Go.iret d_Model_band_37 rfl rfl ⟨rfl, by dsimp only, rfl⟩
  · refine Go.iload_2 d_Model_band_14 rfl ?_
    refine Go.iconst (v := 0) d_Model_band_15 rfl (by decide) ?_
    refine Go.iconst (v := 5) d_Model_band_16 rfl (by decide) ?_
    refine Go.cs3r d_Model_band_17 rfl l_Model_43 k_Model_isIn_s rfl (ms_c_Model_isIn_ (by omega) hB hS hC hD hE) (Nat.ble_eq_true_of_le (by omega)) rfl rfl ?_
    refine Go.if_eq (t := 32) d_Model_band_20 (by decide) rfl (fun c20_2 => ?_) (fun c20_2 => ?_)
    · refine Go.aload_0 d_Model_band_32 rfl ?_
      refine Go.iconst (v := 1) d_Model_band_33 rfl (by decide) ?_
      refine Go.cv1r d_Model_band_34 rfl l_Model_427 k_Model_no_v (ms_at_m (by omega) hB hS hC hD hE) rfl (c_Model_no (by omega) hB hS hC hD hE) (Nat.ble_eq_true_of_le (by omega)) rfl rfl ?_
      rw [if_neg c11_1, if_pos c20_2]
      exact Go.iret d_Model_band_37 rfl rfl ⟨rfl, by dsimp only, rfl⟩
    · refine Go.aload_0 d_Model_band_23 rfl ?_
      refine Go.iload_1 d_Model_band_24 rfl ?_
      refine Go.iload_2 d_Model_band_25 rfl ?_
      refine Go.cv2r d_Model_band_26 rfl l_Model_454 k_Model_bandTold_v (ms_at_m (by omega) hB hS hC hD hE) rfl (c_Model_bandTold (x1 := x1.toNatClampNeg) (nI_back (is_ok c11_1).1) (is_lt c11_1 hB (by decide)) (by omega) hB hS hC hD hE) (Nat.ble_eq_true_of_le (by omega)) rfl rfl ?_
      refine Go.goto (t := 37) d_Model_band_29 (by decide) ?_
      rw [if_neg c11_1, if_neg c20_2]
      exact Go.iret d_Model_band_37 rfl rfl ⟨rfl, by dsimp only, rfl⟩
theorem d_Model_stake_0 : decode M_Model_stake.2.1 0 = .ok (.aload_n 0, 1) := by decide +kernel
theorem d_Model_stake_1 : decode M_Model_stake.2.1 1 = .ok (.iconst 0, 1) := by decide +kernel
theorem d_Model_stake_2 : decode M_Model_stake.2.1 2 = .ok (.putfield 37, 3) := by decide +kernel
theorem d_Model_stake_5 : decode M_Model_stake.2.1 5 = .ok (.aload_n 0, 1) := by decide +kernel
theorem d_Model_stake_6 : decode M_Model_stake.2.1 6 = .ok (.iconst 3, 1) := by decide +kernel
theorem d_Model_stake_7 : decode M_Model_stake.2.1 7 = .ok (.iload_n 1, 1) := by decide +kernel
theorem d_Model_stake_8 : decode M_Model_stake.2.1 8 = .ok (.invokevirtual 450, 3) := by decide +kernel
theorem d_Model_stake_11 : decode M_Model_stake.2.1 11 = .ok (.ifCond .eq 21, 3) := by decide +kernel
theorem d_Model_stake_14 : decode M_Model_stake.2.1 14 = .ok (.iload_n 2, 1) := by decide +kernel
theorem d_Model_stake_15 : decode M_Model_stake.2.1 15 = .ok (.iconst 0, 1) := by decide +kernel
theorem d_Model_stake_16 : decode M_Model_stake.2.1 16 = .ok (.iconst 5, 1) := by decide +kernel
theorem d_Model_stake_17 : decode M_Model_stake.2.1 17 = .ok (.invokestatic 43, 3) := by decide +kernel
theorem d_Model_stake_20 : decode M_Model_stake.2.1 20 = .ok (.ifCond .eq 12, 3) := by decide +kernel
theorem d_Model_stake_23 : decode M_Model_stake.2.1 23 = .ok (.aload_n 0, 1) := by decide +kernel
theorem d_Model_stake_24 : decode M_Model_stake.2.1 24 = .ok (.iload_n 1, 1) := by decide +kernel
theorem d_Model_stake_25 : decode M_Model_stake.2.1 25 = .ok (.iload_n 2, 1) := by decide +kernel
theorem d_Model_stake_26 : decode M_Model_stake.2.1 26 = .ok (.invokevirtual 457, 3) := by decide +kernel
theorem d_Model_stake_29 : decode M_Model_stake.2.1 29 = .ok (.goto 8, 3) := by decide +kernel
theorem d_Model_stake_32 : decode M_Model_stake.2.1 32 = .ok (.aload_n 0, 1) := by decide +kernel
theorem d_Model_stake_33 : decode M_Model_stake.2.1 33 = .ok (.iconst 1, 1) := by decide +kernel
theorem d_Model_stake_34 : decode M_Model_stake.2.1 34 = .ok (.invokevirtual 427, 3) := by decide +kernel
theorem d_Model_stake_37 : decode M_Model_stake.2.1 37 = .ok (.ireturn, 1) := by decide +kernel
def s_Model_stake (M : MO) (H : SH) (Y : SX) (x1 : Int32) (x2 : Int32) : Int32 × MO := (if (s_Model_is (mo_th' M 0) H Y 3 x1) = 0 then ((s_Model_no (mo_th' M 0) H Y 1).1, (s_Model_no (mo_th' M 0) H Y 1).2) else (if (s_Model_isIn x2 0 5) = 0 then ((s_Model_no (mo_th' M 0) H Y 1).1, (s_Model_no (mo_th' M 0) H Y 1).2) else ((s_Model_stakeTold (mo_th' M 0) H Y x1.toNatClampNeg x2), (mo_th' M 0))))
set_option maxRecDepth 100000 in
set_option maxHeartbeats 800000 in
theorem c_Model_stake {Γ : G9} {h : AH} {m q r sb ro z : Nat} {M : MO} {H : SH} {Y : SX} {x1 : Int32} {x2 : Int32} (geo : m + 2 ≤ q ∧ m + 2 ≤ r ∧ (q + 24 ≤ r ∨ r + 21 ≤ q)) (hB : sh_ha H 0 ≤ 5) (hS : sh_ha H 3 ≤ 6) (hC : sh_ha H 6 ≤ 4) (hD : sh_ha H 9 ≤ 4) (hE : sh_ha H 11 ≤ 4) : CallR Γ M_Model_stake 2 [.ref m, .int x1, .int x2] (md_ Γ h m q r r sb ro M H Y) z (some (.int (s_Model_stake M H Y x1 x2).1)) (md_ Γ h m q r r sb ro (s_Model_stake M H Y x1 x2).2 H Y) := by
  refine Call.of_go (L := [some (.ref m), some (.int x1), some (.int x2)]) (by decide +kernel) rfl (by exact Nat.le_of_ble_eq_true rfl) ?_
  unfold s_Model_stake
  refine Go.aload_0 d_Model_stake_0 rfl ?_
  refine Go.iconst (v := 0) d_Model_stake_1 rfl (by decide) ?_
  refine Go.putfield d_Model_stake_2 rfl f_Model_37_p (Or.inl (fun C T N h => by cases h; rfl)) (ms_at_m (by omega) hB hS hC hD hE) (by exact Nat.le_of_ble_eq_true rfl) rfl rfl ?_
  refine Go.heq (ms_put_m_thrown (by omega) hB hS hC hD hE) ?_
  refine Go.aload_0 d_Model_stake_5 rfl ?_
  refine Go.iconst (v := 3) d_Model_stake_6 rfl (by decide) ?_
  refine Go.iload_1 d_Model_stake_7 rfl ?_
  refine Go.cv2r d_Model_stake_8 rfl l_Model_450 k_Model_is_v (ms_at_m (by omega) hB hS hC hD hE) rfl (c_Model_is (x1 := 3) rfl (by omega) (by omega) hB hS hC hD hE) (Nat.ble_eq_true_of_le (by omega)) rfl rfl ?_
  refine Go.if_eq (t := 32) d_Model_stake_11 (by decide) rfl (fun c11_1 => ?_) (fun c11_1 => ?_)
  · refine Go.aload_0 d_Model_stake_32 rfl ?_
    refine Go.iconst (v := 1) d_Model_stake_33 rfl (by decide) ?_
    refine Go.cv1r d_Model_stake_34 rfl l_Model_427 k_Model_no_v (ms_at_m (by omega) hB hS hC hD hE) rfl (c_Model_no (by omega) hB hS hC hD hE) (Nat.ble_eq_true_of_le (by omega)) rfl rfl ?_
    rw [if_pos c11_1]
    exact Go.iret d_Model_stake_37 rfl rfl ⟨rfl, by dsimp only, rfl⟩
  · refine Go.iload_2 d_Model_stake_14 rfl ?_
    refine Go.iconst (v := 0) d_Model_stake_15 rfl (by decide) ?_
    refine Go.iconst (v := 5) d_Model_stake_16 rfl (by decide) ?_
    refine Go.cs3r d_Model_stake_17 rfl l_Model_43 k_Model_isIn_s rfl (ms_c_Model_isIn_ (by omega) hB hS hC hD hE) (Nat.ble_eq_true_of_le (by omega)) rfl rfl ?_
    refine Go.if_eq (t := 32) d_Model_stake_20 (by decide) rfl (fun c20_2 => ?_) (fun c20_2 => ?_)
    · refine Go.aload_0 d_Model_stake_32 rfl ?_
      refine Go.iconst (v := 1) d_Model_stake_33 rfl (by decide) ?_
      refine Go.cv1r d_Model_stake_34 rfl l_Model_427 k_Model_no_v (ms_at_m (by omega) hB hS hC hD hE) rfl (c_Model_no (by omega) hB hS hC hD hE) (Nat.ble_eq_true_of_le (by omega)) rfl rfl ?_
      rw [if_neg c11_1, if_pos c20_2]
      exact Go.iret d_Model_stake_37 rfl rfl ⟨rfl, by dsimp only, rfl⟩
    · refine Go.aload_0 d_Model_stake_23 rfl ?_
      refine Go.iload_1 d_Model_stake_24 rfl ?_
      refine Go.iload_2 d_Model_stake_25 rfl ?_
      refine Go.cv2r d_Model_stake_26 rfl l_Model_457 k_Model_stakeTold_v (ms_at_m (by omega) hB hS hC hD hE) rfl (c_Model_stakeTold (x1 := x1.toNatClampNeg) (nI_back (is_ok c11_1).1) (is_lt c11_1 hS (by decide)) (by omega) hB hS hC hD hE) (Nat.ble_eq_true_of_le (by omega)) rfl rfl ?_
      refine Go.goto (t := 37) d_Model_stake_29 (by decide) ?_
      rw [if_neg c11_1, if_neg c20_2]
      exact Go.iret d_Model_stake_37 rfl rfl ⟨rfl, by dsimp only, rfl⟩
theorem d_Model_crevasse_0 : decode M_Model_crevasse.2.1 0 = .ok (.aload_n 0, 1) := by decide +kernel
theorem d_Model_crevasse_1 : decode M_Model_crevasse.2.1 1 = .ok (.iconst 0, 1) := by decide +kernel
theorem d_Model_crevasse_2 : decode M_Model_crevasse.2.1 2 = .ok (.putfield 37, 3) := by decide +kernel
theorem d_Model_crevasse_5 : decode M_Model_crevasse.2.1 5 = .ok (.aload_n 0, 1) := by decide +kernel
theorem d_Model_crevasse_6 : decode M_Model_crevasse.2.1 6 = .ok (.bipush 6, 2) := by decide +kernel
theorem d_Model_crevasse_8 : decode M_Model_crevasse.2.1 8 = .ok (.iload_n 1, 1) := by decide +kernel
theorem d_Model_crevasse_9 : decode M_Model_crevasse.2.1 9 = .ok (.invokevirtual 450, 3) := by decide +kernel
theorem d_Model_crevasse_12 : decode M_Model_crevasse.2.1 12 = .ok (.ifCond .eq 21, 3) := by decide +kernel
theorem d_Model_crevasse_15 : decode M_Model_crevasse.2.1 15 = .ok (.iload_n 2, 1) := by decide +kernel
theorem d_Model_crevasse_16 : decode M_Model_crevasse.2.1 16 = .ok (.iconst 0, 1) := by decide +kernel
theorem d_Model_crevasse_17 : decode M_Model_crevasse.2.1 17 = .ok (.iconst 5, 1) := by decide +kernel
theorem d_Model_crevasse_18 : decode M_Model_crevasse.2.1 18 = .ok (.invokestatic 43, 3) := by decide +kernel
theorem d_Model_crevasse_21 : decode M_Model_crevasse.2.1 21 = .ok (.ifCond .eq 12, 3) := by decide +kernel
theorem d_Model_crevasse_24 : decode M_Model_crevasse.2.1 24 = .ok (.aload_n 0, 1) := by decide +kernel
theorem d_Model_crevasse_25 : decode M_Model_crevasse.2.1 25 = .ok (.iload_n 1, 1) := by decide +kernel
theorem d_Model_crevasse_26 : decode M_Model_crevasse.2.1 26 = .ok (.iload_n 2, 1) := by decide +kernel
theorem d_Model_crevasse_27 : decode M_Model_crevasse.2.1 27 = .ok (.invokevirtual 460, 3) := by decide +kernel
theorem d_Model_crevasse_30 : decode M_Model_crevasse.2.1 30 = .ok (.goto 8, 3) := by decide +kernel
theorem d_Model_crevasse_33 : decode M_Model_crevasse.2.1 33 = .ok (.aload_n 0, 1) := by decide +kernel
theorem d_Model_crevasse_34 : decode M_Model_crevasse.2.1 34 = .ok (.iconst 1, 1) := by decide +kernel
theorem d_Model_crevasse_35 : decode M_Model_crevasse.2.1 35 = .ok (.invokevirtual 427, 3) := by decide +kernel
theorem d_Model_crevasse_38 : decode M_Model_crevasse.2.1 38 = .ok (.ireturn, 1) := by decide +kernel
def s_Model_crevasse (M : MO) (H : SH) (Y : SX) (x1 : Int32) (x2 : Int32) : Int32 × MO := (if (s_Model_is (mo_th' M 0) H Y 6 x1) = 0 then ((s_Model_no (mo_th' M 0) H Y 1).1, (s_Model_no (mo_th' M 0) H Y 1).2) else (if (s_Model_isIn x2 0 5) = 0 then ((s_Model_no (mo_th' M 0) H Y 1).1, (s_Model_no (mo_th' M 0) H Y 1).2) else ((s_Model_crevasseTold (mo_th' M 0) H Y x1.toNatClampNeg x2), (mo_th' M 0))))
set_option maxRecDepth 100000 in
set_option maxHeartbeats 800000 in
theorem c_Model_crevasse {Γ : G9} {h : AH} {m q r sb ro z : Nat} {M : MO} {H : SH} {Y : SX} {x1 : Int32} {x2 : Int32} (geo : m + 2 ≤ q ∧ m + 2 ≤ r ∧ (q + 24 ≤ r ∨ r + 21 ≤ q)) (hB : sh_ha H 0 ≤ 5) (hS : sh_ha H 3 ≤ 6) (hC : sh_ha H 6 ≤ 4) (hD : sh_ha H 9 ≤ 4) (hE : sh_ha H 11 ≤ 4) : CallR Γ M_Model_crevasse 2 [.ref m, .int x1, .int x2] (md_ Γ h m q r r sb ro M H Y) z (some (.int (s_Model_crevasse M H Y x1 x2).1)) (md_ Γ h m q r r sb ro (s_Model_crevasse M H Y x1 x2).2 H Y) := by
  refine Call.of_go (L := [some (.ref m), some (.int x1), some (.int x2)]) (by decide +kernel) rfl (by exact Nat.le_of_ble_eq_true rfl) ?_
  unfold s_Model_crevasse
  refine Go.aload_0 d_Model_crevasse_0 rfl ?_
  refine Go.iconst (v := 0) d_Model_crevasse_1 rfl (by decide) ?_
  refine Go.putfield d_Model_crevasse_2 rfl f_Model_37_p (Or.inl (fun C T N h => by cases h; rfl)) (ms_at_m (by omega) hB hS hC hD hE) (by exact Nat.le_of_ble_eq_true rfl) rfl rfl ?_
  refine Go.heq (ms_put_m_thrown (by omega) hB hS hC hD hE) ?_
  refine Go.aload_0 d_Model_crevasse_5 rfl ?_
  refine Go.bipush (v := 6) d_Model_crevasse_6 rfl (by decide) ?_
  refine Go.iload_1 d_Model_crevasse_8 rfl ?_
  refine Go.cv2r d_Model_crevasse_9 rfl l_Model_450 k_Model_is_v (ms_at_m (by omega) hB hS hC hD hE) rfl (c_Model_is (x1 := 6) rfl (by omega) (by omega) hB hS hC hD hE) (Nat.ble_eq_true_of_le (by omega)) rfl rfl ?_
  refine Go.if_eq (t := 33) d_Model_crevasse_12 (by decide) rfl (fun c12_1 => ?_) (fun c12_1 => ?_)
  · refine Go.aload_0 d_Model_crevasse_33 rfl ?_
    refine Go.iconst (v := 1) d_Model_crevasse_34 rfl (by decide) ?_
    refine Go.cv1r d_Model_crevasse_35 rfl l_Model_427 k_Model_no_v (ms_at_m (by omega) hB hS hC hD hE) rfl (c_Model_no (by omega) hB hS hC hD hE) (Nat.ble_eq_true_of_le (by omega)) rfl rfl ?_
    rw [if_pos c12_1]
    exact Go.iret d_Model_crevasse_38 rfl rfl ⟨rfl, by dsimp only, rfl⟩
  · refine Go.iload_2 d_Model_crevasse_15 rfl ?_
    refine Go.iconst (v := 0) d_Model_crevasse_16 rfl (by decide) ?_
    refine Go.iconst (v := 5) d_Model_crevasse_17 rfl (by decide) ?_
    refine Go.cs3r d_Model_crevasse_18 rfl l_Model_43 k_Model_isIn_s rfl (ms_c_Model_isIn_ (by omega) hB hS hC hD hE) (Nat.ble_eq_true_of_le (by omega)) rfl rfl ?_
    refine Go.if_eq (t := 33) d_Model_crevasse_21 (by decide) rfl (fun c21_2 => ?_) (fun c21_2 => ?_)
    · refine Go.aload_0 d_Model_crevasse_33 rfl ?_
      refine Go.iconst (v := 1) d_Model_crevasse_34 rfl (by decide) ?_
      refine Go.cv1r d_Model_crevasse_35 rfl l_Model_427 k_Model_no_v (ms_at_m (by omega) hB hS hC hD hE) rfl (c_Model_no (by omega) hB hS hC hD hE) (Nat.ble_eq_true_of_le (by omega)) rfl rfl ?_
      rw [if_neg c12_1, if_pos c21_2]
      exact Go.iret d_Model_crevasse_38 rfl rfl ⟨rfl, by dsimp only, rfl⟩
    · refine Go.aload_0 d_Model_crevasse_24 rfl ?_
      refine Go.iload_1 d_Model_crevasse_25 rfl ?_
      refine Go.iload_2 d_Model_crevasse_26 rfl ?_
      refine Go.cv2r d_Model_crevasse_27 rfl l_Model_460 k_Model_crevasseTold_v (ms_at_m (by omega) hB hS hC hD hE) rfl (c_Model_crevasseTold (x1 := x1.toNatClampNeg) (nI_back (is_ok c12_1).1) (is_lt c12_1 hC (by decide)) (by omega) hB hS hC hD hE) (Nat.ble_eq_true_of_le (by omega)) rfl rfl ?_
      refine Go.goto (t := 38) d_Model_crevasse_30 (by decide) ?_
      rw [if_neg c12_1, if_neg c21_2]
      exact Go.iret d_Model_crevasse_38 rfl rfl ⟨rfl, by dsimp only, rfl⟩
theorem d_Model_depot_0 : decode M_Model_depot.2.1 0 = .ok (.aload_n 0, 1) := by decide +kernel
theorem d_Model_depot_1 : decode M_Model_depot.2.1 1 = .ok (.iconst 0, 1) := by decide +kernel
theorem d_Model_depot_2 : decode M_Model_depot.2.1 2 = .ok (.putfield 37, 3) := by decide +kernel
theorem d_Model_depot_5 : decode M_Model_depot.2.1 5 = .ok (.aload_n 0, 1) := by decide +kernel
theorem d_Model_depot_6 : decode M_Model_depot.2.1 6 = .ok (.bipush 9, 2) := by decide +kernel
theorem d_Model_depot_8 : decode M_Model_depot.2.1 8 = .ok (.iload_n 1, 1) := by decide +kernel
theorem d_Model_depot_9 : decode M_Model_depot.2.1 9 = .ok (.invokevirtual 450, 3) := by decide +kernel
theorem d_Model_depot_12 : decode M_Model_depot.2.1 12 = .ok (.ifCond .eq 21, 3) := by decide +kernel
theorem d_Model_depot_15 : decode M_Model_depot.2.1 15 = .ok (.iload_n 2, 1) := by decide +kernel
theorem d_Model_depot_16 : decode M_Model_depot.2.1 16 = .ok (.iconst 0, 1) := by decide +kernel
theorem d_Model_depot_17 : decode M_Model_depot.2.1 17 = .ok (.iconst 1, 1) := by decide +kernel
theorem d_Model_depot_18 : decode M_Model_depot.2.1 18 = .ok (.invokestatic 43, 3) := by decide +kernel
theorem d_Model_depot_21 : decode M_Model_depot.2.1 21 = .ok (.ifCond .eq 12, 3) := by decide +kernel
theorem d_Model_depot_24 : decode M_Model_depot.2.1 24 = .ok (.aload_n 0, 1) := by decide +kernel
theorem d_Model_depot_25 : decode M_Model_depot.2.1 25 = .ok (.iload_n 1, 1) := by decide +kernel
theorem d_Model_depot_26 : decode M_Model_depot.2.1 26 = .ok (.iload_n 2, 1) := by decide +kernel
theorem d_Model_depot_27 : decode M_Model_depot.2.1 27 = .ok (.invokevirtual 463, 3) := by decide +kernel
theorem d_Model_depot_30 : decode M_Model_depot.2.1 30 = .ok (.goto 8, 3) := by decide +kernel
theorem d_Model_depot_33 : decode M_Model_depot.2.1 33 = .ok (.aload_n 0, 1) := by decide +kernel
theorem d_Model_depot_34 : decode M_Model_depot.2.1 34 = .ok (.iconst 1, 1) := by decide +kernel
theorem d_Model_depot_35 : decode M_Model_depot.2.1 35 = .ok (.invokevirtual 427, 3) := by decide +kernel
theorem d_Model_depot_38 : decode M_Model_depot.2.1 38 = .ok (.ireturn, 1) := by decide +kernel
def s_Model_depot (M : MO) (H : SH) (Y : SX) (x1 : Int32) (x2 : Int32) : Int32 × MO := (if (s_Model_is (mo_th' M 0) H Y 9 x1) = 0 then ((s_Model_no (mo_th' M 0) H Y 1).1, (s_Model_no (mo_th' M 0) H Y 1).2) else (if (s_Model_isIn x2 0 1) = 0 then ((s_Model_no (mo_th' M 0) H Y 1).1, (s_Model_no (mo_th' M 0) H Y 1).2) else ((s_Model_depotTold (mo_th' M 0) H Y x1.toNatClampNeg x2), (mo_th' M 0))))
set_option maxRecDepth 100000 in
set_option maxHeartbeats 800000 in
theorem c_Model_depot {Γ : G9} {h : AH} {m q r sb ro z : Nat} {M : MO} {H : SH} {Y : SX} {x1 : Int32} {x2 : Int32} (geo : m + 2 ≤ q ∧ m + 2 ≤ r ∧ (q + 24 ≤ r ∨ r + 21 ≤ q)) (hB : sh_ha H 0 ≤ 5) (hS : sh_ha H 3 ≤ 6) (hC : sh_ha H 6 ≤ 4) (hD : sh_ha H 9 ≤ 4) (hE : sh_ha H 11 ≤ 4) : CallR Γ M_Model_depot 2 [.ref m, .int x1, .int x2] (md_ Γ h m q r r sb ro M H Y) z (some (.int (s_Model_depot M H Y x1 x2).1)) (md_ Γ h m q r r sb ro (s_Model_depot M H Y x1 x2).2 H Y) := by
  refine Call.of_go (L := [some (.ref m), some (.int x1), some (.int x2)]) (by decide +kernel) rfl (by exact Nat.le_of_ble_eq_true rfl) ?_
  unfold s_Model_depot
  refine Go.aload_0 d_Model_depot_0 rfl ?_
  refine Go.iconst (v := 0) d_Model_depot_1 rfl (by decide) ?_
  refine Go.putfield d_Model_depot_2 rfl f_Model_37_p (Or.inl (fun C T N h => by cases h; rfl)) (ms_at_m (by omega) hB hS hC hD hE) (by exact Nat.le_of_ble_eq_true rfl) rfl rfl ?_
  refine Go.heq (ms_put_m_thrown (by omega) hB hS hC hD hE) ?_
  refine Go.aload_0 d_Model_depot_5 rfl ?_
  refine Go.bipush (v := 9) d_Model_depot_6 rfl (by decide) ?_
  refine Go.iload_1 d_Model_depot_8 rfl ?_
  refine Go.cv2r d_Model_depot_9 rfl l_Model_450 k_Model_is_v (ms_at_m (by omega) hB hS hC hD hE) rfl (c_Model_is (x1 := 9) rfl (by omega) (by omega) hB hS hC hD hE) (Nat.ble_eq_true_of_le (by omega)) rfl rfl ?_
  refine Go.if_eq (t := 33) d_Model_depot_12 (by decide) rfl (fun c12_1 => ?_) (fun c12_1 => ?_)
  · refine Go.aload_0 d_Model_depot_33 rfl ?_
    refine Go.iconst (v := 1) d_Model_depot_34 rfl (by decide) ?_
    refine Go.cv1r d_Model_depot_35 rfl l_Model_427 k_Model_no_v (ms_at_m (by omega) hB hS hC hD hE) rfl (c_Model_no (by omega) hB hS hC hD hE) (Nat.ble_eq_true_of_le (by omega)) rfl rfl ?_
    rw [if_pos c12_1]
    exact Go.iret d_Model_depot_38 rfl rfl ⟨rfl, by dsimp only, rfl⟩
  · refine Go.iload_2 d_Model_depot_15 rfl ?_
    refine Go.iconst (v := 0) d_Model_depot_16 rfl (by decide) ?_
    refine Go.iconst (v := 1) d_Model_depot_17 rfl (by decide) ?_
    refine Go.cs3r d_Model_depot_18 rfl l_Model_43 k_Model_isIn_s rfl (ms_c_Model_isIn_ (by omega) hB hS hC hD hE) (Nat.ble_eq_true_of_le (by omega)) rfl rfl ?_
    refine Go.if_eq (t := 33) d_Model_depot_21 (by decide) rfl (fun c21_2 => ?_) (fun c21_2 => ?_)
    · refine Go.aload_0 d_Model_depot_33 rfl ?_
      refine Go.iconst (v := 1) d_Model_depot_34 rfl (by decide) ?_
      refine Go.cv1r d_Model_depot_35 rfl l_Model_427 k_Model_no_v (ms_at_m (by omega) hB hS hC hD hE) rfl (c_Model_no (by omega) hB hS hC hD hE) (Nat.ble_eq_true_of_le (by omega)) rfl rfl ?_
      rw [if_neg c12_1, if_pos c21_2]
      exact Go.iret d_Model_depot_38 rfl rfl ⟨rfl, by dsimp only, rfl⟩
    · refine Go.aload_0 d_Model_depot_24 rfl ?_
      refine Go.iload_1 d_Model_depot_25 rfl ?_
      refine Go.iload_2 d_Model_depot_26 rfl ?_
      refine Go.cv2r d_Model_depot_27 rfl l_Model_463 k_Model_depotTold_v (ms_at_m (by omega) hB hS hC hD hE) rfl (c_Model_depotTold (x1 := x1.toNatClampNeg) (nI_back (is_ok c12_1).1) (is_lt c12_1 hD (by decide)) (by omega) hB hS hC hD hE) (Nat.ble_eq_true_of_le (by omega)) rfl rfl ?_
      refine Go.goto (t := 38) d_Model_depot_30 (by decide) ?_
      rw [if_neg c12_1, if_neg c21_2]
      exact Go.iret d_Model_depot_38 rfl rfl ⟨rfl, by dsimp only, rfl⟩
theorem d_Model_team_0 : decode M_Model_team.2.1 0 = .ok (.aload_n 0, 1) := by decide +kernel
theorem d_Model_team_1 : decode M_Model_team.2.1 1 = .ok (.iconst 0, 1) := by decide +kernel
theorem d_Model_team_2 : decode M_Model_team.2.1 2 = .ok (.putfield 37, 3) := by decide +kernel
theorem d_Model_team_5 : decode M_Model_team.2.1 5 = .ok (.aload_n 0, 1) := by decide +kernel
theorem d_Model_team_6 : decode M_Model_team.2.1 6 = .ok (.bipush 11, 2) := by decide +kernel
theorem d_Model_team_8 : decode M_Model_team.2.1 8 = .ok (.iload_n 1, 1) := by decide +kernel
theorem d_Model_team_9 : decode M_Model_team.2.1 9 = .ok (.invokevirtual 450, 3) := by decide +kernel
theorem d_Model_team_12 : decode M_Model_team.2.1 12 = .ok (.ifCond .eq 22, 3) := by decide +kernel
theorem d_Model_team_15 : decode M_Model_team.2.1 15 = .ok (.iload_n 2, 1) := by decide +kernel
theorem d_Model_team_16 : decode M_Model_team.2.1 16 = .ok (.iconst 0, 1) := by decide +kernel
theorem d_Model_team_17 : decode M_Model_team.2.1 17 = .ok (.bipush 7, 2) := by decide +kernel
theorem d_Model_team_19 : decode M_Model_team.2.1 19 = .ok (.invokestatic 43, 3) := by decide +kernel
theorem d_Model_team_22 : decode M_Model_team.2.1 22 = .ok (.ifCond .eq 12, 3) := by decide +kernel
theorem d_Model_team_25 : decode M_Model_team.2.1 25 = .ok (.aload_n 0, 1) := by decide +kernel
theorem d_Model_team_26 : decode M_Model_team.2.1 26 = .ok (.iload_n 1, 1) := by decide +kernel
theorem d_Model_team_27 : decode M_Model_team.2.1 27 = .ok (.iload_n 2, 1) := by decide +kernel
theorem d_Model_team_28 : decode M_Model_team.2.1 28 = .ok (.invokevirtual 466, 3) := by decide +kernel
theorem d_Model_team_31 : decode M_Model_team.2.1 31 = .ok (.goto 8, 3) := by decide +kernel
theorem d_Model_team_34 : decode M_Model_team.2.1 34 = .ok (.aload_n 0, 1) := by decide +kernel
theorem d_Model_team_35 : decode M_Model_team.2.1 35 = .ok (.iconst 1, 1) := by decide +kernel
theorem d_Model_team_36 : decode M_Model_team.2.1 36 = .ok (.invokevirtual 427, 3) := by decide +kernel
theorem d_Model_team_39 : decode M_Model_team.2.1 39 = .ok (.ireturn, 1) := by decide +kernel
def s_Model_team (M : MO) (H : SH) (Y : SX) (x1 : Int32) (x2 : Int32) : Int32 × MO := (if (s_Model_is (mo_th' M 0) H Y 11 x1) = 0 then ((s_Model_no (mo_th' M 0) H Y 1).1, (s_Model_no (mo_th' M 0) H Y 1).2) else (if (s_Model_isIn x2 0 7) = 0 then ((s_Model_no (mo_th' M 0) H Y 1).1, (s_Model_no (mo_th' M 0) H Y 1).2) else ((s_Model_teamTold (mo_th' M 0) H Y x1.toNatClampNeg x2), (mo_th' M 0))))
set_option maxRecDepth 100000 in
set_option maxHeartbeats 800000 in
theorem c_Model_team {Γ : G9} {h : AH} {m q r sb ro z : Nat} {M : MO} {H : SH} {Y : SX} {x1 : Int32} {x2 : Int32} (geo : m + 2 ≤ q ∧ m + 2 ≤ r ∧ (q + 24 ≤ r ∨ r + 21 ≤ q)) (hB : sh_ha H 0 ≤ 5) (hS : sh_ha H 3 ≤ 6) (hC : sh_ha H 6 ≤ 4) (hD : sh_ha H 9 ≤ 4) (hE : sh_ha H 11 ≤ 4) : CallR Γ M_Model_team 2 [.ref m, .int x1, .int x2] (md_ Γ h m q r r sb ro M H Y) z (some (.int (s_Model_team M H Y x1 x2).1)) (md_ Γ h m q r r sb ro (s_Model_team M H Y x1 x2).2 H Y) := by
  refine Call.of_go (L := [some (.ref m), some (.int x1), some (.int x2)]) (by decide +kernel) rfl (by exact Nat.le_of_ble_eq_true rfl) ?_
  unfold s_Model_team
  refine Go.aload_0 d_Model_team_0 rfl ?_
  refine Go.iconst (v := 0) d_Model_team_1 rfl (by decide) ?_
  refine Go.putfield d_Model_team_2 rfl f_Model_37_p (Or.inl (fun C T N h => by cases h; rfl)) (ms_at_m (by omega) hB hS hC hD hE) (by exact Nat.le_of_ble_eq_true rfl) rfl rfl ?_
  refine Go.heq (ms_put_m_thrown (by omega) hB hS hC hD hE) ?_
  refine Go.aload_0 d_Model_team_5 rfl ?_
  refine Go.bipush (v := 11) d_Model_team_6 rfl (by decide) ?_
  refine Go.iload_1 d_Model_team_8 rfl ?_
  refine Go.cv2r d_Model_team_9 rfl l_Model_450 k_Model_is_v (ms_at_m (by omega) hB hS hC hD hE) rfl (c_Model_is (x1 := 11) rfl (by omega) (by omega) hB hS hC hD hE) (Nat.ble_eq_true_of_le (by omega)) rfl rfl ?_
  refine Go.if_eq (t := 34) d_Model_team_12 (by decide) rfl (fun c12_1 => ?_) (fun c12_1 => ?_)
  · refine Go.aload_0 d_Model_team_34 rfl ?_
    refine Go.iconst (v := 1) d_Model_team_35 rfl (by decide) ?_
    refine Go.cv1r d_Model_team_36 rfl l_Model_427 k_Model_no_v (ms_at_m (by omega) hB hS hC hD hE) rfl (c_Model_no (by omega) hB hS hC hD hE) (Nat.ble_eq_true_of_le (by omega)) rfl rfl ?_
    rw [if_pos c12_1]
    exact Go.iret d_Model_team_39 rfl rfl ⟨rfl, by dsimp only, rfl⟩
  · refine Go.iload_2 d_Model_team_15 rfl ?_
    refine Go.iconst (v := 0) d_Model_team_16 rfl (by decide) ?_
    refine Go.bipush (v := 7) d_Model_team_17 rfl (by decide) ?_
    refine Go.cs3r d_Model_team_19 rfl l_Model_43 k_Model_isIn_s rfl (ms_c_Model_isIn_ (by omega) hB hS hC hD hE) (Nat.ble_eq_true_of_le (by omega)) rfl rfl ?_
    refine Go.if_eq (t := 34) d_Model_team_22 (by decide) rfl (fun c22_2 => ?_) (fun c22_2 => ?_)
    · refine Go.aload_0 d_Model_team_34 rfl ?_
      refine Go.iconst (v := 1) d_Model_team_35 rfl (by decide) ?_
      refine Go.cv1r d_Model_team_36 rfl l_Model_427 k_Model_no_v (ms_at_m (by omega) hB hS hC hD hE) rfl (c_Model_no (by omega) hB hS hC hD hE) (Nat.ble_eq_true_of_le (by omega)) rfl rfl ?_
      rw [if_neg c12_1, if_pos c22_2]
      exact Go.iret d_Model_team_39 rfl rfl ⟨rfl, by dsimp only, rfl⟩
    · refine Go.aload_0 d_Model_team_25 rfl ?_
      refine Go.iload_1 d_Model_team_26 rfl ?_
      refine Go.iload_2 d_Model_team_27 rfl ?_
      refine Go.cv2r d_Model_team_28 rfl l_Model_466 k_Model_teamTold_v (ms_at_m (by omega) hB hS hC hD hE) rfl (c_Model_teamTold (x1 := x1.toNatClampNeg) (nI_back (is_ok c12_1).1) (is_lt c12_1 hE (by decide)) (by omega) hB hS hC hD hE) (Nat.ble_eq_true_of_le (by omega)) rfl rfl ?_
      refine Go.goto (t := 39) d_Model_team_31 (by decide) ?_
      rw [if_neg c12_1, if_neg c22_2]
      exact Go.iret d_Model_team_39 rfl rfl ⟨rfl, by dsimp only, rfl⟩
theorem d_Model_go_0 : decode M_Model_go.2.1 0 = .ok (.aload_n 0, 1) := by decide +kernel
theorem d_Model_go_1 : decode M_Model_go.2.1 1 = .ok (.iconst 0, 1) := by decide +kernel
theorem d_Model_go_2 : decode M_Model_go.2.1 2 = .ok (.putfield 37, 3) := by decide +kernel
theorem d_Model_go_5 : decode M_Model_go.2.1 5 = .ok (.aload_n 0, 1) := by decide +kernel
theorem d_Model_go_6 : decode M_Model_go.2.1 6 = .ok (.bipush 11, 2) := by decide +kernel
theorem d_Model_go_8 : decode M_Model_go.2.1 8 = .ok (.iload_n 1, 1) := by decide +kernel
theorem d_Model_go_9 : decode M_Model_go.2.1 9 = .ok (.invokevirtual 450, 3) := by decide +kernel
theorem d_Model_go_12 : decode M_Model_go.2.1 12 = .ok (.ifCond .ne 9, 3) := by decide +kernel
theorem d_Model_go_15 : decode M_Model_go.2.1 15 = .ok (.aload_n 0, 1) := by decide +kernel
theorem d_Model_go_16 : decode M_Model_go.2.1 16 = .ok (.iconst 1, 1) := by decide +kernel
theorem d_Model_go_17 : decode M_Model_go.2.1 17 = .ok (.invokevirtual 427, 3) := by decide +kernel
theorem d_Model_go_20 : decode M_Model_go.2.1 20 = .ok (.ireturn, 1) := by decide +kernel
theorem d_Model_go_21 : decode M_Model_go.2.1 21 = .ok (.aload_n 0, 1) := by decide +kernel
theorem d_Model_go_22 : decode M_Model_go.2.1 22 = .ok (.aload_n 0, 1) := by decide +kernel
theorem d_Model_go_23 : decode M_Model_go.2.1 23 = .ok (.getfield 27, 3) := by decide +kernel
theorem d_Model_go_26 : decode M_Model_go.2.1 26 = .ok (.iload_n 1, 1) := by decide +kernel
theorem d_Model_go_27 : decode M_Model_go.2.1 27 = .ok (.iload_n 2, 1) := by decide +kernel
theorem d_Model_go_28 : decode M_Model_go.2.1 28 = .ok (.invokevirtual 375, 3) := by decide +kernel
theorem d_Model_go_31 : decode M_Model_go.2.1 31 = .ok (.ifCond .eq 15, 3) := by decide +kernel
theorem d_Model_go_34 : decode M_Model_go.2.1 34 = .ok (.aload_n 0, 1) := by decide +kernel
theorem d_Model_go_35 : decode M_Model_go.2.1 35 = .ok (.getfield 27, 3) := by decide +kernel
theorem d_Model_go_38 : decode M_Model_go.2.1 38 = .ok (.getfield 310, 3) := by decide +kernel
theorem d_Model_go_41 : decode M_Model_go.2.1 41 = .ok (.iload_n 1, 1) := by decide +kernel
theorem d_Model_go_42 : decode M_Model_go.2.1 42 = .ok (.iaload, 1) := by decide +kernel
theorem d_Model_go_43 : decode M_Model_go.2.1 43 = .ok (.goto 8, 3) := by decide +kernel
theorem d_Model_go_46 : decode M_Model_go.2.1 46 = .ok (.aload_n 0, 1) := by decide +kernel
theorem d_Model_go_47 : decode M_Model_go.2.1 47 = .ok (.iconst 2, 1) := by decide +kernel
theorem d_Model_go_48 : decode M_Model_go.2.1 48 = .ok (.invokevirtual 427, 3) := by decide +kernel
theorem d_Model_go_51 : decode M_Model_go.2.1 51 = .ok (.ireturn, 1) := by decide +kernel
def s_Model_go (M : MO) (H : SH) (Y : SX) (x1 : Int32) (x2 : Int32) : Int32 × MO × SX := (if (s_Model_is (mo_th' M 0) H Y 11 x1) = 0 then ((s_Model_no (mo_th' M 0) H Y 1).1, (s_Model_no (mo_th' M 0) H Y 1).2, Y) else (if (s_Model_moved (mo_th' M 0) H Y x1.toNatClampNeg x2).1 = 0 then ((s_Model_no (mo_th' M 0) H (s_Model_moved (mo_th' M 0) H Y x1.toNatClampNeg x2).2 2).1, (s_Model_no (mo_th' M 0) H (s_Model_moved (mo_th' M 0) H Y x1.toNatClampNeg x2).2 2).2, (s_Model_moved (mo_th' M 0) H Y x1.toNatClampNeg x2).2) else (((sx_pl (s_Model_moved (mo_th' M 0) H Y x1.toNatClampNeg x2).2) x1.toNatClampNeg), (mo_th' M 0), (s_Model_moved (mo_th' M 0) H Y x1.toNatClampNeg x2).2)))
set_option maxRecDepth 100000 in
set_option maxHeartbeats 800000 in
theorem c_Model_go {Γ : G9} {h : AH} {m q r sb ro z : Nat} {M : MO} {H : SH} {Y : SX} {x1 : Int32} {x2 : Int32} (geo : m + 2 ≤ q ∧ m + 2 ≤ r ∧ (q + 24 ≤ r ∨ r + 21 ≤ q)) (hB : sh_ha H 0 ≤ 5) (hS : sh_ha H 3 ≤ 6) (hC : sh_ha H 6 ≤ 4) (hD : sh_ha H 9 ≤ 4) (hE : sh_ha H 11 ≤ 4) : CallR Γ M_Model_go 4 [.ref m, .int x1, .int x2] (md_ Γ h m q r r sb ro M H Y) z (some (.int (s_Model_go M H Y x1 x2).1)) (md_ Γ h m q r r sb ro (s_Model_go M H Y x1 x2).2.1 H (s_Model_go M H Y x1 x2).2.2) := by
  refine Call.of_go (L := [some (.ref m), some (.int x1), some (.int x2)]) (by decide +kernel) rfl (by exact Nat.le_of_ble_eq_true rfl) ?_
  unfold s_Model_go
  refine Go.aload_0 d_Model_go_0 rfl ?_
  refine Go.iconst (v := 0) d_Model_go_1 rfl (by decide) ?_
  refine Go.putfield d_Model_go_2 rfl f_Model_37_p (Or.inl (fun C T N h => by cases h; rfl)) (ms_at_m (by omega) hB hS hC hD hE) (by exact Nat.le_of_ble_eq_true rfl) rfl rfl ?_
  refine Go.heq (ms_put_m_thrown (by omega) hB hS hC hD hE) ?_
  refine Go.aload_0 d_Model_go_5 rfl ?_
  refine Go.bipush (v := 11) d_Model_go_6 rfl (by decide) ?_
  refine Go.iload_1 d_Model_go_8 rfl ?_
  refine Go.cv2r d_Model_go_9 rfl l_Model_450 k_Model_is_v (ms_at_m (by omega) hB hS hC hD hE) rfl (c_Model_is (x1 := 11) rfl (by omega) (by omega) hB hS hC hD hE) (Nat.ble_eq_true_of_le (by omega)) rfl rfl ?_
  refine Go.if_ne (t := 21) d_Model_go_12 (by decide) rfl (fun c12_1 => ?_) (fun c12_1 => ?_)
  · refine Go.aload_0 d_Model_go_21 rfl ?_
    refine Go.aload_0 d_Model_go_22 rfl ?_
    refine Go.getfield d_Model_go_23 rfl f_Model_27 (ms_at_m (by omega) hB hS hC hD hE) (by rfl) ?_
    refine Go.iload_1 d_Model_go_26 rfl ?_
    refine Go.iload_2 d_Model_go_27 rfl ?_
    refine Go.cv3r d_Model_go_28 rfl l_Model_375 k_Model_moved_v (ms_at_m (by omega) hB hS hC hD hE) rfl (c_Model_moved (x2 := x1.toNatClampNeg) (nI_back (is_ok c12_1).1) (is_lt c12_1 hE (by decide)) (by omega) hB hS hC hD hE) (Nat.ble_eq_true_of_le (by omega)) rfl rfl ?_
    refine Go.if_eq (t := 46) d_Model_go_31 (by decide) rfl (fun c31_2 => ?_) (fun c31_2 => ?_)
    · refine Go.aload_0 d_Model_go_46 rfl ?_
      refine Go.iconst (v := 2) d_Model_go_47 rfl (by decide) ?_
      refine Go.cv1r d_Model_go_48 rfl l_Model_427 k_Model_no_v (ms_at_m (by omega) hB hS hC hD hE) rfl (c_Model_no (by omega) hB hS hC hD hE) (Nat.ble_eq_true_of_le (by omega)) rfl rfl ?_
      rw [if_neg c12_1, if_pos c31_2]
      exact Go.iret d_Model_go_51 rfl rfl ⟨rfl, by dsimp only, rfl⟩
    · refine Go.aload_0 d_Model_go_34 rfl ?_
      refine Go.getfield d_Model_go_35 rfl f_Model_27 (ms_at_m (by omega) hB hS hC hD hE) (by rfl) ?_
      refine Go.getfield d_Model_go_38 rfl f_Model_310 (ms_at_r (by omega) hB hS hC hD hE) (by rfl) ?_
      refine Go.iload_1 d_Model_go_41 rfl ?_
      refine Go.iaload d_Model_go_42 rfl (ms_at_r_15 (by omega) hB hS hC hD hE) (vp_np (is_ok c12_1).1 (is_lt c12_1 hE (by decide))) ?_
      refine Go.goto (t := 51) d_Model_go_43 (by decide) ?_
      rw [if_neg c12_1, if_neg c31_2]
      exact Go.iret d_Model_go_51 rfl rfl ⟨rfl, by dsimp only, rfl⟩
  · refine Go.aload_0 d_Model_go_15 rfl ?_
    refine Go.iconst (v := 1) d_Model_go_16 rfl (by decide) ?_
    refine Go.cv1r d_Model_go_17 rfl l_Model_427 k_Model_no_v (ms_at_m (by omega) hB hS hC hD hE) rfl (c_Model_no (by omega) hB hS hC hD hE) (Nat.ble_eq_true_of_le (by omega)) rfl rfl ?_
    rw [if_pos c12_1]
    exact Go.iret d_Model_go_20 rfl rfl ⟨rfl, by dsimp only, rfl⟩
theorem d_Model_probe_0 : decode M_Model_probe.2.1 0 = .ok (.aload_n 0, 1) := by decide +kernel
theorem d_Model_probe_1 : decode M_Model_probe.2.1 1 = .ok (.iconst 0, 1) := by decide +kernel
theorem d_Model_probe_2 : decode M_Model_probe.2.1 2 = .ok (.putfield 37, 3) := by decide +kernel
theorem d_Model_probe_5 : decode M_Model_probe.2.1 5 = .ok (.aload_n 0, 1) := by decide +kernel
theorem d_Model_probe_6 : decode M_Model_probe.2.1 6 = .ok (.bipush 11, 2) := by decide +kernel
theorem d_Model_probe_8 : decode M_Model_probe.2.1 8 = .ok (.iload_n 1, 1) := by decide +kernel
theorem d_Model_probe_9 : decode M_Model_probe.2.1 9 = .ok (.invokevirtual 450, 3) := by decide +kernel
theorem d_Model_probe_12 : decode M_Model_probe.2.1 12 = .ok (.ifCond .eq 13, 3) := by decide +kernel
theorem d_Model_probe_15 : decode M_Model_probe.2.1 15 = .ok (.aload_n 0, 1) := by decide +kernel
theorem d_Model_probe_16 : decode M_Model_probe.2.1 16 = .ok (.bipush 6, 2) := by decide +kernel
theorem d_Model_probe_18 : decode M_Model_probe.2.1 18 = .ok (.iload_n 2, 1) := by decide +kernel
theorem d_Model_probe_19 : decode M_Model_probe.2.1 19 = .ok (.invokevirtual 450, 3) := by decide +kernel
theorem d_Model_probe_22 : decode M_Model_probe.2.1 22 = .ok (.ifCond .ne 9, 3) := by decide +kernel
theorem d_Model_probe_25 : decode M_Model_probe.2.1 25 = .ok (.aload_n 0, 1) := by decide +kernel
theorem d_Model_probe_26 : decode M_Model_probe.2.1 26 = .ok (.iconst 1, 1) := by decide +kernel
theorem d_Model_probe_27 : decode M_Model_probe.2.1 27 = .ok (.invokevirtual 427, 3) := by decide +kernel
theorem d_Model_probe_30 : decode M_Model_probe.2.1 30 = .ok (.ireturn, 1) := by decide +kernel
theorem d_Model_probe_31 : decode M_Model_probe.2.1 31 = .ok (.aload_n 0, 1) := by decide +kernel
theorem d_Model_probe_32 : decode M_Model_probe.2.1 32 = .ok (.aload_n 0, 1) := by decide +kernel
theorem d_Model_probe_33 : decode M_Model_probe.2.1 33 = .ok (.getfield 27, 3) := by decide +kernel
theorem d_Model_probe_36 : decode M_Model_probe.2.1 36 = .ok (.iload_n 1, 1) := by decide +kernel
theorem d_Model_probe_37 : decode M_Model_probe.2.1 37 = .ok (.iload_n 2, 1) := by decide +kernel
theorem d_Model_probe_38 : decode M_Model_probe.2.1 38 = .ok (.invokevirtual 378, 3) := by decide +kernel
theorem d_Model_probe_41 : decode M_Model_probe.2.1 41 = .ok (.ifCond .eq 15, 3) := by decide +kernel
theorem d_Model_probe_44 : decode M_Model_probe.2.1 44 = .ok (.aload_n 0, 1) := by decide +kernel
theorem d_Model_probe_45 : decode M_Model_probe.2.1 45 = .ok (.getfield 27, 3) := by decide +kernel
theorem d_Model_probe_48 : decode M_Model_probe.2.1 48 = .ok (.getfield 307, 3) := by decide +kernel
theorem d_Model_probe_51 : decode M_Model_probe.2.1 51 = .ok (.iload_n 2, 1) := by decide +kernel
theorem d_Model_probe_52 : decode M_Model_probe.2.1 52 = .ok (.iaload, 1) := by decide +kernel
theorem d_Model_probe_53 : decode M_Model_probe.2.1 53 = .ok (.goto 8, 3) := by decide +kernel
theorem d_Model_probe_56 : decode M_Model_probe.2.1 56 = .ok (.aload_n 0, 1) := by decide +kernel
theorem d_Model_probe_57 : decode M_Model_probe.2.1 57 = .ok (.iconst 2, 1) := by decide +kernel
theorem d_Model_probe_58 : decode M_Model_probe.2.1 58 = .ok (.invokevirtual 427, 3) := by decide +kernel
theorem d_Model_probe_61 : decode M_Model_probe.2.1 61 = .ok (.ireturn, 1) := by decide +kernel
def s_Model_probe (M : MO) (H : SH) (Y : SX) (x1 : Int32) (x2 : Int32) : Int32 × MO × SX := (if (s_Model_is (mo_th' M 0) H Y 11 x1) = 0 then ((s_Model_no (mo_th' M 0) H Y 1).1, (s_Model_no (mo_th' M 0) H Y 1).2, Y) else (if (s_Model_is (mo_th' M 0) H Y 6 x2) = 0 then ((s_Model_no (mo_th' M 0) H Y 1).1, (s_Model_no (mo_th' M 0) H Y 1).2, Y) else (if (s_Model_probed (mo_th' M 0) H Y x1.toNatClampNeg x2.toNatClampNeg).1 = 0 then ((s_Model_no (mo_th' M 0) H (s_Model_probed (mo_th' M 0) H Y x1.toNatClampNeg x2.toNatClampNeg).2 2).1, (s_Model_no (mo_th' M 0) H (s_Model_probed (mo_th' M 0) H Y x1.toNatClampNeg x2.toNatClampNeg).2 2).2, (s_Model_probed (mo_th' M 0) H Y x1.toNatClampNeg x2.toNatClampNeg).2) else (((sx_br (s_Model_probed (mo_th' M 0) H Y x1.toNatClampNeg x2.toNatClampNeg).2) x2.toNatClampNeg), (mo_th' M 0), (s_Model_probed (mo_th' M 0) H Y x1.toNatClampNeg x2.toNatClampNeg).2))))
set_option maxRecDepth 100000 in
set_option maxHeartbeats 800000 in
theorem c_Model_probe {Γ : G9} {h : AH} {m q r sb ro z : Nat} {M : MO} {H : SH} {Y : SX} {x1 : Int32} {x2 : Int32} (geo : m + 2 ≤ q ∧ m + 2 ≤ r ∧ (q + 24 ≤ r ∨ r + 21 ≤ q)) (hB : sh_ha H 0 ≤ 5) (hS : sh_ha H 3 ≤ 6) (hC : sh_ha H 6 ≤ 4) (hD : sh_ha H 9 ≤ 4) (hE : sh_ha H 11 ≤ 4) : CallR Γ M_Model_probe 3 [.ref m, .int x1, .int x2] (md_ Γ h m q r r sb ro M H Y) z (some (.int (s_Model_probe M H Y x1 x2).1)) (md_ Γ h m q r r sb ro (s_Model_probe M H Y x1 x2).2.1 H (s_Model_probe M H Y x1 x2).2.2) := by
  refine Call.of_go (L := [some (.ref m), some (.int x1), some (.int x2)]) (by decide +kernel) rfl (by exact Nat.le_of_ble_eq_true rfl) ?_
  unfold s_Model_probe
  refine Go.aload_0 d_Model_probe_0 rfl ?_
  refine Go.iconst (v := 0) d_Model_probe_1 rfl (by decide) ?_
  refine Go.putfield d_Model_probe_2 rfl f_Model_37_p (Or.inl (fun C T N h => by cases h; rfl)) (ms_at_m (by omega) hB hS hC hD hE) (by exact Nat.le_of_ble_eq_true rfl) rfl rfl ?_
  refine Go.heq (ms_put_m_thrown (by omega) hB hS hC hD hE) ?_
  refine Go.aload_0 d_Model_probe_5 rfl ?_
  refine Go.bipush (v := 11) d_Model_probe_6 rfl (by decide) ?_
  refine Go.iload_1 d_Model_probe_8 rfl ?_
  refine Go.cv2r d_Model_probe_9 rfl l_Model_450 k_Model_is_v (ms_at_m (by omega) hB hS hC hD hE) rfl (c_Model_is (x1 := 11) rfl (by omega) (by omega) hB hS hC hD hE) (Nat.ble_eq_true_of_le (by omega)) rfl rfl ?_
  refine Go.if_eq (t := 25) d_Model_probe_12 (by decide) rfl (fun c12_1 => ?_) (fun c12_1 => ?_)
  · refine Go.aload_0 d_Model_probe_25 rfl ?_
    refine Go.iconst (v := 1) d_Model_probe_26 rfl (by decide) ?_
    refine Go.cv1r d_Model_probe_27 rfl l_Model_427 k_Model_no_v (ms_at_m (by omega) hB hS hC hD hE) rfl (c_Model_no (by omega) hB hS hC hD hE) (Nat.ble_eq_true_of_le (by omega)) rfl rfl ?_
    rw [if_pos c12_1]
    exact Go.iret d_Model_probe_30 rfl rfl ⟨rfl, by dsimp only, rfl⟩
  · refine Go.aload_0 d_Model_probe_15 rfl ?_
    refine Go.bipush (v := 6) d_Model_probe_16 rfl (by decide) ?_
    refine Go.iload_2 d_Model_probe_18 rfl ?_
    refine Go.cv2r d_Model_probe_19 rfl l_Model_450 k_Model_is_v (ms_at_m (by omega) hB hS hC hD hE) rfl (c_Model_is (x1 := 6) rfl (by omega) (by omega) hB hS hC hD hE) (Nat.ble_eq_true_of_le (by omega)) rfl rfl ?_
    refine Go.if_ne (t := 31) d_Model_probe_22 (by decide) rfl (fun c22_2 => ?_) (fun c22_2 => ?_)
    · refine Go.aload_0 d_Model_probe_31 rfl ?_
      refine Go.aload_0 d_Model_probe_32 rfl ?_
      refine Go.getfield d_Model_probe_33 rfl f_Model_27 (ms_at_m (by omega) hB hS hC hD hE) (by rfl) ?_
      refine Go.iload_1 d_Model_probe_36 rfl ?_
      refine Go.iload_2 d_Model_probe_37 rfl ?_
      refine Go.cv3r d_Model_probe_38 rfl l_Model_378 k_Model_probed_v (ms_at_m (by omega) hB hS hC hD hE) rfl (c_Model_probed (x2 := x1.toNatClampNeg) (x3 := x2.toNatClampNeg) (nI_back (is_ok c12_1).1) (is_lt c12_1 hE (by decide)) (nI_back (is_ok c22_2).1) (is_lt c22_2 hC (by decide)) (by omega) hB hS hC hD hE) (Nat.ble_eq_true_of_le (by omega)) rfl rfl ?_
      refine Go.if_eq (t := 56) d_Model_probe_41 (by decide) rfl (fun c41_3 => ?_) (fun c41_3 => ?_)
      · refine Go.aload_0 d_Model_probe_56 rfl ?_
        refine Go.iconst (v := 2) d_Model_probe_57 rfl (by decide) ?_
        refine Go.cv1r d_Model_probe_58 rfl l_Model_427 k_Model_no_v (ms_at_m (by omega) hB hS hC hD hE) rfl (c_Model_no (by omega) hB hS hC hD hE) (Nat.ble_eq_true_of_le (by omega)) rfl rfl ?_
        rw [if_neg c12_1, if_neg c22_2, if_pos c41_3]
        exact Go.iret d_Model_probe_61 rfl rfl ⟨rfl, by dsimp only, rfl⟩
      · refine Go.aload_0 d_Model_probe_44 rfl ?_
        refine Go.getfield d_Model_probe_45 rfl f_Model_27 (ms_at_m (by omega) hB hS hC hD hE) (by rfl) ?_
        refine Go.getfield d_Model_probe_48 rfl f_Model_307 (ms_at_r (by omega) hB hS hC hD hE) (by rfl) ?_
        refine Go.iload_2 d_Model_probe_51 rfl ?_
        refine Go.iaload d_Model_probe_52 rfl (ms_at_r_8 (by omega) hB hS hC hD hE) (vp_np (is_ok c22_2).1 (is_lt c22_2 hC (by decide))) ?_
        refine Go.goto (t := 61) d_Model_probe_53 (by decide) ?_
        rw [if_neg c12_1, if_neg c22_2, if_neg c41_3]
        exact Go.iret d_Model_probe_61 rfl rfl ⟨rfl, by dsimp only, rfl⟩
    · refine Go.aload_0 d_Model_probe_25 rfl ?_
      refine Go.iconst (v := 1) d_Model_probe_26 rfl (by decide) ?_
      refine Go.cv1r d_Model_probe_27 rfl l_Model_427 k_Model_no_v (ms_at_m (by omega) hB hS hC hD hE) rfl (c_Model_no (by omega) hB hS hC hD hE) (Nat.ble_eq_true_of_le (by omega)) rfl rfl ?_
      rw [if_neg c12_1, if_pos c22_2]
      exact Go.iret d_Model_probe_30 rfl rfl ⟨rfl, by dsimp only, rfl⟩
theorem d_Model_fill_0_0 : decode M_Model_fill_0.2.1 0 = .ok (.aload_n 0, 1) := by decide +kernel
theorem d_Model_fill_0_1 : decode M_Model_fill_0.2.1 1 = .ok (.iconst 0, 1) := by decide +kernel
theorem d_Model_fill_0_2 : decode M_Model_fill_0.2.1 2 = .ok (.putfield 37, 3) := by decide +kernel
theorem d_Model_fill_0_5 : decode M_Model_fill_0.2.1 5 = .ok (.aload_n 0, 1) := by decide +kernel
theorem d_Model_fill_0_6 : decode M_Model_fill_0.2.1 6 = .ok (.bipush 11, 2) := by decide +kernel
theorem d_Model_fill_0_8 : decode M_Model_fill_0.2.1 8 = .ok (.iload_n 1, 1) := by decide +kernel
theorem d_Model_fill_0_9 : decode M_Model_fill_0.2.1 9 = .ok (.invokevirtual 450, 3) := by decide +kernel
theorem d_Model_fill_0_12 : decode M_Model_fill_0.2.1 12 = .ok (.ifCond .ne 9, 3) := by decide +kernel
theorem d_Model_fill_0_15 : decode M_Model_fill_0.2.1 15 = .ok (.aload_n 0, 1) := by decide +kernel
theorem d_Model_fill_0_16 : decode M_Model_fill_0.2.1 16 = .ok (.iconst 1, 1) := by decide +kernel
theorem d_Model_fill_0_17 : decode M_Model_fill_0.2.1 17 = .ok (.invokevirtual 427, 3) := by decide +kernel
theorem d_Model_fill_0_20 : decode M_Model_fill_0.2.1 20 = .ok (.ireturn, 1) := by decide +kernel
theorem d_Model_fill_0_21 : decode M_Model_fill_0.2.1 21 = .ok (.iload_n 2, 1) := by decide +kernel
theorem d_Model_fill_0_22 : decode M_Model_fill_0.2.1 22 = .ok (.iconst 1, 1) := by decide +kernel
theorem d_Model_fill_0_23 : decode M_Model_fill_0.2.1 23 = .ok (.bipush 40, 2) := by decide +kernel
theorem d_Model_fill_0_25 : decode M_Model_fill_0.2.1 25 = .ok (.invokestatic 43, 3) := by decide +kernel
theorem d_Model_fill_0_28 : decode M_Model_fill_0.2.1 28 = .ok (.ifCond .ne 9, 3) := by decide +kernel
theorem d_Model_fill_0_31 : decode M_Model_fill_0.2.1 31 = .ok (.aload_n 0, 1) := by decide +kernel
theorem d_Model_fill_0_32 : decode M_Model_fill_0.2.1 32 = .ok (.iconst 2, 1) := by decide +kernel
theorem d_Model_fill_0_33 : decode M_Model_fill_0.2.1 33 = .ok (.invokevirtual 427, 3) := by decide +kernel
theorem d_Model_fill_0_36 : decode M_Model_fill_0.2.1 36 = .ok (.ireturn, 1) := by decide +kernel
theorem d_Model_fill_0_37 : decode M_Model_fill_0.2.1 37 = .ok (.aload_n 0, 1) := by decide +kernel
theorem d_Model_fill_0_38 : decode M_Model_fill_0.2.1 38 = .ok (.aload_n 0, 1) := by decide +kernel
theorem d_Model_fill_0_39 : decode M_Model_fill_0.2.1 39 = .ok (.getfield 27, 3) := by decide +kernel
theorem d_Model_fill_0_42 : decode M_Model_fill_0.2.1 42 = .ok (.iload_n 1, 1) := by decide +kernel
theorem d_Model_fill_0_43 : decode M_Model_fill_0.2.1 43 = .ok (.iload_n 2, 1) := by decide +kernel
theorem d_Model_fill_0_44 : decode M_Model_fill_0.2.1 44 = .ok (.invokevirtual 384, 3) := by decide +kernel
theorem d_Model_fill_0_47 : decode M_Model_fill_0.2.1 47 = .ok (.istore_n 3, 1) := by decide +kernel
theorem d_Model_fill_0_48 : decode M_Model_fill_0.2.1 48 = .ok (.iload_n 3, 1) := by decide +kernel
theorem d_Model_fill_0_49 : decode M_Model_fill_0.2.1 49 = .ok (.ifCond .le 7, 3) := by decide +kernel
theorem d_Model_fill_0_52 : decode M_Model_fill_0.2.1 52 = .ok (.iload_n 3, 1) := by decide +kernel
theorem d_Model_fill_0_53 : decode M_Model_fill_0.2.1 53 = .ok (.goto 8, 3) := by decide +kernel
theorem d_Model_fill_0_56 : decode M_Model_fill_0.2.1 56 = .ok (.aload_n 0, 1) := by decide +kernel
theorem d_Model_fill_0_57 : decode M_Model_fill_0.2.1 57 = .ok (.iconst 3, 1) := by decide +kernel
theorem d_Model_fill_0_58 : decode M_Model_fill_0.2.1 58 = .ok (.invokevirtual 427, 3) := by decide +kernel
theorem d_Model_fill_0_61 : decode M_Model_fill_0.2.1 61 = .ok (.ireturn, 1) := by decide +kernel
def s_Model_fill_0 (M : MO) (H : SH) (Y : SX) (x1 : Int32) (x2 : Int32) : Int32 × MO × SX := (if (s_Model_is (mo_th' M 0) H Y 11 x1) = 0 then ((s_Model_no (mo_th' M 0) H Y 1).1, (s_Model_no (mo_th' M 0) H Y 1).2, Y) else (if (s_Model_isIn x2 1 40) = 0 then ((s_Model_no (mo_th' M 0) H Y 2).1, (s_Model_no (mo_th' M 0) H Y 2).2, Y) else (if (s_Model_filled (mo_th' M 0) H Y x1.toNatClampNeg x2).1 ≤ 0 then ((s_Model_no (mo_th' M 0) H (s_Model_filled (mo_th' M 0) H Y x1.toNatClampNeg x2).2 3).1, (s_Model_no (mo_th' M 0) H (s_Model_filled (mo_th' M 0) H Y x1.toNatClampNeg x2).2 3).2, (s_Model_filled (mo_th' M 0) H Y x1.toNatClampNeg x2).2) else ((s_Model_filled (mo_th' M 0) H Y x1.toNatClampNeg x2).1, (mo_th' M 0), (s_Model_filled (mo_th' M 0) H Y x1.toNatClampNeg x2).2))))
set_option maxRecDepth 100000 in
set_option maxHeartbeats 800000 in
theorem c_Model_fill_0 {Γ : G9} {h : AH} {m q r sb ro z : Nat} {M : MO} {H : SH} {Y : SX} {x1 : Int32} {x2 : Int32} (geo : m + 2 ≤ q ∧ m + 2 ≤ r ∧ (q + 24 ≤ r ∨ r + 21 ≤ q)) (hB : sh_ha H 0 ≤ 5) (hS : sh_ha H 3 ≤ 6) (hC : sh_ha H 6 ≤ 4) (hD : sh_ha H 9 ≤ 4) (hE : sh_ha H 11 ≤ 4) : CallR Γ M_Model_fill_0 2 [.ref m, .int x1, .int x2] (md_ Γ h m q r r sb ro M H Y) z (some (.int (s_Model_fill_0 M H Y x1 x2).1)) (md_ Γ h m q r r sb ro (s_Model_fill_0 M H Y x1 x2).2.1 H (s_Model_fill_0 M H Y x1 x2).2.2) := by
  refine Call.of_go (L := [some (.ref m), some (.int x1), some (.int x2), none]) (by decide +kernel) rfl (by exact Nat.le_of_ble_eq_true rfl) ?_
  unfold s_Model_fill_0
  refine Go.aload_0 d_Model_fill_0_0 rfl ?_
  refine Go.iconst (v := 0) d_Model_fill_0_1 rfl (by decide) ?_
  refine Go.putfield d_Model_fill_0_2 rfl f_Model_37_p (Or.inl (fun C T N h => by cases h; rfl)) (ms_at_m (by omega) hB hS hC hD hE) (by exact Nat.le_of_ble_eq_true rfl) rfl rfl ?_
  refine Go.heq (ms_put_m_thrown (by omega) hB hS hC hD hE) ?_
  refine Go.aload_0 d_Model_fill_0_5 rfl ?_
  refine Go.bipush (v := 11) d_Model_fill_0_6 rfl (by decide) ?_
  refine Go.iload_1 d_Model_fill_0_8 rfl ?_
  refine Go.cv2r d_Model_fill_0_9 rfl l_Model_450 k_Model_is_v (ms_at_m (by omega) hB hS hC hD hE) rfl (c_Model_is (x1 := 11) rfl (by omega) (by omega) hB hS hC hD hE) (Nat.ble_eq_true_of_le (by omega)) rfl rfl ?_
  refine Go.if_ne (t := 21) d_Model_fill_0_12 (by decide) rfl (fun c12_1 => ?_) (fun c12_1 => ?_)
  · refine Go.iload_2 d_Model_fill_0_21 rfl ?_
    refine Go.iconst (v := 1) d_Model_fill_0_22 rfl (by decide) ?_
    refine Go.bipush (v := 40) d_Model_fill_0_23 rfl (by decide) ?_
    refine Go.cs3r d_Model_fill_0_25 rfl l_Model_43 k_Model_isIn_s rfl (ms_c_Model_isIn_ (by omega) hB hS hC hD hE) (Nat.ble_eq_true_of_le (by omega)) rfl rfl ?_
    refine Go.if_ne (t := 37) d_Model_fill_0_28 (by decide) rfl (fun c28_2 => ?_) (fun c28_2 => ?_)
    · refine Go.aload_0 d_Model_fill_0_37 rfl ?_
      refine Go.aload_0 d_Model_fill_0_38 rfl ?_
      refine Go.getfield d_Model_fill_0_39 rfl f_Model_27 (ms_at_m (by omega) hB hS hC hD hE) (by rfl) ?_
      refine Go.iload_1 d_Model_fill_0_42 rfl ?_
      refine Go.iload_2 d_Model_fill_0_43 rfl ?_
      refine Go.cv3r d_Model_fill_0_44 rfl l_Model_384 k_Model_filled_v (ms_at_m (by omega) hB hS hC hD hE) rfl (c_Model_filled (x2 := x1.toNatClampNeg) (nI_back (is_ok c12_1).1) (is_lt c12_1 hE (by decide)) (by omega) hB hS hC hD hE) (Nat.ble_eq_true_of_le (by omega)) rfl rfl ?_
      refine Go.istore_3 d_Model_fill_0_47 rfl (by rfl) ?_
      refine Go.iload_3 d_Model_fill_0_48 rfl ?_
      refine Go.if_le (t := 56) d_Model_fill_0_49 (by decide) rfl (fun c49_3 => ?_) (fun c49_3 => ?_)
      · refine Go.aload_0 d_Model_fill_0_56 rfl ?_
        refine Go.iconst (v := 3) d_Model_fill_0_57 rfl (by decide) ?_
        refine Go.cv1r d_Model_fill_0_58 rfl l_Model_427 k_Model_no_v (ms_at_m (by omega) hB hS hC hD hE) rfl (c_Model_no (by omega) hB hS hC hD hE) (Nat.ble_eq_true_of_le (by omega)) rfl rfl ?_
        rw [if_neg c12_1, if_neg c28_2, if_pos c49_3]
        exact Go.iret d_Model_fill_0_61 rfl rfl ⟨rfl, by dsimp only, rfl⟩
      · refine Go.iload_3 d_Model_fill_0_52 rfl ?_
        refine Go.goto (t := 61) d_Model_fill_0_53 (by decide) ?_
        rw [if_neg c12_1, if_neg c28_2, if_neg c49_3]
        exact Go.iret d_Model_fill_0_61 rfl rfl ⟨rfl, by dsimp only, rfl⟩
    · refine Go.aload_0 d_Model_fill_0_31 rfl ?_
      refine Go.iconst (v := 2) d_Model_fill_0_32 rfl (by decide) ?_
      refine Go.cv1r d_Model_fill_0_33 rfl l_Model_427 k_Model_no_v (ms_at_m (by omega) hB hS hC hD hE) rfl (c_Model_no (by omega) hB hS hC hD hE) (Nat.ble_eq_true_of_le (by omega)) rfl rfl ?_
      rw [if_neg c12_1, if_pos c28_2]
      exact Go.iret d_Model_fill_0_36 rfl rfl ⟨rfl, by dsimp only, rfl⟩
  · refine Go.aload_0 d_Model_fill_0_15 rfl ?_
    refine Go.iconst (v := 1) d_Model_fill_0_16 rfl (by decide) ?_
    refine Go.cv1r d_Model_fill_0_17 rfl l_Model_427 k_Model_no_v (ms_at_m (by omega) hB hS hC hD hE) rfl (c_Model_no (by omega) hB hS hC hD hE) (Nat.ble_eq_true_of_le (by omega)) rfl rfl ?_
    rw [if_pos c12_1]
    exact Go.iret d_Model_fill_0_20 rfl rfl ⟨rfl, by dsimp only, rfl⟩
theorem ms_arr_r_13 {Γ : G9} {h : AH} {m q r sb ro : Nat} {M : MO} {H : SH} {Y : SX} {v : Nat → Int32} (geo : m + 2 ≤ q ∧ m + 2 ≤ r ∧ (q + 24 ≤ r ∨ r + 21 ≤ q)) (hB : sh_ha H 0 ≤ 5) (hS : sh_ha H 3 ≤ 6) (hC : sh_ha H 6 ≤ 4) (hD : sh_ha H 9 ≤ 4) (hE : sh_ha H 11 ≤ 4) : hup (md_ Γ h m q r r sb ro M H Y) (r + 13) (aI Γ 4 v) = (md_ Γ h m q r r sb ro M H (sx_fo' Y v)) := by
  unfold md_
  exact (sx_a_fo (v := v))
theorem d_Model_stock_0 : decode M_Model_stock.2.1 0 = .ok (.aload_n 0, 1) := by decide +kernel
theorem d_Model_stock_1 : decode M_Model_stock.2.1 1 = .ok (.iconst 0, 1) := by decide +kernel
theorem d_Model_stock_2 : decode M_Model_stock.2.1 2 = .ok (.putfield 37, 3) := by decide +kernel
theorem d_Model_stock_5 : decode M_Model_stock.2.1 5 = .ok (.aload_n 0, 1) := by decide +kernel
theorem d_Model_stock_6 : decode M_Model_stock.2.1 6 = .ok (.bipush 9, 2) := by decide +kernel
theorem d_Model_stock_8 : decode M_Model_stock.2.1 8 = .ok (.iload_n 1, 1) := by decide +kernel
theorem d_Model_stock_9 : decode M_Model_stock.2.1 9 = .ok (.invokevirtual 450, 3) := by decide +kernel
theorem d_Model_stock_12 : decode M_Model_stock.2.1 12 = .ok (.ifCond .ne 9, 3) := by decide +kernel
theorem d_Model_stock_15 : decode M_Model_stock.2.1 15 = .ok (.aload_n 0, 1) := by decide +kernel
theorem d_Model_stock_16 : decode M_Model_stock.2.1 16 = .ok (.iconst 1, 1) := by decide +kernel
theorem d_Model_stock_17 : decode M_Model_stock.2.1 17 = .ok (.invokevirtual 427, 3) := by decide +kernel
theorem d_Model_stock_20 : decode M_Model_stock.2.1 20 = .ok (.ireturn, 1) := by decide +kernel
theorem d_Model_stock_21 : decode M_Model_stock.2.1 21 = .ok (.iload_n 2, 1) := by decide +kernel
theorem d_Model_stock_22 : decode M_Model_stock.2.1 22 = .ok (.iconst 1, 1) := by decide +kernel
theorem d_Model_stock_23 : decode M_Model_stock.2.1 23 = .ok (.sipush 200, 3) := by decide +kernel
theorem d_Model_stock_26 : decode M_Model_stock.2.1 26 = .ok (.invokestatic 43, 3) := by decide +kernel
theorem d_Model_stock_29 : decode M_Model_stock.2.1 29 = .ok (.ifCond .ne 9, 3) := by decide +kernel
theorem d_Model_stock_32 : decode M_Model_stock.2.1 32 = .ok (.aload_n 0, 1) := by decide +kernel
theorem d_Model_stock_33 : decode M_Model_stock.2.1 33 = .ok (.iconst 2, 1) := by decide +kernel
theorem d_Model_stock_34 : decode M_Model_stock.2.1 34 = .ok (.invokevirtual 427, 3) := by decide +kernel
theorem d_Model_stock_37 : decode M_Model_stock.2.1 37 = .ok (.ireturn, 1) := by decide +kernel
theorem d_Model_stock_38 : decode M_Model_stock.2.1 38 = .ok (.aload_n 0, 1) := by decide +kernel
theorem d_Model_stock_39 : decode M_Model_stock.2.1 39 = .ok (.getfield 27, 3) := by decide +kernel
theorem d_Model_stock_42 : decode M_Model_stock.2.1 42 = .ok (.getfield 308, 3) := by decide +kernel
theorem d_Model_stock_45 : decode M_Model_stock.2.1 45 = .ok (.iload_n 1, 1) := by decide +kernel
theorem d_Model_stock_46 : decode M_Model_stock.2.1 46 = .ok (.sipush 999, 3) := by decide +kernel
theorem d_Model_stock_49 : decode M_Model_stock.2.1 49 = .ok (.aload_n 0, 1) := by decide +kernel
theorem d_Model_stock_50 : decode M_Model_stock.2.1 50 = .ok (.getfield 27, 3) := by decide +kernel
theorem d_Model_stock_53 : decode M_Model_stock.2.1 53 = .ok (.getfield 308, 3) := by decide +kernel
theorem d_Model_stock_56 : decode M_Model_stock.2.1 56 = .ok (.iload_n 1, 1) := by decide +kernel
theorem d_Model_stock_57 : decode M_Model_stock.2.1 57 = .ok (.iaload, 1) := by decide +kernel
theorem d_Model_stock_58 : decode M_Model_stock.2.1 58 = .ok (.iload_n 2, 1) := by decide +kernel
theorem d_Model_stock_59 : decode M_Model_stock.2.1 59 = .ok (.iadd, 1) := by decide +kernel
theorem d_Model_stock_60 : decode M_Model_stock.2.1 60 = .ok (.invokestatic 313, 3) := by decide +kernel
theorem d_Model_stock_63 : decode M_Model_stock.2.1 63 = .ok (.iastore, 1) := by decide +kernel
theorem d_Model_stock_64 : decode M_Model_stock.2.1 64 = .ok (.aload_n 0, 1) := by decide +kernel
theorem d_Model_stock_65 : decode M_Model_stock.2.1 65 = .ok (.getfield 27, 3) := by decide +kernel
theorem d_Model_stock_68 : decode M_Model_stock.2.1 68 = .ok (.getfield 308, 3) := by decide +kernel
theorem d_Model_stock_71 : decode M_Model_stock.2.1 71 = .ok (.iload_n 1, 1) := by decide +kernel
theorem d_Model_stock_72 : decode M_Model_stock.2.1 72 = .ok (.iaload, 1) := by decide +kernel
theorem d_Model_stock_73 : decode M_Model_stock.2.1 73 = .ok (.ireturn, 1) := by decide +kernel
def s_Model_stock (M : MO) (H : SH) (Y : SX) (x1 : Int32) (x2 : Int32) : Int32 × MO × SX := (if (s_Model_is (mo_th' M 0) H Y 9 x1) = 0 then ((s_Model_no (mo_th' M 0) H Y 1).1, (s_Model_no (mo_th' M 0) H Y 1).2, Y) else (if (s_Model_isIn x2 1 200) = 0 then ((s_Model_no (mo_th' M 0) H Y 2).1, (s_Model_no (mo_th' M 0) H Y 2).2, Y) else (((upd (sx_fo Y) x1.toNatClampNeg (iMin 999 (((sx_fo Y) x1.toNatClampNeg) + x2))) x1.toNatClampNeg), (mo_th' M 0), (sx_fo' Y (upd (sx_fo Y) x1.toNatClampNeg (iMin 999 (((sx_fo Y) x1.toNatClampNeg) + x2)))))))
set_option maxRecDepth 100000 in
set_option maxHeartbeats 800000 in
theorem c_Model_stock {Γ : G9} {h : AH} {m q r sb ro z : Nat} {M : MO} {H : SH} {Y : SX} {x1 : Int32} {x2 : Int32} (geo : m + 2 ≤ q ∧ m + 2 ≤ r ∧ (q + 24 ≤ r ∨ r + 21 ≤ q)) (hB : sh_ha H 0 ≤ 5) (hS : sh_ha H 3 ≤ 6) (hC : sh_ha H 6 ≤ 4) (hD : sh_ha H 9 ≤ 4) (hE : sh_ha H 11 ≤ 4) : CallR Γ M_Model_stock 2 [.ref m, .int x1, .int x2] (md_ Γ h m q r r sb ro M H Y) z (some (.int (s_Model_stock M H Y x1 x2).1)) (md_ Γ h m q r r sb ro (s_Model_stock M H Y x1 x2).2.1 H (s_Model_stock M H Y x1 x2).2.2) := by
  refine Call.of_go (L := [some (.ref m), some (.int x1), some (.int x2)]) (by decide +kernel) rfl (by exact Nat.le_of_ble_eq_true rfl) ?_
  unfold s_Model_stock
  refine Go.aload_0 d_Model_stock_0 rfl ?_
  refine Go.iconst (v := 0) d_Model_stock_1 rfl (by decide) ?_
  refine Go.putfield d_Model_stock_2 rfl f_Model_37_p (Or.inl (fun C T N h => by cases h; rfl)) (ms_at_m (by omega) hB hS hC hD hE) (by exact Nat.le_of_ble_eq_true rfl) rfl rfl ?_
  refine Go.heq (ms_put_m_thrown (by omega) hB hS hC hD hE) ?_
  refine Go.aload_0 d_Model_stock_5 rfl ?_
  refine Go.bipush (v := 9) d_Model_stock_6 rfl (by decide) ?_
  refine Go.iload_1 d_Model_stock_8 rfl ?_
  refine Go.cv2r d_Model_stock_9 rfl l_Model_450 k_Model_is_v (ms_at_m (by omega) hB hS hC hD hE) rfl (c_Model_is (x1 := 9) rfl (by omega) (by omega) hB hS hC hD hE) (Nat.ble_eq_true_of_le (by omega)) rfl rfl ?_
  refine Go.if_ne (t := 21) d_Model_stock_12 (by decide) rfl (fun c12_1 => ?_) (fun c12_1 => ?_)
  · refine Go.iload_2 d_Model_stock_21 rfl ?_
    refine Go.iconst (v := 1) d_Model_stock_22 rfl (by decide) ?_
    refine Go.sipush (v := 200) d_Model_stock_23 rfl (by decide) ?_
    refine Go.cs3r d_Model_stock_26 rfl l_Model_43 k_Model_isIn_s rfl (ms_c_Model_isIn_ (by omega) hB hS hC hD hE) (Nat.ble_eq_true_of_le (by omega)) rfl rfl ?_
    refine Go.if_ne (t := 38) d_Model_stock_29 (by decide) rfl (fun c29_2 => ?_) (fun c29_2 => ?_)
    · refine Go.aload_0 d_Model_stock_38 rfl ?_
      refine Go.getfield d_Model_stock_39 rfl f_Model_27 (ms_at_m (by omega) hB hS hC hD hE) (by rfl) ?_
      refine Go.getfield d_Model_stock_42 rfl f_Model_308 (ms_at_r (by omega) hB hS hC hD hE) (by rfl) ?_
      refine Go.iload_1 d_Model_stock_45 rfl ?_
      refine Go.sipush (v := 999) d_Model_stock_46 rfl (by decide) ?_
      refine Go.aload_0 d_Model_stock_49 rfl ?_
      refine Go.getfield d_Model_stock_50 rfl f_Model_27 (ms_at_m (by omega) hB hS hC hD hE) (by rfl) ?_
      refine Go.getfield d_Model_stock_53 rfl f_Model_308 (ms_at_r (by omega) hB hS hC hD hE) (by rfl) ?_
      refine Go.iload_1 d_Model_stock_56 rfl ?_
      refine Go.iaload d_Model_stock_57 rfl (ms_at_r_13 (by omega) hB hS hC hD hE) (vp_np (is_ok c12_1).1 (is_lt c12_1 hD (by decide))) ?_
      refine Go.iload_2 d_Model_stock_58 rfl ?_
      refine Go.iadd d_Model_stock_59 rfl ?_
      refine Go.imin d_Model_stock_60 rfl l_Model_313 (by omega) rfl ?_
      refine Go.iastore d_Model_stock_63 rfl (ms_at_r_13 (by omega) hB hS hC hD hE) (vp_np (is_ok c12_1).1 (is_lt c12_1 hD (by decide))) ?_
      refine Go.heq (ms_arr_r_13 (by omega) hB hS hC hD hE) ?_
      refine Go.aload_0 d_Model_stock_64 rfl ?_
      refine Go.getfield d_Model_stock_65 rfl f_Model_27 (ms_at_m (by omega) hB hS hC hD hE) (by rfl) ?_
      refine Go.getfield d_Model_stock_68 rfl f_Model_308 (ms_at_r (by omega) hB hS hC hD hE) (by rfl) ?_
      refine Go.iload_1 d_Model_stock_71 rfl ?_
      refine Go.iaload d_Model_stock_72 rfl (ms_at_r_13 (by omega) hB hS hC hD hE) (vp_np (is_ok c12_1).1 (is_lt c12_1 hD (by decide))) ?_
      rw [if_neg c12_1, if_neg c29_2]
      exact Go.iret d_Model_stock_73 rfl rfl ⟨rfl, by dsimp only, rfl⟩
    · refine Go.aload_0 d_Model_stock_32 rfl ?_
      refine Go.iconst (v := 2) d_Model_stock_33 rfl (by decide) ?_
      refine Go.cv1r d_Model_stock_34 rfl l_Model_427 k_Model_no_v (ms_at_m (by omega) hB hS hC hD hE) rfl (c_Model_no (by omega) hB hS hC hD hE) (Nat.ble_eq_true_of_le (by omega)) rfl rfl ?_
      rw [if_neg c12_1, if_pos c29_2]
      exact Go.iret d_Model_stock_37 rfl rfl ⟨rfl, by dsimp only, rfl⟩
  · refine Go.aload_0 d_Model_stock_15 rfl ?_
    refine Go.iconst (v := 1) d_Model_stock_16 rfl (by decide) ?_
    refine Go.cv1r d_Model_stock_17 rfl l_Model_427 k_Model_no_v (ms_at_m (by omega) hB hS hC hD hE) rfl (c_Model_no (by omega) hB hS hC hD hE) (Nat.ble_eq_true_of_le (by omega)) rfl rfl ?_
    rw [if_pos c12_1]
    exact Go.iret d_Model_stock_20 rfl rfl ⟨rfl, by dsimp only, rfl⟩
theorem ms_at_r_1 {Γ : G9} {h : AH} {m q r sb ro : Nat} {M : MO} {H : SH} {Y : SX} (geo : m + 2 ≤ q ∧ m + 2 ≤ r ∧ (q + 24 ≤ r ∨ r + 21 ≤ q)) (hB : sh_ha H 0 ≤ 5) (hS : sh_ha H 3 ≤ 6) (hC : sh_ha H 6 ≤ 4) (hD : sh_ha H 9 ≤ 4) (hE : sh_ha H 11 ≤ 4) : (md_ Γ h m q r r sb ro M H Y) (r + 1) = some (aI Γ 8 (sx_wa Y)) := by
  unfold md_
  exact (sx_g1)
theorem ms_arr_r_1 {Γ : G9} {h : AH} {m q r sb ro : Nat} {M : MO} {H : SH} {Y : SX} {v : Nat → Int32} (geo : m + 2 ≤ q ∧ m + 2 ≤ r ∧ (q + 24 ≤ r ∨ r + 21 ≤ q)) (hB : sh_ha H 0 ≤ 5) (hS : sh_ha H 3 ≤ 6) (hC : sh_ha H 6 ≤ 4) (hD : sh_ha H 9 ≤ 4) (hE : sh_ha H 11 ≤ 4) : hup (md_ Γ h m q r r sb ro M H Y) (r + 1) (aI Γ 8 v) = (md_ Γ h m q r r sb ro M H (sx_wa' Y v)) := by
  unfold md_
  exact (sx_a_wa (v := v))
theorem d_Model_setWarm_0 : decode M_Model_setWarm.2.1 0 = .ok (.aload_n 0, 1) := by decide +kernel
theorem d_Model_setWarm_1 : decode M_Model_setWarm.2.1 1 = .ok (.iconst 0, 1) := by decide +kernel
theorem d_Model_setWarm_2 : decode M_Model_setWarm.2.1 2 = .ok (.putfield 37, 3) := by decide +kernel
theorem d_Model_setWarm_5 : decode M_Model_setWarm.2.1 5 = .ok (.iload_n 1, 1) := by decide +kernel
theorem d_Model_setWarm_6 : decode M_Model_setWarm.2.1 6 = .ok (.iconst 0, 1) := by decide +kernel
theorem d_Model_setWarm_7 : decode M_Model_setWarm.2.1 7 = .ok (.bipush 7, 2) := by decide +kernel
theorem d_Model_setWarm_9 : decode M_Model_setWarm.2.1 9 = .ok (.invokestatic 43, 3) := by decide +kernel
theorem d_Model_setWarm_12 : decode M_Model_setWarm.2.1 12 = .ok (.ifCond .ne 9, 3) := by decide +kernel
theorem d_Model_setWarm_15 : decode M_Model_setWarm.2.1 15 = .ok (.aload_n 0, 1) := by decide +kernel
theorem d_Model_setWarm_16 : decode M_Model_setWarm.2.1 16 = .ok (.iconst 1, 1) := by decide +kernel
theorem d_Model_setWarm_17 : decode M_Model_setWarm.2.1 17 = .ok (.invokevirtual 427, 3) := by decide +kernel
theorem d_Model_setWarm_20 : decode M_Model_setWarm.2.1 20 = .ok (.ireturn, 1) := by decide +kernel
theorem d_Model_setWarm_21 : decode M_Model_setWarm.2.1 21 = .ok (.iload_n 2, 1) := by decide +kernel
theorem d_Model_setWarm_22 : decode M_Model_setWarm.2.1 22 = .ok (.iconst 0, 1) := by decide +kernel
theorem d_Model_setWarm_23 : decode M_Model_setWarm.2.1 23 = .ok (.bipush 30, 2) := by decide +kernel
theorem d_Model_setWarm_25 : decode M_Model_setWarm.2.1 25 = .ok (.invokestatic 43, 3) := by decide +kernel
theorem d_Model_setWarm_28 : decode M_Model_setWarm.2.1 28 = .ok (.ifCond .ne 9, 3) := by decide +kernel
theorem d_Model_setWarm_31 : decode M_Model_setWarm.2.1 31 = .ok (.aload_n 0, 1) := by decide +kernel
theorem d_Model_setWarm_32 : decode M_Model_setWarm.2.1 32 = .ok (.iconst 2, 1) := by decide +kernel
theorem d_Model_setWarm_33 : decode M_Model_setWarm.2.1 33 = .ok (.invokevirtual 427, 3) := by decide +kernel
theorem d_Model_setWarm_36 : decode M_Model_setWarm.2.1 36 = .ok (.ireturn, 1) := by decide +kernel
theorem d_Model_setWarm_37 : decode M_Model_setWarm.2.1 37 = .ok (.aload_n 0, 1) := by decide +kernel
theorem d_Model_setWarm_38 : decode M_Model_setWarm.2.1 38 = .ok (.getfield 27, 3) := by decide +kernel
theorem d_Model_setWarm_41 : decode M_Model_setWarm.2.1 41 = .ok (.getfield 430, 3) := by decide +kernel
theorem d_Model_setWarm_44 : decode M_Model_setWarm.2.1 44 = .ok (.iload_n 1, 1) := by decide +kernel
theorem d_Model_setWarm_45 : decode M_Model_setWarm.2.1 45 = .ok (.iaload, 1) := by decide +kernel
theorem d_Model_setWarm_46 : decode M_Model_setWarm.2.1 46 = .ok (.istore_n 3, 1) := by decide +kernel
theorem d_Model_setWarm_47 : decode M_Model_setWarm.2.1 47 = .ok (.aload_n 0, 1) := by decide +kernel
theorem d_Model_setWarm_48 : decode M_Model_setWarm.2.1 48 = .ok (.getfield 27, 3) := by decide +kernel
theorem d_Model_setWarm_51 : decode M_Model_setWarm.2.1 51 = .ok (.getfield 430, 3) := by decide +kernel
theorem d_Model_setWarm_54 : decode M_Model_setWarm.2.1 54 = .ok (.iload_n 1, 1) := by decide +kernel
theorem d_Model_setWarm_55 : decode M_Model_setWarm.2.1 55 = .ok (.iload_n 2, 1) := by decide +kernel
theorem d_Model_setWarm_56 : decode M_Model_setWarm.2.1 56 = .ok (.iastore, 1) := by decide +kernel
theorem d_Model_setWarm_57 : decode M_Model_setWarm.2.1 57 = .ok (.iload_n 3, 1) := by decide +kernel
theorem d_Model_setWarm_58 : decode M_Model_setWarm.2.1 58 = .ok (.ireturn, 1) := by decide +kernel
def s_Model_setWarm (M : MO) (H : SH) (Y : SX) (x1 : Int32) (x2 : Int32) : Int32 × MO × SX := (if (s_Model_isIn x1 0 7) = 0 then ((s_Model_no (mo_th' M 0) H Y 1).1, (s_Model_no (mo_th' M 0) H Y 1).2, Y) else (if (s_Model_isIn x2 0 30) = 0 then ((s_Model_no (mo_th' M 0) H Y 2).1, (s_Model_no (mo_th' M 0) H Y 2).2, Y) else (((sx_wa Y) x1.toNatClampNeg), (mo_th' M 0), (sx_wa' Y (upd (sx_wa Y) x1.toNatClampNeg x2)))))
set_option maxRecDepth 100000 in
set_option maxHeartbeats 800000 in
theorem c_Model_setWarm {Γ : G9} {h : AH} {m q r sb ro z : Nat} {M : MO} {H : SH} {Y : SX} {x1 : Int32} {x2 : Int32} (geo : m + 2 ≤ q ∧ m + 2 ≤ r ∧ (q + 24 ≤ r ∨ r + 21 ≤ q)) (hB : sh_ha H 0 ≤ 5) (hS : sh_ha H 3 ≤ 6) (hC : sh_ha H 6 ≤ 4) (hD : sh_ha H 9 ≤ 4) (hE : sh_ha H 11 ≤ 4) : CallR Γ M_Model_setWarm 1 [.ref m, .int x1, .int x2] (md_ Γ h m q r r sb ro M H Y) z (some (.int (s_Model_setWarm M H Y x1 x2).1)) (md_ Γ h m q r r sb ro (s_Model_setWarm M H Y x1 x2).2.1 H (s_Model_setWarm M H Y x1 x2).2.2) := by
  refine Call.of_go (L := [some (.ref m), some (.int x1), some (.int x2), none]) (by decide +kernel) rfl (by exact Nat.le_of_ble_eq_true rfl) ?_
  unfold s_Model_setWarm
  refine Go.aload_0 d_Model_setWarm_0 rfl ?_
  refine Go.iconst (v := 0) d_Model_setWarm_1 rfl (by decide) ?_
  refine Go.putfield d_Model_setWarm_2 rfl f_Model_37_p (Or.inl (fun C T N h => by cases h; rfl)) (ms_at_m (by omega) hB hS hC hD hE) (by exact Nat.le_of_ble_eq_true rfl) rfl rfl ?_
  refine Go.heq (ms_put_m_thrown (by omega) hB hS hC hD hE) ?_
  refine Go.iload_1 d_Model_setWarm_5 rfl ?_
  refine Go.iconst (v := 0) d_Model_setWarm_6 rfl (by decide) ?_
  refine Go.bipush (v := 7) d_Model_setWarm_7 rfl (by decide) ?_
  refine Go.cs3r d_Model_setWarm_9 rfl l_Model_43 k_Model_isIn_s rfl (ms_c_Model_isIn_ (by omega) hB hS hC hD hE) (Nat.ble_eq_true_of_le (by omega)) rfl rfl ?_
  refine Go.if_ne (t := 21) d_Model_setWarm_12 (by decide) rfl (fun c12_1 => ?_) (fun c12_1 => ?_)
  · refine Go.iload_2 d_Model_setWarm_21 rfl ?_
    refine Go.iconst (v := 0) d_Model_setWarm_22 rfl (by decide) ?_
    refine Go.bipush (v := 30) d_Model_setWarm_23 rfl (by decide) ?_
    refine Go.cs3r d_Model_setWarm_25 rfl l_Model_43 k_Model_isIn_s rfl (ms_c_Model_isIn_ (by omega) hB hS hC hD hE) (Nat.ble_eq_true_of_le (by omega)) rfl rfl ?_
    refine Go.if_ne (t := 37) d_Model_setWarm_28 (by decide) rfl (fun c28_2 => ?_) (fun c28_2 => ?_)
    · refine Go.aload_0 d_Model_setWarm_37 rfl ?_
      refine Go.getfield d_Model_setWarm_38 rfl f_Model_27 (ms_at_m (by omega) hB hS hC hD hE) (by rfl) ?_
      refine Go.getfield d_Model_setWarm_41 rfl f_Model_430 (ms_at_r (by omega) hB hS hC hD hE) (by rfl) ?_
      refine Go.iload_1 d_Model_setWarm_44 rfl ?_
      refine Go.iaload d_Model_setWarm_45 rfl (ms_at_r_1 (by omega) hB hS hC hD hE) (vp_np (isIn_ok c12_1).1 (isIn_lt (b := 7) c12_1 (by decide) (by decide))) ?_
      refine Go.istore_3 d_Model_setWarm_46 rfl (by rfl) ?_
      refine Go.aload_0 d_Model_setWarm_47 rfl ?_
      refine Go.getfield d_Model_setWarm_48 rfl f_Model_27 (ms_at_m (by omega) hB hS hC hD hE) (by rfl) ?_
      refine Go.getfield d_Model_setWarm_51 rfl f_Model_430 (ms_at_r (by omega) hB hS hC hD hE) (by rfl) ?_
      refine Go.iload_1 d_Model_setWarm_54 rfl ?_
      refine Go.iload_2 d_Model_setWarm_55 rfl ?_
      refine Go.iastore d_Model_setWarm_56 rfl (ms_at_r_1 (by omega) hB hS hC hD hE) (vp_np (isIn_ok c12_1).1 (isIn_lt (b := 7) c12_1 (by decide) (by decide))) ?_
      refine Go.heq (ms_arr_r_1 (by omega) hB hS hC hD hE) ?_
      refine Go.iload_3 d_Model_setWarm_57 rfl ?_
      rw [if_neg c12_1, if_neg c28_2]
      exact Go.iret d_Model_setWarm_58 rfl rfl ⟨rfl, by dsimp only, rfl⟩
    · refine Go.aload_0 d_Model_setWarm_31 rfl ?_
      refine Go.iconst (v := 2) d_Model_setWarm_32 rfl (by decide) ?_
      refine Go.cv1r d_Model_setWarm_33 rfl l_Model_427 k_Model_no_v (ms_at_m (by omega) hB hS hC hD hE) rfl (c_Model_no (by omega) hB hS hC hD hE) (Nat.ble_eq_true_of_le (by omega)) rfl rfl ?_
      rw [if_neg c12_1, if_pos c28_2]
      exact Go.iret d_Model_setWarm_36 rfl rfl ⟨rfl, by dsimp only, rfl⟩
  · refine Go.aload_0 d_Model_setWarm_15 rfl ?_
    refine Go.iconst (v := 1) d_Model_setWarm_16 rfl (by decide) ?_
    refine Go.cv1r d_Model_setWarm_17 rfl l_Model_427 k_Model_no_v (ms_at_m (by omega) hB hS hC hD hE) rfl (c_Model_no (by omega) hB hS hC hD hE) (Nat.ble_eq_true_of_le (by omega)) rfl rfl ?_
    rw [if_pos c12_1]
    exact Go.iret d_Model_setWarm_20 rfl rfl ⟨rfl, by dsimp only, rfl⟩
theorem d_Model_safe_0 : decode M_Model_safe.2.1 0 = .ok (.aload_n 0, 1) := by decide +kernel
theorem d_Model_safe_1 : decode M_Model_safe.2.1 1 = .ok (.aload_n 0, 1) := by decide +kernel
theorem d_Model_safe_2 : decode M_Model_safe.2.1 2 = .ok (.bipush 11, 2) := by decide +kernel
theorem d_Model_safe_4 : decode M_Model_safe.2.1 4 = .ok (.iload_n 1, 1) := by decide +kernel
theorem d_Model_safe_5 : decode M_Model_safe.2.1 5 = .ok (.invokevirtual 450, 3) := by decide +kernel
theorem d_Model_safe_8 : decode M_Model_safe.2.1 8 = .ok (.ifCond .eq 7, 3) := by decide +kernel
theorem d_Model_safe_11 : decode M_Model_safe.2.1 11 = .ok (.iconst 0, 1) := by decide +kernel
theorem d_Model_safe_12 : decode M_Model_safe.2.1 12 = .ok (.goto 4, 3) := by decide +kernel
theorem d_Model_safe_15 : decode M_Model_safe.2.1 15 = .ok (.iconst 1, 1) := by decide +kernel
theorem d_Model_safe_16 : decode M_Model_safe.2.1 16 = .ok (.putfield 37, 3) := by decide +kernel
theorem d_Model_safe_19 : decode M_Model_safe.2.1 19 = .ok (.aload_n 0, 1) := by decide +kernel
theorem d_Model_safe_20 : decode M_Model_safe.2.1 20 = .ok (.getfield 37, 3) := by decide +kernel
theorem d_Model_safe_23 : decode M_Model_safe.2.1 23 = .ok (.ifCond .ne 34, 3) := by decide +kernel
theorem d_Model_safe_26 : decode M_Model_safe.2.1 26 = .ok (.aload_n 0, 1) := by decide +kernel
theorem d_Model_safe_27 : decode M_Model_safe.2.1 27 = .ok (.aload_n 0, 1) := by decide +kernel
theorem d_Model_safe_28 : decode M_Model_safe.2.1 28 = .ok (.getfield 27, 3) := by decide +kernel
theorem d_Model_safe_31 : decode M_Model_safe.2.1 31 = .ok (.iload_n 1, 1) := by decide +kernel
theorem d_Model_safe_32 : decode M_Model_safe.2.1 32 = .ok (.iload_n 2, 1) := by decide +kernel
theorem d_Model_safe_33 : decode M_Model_safe.2.1 33 = .ok (.invokevirtual 361, 3) := by decide +kernel
theorem d_Model_safe_36 : decode M_Model_safe.2.1 36 = .ok (.ifCond .eq 21, 3) := by decide +kernel
theorem d_Model_safe_39 : decode M_Model_safe.2.1 39 = .ok (.aload_n 0, 1) := by decide +kernel
theorem d_Model_safe_40 : decode M_Model_safe.2.1 40 = .ok (.aload_n 0, 1) := by decide +kernel
theorem d_Model_safe_41 : decode M_Model_safe.2.1 41 = .ok (.getfield 27, 3) := by decide +kernel
theorem d_Model_safe_44 : decode M_Model_safe.2.1 44 = .ok (.iload_n 1, 1) := by decide +kernel
theorem d_Model_safe_45 : decode M_Model_safe.2.1 45 = .ok (.iload_n 2, 1) := by decide +kernel
theorem d_Model_safe_46 : decode M_Model_safe.2.1 46 = .ok (.invokevirtual 341, 3) := by decide +kernel
theorem d_Model_safe_49 : decode M_Model_safe.2.1 49 = .ok (.iconst (-1), 1) := by decide +kernel
theorem d_Model_safe_50 : decode M_Model_safe.2.1 50 = .ok (.if_icmp .ne 7, 3) := by decide +kernel
theorem d_Model_safe_53 : decode M_Model_safe.2.1 53 = .ok (.iconst 1, 1) := by decide +kernel
theorem d_Model_safe_54 : decode M_Model_safe.2.1 54 = .ok (.goto 4, 3) := by decide +kernel
theorem d_Model_safe_57 : decode M_Model_safe.2.1 57 = .ok (.iconst 0, 1) := by decide +kernel
theorem d_Model_safe_58 : decode M_Model_safe.2.1 58 = .ok (.ireturn, 1) := by decide +kernel
def s_Model_safe (M : MO) (H : SH) (Y : SX) (x1 : Int32) (x2 : Int32) : Int32 × MO := (if (s_Model_is M H Y 11 x1) = 0 then (0, (mo_th' M 1)) else (if (s_Model_canGo (mo_th' M 0) H Y x1.toNatClampNeg x2) = 0 then (0, (mo_th' M 0)) else (if (s_Model_trap (mo_th' M 0) H Y x1.toNatClampNeg x2) = (-1) then (1, (mo_th' M 0)) else (0, (mo_th' M 0)))))
set_option maxRecDepth 100000 in
set_option maxHeartbeats 800000 in
theorem c_Model_safe {Γ : G9} {h : AH} {m q r sb ro z : Nat} {M : MO} {H : SH} {Y : SX} {x1 : Int32} {x2 : Int32} (geo : m + 2 ≤ q ∧ m + 2 ≤ r ∧ (q + 24 ≤ r ∨ r + 21 ≤ q)) (hB : sh_ha H 0 ≤ 5) (hS : sh_ha H 3 ≤ 6) (hC : sh_ha H 6 ≤ 4) (hD : sh_ha H 9 ≤ 4) (hE : sh_ha H 11 ≤ 4) : CallR Γ M_Model_safe 2 [.ref m, .int x1, .int x2] (md_ Γ h m q r r sb ro M H Y) z (some (.int (s_Model_safe M H Y x1 x2).1)) (md_ Γ h m q r r sb ro (s_Model_safe M H Y x1 x2).2 H Y) := by
  refine Call.of_go (L := [some (.ref m), some (.int x1), some (.int x2)]) (by decide +kernel) rfl (by exact Nat.le_of_ble_eq_true rfl) ?_
  unfold s_Model_safe
  refine Go.aload_0 d_Model_safe_0 rfl ?_
  refine Go.aload_0 d_Model_safe_1 rfl ?_
  refine Go.bipush (v := 11) d_Model_safe_2 rfl (by decide) ?_
  refine Go.iload_1 d_Model_safe_4 rfl ?_
  refine Go.cv2r d_Model_safe_5 rfl l_Model_450 k_Model_is_v (ms_at_m (by omega) hB hS hC hD hE) rfl (c_Model_is (x1 := 11) rfl (by omega) (by omega) hB hS hC hD hE) (Nat.ble_eq_true_of_le (by omega)) rfl rfl ?_
  refine Go.if_eq (t := 15) d_Model_safe_8 (by decide) rfl (fun c8_1 => ?_) (fun c8_1 => ?_)
  · refine Go.iconst (v := 1) d_Model_safe_15 rfl (by decide) ?_
    refine Go.putfield d_Model_safe_16 rfl f_Model_37_p (Or.inl (fun C T N h => by cases h; rfl)) (ms_at_m (by omega) hB hS hC hD hE) (by exact Nat.le_of_ble_eq_true rfl) rfl rfl ?_
    refine Go.heq (ms_put_m_thrown (by omega) hB hS hC hD hE) ?_
    refine Go.aload_0 d_Model_safe_19 rfl ?_
    refine Go.getfield d_Model_safe_20 rfl f_Model_37 (ms_at_m (by omega) hB hS hC hD hE) (by rfl) ?_
    refine Go.if_ne (t := 57) d_Model_safe_23 (by decide) rfl (fun c23_2 => ?_) (fun c23_2 => ?_)
    · refine Go.iconst (v := 0) d_Model_safe_57 rfl (by decide) ?_
      rw [if_pos c8_1]
      exact Go.iret d_Model_safe_58 rfl rfl ⟨rfl, by dsimp only, rfl⟩
    · exact absurd (show (1 : Int32) = 0 from c23_2) (by decide)
  · refine Go.iconst (v := 0) d_Model_safe_11 rfl (by decide) ?_
    refine Go.goto (t := 16) d_Model_safe_12 (by decide) ?_
    refine Go.putfield d_Model_safe_16 rfl f_Model_37_p (Or.inl (fun C T N h => by cases h; rfl)) (ms_at_m (by omega) hB hS hC hD hE) (by exact Nat.le_of_ble_eq_true rfl) rfl rfl ?_
    refine Go.heq (ms_put_m_thrown (by omega) hB hS hC hD hE) ?_
    refine Go.aload_0 d_Model_safe_19 rfl ?_
    refine Go.getfield d_Model_safe_20 rfl f_Model_37 (ms_at_m (by omega) hB hS hC hD hE) (by rfl) ?_
    refine Go.if_ne (t := 57) d_Model_safe_23 (by decide) rfl (fun c23_3 => ?_) (fun c23_3 => ?_)
    · exact absurd (show (0 : Int32) = 0 from rfl) c23_3
    · refine Go.aload_0 d_Model_safe_26 rfl ?_
      refine Go.aload_0 d_Model_safe_27 rfl ?_
      refine Go.getfield d_Model_safe_28 rfl f_Model_27 (ms_at_m (by omega) hB hS hC hD hE) (by rfl) ?_
      refine Go.iload_1 d_Model_safe_31 rfl ?_
      refine Go.iload_2 d_Model_safe_32 rfl ?_
      refine Go.cv3r d_Model_safe_33 rfl l_Model_361 k_Model_canGo_v (ms_at_m (by omega) hB hS hC hD hE) rfl (c_Model_canGo (x2 := x1.toNatClampNeg) (nI_back (is_ok c8_1).1) (is_lt c8_1 hE (by decide)) (by omega) hB hS hC hD hE) (Nat.ble_eq_true_of_le (by omega)) rfl rfl ?_
      refine Go.if_eq (t := 57) d_Model_safe_36 (by decide) rfl (fun c36_4 => ?_) (fun c36_4 => ?_)
      · refine Go.iconst (v := 0) d_Model_safe_57 rfl (by decide) ?_
        rw [if_neg c8_1, if_pos c36_4]
        exact Go.iret d_Model_safe_58 rfl rfl ⟨rfl, by dsimp only, rfl⟩
      · refine Go.aload_0 d_Model_safe_39 rfl ?_
        refine Go.aload_0 d_Model_safe_40 rfl ?_
        refine Go.getfield d_Model_safe_41 rfl f_Model_27 (ms_at_m (by omega) hB hS hC hD hE) (by rfl) ?_
        refine Go.iload_1 d_Model_safe_44 rfl ?_
        refine Go.iload_2 d_Model_safe_45 rfl ?_
        refine Go.cv3r d_Model_safe_46 rfl l_Model_341 k_Model_trap_v (ms_at_m (by omega) hB hS hC hD hE) rfl (c_Model_trap (x2 := x1.toNatClampNeg) (nI_back (is_ok c8_1).1) (is_lt c8_1 hE (by decide)) (by omega) hB hS hC hD hE) (Nat.ble_eq_true_of_le (by omega)) rfl rfl ?_
        refine Go.iconst (v := (-1)) d_Model_safe_49 rfl (by decide) ?_
        refine Go.icmp_ne (t := 57) d_Model_safe_50 (by decide) rfl (fun c50_5 => ?_) (fun c50_5 => ?_)
        · refine Go.iconst (v := 0) d_Model_safe_57 rfl (by decide) ?_
          rw [if_neg c8_1, if_neg c36_4, if_neg c50_5]
          exact Go.iret d_Model_safe_58 rfl rfl ⟨rfl, by dsimp only, rfl⟩
        · refine Go.iconst (v := 1) d_Model_safe_53 rfl (by decide) ?_
          refine Go.goto (t := 58) d_Model_safe_54 (by decide) ?_
          rw [if_neg c8_1, if_neg c36_4, if_pos c50_5]
          exact Go.iret d_Model_safe_58 rfl rfl ⟨rfl, by dsimp only, rfl⟩
theorem isIn_pos1 {x b : Int32} (h : ¬ s_Model_isIn x 1 b = 0) : ¬ x < 0 := i_trans1 (isIn_ok h).1
theorem isIn_le {x : Int32} {b : Nat} (h : ¬ s_Model_isIn x 1 (nI b) = 0) (hb : b < 2 ^ 31) : x.toNatClampNeg ≤ b := by
  obtain ⟨j, hj, e⟩ := nI_of (isIn_pos1 h)
  have h2 := (isIn_ok h).2
  subst e
  rw [nI_clamp hj]
  rcases Nat.lt_or_ge b j with w | w
  · exact absurd ((nI_ltI hb hj).mpr w) h2
  · exact w
theorem isIn_ge1 {x b : Int32} (h : ¬ s_Model_isIn x 1 b = 0) : 1 ≤ x.toNatClampNeg := by
  obtain ⟨j, hj, e⟩ := nI_of (isIn_pos1 h)
  have h2 := (isIn_ok h).1
  subst e
  rw [nI_clamp hj]
  rcases Nat.lt_or_ge 0 j with w | w
  · exact w
  · exact absurd (show nI j < 1 by rw [show j = 0 by omega]; decide) h2
theorem d_Model_meltsIn_5 : decode M_Model_meltsIn.2.1 5 = .ok (.iload 4, 2) := by decide +kernel
theorem d_Model_meltsIn_7 : decode M_Model_meltsIn.2.1 7 = .ok (.iload_n 2, 1) := by decide +kernel
theorem d_Model_meltsIn_8 : decode M_Model_meltsIn.2.1 8 = .ok (.if_icmp .ge 49, 3) := by decide +kernel
theorem d_Model_meltsIn_11 : decode M_Model_meltsIn.2.1 11 = .ok (.iload_n 3, 1) := by decide +kernel
theorem d_Model_meltsIn_12 : decode M_Model_meltsIn.2.1 12 = .ok (.iconst 3, 1) := by decide +kernel
theorem d_Model_meltsIn_13 : decode M_Model_meltsIn.2.1 13 = .ok (.iconst 0, 1) := by decide +kernel
theorem d_Model_meltsIn_14 : decode M_Model_meltsIn.2.1 14 = .ok (.aload_n 0, 1) := by decide +kernel
theorem d_Model_meltsIn_15 : decode M_Model_meltsIn.2.1 15 = .ok (.getfield 27, 3) := by decide +kernel
theorem d_Model_meltsIn_18 : decode M_Model_meltsIn.2.1 18 = .ok (.getfield 430, 3) := by decide +kernel
theorem d_Model_meltsIn_21 : decode M_Model_meltsIn.2.1 21 = .ok (.aload_n 0, 1) := by decide +kernel
theorem d_Model_meltsIn_22 : decode M_Model_meltsIn.2.1 22 = .ok (.getfield 27, 3) := by decide +kernel
theorem d_Model_meltsIn_25 : decode M_Model_meltsIn.2.1 25 = .ok (.getfield 297, 3) := by decide +kernel
theorem d_Model_meltsIn_28 : decode M_Model_meltsIn.2.1 28 = .ok (.iload 4, 2) := by decide +kernel
theorem d_Model_meltsIn_30 : decode M_Model_meltsIn.2.1 30 = .ok (.iadd, 1) := by decide +kernel
theorem d_Model_meltsIn_31 : decode M_Model_meltsIn.2.1 31 = .ok (.bipush 8, 2) := by decide +kernel
theorem d_Model_meltsIn_33 : decode M_Model_meltsIn.2.1 33 = .ok (.irem, 1) := by decide +kernel
theorem d_Model_meltsIn_34 : decode M_Model_meltsIn.2.1 34 = .ok (.iaload, 1) := by decide +kernel
theorem d_Model_meltsIn_35 : decode M_Model_meltsIn.2.1 35 = .ok (.aload_n 0, 1) := by decide +kernel
theorem d_Model_meltsIn_36 : decode M_Model_meltsIn.2.1 36 = .ok (.getfield 20, 3) := by decide +kernel
theorem d_Model_meltsIn_39 : decode M_Model_meltsIn.2.1 39 = .ok (.getfield 200, 3) := by decide +kernel
theorem d_Model_meltsIn_42 : decode M_Model_meltsIn.2.1 42 = .ok (.iload_n 1, 1) := by decide +kernel
theorem d_Model_meltsIn_43 : decode M_Model_meltsIn.2.1 43 = .ok (.iaload, 1) := by decide +kernel
theorem d_Model_meltsIn_44 : decode M_Model_meltsIn.2.1 44 = .ok (.isub, 1) := by decide +kernel
theorem d_Model_meltsIn_45 : decode M_Model_meltsIn.2.1 45 = .ok (.invokestatic 318, 3) := by decide +kernel
theorem d_Model_meltsIn_48 : decode M_Model_meltsIn.2.1 48 = .ok (.imul, 1) := by decide +kernel
theorem d_Model_meltsIn_49 : decode M_Model_meltsIn.2.1 49 = .ok (.iadd, 1) := by decide +kernel
theorem d_Model_meltsIn_50 : decode M_Model_meltsIn.2.1 50 = .ok (.istore_n 3, 1) := by decide +kernel
theorem d_Model_meltsIn_51 : decode M_Model_meltsIn.2.1 51 = .ok (.iinc 4 1, 3) := by decide +kernel
theorem d_Model_meltsIn_54 : decode M_Model_meltsIn.2.1 54 = .ok (.goto (-49), 3) := by decide +kernel
def l_Model_meltsIn_5 (M : MO) (H : SH) (Y : SX) (x1 : Nat) (x2 : Nat) : Nat → Nat → Int32 → Int32
  | 0, _, s => s
  | k + 1, i, s => (l_Model_meltsIn_5 M H Y x1 x2 k (i + 1) (s + (3 * (iMax 0 (((sx_wa Y) (((sx_dy Y) + i) % 8)) - ((sh_hg H) x1))))))
set_option maxRecDepth 100000 in
set_option maxHeartbeats 800000 in
theorem l_Model_meltsIn_5_go {Γ : G9} {h : AH} {m q r sb ro z : Nat} {n : Nat} {Q : QT} {X : XT} {M : MO} {H : SH} {Y : SX} {x1 : Nat} {x2 : Nat} (bx1 : x1 < 5) (bx2 : x2 ≤ 60) (geo : m + 2 ≤ q ∧ m + 2 ≤ r ∧ (q + 24 ≤ r ∨ r + 21 ≤ q)) (hB : sh_ha H 0 ≤ 5) (hS : sh_ha H 3 ≤ 6) (hC : sh_ha H 6 ≤ 4) (hD : sh_ha H 9 ≤ 4) (hE : sh_ha H 11 ≤ 4) (hdy : sx_dy Y < 1000000) (hn20 : n ≤ 60) (hn : x2 = n) : ∀ (k i : Nat) (s : Int32), i + k = n → Go Γ M_Model_meltsIn 1 0 0 57 [some (.ref m), some (.int (nI x1)), some (.int (nI x2)), some (.int (l_Model_meltsIn_5 M H Y x1 x2 k i s)), some (.int (nI (i + k)))] [] (md_ Γ h m q r r sb ro M H Y) z Q X → Go Γ M_Model_meltsIn 1 0 0 5 [some (.ref m), some (.int (nI x1)), some (.int (nI x2)), some (.int s), some (.int (nI i))] [] (md_ Γ h m q r r sb ro M H Y) z Q X := by
  intro k
  induction k with
  | zero =>
    intro i s hi hk
    refine Go.iload_4 d_Model_meltsIn_5 rfl ?_
    refine Go.iload_2 d_Model_meltsIn_7 rfl ?_
    refine Go.icmp_ge (t := 57) d_Model_meltsIn_8 (by decide) rfl (fun c8_1 => ?_) (fun c8_1 => ?_)
    · exact hk
    · exact absurd (nI_le (by omega) (by omega)) c8_1
  | succ k ih =>
    intro i s hi hk
    unfold l_Model_meltsIn_5 at hk
    rw [show i + (k + 1) = i + 1 + k by omega] at hk
    refine Go.iload_4 d_Model_meltsIn_5 rfl ?_
    refine Go.iload_2 d_Model_meltsIn_7 rfl ?_
    refine Go.icmp_ge (t := 57) d_Model_meltsIn_8 (by decide) rfl (fun c8_1 => ?_) (fun c8_1 => ?_)
    · exact absurd c8_1 (nI_ge (by omega) (by omega))
    · refine Go.iload_3 d_Model_meltsIn_11 rfl ?_
      refine Go.iconst (v := 3) d_Model_meltsIn_12 rfl (by decide) ?_
      refine Go.iconst (v := 0) d_Model_meltsIn_13 rfl (by decide) ?_
      refine Go.aload_0 d_Model_meltsIn_14 rfl ?_
      refine Go.getfield d_Model_meltsIn_15 rfl f_Model_27 (ms_at_m (by omega) hB hS hC hD hE) (by rfl) ?_
      refine Go.getfield d_Model_meltsIn_18 rfl f_Model_430 (ms_at_r (by omega) hB hS hC hD hE) (by rfl) ?_
      refine Go.aload_0 d_Model_meltsIn_21 rfl ?_
      refine Go.getfield d_Model_meltsIn_22 rfl f_Model_27 (ms_at_m (by omega) hB hS hC hD hE) (by rfl) ?_
      refine Go.getfield d_Model_meltsIn_25 rfl f_Model_297 (ms_at_r (by omega) hB hS hC hD hE) (by rfl) ?_
      refine Go.iload_4 d_Model_meltsIn_28 rfl ?_
      refine Go.iadd d_Model_meltsIn_30 rfl ?_
      rw [show (nI (sx_dy Y)) + (nI i) = nI ((sx_dy Y) + i) from nI_add _ _]
      refine Go.bipush (v := 8) d_Model_meltsIn_31 rfl (by decide) ?_
      refine Go.irem d_Model_meltsIn_33 rfl (by decide) ?_
      rw [show nI ((sx_dy Y) + i) - nI ((sx_dy Y) + i) / 8 * 8 = nI (((sx_dy Y) + i) % 8) from nI_rem (by omega)]
      refine Go.iaload d_Model_meltsIn_34 rfl (ms_at_r_1 (by omega) hB hS hC hD hE) (show vp_in (nI (((sx_dy Y) + i) % 8)) 8 from by first | exact vp_in_nI (by omega) (by omega) | exact vp_nle (by assumption) (by omega) (by omega)) ?_
      rw [nI_clamp (show (((sx_dy Y) + i) % 8) < 2 ^ 31 by omega)]
      refine Go.aload_0 d_Model_meltsIn_35 rfl ?_
      refine Go.getfield d_Model_meltsIn_36 rfl f_Model_20 (ms_at_m (by omega) hB hS hC hD hE) (by rfl) ?_
      refine Go.getfield d_Model_meltsIn_39 rfl f_Model_200 (ms_at_q (by omega) hB hS hC hD hE) (by rfl) ?_
      refine Go.iload_1 d_Model_meltsIn_42 rfl ?_
      refine Go.iaload d_Model_meltsIn_43 rfl (ms_at_q_7 (by omega) hB hS hC hD hE) (show vp_in (nI x1) 5 from by first | exact vp_in_nI (by omega) (by omega) | exact vp_nle (by assumption) (by omega) (by omega)) ?_
      rw [nI_clamp (show x1 < 2 ^ 31 by omega)]
      refine Go.isub d_Model_meltsIn_44 rfl ?_
      refine Go.imax d_Model_meltsIn_45 rfl l_Model_318 (by omega) rfl ?_
      refine Go.imul d_Model_meltsIn_48 rfl ?_
      refine Go.iadd d_Model_meltsIn_49 rfl ?_
      refine Go.istore_3 d_Model_meltsIn_50 rfl (by rfl) ?_
      refine Go.iinc_4 d_Model_meltsIn_51 rfl (by rfl) (nI_inc _) ?_
      refine Go.goto (t := 5) d_Model_meltsIn_54 (by decide) ?_
      exact ih (i + 1) _ (by omega) hk
theorem d_Model_meltsIn_0 : decode M_Model_meltsIn.2.1 0 = .ok (.iconst 0, 1) := by decide +kernel
theorem d_Model_meltsIn_1 : decode M_Model_meltsIn.2.1 1 = .ok (.istore_n 3, 1) := by decide +kernel
theorem d_Model_meltsIn_2 : decode M_Model_meltsIn.2.1 2 = .ok (.iconst 0, 1) := by decide +kernel
theorem d_Model_meltsIn_3 : decode M_Model_meltsIn.2.1 3 = .ok (.istore 4, 2) := by decide +kernel
theorem d_Model_meltsIn_57 : decode M_Model_meltsIn.2.1 57 = .ok (.iload_n 3, 1) := by decide +kernel
theorem d_Model_meltsIn_58 : decode M_Model_meltsIn.2.1 58 = .ok (.ireturn, 1) := by decide +kernel
def s_Model_meltsIn (M : MO) (H : SH) (Y : SX) (x1 : Nat) (x2 : Nat) : Int32 := (l_Model_meltsIn_5 M H Y x1 x2 (x2) 0 0)
set_option maxRecDepth 100000 in
set_option maxHeartbeats 800000 in
theorem c_Model_meltsIn {Γ : G9} {h : AH} {m q r sb ro z : Nat} {M : MO} {H : SH} {Y : SX} {x1 : Nat} {vx1 : Int32} {x2 : Nat} {vx2 : Int32} (ex1 : vx1 = nI x1) (bx1 : x1 < 5) (ex2 : vx2 = nI x2) (bx2 : x2 ≤ 60) (geo : m + 2 ≤ q ∧ m + 2 ≤ r ∧ (q + 24 ≤ r ∨ r + 21 ≤ q)) (hB : sh_ha H 0 ≤ 5) (hS : sh_ha H 3 ≤ 6) (hC : sh_ha H 6 ≤ 4) (hD : sh_ha H 9 ≤ 4) (hE : sh_ha H 11 ≤ 4) (hdy : sx_dy Y < 1000000) : CallR Γ M_Model_meltsIn 1 [.ref m, .int vx1, .int vx2] (md_ Γ h m q r r sb ro M H Y) z (some (.int (s_Model_meltsIn M H Y x1 x2))) (md_ Γ h m q r r sb ro M H Y) := by
  subst ex1
  subst ex2
  refine Call.of_go (L := [some (.ref m), some (.int (nI x1)), some (.int (nI x2)), none, none]) (by decide +kernel) rfl (by exact Nat.le_of_ble_eq_true rfl) ?_
  unfold s_Model_meltsIn
  refine Go.iconst (v := 0) d_Model_meltsIn_0 rfl (by decide) ?_
  refine Go.istore_3 d_Model_meltsIn_1 rfl (by rfl) ?_
  refine Go.iconst (v := 0) d_Model_meltsIn_2 rfl (by decide) ?_
  refine Go.istore_4 d_Model_meltsIn_3 rfl (by rfl) ?_
  refine l_Model_meltsIn_5_go (n := (x2)) bx1 bx2 geo hB hS hC hD hE hdy (by omega) rfl (x2) 0 0 (by omega) ?_
  refine Go.iload_3 d_Model_meltsIn_57 rfl ?_
  exact Go.iret d_Model_meltsIn_58 rfl rfl ⟨rfl, rfl, rfl⟩
theorem d_Model_melt_0_0 : decode M_Model_melt_0.2.1 0 = .ok (.aload_n 0, 1) := by decide +kernel
theorem d_Model_melt_0_1 : decode M_Model_melt_0.2.1 1 = .ok (.iconst 0, 1) := by decide +kernel
theorem d_Model_melt_0_2 : decode M_Model_melt_0.2.1 2 = .ok (.putfield 37, 3) := by decide +kernel
theorem d_Model_melt_0_5 : decode M_Model_melt_0.2.1 5 = .ok (.aload_n 0, 1) := by decide +kernel
theorem d_Model_melt_0_6 : decode M_Model_melt_0.2.1 6 = .ok (.iconst 0, 1) := by decide +kernel
theorem d_Model_melt_0_7 : decode M_Model_melt_0.2.1 7 = .ok (.iload_n 1, 1) := by decide +kernel
theorem d_Model_melt_0_8 : decode M_Model_melt_0.2.1 8 = .ok (.invokevirtual 450, 3) := by decide +kernel
theorem d_Model_melt_0_11 : decode M_Model_melt_0.2.1 11 = .ok (.ifCond .ne 9, 3) := by decide +kernel
theorem d_Model_melt_0_14 : decode M_Model_melt_0.2.1 14 = .ok (.aload_n 0, 1) := by decide +kernel
theorem d_Model_melt_0_15 : decode M_Model_melt_0.2.1 15 = .ok (.iconst 1, 1) := by decide +kernel
theorem d_Model_melt_0_16 : decode M_Model_melt_0.2.1 16 = .ok (.invokevirtual 427, 3) := by decide +kernel
theorem d_Model_melt_0_19 : decode M_Model_melt_0.2.1 19 = .ok (.ireturn, 1) := by decide +kernel
theorem d_Model_melt_0_20 : decode M_Model_melt_0.2.1 20 = .ok (.iload_n 2, 1) := by decide +kernel
theorem d_Model_melt_0_21 : decode M_Model_melt_0.2.1 21 = .ok (.iconst 1, 1) := by decide +kernel
theorem d_Model_melt_0_22 : decode M_Model_melt_0.2.1 22 = .ok (.bipush 60, 2) := by decide +kernel
theorem d_Model_melt_0_24 : decode M_Model_melt_0.2.1 24 = .ok (.invokestatic 43, 3) := by decide +kernel
theorem d_Model_melt_0_27 : decode M_Model_melt_0.2.1 27 = .ok (.ifCond .eq 12, 3) := by decide +kernel
theorem d_Model_melt_0_30 : decode M_Model_melt_0.2.1 30 = .ok (.aload_n 0, 1) := by decide +kernel
theorem d_Model_melt_0_31 : decode M_Model_melt_0.2.1 31 = .ok (.iload_n 1, 1) := by decide +kernel
theorem d_Model_melt_0_32 : decode M_Model_melt_0.2.1 32 = .ok (.iload_n 2, 1) := by decide +kernel
theorem d_Model_melt_0_33 : decode M_Model_melt_0.2.1 33 = .ok (.invokevirtual 472, 3) := by decide +kernel
theorem d_Model_melt_0_36 : decode M_Model_melt_0.2.1 36 = .ok (.goto 8, 3) := by decide +kernel
theorem d_Model_melt_0_39 : decode M_Model_melt_0.2.1 39 = .ok (.aload_n 0, 1) := by decide +kernel
theorem d_Model_melt_0_40 : decode M_Model_melt_0.2.1 40 = .ok (.iconst 2, 1) := by decide +kernel
theorem d_Model_melt_0_41 : decode M_Model_melt_0.2.1 41 = .ok (.invokevirtual 427, 3) := by decide +kernel
theorem d_Model_melt_0_44 : decode M_Model_melt_0.2.1 44 = .ok (.ireturn, 1) := by decide +kernel
def s_Model_melt_0 (M : MO) (H : SH) (Y : SX) (x1 : Int32) (x2 : Int32) : Int32 × MO := (if (s_Model_is (mo_th' M 0) H Y 0 x1) = 0 then ((s_Model_no (mo_th' M 0) H Y 1).1, (s_Model_no (mo_th' M 0) H Y 1).2) else (if (s_Model_isIn x2 1 60) = 0 then ((s_Model_no (mo_th' M 0) H Y 2).1, (s_Model_no (mo_th' M 0) H Y 2).2) else ((s_Model_meltsIn (mo_th' M 0) H Y x1.toNatClampNeg x2.toNatClampNeg), (mo_th' M 0))))
set_option maxRecDepth 100000 in
set_option maxHeartbeats 800000 in
theorem c_Model_melt_0 {Γ : G9} {h : AH} {m q r sb ro z : Nat} {M : MO} {H : SH} {Y : SX} {x1 : Int32} {x2 : Int32} (geo : m + 2 ≤ q ∧ m + 2 ≤ r ∧ (q + 24 ≤ r ∨ r + 21 ≤ q)) (hB : sh_ha H 0 ≤ 5) (hS : sh_ha H 3 ≤ 6) (hC : sh_ha H 6 ≤ 4) (hD : sh_ha H 9 ≤ 4) (hE : sh_ha H 11 ≤ 4) (hdy : sx_dy Y < 1000000) : CallR Γ M_Model_melt_0 2 [.ref m, .int x1, .int x2] (md_ Γ h m q r r sb ro M H Y) z (some (.int (s_Model_melt_0 M H Y x1 x2).1)) (md_ Γ h m q r r sb ro (s_Model_melt_0 M H Y x1 x2).2 H Y) := by
  refine Call.of_go (L := [some (.ref m), some (.int x1), some (.int x2)]) (by decide +kernel) rfl (by exact Nat.le_of_ble_eq_true rfl) ?_
  unfold s_Model_melt_0
  refine Go.aload_0 d_Model_melt_0_0 rfl ?_
  refine Go.iconst (v := 0) d_Model_melt_0_1 rfl (by decide) ?_
  refine Go.putfield d_Model_melt_0_2 rfl f_Model_37_p (Or.inl (fun C T N h => by cases h; rfl)) (ms_at_m (by omega) hB hS hC hD hE) (by exact Nat.le_of_ble_eq_true rfl) rfl rfl ?_
  refine Go.heq (ms_put_m_thrown (by omega) hB hS hC hD hE) ?_
  refine Go.aload_0 d_Model_melt_0_5 rfl ?_
  refine Go.iconst (v := 0) d_Model_melt_0_6 rfl (by decide) ?_
  refine Go.iload_1 d_Model_melt_0_7 rfl ?_
  refine Go.cv2r d_Model_melt_0_8 rfl l_Model_450 k_Model_is_v (ms_at_m (by omega) hB hS hC hD hE) rfl (c_Model_is (x1 := 0) rfl (by omega) (by omega) hB hS hC hD hE) (Nat.ble_eq_true_of_le (by omega)) rfl rfl ?_
  refine Go.if_ne (t := 20) d_Model_melt_0_11 (by decide) rfl (fun c11_1 => ?_) (fun c11_1 => ?_)
  · refine Go.iload_2 d_Model_melt_0_20 rfl ?_
    refine Go.iconst (v := 1) d_Model_melt_0_21 rfl (by decide) ?_
    refine Go.bipush (v := 60) d_Model_melt_0_22 rfl (by decide) ?_
    refine Go.cs3r d_Model_melt_0_24 rfl l_Model_43 k_Model_isIn_s rfl (ms_c_Model_isIn_ (by omega) hB hS hC hD hE) (Nat.ble_eq_true_of_le (by omega)) rfl rfl ?_
    refine Go.if_eq (t := 39) d_Model_melt_0_27 (by decide) rfl (fun c27_2 => ?_) (fun c27_2 => ?_)
    · refine Go.aload_0 d_Model_melt_0_39 rfl ?_
      refine Go.iconst (v := 2) d_Model_melt_0_40 rfl (by decide) ?_
      refine Go.cv1r d_Model_melt_0_41 rfl l_Model_427 k_Model_no_v (ms_at_m (by omega) hB hS hC hD hE) rfl (c_Model_no (by omega) hB hS hC hD hE) (Nat.ble_eq_true_of_le (by omega)) rfl rfl ?_
      rw [if_neg c11_1, if_pos c27_2]
      exact Go.iret d_Model_melt_0_44 rfl rfl ⟨rfl, by dsimp only, rfl⟩
    · refine Go.aload_0 d_Model_melt_0_30 rfl ?_
      refine Go.iload_1 d_Model_melt_0_31 rfl ?_
      refine Go.iload_2 d_Model_melt_0_32 rfl ?_
      refine Go.cv2r d_Model_melt_0_33 rfl l_Model_472 k_Model_meltsIn_v (ms_at_m (by omega) hB hS hC hD hE) rfl (c_Model_meltsIn (x1 := x1.toNatClampNeg) (x2 := x2.toNatClampNeg) (nI_back (is_ok c11_1).1) (is_lt c11_1 hB (by decide)) (nI_back (isIn_pos1 c27_2)) (isIn_le (b := 60) c27_2 (by decide)) (by omega) hB hS hC hD hE hdy) (Nat.ble_eq_true_of_le (by omega)) rfl rfl ?_
      refine Go.goto (t := 44) d_Model_melt_0_36 (by decide) ?_
      rw [if_neg c11_1, if_neg c27_2]
      exact Go.iret d_Model_melt_0_44 rfl rfl ⟨rfl, by dsimp only, rfl⟩
  · refine Go.aload_0 d_Model_melt_0_14 rfl ?_
    refine Go.iconst (v := 1) d_Model_melt_0_15 rfl (by decide) ?_
    refine Go.cv1r d_Model_melt_0_16 rfl l_Model_427 k_Model_no_v (ms_at_m (by omega) hB hS hC hD hE) rfl (c_Model_no (by omega) hB hS hC hD hE) (Nat.ble_eq_true_of_le (by omega)) rfl rfl ?_
    rw [if_pos c11_1]
    exact Go.iret d_Model_melt_0_19 rfl rfl ⟨rfl, by dsimp only, rfl⟩
theorem d_Model_counted_141 : decode M_Model_counted.2.1 141 = .ok (.iload 4, 2) := by decide +kernel
theorem d_Model_counted_143 : decode M_Model_counted.2.1 143 = .ok (.aload_n 0, 1) := by decide +kernel
theorem d_Model_counted_144 : decode M_Model_counted.2.1 144 = .ok (.getfield 20, 3) := by decide +kernel
theorem d_Model_counted_147 : decode M_Model_counted.2.1 147 = .ok (.getfield 40, 3) := by decide +kernel
theorem d_Model_counted_150 : decode M_Model_counted.2.1 150 = .ok (.bipush 9, 2) := by decide +kernel
theorem d_Model_counted_152 : decode M_Model_counted.2.1 152 = .ok (.iaload, 1) := by decide +kernel
theorem d_Model_counted_153 : decode M_Model_counted.2.1 153 = .ok (.if_icmp .ge 19, 3) := by decide +kernel
theorem d_Model_counted_156 : decode M_Model_counted.2.1 156 = .ok (.iload_n 3, 1) := by decide +kernel
theorem d_Model_counted_157 : decode M_Model_counted.2.1 157 = .ok (.aload_n 1, 1) := by decide +kernel
theorem d_Model_counted_158 : decode M_Model_counted.2.1 158 = .ok (.getfield 308, 3) := by decide +kernel
theorem d_Model_counted_161 : decode M_Model_counted.2.1 161 = .ok (.iload 4, 2) := by decide +kernel
theorem d_Model_counted_163 : decode M_Model_counted.2.1 163 = .ok (.iaload, 1) := by decide +kernel
theorem d_Model_counted_164 : decode M_Model_counted.2.1 164 = .ok (.iadd, 1) := by decide +kernel
theorem d_Model_counted_165 : decode M_Model_counted.2.1 165 = .ok (.istore_n 3, 1) := by decide +kernel
theorem d_Model_counted_166 : decode M_Model_counted.2.1 166 = .ok (.iinc 4 1, 3) := by decide +kernel
theorem d_Model_counted_169 : decode M_Model_counted.2.1 169 = .ok (.goto (-28), 3) := by decide +kernel
def l_Model_counted_141 (M : MO) (H : SH) (Y : SX) (x2 : Int32) : Nat → Nat → Int32 → Int32
  | 0, _, s => s
  | k + 1, i, s => (l_Model_counted_141 M H Y x2 k (i + 1) (s + ((sx_fo Y) i)))
set_option maxRecDepth 100000 in
set_option maxHeartbeats 800000 in
theorem l_Model_counted_141_go {Γ : G9} {h : AH} {m q r sa sb ro z : Nat} {n : Nat} {Q : QT} {X : XT} {M : MO} {H : SH} {Y : SX} {x2 : Int32} (geo : m + 2 ≤ q ∧ m + 2 ≤ r ∧ (q + 24 ≤ r ∨ r + 21 ≤ q)) (hB : sh_ha H 0 ≤ 5) (hS : sh_ha H 3 ≤ 6) (hC : sh_ha H 6 ≤ 4) (hD : sh_ha H 9 ≤ 4) (hE : sh_ha H 11 ≤ 4) (hdy : sx_dy Y < 1000000) (hn20 : n ≤ 20) (hn : sh_ha H 9 = n) : ∀ (k i : Nat) (s : Int32), i + k = n → Go Γ M_Model_counted 1 0 0 172 [some (.ref m), some (.ref r), some (.int x2), some (.int (l_Model_counted_141 M H Y x2 k i s)), some (.int (nI (i + k)))] [] (md_ Γ h m q r sa sb ro M H Y) z Q X → Go Γ M_Model_counted 1 0 0 141 [some (.ref m), some (.ref r), some (.int x2), some (.int s), some (.int (nI i))] [] (md_ Γ h m q r sa sb ro M H Y) z Q X := by
  intro k
  induction k with
  | zero =>
    intro i s hi hk
    refine Go.iload_4 d_Model_counted_141 rfl ?_
    refine Go.aload_0 d_Model_counted_143 rfl ?_
    refine Go.getfield d_Model_counted_144 rfl f_Model_20 (md_at_m (by omega) hB hS hC hD hE) (by rfl) ?_
    refine Go.getfield d_Model_counted_147 rfl f_Model_40 (md_at_q (by omega) hB hS hC hD hE) (by rfl) ?_
    refine Go.bipush (v := 9) d_Model_counted_150 rfl (by decide) ?_
    refine Go.iaload d_Model_counted_152 rfl (md_at_q_5 (by omega) hB hS hC hD hE) (show vp_in (nI 9) 12 from by first | exact vp_in_nI (by omega) (by omega) | exact vp_nle (by assumption) (by omega) (by omega)) ?_
    rw [show (9 : Int32).toNatClampNeg = 9 from by decide]
    refine Go.icmp_ge (t := 172) d_Model_counted_153 (by decide) rfl (fun c153_1 => ?_) (fun c153_1 => ?_)
    · exact hk
    · exact absurd (nI_le (by omega) (by omega)) c153_1
  | succ k ih =>
    intro i s hi hk
    unfold l_Model_counted_141 at hk
    rw [show i + (k + 1) = i + 1 + k by omega] at hk
    refine Go.iload_4 d_Model_counted_141 rfl ?_
    refine Go.aload_0 d_Model_counted_143 rfl ?_
    refine Go.getfield d_Model_counted_144 rfl f_Model_20 (md_at_m (by omega) hB hS hC hD hE) (by rfl) ?_
    refine Go.getfield d_Model_counted_147 rfl f_Model_40 (md_at_q (by omega) hB hS hC hD hE) (by rfl) ?_
    refine Go.bipush (v := 9) d_Model_counted_150 rfl (by decide) ?_
    refine Go.iaload d_Model_counted_152 rfl (md_at_q_5 (by omega) hB hS hC hD hE) (show vp_in (nI 9) 12 from by first | exact vp_in_nI (by omega) (by omega) | exact vp_nle (by assumption) (by omega) (by omega)) ?_
    rw [show (9 : Int32).toNatClampNeg = 9 from by decide]
    refine Go.icmp_ge (t := 172) d_Model_counted_153 (by decide) rfl (fun c153_1 => ?_) (fun c153_1 => ?_)
    · exact absurd c153_1 (nI_ge (by omega) (by omega))
    · refine Go.iload_3 d_Model_counted_156 rfl ?_
      refine Go.aload_1 d_Model_counted_157 rfl ?_
      refine Go.getfield d_Model_counted_158 rfl f_Model_308 (md_at_r (by omega) hB hS hC hD hE) (by rfl) ?_
      refine Go.iload_4 d_Model_counted_161 rfl ?_
      refine Go.iaload d_Model_counted_163 rfl (md_at_r_13 (by omega) hB hS hC hD hE) (show vp_in (nI i) 4 from by first | exact vp_in_nI (by omega) (by omega) | exact vp_nle (by assumption) (by omega) (by omega)) ?_
      rw [nI_clamp (show i < 2 ^ 31 by omega)]
      refine Go.iadd d_Model_counted_164 rfl ?_
      refine Go.istore_3 d_Model_counted_165 rfl (by rfl) ?_
      refine Go.iinc_4 d_Model_counted_166 rfl (by rfl) (nI_inc _) ?_
      refine Go.goto (t := 141) d_Model_counted_169 (by decide) ?_
      exact ih (i + 1) _ (by omega) hk
theorem d_Model_counted_177 : decode M_Model_counted.2.1 177 = .ok (.iload 4, 2) := by decide +kernel
theorem d_Model_counted_179 : decode M_Model_counted.2.1 179 = .ok (.aload_n 0, 1) := by decide +kernel
theorem d_Model_counted_180 : decode M_Model_counted.2.1 180 = .ok (.getfield 20, 3) := by decide +kernel
theorem d_Model_counted_183 : decode M_Model_counted.2.1 183 = .ok (.getfield 40, 3) := by decide +kernel
theorem d_Model_counted_186 : decode M_Model_counted.2.1 186 = .ok (.iconst 0, 1) := by decide +kernel
theorem d_Model_counted_187 : decode M_Model_counted.2.1 187 = .ok (.iaload, 1) := by decide +kernel
theorem d_Model_counted_188 : decode M_Model_counted.2.1 188 = .ok (.if_icmp .ge 19, 3) := by decide +kernel
theorem d_Model_counted_191 : decode M_Model_counted.2.1 191 = .ok (.iload_n 3, 1) := by decide +kernel
theorem d_Model_counted_192 : decode M_Model_counted.2.1 192 = .ok (.aload_n 1, 1) := by decide +kernel
theorem d_Model_counted_193 : decode M_Model_counted.2.1 193 = .ok (.getfield 388, 3) := by decide +kernel
theorem d_Model_counted_196 : decode M_Model_counted.2.1 196 = .ok (.iload 4, 2) := by decide +kernel
theorem d_Model_counted_198 : decode M_Model_counted.2.1 198 = .ok (.iaload, 1) := by decide +kernel
theorem d_Model_counted_199 : decode M_Model_counted.2.1 199 = .ok (.iadd, 1) := by decide +kernel
theorem d_Model_counted_200 : decode M_Model_counted.2.1 200 = .ok (.istore_n 3, 1) := by decide +kernel
theorem d_Model_counted_201 : decode M_Model_counted.2.1 201 = .ok (.iinc 4 1, 3) := by decide +kernel
theorem d_Model_counted_204 : decode M_Model_counted.2.1 204 = .ok (.goto (-27), 3) := by decide +kernel
def l_Model_counted_177 (M : MO) (H : SH) (Y : SX) (x2 : Int32) : Nat → Nat → Int32 → Int32
  | 0, _, s => s
  | k + 1, i, s => (l_Model_counted_177 M H Y x2 k (i + 1) (s + ((sx_ic Y) i)))
set_option maxRecDepth 100000 in
set_option maxHeartbeats 800000 in
theorem l_Model_counted_177_go {Γ : G9} {h : AH} {m q r sa sb ro z : Nat} {n : Nat} {Q : QT} {X : XT} {M : MO} {H : SH} {Y : SX} {x2 : Int32} (geo : m + 2 ≤ q ∧ m + 2 ≤ r ∧ (q + 24 ≤ r ∨ r + 21 ≤ q)) (hB : sh_ha H 0 ≤ 5) (hS : sh_ha H 3 ≤ 6) (hC : sh_ha H 6 ≤ 4) (hD : sh_ha H 9 ≤ 4) (hE : sh_ha H 11 ≤ 4) (hdy : sx_dy Y < 1000000) (hn20 : n ≤ 20) (hn : sh_ha H 0 = n) : ∀ (k i : Nat) (s : Int32), i + k = n → Go Γ M_Model_counted 1 0 0 207 [some (.ref m), some (.ref r), some (.int x2), some (.int (l_Model_counted_177 M H Y x2 k i s)), some (.int (nI (i + k)))] [] (md_ Γ h m q r sa sb ro M H Y) z Q X → Go Γ M_Model_counted 1 0 0 177 [some (.ref m), some (.ref r), some (.int x2), some (.int s), some (.int (nI i))] [] (md_ Γ h m q r sa sb ro M H Y) z Q X := by
  intro k
  induction k with
  | zero =>
    intro i s hi hk
    refine Go.iload_4 d_Model_counted_177 rfl ?_
    refine Go.aload_0 d_Model_counted_179 rfl ?_
    refine Go.getfield d_Model_counted_180 rfl f_Model_20 (md_at_m (by omega) hB hS hC hD hE) (by rfl) ?_
    refine Go.getfield d_Model_counted_183 rfl f_Model_40 (md_at_q (by omega) hB hS hC hD hE) (by rfl) ?_
    refine Go.iconst (v := 0) d_Model_counted_186 rfl (by decide) ?_
    refine Go.iaload d_Model_counted_187 rfl (md_at_q_5 (by omega) hB hS hC hD hE) (show vp_in (nI 0) 12 from by first | exact vp_in_nI (by omega) (by omega) | exact vp_nle (by assumption) (by omega) (by omega)) ?_
    rw [show (0 : Int32).toNatClampNeg = 0 from by decide]
    refine Go.icmp_ge (t := 207) d_Model_counted_188 (by decide) rfl (fun c188_1 => ?_) (fun c188_1 => ?_)
    · exact hk
    · exact absurd (nI_le (by omega) (by omega)) c188_1
  | succ k ih =>
    intro i s hi hk
    unfold l_Model_counted_177 at hk
    rw [show i + (k + 1) = i + 1 + k by omega] at hk
    refine Go.iload_4 d_Model_counted_177 rfl ?_
    refine Go.aload_0 d_Model_counted_179 rfl ?_
    refine Go.getfield d_Model_counted_180 rfl f_Model_20 (md_at_m (by omega) hB hS hC hD hE) (by rfl) ?_
    refine Go.getfield d_Model_counted_183 rfl f_Model_40 (md_at_q (by omega) hB hS hC hD hE) (by rfl) ?_
    refine Go.iconst (v := 0) d_Model_counted_186 rfl (by decide) ?_
    refine Go.iaload d_Model_counted_187 rfl (md_at_q_5 (by omega) hB hS hC hD hE) (show vp_in (nI 0) 12 from by first | exact vp_in_nI (by omega) (by omega) | exact vp_nle (by assumption) (by omega) (by omega)) ?_
    rw [show (0 : Int32).toNatClampNeg = 0 from by decide]
    refine Go.icmp_ge (t := 207) d_Model_counted_188 (by decide) rfl (fun c188_1 => ?_) (fun c188_1 => ?_)
    · exact absurd c188_1 (nI_ge (by omega) (by omega))
    · refine Go.iload_3 d_Model_counted_191 rfl ?_
      refine Go.aload_1 d_Model_counted_192 rfl ?_
      refine Go.getfield d_Model_counted_193 rfl f_Model_388 (md_at_r (by omega) hB hS hC hD hE) (by rfl) ?_
      refine Go.iload_4 d_Model_counted_196 rfl ?_
      refine Go.iaload d_Model_counted_198 rfl (md_at_r_3 (by omega) hB hS hC hD hE) (show vp_in (nI i) 5 from by first | exact vp_in_nI (by omega) (by omega) | exact vp_nle (by assumption) (by omega) (by omega)) ?_
      rw [nI_clamp (show i < 2 ^ 31 by omega)]
      refine Go.iadd d_Model_counted_199 rfl ?_
      refine Go.istore_3 d_Model_counted_200 rfl (by rfl) ?_
      refine Go.iinc_4 d_Model_counted_201 rfl (by rfl) (nI_inc _) ?_
      refine Go.goto (t := 177) d_Model_counted_204 (by decide) ?_
      exact ih (i + 1) _ (by omega) hk
theorem d_Model_counted_227 : decode M_Model_counted.2.1 227 = .ok (.iload 4, 2) := by decide +kernel
theorem d_Model_counted_229 : decode M_Model_counted.2.1 229 = .ok (.aload_n 0, 1) := by decide +kernel
theorem d_Model_counted_230 : decode M_Model_counted.2.1 230 = .ok (.getfield 20, 3) := by decide +kernel
theorem d_Model_counted_233 : decode M_Model_counted.2.1 233 = .ok (.getfield 40, 3) := by decide +kernel
theorem d_Model_counted_236 : decode M_Model_counted.2.1 236 = .ok (.bipush 11, 2) := by decide +kernel
theorem d_Model_counted_238 : decode M_Model_counted.2.1 238 = .ok (.iaload, 1) := by decide +kernel
theorem d_Model_counted_239 : decode M_Model_counted.2.1 239 = .ok (.if_icmp .ge 21, 3) := by decide +kernel
theorem d_Model_counted_242 : decode M_Model_counted.2.1 242 = .ok (.iload_n 3, 1) := by decide +kernel
theorem d_Model_counted_243 : decode M_Model_counted.2.1 243 = .ok (.iconst 1, 1) := by decide +kernel
theorem d_Model_counted_244 : decode M_Model_counted.2.1 244 = .ok (.aload_n 1, 1) := by decide +kernel
theorem d_Model_counted_245 : decode M_Model_counted.2.1 245 = .ok (.getfield 283, 3) := by decide +kernel
theorem d_Model_counted_248 : decode M_Model_counted.2.1 248 = .ok (.iload 4, 2) := by decide +kernel
theorem d_Model_counted_250 : decode M_Model_counted.2.1 250 = .ok (.iaload, 1) := by decide +kernel
theorem d_Model_counted_251 : decode M_Model_counted.2.1 251 = .ok (.isub, 1) := by decide +kernel
theorem d_Model_counted_252 : decode M_Model_counted.2.1 252 = .ok (.iadd, 1) := by decide +kernel
theorem d_Model_counted_253 : decode M_Model_counted.2.1 253 = .ok (.istore_n 3, 1) := by decide +kernel
theorem d_Model_counted_254 : decode M_Model_counted.2.1 254 = .ok (.iinc 4 1, 3) := by decide +kernel
theorem d_Model_counted_257 : decode M_Model_counted.2.1 257 = .ok (.goto (-30), 3) := by decide +kernel
def l_Model_counted_227 (M : MO) (H : SH) (Y : SX) (x2 : Int32) : Nat → Nat → Int32 → Int32
  | 0, _, s => s
  | k + 1, i, s => (l_Model_counted_227 M H Y x2 k (i + 1) (s + (1 - ((sx_he Y) i))))
set_option maxRecDepth 100000 in
set_option maxHeartbeats 800000 in
theorem l_Model_counted_227_go {Γ : G9} {h : AH} {m q r sa sb ro z : Nat} {n : Nat} {Q : QT} {X : XT} {M : MO} {H : SH} {Y : SX} {x2 : Int32} (geo : m + 2 ≤ q ∧ m + 2 ≤ r ∧ (q + 24 ≤ r ∨ r + 21 ≤ q)) (hB : sh_ha H 0 ≤ 5) (hS : sh_ha H 3 ≤ 6) (hC : sh_ha H 6 ≤ 4) (hD : sh_ha H 9 ≤ 4) (hE : sh_ha H 11 ≤ 4) (hdy : sx_dy Y < 1000000) (hn20 : n ≤ 20) (hn : sh_ha H 11 = n) : ∀ (k i : Nat) (s : Int32), i + k = n → Go Γ M_Model_counted 1 0 0 260 [some (.ref m), some (.ref r), some (.int x2), some (.int (l_Model_counted_227 M H Y x2 k i s)), some (.int (nI (i + k)))] [] (md_ Γ h m q r sa sb ro M H Y) z Q X → Go Γ M_Model_counted 1 0 0 227 [some (.ref m), some (.ref r), some (.int x2), some (.int s), some (.int (nI i))] [] (md_ Γ h m q r sa sb ro M H Y) z Q X := by
  intro k
  induction k with
  | zero =>
    intro i s hi hk
    refine Go.iload_4 d_Model_counted_227 rfl ?_
    refine Go.aload_0 d_Model_counted_229 rfl ?_
    refine Go.getfield d_Model_counted_230 rfl f_Model_20 (md_at_m (by omega) hB hS hC hD hE) (by rfl) ?_
    refine Go.getfield d_Model_counted_233 rfl f_Model_40 (md_at_q (by omega) hB hS hC hD hE) (by rfl) ?_
    refine Go.bipush (v := 11) d_Model_counted_236 rfl (by decide) ?_
    refine Go.iaload d_Model_counted_238 rfl (md_at_q_5 (by omega) hB hS hC hD hE) (show vp_in (nI 11) 12 from by first | exact vp_in_nI (by omega) (by omega) | exact vp_nle (by assumption) (by omega) (by omega)) ?_
    rw [show (11 : Int32).toNatClampNeg = 11 from by decide]
    refine Go.icmp_ge (t := 260) d_Model_counted_239 (by decide) rfl (fun c239_1 => ?_) (fun c239_1 => ?_)
    · exact hk
    · exact absurd (nI_le (by omega) (by omega)) c239_1
  | succ k ih =>
    intro i s hi hk
    unfold l_Model_counted_227 at hk
    rw [show i + (k + 1) = i + 1 + k by omega] at hk
    refine Go.iload_4 d_Model_counted_227 rfl ?_
    refine Go.aload_0 d_Model_counted_229 rfl ?_
    refine Go.getfield d_Model_counted_230 rfl f_Model_20 (md_at_m (by omega) hB hS hC hD hE) (by rfl) ?_
    refine Go.getfield d_Model_counted_233 rfl f_Model_40 (md_at_q (by omega) hB hS hC hD hE) (by rfl) ?_
    refine Go.bipush (v := 11) d_Model_counted_236 rfl (by decide) ?_
    refine Go.iaload d_Model_counted_238 rfl (md_at_q_5 (by omega) hB hS hC hD hE) (show vp_in (nI 11) 12 from by first | exact vp_in_nI (by omega) (by omega) | exact vp_nle (by assumption) (by omega) (by omega)) ?_
    rw [show (11 : Int32).toNatClampNeg = 11 from by decide]
    refine Go.icmp_ge (t := 260) d_Model_counted_239 (by decide) rfl (fun c239_1 => ?_) (fun c239_1 => ?_)
    · exact absurd c239_1 (nI_ge (by omega) (by omega))
    · refine Go.iload_3 d_Model_counted_242 rfl ?_
      refine Go.iconst (v := 1) d_Model_counted_243 rfl (by decide) ?_
      refine Go.aload_1 d_Model_counted_244 rfl ?_
      refine Go.getfield d_Model_counted_245 rfl f_Model_283 (md_at_r (by omega) hB hS hC hD hE) (by rfl) ?_
      refine Go.iload_4 d_Model_counted_248 rfl ?_
      refine Go.iaload d_Model_counted_250 rfl (md_at_r_17 (by omega) hB hS hC hD hE) (show vp_in (nI i) 4 from by first | exact vp_in_nI (by omega) (by omega) | exact vp_nle (by assumption) (by omega) (by omega)) ?_
      rw [nI_clamp (show i < 2 ^ 31 by omega)]
      refine Go.isub d_Model_counted_251 rfl ?_
      refine Go.iadd d_Model_counted_252 rfl ?_
      refine Go.istore_3 d_Model_counted_253 rfl (by rfl) ?_
      refine Go.iinc_4 d_Model_counted_254 rfl (by rfl) (nI_inc _) ?_
      refine Go.goto (t := 227) d_Model_counted_257 (by decide) ?_
      exact ih (i + 1) _ (by omega) hk
theorem md_c_State_warmth_r {Γ : G9} {h : AH} {m q r sa sb ro z : Nat} {M : MO} {H : SH} {Y : SX} (geo : m + 2 ≤ q ∧ m + 2 ≤ r ∧ (q + 24 ≤ r ∨ r + 21 ≤ q)) (hB : sh_ha H 0 ≤ 5) (hS : sh_ha H 3 ≤ 6) (hC : sh_ha H 6 ≤ 4) (hD : sh_ha H 9 ≤ 4) (hE : sh_ha H 11 ≤ 4) (hdy : sx_dy Y < 1000000) : CallR Γ M_State_warmth 0 [.ref r] (md_ Γ h m q r sa sb ro M H Y) z (some (.int (s_State_warmth Y))) (md_ Γ h m q r sa sb ro M H Y) := by
  unfold md_
  exact CallR.conv rfl rfl (c_State_warmth hdy)
theorem d_Model_counted_0 : decode M_Model_counted.2.1 0 = .ok (.iconst 0, 1) := by decide +kernel
theorem d_Model_counted_1 : decode M_Model_counted.2.1 1 = .ok (.istore_n 3, 1) := by decide +kernel
theorem d_Model_counted_2 : decode M_Model_counted.2.1 2 = .ok (.iload_n 2, 1) := by decide +kernel
theorem d_Model_counted_3 : decode M_Model_counted.2.1 3 = .ok (.tableswitch 264 0 13 #[69, 74, 84, 94, 105, 116, 127, 135, 171, 206, 211, 216, 221, 259], 69) := by decide +kernel
theorem d_Model_counted_72 : decode M_Model_counted.2.1 72 = .ok (.aload_n 1, 1) := by decide +kernel
theorem d_Model_counted_73 : decode M_Model_counted.2.1 73 = .ok (.getfield 297, 3) := by decide +kernel
theorem d_Model_counted_76 : decode M_Model_counted.2.1 76 = .ok (.ireturn, 1) := by decide +kernel
theorem d_Model_counted_77 : decode M_Model_counted.2.1 77 = .ok (.aload_n 0, 1) := by decide +kernel
theorem d_Model_counted_78 : decode M_Model_counted.2.1 78 = .ok (.getfield 20, 3) := by decide +kernel
theorem d_Model_counted_81 : decode M_Model_counted.2.1 81 = .ok (.getfield 40, 3) := by decide +kernel
theorem d_Model_counted_84 : decode M_Model_counted.2.1 84 = .ok (.iconst 0, 1) := by decide +kernel
theorem d_Model_counted_85 : decode M_Model_counted.2.1 85 = .ok (.iaload, 1) := by decide +kernel
theorem d_Model_counted_86 : decode M_Model_counted.2.1 86 = .ok (.ireturn, 1) := by decide +kernel
theorem d_Model_counted_87 : decode M_Model_counted.2.1 87 = .ok (.aload_n 0, 1) := by decide +kernel
theorem d_Model_counted_88 : decode M_Model_counted.2.1 88 = .ok (.getfield 20, 3) := by decide +kernel
theorem d_Model_counted_91 : decode M_Model_counted.2.1 91 = .ok (.getfield 40, 3) := by decide +kernel
theorem d_Model_counted_94 : decode M_Model_counted.2.1 94 = .ok (.iconst 3, 1) := by decide +kernel
theorem d_Model_counted_95 : decode M_Model_counted.2.1 95 = .ok (.iaload, 1) := by decide +kernel
theorem d_Model_counted_96 : decode M_Model_counted.2.1 96 = .ok (.ireturn, 1) := by decide +kernel
theorem d_Model_counted_97 : decode M_Model_counted.2.1 97 = .ok (.aload_n 0, 1) := by decide +kernel
theorem d_Model_counted_98 : decode M_Model_counted.2.1 98 = .ok (.getfield 20, 3) := by decide +kernel
theorem d_Model_counted_101 : decode M_Model_counted.2.1 101 = .ok (.getfield 40, 3) := by decide +kernel
theorem d_Model_counted_104 : decode M_Model_counted.2.1 104 = .ok (.bipush 6, 2) := by decide +kernel
theorem d_Model_counted_106 : decode M_Model_counted.2.1 106 = .ok (.iaload, 1) := by decide +kernel
theorem d_Model_counted_107 : decode M_Model_counted.2.1 107 = .ok (.ireturn, 1) := by decide +kernel
theorem d_Model_counted_108 : decode M_Model_counted.2.1 108 = .ok (.aload_n 0, 1) := by decide +kernel
theorem d_Model_counted_109 : decode M_Model_counted.2.1 109 = .ok (.getfield 20, 3) := by decide +kernel
theorem d_Model_counted_112 : decode M_Model_counted.2.1 112 = .ok (.getfield 40, 3) := by decide +kernel
theorem d_Model_counted_115 : decode M_Model_counted.2.1 115 = .ok (.bipush 9, 2) := by decide +kernel
theorem d_Model_counted_117 : decode M_Model_counted.2.1 117 = .ok (.iaload, 1) := by decide +kernel
theorem d_Model_counted_118 : decode M_Model_counted.2.1 118 = .ok (.ireturn, 1) := by decide +kernel
theorem d_Model_counted_119 : decode M_Model_counted.2.1 119 = .ok (.aload_n 0, 1) := by decide +kernel
theorem d_Model_counted_120 : decode M_Model_counted.2.1 120 = .ok (.getfield 20, 3) := by decide +kernel
theorem d_Model_counted_123 : decode M_Model_counted.2.1 123 = .ok (.getfield 40, 3) := by decide +kernel
theorem d_Model_counted_126 : decode M_Model_counted.2.1 126 = .ok (.bipush 11, 2) := by decide +kernel
theorem d_Model_counted_128 : decode M_Model_counted.2.1 128 = .ok (.iaload, 1) := by decide +kernel
theorem d_Model_counted_129 : decode M_Model_counted.2.1 129 = .ok (.ireturn, 1) := by decide +kernel
theorem d_Model_counted_130 : decode M_Model_counted.2.1 130 = .ok (.aload_n 0, 1) := by decide +kernel
theorem d_Model_counted_131 : decode M_Model_counted.2.1 131 = .ok (.getfield 20, 3) := by decide +kernel
theorem d_Model_counted_134 : decode M_Model_counted.2.1 134 = .ok (.getfield 172, 3) := by decide +kernel
theorem d_Model_counted_137 : decode M_Model_counted.2.1 137 = .ok (.ireturn, 1) := by decide +kernel
theorem d_Model_counted_138 : decode M_Model_counted.2.1 138 = .ok (.iconst 0, 1) := by decide +kernel
theorem d_Model_counted_139 : decode M_Model_counted.2.1 139 = .ok (.istore 4, 2) := by decide +kernel
theorem d_Model_counted_172 : decode M_Model_counted.2.1 172 = .ok (.iload_n 3, 1) := by decide +kernel
theorem d_Model_counted_173 : decode M_Model_counted.2.1 173 = .ok (.ireturn, 1) := by decide +kernel
theorem d_Model_counted_174 : decode M_Model_counted.2.1 174 = .ok (.iconst 0, 1) := by decide +kernel
theorem d_Model_counted_175 : decode M_Model_counted.2.1 175 = .ok (.istore 4, 2) := by decide +kernel
theorem d_Model_counted_207 : decode M_Model_counted.2.1 207 = .ok (.iload_n 3, 1) := by decide +kernel
theorem d_Model_counted_208 : decode M_Model_counted.2.1 208 = .ok (.ireturn, 1) := by decide +kernel
theorem d_Model_counted_209 : decode M_Model_counted.2.1 209 = .ok (.aload_n 1, 1) := by decide +kernel
theorem d_Model_counted_210 : decode M_Model_counted.2.1 210 = .ok (.getfield 403, 3) := by decide +kernel
theorem d_Model_counted_213 : decode M_Model_counted.2.1 213 = .ok (.ireturn, 1) := by decide +kernel
theorem d_Model_counted_214 : decode M_Model_counted.2.1 214 = .ok (.aload_n 1, 1) := by decide +kernel
theorem d_Model_counted_215 : decode M_Model_counted.2.1 215 = .ok (.getfield 338, 3) := by decide +kernel
theorem d_Model_counted_218 : decode M_Model_counted.2.1 218 = .ok (.ireturn, 1) := by decide +kernel
theorem d_Model_counted_219 : decode M_Model_counted.2.1 219 = .ok (.aload_n 1, 1) := by decide +kernel
theorem d_Model_counted_220 : decode M_Model_counted.2.1 220 = .ok (.getfield 406, 3) := by decide +kernel
theorem d_Model_counted_223 : decode M_Model_counted.2.1 223 = .ok (.ireturn, 1) := by decide +kernel
theorem d_Model_counted_224 : decode M_Model_counted.2.1 224 = .ok (.iconst 0, 1) := by decide +kernel
theorem d_Model_counted_225 : decode M_Model_counted.2.1 225 = .ok (.istore 4, 2) := by decide +kernel
theorem d_Model_counted_260 : decode M_Model_counted.2.1 260 = .ok (.iload_n 3, 1) := by decide +kernel
theorem d_Model_counted_261 : decode M_Model_counted.2.1 261 = .ok (.ireturn, 1) := by decide +kernel
theorem d_Model_counted_262 : decode M_Model_counted.2.1 262 = .ok (.aload_n 1, 1) := by decide +kernel
theorem d_Model_counted_263 : decode M_Model_counted.2.1 263 = .ok (.invokevirtual 300, 3) := by decide +kernel
theorem d_Model_counted_266 : decode M_Model_counted.2.1 266 = .ok (.ireturn, 1) := by decide +kernel
theorem d_Model_counted_267 : decode M_Model_counted.2.1 267 = .ok (.aload_n 0, 1) := by decide +kernel
theorem d_Model_counted_268 : decode M_Model_counted.2.1 268 = .ok (.getfield 47, 3) := by decide +kernel
theorem d_Model_counted_271 : decode M_Model_counted.2.1 271 = .ok (.ireturn, 1) := by decide +kernel
def s_Model_counted (M : MO) (H : SH) (Y : SX) (x2 : Int32) : Int32 := (if x2 = 0 then (nI (sx_dy Y)) else (if x2 = 1 then (nI ((sh_ha H) 0)) else (if x2 = 2 then (nI ((sh_ha H) 3)) else (if x2 = 3 then (nI ((sh_ha H) 6)) else (if x2 = 4 then (nI ((sh_ha H) 9)) else (if x2 = 5 then (nI ((sh_ha H) 11)) else (if x2 = 6 then (nI (sh_or H)) else (if x2 = 7 then (l_Model_counted_141 M H Y x2 (sh_ha H 9) 0 0) else (if x2 = 8 then (l_Model_counted_177 M H Y x2 (sh_ha H 0) 0 0) else (if x2 = 9 then (sx_rd Y) else (if x2 = 10 then (sx_fa Y) else (if x2 = 11 then (sx_ca Y) else (if x2 = 12 then (l_Model_counted_227 M H Y x2 (sh_ha H 11) 0 0) else (if x2 = 13 then (s_State_warmth Y) else (nI (mo_sz M))))))))))))))))
set_option maxRecDepth 100000 in
set_option maxHeartbeats 800000 in
theorem c_Model_counted {Γ : G9} {h : AH} {m q r sa sb ro z : Nat} {M : MO} {H : SH} {Y : SX} {x2 : Int32} (geo : m + 2 ≤ q ∧ m + 2 ≤ r ∧ (q + 24 ≤ r ∨ r + 21 ≤ q)) (hB : sh_ha H 0 ≤ 5) (hS : sh_ha H 3 ≤ 6) (hC : sh_ha H 6 ≤ 4) (hD : sh_ha H 9 ≤ 4) (hE : sh_ha H 11 ≤ 4) (hdy : sx_dy Y < 1000000) : CallR Γ M_Model_counted 1 [.ref m, .ref r, .int x2] (md_ Γ h m q r sa sb ro M H Y) z (some (.int (s_Model_counted M H Y x2))) (md_ Γ h m q r sa sb ro M H Y) := by
  refine Call.of_go (L := [some (.ref m), some (.ref r), some (.int x2), none, none]) (by decide +kernel) rfl (by exact Nat.le_of_ble_eq_true rfl) ?_
  unfold s_Model_counted
  refine Go.iconst (v := 0) d_Model_counted_0 rfl (by decide) ?_
  refine Go.istore_3 d_Model_counted_1 rfl (by rfl) ?_
  refine Go.iload_2 d_Model_counted_2 rfl ?_
  by_cases w3_1 : x2 = 0
  · refine Go.tsw (t := 72) d_Model_counted_3 (by rw [w3_1]; rfl) ?_
    refine Go.aload_1 d_Model_counted_72 rfl ?_
    refine Go.getfield d_Model_counted_73 rfl f_Model_297 (md_at_r (by omega) hB hS hC hD hE) (by rfl) ?_
    rw [if_pos w3_1]
    exact Go.iret d_Model_counted_76 rfl rfl ⟨rfl, rfl, rfl⟩
  by_cases w3_2 : x2 = 1
  · refine Go.tsw (t := 77) d_Model_counted_3 (by rw [w3_2]; rfl) ?_
    refine Go.aload_0 d_Model_counted_77 rfl ?_
    refine Go.getfield d_Model_counted_78 rfl f_Model_20 (md_at_m (by omega) hB hS hC hD hE) (by rfl) ?_
    refine Go.getfield d_Model_counted_81 rfl f_Model_40 (md_at_q (by omega) hB hS hC hD hE) (by rfl) ?_
    refine Go.iconst (v := 0) d_Model_counted_84 rfl (by decide) ?_
    refine Go.iaload d_Model_counted_85 rfl (md_at_q_5 (by omega) hB hS hC hD hE) (show vp_in (nI 0) 12 from by first | exact vp_in_nI (by omega) (by omega) | exact vp_nle (by assumption) (by omega) (by omega)) ?_
    rw [show (0 : Int32).toNatClampNeg = 0 from by decide]
    rw [if_neg w3_1, if_pos w3_2]
    exact Go.iret d_Model_counted_86 rfl rfl ⟨rfl, rfl, rfl⟩
  by_cases w3_3 : x2 = 2
  · refine Go.tsw (t := 87) d_Model_counted_3 (by rw [w3_3]; rfl) ?_
    refine Go.aload_0 d_Model_counted_87 rfl ?_
    refine Go.getfield d_Model_counted_88 rfl f_Model_20 (md_at_m (by omega) hB hS hC hD hE) (by rfl) ?_
    refine Go.getfield d_Model_counted_91 rfl f_Model_40 (md_at_q (by omega) hB hS hC hD hE) (by rfl) ?_
    refine Go.iconst (v := 3) d_Model_counted_94 rfl (by decide) ?_
    refine Go.iaload d_Model_counted_95 rfl (md_at_q_5 (by omega) hB hS hC hD hE) (show vp_in (nI 3) 12 from by first | exact vp_in_nI (by omega) (by omega) | exact vp_nle (by assumption) (by omega) (by omega)) ?_
    rw [show (3 : Int32).toNatClampNeg = 3 from by decide]
    rw [if_neg w3_1, if_neg w3_2, if_pos w3_3]
    exact Go.iret d_Model_counted_96 rfl rfl ⟨rfl, rfl, rfl⟩
  by_cases w3_4 : x2 = 3
  · refine Go.tsw (t := 97) d_Model_counted_3 (by rw [w3_4]; rfl) ?_
    refine Go.aload_0 d_Model_counted_97 rfl ?_
    refine Go.getfield d_Model_counted_98 rfl f_Model_20 (md_at_m (by omega) hB hS hC hD hE) (by rfl) ?_
    refine Go.getfield d_Model_counted_101 rfl f_Model_40 (md_at_q (by omega) hB hS hC hD hE) (by rfl) ?_
    refine Go.bipush (v := 6) d_Model_counted_104 rfl (by decide) ?_
    refine Go.iaload d_Model_counted_106 rfl (md_at_q_5 (by omega) hB hS hC hD hE) (show vp_in (nI 6) 12 from by first | exact vp_in_nI (by omega) (by omega) | exact vp_nle (by assumption) (by omega) (by omega)) ?_
    rw [show (6 : Int32).toNatClampNeg = 6 from by decide]
    rw [if_neg w3_1, if_neg w3_2, if_neg w3_3, if_pos w3_4]
    exact Go.iret d_Model_counted_107 rfl rfl ⟨rfl, rfl, rfl⟩
  by_cases w3_5 : x2 = 4
  · refine Go.tsw (t := 108) d_Model_counted_3 (by rw [w3_5]; rfl) ?_
    refine Go.aload_0 d_Model_counted_108 rfl ?_
    refine Go.getfield d_Model_counted_109 rfl f_Model_20 (md_at_m (by omega) hB hS hC hD hE) (by rfl) ?_
    refine Go.getfield d_Model_counted_112 rfl f_Model_40 (md_at_q (by omega) hB hS hC hD hE) (by rfl) ?_
    refine Go.bipush (v := 9) d_Model_counted_115 rfl (by decide) ?_
    refine Go.iaload d_Model_counted_117 rfl (md_at_q_5 (by omega) hB hS hC hD hE) (show vp_in (nI 9) 12 from by first | exact vp_in_nI (by omega) (by omega) | exact vp_nle (by assumption) (by omega) (by omega)) ?_
    rw [show (9 : Int32).toNatClampNeg = 9 from by decide]
    rw [if_neg w3_1, if_neg w3_2, if_neg w3_3, if_neg w3_4, if_pos w3_5]
    exact Go.iret d_Model_counted_118 rfl rfl ⟨rfl, rfl, rfl⟩
  by_cases w3_6 : x2 = 5
  · refine Go.tsw (t := 119) d_Model_counted_3 (by rw [w3_6]; rfl) ?_
    refine Go.aload_0 d_Model_counted_119 rfl ?_
    refine Go.getfield d_Model_counted_120 rfl f_Model_20 (md_at_m (by omega) hB hS hC hD hE) (by rfl) ?_
    refine Go.getfield d_Model_counted_123 rfl f_Model_40 (md_at_q (by omega) hB hS hC hD hE) (by rfl) ?_
    refine Go.bipush (v := 11) d_Model_counted_126 rfl (by decide) ?_
    refine Go.iaload d_Model_counted_128 rfl (md_at_q_5 (by omega) hB hS hC hD hE) (show vp_in (nI 11) 12 from by first | exact vp_in_nI (by omega) (by omega) | exact vp_nle (by assumption) (by omega) (by omega)) ?_
    rw [show (11 : Int32).toNatClampNeg = 11 from by decide]
    rw [if_neg w3_1, if_neg w3_2, if_neg w3_3, if_neg w3_4, if_neg w3_5, if_pos w3_6]
    exact Go.iret d_Model_counted_129 rfl rfl ⟨rfl, rfl, rfl⟩
  by_cases w3_7 : x2 = 6
  · refine Go.tsw (t := 130) d_Model_counted_3 (by rw [w3_7]; rfl) ?_
    refine Go.aload_0 d_Model_counted_130 rfl ?_
    refine Go.getfield d_Model_counted_131 rfl f_Model_20 (md_at_m (by omega) hB hS hC hD hE) (by rfl) ?_
    refine Go.getfield d_Model_counted_134 rfl f_Model_172 (md_at_q (by omega) hB hS hC hD hE) (by rfl) ?_
    rw [if_neg w3_1, if_neg w3_2, if_neg w3_3, if_neg w3_4, if_neg w3_5, if_neg w3_6, if_pos w3_7]
    exact Go.iret d_Model_counted_137 rfl rfl ⟨rfl, rfl, rfl⟩
  by_cases w3_8 : x2 = 7
  · refine Go.tsw (t := 138) d_Model_counted_3 (by rw [w3_8]; rfl) ?_
    refine Go.iconst (v := 0) d_Model_counted_138 rfl (by decide) ?_
    refine Go.istore_4 d_Model_counted_139 rfl (by rfl) ?_
    refine l_Model_counted_141_go (n := (sh_ha H 9)) geo hB hS hC hD hE hdy (by omega) rfl (sh_ha H 9) 0 0 (by omega) ?_
    refine Go.iload_3 d_Model_counted_172 rfl ?_
    rw [if_neg w3_1, if_neg w3_2, if_neg w3_3, if_neg w3_4, if_neg w3_5, if_neg w3_6, if_neg w3_7, if_pos w3_8]
    exact Go.iret d_Model_counted_173 rfl rfl ⟨rfl, rfl, rfl⟩
  by_cases w3_9 : x2 = 8
  · refine Go.tsw (t := 174) d_Model_counted_3 (by rw [w3_9]; rfl) ?_
    refine Go.iconst (v := 0) d_Model_counted_174 rfl (by decide) ?_
    refine Go.istore_4 d_Model_counted_175 rfl (by rfl) ?_
    refine l_Model_counted_177_go (n := (sh_ha H 0)) geo hB hS hC hD hE hdy (by omega) rfl (sh_ha H 0) 0 0 (by omega) ?_
    refine Go.iload_3 d_Model_counted_207 rfl ?_
    rw [if_neg w3_1, if_neg w3_2, if_neg w3_3, if_neg w3_4, if_neg w3_5, if_neg w3_6, if_neg w3_7, if_neg w3_8, if_pos w3_9]
    exact Go.iret d_Model_counted_208 rfl rfl ⟨rfl, rfl, rfl⟩
  by_cases w3_10 : x2 = 9
  · refine Go.tsw (t := 209) d_Model_counted_3 (by rw [w3_10]; rfl) ?_
    refine Go.aload_1 d_Model_counted_209 rfl ?_
    refine Go.getfield d_Model_counted_210 rfl f_Model_403 (md_at_r (by omega) hB hS hC hD hE) (by rfl) ?_
    rw [if_neg w3_1, if_neg w3_2, if_neg w3_3, if_neg w3_4, if_neg w3_5, if_neg w3_6, if_neg w3_7, if_neg w3_8, if_neg w3_9, if_pos w3_10]
    exact Go.iret d_Model_counted_213 rfl rfl ⟨rfl, rfl, rfl⟩
  by_cases w3_11 : x2 = 10
  · refine Go.tsw (t := 214) d_Model_counted_3 (by rw [w3_11]; rfl) ?_
    refine Go.aload_1 d_Model_counted_214 rfl ?_
    refine Go.getfield d_Model_counted_215 rfl f_Model_338 (md_at_r (by omega) hB hS hC hD hE) (by rfl) ?_
    rw [if_neg w3_1, if_neg w3_2, if_neg w3_3, if_neg w3_4, if_neg w3_5, if_neg w3_6, if_neg w3_7, if_neg w3_8, if_neg w3_9, if_neg w3_10, if_pos w3_11]
    exact Go.iret d_Model_counted_218 rfl rfl ⟨rfl, rfl, rfl⟩
  by_cases w3_12 : x2 = 11
  · refine Go.tsw (t := 219) d_Model_counted_3 (by rw [w3_12]; rfl) ?_
    refine Go.aload_1 d_Model_counted_219 rfl ?_
    refine Go.getfield d_Model_counted_220 rfl f_Model_406 (md_at_r (by omega) hB hS hC hD hE) (by rfl) ?_
    rw [if_neg w3_1, if_neg w3_2, if_neg w3_3, if_neg w3_4, if_neg w3_5, if_neg w3_6, if_neg w3_7, if_neg w3_8, if_neg w3_9, if_neg w3_10, if_neg w3_11, if_pos w3_12]
    exact Go.iret d_Model_counted_223 rfl rfl ⟨rfl, rfl, rfl⟩
  by_cases w3_13 : x2 = 12
  · refine Go.tsw (t := 224) d_Model_counted_3 (by rw [w3_13]; rfl) ?_
    refine Go.iconst (v := 0) d_Model_counted_224 rfl (by decide) ?_
    refine Go.istore_4 d_Model_counted_225 rfl (by rfl) ?_
    refine l_Model_counted_227_go (n := (sh_ha H 11)) geo hB hS hC hD hE hdy (by omega) rfl (sh_ha H 11) 0 0 (by omega) ?_
    refine Go.iload_3 d_Model_counted_260 rfl ?_
    rw [if_neg w3_1, if_neg w3_2, if_neg w3_3, if_neg w3_4, if_neg w3_5, if_neg w3_6, if_neg w3_7, if_neg w3_8, if_neg w3_9, if_neg w3_10, if_neg w3_11, if_neg w3_12, if_pos w3_13]
    exact Go.iret d_Model_counted_261 rfl rfl ⟨rfl, rfl, rfl⟩
  by_cases w3_14 : x2 = 13
  · refine Go.tsw (t := 262) d_Model_counted_3 (by rw [w3_14]; rfl) ?_
    refine Go.aload_1 d_Model_counted_262 rfl ?_
    refine Go.cv0r d_Model_counted_263 rfl l_Model_300 k_State_warmth_v (md_at_r (by omega) hB hS hC hD hE) rfl (md_c_State_warmth_r (by omega) hB hS hC hD hE hdy) rfl rfl rfl ?_
    rw [if_neg w3_1, if_neg w3_2, if_neg w3_3, if_neg w3_4, if_neg w3_5, if_neg w3_6, if_neg w3_7, if_neg w3_8, if_neg w3_9, if_neg w3_10, if_neg w3_11, if_neg w3_12, if_neg w3_13, if_pos w3_14]
    exact Go.iret d_Model_counted_266 rfl rfl ⟨rfl, rfl, rfl⟩
  refine Go.tsw (t := 267) d_Model_counted_3 (tsw_out fun n hn => by
      match n, hn with
      | 0, _ => exact fun w => w3_1 (i32_eq w)
      | 1, _ => exact fun w => w3_2 (i32_eq w)
      | 2, _ => exact fun w => w3_3 (i32_eq w)
      | 3, _ => exact fun w => w3_4 (i32_eq w)
      | 4, _ => exact fun w => w3_5 (i32_eq w)
      | 5, _ => exact fun w => w3_6 (i32_eq w)
      | 6, _ => exact fun w => w3_7 (i32_eq w)
      | 7, _ => exact fun w => w3_8 (i32_eq w)
      | 8, _ => exact fun w => w3_9 (i32_eq w)
      | 9, _ => exact fun w => w3_10 (i32_eq w)
      | 10, _ => exact fun w => w3_11 (i32_eq w)
      | 11, _ => exact fun w => w3_12 (i32_eq w)
      | 12, _ => exact fun w => w3_13 (i32_eq w)
      | 13, _ => exact fun w => w3_14 (i32_eq w)
      | _ + 14, w => exact absurd w (by simp)) ?_
  refine Go.aload_0 d_Model_counted_267 rfl ?_
  refine Go.getfield d_Model_counted_268 rfl f_Model_47 (md_at_m (by omega) hB hS hC hD hE) (by rfl) ?_
  rw [if_neg w3_1, if_neg w3_2, if_neg w3_3, if_neg w3_4, if_neg w3_5, if_neg w3_6, if_neg w3_7, if_neg w3_8, if_neg w3_9, if_neg w3_10, if_neg w3_11, if_neg w3_12, if_neg w3_13, if_neg w3_14]
  exact Go.iret d_Model_counted_271 rfl rfl ⟨rfl, rfl, rfl⟩
theorem d_Model_count_0 : decode M_Model_count.2.1 0 = .ok (.aload_n 0, 1) := by decide +kernel
theorem d_Model_count_1 : decode M_Model_count.2.1 1 = .ok (.iconst 0, 1) := by decide +kernel
theorem d_Model_count_2 : decode M_Model_count.2.1 2 = .ok (.putfield 37, 3) := by decide +kernel
theorem d_Model_count_5 : decode M_Model_count.2.1 5 = .ok (.iload_n 1, 1) := by decide +kernel
theorem d_Model_count_6 : decode M_Model_count.2.1 6 = .ok (.iconst 0, 1) := by decide +kernel
theorem d_Model_count_7 : decode M_Model_count.2.1 7 = .ok (.bipush 14, 2) := by decide +kernel
theorem d_Model_count_9 : decode M_Model_count.2.1 9 = .ok (.invokestatic 43, 3) := by decide +kernel
theorem d_Model_count_12 : decode M_Model_count.2.1 12 = .ok (.ifCond .eq 15, 3) := by decide +kernel
theorem d_Model_count_15 : decode M_Model_count.2.1 15 = .ok (.aload_n 0, 1) := by decide +kernel
theorem d_Model_count_16 : decode M_Model_count.2.1 16 = .ok (.aload_n 0, 1) := by decide +kernel
theorem d_Model_count_17 : decode M_Model_count.2.1 17 = .ok (.getfield 27, 3) := by decide +kernel
theorem d_Model_count_20 : decode M_Model_count.2.1 20 = .ok (.iload_n 1, 1) := by decide +kernel
theorem d_Model_count_21 : decode M_Model_count.2.1 21 = .ok (.invokevirtual 447, 3) := by decide +kernel
theorem d_Model_count_24 : decode M_Model_count.2.1 24 = .ok (.goto 8, 3) := by decide +kernel
theorem d_Model_count_27 : decode M_Model_count.2.1 27 = .ok (.aload_n 0, 1) := by decide +kernel
theorem d_Model_count_28 : decode M_Model_count.2.1 28 = .ok (.iconst 1, 1) := by decide +kernel
theorem d_Model_count_29 : decode M_Model_count.2.1 29 = .ok (.invokevirtual 427, 3) := by decide +kernel
theorem d_Model_count_32 : decode M_Model_count.2.1 32 = .ok (.ireturn, 1) := by decide +kernel
def s_Model_count (M : MO) (H : SH) (Y : SX) (x1 : Int32) : Int32 × MO := (if (s_Model_isIn x1 0 14) = 0 then ((s_Model_no (mo_th' M 0) H Y 1).1, (s_Model_no (mo_th' M 0) H Y 1).2) else ((s_Model_counted (mo_th' M 0) H Y x1), (mo_th' M 0)))
set_option maxRecDepth 100000 in
set_option maxHeartbeats 800000 in
theorem c_Model_count {Γ : G9} {h : AH} {m q r sb ro z : Nat} {M : MO} {H : SH} {Y : SX} {x1 : Int32} (geo : m + 2 ≤ q ∧ m + 2 ≤ r ∧ (q + 24 ≤ r ∨ r + 21 ≤ q)) (hB : sh_ha H 0 ≤ 5) (hS : sh_ha H 3 ≤ 6) (hC : sh_ha H 6 ≤ 4) (hD : sh_ha H 9 ≤ 4) (hE : sh_ha H 11 ≤ 4) (hdy : sx_dy Y < 1000000) : CallR Γ M_Model_count 2 [.ref m, .int x1] (md_ Γ h m q r r sb ro M H Y) z (some (.int (s_Model_count M H Y x1).1)) (md_ Γ h m q r r sb ro (s_Model_count M H Y x1).2 H Y) := by
  refine Call.of_go (L := [some (.ref m), some (.int x1)]) (by decide +kernel) rfl (by exact Nat.le_of_ble_eq_true rfl) ?_
  unfold s_Model_count
  refine Go.aload_0 d_Model_count_0 rfl ?_
  refine Go.iconst (v := 0) d_Model_count_1 rfl (by decide) ?_
  refine Go.putfield d_Model_count_2 rfl f_Model_37_p (Or.inl (fun C T N h => by cases h; rfl)) (ms_at_m (by omega) hB hS hC hD hE) (by exact Nat.le_of_ble_eq_true rfl) rfl rfl ?_
  refine Go.heq (ms_put_m_thrown (by omega) hB hS hC hD hE) ?_
  refine Go.iload_1 d_Model_count_5 rfl ?_
  refine Go.iconst (v := 0) d_Model_count_6 rfl (by decide) ?_
  refine Go.bipush (v := 14) d_Model_count_7 rfl (by decide) ?_
  refine Go.cs3r d_Model_count_9 rfl l_Model_43 k_Model_isIn_s rfl (ms_c_Model_isIn_ (by omega) hB hS hC hD hE) (Nat.ble_eq_true_of_le (by omega)) rfl rfl ?_
  refine Go.if_eq (t := 27) d_Model_count_12 (by decide) rfl (fun c12_1 => ?_) (fun c12_1 => ?_)
  · refine Go.aload_0 d_Model_count_27 rfl ?_
    refine Go.iconst (v := 1) d_Model_count_28 rfl (by decide) ?_
    refine Go.cv1r d_Model_count_29 rfl l_Model_427 k_Model_no_v (ms_at_m (by omega) hB hS hC hD hE) rfl (c_Model_no (by omega) hB hS hC hD hE) (Nat.ble_eq_true_of_le (by omega)) rfl rfl ?_
    rw [if_pos c12_1]
    exact Go.iret d_Model_count_32 rfl rfl ⟨rfl, by dsimp only, rfl⟩
  · refine Go.aload_0 d_Model_count_15 rfl ?_
    refine Go.aload_0 d_Model_count_16 rfl ?_
    refine Go.getfield d_Model_count_17 rfl f_Model_27 (ms_at_m (by omega) hB hS hC hD hE) (by rfl) ?_
    refine Go.iload_1 d_Model_count_20 rfl ?_
    refine Go.cv2r d_Model_count_21 rfl l_Model_447 k_Model_counted_v (ms_at_m (by omega) hB hS hC hD hE) rfl (c_Model_counted (by omega) hB hS hC hD hE hdy) (Nat.ble_eq_true_of_le (by omega)) rfl rfl ?_
    refine Go.goto (t := 32) d_Model_count_24 (by decide) ?_
    rw [if_neg c12_1]
    exact Go.iret d_Model_count_32 rfl rfl ⟨rfl, by dsimp only, rfl⟩
theorem d_Model_digest_11 : decode M_Model_digest.2.1 11 = .ok (.iload_n 3, 1) := by decide +kernel
theorem d_Model_digest_12 : decode M_Model_digest.2.1 12 = .ok (.bipush 14, 2) := by decide +kernel
theorem d_Model_digest_14 : decode M_Model_digest.2.1 14 = .ok (.if_icmp .gt 26, 3) := by decide +kernel
theorem d_Model_digest_17 : decode M_Model_digest.2.1 17 = .ok (.lload_n 1, 1) := by decide +kernel
theorem d_Model_digest_18 : decode M_Model_digest.2.1 18 = .ok (.ldc2_w 485, 3) := by decide +kernel
theorem d_Model_digest_21 : decode M_Model_digest.2.1 21 = .ok (.lmul, 1) := by decide +kernel
theorem d_Model_digest_22 : decode M_Model_digest.2.1 22 = .ok (.aload_n 0, 1) := by decide +kernel
theorem d_Model_digest_23 : decode M_Model_digest.2.1 23 = .ok (.aload_n 0, 1) := by decide +kernel
theorem d_Model_digest_24 : decode M_Model_digest.2.1 24 = .ok (.getfield 27, 3) := by decide +kernel
theorem d_Model_digest_27 : decode M_Model_digest.2.1 27 = .ok (.iload_n 3, 1) := by decide +kernel
theorem d_Model_digest_28 : decode M_Model_digest.2.1 28 = .ok (.invokevirtual 447, 3) := by decide +kernel
theorem d_Model_digest_31 : decode M_Model_digest.2.1 31 = .ok (.i2l, 1) := by decide +kernel
theorem d_Model_digest_32 : decode M_Model_digest.2.1 32 = .ok (.ladd, 1) := by decide +kernel
theorem d_Model_digest_33 : decode M_Model_digest.2.1 33 = .ok (.lstore_n 1, 1) := by decide +kernel
theorem d_Model_digest_34 : decode M_Model_digest.2.1 34 = .ok (.iinc 3 1, 3) := by decide +kernel
theorem d_Model_digest_37 : decode M_Model_digest.2.1 37 = .ok (.goto (-26), 3) := by decide +kernel
def l_Model_digest_11 (M : MO) (H : SH) (Y : SX) : Nat → Nat → Int64 → Int64
  | 0, _, d => d
  | k + 1, i, d => (l_Model_digest_11 M H Y k (i + 1) ((d * 31) + (s_Model_counted M H Y (nI i)).toInt64))
set_option maxRecDepth 100000 in
set_option maxHeartbeats 800000 in
theorem l_Model_digest_11_go {Γ : G9} {h : AH} {m q r sb ro z : Nat} {n : Nat} {Q : QT} {X : XT} {M : MO} {H : SH} {Y : SX} (geo : m + 2 ≤ q ∧ m + 2 ≤ r ∧ (q + 24 ≤ r ∨ r + 21 ≤ q)) (hB : sh_ha H 0 ≤ 5) (hS : sh_ha H 3 ≤ 6) (hC : sh_ha H 6 ≤ 4) (hD : sh_ha H 9 ≤ 4) (hE : sh_ha H 11 ≤ 4) (hdy : sx_dy Y < 1000000) (hn20 : n ≤ 20) (hn : 15 = n) : ∀ (k i : Nat) (d : Int64), i + k = n → Go Γ M_Model_digest 2 0 0 40 [some (.ref m), some (.long (l_Model_digest_11 M H Y k i d)), none, some (.int (nI (i + k))), none] [] (md_ Γ h m q r r sb ro M H Y) z Q X → Go Γ M_Model_digest 2 0 0 11 [some (.ref m), some (.long d), none, some (.int (nI i)), none] [] (md_ Γ h m q r r sb ro M H Y) z Q X := by
  intro k
  induction k with
  | zero =>
    intro i d hi hk
    refine Go.iload_3 d_Model_digest_11 rfl ?_
    refine Go.bipush (v := 14) d_Model_digest_12 rfl (by decide) ?_
    refine Go.icmp_gt (t := 40) d_Model_digest_14 (by decide) rfl (fun c14_1 => ?_) (fun c14_1 => ?_)
    · exact hk
    · exact absurd (show (14 : Int32) < nI i from (nI_ltI (a := 14) (by omega) (by omega)).mpr (by omega)) c14_1
  | succ k ih =>
    intro i d hi hk
    unfold l_Model_digest_11 at hk
    rw [show i + (k + 1) = i + 1 + k by omega] at hk
    refine Go.iload_3 d_Model_digest_11 rfl ?_
    refine Go.bipush (v := 14) d_Model_digest_12 rfl (by decide) ?_
    refine Go.icmp_gt (t := 40) d_Model_digest_14 (by decide) rfl (fun c14_1 => ?_) (fun c14_1 => ?_)
    · exact absurd c14_1 (fun w => by have := (nI_ltI (a := 14) (by omega) (by omega)).mp w; omega)
    · refine Go.lload_1 d_Model_digest_17 rfl ?_
      refine Go.ldc2 (v := 31) d_Model_digest_18 rfl x_Model_485 ?_
      refine Go.lmul d_Model_digest_21 rfl ?_
      refine Go.aload_0 d_Model_digest_22 rfl ?_
      refine Go.aload_0 d_Model_digest_23 rfl ?_
      refine Go.getfield d_Model_digest_24 rfl f_Model_27 (ms_at_m (by omega) hB hS hC hD hE) (by rfl) ?_
      refine Go.iload_3 d_Model_digest_27 rfl ?_
      refine Go.cv2r d_Model_digest_28 rfl l_Model_447 k_Model_counted_v (ms_at_m (by omega) hB hS hC hD hE) rfl (c_Model_counted (by omega) hB hS hC hD hE hdy) (Nat.ble_eq_true_of_le (by omega)) rfl rfl ?_
      refine Go.i2l d_Model_digest_31 rfl ?_
      refine Go.ladd d_Model_digest_32 rfl ?_
      refine Go.lstore_1 d_Model_digest_33 rfl (by rfl) ?_
      refine Go.iinc_3 d_Model_digest_34 rfl (by rfl) (nI_inc _) ?_
      refine Go.goto (t := 11) d_Model_digest_37 (by decide) ?_
      exact ih (i + 1) _ (by omega) hk
theorem d_Model_digest_58 : decode M_Model_digest.2.1 58 = .ok (.iload 4, 2) := by decide +kernel
theorem d_Model_digest_60 : decode M_Model_digest.2.1 60 = .ok (.iconst 5, 1) := by decide +kernel
theorem d_Model_digest_61 : decode M_Model_digest.2.1 61 = .ok (.if_icmp .gt 24, 3) := by decide +kernel
theorem d_Model_digest_64 : decode M_Model_digest.2.1 64 = .ok (.lload_n 1, 1) := by decide +kernel
theorem d_Model_digest_65 : decode M_Model_digest.2.1 65 = .ok (.ldc2_w 485, 3) := by decide +kernel
theorem d_Model_digest_68 : decode M_Model_digest.2.1 68 = .ok (.lmul, 1) := by decide +kernel
theorem d_Model_digest_69 : decode M_Model_digest.2.1 69 = .ok (.aload_n 0, 1) := by decide +kernel
theorem d_Model_digest_70 : decode M_Model_digest.2.1 70 = .ok (.iload_n 3, 1) := by decide +kernel
theorem d_Model_digest_71 : decode M_Model_digest.2.1 71 = .ok (.iload 4, 2) := by decide +kernel
theorem d_Model_digest_73 : decode M_Model_digest.2.1 73 = .ok (.invokevirtual 454, 3) := by decide +kernel
theorem d_Model_digest_76 : decode M_Model_digest.2.1 76 = .ok (.i2l, 1) := by decide +kernel
theorem d_Model_digest_77 : decode M_Model_digest.2.1 77 = .ok (.ladd, 1) := by decide +kernel
theorem d_Model_digest_78 : decode M_Model_digest.2.1 78 = .ok (.lstore_n 1, 1) := by decide +kernel
theorem d_Model_digest_79 : decode M_Model_digest.2.1 79 = .ok (.iinc 4 1, 3) := by decide +kernel
theorem d_Model_digest_82 : decode M_Model_digest.2.1 82 = .ok (.goto (-24), 3) := by decide +kernel
def l_Model_digest_58 (M : MO) (H : SH) (Y : SX) (r9 : Nat) : Nat → Nat → Int64 → Int64
  | 0, _, d => d
  | k + 1, i, d => (l_Model_digest_58 M H Y r9 k (i + 1) ((d * 31) + (s_Model_bandTold M H Y r9 (nI i)).toInt64))
set_option maxRecDepth 100000 in
set_option maxHeartbeats 800000 in
theorem l_Model_digest_58_go {Γ : G9} {h : AH} {m q r sb ro z : Nat} {n : Nat} {Q : QT} {X : XT} {M : MO} {H : SH} {Y : SX} {r9 : Nat} (br9 : r9 ≤ 4) (geo : m + 2 ≤ q ∧ m + 2 ≤ r ∧ (q + 24 ≤ r ∨ r + 21 ≤ q)) (hB : sh_ha H 0 ≤ 5) (hS : sh_ha H 3 ≤ 6) (hC : sh_ha H 6 ≤ 4) (hD : sh_ha H 9 ≤ 4) (hE : sh_ha H 11 ≤ 4) (hdy : sx_dy Y < 1000000) (hn20 : n ≤ 20) (hn : 6 = n) : ∀ (k i : Nat) (d : Int64), i + k = n → Go Γ M_Model_digest 2 0 0 85 [some (.ref m), some (.long (l_Model_digest_58 M H Y r9 k i d)), none, some (.int (nI r9)), some (.int (nI (i + k)))] [] (md_ Γ h m q r r sb ro M H Y) z Q X → Go Γ M_Model_digest 2 0 0 58 [some (.ref m), some (.long d), none, some (.int (nI r9)), some (.int (nI i))] [] (md_ Γ h m q r r sb ro M H Y) z Q X := by
  intro k
  induction k with
  | zero =>
    intro i d hi hk
    refine Go.iload_4 d_Model_digest_58 rfl ?_
    refine Go.iconst (v := 5) d_Model_digest_60 rfl (by decide) ?_
    refine Go.icmp_gt (t := 85) d_Model_digest_61 (by decide) rfl (fun c61_1 => ?_) (fun c61_1 => ?_)
    · exact hk
    · exact absurd (show (5 : Int32) < nI i from (nI_ltI (a := 5) (by omega) (by omega)).mpr (by omega)) c61_1
  | succ k ih =>
    intro i d hi hk
    unfold l_Model_digest_58 at hk
    rw [show i + (k + 1) = i + 1 + k by omega] at hk
    refine Go.iload_4 d_Model_digest_58 rfl ?_
    refine Go.iconst (v := 5) d_Model_digest_60 rfl (by decide) ?_
    refine Go.icmp_gt (t := 85) d_Model_digest_61 (by decide) rfl (fun c61_1 => ?_) (fun c61_1 => ?_)
    · exact absurd c61_1 (fun w => by have := (nI_ltI (a := 5) (by omega) (by omega)).mp w; omega)
    · refine Go.lload_1 d_Model_digest_64 rfl ?_
      refine Go.ldc2 (v := 31) d_Model_digest_65 rfl x_Model_485 ?_
      refine Go.lmul d_Model_digest_68 rfl ?_
      refine Go.aload_0 d_Model_digest_69 rfl ?_
      refine Go.iload_3 d_Model_digest_70 rfl ?_
      refine Go.iload_4 d_Model_digest_71 rfl ?_
      refine Go.cv2r d_Model_digest_73 rfl l_Model_454 k_Model_bandTold_v (ms_at_m (by omega) hB hS hC hD hE) rfl (c_Model_bandTold (x1 := r9) rfl (by omega) (by omega) hB hS hC hD hE) (Nat.ble_eq_true_of_le (by omega)) rfl rfl ?_
      refine Go.i2l d_Model_digest_76 rfl ?_
      refine Go.ladd d_Model_digest_77 rfl ?_
      refine Go.lstore_1 d_Model_digest_78 rfl (by rfl) ?_
      refine Go.iinc_4 d_Model_digest_79 rfl (by rfl) (nI_inc _) ?_
      refine Go.goto (t := 58) d_Model_digest_82 (by decide) ?_
      exact ih (i + 1) _ (by omega) hk
theorem d_Model_digest_42 : decode M_Model_digest.2.1 42 = .ok (.iload_n 3, 1) := by decide +kernel
theorem d_Model_digest_43 : decode M_Model_digest.2.1 43 = .ok (.aload_n 0, 1) := by decide +kernel
theorem d_Model_digest_44 : decode M_Model_digest.2.1 44 = .ok (.getfield 20, 3) := by decide +kernel
theorem d_Model_digest_47 : decode M_Model_digest.2.1 47 = .ok (.getfield 40, 3) := by decide +kernel
theorem d_Model_digest_50 : decode M_Model_digest.2.1 50 = .ok (.iconst 0, 1) := by decide +kernel
theorem d_Model_digest_51 : decode M_Model_digest.2.1 51 = .ok (.iaload, 1) := by decide +kernel
theorem d_Model_digest_52 : decode M_Model_digest.2.1 52 = .ok (.if_icmp .ge 39, 3) := by decide +kernel
theorem d_Model_digest_55 : decode M_Model_digest.2.1 55 = .ok (.iconst 0, 1) := by decide +kernel
theorem d_Model_digest_56 : decode M_Model_digest.2.1 56 = .ok (.istore 4, 2) := by decide +kernel
theorem d_Model_digest_85 : decode M_Model_digest.2.1 85 = .ok (.iinc 3 1, 3) := by decide +kernel
theorem d_Model_digest_88 : decode M_Model_digest.2.1 88 = .ok (.goto (-46), 3) := by decide +kernel
def l_Model_digest_42 (M : MO) (H : SH) (Y : SX) : Nat → Nat → Int64 → Int64
  | 0, _, d => d
  | k + 1, i, d => (l_Model_digest_42 M H Y k (i + 1) (l_Model_digest_58 M H Y i (6) 0 d))
set_option maxRecDepth 100000 in
set_option maxHeartbeats 800000 in
theorem l_Model_digest_42_go {Γ : G9} {h : AH} {m q r sb ro z : Nat} {n : Nat} {Q : QT} {X : XT} {M : MO} {H : SH} {Y : SX} (geo : m + 2 ≤ q ∧ m + 2 ≤ r ∧ (q + 24 ≤ r ∨ r + 21 ≤ q)) (hB : sh_ha H 0 ≤ 5) (hS : sh_ha H 3 ≤ 6) (hC : sh_ha H 6 ≤ 4) (hD : sh_ha H 9 ≤ 4) (hE : sh_ha H 11 ≤ 4) (hdy : sx_dy Y < 1000000) (hn20 : n ≤ 20) (hn : sh_ha H 0 = n) : ∀ (k i : Nat) (d : Int64), i + k = n → Go Γ M_Model_digest 2 0 0 91 [some (.ref m), some (.long (l_Model_digest_42 M H Y k i d)), none, some (.int (nI (i + k))), none] [] (md_ Γ h m q r r sb ro M H Y) z Q X → Go Γ M_Model_digest 2 0 0 42 [some (.ref m), some (.long d), none, some (.int (nI i)), none] [] (md_ Γ h m q r r sb ro M H Y) z Q X := by
  intro k
  induction k with
  | zero =>
    intro i d hi hk
    refine Go.iload_3 d_Model_digest_42 rfl ?_
    refine Go.aload_0 d_Model_digest_43 rfl ?_
    refine Go.getfield d_Model_digest_44 rfl f_Model_20 (ms_at_m (by omega) hB hS hC hD hE) (by rfl) ?_
    refine Go.getfield d_Model_digest_47 rfl f_Model_40 (ms_at_q (by omega) hB hS hC hD hE) (by rfl) ?_
    refine Go.iconst (v := 0) d_Model_digest_50 rfl (by decide) ?_
    refine Go.iaload d_Model_digest_51 rfl (ms_at_q_5 (by omega) hB hS hC hD hE) (show vp_in (nI 0) 12 from by first | exact vp_in_nI (by omega) (by omega) | exact vp_nle (by assumption) (by omega) (by omega)) ?_
    rw [show (0 : Int32).toNatClampNeg = 0 from by decide]
    refine Go.icmp_ge (t := 91) d_Model_digest_52 (by decide) rfl (fun c52_1 => ?_) (fun c52_1 => ?_)
    · exact hk
    · exact absurd (nI_le (by omega) (by omega)) c52_1
  | succ k ih =>
    intro i d hi hk
    unfold l_Model_digest_42 at hk
    rw [show i + (k + 1) = i + 1 + k by omega] at hk
    refine Go.iload_3 d_Model_digest_42 rfl ?_
    refine Go.aload_0 d_Model_digest_43 rfl ?_
    refine Go.getfield d_Model_digest_44 rfl f_Model_20 (ms_at_m (by omega) hB hS hC hD hE) (by rfl) ?_
    refine Go.getfield d_Model_digest_47 rfl f_Model_40 (ms_at_q (by omega) hB hS hC hD hE) (by rfl) ?_
    refine Go.iconst (v := 0) d_Model_digest_50 rfl (by decide) ?_
    refine Go.iaload d_Model_digest_51 rfl (ms_at_q_5 (by omega) hB hS hC hD hE) (show vp_in (nI 0) 12 from by first | exact vp_in_nI (by omega) (by omega) | exact vp_nle (by assumption) (by omega) (by omega)) ?_
    rw [show (0 : Int32).toNatClampNeg = 0 from by decide]
    refine Go.icmp_ge (t := 91) d_Model_digest_52 (by decide) rfl (fun c52_1 => ?_) (fun c52_1 => ?_)
    · exact absurd c52_1 (nI_ge (by omega) (by omega))
    · refine Go.iconst (v := 0) d_Model_digest_55 rfl (by decide) ?_
      refine Go.istore_4 d_Model_digest_56 rfl (by rfl) ?_
      refine l_Model_digest_58_go (n := (6)) (by omega) geo hB hS hC hD hE hdy (by decide) rfl (6) 0 d (by omega) ?_
      refine Go.iinc_3 d_Model_digest_85 rfl (by rfl) (nI_inc _) ?_
      refine Go.goto (t := 42) d_Model_digest_88 (by decide) ?_
      refine Go.fgt [some (.ref m), some (.long (l_Model_digest_58 M H Y i (6) 0 d)), none, some (.int (nI (i + 1))), none] (by repeat' (first | exact trivial | refine ⟨rfl, ?_⟩)) ?_
      exact ih (i + 1) _ (by omega) hk
theorem d_Model_digest_109 : decode M_Model_digest.2.1 109 = .ok (.iload 4, 2) := by decide +kernel
theorem d_Model_digest_111 : decode M_Model_digest.2.1 111 = .ok (.iconst 5, 1) := by decide +kernel
theorem d_Model_digest_112 : decode M_Model_digest.2.1 112 = .ok (.if_icmp .gt 24, 3) := by decide +kernel
theorem d_Model_digest_115 : decode M_Model_digest.2.1 115 = .ok (.lload_n 1, 1) := by decide +kernel
theorem d_Model_digest_116 : decode M_Model_digest.2.1 116 = .ok (.ldc2_w 485, 3) := by decide +kernel
theorem d_Model_digest_119 : decode M_Model_digest.2.1 119 = .ok (.lmul, 1) := by decide +kernel
theorem d_Model_digest_120 : decode M_Model_digest.2.1 120 = .ok (.aload_n 0, 1) := by decide +kernel
theorem d_Model_digest_121 : decode M_Model_digest.2.1 121 = .ok (.iload_n 3, 1) := by decide +kernel
theorem d_Model_digest_122 : decode M_Model_digest.2.1 122 = .ok (.iload 4, 2) := by decide +kernel
theorem d_Model_digest_124 : decode M_Model_digest.2.1 124 = .ok (.invokevirtual 457, 3) := by decide +kernel
theorem d_Model_digest_127 : decode M_Model_digest.2.1 127 = .ok (.i2l, 1) := by decide +kernel
theorem d_Model_digest_128 : decode M_Model_digest.2.1 128 = .ok (.ladd, 1) := by decide +kernel
theorem d_Model_digest_129 : decode M_Model_digest.2.1 129 = .ok (.lstore_n 1, 1) := by decide +kernel
theorem d_Model_digest_130 : decode M_Model_digest.2.1 130 = .ok (.iinc 4 1, 3) := by decide +kernel
theorem d_Model_digest_133 : decode M_Model_digest.2.1 133 = .ok (.goto (-24), 3) := by decide +kernel
def l_Model_digest_109 (M : MO) (H : SH) (Y : SX) (r9 : Nat) : Nat → Nat → Int64 → Int64
  | 0, _, d => d
  | k + 1, i, d => (l_Model_digest_109 M H Y r9 k (i + 1) ((d * 31) + (s_Model_stakeTold M H Y r9 (nI i)).toInt64))
set_option maxRecDepth 100000 in
set_option maxHeartbeats 800000 in
theorem l_Model_digest_109_go {Γ : G9} {h : AH} {m q r sb ro z : Nat} {n : Nat} {Q : QT} {X : XT} {M : MO} {H : SH} {Y : SX} {r9 : Nat} (br9 : r9 ≤ 5) (geo : m + 2 ≤ q ∧ m + 2 ≤ r ∧ (q + 24 ≤ r ∨ r + 21 ≤ q)) (hB : sh_ha H 0 ≤ 5) (hS : sh_ha H 3 ≤ 6) (hC : sh_ha H 6 ≤ 4) (hD : sh_ha H 9 ≤ 4) (hE : sh_ha H 11 ≤ 4) (hdy : sx_dy Y < 1000000) (hn20 : n ≤ 20) (hn : 6 = n) : ∀ (k i : Nat) (d : Int64), i + k = n → Go Γ M_Model_digest 2 0 0 136 [some (.ref m), some (.long (l_Model_digest_109 M H Y r9 k i d)), none, some (.int (nI r9)), some (.int (nI (i + k)))] [] (md_ Γ h m q r r sb ro M H Y) z Q X → Go Γ M_Model_digest 2 0 0 109 [some (.ref m), some (.long d), none, some (.int (nI r9)), some (.int (nI i))] [] (md_ Γ h m q r r sb ro M H Y) z Q X := by
  intro k
  induction k with
  | zero =>
    intro i d hi hk
    refine Go.iload_4 d_Model_digest_109 rfl ?_
    refine Go.iconst (v := 5) d_Model_digest_111 rfl (by decide) ?_
    refine Go.icmp_gt (t := 136) d_Model_digest_112 (by decide) rfl (fun c112_1 => ?_) (fun c112_1 => ?_)
    · exact hk
    · exact absurd (show (5 : Int32) < nI i from (nI_ltI (a := 5) (by omega) (by omega)).mpr (by omega)) c112_1
  | succ k ih =>
    intro i d hi hk
    unfold l_Model_digest_109 at hk
    rw [show i + (k + 1) = i + 1 + k by omega] at hk
    refine Go.iload_4 d_Model_digest_109 rfl ?_
    refine Go.iconst (v := 5) d_Model_digest_111 rfl (by decide) ?_
    refine Go.icmp_gt (t := 136) d_Model_digest_112 (by decide) rfl (fun c112_1 => ?_) (fun c112_1 => ?_)
    · exact absurd c112_1 (fun w => by have := (nI_ltI (a := 5) (by omega) (by omega)).mp w; omega)
    · refine Go.lload_1 d_Model_digest_115 rfl ?_
      refine Go.ldc2 (v := 31) d_Model_digest_116 rfl x_Model_485 ?_
      refine Go.lmul d_Model_digest_119 rfl ?_
      refine Go.aload_0 d_Model_digest_120 rfl ?_
      refine Go.iload_3 d_Model_digest_121 rfl ?_
      refine Go.iload_4 d_Model_digest_122 rfl ?_
      refine Go.cv2r d_Model_digest_124 rfl l_Model_457 k_Model_stakeTold_v (ms_at_m (by omega) hB hS hC hD hE) rfl (c_Model_stakeTold (x1 := r9) rfl (by omega) (by omega) hB hS hC hD hE) (Nat.ble_eq_true_of_le (by omega)) rfl rfl ?_
      refine Go.i2l d_Model_digest_127 rfl ?_
      refine Go.ladd d_Model_digest_128 rfl ?_
      refine Go.lstore_1 d_Model_digest_129 rfl (by rfl) ?_
      refine Go.iinc_4 d_Model_digest_130 rfl (by rfl) (nI_inc _) ?_
      refine Go.goto (t := 109) d_Model_digest_133 (by decide) ?_
      exact ih (i + 1) _ (by omega) hk
theorem d_Model_digest_93 : decode M_Model_digest.2.1 93 = .ok (.iload_n 3, 1) := by decide +kernel
theorem d_Model_digest_94 : decode M_Model_digest.2.1 94 = .ok (.aload_n 0, 1) := by decide +kernel
theorem d_Model_digest_95 : decode M_Model_digest.2.1 95 = .ok (.getfield 20, 3) := by decide +kernel
theorem d_Model_digest_98 : decode M_Model_digest.2.1 98 = .ok (.getfield 40, 3) := by decide +kernel
theorem d_Model_digest_101 : decode M_Model_digest.2.1 101 = .ok (.iconst 3, 1) := by decide +kernel
theorem d_Model_digest_102 : decode M_Model_digest.2.1 102 = .ok (.iaload, 1) := by decide +kernel
theorem d_Model_digest_103 : decode M_Model_digest.2.1 103 = .ok (.if_icmp .ge 39, 3) := by decide +kernel
theorem d_Model_digest_106 : decode M_Model_digest.2.1 106 = .ok (.iconst 0, 1) := by decide +kernel
theorem d_Model_digest_107 : decode M_Model_digest.2.1 107 = .ok (.istore 4, 2) := by decide +kernel
theorem d_Model_digest_136 : decode M_Model_digest.2.1 136 = .ok (.iinc 3 1, 3) := by decide +kernel
theorem d_Model_digest_139 : decode M_Model_digest.2.1 139 = .ok (.goto (-46), 3) := by decide +kernel
def l_Model_digest_93 (M : MO) (H : SH) (Y : SX) : Nat → Nat → Int64 → Int64
  | 0, _, d => d
  | k + 1, i, d => (l_Model_digest_93 M H Y k (i + 1) (l_Model_digest_109 M H Y i (6) 0 d))
set_option maxRecDepth 100000 in
set_option maxHeartbeats 800000 in
theorem l_Model_digest_93_go {Γ : G9} {h : AH} {m q r sb ro z : Nat} {n : Nat} {Q : QT} {X : XT} {M : MO} {H : SH} {Y : SX} (geo : m + 2 ≤ q ∧ m + 2 ≤ r ∧ (q + 24 ≤ r ∨ r + 21 ≤ q)) (hB : sh_ha H 0 ≤ 5) (hS : sh_ha H 3 ≤ 6) (hC : sh_ha H 6 ≤ 4) (hD : sh_ha H 9 ≤ 4) (hE : sh_ha H 11 ≤ 4) (hdy : sx_dy Y < 1000000) (hn20 : n ≤ 20) (hn : sh_ha H 3 = n) : ∀ (k i : Nat) (d : Int64), i + k = n → Go Γ M_Model_digest 2 0 0 142 [some (.ref m), some (.long (l_Model_digest_93 M H Y k i d)), none, some (.int (nI (i + k))), none] [] (md_ Γ h m q r r sb ro M H Y) z Q X → Go Γ M_Model_digest 2 0 0 93 [some (.ref m), some (.long d), none, some (.int (nI i)), none] [] (md_ Γ h m q r r sb ro M H Y) z Q X := by
  intro k
  induction k with
  | zero =>
    intro i d hi hk
    refine Go.iload_3 d_Model_digest_93 rfl ?_
    refine Go.aload_0 d_Model_digest_94 rfl ?_
    refine Go.getfield d_Model_digest_95 rfl f_Model_20 (ms_at_m (by omega) hB hS hC hD hE) (by rfl) ?_
    refine Go.getfield d_Model_digest_98 rfl f_Model_40 (ms_at_q (by omega) hB hS hC hD hE) (by rfl) ?_
    refine Go.iconst (v := 3) d_Model_digest_101 rfl (by decide) ?_
    refine Go.iaload d_Model_digest_102 rfl (ms_at_q_5 (by omega) hB hS hC hD hE) (show vp_in (nI 3) 12 from by first | exact vp_in_nI (by omega) (by omega) | exact vp_nle (by assumption) (by omega) (by omega)) ?_
    rw [show (3 : Int32).toNatClampNeg = 3 from by decide]
    refine Go.icmp_ge (t := 142) d_Model_digest_103 (by decide) rfl (fun c103_1 => ?_) (fun c103_1 => ?_)
    · exact hk
    · exact absurd (nI_le (by omega) (by omega)) c103_1
  | succ k ih =>
    intro i d hi hk
    unfold l_Model_digest_93 at hk
    rw [show i + (k + 1) = i + 1 + k by omega] at hk
    refine Go.iload_3 d_Model_digest_93 rfl ?_
    refine Go.aload_0 d_Model_digest_94 rfl ?_
    refine Go.getfield d_Model_digest_95 rfl f_Model_20 (ms_at_m (by omega) hB hS hC hD hE) (by rfl) ?_
    refine Go.getfield d_Model_digest_98 rfl f_Model_40 (ms_at_q (by omega) hB hS hC hD hE) (by rfl) ?_
    refine Go.iconst (v := 3) d_Model_digest_101 rfl (by decide) ?_
    refine Go.iaload d_Model_digest_102 rfl (ms_at_q_5 (by omega) hB hS hC hD hE) (show vp_in (nI 3) 12 from by first | exact vp_in_nI (by omega) (by omega) | exact vp_nle (by assumption) (by omega) (by omega)) ?_
    rw [show (3 : Int32).toNatClampNeg = 3 from by decide]
    refine Go.icmp_ge (t := 142) d_Model_digest_103 (by decide) rfl (fun c103_1 => ?_) (fun c103_1 => ?_)
    · exact absurd c103_1 (nI_ge (by omega) (by omega))
    · refine Go.iconst (v := 0) d_Model_digest_106 rfl (by decide) ?_
      refine Go.istore_4 d_Model_digest_107 rfl (by rfl) ?_
      refine l_Model_digest_109_go (n := (6)) (by omega) geo hB hS hC hD hE hdy (by decide) rfl (6) 0 d (by omega) ?_
      refine Go.iinc_3 d_Model_digest_136 rfl (by rfl) (nI_inc _) ?_
      refine Go.goto (t := 93) d_Model_digest_139 (by decide) ?_
      refine Go.fgt [some (.ref m), some (.long (l_Model_digest_109 M H Y i (6) 0 d)), none, some (.int (nI (i + 1))), none] (by repeat' (first | exact trivial | refine ⟨rfl, ?_⟩)) ?_
      exact ih (i + 1) _ (by omega) hk
theorem d_Model_digest_161 : decode M_Model_digest.2.1 161 = .ok (.iload 4, 2) := by decide +kernel
theorem d_Model_digest_163 : decode M_Model_digest.2.1 163 = .ok (.iconst 5, 1) := by decide +kernel
theorem d_Model_digest_164 : decode M_Model_digest.2.1 164 = .ok (.if_icmp .gt 24, 3) := by decide +kernel
theorem d_Model_digest_167 : decode M_Model_digest.2.1 167 = .ok (.lload_n 1, 1) := by decide +kernel
theorem d_Model_digest_168 : decode M_Model_digest.2.1 168 = .ok (.ldc2_w 485, 3) := by decide +kernel
theorem d_Model_digest_171 : decode M_Model_digest.2.1 171 = .ok (.lmul, 1) := by decide +kernel
theorem d_Model_digest_172 : decode M_Model_digest.2.1 172 = .ok (.aload_n 0, 1) := by decide +kernel
theorem d_Model_digest_173 : decode M_Model_digest.2.1 173 = .ok (.iload_n 3, 1) := by decide +kernel
theorem d_Model_digest_174 : decode M_Model_digest.2.1 174 = .ok (.iload 4, 2) := by decide +kernel
theorem d_Model_digest_176 : decode M_Model_digest.2.1 176 = .ok (.invokevirtual 460, 3) := by decide +kernel
theorem d_Model_digest_179 : decode M_Model_digest.2.1 179 = .ok (.i2l, 1) := by decide +kernel
theorem d_Model_digest_180 : decode M_Model_digest.2.1 180 = .ok (.ladd, 1) := by decide +kernel
theorem d_Model_digest_181 : decode M_Model_digest.2.1 181 = .ok (.lstore_n 1, 1) := by decide +kernel
theorem d_Model_digest_182 : decode M_Model_digest.2.1 182 = .ok (.iinc 4 1, 3) := by decide +kernel
theorem d_Model_digest_185 : decode M_Model_digest.2.1 185 = .ok (.goto (-24), 3) := by decide +kernel
def l_Model_digest_161 (M : MO) (H : SH) (Y : SX) (r9 : Nat) : Nat → Nat → Int64 → Int64
  | 0, _, d => d
  | k + 1, i, d => (l_Model_digest_161 M H Y r9 k (i + 1) ((d * 31) + (s_Model_crevasseTold M H Y r9 (nI i)).toInt64))
set_option maxRecDepth 100000 in
set_option maxHeartbeats 800000 in
theorem l_Model_digest_161_go {Γ : G9} {h : AH} {m q r sb ro z : Nat} {n : Nat} {Q : QT} {X : XT} {M : MO} {H : SH} {Y : SX} {r9 : Nat} (br9 : r9 ≤ 3) (geo : m + 2 ≤ q ∧ m + 2 ≤ r ∧ (q + 24 ≤ r ∨ r + 21 ≤ q)) (hB : sh_ha H 0 ≤ 5) (hS : sh_ha H 3 ≤ 6) (hC : sh_ha H 6 ≤ 4) (hD : sh_ha H 9 ≤ 4) (hE : sh_ha H 11 ≤ 4) (hdy : sx_dy Y < 1000000) (hn20 : n ≤ 20) (hn : 6 = n) : ∀ (k i : Nat) (d : Int64), i + k = n → Go Γ M_Model_digest 2 0 0 188 [some (.ref m), some (.long (l_Model_digest_161 M H Y r9 k i d)), none, some (.int (nI r9)), some (.int (nI (i + k)))] [] (md_ Γ h m q r r sb ro M H Y) z Q X → Go Γ M_Model_digest 2 0 0 161 [some (.ref m), some (.long d), none, some (.int (nI r9)), some (.int (nI i))] [] (md_ Γ h m q r r sb ro M H Y) z Q X := by
  intro k
  induction k with
  | zero =>
    intro i d hi hk
    refine Go.iload_4 d_Model_digest_161 rfl ?_
    refine Go.iconst (v := 5) d_Model_digest_163 rfl (by decide) ?_
    refine Go.icmp_gt (t := 188) d_Model_digest_164 (by decide) rfl (fun c164_1 => ?_) (fun c164_1 => ?_)
    · exact hk
    · exact absurd (show (5 : Int32) < nI i from (nI_ltI (a := 5) (by omega) (by omega)).mpr (by omega)) c164_1
  | succ k ih =>
    intro i d hi hk
    unfold l_Model_digest_161 at hk
    rw [show i + (k + 1) = i + 1 + k by omega] at hk
    refine Go.iload_4 d_Model_digest_161 rfl ?_
    refine Go.iconst (v := 5) d_Model_digest_163 rfl (by decide) ?_
    refine Go.icmp_gt (t := 188) d_Model_digest_164 (by decide) rfl (fun c164_1 => ?_) (fun c164_1 => ?_)
    · exact absurd c164_1 (fun w => by have := (nI_ltI (a := 5) (by omega) (by omega)).mp w; omega)
    · refine Go.lload_1 d_Model_digest_167 rfl ?_
      refine Go.ldc2 (v := 31) d_Model_digest_168 rfl x_Model_485 ?_
      refine Go.lmul d_Model_digest_171 rfl ?_
      refine Go.aload_0 d_Model_digest_172 rfl ?_
      refine Go.iload_3 d_Model_digest_173 rfl ?_
      refine Go.iload_4 d_Model_digest_174 rfl ?_
      refine Go.cv2r d_Model_digest_176 rfl l_Model_460 k_Model_crevasseTold_v (ms_at_m (by omega) hB hS hC hD hE) rfl (c_Model_crevasseTold (x1 := r9) rfl (by omega) (by omega) hB hS hC hD hE) (Nat.ble_eq_true_of_le (by omega)) rfl rfl ?_
      refine Go.i2l d_Model_digest_179 rfl ?_
      refine Go.ladd d_Model_digest_180 rfl ?_
      refine Go.lstore_1 d_Model_digest_181 rfl (by rfl) ?_
      refine Go.iinc_4 d_Model_digest_182 rfl (by rfl) (nI_inc _) ?_
      refine Go.goto (t := 161) d_Model_digest_185 (by decide) ?_
      exact ih (i + 1) _ (by omega) hk
theorem d_Model_digest_144 : decode M_Model_digest.2.1 144 = .ok (.iload_n 3, 1) := by decide +kernel
theorem d_Model_digest_145 : decode M_Model_digest.2.1 145 = .ok (.aload_n 0, 1) := by decide +kernel
theorem d_Model_digest_146 : decode M_Model_digest.2.1 146 = .ok (.getfield 20, 3) := by decide +kernel
theorem d_Model_digest_149 : decode M_Model_digest.2.1 149 = .ok (.getfield 40, 3) := by decide +kernel
theorem d_Model_digest_152 : decode M_Model_digest.2.1 152 = .ok (.bipush 6, 2) := by decide +kernel
theorem d_Model_digest_154 : decode M_Model_digest.2.1 154 = .ok (.iaload, 1) := by decide +kernel
theorem d_Model_digest_155 : decode M_Model_digest.2.1 155 = .ok (.if_icmp .ge 39, 3) := by decide +kernel
theorem d_Model_digest_158 : decode M_Model_digest.2.1 158 = .ok (.iconst 0, 1) := by decide +kernel
theorem d_Model_digest_159 : decode M_Model_digest.2.1 159 = .ok (.istore 4, 2) := by decide +kernel
theorem d_Model_digest_188 : decode M_Model_digest.2.1 188 = .ok (.iinc 3 1, 3) := by decide +kernel
theorem d_Model_digest_191 : decode M_Model_digest.2.1 191 = .ok (.goto (-47), 3) := by decide +kernel
def l_Model_digest_144 (M : MO) (H : SH) (Y : SX) : Nat → Nat → Int64 → Int64
  | 0, _, d => d
  | k + 1, i, d => (l_Model_digest_144 M H Y k (i + 1) (l_Model_digest_161 M H Y i (6) 0 d))
set_option maxRecDepth 100000 in
set_option maxHeartbeats 800000 in
theorem l_Model_digest_144_go {Γ : G9} {h : AH} {m q r sb ro z : Nat} {n : Nat} {Q : QT} {X : XT} {M : MO} {H : SH} {Y : SX} (geo : m + 2 ≤ q ∧ m + 2 ≤ r ∧ (q + 24 ≤ r ∨ r + 21 ≤ q)) (hB : sh_ha H 0 ≤ 5) (hS : sh_ha H 3 ≤ 6) (hC : sh_ha H 6 ≤ 4) (hD : sh_ha H 9 ≤ 4) (hE : sh_ha H 11 ≤ 4) (hdy : sx_dy Y < 1000000) (hn20 : n ≤ 20) (hn : sh_ha H 6 = n) : ∀ (k i : Nat) (d : Int64), i + k = n → Go Γ M_Model_digest 2 0 0 194 [some (.ref m), some (.long (l_Model_digest_144 M H Y k i d)), none, some (.int (nI (i + k))), none] [] (md_ Γ h m q r r sb ro M H Y) z Q X → Go Γ M_Model_digest 2 0 0 144 [some (.ref m), some (.long d), none, some (.int (nI i)), none] [] (md_ Γ h m q r r sb ro M H Y) z Q X := by
  intro k
  induction k with
  | zero =>
    intro i d hi hk
    refine Go.iload_3 d_Model_digest_144 rfl ?_
    refine Go.aload_0 d_Model_digest_145 rfl ?_
    refine Go.getfield d_Model_digest_146 rfl f_Model_20 (ms_at_m (by omega) hB hS hC hD hE) (by rfl) ?_
    refine Go.getfield d_Model_digest_149 rfl f_Model_40 (ms_at_q (by omega) hB hS hC hD hE) (by rfl) ?_
    refine Go.bipush (v := 6) d_Model_digest_152 rfl (by decide) ?_
    refine Go.iaload d_Model_digest_154 rfl (ms_at_q_5 (by omega) hB hS hC hD hE) (show vp_in (nI 6) 12 from by first | exact vp_in_nI (by omega) (by omega) | exact vp_nle (by assumption) (by omega) (by omega)) ?_
    rw [show (6 : Int32).toNatClampNeg = 6 from by decide]
    refine Go.icmp_ge (t := 194) d_Model_digest_155 (by decide) rfl (fun c155_1 => ?_) (fun c155_1 => ?_)
    · exact hk
    · exact absurd (nI_le (by omega) (by omega)) c155_1
  | succ k ih =>
    intro i d hi hk
    unfold l_Model_digest_144 at hk
    rw [show i + (k + 1) = i + 1 + k by omega] at hk
    refine Go.iload_3 d_Model_digest_144 rfl ?_
    refine Go.aload_0 d_Model_digest_145 rfl ?_
    refine Go.getfield d_Model_digest_146 rfl f_Model_20 (ms_at_m (by omega) hB hS hC hD hE) (by rfl) ?_
    refine Go.getfield d_Model_digest_149 rfl f_Model_40 (ms_at_q (by omega) hB hS hC hD hE) (by rfl) ?_
    refine Go.bipush (v := 6) d_Model_digest_152 rfl (by decide) ?_
    refine Go.iaload d_Model_digest_154 rfl (ms_at_q_5 (by omega) hB hS hC hD hE) (show vp_in (nI 6) 12 from by first | exact vp_in_nI (by omega) (by omega) | exact vp_nle (by assumption) (by omega) (by omega)) ?_
    rw [show (6 : Int32).toNatClampNeg = 6 from by decide]
    refine Go.icmp_ge (t := 194) d_Model_digest_155 (by decide) rfl (fun c155_1 => ?_) (fun c155_1 => ?_)
    · exact absurd c155_1 (nI_ge (by omega) (by omega))
    · refine Go.iconst (v := 0) d_Model_digest_158 rfl (by decide) ?_
      refine Go.istore_4 d_Model_digest_159 rfl (by rfl) ?_
      refine l_Model_digest_161_go (n := (6)) (by omega) geo hB hS hC hD hE hdy (by decide) rfl (6) 0 d (by omega) ?_
      refine Go.iinc_3 d_Model_digest_188 rfl (by rfl) (nI_inc _) ?_
      refine Go.goto (t := 144) d_Model_digest_191 (by decide) ?_
      refine Go.fgt [some (.ref m), some (.long (l_Model_digest_161 M H Y i (6) 0 d)), none, some (.int (nI (i + 1))), none] (by repeat' (first | exact trivial | refine ⟨rfl, ?_⟩)) ?_
      exact ih (i + 1) _ (by omega) hk
theorem d_Model_digest_213 : decode M_Model_digest.2.1 213 = .ok (.iload 4, 2) := by decide +kernel
theorem d_Model_digest_215 : decode M_Model_digest.2.1 215 = .ok (.iconst 1, 1) := by decide +kernel
theorem d_Model_digest_216 : decode M_Model_digest.2.1 216 = .ok (.if_icmp .gt 24, 3) := by decide +kernel
theorem d_Model_digest_219 : decode M_Model_digest.2.1 219 = .ok (.lload_n 1, 1) := by decide +kernel
theorem d_Model_digest_220 : decode M_Model_digest.2.1 220 = .ok (.ldc2_w 485, 3) := by decide +kernel
theorem d_Model_digest_223 : decode M_Model_digest.2.1 223 = .ok (.lmul, 1) := by decide +kernel
theorem d_Model_digest_224 : decode M_Model_digest.2.1 224 = .ok (.aload_n 0, 1) := by decide +kernel
theorem d_Model_digest_225 : decode M_Model_digest.2.1 225 = .ok (.iload_n 3, 1) := by decide +kernel
theorem d_Model_digest_226 : decode M_Model_digest.2.1 226 = .ok (.iload 4, 2) := by decide +kernel
theorem d_Model_digest_228 : decode M_Model_digest.2.1 228 = .ok (.invokevirtual 463, 3) := by decide +kernel
theorem d_Model_digest_231 : decode M_Model_digest.2.1 231 = .ok (.i2l, 1) := by decide +kernel
theorem d_Model_digest_232 : decode M_Model_digest.2.1 232 = .ok (.ladd, 1) := by decide +kernel
theorem d_Model_digest_233 : decode M_Model_digest.2.1 233 = .ok (.lstore_n 1, 1) := by decide +kernel
theorem d_Model_digest_234 : decode M_Model_digest.2.1 234 = .ok (.iinc 4 1, 3) := by decide +kernel
theorem d_Model_digest_237 : decode M_Model_digest.2.1 237 = .ok (.goto (-24), 3) := by decide +kernel
def l_Model_digest_213 (M : MO) (H : SH) (Y : SX) (r9 : Nat) : Nat → Nat → Int64 → Int64
  | 0, _, d => d
  | k + 1, i, d => (l_Model_digest_213 M H Y r9 k (i + 1) ((d * 31) + (s_Model_depotTold M H Y r9 (nI i)).toInt64))
set_option maxRecDepth 100000 in
set_option maxHeartbeats 800000 in
theorem l_Model_digest_213_go {Γ : G9} {h : AH} {m q r sb ro z : Nat} {n : Nat} {Q : QT} {X : XT} {M : MO} {H : SH} {Y : SX} {r9 : Nat} (br9 : r9 ≤ 3) (geo : m + 2 ≤ q ∧ m + 2 ≤ r ∧ (q + 24 ≤ r ∨ r + 21 ≤ q)) (hB : sh_ha H 0 ≤ 5) (hS : sh_ha H 3 ≤ 6) (hC : sh_ha H 6 ≤ 4) (hD : sh_ha H 9 ≤ 4) (hE : sh_ha H 11 ≤ 4) (hdy : sx_dy Y < 1000000) (hn20 : n ≤ 20) (hn : 2 = n) : ∀ (k i : Nat) (d : Int64), i + k = n → Go Γ M_Model_digest 2 0 0 240 [some (.ref m), some (.long (l_Model_digest_213 M H Y r9 k i d)), none, some (.int (nI r9)), some (.int (nI (i + k)))] [] (md_ Γ h m q r r sb ro M H Y) z Q X → Go Γ M_Model_digest 2 0 0 213 [some (.ref m), some (.long d), none, some (.int (nI r9)), some (.int (nI i))] [] (md_ Γ h m q r r sb ro M H Y) z Q X := by
  intro k
  induction k with
  | zero =>
    intro i d hi hk
    refine Go.iload_4 d_Model_digest_213 rfl ?_
    refine Go.iconst (v := 1) d_Model_digest_215 rfl (by decide) ?_
    refine Go.icmp_gt (t := 240) d_Model_digest_216 (by decide) rfl (fun c216_1 => ?_) (fun c216_1 => ?_)
    · exact hk
    · exact absurd (show (1 : Int32) < nI i from (nI_ltI (a := 1) (by omega) (by omega)).mpr (by omega)) c216_1
  | succ k ih =>
    intro i d hi hk
    unfold l_Model_digest_213 at hk
    rw [show i + (k + 1) = i + 1 + k by omega] at hk
    refine Go.iload_4 d_Model_digest_213 rfl ?_
    refine Go.iconst (v := 1) d_Model_digest_215 rfl (by decide) ?_
    refine Go.icmp_gt (t := 240) d_Model_digest_216 (by decide) rfl (fun c216_1 => ?_) (fun c216_1 => ?_)
    · exact absurd c216_1 (fun w => by have := (nI_ltI (a := 1) (by omega) (by omega)).mp w; omega)
    · refine Go.lload_1 d_Model_digest_219 rfl ?_
      refine Go.ldc2 (v := 31) d_Model_digest_220 rfl x_Model_485 ?_
      refine Go.lmul d_Model_digest_223 rfl ?_
      refine Go.aload_0 d_Model_digest_224 rfl ?_
      refine Go.iload_3 d_Model_digest_225 rfl ?_
      refine Go.iload_4 d_Model_digest_226 rfl ?_
      refine Go.cv2r d_Model_digest_228 rfl l_Model_463 k_Model_depotTold_v (ms_at_m (by omega) hB hS hC hD hE) rfl (c_Model_depotTold (x1 := r9) rfl (by omega) (by omega) hB hS hC hD hE) (Nat.ble_eq_true_of_le (by omega)) rfl rfl ?_
      refine Go.i2l d_Model_digest_231 rfl ?_
      refine Go.ladd d_Model_digest_232 rfl ?_
      refine Go.lstore_1 d_Model_digest_233 rfl (by rfl) ?_
      refine Go.iinc_4 d_Model_digest_234 rfl (by rfl) (nI_inc _) ?_
      refine Go.goto (t := 213) d_Model_digest_237 (by decide) ?_
      exact ih (i + 1) _ (by omega) hk
theorem d_Model_digest_196 : decode M_Model_digest.2.1 196 = .ok (.iload_n 3, 1) := by decide +kernel
theorem d_Model_digest_197 : decode M_Model_digest.2.1 197 = .ok (.aload_n 0, 1) := by decide +kernel
theorem d_Model_digest_198 : decode M_Model_digest.2.1 198 = .ok (.getfield 20, 3) := by decide +kernel
theorem d_Model_digest_201 : decode M_Model_digest.2.1 201 = .ok (.getfield 40, 3) := by decide +kernel
theorem d_Model_digest_204 : decode M_Model_digest.2.1 204 = .ok (.bipush 9, 2) := by decide +kernel
theorem d_Model_digest_206 : decode M_Model_digest.2.1 206 = .ok (.iaload, 1) := by decide +kernel
theorem d_Model_digest_207 : decode M_Model_digest.2.1 207 = .ok (.if_icmp .ge 39, 3) := by decide +kernel
theorem d_Model_digest_210 : decode M_Model_digest.2.1 210 = .ok (.iconst 0, 1) := by decide +kernel
theorem d_Model_digest_211 : decode M_Model_digest.2.1 211 = .ok (.istore 4, 2) := by decide +kernel
theorem d_Model_digest_240 : decode M_Model_digest.2.1 240 = .ok (.iinc 3 1, 3) := by decide +kernel
theorem d_Model_digest_243 : decode M_Model_digest.2.1 243 = .ok (.goto (-47), 3) := by decide +kernel
def l_Model_digest_196 (M : MO) (H : SH) (Y : SX) : Nat → Nat → Int64 → Int64
  | 0, _, d => d
  | k + 1, i, d => (l_Model_digest_196 M H Y k (i + 1) (l_Model_digest_213 M H Y i (2) 0 d))
set_option maxRecDepth 100000 in
set_option maxHeartbeats 800000 in
theorem l_Model_digest_196_go {Γ : G9} {h : AH} {m q r sb ro z : Nat} {n : Nat} {Q : QT} {X : XT} {M : MO} {H : SH} {Y : SX} (geo : m + 2 ≤ q ∧ m + 2 ≤ r ∧ (q + 24 ≤ r ∨ r + 21 ≤ q)) (hB : sh_ha H 0 ≤ 5) (hS : sh_ha H 3 ≤ 6) (hC : sh_ha H 6 ≤ 4) (hD : sh_ha H 9 ≤ 4) (hE : sh_ha H 11 ≤ 4) (hdy : sx_dy Y < 1000000) (hn20 : n ≤ 20) (hn : sh_ha H 9 = n) : ∀ (k i : Nat) (d : Int64), i + k = n → Go Γ M_Model_digest 2 0 0 246 [some (.ref m), some (.long (l_Model_digest_196 M H Y k i d)), none, some (.int (nI (i + k))), none] [] (md_ Γ h m q r r sb ro M H Y) z Q X → Go Γ M_Model_digest 2 0 0 196 [some (.ref m), some (.long d), none, some (.int (nI i)), none] [] (md_ Γ h m q r r sb ro M H Y) z Q X := by
  intro k
  induction k with
  | zero =>
    intro i d hi hk
    refine Go.iload_3 d_Model_digest_196 rfl ?_
    refine Go.aload_0 d_Model_digest_197 rfl ?_
    refine Go.getfield d_Model_digest_198 rfl f_Model_20 (ms_at_m (by omega) hB hS hC hD hE) (by rfl) ?_
    refine Go.getfield d_Model_digest_201 rfl f_Model_40 (ms_at_q (by omega) hB hS hC hD hE) (by rfl) ?_
    refine Go.bipush (v := 9) d_Model_digest_204 rfl (by decide) ?_
    refine Go.iaload d_Model_digest_206 rfl (ms_at_q_5 (by omega) hB hS hC hD hE) (show vp_in (nI 9) 12 from by first | exact vp_in_nI (by omega) (by omega) | exact vp_nle (by assumption) (by omega) (by omega)) ?_
    rw [show (9 : Int32).toNatClampNeg = 9 from by decide]
    refine Go.icmp_ge (t := 246) d_Model_digest_207 (by decide) rfl (fun c207_1 => ?_) (fun c207_1 => ?_)
    · exact hk
    · exact absurd (nI_le (by omega) (by omega)) c207_1
  | succ k ih =>
    intro i d hi hk
    unfold l_Model_digest_196 at hk
    rw [show i + (k + 1) = i + 1 + k by omega] at hk
    refine Go.iload_3 d_Model_digest_196 rfl ?_
    refine Go.aload_0 d_Model_digest_197 rfl ?_
    refine Go.getfield d_Model_digest_198 rfl f_Model_20 (ms_at_m (by omega) hB hS hC hD hE) (by rfl) ?_
    refine Go.getfield d_Model_digest_201 rfl f_Model_40 (ms_at_q (by omega) hB hS hC hD hE) (by rfl) ?_
    refine Go.bipush (v := 9) d_Model_digest_204 rfl (by decide) ?_
    refine Go.iaload d_Model_digest_206 rfl (ms_at_q_5 (by omega) hB hS hC hD hE) (show vp_in (nI 9) 12 from by first | exact vp_in_nI (by omega) (by omega) | exact vp_nle (by assumption) (by omega) (by omega)) ?_
    rw [show (9 : Int32).toNatClampNeg = 9 from by decide]
    refine Go.icmp_ge (t := 246) d_Model_digest_207 (by decide) rfl (fun c207_1 => ?_) (fun c207_1 => ?_)
    · exact absurd c207_1 (nI_ge (by omega) (by omega))
    · refine Go.iconst (v := 0) d_Model_digest_210 rfl (by decide) ?_
      refine Go.istore_4 d_Model_digest_211 rfl (by rfl) ?_
      refine l_Model_digest_213_go (n := (2)) (by omega) geo hB hS hC hD hE hdy (by decide) rfl (2) 0 d (by omega) ?_
      refine Go.iinc_3 d_Model_digest_240 rfl (by rfl) (nI_inc _) ?_
      refine Go.goto (t := 196) d_Model_digest_243 (by decide) ?_
      refine Go.fgt [some (.ref m), some (.long (l_Model_digest_213 M H Y i (2) 0 d)), none, some (.int (nI (i + 1))), none] (by repeat' (first | exact trivial | refine ⟨rfl, ?_⟩)) ?_
      exact ih (i + 1) _ (by omega) hk
theorem d_Model_digest_265 : decode M_Model_digest.2.1 265 = .ok (.iload 4, 2) := by decide +kernel
theorem d_Model_digest_267 : decode M_Model_digest.2.1 267 = .ok (.bipush 7, 2) := by decide +kernel
theorem d_Model_digest_269 : decode M_Model_digest.2.1 269 = .ok (.if_icmp .gt 24, 3) := by decide +kernel
theorem d_Model_digest_272 : decode M_Model_digest.2.1 272 = .ok (.lload_n 1, 1) := by decide +kernel
theorem d_Model_digest_273 : decode M_Model_digest.2.1 273 = .ok (.ldc2_w 485, 3) := by decide +kernel
theorem d_Model_digest_276 : decode M_Model_digest.2.1 276 = .ok (.lmul, 1) := by decide +kernel
theorem d_Model_digest_277 : decode M_Model_digest.2.1 277 = .ok (.aload_n 0, 1) := by decide +kernel
theorem d_Model_digest_278 : decode M_Model_digest.2.1 278 = .ok (.iload_n 3, 1) := by decide +kernel
theorem d_Model_digest_279 : decode M_Model_digest.2.1 279 = .ok (.iload 4, 2) := by decide +kernel
theorem d_Model_digest_281 : decode M_Model_digest.2.1 281 = .ok (.invokevirtual 466, 3) := by decide +kernel
theorem d_Model_digest_284 : decode M_Model_digest.2.1 284 = .ok (.i2l, 1) := by decide +kernel
theorem d_Model_digest_285 : decode M_Model_digest.2.1 285 = .ok (.ladd, 1) := by decide +kernel
theorem d_Model_digest_286 : decode M_Model_digest.2.1 286 = .ok (.lstore_n 1, 1) := by decide +kernel
theorem d_Model_digest_287 : decode M_Model_digest.2.1 287 = .ok (.iinc 4 1, 3) := by decide +kernel
theorem d_Model_digest_290 : decode M_Model_digest.2.1 290 = .ok (.goto (-25), 3) := by decide +kernel
def l_Model_digest_265 (M : MO) (H : SH) (Y : SX) (r9 : Nat) : Nat → Nat → Int64 → Int64
  | 0, _, d => d
  | k + 1, i, d => (l_Model_digest_265 M H Y r9 k (i + 1) ((d * 31) + (s_Model_teamTold M H Y r9 (nI i)).toInt64))
set_option maxRecDepth 100000 in
set_option maxHeartbeats 800000 in
theorem l_Model_digest_265_go {Γ : G9} {h : AH} {m q r sb ro z : Nat} {n : Nat} {Q : QT} {X : XT} {M : MO} {H : SH} {Y : SX} {r9 : Nat} (br9 : r9 ≤ 3) (geo : m + 2 ≤ q ∧ m + 2 ≤ r ∧ (q + 24 ≤ r ∨ r + 21 ≤ q)) (hB : sh_ha H 0 ≤ 5) (hS : sh_ha H 3 ≤ 6) (hC : sh_ha H 6 ≤ 4) (hD : sh_ha H 9 ≤ 4) (hE : sh_ha H 11 ≤ 4) (hdy : sx_dy Y < 1000000) (hn20 : n ≤ 20) (hn : 8 = n) : ∀ (k i : Nat) (d : Int64), i + k = n → Go Γ M_Model_digest 2 0 0 293 [some (.ref m), some (.long (l_Model_digest_265 M H Y r9 k i d)), none, some (.int (nI r9)), some (.int (nI (i + k)))] [] (md_ Γ h m q r r sb ro M H Y) z Q X → Go Γ M_Model_digest 2 0 0 265 [some (.ref m), some (.long d), none, some (.int (nI r9)), some (.int (nI i))] [] (md_ Γ h m q r r sb ro M H Y) z Q X := by
  intro k
  induction k with
  | zero =>
    intro i d hi hk
    refine Go.iload_4 d_Model_digest_265 rfl ?_
    refine Go.bipush (v := 7) d_Model_digest_267 rfl (by decide) ?_
    refine Go.icmp_gt (t := 293) d_Model_digest_269 (by decide) rfl (fun c269_1 => ?_) (fun c269_1 => ?_)
    · exact hk
    · exact absurd (show (7 : Int32) < nI i from (nI_ltI (a := 7) (by omega) (by omega)).mpr (by omega)) c269_1
  | succ k ih =>
    intro i d hi hk
    unfold l_Model_digest_265 at hk
    rw [show i + (k + 1) = i + 1 + k by omega] at hk
    refine Go.iload_4 d_Model_digest_265 rfl ?_
    refine Go.bipush (v := 7) d_Model_digest_267 rfl (by decide) ?_
    refine Go.icmp_gt (t := 293) d_Model_digest_269 (by decide) rfl (fun c269_1 => ?_) (fun c269_1 => ?_)
    · exact absurd c269_1 (fun w => by have := (nI_ltI (a := 7) (by omega) (by omega)).mp w; omega)
    · refine Go.lload_1 d_Model_digest_272 rfl ?_
      refine Go.ldc2 (v := 31) d_Model_digest_273 rfl x_Model_485 ?_
      refine Go.lmul d_Model_digest_276 rfl ?_
      refine Go.aload_0 d_Model_digest_277 rfl ?_
      refine Go.iload_3 d_Model_digest_278 rfl ?_
      refine Go.iload_4 d_Model_digest_279 rfl ?_
      refine Go.cv2r d_Model_digest_281 rfl l_Model_466 k_Model_teamTold_v (ms_at_m (by omega) hB hS hC hD hE) rfl (c_Model_teamTold (x1 := r9) rfl (by omega) (by omega) hB hS hC hD hE) (Nat.ble_eq_true_of_le (by omega)) rfl rfl ?_
      refine Go.i2l d_Model_digest_284 rfl ?_
      refine Go.ladd d_Model_digest_285 rfl ?_
      refine Go.lstore_1 d_Model_digest_286 rfl (by rfl) ?_
      refine Go.iinc_4 d_Model_digest_287 rfl (by rfl) (nI_inc _) ?_
      refine Go.goto (t := 265) d_Model_digest_290 (by decide) ?_
      exact ih (i + 1) _ (by omega) hk
theorem d_Model_digest_248 : decode M_Model_digest.2.1 248 = .ok (.iload_n 3, 1) := by decide +kernel
theorem d_Model_digest_249 : decode M_Model_digest.2.1 249 = .ok (.aload_n 0, 1) := by decide +kernel
theorem d_Model_digest_250 : decode M_Model_digest.2.1 250 = .ok (.getfield 20, 3) := by decide +kernel
theorem d_Model_digest_253 : decode M_Model_digest.2.1 253 = .ok (.getfield 40, 3) := by decide +kernel
theorem d_Model_digest_256 : decode M_Model_digest.2.1 256 = .ok (.bipush 11, 2) := by decide +kernel
theorem d_Model_digest_258 : decode M_Model_digest.2.1 258 = .ok (.iaload, 1) := by decide +kernel
theorem d_Model_digest_259 : decode M_Model_digest.2.1 259 = .ok (.if_icmp .ge 40, 3) := by decide +kernel
theorem d_Model_digest_262 : decode M_Model_digest.2.1 262 = .ok (.iconst 0, 1) := by decide +kernel
theorem d_Model_digest_263 : decode M_Model_digest.2.1 263 = .ok (.istore 4, 2) := by decide +kernel
theorem d_Model_digest_293 : decode M_Model_digest.2.1 293 = .ok (.iinc 3 1, 3) := by decide +kernel
theorem d_Model_digest_296 : decode M_Model_digest.2.1 296 = .ok (.goto (-48), 3) := by decide +kernel
def l_Model_digest_248 (M : MO) (H : SH) (Y : SX) : Nat → Nat → Int64 → Int64
  | 0, _, d => d
  | k + 1, i, d => (l_Model_digest_248 M H Y k (i + 1) (l_Model_digest_265 M H Y i (8) 0 d))
set_option maxRecDepth 100000 in
set_option maxHeartbeats 800000 in
theorem l_Model_digest_248_go {Γ : G9} {h : AH} {m q r sb ro z : Nat} {n : Nat} {Q : QT} {X : XT} {M : MO} {H : SH} {Y : SX} (geo : m + 2 ≤ q ∧ m + 2 ≤ r ∧ (q + 24 ≤ r ∨ r + 21 ≤ q)) (hB : sh_ha H 0 ≤ 5) (hS : sh_ha H 3 ≤ 6) (hC : sh_ha H 6 ≤ 4) (hD : sh_ha H 9 ≤ 4) (hE : sh_ha H 11 ≤ 4) (hdy : sx_dy Y < 1000000) (hn20 : n ≤ 20) (hn : sh_ha H 11 = n) : ∀ (k i : Nat) (d : Int64), i + k = n → Go Γ M_Model_digest 2 0 0 299 [some (.ref m), some (.long (l_Model_digest_248 M H Y k i d)), none, some (.int (nI (i + k))), none] [] (md_ Γ h m q r r sb ro M H Y) z Q X → Go Γ M_Model_digest 2 0 0 248 [some (.ref m), some (.long d), none, some (.int (nI i)), none] [] (md_ Γ h m q r r sb ro M H Y) z Q X := by
  intro k
  induction k with
  | zero =>
    intro i d hi hk
    refine Go.iload_3 d_Model_digest_248 rfl ?_
    refine Go.aload_0 d_Model_digest_249 rfl ?_
    refine Go.getfield d_Model_digest_250 rfl f_Model_20 (ms_at_m (by omega) hB hS hC hD hE) (by rfl) ?_
    refine Go.getfield d_Model_digest_253 rfl f_Model_40 (ms_at_q (by omega) hB hS hC hD hE) (by rfl) ?_
    refine Go.bipush (v := 11) d_Model_digest_256 rfl (by decide) ?_
    refine Go.iaload d_Model_digest_258 rfl (ms_at_q_5 (by omega) hB hS hC hD hE) (show vp_in (nI 11) 12 from by first | exact vp_in_nI (by omega) (by omega) | exact vp_nle (by assumption) (by omega) (by omega)) ?_
    rw [show (11 : Int32).toNatClampNeg = 11 from by decide]
    refine Go.icmp_ge (t := 299) d_Model_digest_259 (by decide) rfl (fun c259_1 => ?_) (fun c259_1 => ?_)
    · exact hk
    · exact absurd (nI_le (by omega) (by omega)) c259_1
  | succ k ih =>
    intro i d hi hk
    unfold l_Model_digest_248 at hk
    rw [show i + (k + 1) = i + 1 + k by omega] at hk
    refine Go.iload_3 d_Model_digest_248 rfl ?_
    refine Go.aload_0 d_Model_digest_249 rfl ?_
    refine Go.getfield d_Model_digest_250 rfl f_Model_20 (ms_at_m (by omega) hB hS hC hD hE) (by rfl) ?_
    refine Go.getfield d_Model_digest_253 rfl f_Model_40 (ms_at_q (by omega) hB hS hC hD hE) (by rfl) ?_
    refine Go.bipush (v := 11) d_Model_digest_256 rfl (by decide) ?_
    refine Go.iaload d_Model_digest_258 rfl (ms_at_q_5 (by omega) hB hS hC hD hE) (show vp_in (nI 11) 12 from by first | exact vp_in_nI (by omega) (by omega) | exact vp_nle (by assumption) (by omega) (by omega)) ?_
    rw [show (11 : Int32).toNatClampNeg = 11 from by decide]
    refine Go.icmp_ge (t := 299) d_Model_digest_259 (by decide) rfl (fun c259_1 => ?_) (fun c259_1 => ?_)
    · exact absurd c259_1 (nI_ge (by omega) (by omega))
    · refine Go.iconst (v := 0) d_Model_digest_262 rfl (by decide) ?_
      refine Go.istore_4 d_Model_digest_263 rfl (by rfl) ?_
      refine l_Model_digest_265_go (n := (8)) (by omega) geo hB hS hC hD hE hdy (by decide) rfl (8) 0 d (by omega) ?_
      refine Go.iinc_3 d_Model_digest_293 rfl (by rfl) (nI_inc _) ?_
      refine Go.goto (t := 248) d_Model_digest_296 (by decide) ?_
      refine Go.fgt [some (.ref m), some (.long (l_Model_digest_265 M H Y i (8) 0 d)), none, some (.int (nI (i + 1))), none] (by repeat' (first | exact trivial | refine ⟨rfl, ?_⟩)) ?_
      exact ih (i + 1) _ (by omega) hk
theorem d_Model_digest_0 : decode M_Model_digest.2.1 0 = .ok (.aload_n 0, 1) := by decide +kernel
theorem d_Model_digest_1 : decode M_Model_digest.2.1 1 = .ok (.iconst 0, 1) := by decide +kernel
theorem d_Model_digest_2 : decode M_Model_digest.2.1 2 = .ok (.putfield 37, 3) := by decide +kernel
theorem d_Model_digest_5 : decode M_Model_digest.2.1 5 = .ok (.ldc2_w 483, 3) := by decide +kernel
theorem d_Model_digest_8 : decode M_Model_digest.2.1 8 = .ok (.lstore_n 1, 1) := by decide +kernel
theorem d_Model_digest_9 : decode M_Model_digest.2.1 9 = .ok (.iconst 0, 1) := by decide +kernel
theorem d_Model_digest_10 : decode M_Model_digest.2.1 10 = .ok (.istore_n 3, 1) := by decide +kernel
theorem d_Model_digest_40 : decode M_Model_digest.2.1 40 = .ok (.iconst 0, 1) := by decide +kernel
theorem d_Model_digest_41 : decode M_Model_digest.2.1 41 = .ok (.istore_n 3, 1) := by decide +kernel
theorem d_Model_digest_91 : decode M_Model_digest.2.1 91 = .ok (.iconst 0, 1) := by decide +kernel
theorem d_Model_digest_92 : decode M_Model_digest.2.1 92 = .ok (.istore_n 3, 1) := by decide +kernel
theorem d_Model_digest_142 : decode M_Model_digest.2.1 142 = .ok (.iconst 0, 1) := by decide +kernel
theorem d_Model_digest_143 : decode M_Model_digest.2.1 143 = .ok (.istore_n 3, 1) := by decide +kernel
theorem d_Model_digest_194 : decode M_Model_digest.2.1 194 = .ok (.iconst 0, 1) := by decide +kernel
theorem d_Model_digest_195 : decode M_Model_digest.2.1 195 = .ok (.istore_n 3, 1) := by decide +kernel
theorem d_Model_digest_246 : decode M_Model_digest.2.1 246 = .ok (.iconst 0, 1) := by decide +kernel
theorem d_Model_digest_247 : decode M_Model_digest.2.1 247 = .ok (.istore_n 3, 1) := by decide +kernel
theorem d_Model_digest_299 : decode M_Model_digest.2.1 299 = .ok (.lload_n 1, 1) := by decide +kernel
theorem d_Model_digest_300 : decode M_Model_digest.2.1 300 = .ok (.lreturn, 1) := by decide +kernel
def s_Model_digest (M : MO) (H : SH) (Y : SX) : Int64 × MO := ((l_Model_digest_248 (mo_th' M 0) H Y (sh_ha H 11) 0 (l_Model_digest_196 (mo_th' M 0) H Y (sh_ha H 9) 0 (l_Model_digest_144 (mo_th' M 0) H Y (sh_ha H 6) 0 (l_Model_digest_93 (mo_th' M 0) H Y (sh_ha H 3) 0 (l_Model_digest_42 (mo_th' M 0) H Y (sh_ha H 0) 0 (l_Model_digest_11 (mo_th' M 0) H Y (15) 0 907)))))), (mo_th' M 0))
set_option maxRecDepth 100000 in
set_option maxHeartbeats 800000 in
theorem c_Model_digest {Γ : G9} {h : AH} {m q r sb ro z : Nat} {M : MO} {H : SH} {Y : SX} (geo : m + 2 ≤ q ∧ m + 2 ≤ r ∧ (q + 24 ≤ r ∨ r + 21 ≤ q)) (hB : sh_ha H 0 ≤ 5) (hS : sh_ha H 3 ≤ 6) (hC : sh_ha H 6 ≤ 4) (hD : sh_ha H 9 ≤ 4) (hE : sh_ha H 11 ≤ 4) (hdy : sx_dy Y < 1000000) : CallR Γ M_Model_digest 2 [.ref m] (md_ Γ h m q r r sb ro M H Y) z (some (.long (s_Model_digest M H Y).1)) (md_ Γ h m q r r sb ro (s_Model_digest M H Y).2 H Y) := by
  refine Call.of_go (L := [some (.ref m), none, none, none, none]) (by decide +kernel) rfl (by exact Nat.le_of_ble_eq_true rfl) ?_
  unfold s_Model_digest
  refine Go.aload_0 d_Model_digest_0 rfl ?_
  refine Go.iconst (v := 0) d_Model_digest_1 rfl (by decide) ?_
  refine Go.putfield d_Model_digest_2 rfl f_Model_37_p (Or.inl (fun C T N h => by cases h; rfl)) (ms_at_m (by omega) hB hS hC hD hE) (by exact Nat.le_of_ble_eq_true rfl) rfl rfl ?_
  refine Go.heq (ms_put_m_thrown (by omega) hB hS hC hD hE) ?_
  refine Go.ldc2 (v := 907) d_Model_digest_5 rfl x_Model_483 ?_
  refine Go.lstore_1 d_Model_digest_8 rfl (by rfl) ?_
  refine Go.iconst (v := 0) d_Model_digest_9 rfl (by decide) ?_
  refine Go.istore_3 d_Model_digest_10 rfl (by rfl) ?_
  refine l_Model_digest_11_go (n := (15)) geo hB hS hC hD hE hdy (by decide) rfl (15) 0 907 (by omega) ?_
  refine Go.iconst (v := 0) d_Model_digest_40 rfl (by decide) ?_
  refine Go.istore_3 d_Model_digest_41 rfl (by rfl) ?_
  refine l_Model_digest_42_go (n := (sh_ha H 0)) geo hB hS hC hD hE hdy (by omega) rfl (sh_ha H 0) 0 (l_Model_digest_11 (mo_th' M 0) H Y (15) 0 907) (by omega) ?_
  refine Go.iconst (v := 0) d_Model_digest_91 rfl (by decide) ?_
  refine Go.istore_3 d_Model_digest_92 rfl (by rfl) ?_
  refine l_Model_digest_93_go (n := (sh_ha H 3)) geo hB hS hC hD hE hdy (by omega) rfl (sh_ha H 3) 0 (l_Model_digest_42 (mo_th' M 0) H Y (sh_ha H 0) 0 (l_Model_digest_11 (mo_th' M 0) H Y (15) 0 907)) (by omega) ?_
  refine Go.iconst (v := 0) d_Model_digest_142 rfl (by decide) ?_
  refine Go.istore_3 d_Model_digest_143 rfl (by rfl) ?_
  refine l_Model_digest_144_go (n := (sh_ha H 6)) geo hB hS hC hD hE hdy (by omega) rfl (sh_ha H 6) 0 (l_Model_digest_93 (mo_th' M 0) H Y (sh_ha H 3) 0 (l_Model_digest_42 (mo_th' M 0) H Y (sh_ha H 0) 0 (l_Model_digest_11 (mo_th' M 0) H Y (15) 0 907))) (by omega) ?_
  refine Go.iconst (v := 0) d_Model_digest_194 rfl (by decide) ?_
  refine Go.istore_3 d_Model_digest_195 rfl (by rfl) ?_
  refine l_Model_digest_196_go (n := (sh_ha H 9)) geo hB hS hC hD hE hdy (by omega) rfl (sh_ha H 9) 0 (l_Model_digest_144 (mo_th' M 0) H Y (sh_ha H 6) 0 (l_Model_digest_93 (mo_th' M 0) H Y (sh_ha H 3) 0 (l_Model_digest_42 (mo_th' M 0) H Y (sh_ha H 0) 0 (l_Model_digest_11 (mo_th' M 0) H Y (15) 0 907)))) (by omega) ?_
  refine Go.iconst (v := 0) d_Model_digest_246 rfl (by decide) ?_
  refine Go.istore_3 d_Model_digest_247 rfl (by rfl) ?_
  refine l_Model_digest_248_go (n := (sh_ha H 11)) geo hB hS hC hD hE hdy (by omega) rfl (sh_ha H 11) 0 (l_Model_digest_196 (mo_th' M 0) H Y (sh_ha H 9) 0 (l_Model_digest_144 (mo_th' M 0) H Y (sh_ha H 6) 0 (l_Model_digest_93 (mo_th' M 0) H Y (sh_ha H 3) 0 (l_Model_digest_42 (mo_th' M 0) H Y (sh_ha H 0) 0 (l_Model_digest_11 (mo_th' M 0) H Y (15) 0 907))))) (by omega) ?_
  refine Go.lload_1 d_Model_digest_299 rfl ?_
  exact Go.lret d_Model_digest_300 rfl ⟨rfl, by dsimp only, rfl⟩
