/-! the reference: which rows of tokens are lists -/
theorem nI_pred1 {n : Nat} (h : 1 ≤ n) : nI n - 1 = nI (n - 1) := by
  cases n with
  | zero => omega
  | succ k => rw [nI_pred]; rfl
def mk_ (Γ : G9) (h : AH) (m q qs sa sb ro : Nat) (M : MO) (H : SH) : AH := (blk (blk h m 2 (moC Γ qs sa sb ro m M)) q 24 (shC Γ q H))
theorem mk_at_q {Γ : G9} {h : AH} {m q qs sa sb ro : Nat} {M : MO} {H : SH} (geo : m + 2 ≤ q) : (mk_ Γ h m q qs sa sb ro M H) q = some (.inr (9, [.ref (q + 1), .ref (q + 2), .ref (q + 3), .ref (q + 4), .ref (q + 5), .ref (q + 6), .int (sh_ln H), .ref (q + 7), .ref (q + 8), .ref (q + 9), .ref (q + 10), .ref (q + 11), .ref (q + 12), .ref (q + 13), .ref (q + 14), .ref (q + 15), .ref (q + 16), .ref (q + 17), .ref (q + 18), .int (sh_dt H), .int (nI (sh_or H)), .ref (q + 19), .ref (q + 20), .ref (q + 21), .ref (q + 22), .ref (q + 23)])) := by
  unfold mk_
  exact (sh_g0)
theorem mk_at_m {Γ : G9} {h : AH} {m q qs sa sb ro : Nat} {M : MO} {H : SH} (geo : m + 2 ≤ q) : (mk_ Γ h m q qs sa sb ro M H) m = some (.inr (11, [.int (mo_th M), .ref (m + 1), .int (nI (mo_sz M)), .int (mo_ea M), .int (nI (mo_tk M)), .int (nI (mo_dp M)), .ref qs, .ref sa, .ref sb, .int (mo_wk M), .ref ro])) := by
  unfold mk_
  exact ((blk_out (by omega)).trans (mo_g0))
theorem mk_at_q_1 {Γ : G9} {h : AH} {m q qs sa sb ro : Nat} {M : MO} {H : SH} (geo : m + 2 ≤ q) : (mk_ Γ h m q qs sa sb ro M H) (q + 1) = some (aI Γ 401 (sh_kd H)) := by
  unfold mk_
  exact (sh_g1)
theorem mk_put_m_token {Γ : G9} {h : AH} {m q qs sa sb ro : Nat} {M : MO} {H : SH} {v : Nat} (geo : m + 2 ≤ q) : hup (mk_ Γ h m q qs sa sb ro M H) m (.inr (11, [.int (mo_th M), .ref (m + 1), .int (nI (mo_sz M)), .int (mo_ea M), .int (nI (mo_tk M)), .int (nI (mo_dp M)), .ref qs, .ref sa, .ref sb, .int (mo_wk M), .ref ro].set 4 (.int (nI v)))) = (mk_ Γ h m q qs sa sb ro (mo_tk' M v) H) := by
  unfold mk_
  exact ((hup_blk (by omega)).trans (blk_in (mo_p_tk (v := v))))
theorem d_Model_eat_0_0 : decode M_Model_eat_0.2.1 0 = .ok (.aload_n 1, 1) := by decide +kernel
theorem d_Model_eat_0_1 : decode M_Model_eat_0.2.1 1 = .ok (.getfield 93, 3) := by decide +kernel
theorem d_Model_eat_0_4 : decode M_Model_eat_0.2.1 4 = .ok (.aload_n 0, 1) := by decide +kernel
theorem d_Model_eat_0_5 : decode M_Model_eat_0.2.1 5 = .ok (.getfield 99, 3) := by decide +kernel
theorem d_Model_eat_0_8 : decode M_Model_eat_0.2.1 8 = .ok (.iaload, 1) := by decide +kernel
theorem d_Model_eat_0_9 : decode M_Model_eat_0.2.1 9 = .ok (.iload_n 2, 1) := by decide +kernel
theorem d_Model_eat_0_10 : decode M_Model_eat_0.2.1 10 = .ok (.if_icmp .eq 5, 3) := by decide +kernel
theorem d_Model_eat_0_13 : decode M_Model_eat_0.2.1 13 = .ok (.iconst 0, 1) := by decide +kernel
theorem d_Model_eat_0_14 : decode M_Model_eat_0.2.1 14 = .ok (.ireturn, 1) := by decide +kernel
theorem d_Model_eat_0_15 : decode M_Model_eat_0.2.1 15 = .ok (.aload_n 0, 1) := by decide +kernel
theorem d_Model_eat_0_16 : decode M_Model_eat_0.2.1 16 = .ok (.dup, 1) := by decide +kernel
theorem d_Model_eat_0_17 : decode M_Model_eat_0.2.1 17 = .ok (.getfield 99, 3) := by decide +kernel
theorem d_Model_eat_0_20 : decode M_Model_eat_0.2.1 20 = .ok (.iconst 1, 1) := by decide +kernel
theorem d_Model_eat_0_21 : decode M_Model_eat_0.2.1 21 = .ok (.iadd, 1) := by decide +kernel
theorem d_Model_eat_0_22 : decode M_Model_eat_0.2.1 22 = .ok (.putfield 99, 3) := by decide +kernel
theorem d_Model_eat_0_25 : decode M_Model_eat_0.2.1 25 = .ok (.iconst 1, 1) := by decide +kernel
theorem d_Model_eat_0_26 : decode M_Model_eat_0.2.1 26 = .ok (.ireturn, 1) := by decide +kernel
def s_Model_eat_0 (H : SH)  (x2 : Int32) (M : MO) : Option (Int32 × MO) := (if (mo_tk M) < 401 then (if ((sh_kd H) (mo_tk M)) = x2 then some (1, (mo_tk' M ((mo_tk M) + 1))) else some (0, M)) else none)
set_option maxRecDepth 100000 in
set_option maxHeartbeats 4000000 in
theorem c_Model_eat_0 {Γ : G9} {h : AH} {m q qs sa sb ro z : Nat} {M : MO} {H : SH} {x2 : Int32} {p : Int32 × MO} (geo : m + 2 ≤ q) (hr : s_Model_eat_0 H  x2 M = some p) : CallR Γ M_Model_eat_0 0 [.ref m, .ref q, .int x2] (mk_ Γ h m q qs sa sb ro M H) z (some (.int p.1)) (mk_ Γ h m q qs sa sb ro p.2 H) := by
  refine Call.of_go (L := [some (.ref m), some (.ref q), some (.int x2)]) (by decide +kernel) rfl (by exact Nat.le_of_ble_eq_true rfl) ?_
  unfold s_Model_eat_0 at hr
  refine Go.aload_1 d_Model_eat_0_0 rfl ?_
  refine Go.getfield d_Model_eat_0_1 rfl f_Model_93 (mk_at_q (by omega)) (by rfl) ?_
  refine Go.aload_0 d_Model_eat_0_4 rfl ?_
  refine Go.getfield d_Model_eat_0_5 rfl f_Model_99 (mk_at_m (by omega)) (by rfl) ?_
  have o8_1 : (mo_tk M) < 401 := Classical.byContradiction fun w => by
    rw [if_neg w] at hr
    cases hr
  refine Go.iaload d_Model_eat_0_8 rfl (mk_at_q_1 (by omega)) (vp_in_nI o8_1 (by decide)) ?_
  rw [nI_clamp (show (mo_tk M) < 2 ^ 31 by omega)]
  refine Go.iload_2 d_Model_eat_0_9 rfl ?_
  refine Go.icmp_eq (t := 15) d_Model_eat_0_10 (by decide) rfl (fun c10_2 => ?_) (fun c10_2 => ?_)
  · refine Go.aload_0 d_Model_eat_0_15 rfl ?_
    refine Go.dup d_Model_eat_0_16 rfl rfl ?_
    refine Go.getfield d_Model_eat_0_17 rfl f_Model_99 (mk_at_m (by omega)) (by rfl) ?_
    refine Go.iconst (v := 1) d_Model_eat_0_20 rfl (by decide) ?_
    refine Go.iadd d_Model_eat_0_21 rfl ?_
    rw [show (nI (mo_tk M)) + 1 = nI ((mo_tk M) + 1) from nI_add _ _]
    refine Go.putfield d_Model_eat_0_22 rfl f_Model_99_p (Or.inl (fun C T N h => by cases h; rfl)) (mk_at_m (by omega)) (by exact Nat.le_of_ble_eq_true rfl) rfl rfl ?_
    refine Go.heq (mk_put_m_token (by omega)) ?_
    refine Go.iconst (v := 1) d_Model_eat_0_25 rfl (by decide) ?_
    rw [if_pos o8_1, if_pos c10_2] at hr
    cases hr
    exact Go.iret d_Model_eat_0_26 rfl rfl ⟨rfl, rfl, rfl⟩
  · refine Go.iconst (v := 0) d_Model_eat_0_13 rfl (by decide) ?_
    rw [if_pos o8_1, if_neg c10_2] at hr
    cases hr
    exact Go.iret d_Model_eat_0_14 rfl rfl ⟨rfl, rfl, rfl⟩
theorem mk_c_Model_isIn_ {Γ : G9} {h : AH} {m q qs sa sb ro z : Nat} {M : MO} {H : SH} {x1 : Int32} {x2 : Int32} {x3 : Int32} (geo : m + 2 ≤ q) : CallR Γ M_Model_isIn 0 [.int x1, .int x2, .int x3] (mk_ Γ h m q qs sa sb ro M H) z (some (.int (s_Model_isIn x1 x2 x3))) (mk_ Γ h m q qs sa sb ro M H) := by
  unfold mk_
  exact CallR.conv rfl rfl (c_Model_isIn)
theorem d_Model_eatIn_0 : decode M_Model_eatIn.2.1 0 = .ok (.aload_n 1, 1) := by decide +kernel
theorem d_Model_eatIn_1 : decode M_Model_eatIn.2.1 1 = .ok (.getfield 93, 3) := by decide +kernel
theorem d_Model_eatIn_4 : decode M_Model_eatIn.2.1 4 = .ok (.aload_n 0, 1) := by decide +kernel
theorem d_Model_eatIn_5 : decode M_Model_eatIn.2.1 5 = .ok (.getfield 99, 3) := by decide +kernel
theorem d_Model_eatIn_8 : decode M_Model_eatIn.2.1 8 = .ok (.iaload, 1) := by decide +kernel
theorem d_Model_eatIn_9 : decode M_Model_eatIn.2.1 9 = .ok (.iload_n 2, 1) := by decide +kernel
theorem d_Model_eatIn_10 : decode M_Model_eatIn.2.1 10 = .ok (.iload_n 3, 1) := by decide +kernel
theorem d_Model_eatIn_11 : decode M_Model_eatIn.2.1 11 = .ok (.invokestatic 43, 3) := by decide +kernel
theorem d_Model_eatIn_14 : decode M_Model_eatIn.2.1 14 = .ok (.ifCond .ne 5, 3) := by decide +kernel
theorem d_Model_eatIn_17 : decode M_Model_eatIn.2.1 17 = .ok (.iconst 0, 1) := by decide +kernel
theorem d_Model_eatIn_18 : decode M_Model_eatIn.2.1 18 = .ok (.ireturn, 1) := by decide +kernel
theorem d_Model_eatIn_19 : decode M_Model_eatIn.2.1 19 = .ok (.aload_n 0, 1) := by decide +kernel
theorem d_Model_eatIn_20 : decode M_Model_eatIn.2.1 20 = .ok (.dup, 1) := by decide +kernel
theorem d_Model_eatIn_21 : decode M_Model_eatIn.2.1 21 = .ok (.getfield 99, 3) := by decide +kernel
theorem d_Model_eatIn_24 : decode M_Model_eatIn.2.1 24 = .ok (.iconst 1, 1) := by decide +kernel
theorem d_Model_eatIn_25 : decode M_Model_eatIn.2.1 25 = .ok (.iadd, 1) := by decide +kernel
theorem d_Model_eatIn_26 : decode M_Model_eatIn.2.1 26 = .ok (.putfield 99, 3) := by decide +kernel
theorem d_Model_eatIn_29 : decode M_Model_eatIn.2.1 29 = .ok (.iconst 1, 1) := by decide +kernel
theorem d_Model_eatIn_30 : decode M_Model_eatIn.2.1 30 = .ok (.ireturn, 1) := by decide +kernel
def s_Model_eatIn (H : SH)  (x2 : Int32) (x3 : Int32) (M : MO) : Option (Int32 × MO) := (if (mo_tk M) < 401 then (if (s_Model_isIn ((sh_kd H) (mo_tk M)) x2 x3) = 0 then some (0, M) else some (1, (mo_tk' M ((mo_tk M) + 1)))) else none)
set_option maxRecDepth 100000 in
set_option maxHeartbeats 4000000 in
theorem c_Model_eatIn {Γ : G9} {h : AH} {m q qs sa sb ro z : Nat} {M : MO} {H : SH} {x2 : Int32} {x3 : Int32} {p : Int32 × MO} (geo : m + 2 ≤ q) (hr : s_Model_eatIn H  x2 x3 M = some p) : CallR Γ M_Model_eatIn 1 [.ref m, .ref q, .int x2, .int x3] (mk_ Γ h m q qs sa sb ro M H) z (some (.int p.1)) (mk_ Γ h m q qs sa sb ro p.2 H) := by
  refine Call.of_go (L := [some (.ref m), some (.ref q), some (.int x2), some (.int x3)]) (by decide +kernel) rfl (by exact Nat.le_of_ble_eq_true rfl) ?_
  unfold s_Model_eatIn at hr
  refine Go.aload_1 d_Model_eatIn_0 rfl ?_
  refine Go.getfield d_Model_eatIn_1 rfl f_Model_93 (mk_at_q (by omega)) (by rfl) ?_
  refine Go.aload_0 d_Model_eatIn_4 rfl ?_
  refine Go.getfield d_Model_eatIn_5 rfl f_Model_99 (mk_at_m (by omega)) (by rfl) ?_
  have o8_1 : (mo_tk M) < 401 := Classical.byContradiction fun w => by
    rw [if_neg w] at hr
    cases hr
  refine Go.iaload d_Model_eatIn_8 rfl (mk_at_q_1 (by omega)) (vp_in_nI o8_1 (by decide)) ?_
  rw [nI_clamp (show (mo_tk M) < 2 ^ 31 by omega)]
  refine Go.iload_2 d_Model_eatIn_9 rfl ?_
  refine Go.iload_3 d_Model_eatIn_10 rfl ?_
  refine Go.cs3r d_Model_eatIn_11 rfl l_Model_43 k_Model_isIn_s rfl (mk_c_Model_isIn_ (by omega)) (Nat.ble_eq_true_of_le (by omega)) rfl rfl ?_
  refine Go.if_ne (t := 19) d_Model_eatIn_14 (by decide) rfl (fun c14_2 => ?_) (fun c14_2 => ?_)
  · refine Go.aload_0 d_Model_eatIn_19 rfl ?_
    refine Go.dup d_Model_eatIn_20 rfl rfl ?_
    refine Go.getfield d_Model_eatIn_21 rfl f_Model_99 (mk_at_m (by omega)) (by rfl) ?_
    refine Go.iconst (v := 1) d_Model_eatIn_24 rfl (by decide) ?_
    refine Go.iadd d_Model_eatIn_25 rfl ?_
    rw [show (nI (mo_tk M)) + 1 = nI ((mo_tk M) + 1) from nI_add _ _]
    refine Go.putfield d_Model_eatIn_26 rfl f_Model_99_p (Or.inl (fun C T N h => by cases h; rfl)) (mk_at_m (by omega)) (by exact Nat.le_of_ble_eq_true rfl) rfl rfl ?_
    refine Go.heq (mk_put_m_token (by omega)) ?_
    refine Go.iconst (v := 1) d_Model_eatIn_29 rfl (by decide) ?_
    rw [if_pos o8_1, if_neg c14_2] at hr
    cases hr
    exact Go.iret d_Model_eatIn_30 rfl rfl ⟨rfl, rfl, rfl⟩
  · refine Go.iconst (v := 0) d_Model_eatIn_17 rfl (by decide) ?_
    rw [if_pos o8_1, if_pos c14_2] at hr
    cases hr
    exact Go.iret d_Model_eatIn_18 rfl rfl ⟨rfl, rfl, rfl⟩
theorem mk_put_m_depth {Γ : G9} {h : AH} {m q qs sa sb ro : Nat} {M : MO} {H : SH} {v : Nat} (geo : m + 2 ≤ q) : hup (mk_ Γ h m q qs sa sb ro M H) m (.inr (11, [.int (mo_th M), .ref (m + 1), .int (nI (mo_sz M)), .int (mo_ea M), .int (nI (mo_tk M)), .int (nI (mo_dp M)), .ref qs, .ref sa, .ref sb, .int (mo_wk M), .ref ro].set 5 (.int (nI v)))) = (mk_ Γ h m q qs sa sb ro (mo_dp' M v) H) := by
  unfold mk_
  exact ((hup_blk (by omega)).trans (blk_in (mo_p_dp (v := v))))
theorem d_Model_goDown_0 : decode M_Model_goDown.2.1 0 = .ok (.aload_n 1, 1) := by decide +kernel
theorem d_Model_goDown_1 : decode M_Model_goDown.2.1 1 = .ok (.getfield 93, 3) := by decide +kernel
theorem d_Model_goDown_4 : decode M_Model_goDown.2.1 4 = .ok (.aload_n 0, 1) := by decide +kernel
theorem d_Model_goDown_5 : decode M_Model_goDown.2.1 5 = .ok (.getfield 99, 3) := by decide +kernel
theorem d_Model_goDown_8 : decode M_Model_goDown.2.1 8 = .ok (.iaload, 1) := by decide +kernel
theorem d_Model_goDown_9 : decode M_Model_goDown.2.1 9 = .ok (.iload_n 2, 1) := by decide +kernel
theorem d_Model_goDown_10 : decode M_Model_goDown.2.1 10 = .ok (.if_icmp .ne 12, 3) := by decide +kernel
theorem d_Model_goDown_13 : decode M_Model_goDown.2.1 13 = .ok (.aload_n 0, 1) := by decide +kernel
theorem d_Model_goDown_14 : decode M_Model_goDown.2.1 14 = .ok (.getfield 102, 3) := by decide +kernel
theorem d_Model_goDown_17 : decode M_Model_goDown.2.1 17 = .ok (.bipush 8, 2) := by decide +kernel
theorem d_Model_goDown_19 : decode M_Model_goDown.2.1 19 = .ok (.if_icmp .ne 5, 3) := by decide +kernel
theorem d_Model_goDown_22 : decode M_Model_goDown.2.1 22 = .ok (.iconst 0, 1) := by decide +kernel
theorem d_Model_goDown_23 : decode M_Model_goDown.2.1 23 = .ok (.ireturn, 1) := by decide +kernel
theorem d_Model_goDown_24 : decode M_Model_goDown.2.1 24 = .ok (.aload_n 0, 1) := by decide +kernel
theorem d_Model_goDown_25 : decode M_Model_goDown.2.1 25 = .ok (.dup, 1) := by decide +kernel
theorem d_Model_goDown_26 : decode M_Model_goDown.2.1 26 = .ok (.getfield 102, 3) := by decide +kernel
theorem d_Model_goDown_29 : decode M_Model_goDown.2.1 29 = .ok (.iconst 1, 1) := by decide +kernel
theorem d_Model_goDown_30 : decode M_Model_goDown.2.1 30 = .ok (.iadd, 1) := by decide +kernel
theorem d_Model_goDown_31 : decode M_Model_goDown.2.1 31 = .ok (.putfield 102, 3) := by decide +kernel
theorem d_Model_goDown_34 : decode M_Model_goDown.2.1 34 = .ok (.aload_n 0, 1) := by decide +kernel
theorem d_Model_goDown_35 : decode M_Model_goDown.2.1 35 = .ok (.dup, 1) := by decide +kernel
theorem d_Model_goDown_36 : decode M_Model_goDown.2.1 36 = .ok (.getfield 99, 3) := by decide +kernel
theorem d_Model_goDown_39 : decode M_Model_goDown.2.1 39 = .ok (.iconst 1, 1) := by decide +kernel
theorem d_Model_goDown_40 : decode M_Model_goDown.2.1 40 = .ok (.iadd, 1) := by decide +kernel
theorem d_Model_goDown_41 : decode M_Model_goDown.2.1 41 = .ok (.putfield 99, 3) := by decide +kernel
theorem d_Model_goDown_44 : decode M_Model_goDown.2.1 44 = .ok (.iconst 1, 1) := by decide +kernel
theorem d_Model_goDown_45 : decode M_Model_goDown.2.1 45 = .ok (.ireturn, 1) := by decide +kernel
def s_Model_goDown (H : SH)  (x2 : Int32) (M : MO) : Option (Int32 × MO) := (if (mo_tk M) < 401 then (if ((sh_kd H) (mo_tk M)) = x2 then (if (nI (mo_dp M)) = 8 then some (0, M) else some (1, (mo_tk' (mo_dp' M ((mo_dp M) + 1)) ((mo_tk M) + 1)))) else some (0, M)) else none)
set_option maxRecDepth 100000 in
set_option maxHeartbeats 4000000 in
theorem c_Model_goDown {Γ : G9} {h : AH} {m q qs sa sb ro z : Nat} {M : MO} {H : SH} {x2 : Int32} {p : Int32 × MO} (geo : m + 2 ≤ q) (hr : s_Model_goDown H  x2 M = some p) : CallR Γ M_Model_goDown 0 [.ref m, .ref q, .int x2] (mk_ Γ h m q qs sa sb ro M H) z (some (.int p.1)) (mk_ Γ h m q qs sa sb ro p.2 H) := by
  refine Call.of_go (L := [some (.ref m), some (.ref q), some (.int x2)]) (by decide +kernel) rfl (by exact Nat.le_of_ble_eq_true rfl) ?_
  unfold s_Model_goDown at hr
  refine Go.aload_1 d_Model_goDown_0 rfl ?_
  refine Go.getfield d_Model_goDown_1 rfl f_Model_93 (mk_at_q (by omega)) (by rfl) ?_
  refine Go.aload_0 d_Model_goDown_4 rfl ?_
  refine Go.getfield d_Model_goDown_5 rfl f_Model_99 (mk_at_m (by omega)) (by rfl) ?_
  have o8_1 : (mo_tk M) < 401 := Classical.byContradiction fun w => by
    rw [if_neg w] at hr
    cases hr
  refine Go.iaload d_Model_goDown_8 rfl (mk_at_q_1 (by omega)) (vp_in_nI o8_1 (by decide)) ?_
  rw [nI_clamp (show (mo_tk M) < 2 ^ 31 by omega)]
  refine Go.iload_2 d_Model_goDown_9 rfl ?_
  refine Go.icmp_ne (t := 22) d_Model_goDown_10 (by decide) rfl (fun c10_2 => ?_) (fun c10_2 => ?_)
  · refine Go.iconst (v := 0) d_Model_goDown_22 rfl (by decide) ?_
    rw [if_pos o8_1, if_neg c10_2] at hr
    cases hr
    exact Go.iret d_Model_goDown_23 rfl rfl ⟨rfl, rfl, rfl⟩
  · refine Go.aload_0 d_Model_goDown_13 rfl ?_
    refine Go.getfield d_Model_goDown_14 rfl f_Model_102 (mk_at_m (by omega)) (by rfl) ?_
    refine Go.bipush (v := 8) d_Model_goDown_17 rfl (by decide) ?_
    refine Go.icmp_ne (t := 24) d_Model_goDown_19 (by decide) rfl (fun c19_3 => ?_) (fun c19_3 => ?_)
    · refine Go.aload_0 d_Model_goDown_24 rfl ?_
      refine Go.dup d_Model_goDown_25 rfl rfl ?_
      refine Go.getfield d_Model_goDown_26 rfl f_Model_102 (mk_at_m (by omega)) (by rfl) ?_
      refine Go.iconst (v := 1) d_Model_goDown_29 rfl (by decide) ?_
      refine Go.iadd d_Model_goDown_30 rfl ?_
      rw [show (nI (mo_dp M)) + 1 = nI ((mo_dp M) + 1) from nI_add _ _]
      refine Go.putfield d_Model_goDown_31 rfl f_Model_102_p (Or.inl (fun C T N h => by cases h; rfl)) (mk_at_m (by omega)) (by exact Nat.le_of_ble_eq_true rfl) rfl rfl ?_
      refine Go.heq (mk_put_m_depth (by omega)) ?_
      refine Go.aload_0 d_Model_goDown_34 rfl ?_
      refine Go.dup d_Model_goDown_35 rfl rfl ?_
      refine Go.getfield d_Model_goDown_36 rfl f_Model_99 (mk_at_m (by omega)) (by rfl) ?_
      refine Go.iconst (v := 1) d_Model_goDown_39 rfl (by decide) ?_
      refine Go.iadd d_Model_goDown_40 rfl ?_
      rw [show (nI (mo_tk M)) + 1 = nI ((mo_tk M) + 1) from nI_add _ _]
      refine Go.putfield d_Model_goDown_41 rfl f_Model_99_p (Or.inl (fun C T N h => by cases h; rfl)) (mk_at_m (by omega)) (by exact Nat.le_of_ble_eq_true rfl) rfl rfl ?_
      refine Go.heq (mk_put_m_token (by omega)) ?_
      refine Go.iconst (v := 1) d_Model_goDown_44 rfl (by decide) ?_
      rw [if_pos o8_1, if_pos c10_2, if_neg c19_3] at hr
      cases hr
      exact Go.iret d_Model_goDown_45 rfl rfl ⟨rfl, rfl, rfl⟩
    · refine Go.iconst (v := 0) d_Model_goDown_22 rfl (by decide) ?_
      rw [if_pos o8_1, if_pos c10_2, if_pos c19_3] at hr
      cases hr
      exact Go.iret d_Model_goDown_23 rfl rfl ⟨rfl, rfl, rfl⟩
theorem d_Model_isNumber_0 : decode M_Model_isNumber.2.1 0 = .ok (.aload_n 0, 1) := by decide +kernel
theorem d_Model_isNumber_1 : decode M_Model_isNumber.2.1 1 = .ok (.aload_n 1, 1) := by decide +kernel
theorem d_Model_isNumber_2 : decode M_Model_isNumber.2.1 2 = .ok (.iload_n 2, 1) := by decide +kernel
theorem d_Model_isNumber_3 : decode M_Model_isNumber.2.1 3 = .ok (.invokevirtual 109, 3) := by decide +kernel
theorem d_Model_isNumber_6 : decode M_Model_isNumber.2.1 6 = .ok (.ifCond .eq 17, 3) := by decide +kernel
theorem d_Model_isNumber_9 : decode M_Model_isNumber.2.1 9 = .ok (.aload_n 0, 1) := by decide +kernel
theorem d_Model_isNumber_10 : decode M_Model_isNumber.2.1 10 = .ok (.aload_n 1, 1) := by decide +kernel
theorem d_Model_isNumber_11 : decode M_Model_isNumber.2.1 11 = .ok (.bipush 37, 2) := by decide +kernel
theorem d_Model_isNumber_13 : decode M_Model_isNumber.2.1 13 = .ok (.invokevirtual 109, 3) := by decide +kernel
theorem d_Model_isNumber_16 : decode M_Model_isNumber.2.1 16 = .ok (.ifCond .eq 7, 3) := by decide +kernel
theorem d_Model_isNumber_19 : decode M_Model_isNumber.2.1 19 = .ok (.iconst 1, 1) := by decide +kernel
theorem d_Model_isNumber_20 : decode M_Model_isNumber.2.1 20 = .ok (.goto 4, 3) := by decide +kernel
theorem d_Model_isNumber_23 : decode M_Model_isNumber.2.1 23 = .ok (.iconst 0, 1) := by decide +kernel
theorem d_Model_isNumber_24 : decode M_Model_isNumber.2.1 24 = .ok (.ireturn, 1) := by decide +kernel
def s_Model_isNumber (H : SH)  (x2 : Int32) (M : MO) : Option (Int32 × MO) := ((s_Model_eat_0 H x2 M).bind fun p3_1 => (if p3_1.1 = 0 then some (0, p3_1.2) else ((s_Model_eat_0 H 37 p3_1.2).bind fun p13_3 => (if p13_3.1 = 0 then some (0, p13_3.2) else some (1, p13_3.2)))))
set_option maxRecDepth 100000 in
set_option maxHeartbeats 4000000 in
theorem c_Model_isNumber {Γ : G9} {h : AH} {m q qs sa sb ro z : Nat} {M : MO} {H : SH} {x2 : Int32} {p : Int32 × MO} (geo : m + 2 ≤ q) (hr : s_Model_isNumber H  x2 M = some p) : CallR Γ M_Model_isNumber 1 [.ref m, .ref q, .int x2] (mk_ Γ h m q qs sa sb ro M H) z (some (.int p.1)) (mk_ Γ h m q qs sa sb ro p.2 H) := by
  refine Call.of_go (L := [some (.ref m), some (.ref q), some (.int x2)]) (by decide +kernel) rfl (by exact Nat.le_of_ble_eq_true rfl) ?_
  unfold s_Model_isNumber at hr
  refine Go.aload_0 d_Model_isNumber_0 rfl ?_
  refine Go.aload_1 d_Model_isNumber_1 rfl ?_
  refine Go.iload_2 d_Model_isNumber_2 rfl ?_
  obtain ⟨p3_1, hp3_1, hr⟩ := Option.bind_eq_some_iff.mp hr
  try dsimp only at hr
  refine Go.cv2r d_Model_isNumber_3 rfl l_Model_109 k_Model_eat_0_v (mk_at_m (by omega)) rfl (c_Model_eat_0 geo hp3_1) (Nat.ble_eq_true_of_le (by omega)) rfl rfl ?_
  refine Go.if_eq (t := 23) d_Model_isNumber_6 (by decide) rfl (fun c6_2 => ?_) (fun c6_2 => ?_)
  · refine Go.iconst (v := 0) d_Model_isNumber_23 rfl (by decide) ?_
    rw [if_pos c6_2] at hr
    cases hr
    exact Go.iret d_Model_isNumber_24 rfl rfl ⟨rfl, rfl, rfl⟩
  · refine Go.aload_0 d_Model_isNumber_9 rfl ?_
    refine Go.aload_1 d_Model_isNumber_10 rfl ?_
    refine Go.bipush (v := 37) d_Model_isNumber_11 rfl (by decide) ?_
    rw [if_neg c6_2] at hr
    obtain ⟨p13_3, hp13_3, hr⟩ := Option.bind_eq_some_iff.mp hr
    try dsimp only at hr
    refine Go.cv2r d_Model_isNumber_13 rfl l_Model_109 k_Model_eat_0_v (mk_at_m (by omega)) rfl (c_Model_eat_0 geo hp13_3) (Nat.ble_eq_true_of_le (by omega)) rfl rfl ?_
    refine Go.if_eq (t := 23) d_Model_isNumber_16 (by decide) rfl (fun c16_4 => ?_) (fun c16_4 => ?_)
    · refine Go.iconst (v := 0) d_Model_isNumber_23 rfl (by decide) ?_
      rw [if_pos c16_4] at hr
      cases hr
      exact Go.iret d_Model_isNumber_24 rfl rfl ⟨rfl, rfl, rfl⟩
    · refine Go.iconst (v := 1) d_Model_isNumber_19 rfl (by decide) ?_
      refine Go.goto (t := 24) d_Model_isNumber_20 (by decide) ?_
      rw [if_neg c16_4] at hr
      cases hr
      exact Go.iret d_Model_isNumber_24 rfl rfl ⟨rfl, rfl, rfl⟩
theorem d_Model_isName_0 : decode M_Model_isName.2.1 0 = .ok (.aload_n 0, 1) := by decide +kernel
theorem d_Model_isName_1 : decode M_Model_isName.2.1 1 = .ok (.aload_n 1, 1) := by decide +kernel
theorem d_Model_isName_2 : decode M_Model_isName.2.1 2 = .ok (.iload_n 2, 1) := by decide +kernel
theorem d_Model_isName_3 : decode M_Model_isName.2.1 3 = .ok (.invokevirtual 109, 3) := by decide +kernel
theorem d_Model_isName_6 : decode M_Model_isName.2.1 6 = .ok (.ifCond .eq 17, 3) := by decide +kernel
theorem d_Model_isName_9 : decode M_Model_isName.2.1 9 = .ok (.aload_n 0, 1) := by decide +kernel
theorem d_Model_isName_10 : decode M_Model_isName.2.1 10 = .ok (.aload_n 1, 1) := by decide +kernel
theorem d_Model_isName_11 : decode M_Model_isName.2.1 11 = .ok (.bipush 36, 2) := by decide +kernel
theorem d_Model_isName_13 : decode M_Model_isName.2.1 13 = .ok (.invokevirtual 109, 3) := by decide +kernel
theorem d_Model_isName_16 : decode M_Model_isName.2.1 16 = .ok (.ifCond .eq 7, 3) := by decide +kernel
theorem d_Model_isName_19 : decode M_Model_isName.2.1 19 = .ok (.iconst 1, 1) := by decide +kernel
theorem d_Model_isName_20 : decode M_Model_isName.2.1 20 = .ok (.goto 4, 3) := by decide +kernel
theorem d_Model_isName_23 : decode M_Model_isName.2.1 23 = .ok (.iconst 0, 1) := by decide +kernel
theorem d_Model_isName_24 : decode M_Model_isName.2.1 24 = .ok (.ireturn, 1) := by decide +kernel
def s_Model_isName (H : SH)  (x2 : Int32) (M : MO) : Option (Int32 × MO) := ((s_Model_eat_0 H x2 M).bind fun p3_1 => (if p3_1.1 = 0 then some (0, p3_1.2) else ((s_Model_eat_0 H 36 p3_1.2).bind fun p13_3 => (if p13_3.1 = 0 then some (0, p13_3.2) else some (1, p13_3.2)))))
set_option maxRecDepth 100000 in
set_option maxHeartbeats 4000000 in
theorem c_Model_isName {Γ : G9} {h : AH} {m q qs sa sb ro z : Nat} {M : MO} {H : SH} {x2 : Int32} {p : Int32 × MO} (geo : m + 2 ≤ q) (hr : s_Model_isName H  x2 M = some p) : CallR Γ M_Model_isName 1 [.ref m, .ref q, .int x2] (mk_ Γ h m q qs sa sb ro M H) z (some (.int p.1)) (mk_ Γ h m q qs sa sb ro p.2 H) := by
  refine Call.of_go (L := [some (.ref m), some (.ref q), some (.int x2)]) (by decide +kernel) rfl (by exact Nat.le_of_ble_eq_true rfl) ?_
  unfold s_Model_isName at hr
  refine Go.aload_0 d_Model_isName_0 rfl ?_
  refine Go.aload_1 d_Model_isName_1 rfl ?_
  refine Go.iload_2 d_Model_isName_2 rfl ?_
  obtain ⟨p3_1, hp3_1, hr⟩ := Option.bind_eq_some_iff.mp hr
  try dsimp only at hr
  refine Go.cv2r d_Model_isName_3 rfl l_Model_109 k_Model_eat_0_v (mk_at_m (by omega)) rfl (c_Model_eat_0 geo hp3_1) (Nat.ble_eq_true_of_le (by omega)) rfl rfl ?_
  refine Go.if_eq (t := 23) d_Model_isName_6 (by decide) rfl (fun c6_2 => ?_) (fun c6_2 => ?_)
  · refine Go.iconst (v := 0) d_Model_isName_23 rfl (by decide) ?_
    rw [if_pos c6_2] at hr
    cases hr
    exact Go.iret d_Model_isName_24 rfl rfl ⟨rfl, rfl, rfl⟩
  · refine Go.aload_0 d_Model_isName_9 rfl ?_
    refine Go.aload_1 d_Model_isName_10 rfl ?_
    refine Go.bipush (v := 36) d_Model_isName_11 rfl (by decide) ?_
    rw [if_neg c6_2] at hr
    obtain ⟨p13_3, hp13_3, hr⟩ := Option.bind_eq_some_iff.mp hr
    try dsimp only at hr
    refine Go.cv2r d_Model_isName_13 rfl l_Model_109 k_Model_eat_0_v (mk_at_m (by omega)) rfl (c_Model_eat_0 geo hp13_3) (Nat.ble_eq_true_of_le (by omega)) rfl rfl ?_
    refine Go.if_eq (t := 23) d_Model_isName_16 (by decide) rfl (fun c16_4 => ?_) (fun c16_4 => ?_)
    · refine Go.iconst (v := 0) d_Model_isName_23 rfl (by decide) ?_
      rw [if_pos c16_4] at hr
      cases hr
      exact Go.iret d_Model_isName_24 rfl rfl ⟨rfl, rfl, rfl⟩
    · refine Go.iconst (v := 1) d_Model_isName_19 rfl (by decide) ?_
      refine Go.goto (t := 24) d_Model_isName_20 (by decide) ?_
      rw [if_neg c16_4] at hr
      cases hr
      exact Go.iret d_Model_isName_24 rfl rfl ⟨rfl, rfl, rfl⟩
theorem d_Model_isTest_0 : decode M_Model_isTest.2.1 0 = .ok (.aload_n 0, 1) := by decide +kernel
theorem d_Model_isTest_1 : decode M_Model_isTest.2.1 1 = .ok (.aload_n 1, 1) := by decide +kernel
theorem d_Model_isTest_2 : decode M_Model_isTest.2.1 2 = .ok (.invokevirtual 128, 3) := by decide +kernel
theorem d_Model_isTest_5 : decode M_Model_isTest.2.1 5 = .ok (.ifCond .ne 5, 3) := by decide +kernel
theorem d_Model_isTest_8 : decode M_Model_isTest.2.1 8 = .ok (.iconst 0, 1) := by decide +kernel
theorem d_Model_isTest_9 : decode M_Model_isTest.2.1 9 = .ok (.ireturn, 1) := by decide +kernel
theorem d_Model_isTest_10 : decode M_Model_isTest.2.1 10 = .ok (.aload_n 0, 1) := by decide +kernel
theorem d_Model_isTest_11 : decode M_Model_isTest.2.1 11 = .ok (.aload_n 1, 1) := by decide +kernel
theorem d_Model_isTest_12 : decode M_Model_isTest.2.1 12 = .ok (.bipush 32, 2) := by decide +kernel
theorem d_Model_isTest_14 : decode M_Model_isTest.2.1 14 = .ok (.invokevirtual 109, 3) := by decide +kernel
theorem d_Model_isTest_17 : decode M_Model_isTest.2.1 17 = .ok (.ifCond .ne (-17), 3) := by decide +kernel
theorem d_Model_isTest_20 : decode M_Model_isTest.2.1 20 = .ok (.iconst 1, 1) := by decide +kernel
theorem d_Model_isTest_21 : decode M_Model_isTest.2.1 21 = .ok (.ireturn, 1) := by decide +kernel
def l_Model_isTest (H : SH) (rec : EV)  : Nat → MO → Option (Int32 × MO)
  | 0, _ => none
  | k + 1, M => ((rec 1 M).bind fun p2_1 => (if p2_1.1 = 0 then some (0, p2_1.2) else ((s_Model_eat_0 H 32 p2_1.2).bind fun p14_3 => (if p14_3.1 = 0 then some (1, p14_3.2) else (l_Model_isTest H rec  k p14_3.2)))))
set_option maxRecDepth 100000 in
set_option maxHeartbeats 4000000 in
theorem l_Model_isTest_go {Γ : G9} {h : AH} {m q qs sa sb ro z dd : Nat} {H : SH} {rec : EV} {p : Int32 × MO} (hr0 : ∀ (M : MO) (p : Int32 × MO), rec 0 M = some p → CallR Γ M_Model_isTest (dd + 4) [.ref m, .ref q] (mk_ Γ h m q qs sa sb ro M H) z (some (.int p.1)) (mk_ Γ h m q qs sa sb ro p.2 H)) (hr1 : ∀ (M : MO) (p : Int32 × MO), rec 1 M = some p → CallR Γ M_Model_isBoth (dd + 4) [.ref m, .ref q] (mk_ Γ h m q qs sa sb ro M H) z (some (.int p.1)) (mk_ Γ h m q qs sa sb ro p.2 H)) (hr2 : ∀ (M : MO) (p : Int32 × MO), rec 2 M = some p → CallR Γ M_Model_isSingle (dd + 4) [.ref m, .ref q] (mk_ Γ h m q qs sa sb ro M H) z (some (.int p.1)) (mk_ Γ h m q qs sa sb ro p.2 H)) (hr3 : ∀ (M : MO) (p : Int32 × MO), rec 3 M = some p → CallR Γ M_Model_isSum (dd + 4) [.ref m, .ref q] (mk_ Γ h m q qs sa sb ro M H) z (some (.int p.1)) (mk_ Γ h m q qs sa sb ro p.2 H)) (hr4 : ∀ (M : MO) (p : Int32 × MO), rec 4 M = some p → CallR Γ M_Model_isProduct (dd + 4) [.ref m, .ref q] (mk_ Γ h m q qs sa sb ro M H) z (some (.int p.1)) (mk_ Γ h m q qs sa sb ro p.2 H)) (hr5 : ∀ (M : MO) (p : Int32 × MO), rec 5 M = some p → CallR Γ M_Model_isValue (dd + 4) [.ref m, .ref q] (mk_ Γ h m q qs sa sb ro M H) z (some (.int p.1)) (mk_ Γ h m q qs sa sb ro p.2 H)) (geo : m + 2 ≤ q) : ∀ (k : Nat) (M : MO), l_Model_isTest H rec  k M = some p → Go Γ M_Model_isTest (dd + 1 + 4) 0 0 0 [some (.ref m), some (.ref q)] [] (mk_ Γ h m q qs sa sb ro M H) z (RQ (some (.int p.1)) (mk_ Γ h m q qs sa sb ro p.2 H) z) noX := by
  intro k
  induction k with
  | zero =>
    intro M hr
    cases hr
  | succ k ih =>
    intro M hr
    unfold l_Model_isTest at hr
    refine Go.aload_0 d_Model_isTest_0 rfl ?_
    refine Go.aload_1 d_Model_isTest_1 rfl ?_
    obtain ⟨p2_1, hp2_1, hr⟩ := Option.bind_eq_some_iff.mp hr
    try dsimp only at hr
    refine Go.cv1r d_Model_isTest_2 rfl l_Model_128 k_Model_isBoth_v (mk_at_m (by omega)) rfl (hr1 _ _ hp2_1) (Nat.ble_eq_true_of_le (by omega)) rfl rfl ?_
    refine Go.if_ne (t := 10) d_Model_isTest_5 (by decide) rfl (fun c5_2 => ?_) (fun c5_2 => ?_)
    · refine Go.aload_0 d_Model_isTest_10 rfl ?_
      refine Go.aload_1 d_Model_isTest_11 rfl ?_
      refine Go.bipush (v := 32) d_Model_isTest_12 rfl (by decide) ?_
      rw [if_neg c5_2] at hr
      obtain ⟨p14_3, hp14_3, hr⟩ := Option.bind_eq_some_iff.mp hr
      try dsimp only at hr
      refine Go.cv2r d_Model_isTest_14 rfl l_Model_109 k_Model_eat_0_v (mk_at_m (by omega)) rfl (c_Model_eat_0 geo hp14_3) (Nat.ble_eq_true_of_le (by omega)) rfl rfl ?_
      refine Go.if_ne (t := 0) d_Model_isTest_17 (by decide) rfl (fun c17_4 => ?_) (fun c17_4 => ?_)
      · rw [if_neg c17_4] at hr
        exact ih _ hr
      · refine Go.iconst (v := 1) d_Model_isTest_20 rfl (by decide) ?_
        rw [if_pos c17_4] at hr
        cases hr
        exact Go.iret d_Model_isTest_21 rfl rfl ⟨rfl, rfl, rfl⟩
    · refine Go.iconst (v := 0) d_Model_isTest_8 rfl (by decide) ?_
      rw [if_pos c5_2] at hr
      cases hr
      exact Go.iret d_Model_isTest_9 rfl rfl ⟨rfl, rfl, rfl⟩
def s_Model_isTest (H : SH) (rec : EV)  (M : MO) : Option (Int32 × MO) := (l_Model_isTest H rec  401 M)
set_option maxRecDepth 100000 in
set_option maxHeartbeats 4000000 in
theorem c_Model_isTest {Γ : G9} {h : AH} {m q qs sa sb ro z dd : Nat} {M : MO} {H : SH} {rec : EV} {p : Int32 × MO} (hr0 : ∀ (M : MO) (p : Int32 × MO), rec 0 M = some p → CallR Γ M_Model_isTest (dd + 4) [.ref m, .ref q] (mk_ Γ h m q qs sa sb ro M H) z (some (.int p.1)) (mk_ Γ h m q qs sa sb ro p.2 H)) (hr1 : ∀ (M : MO) (p : Int32 × MO), rec 1 M = some p → CallR Γ M_Model_isBoth (dd + 4) [.ref m, .ref q] (mk_ Γ h m q qs sa sb ro M H) z (some (.int p.1)) (mk_ Γ h m q qs sa sb ro p.2 H)) (hr2 : ∀ (M : MO) (p : Int32 × MO), rec 2 M = some p → CallR Γ M_Model_isSingle (dd + 4) [.ref m, .ref q] (mk_ Γ h m q qs sa sb ro M H) z (some (.int p.1)) (mk_ Γ h m q qs sa sb ro p.2 H)) (hr3 : ∀ (M : MO) (p : Int32 × MO), rec 3 M = some p → CallR Γ M_Model_isSum (dd + 4) [.ref m, .ref q] (mk_ Γ h m q qs sa sb ro M H) z (some (.int p.1)) (mk_ Γ h m q qs sa sb ro p.2 H)) (hr4 : ∀ (M : MO) (p : Int32 × MO), rec 4 M = some p → CallR Γ M_Model_isProduct (dd + 4) [.ref m, .ref q] (mk_ Γ h m q qs sa sb ro M H) z (some (.int p.1)) (mk_ Γ h m q qs sa sb ro p.2 H)) (hr5 : ∀ (M : MO) (p : Int32 × MO), rec 5 M = some p → CallR Γ M_Model_isValue (dd + 4) [.ref m, .ref q] (mk_ Γ h m q qs sa sb ro M H) z (some (.int p.1)) (mk_ Γ h m q qs sa sb ro p.2 H)) (geo : m + 2 ≤ q) (hr : s_Model_isTest H rec  M = some p) : CallR Γ M_Model_isTest (dd + 1 + 4) [.ref m, .ref q] (mk_ Γ h m q qs sa sb ro M H) z (some (.int p.1)) (mk_ Γ h m q qs sa sb ro p.2 H) := by
  refine Call.of_go (L := [some (.ref m), some (.ref q)]) (by decide +kernel) rfl (by exact Nat.le_of_ble_eq_true rfl) ?_
  unfold s_Model_isTest at hr
  exact l_Model_isTest_go hr0 hr1 hr2 hr3 hr4 hr5 geo _ _ hr
theorem d_Model_isBoth_0 : decode M_Model_isBoth.2.1 0 = .ok (.aload_n 0, 1) := by decide +kernel
theorem d_Model_isBoth_1 : decode M_Model_isBoth.2.1 1 = .ok (.aload_n 1, 1) := by decide +kernel
theorem d_Model_isBoth_2 : decode M_Model_isBoth.2.1 2 = .ok (.invokevirtual 131, 3) := by decide +kernel
theorem d_Model_isBoth_5 : decode M_Model_isBoth.2.1 5 = .ok (.ifCond .ne 5, 3) := by decide +kernel
theorem d_Model_isBoth_8 : decode M_Model_isBoth.2.1 8 = .ok (.iconst 0, 1) := by decide +kernel
theorem d_Model_isBoth_9 : decode M_Model_isBoth.2.1 9 = .ok (.ireturn, 1) := by decide +kernel
theorem d_Model_isBoth_10 : decode M_Model_isBoth.2.1 10 = .ok (.aload_n 0, 1) := by decide +kernel
theorem d_Model_isBoth_11 : decode M_Model_isBoth.2.1 11 = .ok (.aload_n 1, 1) := by decide +kernel
theorem d_Model_isBoth_12 : decode M_Model_isBoth.2.1 12 = .ok (.bipush 31, 2) := by decide +kernel
theorem d_Model_isBoth_14 : decode M_Model_isBoth.2.1 14 = .ok (.invokevirtual 109, 3) := by decide +kernel
theorem d_Model_isBoth_17 : decode M_Model_isBoth.2.1 17 = .ok (.ifCond .ne (-17), 3) := by decide +kernel
theorem d_Model_isBoth_20 : decode M_Model_isBoth.2.1 20 = .ok (.iconst 1, 1) := by decide +kernel
theorem d_Model_isBoth_21 : decode M_Model_isBoth.2.1 21 = .ok (.ireturn, 1) := by decide +kernel
def l_Model_isBoth (H : SH) (rec : EV)  : Nat → MO → Option (Int32 × MO)
  | 0, _ => none
  | k + 1, M => ((rec 2 M).bind fun p2_1 => (if p2_1.1 = 0 then some (0, p2_1.2) else ((s_Model_eat_0 H 31 p2_1.2).bind fun p14_3 => (if p14_3.1 = 0 then some (1, p14_3.2) else (l_Model_isBoth H rec  k p14_3.2)))))
set_option maxRecDepth 100000 in
set_option maxHeartbeats 4000000 in
theorem l_Model_isBoth_go {Γ : G9} {h : AH} {m q qs sa sb ro z dd : Nat} {H : SH} {rec : EV} {p : Int32 × MO} (hr0 : ∀ (M : MO) (p : Int32 × MO), rec 0 M = some p → CallR Γ M_Model_isTest (dd + 4) [.ref m, .ref q] (mk_ Γ h m q qs sa sb ro M H) z (some (.int p.1)) (mk_ Γ h m q qs sa sb ro p.2 H)) (hr1 : ∀ (M : MO) (p : Int32 × MO), rec 1 M = some p → CallR Γ M_Model_isBoth (dd + 4) [.ref m, .ref q] (mk_ Γ h m q qs sa sb ro M H) z (some (.int p.1)) (mk_ Γ h m q qs sa sb ro p.2 H)) (hr2 : ∀ (M : MO) (p : Int32 × MO), rec 2 M = some p → CallR Γ M_Model_isSingle (dd + 4) [.ref m, .ref q] (mk_ Γ h m q qs sa sb ro M H) z (some (.int p.1)) (mk_ Γ h m q qs sa sb ro p.2 H)) (hr3 : ∀ (M : MO) (p : Int32 × MO), rec 3 M = some p → CallR Γ M_Model_isSum (dd + 4) [.ref m, .ref q] (mk_ Γ h m q qs sa sb ro M H) z (some (.int p.1)) (mk_ Γ h m q qs sa sb ro p.2 H)) (hr4 : ∀ (M : MO) (p : Int32 × MO), rec 4 M = some p → CallR Γ M_Model_isProduct (dd + 4) [.ref m, .ref q] (mk_ Γ h m q qs sa sb ro M H) z (some (.int p.1)) (mk_ Γ h m q qs sa sb ro p.2 H)) (hr5 : ∀ (M : MO) (p : Int32 × MO), rec 5 M = some p → CallR Γ M_Model_isValue (dd + 4) [.ref m, .ref q] (mk_ Γ h m q qs sa sb ro M H) z (some (.int p.1)) (mk_ Γ h m q qs sa sb ro p.2 H)) (geo : m + 2 ≤ q) : ∀ (k : Nat) (M : MO), l_Model_isBoth H rec  k M = some p → Go Γ M_Model_isBoth (dd + 1 + 4) 0 0 0 [some (.ref m), some (.ref q)] [] (mk_ Γ h m q qs sa sb ro M H) z (RQ (some (.int p.1)) (mk_ Γ h m q qs sa sb ro p.2 H) z) noX := by
  intro k
  induction k with
  | zero =>
    intro M hr
    cases hr
  | succ k ih =>
    intro M hr
    unfold l_Model_isBoth at hr
    refine Go.aload_0 d_Model_isBoth_0 rfl ?_
    refine Go.aload_1 d_Model_isBoth_1 rfl ?_
    obtain ⟨p2_1, hp2_1, hr⟩ := Option.bind_eq_some_iff.mp hr
    try dsimp only at hr
    refine Go.cv1r d_Model_isBoth_2 rfl l_Model_131 k_Model_isSingle_v (mk_at_m (by omega)) rfl (hr2 _ _ hp2_1) (Nat.ble_eq_true_of_le (by omega)) rfl rfl ?_
    refine Go.if_ne (t := 10) d_Model_isBoth_5 (by decide) rfl (fun c5_2 => ?_) (fun c5_2 => ?_)
    · refine Go.aload_0 d_Model_isBoth_10 rfl ?_
      refine Go.aload_1 d_Model_isBoth_11 rfl ?_
      refine Go.bipush (v := 31) d_Model_isBoth_12 rfl (by decide) ?_
      rw [if_neg c5_2] at hr
      obtain ⟨p14_3, hp14_3, hr⟩ := Option.bind_eq_some_iff.mp hr
      try dsimp only at hr
      refine Go.cv2r d_Model_isBoth_14 rfl l_Model_109 k_Model_eat_0_v (mk_at_m (by omega)) rfl (c_Model_eat_0 geo hp14_3) (Nat.ble_eq_true_of_le (by omega)) rfl rfl ?_
      refine Go.if_ne (t := 0) d_Model_isBoth_17 (by decide) rfl (fun c17_4 => ?_) (fun c17_4 => ?_)
      · rw [if_neg c17_4] at hr
        exact ih _ hr
      · refine Go.iconst (v := 1) d_Model_isBoth_20 rfl (by decide) ?_
        rw [if_pos c17_4] at hr
        cases hr
        exact Go.iret d_Model_isBoth_21 rfl rfl ⟨rfl, rfl, rfl⟩
    · refine Go.iconst (v := 0) d_Model_isBoth_8 rfl (by decide) ?_
      rw [if_pos c5_2] at hr
      cases hr
      exact Go.iret d_Model_isBoth_9 rfl rfl ⟨rfl, rfl, rfl⟩
def s_Model_isBoth (H : SH) (rec : EV)  (M : MO) : Option (Int32 × MO) := (l_Model_isBoth H rec  401 M)
set_option maxRecDepth 100000 in
set_option maxHeartbeats 4000000 in
theorem c_Model_isBoth {Γ : G9} {h : AH} {m q qs sa sb ro z dd : Nat} {M : MO} {H : SH} {rec : EV} {p : Int32 × MO} (hr0 : ∀ (M : MO) (p : Int32 × MO), rec 0 M = some p → CallR Γ M_Model_isTest (dd + 4) [.ref m, .ref q] (mk_ Γ h m q qs sa sb ro M H) z (some (.int p.1)) (mk_ Γ h m q qs sa sb ro p.2 H)) (hr1 : ∀ (M : MO) (p : Int32 × MO), rec 1 M = some p → CallR Γ M_Model_isBoth (dd + 4) [.ref m, .ref q] (mk_ Γ h m q qs sa sb ro M H) z (some (.int p.1)) (mk_ Γ h m q qs sa sb ro p.2 H)) (hr2 : ∀ (M : MO) (p : Int32 × MO), rec 2 M = some p → CallR Γ M_Model_isSingle (dd + 4) [.ref m, .ref q] (mk_ Γ h m q qs sa sb ro M H) z (some (.int p.1)) (mk_ Γ h m q qs sa sb ro p.2 H)) (hr3 : ∀ (M : MO) (p : Int32 × MO), rec 3 M = some p → CallR Γ M_Model_isSum (dd + 4) [.ref m, .ref q] (mk_ Γ h m q qs sa sb ro M H) z (some (.int p.1)) (mk_ Γ h m q qs sa sb ro p.2 H)) (hr4 : ∀ (M : MO) (p : Int32 × MO), rec 4 M = some p → CallR Γ M_Model_isProduct (dd + 4) [.ref m, .ref q] (mk_ Γ h m q qs sa sb ro M H) z (some (.int p.1)) (mk_ Γ h m q qs sa sb ro p.2 H)) (hr5 : ∀ (M : MO) (p : Int32 × MO), rec 5 M = some p → CallR Γ M_Model_isValue (dd + 4) [.ref m, .ref q] (mk_ Γ h m q qs sa sb ro M H) z (some (.int p.1)) (mk_ Γ h m q qs sa sb ro p.2 H)) (geo : m + 2 ≤ q) (hr : s_Model_isBoth H rec  M = some p) : CallR Γ M_Model_isBoth (dd + 1 + 4) [.ref m, .ref q] (mk_ Γ h m q qs sa sb ro M H) z (some (.int p.1)) (mk_ Γ h m q qs sa sb ro p.2 H) := by
  refine Call.of_go (L := [some (.ref m), some (.ref q)]) (by decide +kernel) rfl (by exact Nat.le_of_ble_eq_true rfl) ?_
  unfold s_Model_isBoth at hr
  exact l_Model_isBoth_go hr0 hr1 hr2 hr3 hr4 hr5 geo _ _ hr
theorem d_Model_isSingle_0 : decode M_Model_isSingle.2.1 0 = .ok (.aload_n 1, 1) := by decide +kernel
theorem d_Model_isSingle_1 : decode M_Model_isSingle.2.1 1 = .ok (.getfield 93, 3) := by decide +kernel
theorem d_Model_isSingle_4 : decode M_Model_isSingle.2.1 4 = .ok (.aload_n 0, 1) := by decide +kernel
theorem d_Model_isSingle_5 : decode M_Model_isSingle.2.1 5 = .ok (.getfield 99, 3) := by decide +kernel
theorem d_Model_isSingle_8 : decode M_Model_isSingle.2.1 8 = .ok (.iaload, 1) := by decide +kernel
theorem d_Model_isSingle_9 : decode M_Model_isSingle.2.1 9 = .ok (.bipush 30, 2) := by decide +kernel
theorem d_Model_isSingle_11 : decode M_Model_isSingle.2.1 11 = .ok (.if_icmp .ne 35, 3) := by decide +kernel
theorem d_Model_isSingle_14 : decode M_Model_isSingle.2.1 14 = .ok (.aload_n 0, 1) := by decide +kernel
theorem d_Model_isSingle_15 : decode M_Model_isSingle.2.1 15 = .ok (.aload_n 1, 1) := by decide +kernel
theorem d_Model_isSingle_16 : decode M_Model_isSingle.2.1 16 = .ok (.bipush 30, 2) := by decide +kernel
theorem d_Model_isSingle_18 : decode M_Model_isSingle.2.1 18 = .ok (.invokevirtual 134, 3) := by decide +kernel
theorem d_Model_isSingle_21 : decode M_Model_isSingle.2.1 21 = .ok (.ifCond .eq 11, 3) := by decide +kernel
theorem d_Model_isSingle_24 : decode M_Model_isSingle.2.1 24 = .ok (.aload_n 0, 1) := by decide +kernel
theorem d_Model_isSingle_25 : decode M_Model_isSingle.2.1 25 = .ok (.aload_n 1, 1) := by decide +kernel
theorem d_Model_isSingle_26 : decode M_Model_isSingle.2.1 26 = .ok (.invokevirtual 131, 3) := by decide +kernel
theorem d_Model_isSingle_29 : decode M_Model_isSingle.2.1 29 = .ok (.ifCond .ne 5, 3) := by decide +kernel
theorem d_Model_isSingle_32 : decode M_Model_isSingle.2.1 32 = .ok (.iconst 0, 1) := by decide +kernel
theorem d_Model_isSingle_33 : decode M_Model_isSingle.2.1 33 = .ok (.ireturn, 1) := by decide +kernel
theorem d_Model_isSingle_34 : decode M_Model_isSingle.2.1 34 = .ok (.aload_n 0, 1) := by decide +kernel
theorem d_Model_isSingle_35 : decode M_Model_isSingle.2.1 35 = .ok (.dup, 1) := by decide +kernel
theorem d_Model_isSingle_36 : decode M_Model_isSingle.2.1 36 = .ok (.getfield 102, 3) := by decide +kernel
theorem d_Model_isSingle_39 : decode M_Model_isSingle.2.1 39 = .ok (.iconst 1, 1) := by decide +kernel
theorem d_Model_isSingle_40 : decode M_Model_isSingle.2.1 40 = .ok (.isub, 1) := by decide +kernel
theorem d_Model_isSingle_41 : decode M_Model_isSingle.2.1 41 = .ok (.putfield 102, 3) := by decide +kernel
theorem d_Model_isSingle_44 : decode M_Model_isSingle.2.1 44 = .ok (.iconst 1, 1) := by decide +kernel
theorem d_Model_isSingle_45 : decode M_Model_isSingle.2.1 45 = .ok (.ireturn, 1) := by decide +kernel
theorem d_Model_isSingle_46 : decode M_Model_isSingle.2.1 46 = .ok (.aload_n 1, 1) := by decide +kernel
theorem d_Model_isSingle_47 : decode M_Model_isSingle.2.1 47 = .ok (.getfield 93, 3) := by decide +kernel
theorem d_Model_isSingle_50 : decode M_Model_isSingle.2.1 50 = .ok (.aload_n 0, 1) := by decide +kernel
theorem d_Model_isSingle_51 : decode M_Model_isSingle.2.1 51 = .ok (.getfield 99, 3) := by decide +kernel
theorem d_Model_isSingle_54 : decode M_Model_isSingle.2.1 54 = .ok (.iaload, 1) := by decide +kernel
theorem d_Model_isSingle_55 : decode M_Model_isSingle.2.1 55 = .ok (.bipush 42, 2) := by decide +kernel
theorem d_Model_isSingle_57 : decode M_Model_isSingle.2.1 57 = .ok (.if_icmp .ne 45, 3) := by decide +kernel
theorem d_Model_isSingle_60 : decode M_Model_isSingle.2.1 60 = .ok (.aload_n 0, 1) := by decide +kernel
theorem d_Model_isSingle_61 : decode M_Model_isSingle.2.1 61 = .ok (.aload_n 1, 1) := by decide +kernel
theorem d_Model_isSingle_62 : decode M_Model_isSingle.2.1 62 = .ok (.bipush 42, 2) := by decide +kernel
theorem d_Model_isSingle_64 : decode M_Model_isSingle.2.1 64 = .ok (.invokevirtual 134, 3) := by decide +kernel
theorem d_Model_isSingle_67 : decode M_Model_isSingle.2.1 67 = .ok (.ifCond .eq 21, 3) := by decide +kernel
theorem d_Model_isSingle_70 : decode M_Model_isSingle.2.1 70 = .ok (.aload_n 0, 1) := by decide +kernel
theorem d_Model_isSingle_71 : decode M_Model_isSingle.2.1 71 = .ok (.aload_n 1, 1) := by decide +kernel
theorem d_Model_isSingle_72 : decode M_Model_isSingle.2.1 72 = .ok (.invokevirtual 113, 3) := by decide +kernel
theorem d_Model_isSingle_75 : decode M_Model_isSingle.2.1 75 = .ok (.ifCond .eq 13, 3) := by decide +kernel
theorem d_Model_isSingle_78 : decode M_Model_isSingle.2.1 78 = .ok (.aload_n 0, 1) := by decide +kernel
theorem d_Model_isSingle_79 : decode M_Model_isSingle.2.1 79 = .ok (.aload_n 1, 1) := by decide +kernel
theorem d_Model_isSingle_80 : decode M_Model_isSingle.2.1 80 = .ok (.bipush 43, 2) := by decide +kernel
theorem d_Model_isSingle_82 : decode M_Model_isSingle.2.1 82 = .ok (.invokevirtual 109, 3) := by decide +kernel
theorem d_Model_isSingle_85 : decode M_Model_isSingle.2.1 85 = .ok (.ifCond .ne 5, 3) := by decide +kernel
theorem d_Model_isSingle_88 : decode M_Model_isSingle.2.1 88 = .ok (.iconst 0, 1) := by decide +kernel
theorem d_Model_isSingle_89 : decode M_Model_isSingle.2.1 89 = .ok (.ireturn, 1) := by decide +kernel
theorem d_Model_isSingle_90 : decode M_Model_isSingle.2.1 90 = .ok (.aload_n 0, 1) := by decide +kernel
theorem d_Model_isSingle_91 : decode M_Model_isSingle.2.1 91 = .ok (.dup, 1) := by decide +kernel
theorem d_Model_isSingle_92 : decode M_Model_isSingle.2.1 92 = .ok (.getfield 102, 3) := by decide +kernel
theorem d_Model_isSingle_95 : decode M_Model_isSingle.2.1 95 = .ok (.iconst 1, 1) := by decide +kernel
theorem d_Model_isSingle_96 : decode M_Model_isSingle.2.1 96 = .ok (.isub, 1) := by decide +kernel
theorem d_Model_isSingle_97 : decode M_Model_isSingle.2.1 97 = .ok (.putfield 102, 3) := by decide +kernel
theorem d_Model_isSingle_100 : decode M_Model_isSingle.2.1 100 = .ok (.iconst 1, 1) := by decide +kernel
theorem d_Model_isSingle_101 : decode M_Model_isSingle.2.1 101 = .ok (.ireturn, 1) := by decide +kernel
theorem d_Model_isSingle_102 : decode M_Model_isSingle.2.1 102 = .ok (.aload_n 0, 1) := by decide +kernel
theorem d_Model_isSingle_103 : decode M_Model_isSingle.2.1 103 = .ok (.aload_n 1, 1) := by decide +kernel
theorem d_Model_isSingle_104 : decode M_Model_isSingle.2.1 104 = .ok (.bipush 27, 2) := by decide +kernel
theorem d_Model_isSingle_106 : decode M_Model_isSingle.2.1 106 = .ok (.bipush 29, 2) := by decide +kernel
theorem d_Model_isSingle_108 : decode M_Model_isSingle.2.1 108 = .ok (.invokevirtual 137, 3) := by decide +kernel
theorem d_Model_isSingle_111 : decode M_Model_isSingle.2.1 111 = .ok (.ifCond .eq 11, 3) := by decide +kernel
theorem d_Model_isSingle_114 : decode M_Model_isSingle.2.1 114 = .ok (.aload_n 0, 1) := by decide +kernel
theorem d_Model_isSingle_115 : decode M_Model_isSingle.2.1 115 = .ok (.aload_n 1, 1) := by decide +kernel
theorem d_Model_isSingle_116 : decode M_Model_isSingle.2.1 116 = .ok (.bipush 36, 2) := by decide +kernel
theorem d_Model_isSingle_118 : decode M_Model_isSingle.2.1 118 = .ok (.invokevirtual 109, 3) := by decide +kernel
theorem d_Model_isSingle_121 : decode M_Model_isSingle.2.1 121 = .ok (.ireturn, 1) := by decide +kernel
theorem d_Model_isSingle_122 : decode M_Model_isSingle.2.1 122 = .ok (.aload_n 0, 1) := by decide +kernel
theorem d_Model_isSingle_123 : decode M_Model_isSingle.2.1 123 = .ok (.aload_n 1, 1) := by decide +kernel
theorem d_Model_isSingle_124 : decode M_Model_isSingle.2.1 124 = .ok (.invokevirtual 125, 3) := by decide +kernel
theorem d_Model_isSingle_127 : decode M_Model_isSingle.2.1 127 = .ok (.ifCond .eq 27, 3) := by decide +kernel
theorem d_Model_isSingle_130 : decode M_Model_isSingle.2.1 130 = .ok (.aload_n 0, 1) := by decide +kernel
theorem d_Model_isSingle_131 : decode M_Model_isSingle.2.1 131 = .ok (.aload_n 1, 1) := by decide +kernel
theorem d_Model_isSingle_132 : decode M_Model_isSingle.2.1 132 = .ok (.bipush 50, 2) := by decide +kernel
theorem d_Model_isSingle_134 : decode M_Model_isSingle.2.1 134 = .ok (.bipush 54, 2) := by decide +kernel
theorem d_Model_isSingle_136 : decode M_Model_isSingle.2.1 136 = .ok (.invokevirtual 137, 3) := by decide +kernel
theorem d_Model_isSingle_139 : decode M_Model_isSingle.2.1 139 = .ok (.ifCond .eq 15, 3) := by decide +kernel
theorem d_Model_isSingle_142 : decode M_Model_isSingle.2.1 142 = .ok (.aload_n 0, 1) := by decide +kernel
theorem d_Model_isSingle_143 : decode M_Model_isSingle.2.1 143 = .ok (.aload_n 1, 1) := by decide +kernel
theorem d_Model_isSingle_144 : decode M_Model_isSingle.2.1 144 = .ok (.invokevirtual 125, 3) := by decide +kernel
theorem d_Model_isSingle_147 : decode M_Model_isSingle.2.1 147 = .ok (.ifCond .eq 7, 3) := by decide +kernel
theorem d_Model_isSingle_150 : decode M_Model_isSingle.2.1 150 = .ok (.iconst 1, 1) := by decide +kernel
theorem d_Model_isSingle_151 : decode M_Model_isSingle.2.1 151 = .ok (.goto 4, 3) := by decide +kernel
theorem d_Model_isSingle_154 : decode M_Model_isSingle.2.1 154 = .ok (.iconst 0, 1) := by decide +kernel
theorem d_Model_isSingle_155 : decode M_Model_isSingle.2.1 155 = .ok (.ireturn, 1) := by decide +kernel
def s_Model_isSingle (H : SH) (rec : EV)  (M : MO) : Option (Int32 × MO) := (if (mo_tk M) < 401 then (if ((sh_kd H) (mo_tk M)) = 30 then ((s_Model_goDown H 30 M).bind fun p18_22 => (if p18_22.1 = 0 then some (0, p18_22.2) else ((rec 2 p18_22.2).bind fun p26_24 => (if p26_24.1 = 0 then some (0, p26_24.2) else (if 1 ≤ (mo_dp p26_24.2) then some (1, (mo_dp' p26_24.2 ((mo_dp p26_24.2) - 1))) else none))))) else (if (mo_tk M) < 401 then (if ((sh_kd H) (mo_tk M)) = 42 then ((s_Model_goDown H 42 M).bind fun p64_15 => (if p64_15.1 = 0 then some (0, p64_15.2) else ((rec 0 p64_15.2).bind fun p72_17 => (if p72_17.1 = 0 then some (0, p72_17.2) else ((s_Model_eat_0 H 43 p72_17.2).bind fun p82_19 => (if p82_19.1 = 0 then some (0, p82_19.2) else (if 1 ≤ (mo_dp p82_19.2) then some (1, (mo_dp' p82_19.2 ((mo_dp p82_19.2) - 1))) else none))))))) else ((s_Model_eatIn H 27 29 M).bind fun p108_5 => (if p108_5.1 = 0 then ((rec 3 p108_5.2).bind fun p124_7 => (if p124_7.1 = 0 then some (0, p124_7.2) else ((s_Model_eatIn H 50 54 p124_7.2).bind fun p136_9 => (if p136_9.1 = 0 then some (0, p136_9.2) else ((rec 3 p136_9.2).bind fun p144_11 => (if p144_11.1 = 0 then some (0, p144_11.2) else some (1, p144_11.2))))))) else ((s_Model_eat_0 H 36 p108_5.2).bind fun p118_13 => (if b01 p118_13.1 = true then some (p118_13.1, p118_13.2) else none))))) else none)) else none)
set_option maxRecDepth 100000 in
set_option maxHeartbeats 4000000 in
theorem c_Model_isSingle {Γ : G9} {h : AH} {m q qs sa sb ro z dd : Nat} {M : MO} {H : SH} {rec : EV} {p : Int32 × MO} (hr0 : ∀ (M : MO) (p : Int32 × MO), rec 0 M = some p → CallR Γ M_Model_isTest (dd + 4) [.ref m, .ref q] (mk_ Γ h m q qs sa sb ro M H) z (some (.int p.1)) (mk_ Γ h m q qs sa sb ro p.2 H)) (hr1 : ∀ (M : MO) (p : Int32 × MO), rec 1 M = some p → CallR Γ M_Model_isBoth (dd + 4) [.ref m, .ref q] (mk_ Γ h m q qs sa sb ro M H) z (some (.int p.1)) (mk_ Γ h m q qs sa sb ro p.2 H)) (hr2 : ∀ (M : MO) (p : Int32 × MO), rec 2 M = some p → CallR Γ M_Model_isSingle (dd + 4) [.ref m, .ref q] (mk_ Γ h m q qs sa sb ro M H) z (some (.int p.1)) (mk_ Γ h m q qs sa sb ro p.2 H)) (hr3 : ∀ (M : MO) (p : Int32 × MO), rec 3 M = some p → CallR Γ M_Model_isSum (dd + 4) [.ref m, .ref q] (mk_ Γ h m q qs sa sb ro M H) z (some (.int p.1)) (mk_ Γ h m q qs sa sb ro p.2 H)) (hr4 : ∀ (M : MO) (p : Int32 × MO), rec 4 M = some p → CallR Γ M_Model_isProduct (dd + 4) [.ref m, .ref q] (mk_ Γ h m q qs sa sb ro M H) z (some (.int p.1)) (mk_ Γ h m q qs sa sb ro p.2 H)) (hr5 : ∀ (M : MO) (p : Int32 × MO), rec 5 M = some p → CallR Γ M_Model_isValue (dd + 4) [.ref m, .ref q] (mk_ Γ h m q qs sa sb ro M H) z (some (.int p.1)) (mk_ Γ h m q qs sa sb ro p.2 H)) (geo : m + 2 ≤ q) (hr : s_Model_isSingle H rec  M = some p) : CallR Γ M_Model_isSingle (dd + 1 + 4) [.ref m, .ref q] (mk_ Γ h m q qs sa sb ro M H) z (some (.int p.1)) (mk_ Γ h m q qs sa sb ro p.2 H) := by
  refine Call.of_go (L := [some (.ref m), some (.ref q)]) (by decide +kernel) rfl (by exact Nat.le_of_ble_eq_true rfl) ?_
  unfold s_Model_isSingle at hr
  refine Go.aload_1 d_Model_isSingle_0 rfl ?_
  refine Go.getfield d_Model_isSingle_1 rfl f_Model_93 (mk_at_q (by omega)) (by rfl) ?_
  refine Go.aload_0 d_Model_isSingle_4 rfl ?_
  refine Go.getfield d_Model_isSingle_5 rfl f_Model_99 (mk_at_m (by omega)) (by rfl) ?_
  have o8_1 : (mo_tk M) < 401 := Classical.byContradiction fun w => by
    rw [if_neg w] at hr
    cases hr
  refine Go.iaload d_Model_isSingle_8 rfl (mk_at_q_1 (by omega)) (vp_in_nI o8_1 (by decide)) ?_
  rw [nI_clamp (show (mo_tk M) < 2 ^ 31 by omega)]
  refine Go.bipush (v := 30) d_Model_isSingle_9 rfl (by decide) ?_
  refine Go.icmp_ne (t := 46) d_Model_isSingle_11 (by decide) rfl (fun c11_2 => ?_) (fun c11_2 => ?_)
  · refine Go.aload_1 d_Model_isSingle_46 rfl ?_
    refine Go.getfield d_Model_isSingle_47 rfl f_Model_93 (mk_at_q (by omega)) (by rfl) ?_
    refine Go.aload_0 d_Model_isSingle_50 rfl ?_
    refine Go.getfield d_Model_isSingle_51 rfl f_Model_99 (mk_at_m (by omega)) (by rfl) ?_
    have o54_3 : (mo_tk M) < 401 := Classical.byContradiction fun w => by
      rw [if_pos o8_1, if_neg c11_2, if_neg w] at hr
      cases hr
    refine Go.iaload d_Model_isSingle_54 rfl (mk_at_q_1 (by omega)) (vp_in_nI o54_3 (by decide)) ?_
    rw [nI_clamp (show (mo_tk M) < 2 ^ 31 by omega)]
    refine Go.bipush (v := 42) d_Model_isSingle_55 rfl (by decide) ?_
    refine Go.icmp_ne (t := 102) d_Model_isSingle_57 (by decide) rfl (fun c57_4 => ?_) (fun c57_4 => ?_)
    · refine Go.aload_0 d_Model_isSingle_102 rfl ?_
      refine Go.aload_1 d_Model_isSingle_103 rfl ?_
      refine Go.bipush (v := 27) d_Model_isSingle_104 rfl (by decide) ?_
      refine Go.bipush (v := 29) d_Model_isSingle_106 rfl (by decide) ?_
      rw [if_pos o8_1, if_neg c11_2, if_pos o54_3, if_neg c57_4] at hr
      obtain ⟨p108_5, hp108_5, hr⟩ := Option.bind_eq_some_iff.mp hr
      try dsimp only at hr
      refine Go.cv3r d_Model_isSingle_108 rfl l_Model_137 k_Model_eatIn_v (mk_at_m (by omega)) rfl (c_Model_eatIn geo hp108_5) (Nat.ble_eq_true_of_le (by omega)) rfl rfl ?_
      refine Go.if_eq (t := 122) d_Model_isSingle_111 (by decide) rfl (fun c111_6 => ?_) (fun c111_6 => ?_)
      · refine Go.aload_0 d_Model_isSingle_122 rfl ?_
        refine Go.aload_1 d_Model_isSingle_123 rfl ?_
        rw [if_pos c111_6] at hr
        obtain ⟨p124_7, hp124_7, hr⟩ := Option.bind_eq_some_iff.mp hr
        try dsimp only at hr
        refine Go.cv1r d_Model_isSingle_124 rfl l_Model_125 k_Model_isSum_v (mk_at_m (by omega)) rfl (hr3 _ _ hp124_7) (Nat.ble_eq_true_of_le (by omega)) rfl rfl ?_
        refine Go.if_eq (t := 154) d_Model_isSingle_127 (by decide) rfl (fun c127_8 => ?_) (fun c127_8 => ?_)
        · refine Go.iconst (v := 0) d_Model_isSingle_154 rfl (by decide) ?_
          rw [if_pos c127_8] at hr
          cases hr
          exact Go.iret d_Model_isSingle_155 rfl rfl ⟨rfl, rfl, rfl⟩
        · refine Go.aload_0 d_Model_isSingle_130 rfl ?_
          refine Go.aload_1 d_Model_isSingle_131 rfl ?_
          refine Go.bipush (v := 50) d_Model_isSingle_132 rfl (by decide) ?_
          refine Go.bipush (v := 54) d_Model_isSingle_134 rfl (by decide) ?_
          rw [if_neg c127_8] at hr
          obtain ⟨p136_9, hp136_9, hr⟩ := Option.bind_eq_some_iff.mp hr
          try dsimp only at hr
          refine Go.cv3r d_Model_isSingle_136 rfl l_Model_137 k_Model_eatIn_v (mk_at_m (by omega)) rfl (c_Model_eatIn geo hp136_9) (Nat.ble_eq_true_of_le (by omega)) rfl rfl ?_
          refine Go.if_eq (t := 154) d_Model_isSingle_139 (by decide) rfl (fun c139_10 => ?_) (fun c139_10 => ?_)
          · refine Go.iconst (v := 0) d_Model_isSingle_154 rfl (by decide) ?_
            rw [if_pos c139_10] at hr
            cases hr
            exact Go.iret d_Model_isSingle_155 rfl rfl ⟨rfl, rfl, rfl⟩
          · refine Go.aload_0 d_Model_isSingle_142 rfl ?_
            refine Go.aload_1 d_Model_isSingle_143 rfl ?_
            rw [if_neg c139_10] at hr
            obtain ⟨p144_11, hp144_11, hr⟩ := Option.bind_eq_some_iff.mp hr
            try dsimp only at hr
            refine Go.cv1r d_Model_isSingle_144 rfl l_Model_125 k_Model_isSum_v (mk_at_m (by omega)) rfl (hr3 _ _ hp144_11) (Nat.ble_eq_true_of_le (by omega)) rfl rfl ?_
            refine Go.if_eq (t := 154) d_Model_isSingle_147 (by decide) rfl (fun c147_12 => ?_) (fun c147_12 => ?_)
            · refine Go.iconst (v := 0) d_Model_isSingle_154 rfl (by decide) ?_
              rw [if_pos c147_12] at hr
              cases hr
              exact Go.iret d_Model_isSingle_155 rfl rfl ⟨rfl, rfl, rfl⟩
            · refine Go.iconst (v := 1) d_Model_isSingle_150 rfl (by decide) ?_
              refine Go.goto (t := 155) d_Model_isSingle_151 (by decide) ?_
              rw [if_neg c147_12] at hr
              cases hr
              exact Go.iret d_Model_isSingle_155 rfl rfl ⟨rfl, rfl, rfl⟩
      · refine Go.aload_0 d_Model_isSingle_114 rfl ?_
        refine Go.aload_1 d_Model_isSingle_115 rfl ?_
        refine Go.bipush (v := 36) d_Model_isSingle_116 rfl (by decide) ?_
        rw [if_neg c111_6] at hr
        obtain ⟨p118_13, hp118_13, hr⟩ := Option.bind_eq_some_iff.mp hr
        try dsimp only at hr
        refine Go.cv2r d_Model_isSingle_118 rfl l_Model_109 k_Model_eat_0_v (mk_at_m (by omega)) rfl (c_Model_eat_0 geo hp118_13) (Nat.ble_eq_true_of_le (by omega)) rfl rfl ?_
        have b121_14 : b01 p118_13.1 = true := Classical.byContradiction fun w => by
          rw [if_neg w] at hr
          cases hr
        rw [if_pos b121_14] at hr
        cases hr
        exact Go.iret d_Model_isSingle_121 rfl (nb (b01_or b121_14)) ⟨rfl, rfl, rfl⟩
    · refine Go.aload_0 d_Model_isSingle_60 rfl ?_
      refine Go.aload_1 d_Model_isSingle_61 rfl ?_
      refine Go.bipush (v := 42) d_Model_isSingle_62 rfl (by decide) ?_
      rw [if_pos o8_1, if_neg c11_2, if_pos o54_3, if_pos c57_4] at hr
      obtain ⟨p64_15, hp64_15, hr⟩ := Option.bind_eq_some_iff.mp hr
      try dsimp only at hr
      refine Go.cv2r d_Model_isSingle_64 rfl l_Model_134 k_Model_goDown_v (mk_at_m (by omega)) rfl (c_Model_goDown geo hp64_15) (Nat.ble_eq_true_of_le (by omega)) rfl rfl ?_
      refine Go.if_eq (t := 88) d_Model_isSingle_67 (by decide) rfl (fun c67_16 => ?_) (fun c67_16 => ?_)
      · refine Go.iconst (v := 0) d_Model_isSingle_88 rfl (by decide) ?_
        rw [if_pos c67_16] at hr
        cases hr
        exact Go.iret d_Model_isSingle_89 rfl rfl ⟨rfl, rfl, rfl⟩
      · refine Go.aload_0 d_Model_isSingle_70 rfl ?_
        refine Go.aload_1 d_Model_isSingle_71 rfl ?_
        rw [if_neg c67_16] at hr
        obtain ⟨p72_17, hp72_17, hr⟩ := Option.bind_eq_some_iff.mp hr
        try dsimp only at hr
        refine Go.cv1r d_Model_isSingle_72 rfl l_Model_113 k_Model_isTest_v (mk_at_m (by omega)) rfl (hr0 _ _ hp72_17) (Nat.ble_eq_true_of_le (by omega)) rfl rfl ?_
        refine Go.if_eq (t := 88) d_Model_isSingle_75 (by decide) rfl (fun c75_18 => ?_) (fun c75_18 => ?_)
        · refine Go.iconst (v := 0) d_Model_isSingle_88 rfl (by decide) ?_
          rw [if_pos c75_18] at hr
          cases hr
          exact Go.iret d_Model_isSingle_89 rfl rfl ⟨rfl, rfl, rfl⟩
        · refine Go.aload_0 d_Model_isSingle_78 rfl ?_
          refine Go.aload_1 d_Model_isSingle_79 rfl ?_
          refine Go.bipush (v := 43) d_Model_isSingle_80 rfl (by decide) ?_
          rw [if_neg c75_18] at hr
          obtain ⟨p82_19, hp82_19, hr⟩ := Option.bind_eq_some_iff.mp hr
          try dsimp only at hr
          refine Go.cv2r d_Model_isSingle_82 rfl l_Model_109 k_Model_eat_0_v (mk_at_m (by omega)) rfl (c_Model_eat_0 geo hp82_19) (Nat.ble_eq_true_of_le (by omega)) rfl rfl ?_
          refine Go.if_ne (t := 90) d_Model_isSingle_85 (by decide) rfl (fun c85_20 => ?_) (fun c85_20 => ?_)
          · refine Go.aload_0 d_Model_isSingle_90 rfl ?_
            refine Go.dup d_Model_isSingle_91 rfl rfl ?_
            refine Go.getfield d_Model_isSingle_92 rfl f_Model_102 (mk_at_m (by omega)) (by rfl) ?_
            refine Go.iconst (v := 1) d_Model_isSingle_95 rfl (by decide) ?_
            refine Go.isub d_Model_isSingle_96 rfl ?_
            have o96_21 : 1 ≤ (mo_dp p82_19.2) := Classical.byContradiction fun w => by
              rw [if_neg c85_20, if_neg w] at hr
              cases hr
            rw [show nI (mo_dp p82_19.2) - 1 = nI ((mo_dp p82_19.2) - 1) from nI_pred1 o96_21]
            refine Go.putfield d_Model_isSingle_97 rfl f_Model_102_p (Or.inl (fun C T N h => by cases h; rfl)) (mk_at_m (by omega)) (by exact Nat.le_of_ble_eq_true rfl) rfl rfl ?_
            refine Go.heq (mk_put_m_depth (by omega)) ?_
            refine Go.iconst (v := 1) d_Model_isSingle_100 rfl (by decide) ?_
            rw [if_neg c85_20, if_pos o96_21] at hr
            cases hr
            exact Go.iret d_Model_isSingle_101 rfl rfl ⟨rfl, rfl, rfl⟩
          · refine Go.iconst (v := 0) d_Model_isSingle_88 rfl (by decide) ?_
            rw [if_pos c85_20] at hr
            cases hr
            exact Go.iret d_Model_isSingle_89 rfl rfl ⟨rfl, rfl, rfl⟩
  · refine Go.aload_0 d_Model_isSingle_14 rfl ?_
    refine Go.aload_1 d_Model_isSingle_15 rfl ?_
    refine Go.bipush (v := 30) d_Model_isSingle_16 rfl (by decide) ?_
    rw [if_pos o8_1, if_pos c11_2] at hr
    obtain ⟨p18_22, hp18_22, hr⟩ := Option.bind_eq_some_iff.mp hr
    try dsimp only at hr
    refine Go.cv2r d_Model_isSingle_18 rfl l_Model_134 k_Model_goDown_v (mk_at_m (by omega)) rfl (c_Model_goDown geo hp18_22) (Nat.ble_eq_true_of_le (by omega)) rfl rfl ?_
    refine Go.if_eq (t := 32) d_Model_isSingle_21 (by decide) rfl (fun c21_23 => ?_) (fun c21_23 => ?_)
    · refine Go.iconst (v := 0) d_Model_isSingle_32 rfl (by decide) ?_
      rw [if_pos c21_23] at hr
      cases hr
      exact Go.iret d_Model_isSingle_33 rfl rfl ⟨rfl, rfl, rfl⟩
    · refine Go.aload_0 d_Model_isSingle_24 rfl ?_
      refine Go.aload_1 d_Model_isSingle_25 rfl ?_
      rw [if_neg c21_23] at hr
      obtain ⟨p26_24, hp26_24, hr⟩ := Option.bind_eq_some_iff.mp hr
      try dsimp only at hr
      refine Go.cv1r d_Model_isSingle_26 rfl l_Model_131 k_Model_isSingle_v (mk_at_m (by omega)) rfl (hr2 _ _ hp26_24) (Nat.ble_eq_true_of_le (by omega)) rfl rfl ?_
      refine Go.if_ne (t := 34) d_Model_isSingle_29 (by decide) rfl (fun c29_25 => ?_) (fun c29_25 => ?_)
      · refine Go.aload_0 d_Model_isSingle_34 rfl ?_
        refine Go.dup d_Model_isSingle_35 rfl rfl ?_
        refine Go.getfield d_Model_isSingle_36 rfl f_Model_102 (mk_at_m (by omega)) (by rfl) ?_
        refine Go.iconst (v := 1) d_Model_isSingle_39 rfl (by decide) ?_
        refine Go.isub d_Model_isSingle_40 rfl ?_
        have o40_26 : 1 ≤ (mo_dp p26_24.2) := Classical.byContradiction fun w => by
          rw [if_neg c29_25, if_neg w] at hr
          cases hr
        rw [show nI (mo_dp p26_24.2) - 1 = nI ((mo_dp p26_24.2) - 1) from nI_pred1 o40_26]
        refine Go.putfield d_Model_isSingle_41 rfl f_Model_102_p (Or.inl (fun C T N h => by cases h; rfl)) (mk_at_m (by omega)) (by exact Nat.le_of_ble_eq_true rfl) rfl rfl ?_
        refine Go.heq (mk_put_m_depth (by omega)) ?_
        refine Go.iconst (v := 1) d_Model_isSingle_44 rfl (by decide) ?_
        rw [if_neg c29_25, if_pos o40_26] at hr
        cases hr
        exact Go.iret d_Model_isSingle_45 rfl rfl ⟨rfl, rfl, rfl⟩
      · refine Go.iconst (v := 0) d_Model_isSingle_32 rfl (by decide) ?_
        rw [if_pos c29_25] at hr
        cases hr
        exact Go.iret d_Model_isSingle_33 rfl rfl ⟨rfl, rfl, rfl⟩
theorem d_Model_isSum_0 : decode M_Model_isSum.2.1 0 = .ok (.aload_n 0, 1) := by decide +kernel
theorem d_Model_isSum_1 : decode M_Model_isSum.2.1 1 = .ok (.aload_n 1, 1) := by decide +kernel
theorem d_Model_isSum_2 : decode M_Model_isSum.2.1 2 = .ok (.invokevirtual 141, 3) := by decide +kernel
theorem d_Model_isSum_5 : decode M_Model_isSum.2.1 5 = .ok (.ifCond .ne 5, 3) := by decide +kernel
theorem d_Model_isSum_8 : decode M_Model_isSum.2.1 8 = .ok (.iconst 0, 1) := by decide +kernel
theorem d_Model_isSum_9 : decode M_Model_isSum.2.1 9 = .ok (.ireturn, 1) := by decide +kernel
theorem d_Model_isSum_10 : decode M_Model_isSum.2.1 10 = .ok (.aload_n 0, 1) := by decide +kernel
theorem d_Model_isSum_11 : decode M_Model_isSum.2.1 11 = .ok (.aload_n 1, 1) := by decide +kernel
theorem d_Model_isSum_12 : decode M_Model_isSum.2.1 12 = .ok (.bipush 46, 2) := by decide +kernel
theorem d_Model_isSum_14 : decode M_Model_isSum.2.1 14 = .ok (.bipush 47, 2) := by decide +kernel
theorem d_Model_isSum_16 : decode M_Model_isSum.2.1 16 = .ok (.invokevirtual 137, 3) := by decide +kernel
theorem d_Model_isSum_19 : decode M_Model_isSum.2.1 19 = .ok (.ifCond .ne (-19), 3) := by decide +kernel
theorem d_Model_isSum_22 : decode M_Model_isSum.2.1 22 = .ok (.iconst 1, 1) := by decide +kernel
theorem d_Model_isSum_23 : decode M_Model_isSum.2.1 23 = .ok (.ireturn, 1) := by decide +kernel
def l_Model_isSum (H : SH) (rec : EV)  : Nat → MO → Option (Int32 × MO)
  | 0, _ => none
  | k + 1, M => ((rec 4 M).bind fun p2_1 => (if p2_1.1 = 0 then some (0, p2_1.2) else ((s_Model_eatIn H 46 47 p2_1.2).bind fun p16_3 => (if p16_3.1 = 0 then some (1, p16_3.2) else (l_Model_isSum H rec  k p16_3.2)))))
set_option maxRecDepth 100000 in
set_option maxHeartbeats 4000000 in
theorem l_Model_isSum_go {Γ : G9} {h : AH} {m q qs sa sb ro z dd : Nat} {H : SH} {rec : EV} {p : Int32 × MO} (hr0 : ∀ (M : MO) (p : Int32 × MO), rec 0 M = some p → CallR Γ M_Model_isTest (dd + 4) [.ref m, .ref q] (mk_ Γ h m q qs sa sb ro M H) z (some (.int p.1)) (mk_ Γ h m q qs sa sb ro p.2 H)) (hr1 : ∀ (M : MO) (p : Int32 × MO), rec 1 M = some p → CallR Γ M_Model_isBoth (dd + 4) [.ref m, .ref q] (mk_ Γ h m q qs sa sb ro M H) z (some (.int p.1)) (mk_ Γ h m q qs sa sb ro p.2 H)) (hr2 : ∀ (M : MO) (p : Int32 × MO), rec 2 M = some p → CallR Γ M_Model_isSingle (dd + 4) [.ref m, .ref q] (mk_ Γ h m q qs sa sb ro M H) z (some (.int p.1)) (mk_ Γ h m q qs sa sb ro p.2 H)) (hr3 : ∀ (M : MO) (p : Int32 × MO), rec 3 M = some p → CallR Γ M_Model_isSum (dd + 4) [.ref m, .ref q] (mk_ Γ h m q qs sa sb ro M H) z (some (.int p.1)) (mk_ Γ h m q qs sa sb ro p.2 H)) (hr4 : ∀ (M : MO) (p : Int32 × MO), rec 4 M = some p → CallR Γ M_Model_isProduct (dd + 4) [.ref m, .ref q] (mk_ Γ h m q qs sa sb ro M H) z (some (.int p.1)) (mk_ Γ h m q qs sa sb ro p.2 H)) (hr5 : ∀ (M : MO) (p : Int32 × MO), rec 5 M = some p → CallR Γ M_Model_isValue (dd + 4) [.ref m, .ref q] (mk_ Γ h m q qs sa sb ro M H) z (some (.int p.1)) (mk_ Γ h m q qs sa sb ro p.2 H)) (geo : m + 2 ≤ q) : ∀ (k : Nat) (M : MO), l_Model_isSum H rec  k M = some p → Go Γ M_Model_isSum (dd + 1 + 4) 0 0 0 [some (.ref m), some (.ref q)] [] (mk_ Γ h m q qs sa sb ro M H) z (RQ (some (.int p.1)) (mk_ Γ h m q qs sa sb ro p.2 H) z) noX := by
  intro k
  induction k with
  | zero =>
    intro M hr
    cases hr
  | succ k ih =>
    intro M hr
    unfold l_Model_isSum at hr
    refine Go.aload_0 d_Model_isSum_0 rfl ?_
    refine Go.aload_1 d_Model_isSum_1 rfl ?_
    obtain ⟨p2_1, hp2_1, hr⟩ := Option.bind_eq_some_iff.mp hr
    try dsimp only at hr
    refine Go.cv1r d_Model_isSum_2 rfl l_Model_141 k_Model_isProduct_v (mk_at_m (by omega)) rfl (hr4 _ _ hp2_1) (Nat.ble_eq_true_of_le (by omega)) rfl rfl ?_
    refine Go.if_ne (t := 10) d_Model_isSum_5 (by decide) rfl (fun c5_2 => ?_) (fun c5_2 => ?_)
    · refine Go.aload_0 d_Model_isSum_10 rfl ?_
      refine Go.aload_1 d_Model_isSum_11 rfl ?_
      refine Go.bipush (v := 46) d_Model_isSum_12 rfl (by decide) ?_
      refine Go.bipush (v := 47) d_Model_isSum_14 rfl (by decide) ?_
      rw [if_neg c5_2] at hr
      obtain ⟨p16_3, hp16_3, hr⟩ := Option.bind_eq_some_iff.mp hr
      try dsimp only at hr
      refine Go.cv3r d_Model_isSum_16 rfl l_Model_137 k_Model_eatIn_v (mk_at_m (by omega)) rfl (c_Model_eatIn geo hp16_3) (Nat.ble_eq_true_of_le (by omega)) rfl rfl ?_
      refine Go.if_ne (t := 0) d_Model_isSum_19 (by decide) rfl (fun c19_4 => ?_) (fun c19_4 => ?_)
      · rw [if_neg c19_4] at hr
        exact ih _ hr
      · refine Go.iconst (v := 1) d_Model_isSum_22 rfl (by decide) ?_
        rw [if_pos c19_4] at hr
        cases hr
        exact Go.iret d_Model_isSum_23 rfl rfl ⟨rfl, rfl, rfl⟩
    · refine Go.iconst (v := 0) d_Model_isSum_8 rfl (by decide) ?_
      rw [if_pos c5_2] at hr
      cases hr
      exact Go.iret d_Model_isSum_9 rfl rfl ⟨rfl, rfl, rfl⟩
def s_Model_isSum (H : SH) (rec : EV)  (M : MO) : Option (Int32 × MO) := (l_Model_isSum H rec  401 M)
set_option maxRecDepth 100000 in
set_option maxHeartbeats 4000000 in
theorem c_Model_isSum {Γ : G9} {h : AH} {m q qs sa sb ro z dd : Nat} {M : MO} {H : SH} {rec : EV} {p : Int32 × MO} (hr0 : ∀ (M : MO) (p : Int32 × MO), rec 0 M = some p → CallR Γ M_Model_isTest (dd + 4) [.ref m, .ref q] (mk_ Γ h m q qs sa sb ro M H) z (some (.int p.1)) (mk_ Γ h m q qs sa sb ro p.2 H)) (hr1 : ∀ (M : MO) (p : Int32 × MO), rec 1 M = some p → CallR Γ M_Model_isBoth (dd + 4) [.ref m, .ref q] (mk_ Γ h m q qs sa sb ro M H) z (some (.int p.1)) (mk_ Γ h m q qs sa sb ro p.2 H)) (hr2 : ∀ (M : MO) (p : Int32 × MO), rec 2 M = some p → CallR Γ M_Model_isSingle (dd + 4) [.ref m, .ref q] (mk_ Γ h m q qs sa sb ro M H) z (some (.int p.1)) (mk_ Γ h m q qs sa sb ro p.2 H)) (hr3 : ∀ (M : MO) (p : Int32 × MO), rec 3 M = some p → CallR Γ M_Model_isSum (dd + 4) [.ref m, .ref q] (mk_ Γ h m q qs sa sb ro M H) z (some (.int p.1)) (mk_ Γ h m q qs sa sb ro p.2 H)) (hr4 : ∀ (M : MO) (p : Int32 × MO), rec 4 M = some p → CallR Γ M_Model_isProduct (dd + 4) [.ref m, .ref q] (mk_ Γ h m q qs sa sb ro M H) z (some (.int p.1)) (mk_ Γ h m q qs sa sb ro p.2 H)) (hr5 : ∀ (M : MO) (p : Int32 × MO), rec 5 M = some p → CallR Γ M_Model_isValue (dd + 4) [.ref m, .ref q] (mk_ Γ h m q qs sa sb ro M H) z (some (.int p.1)) (mk_ Γ h m q qs sa sb ro p.2 H)) (geo : m + 2 ≤ q) (hr : s_Model_isSum H rec  M = some p) : CallR Γ M_Model_isSum (dd + 1 + 4) [.ref m, .ref q] (mk_ Γ h m q qs sa sb ro M H) z (some (.int p.1)) (mk_ Γ h m q qs sa sb ro p.2 H) := by
  refine Call.of_go (L := [some (.ref m), some (.ref q)]) (by decide +kernel) rfl (by exact Nat.le_of_ble_eq_true rfl) ?_
  unfold s_Model_isSum at hr
  exact l_Model_isSum_go hr0 hr1 hr2 hr3 hr4 hr5 geo _ _ hr
theorem d_Model_isProduct_0 : decode M_Model_isProduct.2.1 0 = .ok (.aload_n 0, 1) := by decide +kernel
theorem d_Model_isProduct_1 : decode M_Model_isProduct.2.1 1 = .ok (.aload_n 1, 1) := by decide +kernel
theorem d_Model_isProduct_2 : decode M_Model_isProduct.2.1 2 = .ok (.invokevirtual 144, 3) := by decide +kernel
theorem d_Model_isProduct_5 : decode M_Model_isProduct.2.1 5 = .ok (.ifCond .ne 5, 3) := by decide +kernel
theorem d_Model_isProduct_8 : decode M_Model_isProduct.2.1 8 = .ok (.iconst 0, 1) := by decide +kernel
theorem d_Model_isProduct_9 : decode M_Model_isProduct.2.1 9 = .ok (.ireturn, 1) := by decide +kernel
theorem d_Model_isProduct_10 : decode M_Model_isProduct.2.1 10 = .ok (.aload_n 0, 1) := by decide +kernel
theorem d_Model_isProduct_11 : decode M_Model_isProduct.2.1 11 = .ok (.aload_n 1, 1) := by decide +kernel
theorem d_Model_isProduct_12 : decode M_Model_isProduct.2.1 12 = .ok (.bipush 48, 2) := by decide +kernel
theorem d_Model_isProduct_14 : decode M_Model_isProduct.2.1 14 = .ok (.bipush 49, 2) := by decide +kernel
theorem d_Model_isProduct_16 : decode M_Model_isProduct.2.1 16 = .ok (.invokevirtual 137, 3) := by decide +kernel
theorem d_Model_isProduct_19 : decode M_Model_isProduct.2.1 19 = .ok (.ifCond .ne (-19), 3) := by decide +kernel
theorem d_Model_isProduct_22 : decode M_Model_isProduct.2.1 22 = .ok (.iconst 1, 1) := by decide +kernel
theorem d_Model_isProduct_23 : decode M_Model_isProduct.2.1 23 = .ok (.ireturn, 1) := by decide +kernel
def l_Model_isProduct (H : SH) (rec : EV)  : Nat → MO → Option (Int32 × MO)
  | 0, _ => none
  | k + 1, M => ((rec 5 M).bind fun p2_1 => (if p2_1.1 = 0 then some (0, p2_1.2) else ((s_Model_eatIn H 48 49 p2_1.2).bind fun p16_3 => (if p16_3.1 = 0 then some (1, p16_3.2) else (l_Model_isProduct H rec  k p16_3.2)))))
set_option maxRecDepth 100000 in
set_option maxHeartbeats 4000000 in
theorem l_Model_isProduct_go {Γ : G9} {h : AH} {m q qs sa sb ro z dd : Nat} {H : SH} {rec : EV} {p : Int32 × MO} (hr0 : ∀ (M : MO) (p : Int32 × MO), rec 0 M = some p → CallR Γ M_Model_isTest (dd + 4) [.ref m, .ref q] (mk_ Γ h m q qs sa sb ro M H) z (some (.int p.1)) (mk_ Γ h m q qs sa sb ro p.2 H)) (hr1 : ∀ (M : MO) (p : Int32 × MO), rec 1 M = some p → CallR Γ M_Model_isBoth (dd + 4) [.ref m, .ref q] (mk_ Γ h m q qs sa sb ro M H) z (some (.int p.1)) (mk_ Γ h m q qs sa sb ro p.2 H)) (hr2 : ∀ (M : MO) (p : Int32 × MO), rec 2 M = some p → CallR Γ M_Model_isSingle (dd + 4) [.ref m, .ref q] (mk_ Γ h m q qs sa sb ro M H) z (some (.int p.1)) (mk_ Γ h m q qs sa sb ro p.2 H)) (hr3 : ∀ (M : MO) (p : Int32 × MO), rec 3 M = some p → CallR Γ M_Model_isSum (dd + 4) [.ref m, .ref q] (mk_ Γ h m q qs sa sb ro M H) z (some (.int p.1)) (mk_ Γ h m q qs sa sb ro p.2 H)) (hr4 : ∀ (M : MO) (p : Int32 × MO), rec 4 M = some p → CallR Γ M_Model_isProduct (dd + 4) [.ref m, .ref q] (mk_ Γ h m q qs sa sb ro M H) z (some (.int p.1)) (mk_ Γ h m q qs sa sb ro p.2 H)) (hr5 : ∀ (M : MO) (p : Int32 × MO), rec 5 M = some p → CallR Γ M_Model_isValue (dd + 4) [.ref m, .ref q] (mk_ Γ h m q qs sa sb ro M H) z (some (.int p.1)) (mk_ Γ h m q qs sa sb ro p.2 H)) (geo : m + 2 ≤ q) : ∀ (k : Nat) (M : MO), l_Model_isProduct H rec  k M = some p → Go Γ M_Model_isProduct (dd + 1 + 4) 0 0 0 [some (.ref m), some (.ref q)] [] (mk_ Γ h m q qs sa sb ro M H) z (RQ (some (.int p.1)) (mk_ Γ h m q qs sa sb ro p.2 H) z) noX := by
  intro k
  induction k with
  | zero =>
    intro M hr
    cases hr
  | succ k ih =>
    intro M hr
    unfold l_Model_isProduct at hr
    refine Go.aload_0 d_Model_isProduct_0 rfl ?_
    refine Go.aload_1 d_Model_isProduct_1 rfl ?_
    obtain ⟨p2_1, hp2_1, hr⟩ := Option.bind_eq_some_iff.mp hr
    try dsimp only at hr
    refine Go.cv1r d_Model_isProduct_2 rfl l_Model_144 k_Model_isValue_v (mk_at_m (by omega)) rfl (hr5 _ _ hp2_1) (Nat.ble_eq_true_of_le (by omega)) rfl rfl ?_
    refine Go.if_ne (t := 10) d_Model_isProduct_5 (by decide) rfl (fun c5_2 => ?_) (fun c5_2 => ?_)
    · refine Go.aload_0 d_Model_isProduct_10 rfl ?_
      refine Go.aload_1 d_Model_isProduct_11 rfl ?_
      refine Go.bipush (v := 48) d_Model_isProduct_12 rfl (by decide) ?_
      refine Go.bipush (v := 49) d_Model_isProduct_14 rfl (by decide) ?_
      rw [if_neg c5_2] at hr
      obtain ⟨p16_3, hp16_3, hr⟩ := Option.bind_eq_some_iff.mp hr
      try dsimp only at hr
      refine Go.cv3r d_Model_isProduct_16 rfl l_Model_137 k_Model_eatIn_v (mk_at_m (by omega)) rfl (c_Model_eatIn geo hp16_3) (Nat.ble_eq_true_of_le (by omega)) rfl rfl ?_
      refine Go.if_ne (t := 0) d_Model_isProduct_19 (by decide) rfl (fun c19_4 => ?_) (fun c19_4 => ?_)
      · rw [if_neg c19_4] at hr
        exact ih _ hr
      · refine Go.iconst (v := 1) d_Model_isProduct_22 rfl (by decide) ?_
        rw [if_pos c19_4] at hr
        cases hr
        exact Go.iret d_Model_isProduct_23 rfl rfl ⟨rfl, rfl, rfl⟩
    · refine Go.iconst (v := 0) d_Model_isProduct_8 rfl (by decide) ?_
      rw [if_pos c5_2] at hr
      cases hr
      exact Go.iret d_Model_isProduct_9 rfl rfl ⟨rfl, rfl, rfl⟩
def s_Model_isProduct (H : SH) (rec : EV)  (M : MO) : Option (Int32 × MO) := (l_Model_isProduct H rec  401 M)
set_option maxRecDepth 100000 in
set_option maxHeartbeats 4000000 in
theorem c_Model_isProduct {Γ : G9} {h : AH} {m q qs sa sb ro z dd : Nat} {M : MO} {H : SH} {rec : EV} {p : Int32 × MO} (hr0 : ∀ (M : MO) (p : Int32 × MO), rec 0 M = some p → CallR Γ M_Model_isTest (dd + 4) [.ref m, .ref q] (mk_ Γ h m q qs sa sb ro M H) z (some (.int p.1)) (mk_ Γ h m q qs sa sb ro p.2 H)) (hr1 : ∀ (M : MO) (p : Int32 × MO), rec 1 M = some p → CallR Γ M_Model_isBoth (dd + 4) [.ref m, .ref q] (mk_ Γ h m q qs sa sb ro M H) z (some (.int p.1)) (mk_ Γ h m q qs sa sb ro p.2 H)) (hr2 : ∀ (M : MO) (p : Int32 × MO), rec 2 M = some p → CallR Γ M_Model_isSingle (dd + 4) [.ref m, .ref q] (mk_ Γ h m q qs sa sb ro M H) z (some (.int p.1)) (mk_ Γ h m q qs sa sb ro p.2 H)) (hr3 : ∀ (M : MO) (p : Int32 × MO), rec 3 M = some p → CallR Γ M_Model_isSum (dd + 4) [.ref m, .ref q] (mk_ Γ h m q qs sa sb ro M H) z (some (.int p.1)) (mk_ Γ h m q qs sa sb ro p.2 H)) (hr4 : ∀ (M : MO) (p : Int32 × MO), rec 4 M = some p → CallR Γ M_Model_isProduct (dd + 4) [.ref m, .ref q] (mk_ Γ h m q qs sa sb ro M H) z (some (.int p.1)) (mk_ Γ h m q qs sa sb ro p.2 H)) (hr5 : ∀ (M : MO) (p : Int32 × MO), rec 5 M = some p → CallR Γ M_Model_isValue (dd + 4) [.ref m, .ref q] (mk_ Γ h m q qs sa sb ro M H) z (some (.int p.1)) (mk_ Γ h m q qs sa sb ro p.2 H)) (geo : m + 2 ≤ q) (hr : s_Model_isProduct H rec  M = some p) : CallR Γ M_Model_isProduct (dd + 1 + 4) [.ref m, .ref q] (mk_ Γ h m q qs sa sb ro M H) z (some (.int p.1)) (mk_ Γ h m q qs sa sb ro p.2 H) := by
  refine Call.of_go (L := [some (.ref m), some (.ref q)]) (by decide +kernel) rfl (by exact Nat.le_of_ble_eq_true rfl) ?_
  unfold s_Model_isProduct at hr
  exact l_Model_isProduct_go hr0 hr1 hr2 hr3 hr4 hr5 geo _ _ hr
theorem d_Model_isValue_0 : decode M_Model_isValue.2.1 0 = .ok (.aload_n 1, 1) := by decide +kernel
theorem d_Model_isValue_1 : decode M_Model_isValue.2.1 1 = .ok (.getfield 93, 3) := by decide +kernel
theorem d_Model_isValue_4 : decode M_Model_isValue.2.1 4 = .ok (.aload_n 0, 1) := by decide +kernel
theorem d_Model_isValue_5 : decode M_Model_isValue.2.1 5 = .ok (.getfield 99, 3) := by decide +kernel
theorem d_Model_isValue_8 : decode M_Model_isValue.2.1 8 = .ok (.iaload, 1) := by decide +kernel
theorem d_Model_isValue_9 : decode M_Model_isValue.2.1 9 = .ok (.bipush 47, 2) := by decide +kernel
theorem d_Model_isValue_11 : decode M_Model_isValue.2.1 11 = .ok (.if_icmp .ne 35, 3) := by decide +kernel
theorem d_Model_isValue_14 : decode M_Model_isValue.2.1 14 = .ok (.aload_n 0, 1) := by decide +kernel
theorem d_Model_isValue_15 : decode M_Model_isValue.2.1 15 = .ok (.aload_n 1, 1) := by decide +kernel
theorem d_Model_isValue_16 : decode M_Model_isValue.2.1 16 = .ok (.bipush 47, 2) := by decide +kernel
theorem d_Model_isValue_18 : decode M_Model_isValue.2.1 18 = .ok (.invokevirtual 134, 3) := by decide +kernel
theorem d_Model_isValue_21 : decode M_Model_isValue.2.1 21 = .ok (.ifCond .eq 11, 3) := by decide +kernel
theorem d_Model_isValue_24 : decode M_Model_isValue.2.1 24 = .ok (.aload_n 0, 1) := by decide +kernel
theorem d_Model_isValue_25 : decode M_Model_isValue.2.1 25 = .ok (.aload_n 1, 1) := by decide +kernel
theorem d_Model_isValue_26 : decode M_Model_isValue.2.1 26 = .ok (.invokevirtual 144, 3) := by decide +kernel
theorem d_Model_isValue_29 : decode M_Model_isValue.2.1 29 = .ok (.ifCond .ne 5, 3) := by decide +kernel
theorem d_Model_isValue_32 : decode M_Model_isValue.2.1 32 = .ok (.iconst 0, 1) := by decide +kernel
theorem d_Model_isValue_33 : decode M_Model_isValue.2.1 33 = .ok (.ireturn, 1) := by decide +kernel
theorem d_Model_isValue_34 : decode M_Model_isValue.2.1 34 = .ok (.aload_n 0, 1) := by decide +kernel
theorem d_Model_isValue_35 : decode M_Model_isValue.2.1 35 = .ok (.dup, 1) := by decide +kernel
theorem d_Model_isValue_36 : decode M_Model_isValue.2.1 36 = .ok (.getfield 102, 3) := by decide +kernel
theorem d_Model_isValue_39 : decode M_Model_isValue.2.1 39 = .ok (.iconst 1, 1) := by decide +kernel
theorem d_Model_isValue_40 : decode M_Model_isValue.2.1 40 = .ok (.isub, 1) := by decide +kernel
theorem d_Model_isValue_41 : decode M_Model_isValue.2.1 41 = .ok (.putfield 102, 3) := by decide +kernel
theorem d_Model_isValue_44 : decode M_Model_isValue.2.1 44 = .ok (.iconst 1, 1) := by decide +kernel
theorem d_Model_isValue_45 : decode M_Model_isValue.2.1 45 = .ok (.ireturn, 1) := by decide +kernel
theorem d_Model_isValue_46 : decode M_Model_isValue.2.1 46 = .ok (.aload_n 0, 1) := by decide +kernel
theorem d_Model_isValue_47 : decode M_Model_isValue.2.1 47 = .ok (.aload_n 1, 1) := by decide +kernel
theorem d_Model_isValue_48 : decode M_Model_isValue.2.1 48 = .ok (.bipush 37, 2) := by decide +kernel
theorem d_Model_isValue_50 : decode M_Model_isValue.2.1 50 = .ok (.invokevirtual 109, 3) := by decide +kernel
theorem d_Model_isValue_53 : decode M_Model_isValue.2.1 53 = .ok (.ifCond .ne 15, 3) := by decide +kernel
theorem d_Model_isValue_56 : decode M_Model_isValue.2.1 56 = .ok (.aload_n 0, 1) := by decide +kernel
theorem d_Model_isValue_57 : decode M_Model_isValue.2.1 57 = .ok (.aload_n 1, 1) := by decide +kernel
theorem d_Model_isValue_58 : decode M_Model_isValue.2.1 58 = .ok (.bipush 13, 2) := by decide +kernel
theorem d_Model_isValue_60 : decode M_Model_isValue.2.1 60 = .ok (.bipush 14, 2) := by decide +kernel
theorem d_Model_isValue_62 : decode M_Model_isValue.2.1 62 = .ok (.invokevirtual 137, 3) := by decide +kernel
theorem d_Model_isValue_65 : decode M_Model_isValue.2.1 65 = .ok (.ifCond .eq 5, 3) := by decide +kernel
theorem d_Model_isValue_68 : decode M_Model_isValue.2.1 68 = .ok (.iconst 1, 1) := by decide +kernel
theorem d_Model_isValue_69 : decode M_Model_isValue.2.1 69 = .ok (.ireturn, 1) := by decide +kernel
theorem d_Model_isValue_70 : decode M_Model_isValue.2.1 70 = .ok (.aload_n 0, 1) := by decide +kernel
theorem d_Model_isValue_71 : decode M_Model_isValue.2.1 71 = .ok (.aload_n 1, 1) := by decide +kernel
theorem d_Model_isValue_72 : decode M_Model_isValue.2.1 72 = .ok (.iconst 2, 1) := by decide +kernel
theorem d_Model_isValue_73 : decode M_Model_isValue.2.1 73 = .ok (.invokevirtual 109, 3) := by decide +kernel
theorem d_Model_isValue_76 : decode M_Model_isValue.2.1 76 = .ok (.ifCond .ne 25, 3) := by decide +kernel
theorem d_Model_isValue_79 : decode M_Model_isValue.2.1 79 = .ok (.aload_n 0, 1) := by decide +kernel
theorem d_Model_isValue_80 : decode M_Model_isValue.2.1 80 = .ok (.aload_n 1, 1) := by decide +kernel
theorem d_Model_isValue_81 : decode M_Model_isValue.2.1 81 = .ok (.bipush 8, 2) := by decide +kernel
theorem d_Model_isValue_83 : decode M_Model_isValue.2.1 83 = .ok (.invokevirtual 109, 3) := by decide +kernel
theorem d_Model_isValue_86 : decode M_Model_isValue.2.1 86 = .ok (.ifCond .ne 15, 3) := by decide +kernel
theorem d_Model_isValue_89 : decode M_Model_isValue.2.1 89 = .ok (.aload_n 0, 1) := by decide +kernel
theorem d_Model_isValue_90 : decode M_Model_isValue.2.1 90 = .ok (.aload_n 1, 1) := by decide +kernel
theorem d_Model_isValue_91 : decode M_Model_isValue.2.1 91 = .ok (.bipush 23, 2) := by decide +kernel
theorem d_Model_isValue_93 : decode M_Model_isValue.2.1 93 = .ok (.bipush 26, 2) := by decide +kernel
theorem d_Model_isValue_95 : decode M_Model_isValue.2.1 95 = .ok (.invokevirtual 137, 3) := by decide +kernel
theorem d_Model_isValue_98 : decode M_Model_isValue.2.1 98 = .ok (.ifCond .eq 11, 3) := by decide +kernel
theorem d_Model_isValue_101 : decode M_Model_isValue.2.1 101 = .ok (.aload_n 0, 1) := by decide +kernel
theorem d_Model_isValue_102 : decode M_Model_isValue.2.1 102 = .ok (.aload_n 1, 1) := by decide +kernel
theorem d_Model_isValue_103 : decode M_Model_isValue.2.1 103 = .ok (.bipush 36, 2) := by decide +kernel
theorem d_Model_isValue_105 : decode M_Model_isValue.2.1 105 = .ok (.invokevirtual 109, 3) := by decide +kernel
theorem d_Model_isValue_108 : decode M_Model_isValue.2.1 108 = .ok (.ireturn, 1) := by decide +kernel
theorem d_Model_isValue_109 : decode M_Model_isValue.2.1 109 = .ok (.aload_n 0, 1) := by decide +kernel
theorem d_Model_isValue_110 : decode M_Model_isValue.2.1 110 = .ok (.aload_n 1, 1) := by decide +kernel
theorem d_Model_isValue_111 : decode M_Model_isValue.2.1 111 = .ok (.bipush 33, 2) := by decide +kernel
theorem d_Model_isValue_113 : decode M_Model_isValue.2.1 113 = .ok (.bipush 34, 2) := by decide +kernel
theorem d_Model_isValue_115 : decode M_Model_isValue.2.1 115 = .ok (.invokevirtual 137, 3) := by decide +kernel
theorem d_Model_isValue_118 : decode M_Model_isValue.2.1 118 = .ok (.istore_n 2, 1) := by decide +kernel
theorem d_Model_isValue_119 : decode M_Model_isValue.2.1 119 = .ok (.aload_n 0, 1) := by decide +kernel
theorem d_Model_isValue_120 : decode M_Model_isValue.2.1 120 = .ok (.aload_n 1, 1) := by decide +kernel
theorem d_Model_isValue_121 : decode M_Model_isValue.2.1 121 = .ok (.bipush 40, 2) := by decide +kernel
theorem d_Model_isValue_123 : decode M_Model_isValue.2.1 123 = .ok (.invokevirtual 134, 3) := by decide +kernel
theorem d_Model_isValue_126 : decode M_Model_isValue.2.1 126 = .ok (.ifCond .eq 43, 3) := by decide +kernel
theorem d_Model_isValue_129 : decode M_Model_isValue.2.1 129 = .ok (.aload_n 0, 1) := by decide +kernel
theorem d_Model_isValue_130 : decode M_Model_isValue.2.1 130 = .ok (.aload_n 1, 1) := by decide +kernel
theorem d_Model_isValue_131 : decode M_Model_isValue.2.1 131 = .ok (.invokevirtual 125, 3) := by decide +kernel
theorem d_Model_isValue_134 : decode M_Model_isValue.2.1 134 = .ok (.ifCond .eq 35, 3) := by decide +kernel
theorem d_Model_isValue_137 : decode M_Model_isValue.2.1 137 = .ok (.iload_n 2, 1) := by decide +kernel
theorem d_Model_isValue_138 : decode M_Model_isValue.2.1 138 = .ok (.ifCond .eq 21, 3) := by decide +kernel
theorem d_Model_isValue_141 : decode M_Model_isValue.2.1 141 = .ok (.aload_n 0, 1) := by decide +kernel
theorem d_Model_isValue_142 : decode M_Model_isValue.2.1 142 = .ok (.aload_n 1, 1) := by decide +kernel
theorem d_Model_isValue_143 : decode M_Model_isValue.2.1 143 = .ok (.bipush 45, 2) := by decide +kernel
theorem d_Model_isValue_145 : decode M_Model_isValue.2.1 145 = .ok (.invokevirtual 109, 3) := by decide +kernel
theorem d_Model_isValue_148 : decode M_Model_isValue.2.1 148 = .ok (.ifCond .eq 21, 3) := by decide +kernel
theorem d_Model_isValue_151 : decode M_Model_isValue.2.1 151 = .ok (.aload_n 0, 1) := by decide +kernel
theorem d_Model_isValue_152 : decode M_Model_isValue.2.1 152 = .ok (.aload_n 1, 1) := by decide +kernel
theorem d_Model_isValue_153 : decode M_Model_isValue.2.1 153 = .ok (.invokevirtual 125, 3) := by decide +kernel
theorem d_Model_isValue_156 : decode M_Model_isValue.2.1 156 = .ok (.ifCond .eq 13, 3) := by decide +kernel
theorem d_Model_isValue_159 : decode M_Model_isValue.2.1 159 = .ok (.aload_n 0, 1) := by decide +kernel
theorem d_Model_isValue_160 : decode M_Model_isValue.2.1 160 = .ok (.aload_n 1, 1) := by decide +kernel
theorem d_Model_isValue_161 : decode M_Model_isValue.2.1 161 = .ok (.bipush 41, 2) := by decide +kernel
theorem d_Model_isValue_163 : decode M_Model_isValue.2.1 163 = .ok (.invokevirtual 109, 3) := by decide +kernel
theorem d_Model_isValue_166 : decode M_Model_isValue.2.1 166 = .ok (.ifCond .ne 5, 3) := by decide +kernel
theorem d_Model_isValue_169 : decode M_Model_isValue.2.1 169 = .ok (.iconst 0, 1) := by decide +kernel
theorem d_Model_isValue_170 : decode M_Model_isValue.2.1 170 = .ok (.ireturn, 1) := by decide +kernel
theorem d_Model_isValue_171 : decode M_Model_isValue.2.1 171 = .ok (.aload_n 0, 1) := by decide +kernel
theorem d_Model_isValue_172 : decode M_Model_isValue.2.1 172 = .ok (.dup, 1) := by decide +kernel
theorem d_Model_isValue_173 : decode M_Model_isValue.2.1 173 = .ok (.getfield 102, 3) := by decide +kernel
theorem d_Model_isValue_176 : decode M_Model_isValue.2.1 176 = .ok (.iconst 1, 1) := by decide +kernel
theorem d_Model_isValue_177 : decode M_Model_isValue.2.1 177 = .ok (.isub, 1) := by decide +kernel
theorem d_Model_isValue_178 : decode M_Model_isValue.2.1 178 = .ok (.putfield 102, 3) := by decide +kernel
theorem d_Model_isValue_181 : decode M_Model_isValue.2.1 181 = .ok (.iconst 1, 1) := by decide +kernel
theorem d_Model_isValue_182 : decode M_Model_isValue.2.1 182 = .ok (.ireturn, 1) := by decide +kernel
def s_Model_isValue (H : SH) (rec : EV)  (M : MO) : Option (Int32 × MO) := (if (mo_tk M) < 401 then (if ((sh_kd H) (mo_tk M)) = 47 then ((s_Model_goDown H 47 M).bind fun p18_35 => (if p18_35.1 = 0 then some (0, p18_35.2) else ((rec 5 p18_35.2).bind fun p26_37 => (if p26_37.1 = 0 then some (0, p26_37.2) else (if 1 ≤ (mo_dp p26_37.2) then some (1, (mo_dp' p26_37.2 ((mo_dp p26_37.2) - 1))) else none))))) else ((s_Model_eat_0 H 37 M).bind fun p50_3 => (if p50_3.1 = 0 then ((s_Model_eatIn H 13 14 p50_3.2).bind fun p62_5 => (if p62_5.1 = 0 then ((s_Model_eat_0 H 2 p62_5.2).bind fun p73_7 => (if p73_7.1 = 0 then ((s_Model_eat_0 H 8 p73_7.2).bind fun p83_11 => (if p83_11.1 = 0 then ((s_Model_eatIn H 23 26 p83_11.2).bind fun p95_15 => (if p95_15.1 = 0 then ((s_Model_eatIn H 33 34 p95_15.2).bind fun p115_17 => ((s_Model_goDown H 40 p115_17.2).bind fun p123_18 => (if p123_18.1 = 0 then some (0, p123_18.2) else ((rec 3 p123_18.2).bind fun p131_20 => (if p131_20.1 = 0 then some (0, p131_20.2) else (if p115_17.1 = 0 then ((s_Model_eat_0 H 41 p131_20.2).bind fun p163_23 => (if p163_23.1 = 0 then some (0, p163_23.2) else (if 1 ≤ (mo_dp p163_23.2) then some (1, (mo_dp' p163_23.2 ((mo_dp p163_23.2) - 1))) else none))) else ((s_Model_eat_0 H 45 p131_20.2).bind fun p145_26 => (if p145_26.1 = 0 then some (0, p145_26.2) else ((rec 3 p145_26.2).bind fun p153_28 => (if p153_28.1 = 0 then some (0, p153_28.2) else ((s_Model_eat_0 H 41 p153_28.2).bind fun p163_30 => (if p163_30.1 = 0 then some (0, p163_30.2) else (if 1 ≤ (mo_dp p163_30.2) then some (1, (mo_dp' p163_30.2 ((mo_dp p163_30.2) - 1))) else none))))))))))))) else ((s_Model_eat_0 H 36 p95_15.2).bind fun p105_33 => (if b01 p105_33.1 = true then some (p105_33.1, p105_33.2) else none)))) else ((s_Model_eat_0 H 36 p83_11.2).bind fun p105_13 => (if b01 p105_13.1 = true then some (p105_13.1, p105_13.2) else none)))) else ((s_Model_eat_0 H 36 p73_7.2).bind fun p105_9 => (if b01 p105_9.1 = true then some (p105_9.1, p105_9.2) else none)))) else some (1, p62_5.2))) else some (1, p50_3.2)))) else none)
set_option maxRecDepth 100000 in
set_option maxHeartbeats 4000000 in
theorem c_Model_isValue {Γ : G9} {h : AH} {m q qs sa sb ro z dd : Nat} {M : MO} {H : SH} {rec : EV} {p : Int32 × MO} (hr0 : ∀ (M : MO) (p : Int32 × MO), rec 0 M = some p → CallR Γ M_Model_isTest (dd + 4) [.ref m, .ref q] (mk_ Γ h m q qs sa sb ro M H) z (some (.int p.1)) (mk_ Γ h m q qs sa sb ro p.2 H)) (hr1 : ∀ (M : MO) (p : Int32 × MO), rec 1 M = some p → CallR Γ M_Model_isBoth (dd + 4) [.ref m, .ref q] (mk_ Γ h m q qs sa sb ro M H) z (some (.int p.1)) (mk_ Γ h m q qs sa sb ro p.2 H)) (hr2 : ∀ (M : MO) (p : Int32 × MO), rec 2 M = some p → CallR Γ M_Model_isSingle (dd + 4) [.ref m, .ref q] (mk_ Γ h m q qs sa sb ro M H) z (some (.int p.1)) (mk_ Γ h m q qs sa sb ro p.2 H)) (hr3 : ∀ (M : MO) (p : Int32 × MO), rec 3 M = some p → CallR Γ M_Model_isSum (dd + 4) [.ref m, .ref q] (mk_ Γ h m q qs sa sb ro M H) z (some (.int p.1)) (mk_ Γ h m q qs sa sb ro p.2 H)) (hr4 : ∀ (M : MO) (p : Int32 × MO), rec 4 M = some p → CallR Γ M_Model_isProduct (dd + 4) [.ref m, .ref q] (mk_ Γ h m q qs sa sb ro M H) z (some (.int p.1)) (mk_ Γ h m q qs sa sb ro p.2 H)) (hr5 : ∀ (M : MO) (p : Int32 × MO), rec 5 M = some p → CallR Γ M_Model_isValue (dd + 4) [.ref m, .ref q] (mk_ Γ h m q qs sa sb ro M H) z (some (.int p.1)) (mk_ Γ h m q qs sa sb ro p.2 H)) (geo : m + 2 ≤ q) (hr : s_Model_isValue H rec  M = some p) : CallR Γ M_Model_isValue (dd + 1 + 4) [.ref m, .ref q] (mk_ Γ h m q qs sa sb ro M H) z (some (.int p.1)) (mk_ Γ h m q qs sa sb ro p.2 H) := by
  refine Call.of_go (L := [some (.ref m), some (.ref q), none]) (by decide +kernel) rfl (by exact Nat.le_of_ble_eq_true rfl) ?_
  unfold s_Model_isValue at hr
  refine Go.aload_1 d_Model_isValue_0 rfl ?_
  refine Go.getfield d_Model_isValue_1 rfl f_Model_93 (mk_at_q (by omega)) (by rfl) ?_
  refine Go.aload_0 d_Model_isValue_4 rfl ?_
  refine Go.getfield d_Model_isValue_5 rfl f_Model_99 (mk_at_m (by omega)) (by rfl) ?_
  have o8_1 : (mo_tk M) < 401 := Classical.byContradiction fun w => by
    rw [if_neg w] at hr
    cases hr
  refine Go.iaload d_Model_isValue_8 rfl (mk_at_q_1 (by omega)) (vp_in_nI o8_1 (by decide)) ?_
  rw [nI_clamp (show (mo_tk M) < 2 ^ 31 by omega)]
  refine Go.bipush (v := 47) d_Model_isValue_9 rfl (by decide) ?_
  refine Go.icmp_ne (t := 46) d_Model_isValue_11 (by decide) rfl (fun c11_2 => ?_) (fun c11_2 => ?_)
  · refine Go.aload_0 d_Model_isValue_46 rfl ?_
    refine Go.aload_1 d_Model_isValue_47 rfl ?_
    refine Go.bipush (v := 37) d_Model_isValue_48 rfl (by decide) ?_
    rw [if_pos o8_1, if_neg c11_2] at hr
    obtain ⟨p50_3, hp50_3, hr⟩ := Option.bind_eq_some_iff.mp hr
    try dsimp only at hr
    refine Go.cv2r d_Model_isValue_50 rfl l_Model_109 k_Model_eat_0_v (mk_at_m (by omega)) rfl (c_Model_eat_0 geo hp50_3) (Nat.ble_eq_true_of_le (by omega)) rfl rfl ?_
    refine Go.if_ne (t := 68) d_Model_isValue_53 (by decide) rfl (fun c53_4 => ?_) (fun c53_4 => ?_)
    · refine Go.iconst (v := 1) d_Model_isValue_68 rfl (by decide) ?_
      rw [if_neg c53_4] at hr
      cases hr
      exact Go.iret d_Model_isValue_69 rfl rfl ⟨rfl, rfl, rfl⟩
    · refine Go.aload_0 d_Model_isValue_56 rfl ?_
      refine Go.aload_1 d_Model_isValue_57 rfl ?_
      refine Go.bipush (v := 13) d_Model_isValue_58 rfl (by decide) ?_
      refine Go.bipush (v := 14) d_Model_isValue_60 rfl (by decide) ?_
      rw [if_pos c53_4] at hr
      obtain ⟨p62_5, hp62_5, hr⟩ := Option.bind_eq_some_iff.mp hr
      try dsimp only at hr
      refine Go.cv3r d_Model_isValue_62 rfl l_Model_137 k_Model_eatIn_v (mk_at_m (by omega)) rfl (c_Model_eatIn geo hp62_5) (Nat.ble_eq_true_of_le (by omega)) rfl rfl ?_
      refine Go.if_eq (t := 70) d_Model_isValue_65 (by decide) rfl (fun c65_6 => ?_) (fun c65_6 => ?_)
      · refine Go.aload_0 d_Model_isValue_70 rfl ?_
        refine Go.aload_1 d_Model_isValue_71 rfl ?_
        refine Go.iconst (v := 2) d_Model_isValue_72 rfl (by decide) ?_
        rw [if_pos c65_6] at hr
        obtain ⟨p73_7, hp73_7, hr⟩ := Option.bind_eq_some_iff.mp hr
        try dsimp only at hr
        refine Go.cv2r d_Model_isValue_73 rfl l_Model_109 k_Model_eat_0_v (mk_at_m (by omega)) rfl (c_Model_eat_0 geo hp73_7) (Nat.ble_eq_true_of_le (by omega)) rfl rfl ?_
        refine Go.if_ne (t := 101) d_Model_isValue_76 (by decide) rfl (fun c76_8 => ?_) (fun c76_8 => ?_)
        · refine Go.aload_0 d_Model_isValue_101 rfl ?_
          refine Go.aload_1 d_Model_isValue_102 rfl ?_
          refine Go.bipush (v := 36) d_Model_isValue_103 rfl (by decide) ?_
          rw [if_neg c76_8] at hr
          obtain ⟨p105_9, hp105_9, hr⟩ := Option.bind_eq_some_iff.mp hr
          try dsimp only at hr
          refine Go.cv2r d_Model_isValue_105 rfl l_Model_109 k_Model_eat_0_v (mk_at_m (by omega)) rfl (c_Model_eat_0 geo hp105_9) (Nat.ble_eq_true_of_le (by omega)) rfl rfl ?_
          have b108_10 : b01 p105_9.1 = true := Classical.byContradiction fun w => by
            rw [if_neg w] at hr
            cases hr
          rw [if_pos b108_10] at hr
          cases hr
          exact Go.iret d_Model_isValue_108 rfl (nb (b01_or b108_10)) ⟨rfl, rfl, rfl⟩
        · refine Go.aload_0 d_Model_isValue_79 rfl ?_
          refine Go.aload_1 d_Model_isValue_80 rfl ?_
          refine Go.bipush (v := 8) d_Model_isValue_81 rfl (by decide) ?_
          rw [if_pos c76_8] at hr
          obtain ⟨p83_11, hp83_11, hr⟩ := Option.bind_eq_some_iff.mp hr
          try dsimp only at hr
          refine Go.cv2r d_Model_isValue_83 rfl l_Model_109 k_Model_eat_0_v (mk_at_m (by omega)) rfl (c_Model_eat_0 geo hp83_11) (Nat.ble_eq_true_of_le (by omega)) rfl rfl ?_
          refine Go.if_ne (t := 101) d_Model_isValue_86 (by decide) rfl (fun c86_12 => ?_) (fun c86_12 => ?_)
          · refine Go.aload_0 d_Model_isValue_101 rfl ?_
            refine Go.aload_1 d_Model_isValue_102 rfl ?_
            refine Go.bipush (v := 36) d_Model_isValue_103 rfl (by decide) ?_
            rw [if_neg c86_12] at hr
            obtain ⟨p105_13, hp105_13, hr⟩ := Option.bind_eq_some_iff.mp hr
            try dsimp only at hr
            refine Go.cv2r d_Model_isValue_105 rfl l_Model_109 k_Model_eat_0_v (mk_at_m (by omega)) rfl (c_Model_eat_0 geo hp105_13) (Nat.ble_eq_true_of_le (by omega)) rfl rfl ?_
            have b108_14 : b01 p105_13.1 = true := Classical.byContradiction fun w => by
              rw [if_neg w] at hr
              cases hr
            rw [if_pos b108_14] at hr
            cases hr
            exact Go.iret d_Model_isValue_108 rfl (nb (b01_or b108_14)) ⟨rfl, rfl, rfl⟩
          · refine Go.aload_0 d_Model_isValue_89 rfl ?_
            refine Go.aload_1 d_Model_isValue_90 rfl ?_
            refine Go.bipush (v := 23) d_Model_isValue_91 rfl (by decide) ?_
            refine Go.bipush (v := 26) d_Model_isValue_93 rfl (by decide) ?_
            rw [if_pos c86_12] at hr
            obtain ⟨p95_15, hp95_15, hr⟩ := Option.bind_eq_some_iff.mp hr
            try dsimp only at hr
            refine Go.cv3r d_Model_isValue_95 rfl l_Model_137 k_Model_eatIn_v (mk_at_m (by omega)) rfl (c_Model_eatIn geo hp95_15) (Nat.ble_eq_true_of_le (by omega)) rfl rfl ?_
            refine Go.if_eq (t := 109) d_Model_isValue_98 (by decide) rfl (fun c98_16 => ?_) (fun c98_16 => ?_)
            · refine Go.aload_0 d_Model_isValue_109 rfl ?_
              refine Go.aload_1 d_Model_isValue_110 rfl ?_
              refine Go.bipush (v := 33) d_Model_isValue_111 rfl (by decide) ?_
              refine Go.bipush (v := 34) d_Model_isValue_113 rfl (by decide) ?_
              rw [if_pos c98_16] at hr
              obtain ⟨p115_17, hp115_17, hr⟩ := Option.bind_eq_some_iff.mp hr
              try dsimp only at hr
              refine Go.cv3r d_Model_isValue_115 rfl l_Model_137 k_Model_eatIn_v (mk_at_m (by omega)) rfl (c_Model_eatIn geo hp115_17) (Nat.ble_eq_true_of_le (by omega)) rfl rfl ?_
              refine Go.istore_2 d_Model_isValue_118 rfl (by rfl) ?_
              refine Go.aload_0 d_Model_isValue_119 rfl ?_
              refine Go.aload_1 d_Model_isValue_120 rfl ?_
              refine Go.bipush (v := 40) d_Model_isValue_121 rfl (by decide) ?_
              obtain ⟨p123_18, hp123_18, hr⟩ := Option.bind_eq_some_iff.mp hr
              try dsimp only at hr
              refine Go.cv2r d_Model_isValue_123 rfl l_Model_134 k_Model_goDown_v (mk_at_m (by omega)) rfl (c_Model_goDown geo hp123_18) (Nat.ble_eq_true_of_le (by omega)) rfl rfl ?_
              refine Go.if_eq (t := 169) d_Model_isValue_126 (by decide) rfl (fun c126_19 => ?_) (fun c126_19 => ?_)
              · refine Go.iconst (v := 0) d_Model_isValue_169 rfl (by decide) ?_
                rw [if_pos c126_19] at hr
                cases hr
                exact Go.iret d_Model_isValue_170 rfl rfl ⟨rfl, rfl, rfl⟩
              · refine Go.aload_0 d_Model_isValue_129 rfl ?_
                refine Go.aload_1 d_Model_isValue_130 rfl ?_
                rw [if_neg c126_19] at hr
                obtain ⟨p131_20, hp131_20, hr⟩ := Option.bind_eq_some_iff.mp hr
                try dsimp only at hr
                refine Go.cv1r d_Model_isValue_131 rfl l_Model_125 k_Model_isSum_v (mk_at_m (by omega)) rfl (hr3 _ _ hp131_20) (Nat.ble_eq_true_of_le (by omega)) rfl rfl ?_
                refine Go.if_eq (t := 169) d_Model_isValue_134 (by decide) rfl (fun c134_21 => ?_) (fun c134_21 => ?_)
                · refine Go.iconst (v := 0) d_Model_isValue_169 rfl (by decide) ?_
                  rw [if_pos c134_21] at hr
                  cases hr
                  exact Go.iret d_Model_isValue_170 rfl rfl ⟨rfl, rfl, rfl⟩
                · refine Go.iload_2 d_Model_isValue_137 rfl ?_
                  refine Go.if_eq (t := 159) d_Model_isValue_138 (by decide) rfl (fun c138_22 => ?_) (fun c138_22 => ?_)
                  · refine Go.aload_0 d_Model_isValue_159 rfl ?_
                    refine Go.aload_1 d_Model_isValue_160 rfl ?_
                    refine Go.bipush (v := 41) d_Model_isValue_161 rfl (by decide) ?_
                    rw [if_neg c134_21, if_pos c138_22] at hr
                    obtain ⟨p163_23, hp163_23, hr⟩ := Option.bind_eq_some_iff.mp hr
                    try dsimp only at hr
                    refine Go.cv2r d_Model_isValue_163 rfl l_Model_109 k_Model_eat_0_v (mk_at_m (by omega)) rfl (c_Model_eat_0 geo hp163_23) (Nat.ble_eq_true_of_le (by omega)) rfl rfl ?_
                    refine Go.if_ne (t := 171) d_Model_isValue_166 (by decide) rfl (fun c166_24 => ?_) (fun c166_24 => ?_)
                    · refine Go.aload_0 d_Model_isValue_171 rfl ?_
                      refine Go.dup d_Model_isValue_172 rfl rfl ?_
                      refine Go.getfield d_Model_isValue_173 rfl f_Model_102 (mk_at_m (by omega)) (by rfl) ?_
                      refine Go.iconst (v := 1) d_Model_isValue_176 rfl (by decide) ?_
                      refine Go.isub d_Model_isValue_177 rfl ?_
                      have o177_25 : 1 ≤ (mo_dp p163_23.2) := Classical.byContradiction fun w => by
                        rw [if_neg c166_24, if_neg w] at hr
                        cases hr
                      rw [show nI (mo_dp p163_23.2) - 1 = nI ((mo_dp p163_23.2) - 1) from nI_pred1 o177_25]
                      refine Go.putfield d_Model_isValue_178 rfl f_Model_102_p (Or.inl (fun C T N h => by cases h; rfl)) (mk_at_m (by omega)) (by exact Nat.le_of_ble_eq_true rfl) rfl rfl ?_
                      refine Go.heq (mk_put_m_depth (by omega)) ?_
                      refine Go.iconst (v := 1) d_Model_isValue_181 rfl (by decide) ?_
                      rw [if_neg c166_24, if_pos o177_25] at hr
                      cases hr
                      exact Go.iret d_Model_isValue_182 rfl rfl ⟨rfl, rfl, rfl⟩
                    · refine Go.iconst (v := 0) d_Model_isValue_169 rfl (by decide) ?_
                      rw [if_pos c166_24] at hr
                      cases hr
                      exact Go.iret d_Model_isValue_170 rfl rfl ⟨rfl, rfl, rfl⟩
                  · refine Go.aload_0 d_Model_isValue_141 rfl ?_
                    refine Go.aload_1 d_Model_isValue_142 rfl ?_
                    refine Go.bipush (v := 45) d_Model_isValue_143 rfl (by decide) ?_
                    rw [if_neg c134_21, if_neg c138_22] at hr
                    obtain ⟨p145_26, hp145_26, hr⟩ := Option.bind_eq_some_iff.mp hr
                    try dsimp only at hr
                    refine Go.cv2r d_Model_isValue_145 rfl l_Model_109 k_Model_eat_0_v (mk_at_m (by omega)) rfl (c_Model_eat_0 geo hp145_26) (Nat.ble_eq_true_of_le (by omega)) rfl rfl ?_
                    refine Go.if_eq (t := 169) d_Model_isValue_148 (by decide) rfl (fun c148_27 => ?_) (fun c148_27 => ?_)
                    · refine Go.iconst (v := 0) d_Model_isValue_169 rfl (by decide) ?_
                      rw [if_pos c148_27] at hr
                      cases hr
                      exact Go.iret d_Model_isValue_170 rfl rfl ⟨rfl, rfl, rfl⟩
                    · refine Go.aload_0 d_Model_isValue_151 rfl ?_
                      refine Go.aload_1 d_Model_isValue_152 rfl ?_
                      rw [if_neg c148_27] at hr
                      obtain ⟨p153_28, hp153_28, hr⟩ := Option.bind_eq_some_iff.mp hr
                      try dsimp only at hr
                      refine Go.cv1r d_Model_isValue_153 rfl l_Model_125 k_Model_isSum_v (mk_at_m (by omega)) rfl (hr3 _ _ hp153_28) (Nat.ble_eq_true_of_le (by omega)) rfl rfl ?_
                      refine Go.if_eq (t := 169) d_Model_isValue_156 (by decide) rfl (fun c156_29 => ?_) (fun c156_29 => ?_)
                      · refine Go.iconst (v := 0) d_Model_isValue_169 rfl (by decide) ?_
                        rw [if_pos c156_29] at hr
                        cases hr
                        exact Go.iret d_Model_isValue_170 rfl rfl ⟨rfl, rfl, rfl⟩
                      · refine Go.aload_0 d_Model_isValue_159 rfl ?_
                        refine Go.aload_1 d_Model_isValue_160 rfl ?_
                        refine Go.bipush (v := 41) d_Model_isValue_161 rfl (by decide) ?_
                        rw [if_neg c156_29] at hr
                        obtain ⟨p163_30, hp163_30, hr⟩ := Option.bind_eq_some_iff.mp hr
                        try dsimp only at hr
                        refine Go.cv2r d_Model_isValue_163 rfl l_Model_109 k_Model_eat_0_v (mk_at_m (by omega)) rfl (c_Model_eat_0 geo hp163_30) (Nat.ble_eq_true_of_le (by omega)) rfl rfl ?_
                        refine Go.if_ne (t := 171) d_Model_isValue_166 (by decide) rfl (fun c166_31 => ?_) (fun c166_31 => ?_)
                        · refine Go.aload_0 d_Model_isValue_171 rfl ?_
                          refine Go.dup d_Model_isValue_172 rfl rfl ?_
                          refine Go.getfield d_Model_isValue_173 rfl f_Model_102 (mk_at_m (by omega)) (by rfl) ?_
                          refine Go.iconst (v := 1) d_Model_isValue_176 rfl (by decide) ?_
                          refine Go.isub d_Model_isValue_177 rfl ?_
                          have o177_32 : 1 ≤ (mo_dp p163_30.2) := Classical.byContradiction fun w => by
                            rw [if_neg c166_31, if_neg w] at hr
                            cases hr
                          rw [show nI (mo_dp p163_30.2) - 1 = nI ((mo_dp p163_30.2) - 1) from nI_pred1 o177_32]
                          refine Go.putfield d_Model_isValue_178 rfl f_Model_102_p (Or.inl (fun C T N h => by cases h; rfl)) (mk_at_m (by omega)) (by exact Nat.le_of_ble_eq_true rfl) rfl rfl ?_
                          refine Go.heq (mk_put_m_depth (by omega)) ?_
                          refine Go.iconst (v := 1) d_Model_isValue_181 rfl (by decide) ?_
                          rw [if_neg c166_31, if_pos o177_32] at hr
                          cases hr
                          exact Go.iret d_Model_isValue_182 rfl rfl ⟨rfl, rfl, rfl⟩
                        · refine Go.iconst (v := 0) d_Model_isValue_169 rfl (by decide) ?_
                          rw [if_pos c166_31] at hr
                          cases hr
                          exact Go.iret d_Model_isValue_170 rfl rfl ⟨rfl, rfl, rfl⟩
            · refine Go.aload_0 d_Model_isValue_101 rfl ?_
              refine Go.aload_1 d_Model_isValue_102 rfl ?_
              refine Go.bipush (v := 36) d_Model_isValue_103 rfl (by decide) ?_
              rw [if_neg c98_16] at hr
              obtain ⟨p105_33, hp105_33, hr⟩ := Option.bind_eq_some_iff.mp hr
              try dsimp only at hr
              refine Go.cv2r d_Model_isValue_105 rfl l_Model_109 k_Model_eat_0_v (mk_at_m (by omega)) rfl (c_Model_eat_0 geo hp105_33) (Nat.ble_eq_true_of_le (by omega)) rfl rfl ?_
              have b108_34 : b01 p105_33.1 = true := Classical.byContradiction fun w => by
                rw [if_neg w] at hr
                cases hr
              rw [if_pos b108_34] at hr
              cases hr
              exact Go.iret d_Model_isValue_108 rfl (nb (b01_or b108_34)) ⟨rfl, rfl, rfl⟩
      · refine Go.iconst (v := 1) d_Model_isValue_68 rfl (by decide) ?_
        rw [if_neg c65_6] at hr
        cases hr
        exact Go.iret d_Model_isValue_69 rfl rfl ⟨rfl, rfl, rfl⟩
  · refine Go.aload_0 d_Model_isValue_14 rfl ?_
    refine Go.aload_1 d_Model_isValue_15 rfl ?_
    refine Go.bipush (v := 47) d_Model_isValue_16 rfl (by decide) ?_
    rw [if_pos o8_1, if_pos c11_2] at hr
    obtain ⟨p18_35, hp18_35, hr⟩ := Option.bind_eq_some_iff.mp hr
    try dsimp only at hr
    refine Go.cv2r d_Model_isValue_18 rfl l_Model_134 k_Model_goDown_v (mk_at_m (by omega)) rfl (c_Model_goDown geo hp18_35) (Nat.ble_eq_true_of_le (by omega)) rfl rfl ?_
    refine Go.if_eq (t := 32) d_Model_isValue_21 (by decide) rfl (fun c21_36 => ?_) (fun c21_36 => ?_)
    · refine Go.iconst (v := 0) d_Model_isValue_32 rfl (by decide) ?_
      rw [if_pos c21_36] at hr
      cases hr
      exact Go.iret d_Model_isValue_33 rfl rfl ⟨rfl, rfl, rfl⟩
    · refine Go.aload_0 d_Model_isValue_24 rfl ?_
      refine Go.aload_1 d_Model_isValue_25 rfl ?_
      rw [if_neg c21_36] at hr
      obtain ⟨p26_37, hp26_37, hr⟩ := Option.bind_eq_some_iff.mp hr
      try dsimp only at hr
      refine Go.cv1r d_Model_isValue_26 rfl l_Model_144 k_Model_isValue_v (mk_at_m (by omega)) rfl (hr5 _ _ hp26_37) (Nat.ble_eq_true_of_le (by omega)) rfl rfl ?_
      refine Go.if_ne (t := 34) d_Model_isValue_29 (by decide) rfl (fun c29_38 => ?_) (fun c29_38 => ?_)
      · refine Go.aload_0 d_Model_isValue_34 rfl ?_
        refine Go.dup d_Model_isValue_35 rfl rfl ?_
        refine Go.getfield d_Model_isValue_36 rfl f_Model_102 (mk_at_m (by omega)) (by rfl) ?_
        refine Go.iconst (v := 1) d_Model_isValue_39 rfl (by decide) ?_
        refine Go.isub d_Model_isValue_40 rfl ?_
        have o40_39 : 1 ≤ (mo_dp p26_37.2) := Classical.byContradiction fun w => by
          rw [if_neg c29_38, if_neg w] at hr
          cases hr
        rw [show nI (mo_dp p26_37.2) - 1 = nI ((mo_dp p26_37.2) - 1) from nI_pred1 o40_39]
        refine Go.putfield d_Model_isValue_41 rfl f_Model_102_p (Or.inl (fun C T N h => by cases h; rfl)) (mk_at_m (by omega)) (by exact Nat.le_of_ble_eq_true rfl) rfl rfl ?_
        refine Go.heq (mk_put_m_depth (by omega)) ?_
        refine Go.iconst (v := 1) d_Model_isValue_44 rfl (by decide) ?_
        rw [if_neg c29_38, if_pos o40_39] at hr
        cases hr
        exact Go.iret d_Model_isValue_45 rfl rfl ⟨rfl, rfl, rfl⟩
      · refine Go.iconst (v := 0) d_Model_isValue_32 rfl (by decide) ?_
        rw [if_pos c29_38] at hr
        cases hr
        exact Go.iret d_Model_isValue_33 rfl rfl ⟨rfl, rfl, rfl⟩
def rk_ (H : SH) : Nat → EV
  | 0, _, _ => none
  | k + 1, w, M => if w = 0 then s_Model_isTest H (rk_ H k) M else if w = 1 then s_Model_isBoth H (rk_ H k) M else if w = 2 then s_Model_isSingle H (rk_ H k) M else if w = 3 then s_Model_isSum H (rk_ H k) M else if w = 4 then s_Model_isProduct H (rk_ H k) M else s_Model_isValue H (rk_ H k) M
set_option maxRecDepth 100000 in
set_option maxHeartbeats 4000000 in
theorem rk_go {Γ : G9} {h : AH} {m q qs sa sb ro z : Nat} {H : SH} (geo : m + 2 ≤ q) : ∀ k : Nat,
    (∀ (M : MO) (p : Int32 × MO), rk_ H k 0 M = some p → CallR Γ M_Model_isTest (k + 4) [.ref m, .ref q] (mk_ Γ h m q qs sa sb ro M H) z (some (.int p.1)) (mk_ Γ h m q qs sa sb ro p.2 H)) ∧
    (∀ (M : MO) (p : Int32 × MO), rk_ H k 1 M = some p → CallR Γ M_Model_isBoth (k + 4) [.ref m, .ref q] (mk_ Γ h m q qs sa sb ro M H) z (some (.int p.1)) (mk_ Γ h m q qs sa sb ro p.2 H)) ∧
    (∀ (M : MO) (p : Int32 × MO), rk_ H k 2 M = some p → CallR Γ M_Model_isSingle (k + 4) [.ref m, .ref q] (mk_ Γ h m q qs sa sb ro M H) z (some (.int p.1)) (mk_ Γ h m q qs sa sb ro p.2 H)) ∧
    (∀ (M : MO) (p : Int32 × MO), rk_ H k 3 M = some p → CallR Γ M_Model_isSum (k + 4) [.ref m, .ref q] (mk_ Γ h m q qs sa sb ro M H) z (some (.int p.1)) (mk_ Γ h m q qs sa sb ro p.2 H)) ∧
    (∀ (M : MO) (p : Int32 × MO), rk_ H k 4 M = some p → CallR Γ M_Model_isProduct (k + 4) [.ref m, .ref q] (mk_ Γ h m q qs sa sb ro M H) z (some (.int p.1)) (mk_ Γ h m q qs sa sb ro p.2 H)) ∧
    (∀ (M : MO) (p : Int32 × MO), rk_ H k 5 M = some p → CallR Γ M_Model_isValue (k + 4) [.ref m, .ref q] (mk_ Γ h m q qs sa sb ro M H) z (some (.int p.1)) (mk_ Γ h m q qs sa sb ro p.2 H)) := by
  intro k
  induction k with
  | zero => exact ⟨fun M p h => (by cases h), fun M p h => (by cases h), fun M p h => (by cases h), fun M p h => (by cases h), fun M p h => (by cases h), fun M p h => (by cases h)⟩
  | succ k ih =>
    obtain ⟨hr0, hr1, hr2, hr3, hr4, hr5⟩ := ih
    exact ⟨fun M p h => c_Model_isTest hr0 hr1 hr2 hr3 hr4 hr5 geo h, fun M p h => c_Model_isBoth hr0 hr1 hr2 hr3 hr4 hr5 geo h, fun M p h => c_Model_isSingle hr0 hr1 hr2 hr3 hr4 hr5 geo h, fun M p h => c_Model_isSum hr0 hr1 hr2 hr3 hr4 hr5 geo h, fun M p h => c_Model_isProduct hr0 hr1 hr2 hr3 hr4 hr5 geo h, fun M p h => c_Model_isValue hr0 hr1 hr2 hr3 hr4 hr5 geo h⟩
theorem d_Model_isWhen_0 : decode M_Model_isWhen.2.1 0 = .ok (.aload_n 0, 1) := by decide +kernel
theorem d_Model_isWhen_1 : decode M_Model_isWhen.2.1 1 = .ok (.aload_n 1, 1) := by decide +kernel
theorem d_Model_isWhen_2 : decode M_Model_isWhen.2.1 2 = .ok (.bipush 22, 2) := by decide +kernel
theorem d_Model_isWhen_4 : decode M_Model_isWhen.2.1 4 = .ok (.invokevirtual 109, 3) := by decide +kernel
theorem d_Model_isWhen_7 : decode M_Model_isWhen.2.1 7 = .ok (.ifCond .eq 15, 3) := by decide +kernel
theorem d_Model_isWhen_10 : decode M_Model_isWhen.2.1 10 = .ok (.aload_n 0, 1) := by decide +kernel
theorem d_Model_isWhen_11 : decode M_Model_isWhen.2.1 11 = .ok (.aload_n 1, 1) := by decide +kernel
theorem d_Model_isWhen_12 : decode M_Model_isWhen.2.1 12 = .ok (.invokevirtual 113, 3) := by decide +kernel
theorem d_Model_isWhen_15 : decode M_Model_isWhen.2.1 15 = .ok (.ifCond .eq 7, 3) := by decide +kernel
theorem d_Model_isWhen_18 : decode M_Model_isWhen.2.1 18 = .ok (.iconst 1, 1) := by decide +kernel
theorem d_Model_isWhen_19 : decode M_Model_isWhen.2.1 19 = .ok (.goto 4, 3) := by decide +kernel
theorem d_Model_isWhen_22 : decode M_Model_isWhen.2.1 22 = .ok (.iconst 0, 1) := by decide +kernel
theorem d_Model_isWhen_23 : decode M_Model_isWhen.2.1 23 = .ok (.ireturn, 1) := by decide +kernel
def s_Model_isWhen (H : SH)  (M : MO) : Option (Int32 × MO) := ((s_Model_eat_0 H 22 M).bind fun p4_1 => (if p4_1.1 = 0 then some (0, p4_1.2) else ((rk_ H 64 0 p4_1.2).bind fun p12_3 => (if p12_3.1 = 0 then some (0, p12_3.2) else some (1, p12_3.2)))))
set_option maxRecDepth 100000 in
set_option maxHeartbeats 4000000 in
theorem c_Model_isWhen {Γ : G9} {h : AH} {m q qs sa sb ro z : Nat} {M : MO} {H : SH} {p : Int32 × MO} (geo : m + 2 ≤ q) (hr : s_Model_isWhen H  M = some p) : CallR Γ M_Model_isWhen 69 [.ref m, .ref q] (mk_ Γ h m q qs sa sb ro M H) z (some (.int p.1)) (mk_ Γ h m q qs sa sb ro p.2 H) := by
  refine Call.of_go (L := [some (.ref m), some (.ref q)]) (by decide +kernel) rfl (by exact Nat.le_of_ble_eq_true rfl) ?_
  unfold s_Model_isWhen at hr
  refine Go.aload_0 d_Model_isWhen_0 rfl ?_
  refine Go.aload_1 d_Model_isWhen_1 rfl ?_
  refine Go.bipush (v := 22) d_Model_isWhen_2 rfl (by decide) ?_
  obtain ⟨p4_1, hp4_1, hr⟩ := Option.bind_eq_some_iff.mp hr
  try dsimp only at hr
  refine Go.cv2r d_Model_isWhen_4 rfl l_Model_109 k_Model_eat_0_v (mk_at_m (by omega)) rfl (c_Model_eat_0 geo hp4_1) (Nat.ble_eq_true_of_le (by omega)) rfl rfl ?_
  refine Go.if_eq (t := 22) d_Model_isWhen_7 (by decide) rfl (fun c7_2 => ?_) (fun c7_2 => ?_)
  · refine Go.iconst (v := 0) d_Model_isWhen_22 rfl (by decide) ?_
    rw [if_pos c7_2] at hr
    cases hr
    exact Go.iret d_Model_isWhen_23 rfl rfl ⟨rfl, rfl, rfl⟩
  · refine Go.aload_0 d_Model_isWhen_10 rfl ?_
    refine Go.aload_1 d_Model_isWhen_11 rfl ?_
    rw [if_neg c7_2] at hr
    obtain ⟨p12_3, hp12_3, hr⟩ := Option.bind_eq_some_iff.mp hr
    try dsimp only at hr
    refine Go.cv1r d_Model_isWhen_12 rfl l_Model_113 k_Model_isTest_v (mk_at_m (by omega)) rfl ((rk_go geo 64).1 _ _ hp12_3) (Nat.ble_eq_true_of_le (by omega)) rfl rfl ?_
    refine Go.if_eq (t := 22) d_Model_isWhen_15 (by decide) rfl (fun c15_4 => ?_) (fun c15_4 => ?_)
    · refine Go.iconst (v := 0) d_Model_isWhen_22 rfl (by decide) ?_
      rw [if_pos c15_4] at hr
      cases hr
      exact Go.iret d_Model_isWhen_23 rfl rfl ⟨rfl, rfl, rfl⟩
    · refine Go.iconst (v := 1) d_Model_isWhen_18 rfl (by decide) ?_
      refine Go.goto (t := 23) d_Model_isWhen_19 (by decide) ?_
      rw [if_neg c15_4] at hr
      cases hr
      exact Go.iret d_Model_isWhen_23 rfl rfl ⟨rfl, rfl, rfl⟩
theorem d_Model_isLine_0 : decode M_Model_isLine.2.1 0 = .ok (.aload_n 1, 1) := by decide +kernel
theorem d_Model_isLine_1 : decode M_Model_isLine.2.1 1 = .ok (.getfield 93, 3) := by decide +kernel
theorem d_Model_isLine_4 : decode M_Model_isLine.2.1 4 = .ok (.aload_n 0, 1) := by decide +kernel
theorem d_Model_isLine_5 : decode M_Model_isLine.2.1 5 = .ok (.getfield 99, 3) := by decide +kernel
theorem d_Model_isLine_8 : decode M_Model_isLine.2.1 8 = .ok (.iaload, 1) := by decide +kernel
theorem d_Model_isLine_9 : decode M_Model_isLine.2.1 9 = .ok (.tableswitch 379 0 21 #[103, 379, 379, 136, 379, 379, 169, 379, 379, 205, 379, 240, 379, 285, 379, 311, 311, 345, 379, 379, 379, 311], 103) := by decide +kernel
theorem d_Model_isLine_112 : decode M_Model_isLine.2.1 112 = .ok (.aload_n 0, 1) := by decide +kernel
theorem d_Model_isLine_113 : decode M_Model_isLine.2.1 113 = .ok (.aload_n 1, 1) := by decide +kernel
theorem d_Model_isLine_114 : decode M_Model_isLine.2.1 114 = .ok (.iconst 0, 1) := by decide +kernel
theorem d_Model_isLine_115 : decode M_Model_isLine.2.1 115 = .ok (.invokevirtual 116, 3) := by decide +kernel
theorem d_Model_isLine_118 : decode M_Model_isLine.2.1 118 = .ok (.ifCond .eq 25, 3) := by decide +kernel
theorem d_Model_isLine_121 : decode M_Model_isLine.2.1 121 = .ok (.aload_n 0, 1) := by decide +kernel
theorem d_Model_isLine_122 : decode M_Model_isLine.2.1 122 = .ok (.aload_n 1, 1) := by decide +kernel
theorem d_Model_isLine_123 : decode M_Model_isLine.2.1 123 = .ok (.iconst 1, 1) := by decide +kernel
theorem d_Model_isLine_124 : decode M_Model_isLine.2.1 124 = .ok (.invokevirtual 119, 3) := by decide +kernel
theorem d_Model_isLine_127 : decode M_Model_isLine.2.1 127 = .ok (.ifCond .eq 16, 3) := by decide +kernel
theorem d_Model_isLine_130 : decode M_Model_isLine.2.1 130 = .ok (.aload_n 0, 1) := by decide +kernel
theorem d_Model_isLine_131 : decode M_Model_isLine.2.1 131 = .ok (.aload_n 1, 1) := by decide +kernel
theorem d_Model_isLine_132 : decode M_Model_isLine.2.1 132 = .ok (.iconst 2, 1) := by decide +kernel
theorem d_Model_isLine_133 : decode M_Model_isLine.2.1 133 = .ok (.invokevirtual 119, 3) := by decide +kernel
theorem d_Model_isLine_136 : decode M_Model_isLine.2.1 136 = .ok (.ifCond .eq 7, 3) := by decide +kernel
theorem d_Model_isLine_139 : decode M_Model_isLine.2.1 139 = .ok (.iconst 1, 1) := by decide +kernel
theorem d_Model_isLine_140 : decode M_Model_isLine.2.1 140 = .ok (.goto 4, 3) := by decide +kernel
theorem d_Model_isLine_143 : decode M_Model_isLine.2.1 143 = .ok (.iconst 0, 1) := by decide +kernel
theorem d_Model_isLine_144 : decode M_Model_isLine.2.1 144 = .ok (.ireturn, 1) := by decide +kernel
theorem d_Model_isLine_145 : decode M_Model_isLine.2.1 145 = .ok (.aload_n 0, 1) := by decide +kernel
theorem d_Model_isLine_146 : decode M_Model_isLine.2.1 146 = .ok (.aload_n 1, 1) := by decide +kernel
theorem d_Model_isLine_147 : decode M_Model_isLine.2.1 147 = .ok (.iconst 3, 1) := by decide +kernel
theorem d_Model_isLine_148 : decode M_Model_isLine.2.1 148 = .ok (.invokevirtual 116, 3) := by decide +kernel
theorem d_Model_isLine_151 : decode M_Model_isLine.2.1 151 = .ok (.ifCond .eq 25, 3) := by decide +kernel
theorem d_Model_isLine_154 : decode M_Model_isLine.2.1 154 = .ok (.aload_n 0, 1) := by decide +kernel
theorem d_Model_isLine_155 : decode M_Model_isLine.2.1 155 = .ok (.aload_n 1, 1) := by decide +kernel
theorem d_Model_isLine_156 : decode M_Model_isLine.2.1 156 = .ok (.iconst 4, 1) := by decide +kernel
theorem d_Model_isLine_157 : decode M_Model_isLine.2.1 157 = .ok (.invokevirtual 116, 3) := by decide +kernel
theorem d_Model_isLine_160 : decode M_Model_isLine.2.1 160 = .ok (.ifCond .eq 16, 3) := by decide +kernel
theorem d_Model_isLine_163 : decode M_Model_isLine.2.1 163 = .ok (.aload_n 0, 1) := by decide +kernel
theorem d_Model_isLine_164 : decode M_Model_isLine.2.1 164 = .ok (.aload_n 1, 1) := by decide +kernel
theorem d_Model_isLine_165 : decode M_Model_isLine.2.1 165 = .ok (.iconst 5, 1) := by decide +kernel
theorem d_Model_isLine_166 : decode M_Model_isLine.2.1 166 = .ok (.invokevirtual 119, 3) := by decide +kernel
theorem d_Model_isLine_169 : decode M_Model_isLine.2.1 169 = .ok (.ifCond .eq 7, 3) := by decide +kernel
theorem d_Model_isLine_172 : decode M_Model_isLine.2.1 172 = .ok (.iconst 1, 1) := by decide +kernel
theorem d_Model_isLine_173 : decode M_Model_isLine.2.1 173 = .ok (.goto 4, 3) := by decide +kernel
theorem d_Model_isLine_176 : decode M_Model_isLine.2.1 176 = .ok (.iconst 0, 1) := by decide +kernel
theorem d_Model_isLine_177 : decode M_Model_isLine.2.1 177 = .ok (.ireturn, 1) := by decide +kernel
theorem d_Model_isLine_178 : decode M_Model_isLine.2.1 178 = .ok (.aload_n 0, 1) := by decide +kernel
theorem d_Model_isLine_179 : decode M_Model_isLine.2.1 179 = .ok (.aload_n 1, 1) := by decide +kernel
theorem d_Model_isLine_180 : decode M_Model_isLine.2.1 180 = .ok (.bipush 6, 2) := by decide +kernel
theorem d_Model_isLine_182 : decode M_Model_isLine.2.1 182 = .ok (.invokevirtual 116, 3) := by decide +kernel
theorem d_Model_isLine_185 : decode M_Model_isLine.2.1 185 = .ok (.ifCond .eq 27, 3) := by decide +kernel
theorem d_Model_isLine_188 : decode M_Model_isLine.2.1 188 = .ok (.aload_n 0, 1) := by decide +kernel
theorem d_Model_isLine_189 : decode M_Model_isLine.2.1 189 = .ok (.aload_n 1, 1) := by decide +kernel
theorem d_Model_isLine_190 : decode M_Model_isLine.2.1 190 = .ok (.bipush 7, 2) := by decide +kernel
theorem d_Model_isLine_192 : decode M_Model_isLine.2.1 192 = .ok (.invokevirtual 116, 3) := by decide +kernel
theorem d_Model_isLine_195 : decode M_Model_isLine.2.1 195 = .ok (.ifCond .eq 17, 3) := by decide +kernel
theorem d_Model_isLine_198 : decode M_Model_isLine.2.1 198 = .ok (.aload_n 0, 1) := by decide +kernel
theorem d_Model_isLine_199 : decode M_Model_isLine.2.1 199 = .ok (.aload_n 1, 1) := by decide +kernel
theorem d_Model_isLine_200 : decode M_Model_isLine.2.1 200 = .ok (.bipush 8, 2) := by decide +kernel
theorem d_Model_isLine_202 : decode M_Model_isLine.2.1 202 = .ok (.invokevirtual 119, 3) := by decide +kernel
theorem d_Model_isLine_205 : decode M_Model_isLine.2.1 205 = .ok (.ifCond .eq 7, 3) := by decide +kernel
theorem d_Model_isLine_208 : decode M_Model_isLine.2.1 208 = .ok (.iconst 1, 1) := by decide +kernel
theorem d_Model_isLine_209 : decode M_Model_isLine.2.1 209 = .ok (.goto 4, 3) := by decide +kernel
theorem d_Model_isLine_212 : decode M_Model_isLine.2.1 212 = .ok (.iconst 0, 1) := by decide +kernel
theorem d_Model_isLine_213 : decode M_Model_isLine.2.1 213 = .ok (.ireturn, 1) := by decide +kernel
theorem d_Model_isLine_214 : decode M_Model_isLine.2.1 214 = .ok (.aload_n 0, 1) := by decide +kernel
theorem d_Model_isLine_215 : decode M_Model_isLine.2.1 215 = .ok (.aload_n 1, 1) := by decide +kernel
theorem d_Model_isLine_216 : decode M_Model_isLine.2.1 216 = .ok (.bipush 9, 2) := by decide +kernel
theorem d_Model_isLine_218 : decode M_Model_isLine.2.1 218 = .ok (.invokevirtual 116, 3) := by decide +kernel
theorem d_Model_isLine_221 : decode M_Model_isLine.2.1 221 = .ok (.ifCond .eq 26, 3) := by decide +kernel
theorem d_Model_isLine_224 : decode M_Model_isLine.2.1 224 = .ok (.aload_n 0, 1) := by decide +kernel
theorem d_Model_isLine_225 : decode M_Model_isLine.2.1 225 = .ok (.aload_n 1, 1) := by decide +kernel
theorem d_Model_isLine_226 : decode M_Model_isLine.2.1 226 = .ok (.iconst 4, 1) := by decide +kernel
theorem d_Model_isLine_227 : decode M_Model_isLine.2.1 227 = .ok (.invokevirtual 116, 3) := by decide +kernel
theorem d_Model_isLine_230 : decode M_Model_isLine.2.1 230 = .ok (.ifCond .eq 17, 3) := by decide +kernel
theorem d_Model_isLine_233 : decode M_Model_isLine.2.1 233 = .ok (.aload_n 0, 1) := by decide +kernel
theorem d_Model_isLine_234 : decode M_Model_isLine.2.1 234 = .ok (.aload_n 1, 1) := by decide +kernel
theorem d_Model_isLine_235 : decode M_Model_isLine.2.1 235 = .ok (.bipush 10, 2) := by decide +kernel
theorem d_Model_isLine_237 : decode M_Model_isLine.2.1 237 = .ok (.invokevirtual 119, 3) := by decide +kernel
theorem d_Model_isLine_240 : decode M_Model_isLine.2.1 240 = .ok (.ifCond .eq 7, 3) := by decide +kernel
theorem d_Model_isLine_243 : decode M_Model_isLine.2.1 243 = .ok (.iconst 1, 1) := by decide +kernel
theorem d_Model_isLine_244 : decode M_Model_isLine.2.1 244 = .ok (.goto 4, 3) := by decide +kernel
theorem d_Model_isLine_247 : decode M_Model_isLine.2.1 247 = .ok (.iconst 0, 1) := by decide +kernel
theorem d_Model_isLine_248 : decode M_Model_isLine.2.1 248 = .ok (.ireturn, 1) := by decide +kernel
theorem d_Model_isLine_249 : decode M_Model_isLine.2.1 249 = .ok (.aload_n 0, 1) := by decide +kernel
theorem d_Model_isLine_250 : decode M_Model_isLine.2.1 250 = .ok (.aload_n 1, 1) := by decide +kernel
theorem d_Model_isLine_251 : decode M_Model_isLine.2.1 251 = .ok (.bipush 11, 2) := by decide +kernel
theorem d_Model_isLine_253 : decode M_Model_isLine.2.1 253 = .ok (.invokevirtual 116, 3) := by decide +kernel
theorem d_Model_isLine_256 : decode M_Model_isLine.2.1 256 = .ok (.ifCond .eq 36, 3) := by decide +kernel
theorem d_Model_isLine_259 : decode M_Model_isLine.2.1 259 = .ok (.aload_n 0, 1) := by decide +kernel
theorem d_Model_isLine_260 : decode M_Model_isLine.2.1 260 = .ok (.aload_n 1, 1) := by decide +kernel
theorem d_Model_isLine_261 : decode M_Model_isLine.2.1 261 = .ok (.iconst 4, 1) := by decide +kernel
theorem d_Model_isLine_262 : decode M_Model_isLine.2.1 262 = .ok (.invokevirtual 116, 3) := by decide +kernel
theorem d_Model_isLine_265 : decode M_Model_isLine.2.1 265 = .ok (.ifCond .eq 27, 3) := by decide +kernel
theorem d_Model_isLine_268 : decode M_Model_isLine.2.1 268 = .ok (.aload_n 0, 1) := by decide +kernel
theorem d_Model_isLine_269 : decode M_Model_isLine.2.1 269 = .ok (.aload_n 1, 1) := by decide +kernel
theorem d_Model_isLine_270 : decode M_Model_isLine.2.1 270 = .ok (.bipush 12, 2) := by decide +kernel
theorem d_Model_isLine_272 : decode M_Model_isLine.2.1 272 = .ok (.invokevirtual 119, 3) := by decide +kernel
theorem d_Model_isLine_275 : decode M_Model_isLine.2.1 275 = .ok (.ifCond .eq 17, 3) := by decide +kernel
theorem d_Model_isLine_278 : decode M_Model_isLine.2.1 278 = .ok (.aload_n 0, 1) := by decide +kernel
theorem d_Model_isLine_279 : decode M_Model_isLine.2.1 279 = .ok (.aload_n 1, 1) := by decide +kernel
theorem d_Model_isLine_280 : decode M_Model_isLine.2.1 280 = .ok (.bipush 10, 2) := by decide +kernel
theorem d_Model_isLine_282 : decode M_Model_isLine.2.1 282 = .ok (.invokevirtual 119, 3) := by decide +kernel
theorem d_Model_isLine_285 : decode M_Model_isLine.2.1 285 = .ok (.ifCond .eq 7, 3) := by decide +kernel
theorem d_Model_isLine_288 : decode M_Model_isLine.2.1 288 = .ok (.iconst 1, 1) := by decide +kernel
theorem d_Model_isLine_289 : decode M_Model_isLine.2.1 289 = .ok (.goto 4, 3) := by decide +kernel
theorem d_Model_isLine_292 : decode M_Model_isLine.2.1 292 = .ok (.iconst 0, 1) := by decide +kernel
theorem d_Model_isLine_293 : decode M_Model_isLine.2.1 293 = .ok (.ireturn, 1) := by decide +kernel
theorem d_Model_isLine_294 : decode M_Model_isLine.2.1 294 = .ok (.aload_n 0, 1) := by decide +kernel
theorem d_Model_isLine_295 : decode M_Model_isLine.2.1 295 = .ok (.aload_n 1, 1) := by decide +kernel
theorem d_Model_isLine_296 : decode M_Model_isLine.2.1 296 = .ok (.bipush 13, 2) := by decide +kernel
theorem d_Model_isLine_298 : decode M_Model_isLine.2.1 298 = .ok (.invokevirtual 119, 3) := by decide +kernel
theorem d_Model_isLine_301 : decode M_Model_isLine.2.1 301 = .ok (.ifCond .eq 17, 3) := by decide +kernel
theorem d_Model_isLine_304 : decode M_Model_isLine.2.1 304 = .ok (.aload_n 0, 1) := by decide +kernel
theorem d_Model_isLine_305 : decode M_Model_isLine.2.1 305 = .ok (.aload_n 1, 1) := by decide +kernel
theorem d_Model_isLine_306 : decode M_Model_isLine.2.1 306 = .ok (.bipush 14, 2) := by decide +kernel
theorem d_Model_isLine_308 : decode M_Model_isLine.2.1 308 = .ok (.invokevirtual 119, 3) := by decide +kernel
theorem d_Model_isLine_311 : decode M_Model_isLine.2.1 311 = .ok (.ifCond .eq 7, 3) := by decide +kernel
theorem d_Model_isLine_314 : decode M_Model_isLine.2.1 314 = .ok (.iconst 1, 1) := by decide +kernel
theorem d_Model_isLine_315 : decode M_Model_isLine.2.1 315 = .ok (.goto 4, 3) := by decide +kernel
theorem d_Model_isLine_318 : decode M_Model_isLine.2.1 318 = .ok (.iconst 0, 1) := by decide +kernel
theorem d_Model_isLine_319 : decode M_Model_isLine.2.1 319 = .ok (.ireturn, 1) := by decide +kernel
theorem d_Model_isLine_320 : decode M_Model_isLine.2.1 320 = .ok (.aload_n 0, 1) := by decide +kernel
theorem d_Model_isLine_321 : decode M_Model_isLine.2.1 321 = .ok (.dup, 1) := by decide +kernel
theorem d_Model_isLine_322 : decode M_Model_isLine.2.1 322 = .ok (.getfield 99, 3) := by decide +kernel
theorem d_Model_isLine_325 : decode M_Model_isLine.2.1 325 = .ok (.iconst 1, 1) := by decide +kernel
theorem d_Model_isLine_326 : decode M_Model_isLine.2.1 326 = .ok (.iadd, 1) := by decide +kernel
theorem d_Model_isLine_327 : decode M_Model_isLine.2.1 327 = .ok (.putfield 99, 3) := by decide +kernel
theorem d_Model_isLine_330 : decode M_Model_isLine.2.1 330 = .ok (.aload_n 0, 1) := by decide +kernel
theorem d_Model_isLine_331 : decode M_Model_isLine.2.1 331 = .ok (.aload_n 1, 1) := by decide +kernel
theorem d_Model_isLine_332 : decode M_Model_isLine.2.1 332 = .ok (.bipush 36, 2) := by decide +kernel
theorem d_Model_isLine_334 : decode M_Model_isLine.2.1 334 = .ok (.invokevirtual 109, 3) := by decide +kernel
theorem d_Model_isLine_337 : decode M_Model_isLine.2.1 337 = .ok (.ifCond .eq 15, 3) := by decide +kernel
theorem d_Model_isLine_340 : decode M_Model_isLine.2.1 340 = .ok (.aload_n 0, 1) := by decide +kernel
theorem d_Model_isLine_341 : decode M_Model_isLine.2.1 341 = .ok (.aload_n 1, 1) := by decide +kernel
theorem d_Model_isLine_342 : decode M_Model_isLine.2.1 342 = .ok (.invokevirtual 122, 3) := by decide +kernel
theorem d_Model_isLine_345 : decode M_Model_isLine.2.1 345 = .ok (.ifCond .eq 7, 3) := by decide +kernel
theorem d_Model_isLine_348 : decode M_Model_isLine.2.1 348 = .ok (.iconst 1, 1) := by decide +kernel
theorem d_Model_isLine_349 : decode M_Model_isLine.2.1 349 = .ok (.goto 4, 3) := by decide +kernel
theorem d_Model_isLine_352 : decode M_Model_isLine.2.1 352 = .ok (.iconst 0, 1) := by decide +kernel
theorem d_Model_isLine_353 : decode M_Model_isLine.2.1 353 = .ok (.ireturn, 1) := by decide +kernel
theorem d_Model_isLine_354 : decode M_Model_isLine.2.1 354 = .ok (.aload_n 0, 1) := by decide +kernel
theorem d_Model_isLine_355 : decode M_Model_isLine.2.1 355 = .ok (.aload_n 1, 1) := by decide +kernel
theorem d_Model_isLine_356 : decode M_Model_isLine.2.1 356 = .ok (.bipush 17, 2) := by decide +kernel
theorem d_Model_isLine_358 : decode M_Model_isLine.2.1 358 = .ok (.invokevirtual 116, 3) := by decide +kernel
theorem d_Model_isLine_361 : decode M_Model_isLine.2.1 361 = .ok (.ifCond .eq 25, 3) := by decide +kernel
theorem d_Model_isLine_364 : decode M_Model_isLine.2.1 364 = .ok (.aload_n 0, 1) := by decide +kernel
theorem d_Model_isLine_365 : decode M_Model_isLine.2.1 365 = .ok (.aload_n 1, 1) := by decide +kernel
theorem d_Model_isLine_366 : decode M_Model_isLine.2.1 366 = .ok (.bipush 18, 2) := by decide +kernel
theorem d_Model_isLine_368 : decode M_Model_isLine.2.1 368 = .ok (.invokevirtual 116, 3) := by decide +kernel
theorem d_Model_isLine_371 : decode M_Model_isLine.2.1 371 = .ok (.ifCond .eq 15, 3) := by decide +kernel
theorem d_Model_isLine_374 : decode M_Model_isLine.2.1 374 = .ok (.aload_n 0, 1) := by decide +kernel
theorem d_Model_isLine_375 : decode M_Model_isLine.2.1 375 = .ok (.aload_n 1, 1) := by decide +kernel
theorem d_Model_isLine_376 : decode M_Model_isLine.2.1 376 = .ok (.invokevirtual 122, 3) := by decide +kernel
theorem d_Model_isLine_379 : decode M_Model_isLine.2.1 379 = .ok (.ifCond .eq 7, 3) := by decide +kernel
theorem d_Model_isLine_382 : decode M_Model_isLine.2.1 382 = .ok (.iconst 1, 1) := by decide +kernel
theorem d_Model_isLine_383 : decode M_Model_isLine.2.1 383 = .ok (.goto 4, 3) := by decide +kernel
theorem d_Model_isLine_386 : decode M_Model_isLine.2.1 386 = .ok (.iconst 0, 1) := by decide +kernel
theorem d_Model_isLine_387 : decode M_Model_isLine.2.1 387 = .ok (.ireturn, 1) := by decide +kernel
theorem d_Model_isLine_388 : decode M_Model_isLine.2.1 388 = .ok (.aload_n 0, 1) := by decide +kernel
theorem d_Model_isLine_389 : decode M_Model_isLine.2.1 389 = .ok (.aload_n 1, 1) := by decide +kernel
theorem d_Model_isLine_390 : decode M_Model_isLine.2.1 390 = .ok (.bipush 19, 2) := by decide +kernel
theorem d_Model_isLine_392 : decode M_Model_isLine.2.1 392 = .ok (.invokevirtual 116, 3) := by decide +kernel
theorem d_Model_isLine_395 : decode M_Model_isLine.2.1 395 = .ok (.ifCond .eq 47, 3) := by decide +kernel
theorem d_Model_isLine_398 : decode M_Model_isLine.2.1 398 = .ok (.aload_n 0, 1) := by decide +kernel
theorem d_Model_isLine_399 : decode M_Model_isLine.2.1 399 = .ok (.aload_n 1, 1) := by decide +kernel
theorem d_Model_isLine_400 : decode M_Model_isLine.2.1 400 = .ok (.bipush 20, 2) := by decide +kernel
theorem d_Model_isLine_402 : decode M_Model_isLine.2.1 402 = .ok (.invokevirtual 109, 3) := by decide +kernel
theorem d_Model_isLine_405 : decode M_Model_isLine.2.1 405 = .ok (.ifCond .eq 37, 3) := by decide +kernel
theorem d_Model_isLine_408 : decode M_Model_isLine.2.1 408 = .ok (.aload_n 0, 1) := by decide +kernel
theorem d_Model_isLine_409 : decode M_Model_isLine.2.1 409 = .ok (.aload_n 1, 1) := by decide +kernel
theorem d_Model_isLine_410 : decode M_Model_isLine.2.1 410 = .ok (.invokevirtual 125, 3) := by decide +kernel
theorem d_Model_isLine_413 : decode M_Model_isLine.2.1 413 = .ok (.ifCond .eq 29, 3) := by decide +kernel
theorem d_Model_isLine_416 : decode M_Model_isLine.2.1 416 = .ok (.aload_n 1, 1) := by decide +kernel
theorem d_Model_isLine_417 : decode M_Model_isLine.2.1 417 = .ok (.getfield 93, 3) := by decide +kernel
theorem d_Model_isLine_420 : decode M_Model_isLine.2.1 420 = .ok (.aload_n 0, 1) := by decide +kernel
theorem d_Model_isLine_421 : decode M_Model_isLine.2.1 421 = .ok (.getfield 99, 3) := by decide +kernel
theorem d_Model_isLine_424 : decode M_Model_isLine.2.1 424 = .ok (.iaload, 1) := by decide +kernel
theorem d_Model_isLine_425 : decode M_Model_isLine.2.1 425 = .ok (.bipush 22, 2) := by decide +kernel
theorem d_Model_isLine_427 : decode M_Model_isLine.2.1 427 = .ok (.if_icmp .ne 11, 3) := by decide +kernel
theorem d_Model_isLine_430 : decode M_Model_isLine.2.1 430 = .ok (.aload_n 0, 1) := by decide +kernel
theorem d_Model_isLine_431 : decode M_Model_isLine.2.1 431 = .ok (.aload_n 1, 1) := by decide +kernel
theorem d_Model_isLine_432 : decode M_Model_isLine.2.1 432 = .ok (.invokevirtual 122, 3) := by decide +kernel
theorem d_Model_isLine_435 : decode M_Model_isLine.2.1 435 = .ok (.ifCond .eq 7, 3) := by decide +kernel
theorem d_Model_isLine_438 : decode M_Model_isLine.2.1 438 = .ok (.iconst 1, 1) := by decide +kernel
theorem d_Model_isLine_439 : decode M_Model_isLine.2.1 439 = .ok (.goto 4, 3) := by decide +kernel
theorem d_Model_isLine_442 : decode M_Model_isLine.2.1 442 = .ok (.iconst 0, 1) := by decide +kernel
theorem d_Model_isLine_443 : decode M_Model_isLine.2.1 443 = .ok (.ireturn, 1) := by decide +kernel
def s_Model_isLine (H : SH)  (M : MO) : Option (Int32 × MO) := (if (mo_tk M) < 401 then (if ((sh_kd H) (mo_tk M)) = 0 then ((s_Model_isName H 0 M).bind fun p115_3 => (if p115_3.1 = 0 then some (0, p115_3.2) else ((s_Model_isNumber H 1 p115_3.2).bind fun p124_5 => (if p124_5.1 = 0 then some (0, p124_5.2) else ((s_Model_isNumber H 2 p124_5.2).bind fun p133_7 => (if p133_7.1 = 0 then some (0, p133_7.2) else some (1, p133_7.2))))))) else (if ((sh_kd H) (mo_tk M)) = 3 then ((s_Model_isName H 3 M).bind fun p148_10 => (if p148_10.1 = 0 then some (0, p148_10.2) else ((s_Model_isName H 4 p148_10.2).bind fun p157_12 => (if p157_12.1 = 0 then some (0, p157_12.2) else ((s_Model_isNumber H 5 p157_12.2).bind fun p166_14 => (if p166_14.1 = 0 then some (0, p166_14.2) else some (1, p166_14.2))))))) else (if ((sh_kd H) (mo_tk M)) = 6 then ((s_Model_isName H 6 M).bind fun p182_17 => (if p182_17.1 = 0 then some (0, p182_17.2) else ((s_Model_isName H 7 p182_17.2).bind fun p192_19 => (if p192_19.1 = 0 then some (0, p192_19.2) else ((s_Model_isNumber H 8 p192_19.2).bind fun p202_21 => (if p202_21.1 = 0 then some (0, p202_21.2) else some (1, p202_21.2))))))) else (if ((sh_kd H) (mo_tk M)) = 9 then ((s_Model_isName H 9 M).bind fun p218_24 => (if p218_24.1 = 0 then some (0, p218_24.2) else ((s_Model_isName H 4 p218_24.2).bind fun p227_26 => (if p227_26.1 = 0 then some (0, p227_26.2) else ((s_Model_isNumber H 10 p227_26.2).bind fun p237_28 => (if p237_28.1 = 0 then some (0, p237_28.2) else some (1, p237_28.2))))))) else (if ((sh_kd H) (mo_tk M)) = 11 then ((s_Model_isName H 11 M).bind fun p253_31 => (if p253_31.1 = 0 then some (0, p253_31.2) else ((s_Model_isName H 4 p253_31.2).bind fun p262_33 => (if p262_33.1 = 0 then some (0, p262_33.2) else ((s_Model_isNumber H 12 p262_33.2).bind fun p272_35 => (if p272_35.1 = 0 then some (0, p272_35.2) else ((s_Model_isNumber H 10 p272_35.2).bind fun p282_37 => (if p282_37.1 = 0 then some (0, p282_37.2) else some (1, p282_37.2))))))))) else (if ((sh_kd H) (mo_tk M)) = 13 then ((s_Model_isNumber H 13 M).bind fun p298_40 => (if p298_40.1 = 0 then some (0, p298_40.2) else ((s_Model_isNumber H 14 p298_40.2).bind fun p308_42 => (if p308_42.1 = 0 then some (0, p308_42.2) else some (1, p308_42.2))))) else (if ((sh_kd H) (mo_tk M)) = 15 then ((s_Model_eat_0 H 36 (mo_tk' M ((mo_tk M) + 1))).bind fun p334_45 => (if p334_45.1 = 0 then some (0, p334_45.2) else ((s_Model_isWhen H p334_45.2).bind fun p342_47 => (if p342_47.1 = 0 then some (0, p342_47.2) else some (1, p342_47.2))))) else (if ((sh_kd H) (mo_tk M)) = 16 then ((s_Model_eat_0 H 36 (mo_tk' M ((mo_tk M) + 1))).bind fun p334_50 => (if p334_50.1 = 0 then some (0, p334_50.2) else ((s_Model_isWhen H p334_50.2).bind fun p342_52 => (if p342_52.1 = 0 then some (0, p342_52.2) else some (1, p342_52.2))))) else (if ((sh_kd H) (mo_tk M)) = 17 then ((s_Model_isName H 17 M).bind fun p358_55 => (if p358_55.1 = 0 then some (0, p358_55.2) else ((s_Model_isName H 18 p358_55.2).bind fun p368_57 => (if p368_57.1 = 0 then some (0, p368_57.2) else ((s_Model_isWhen H p368_57.2).bind fun p376_59 => (if p376_59.1 = 0 then some (0, p376_59.2) else some (1, p376_59.2))))))) else (if ((sh_kd H) (mo_tk M)) = 21 then ((s_Model_eat_0 H 36 (mo_tk' M ((mo_tk M) + 1))).bind fun p334_62 => (if p334_62.1 = 0 then some (0, p334_62.2) else ((s_Model_isWhen H p334_62.2).bind fun p342_64 => (if p342_64.1 = 0 then some (0, p342_64.2) else some (1, p342_64.2))))) else ((s_Model_isName H 19 M).bind fun p392_66 => (if p392_66.1 = 0 then some (0, p392_66.2) else ((s_Model_eat_0 H 20 p392_66.2).bind fun p402_68 => (if p402_68.1 = 0 then some (0, p402_68.2) else ((rk_ H 64 3 p402_68.2).bind fun p410_70 => (if p410_70.1 = 0 then some (0, p410_70.2) else (if (mo_tk p410_70.2) < 401 then (if ((sh_kd H) (mo_tk p410_70.2)) = 22 then ((s_Model_isWhen H p410_70.2).bind fun p432_74 => (if p432_74.1 = 0 then some (0, p432_74.2) else some (1, p432_74.2))) else some (1, p410_70.2)) else none))))))))))))))))) else none)
set_option maxRecDepth 100000 in
set_option maxHeartbeats 4000000 in
theorem c_Model_isLine {Γ : G9} {h : AH} {m q qs sa sb ro z : Nat} {M : MO} {H : SH} {p : Int32 × MO} (geo : m + 2 ≤ q) (hr : s_Model_isLine H  M = some p) : CallR Γ M_Model_isLine 70 [.ref m, .ref q] (mk_ Γ h m q qs sa sb ro M H) z (some (.int p.1)) (mk_ Γ h m q qs sa sb ro p.2 H) := by
  refine Call.of_go (L := [some (.ref m), some (.ref q)]) (by decide +kernel) rfl (by exact Nat.le_of_ble_eq_true rfl) ?_
  unfold s_Model_isLine at hr
  refine Go.aload_1 d_Model_isLine_0 rfl ?_
  refine Go.getfield d_Model_isLine_1 rfl f_Model_93 (mk_at_q (by omega)) (by rfl) ?_
  refine Go.aload_0 d_Model_isLine_4 rfl ?_
  refine Go.getfield d_Model_isLine_5 rfl f_Model_99 (mk_at_m (by omega)) (by rfl) ?_
  have o8_1 : (mo_tk M) < 401 := Classical.byContradiction fun w => by
    rw [if_neg w] at hr
    cases hr
  refine Go.iaload d_Model_isLine_8 rfl (mk_at_q_1 (by omega)) (vp_in_nI o8_1 (by decide)) ?_
  rw [nI_clamp (show (mo_tk M) < 2 ^ 31 by omega)]
  by_cases w9_2 : ((sh_kd H) (mo_tk M)) = 0
  · refine Go.tsw (t := 112) d_Model_isLine_9 (by rw [w9_2]; rfl) ?_
    refine Go.aload_0 d_Model_isLine_112 rfl ?_
    refine Go.aload_1 d_Model_isLine_113 rfl ?_
    refine Go.iconst (v := 0) d_Model_isLine_114 rfl (by decide) ?_
    rw [if_pos o8_1, if_pos w9_2] at hr
    obtain ⟨p115_3, hp115_3, hr⟩ := Option.bind_eq_some_iff.mp hr
    try dsimp only at hr
    refine Go.cv2r d_Model_isLine_115 rfl l_Model_116 k_Model_isName_v (mk_at_m (by omega)) rfl (c_Model_isName geo hp115_3) (Nat.ble_eq_true_of_le (by omega)) rfl rfl ?_
    refine Go.if_eq (t := 143) d_Model_isLine_118 (by decide) rfl (fun c118_4 => ?_) (fun c118_4 => ?_)
    · refine Go.iconst (v := 0) d_Model_isLine_143 rfl (by decide) ?_
      rw [if_pos c118_4] at hr
      cases hr
      exact Go.iret d_Model_isLine_144 rfl rfl ⟨rfl, rfl, rfl⟩
    · refine Go.aload_0 d_Model_isLine_121 rfl ?_
      refine Go.aload_1 d_Model_isLine_122 rfl ?_
      refine Go.iconst (v := 1) d_Model_isLine_123 rfl (by decide) ?_
      rw [if_neg c118_4] at hr
      obtain ⟨p124_5, hp124_5, hr⟩ := Option.bind_eq_some_iff.mp hr
      try dsimp only at hr
      refine Go.cv2r d_Model_isLine_124 rfl l_Model_119 k_Model_isNumber_v (mk_at_m (by omega)) rfl (c_Model_isNumber geo hp124_5) (Nat.ble_eq_true_of_le (by omega)) rfl rfl ?_
      refine Go.if_eq (t := 143) d_Model_isLine_127 (by decide) rfl (fun c127_6 => ?_) (fun c127_6 => ?_)
      · refine Go.iconst (v := 0) d_Model_isLine_143 rfl (by decide) ?_
        rw [if_pos c127_6] at hr
        cases hr
        exact Go.iret d_Model_isLine_144 rfl rfl ⟨rfl, rfl, rfl⟩
      · refine Go.aload_0 d_Model_isLine_130 rfl ?_
        refine Go.aload_1 d_Model_isLine_131 rfl ?_
        refine Go.iconst (v := 2) d_Model_isLine_132 rfl (by decide) ?_
        rw [if_neg c127_6] at hr
        obtain ⟨p133_7, hp133_7, hr⟩ := Option.bind_eq_some_iff.mp hr
        try dsimp only at hr
        refine Go.cv2r d_Model_isLine_133 rfl l_Model_119 k_Model_isNumber_v (mk_at_m (by omega)) rfl (c_Model_isNumber geo hp133_7) (Nat.ble_eq_true_of_le (by omega)) rfl rfl ?_
        refine Go.if_eq (t := 143) d_Model_isLine_136 (by decide) rfl (fun c136_8 => ?_) (fun c136_8 => ?_)
        · refine Go.iconst (v := 0) d_Model_isLine_143 rfl (by decide) ?_
          rw [if_pos c136_8] at hr
          cases hr
          exact Go.iret d_Model_isLine_144 rfl rfl ⟨rfl, rfl, rfl⟩
        · refine Go.iconst (v := 1) d_Model_isLine_139 rfl (by decide) ?_
          refine Go.goto (t := 144) d_Model_isLine_140 (by decide) ?_
          rw [if_neg c136_8] at hr
          cases hr
          exact Go.iret d_Model_isLine_144 rfl rfl ⟨rfl, rfl, rfl⟩
  by_cases w9_9 : ((sh_kd H) (mo_tk M)) = 3
  · refine Go.tsw (t := 145) d_Model_isLine_9 (by rw [w9_9]; rfl) ?_
    refine Go.aload_0 d_Model_isLine_145 rfl ?_
    refine Go.aload_1 d_Model_isLine_146 rfl ?_
    refine Go.iconst (v := 3) d_Model_isLine_147 rfl (by decide) ?_
    rw [if_pos o8_1, if_neg w9_2, if_pos w9_9] at hr
    obtain ⟨p148_10, hp148_10, hr⟩ := Option.bind_eq_some_iff.mp hr
    try dsimp only at hr
    refine Go.cv2r d_Model_isLine_148 rfl l_Model_116 k_Model_isName_v (mk_at_m (by omega)) rfl (c_Model_isName geo hp148_10) (Nat.ble_eq_true_of_le (by omega)) rfl rfl ?_
    refine Go.if_eq (t := 176) d_Model_isLine_151 (by decide) rfl (fun c151_11 => ?_) (fun c151_11 => ?_)
    · refine Go.iconst (v := 0) d_Model_isLine_176 rfl (by decide) ?_
      rw [if_pos c151_11] at hr
      cases hr
      exact Go.iret d_Model_isLine_177 rfl rfl ⟨rfl, rfl, rfl⟩
    · refine Go.aload_0 d_Model_isLine_154 rfl ?_
      refine Go.aload_1 d_Model_isLine_155 rfl ?_
      refine Go.iconst (v := 4) d_Model_isLine_156 rfl (by decide) ?_
      rw [if_neg c151_11] at hr
      obtain ⟨p157_12, hp157_12, hr⟩ := Option.bind_eq_some_iff.mp hr
      try dsimp only at hr
      refine Go.cv2r d_Model_isLine_157 rfl l_Model_116 k_Model_isName_v (mk_at_m (by omega)) rfl (c_Model_isName geo hp157_12) (Nat.ble_eq_true_of_le (by omega)) rfl rfl ?_
      refine Go.if_eq (t := 176) d_Model_isLine_160 (by decide) rfl (fun c160_13 => ?_) (fun c160_13 => ?_)
      · refine Go.iconst (v := 0) d_Model_isLine_176 rfl (by decide) ?_
        rw [if_pos c160_13] at hr
        cases hr
        exact Go.iret d_Model_isLine_177 rfl rfl ⟨rfl, rfl, rfl⟩
      · refine Go.aload_0 d_Model_isLine_163 rfl ?_
        refine Go.aload_1 d_Model_isLine_164 rfl ?_
        refine Go.iconst (v := 5) d_Model_isLine_165 rfl (by decide) ?_
        rw [if_neg c160_13] at hr
        obtain ⟨p166_14, hp166_14, hr⟩ := Option.bind_eq_some_iff.mp hr
        try dsimp only at hr
        refine Go.cv2r d_Model_isLine_166 rfl l_Model_119 k_Model_isNumber_v (mk_at_m (by omega)) rfl (c_Model_isNumber geo hp166_14) (Nat.ble_eq_true_of_le (by omega)) rfl rfl ?_
        refine Go.if_eq (t := 176) d_Model_isLine_169 (by decide) rfl (fun c169_15 => ?_) (fun c169_15 => ?_)
        · refine Go.iconst (v := 0) d_Model_isLine_176 rfl (by decide) ?_
          rw [if_pos c169_15] at hr
          cases hr
          exact Go.iret d_Model_isLine_177 rfl rfl ⟨rfl, rfl, rfl⟩
        · refine Go.iconst (v := 1) d_Model_isLine_172 rfl (by decide) ?_
          refine Go.goto (t := 177) d_Model_isLine_173 (by decide) ?_
          rw [if_neg c169_15] at hr
          cases hr
          exact Go.iret d_Model_isLine_177 rfl rfl ⟨rfl, rfl, rfl⟩
  by_cases w9_16 : ((sh_kd H) (mo_tk M)) = 6
  · refine Go.tsw (t := 178) d_Model_isLine_9 (by rw [w9_16]; rfl) ?_
    refine Go.aload_0 d_Model_isLine_178 rfl ?_
    refine Go.aload_1 d_Model_isLine_179 rfl ?_
    refine Go.bipush (v := 6) d_Model_isLine_180 rfl (by decide) ?_
    rw [if_pos o8_1, if_neg w9_2, if_neg w9_9, if_pos w9_16] at hr
    obtain ⟨p182_17, hp182_17, hr⟩ := Option.bind_eq_some_iff.mp hr
    try dsimp only at hr
    refine Go.cv2r d_Model_isLine_182 rfl l_Model_116 k_Model_isName_v (mk_at_m (by omega)) rfl (c_Model_isName geo hp182_17) (Nat.ble_eq_true_of_le (by omega)) rfl rfl ?_
    refine Go.if_eq (t := 212) d_Model_isLine_185 (by decide) rfl (fun c185_18 => ?_) (fun c185_18 => ?_)
    · refine Go.iconst (v := 0) d_Model_isLine_212 rfl (by decide) ?_
      rw [if_pos c185_18] at hr
      cases hr
      exact Go.iret d_Model_isLine_213 rfl rfl ⟨rfl, rfl, rfl⟩
    · refine Go.aload_0 d_Model_isLine_188 rfl ?_
      refine Go.aload_1 d_Model_isLine_189 rfl ?_
      refine Go.bipush (v := 7) d_Model_isLine_190 rfl (by decide) ?_
      rw [if_neg c185_18] at hr
      obtain ⟨p192_19, hp192_19, hr⟩ := Option.bind_eq_some_iff.mp hr
      try dsimp only at hr
      refine Go.cv2r d_Model_isLine_192 rfl l_Model_116 k_Model_isName_v (mk_at_m (by omega)) rfl (c_Model_isName geo hp192_19) (Nat.ble_eq_true_of_le (by omega)) rfl rfl ?_
      refine Go.if_eq (t := 212) d_Model_isLine_195 (by decide) rfl (fun c195_20 => ?_) (fun c195_20 => ?_)
      · refine Go.iconst (v := 0) d_Model_isLine_212 rfl (by decide) ?_
        rw [if_pos c195_20] at hr
        cases hr
        exact Go.iret d_Model_isLine_213 rfl rfl ⟨rfl, rfl, rfl⟩
      · refine Go.aload_0 d_Model_isLine_198 rfl ?_
        refine Go.aload_1 d_Model_isLine_199 rfl ?_
        refine Go.bipush (v := 8) d_Model_isLine_200 rfl (by decide) ?_
        rw [if_neg c195_20] at hr
        obtain ⟨p202_21, hp202_21, hr⟩ := Option.bind_eq_some_iff.mp hr
        try dsimp only at hr
        refine Go.cv2r d_Model_isLine_202 rfl l_Model_119 k_Model_isNumber_v (mk_at_m (by omega)) rfl (c_Model_isNumber geo hp202_21) (Nat.ble_eq_true_of_le (by omega)) rfl rfl ?_
        refine Go.if_eq (t := 212) d_Model_isLine_205 (by decide) rfl (fun c205_22 => ?_) (fun c205_22 => ?_)
        · refine Go.iconst (v := 0) d_Model_isLine_212 rfl (by decide) ?_
          rw [if_pos c205_22] at hr
          cases hr
          exact Go.iret d_Model_isLine_213 rfl rfl ⟨rfl, rfl, rfl⟩
        · refine Go.iconst (v := 1) d_Model_isLine_208 rfl (by decide) ?_
          refine Go.goto (t := 213) d_Model_isLine_209 (by decide) ?_
          rw [if_neg c205_22] at hr
          cases hr
          exact Go.iret d_Model_isLine_213 rfl rfl ⟨rfl, rfl, rfl⟩
  by_cases w9_23 : ((sh_kd H) (mo_tk M)) = 9
  · refine Go.tsw (t := 214) d_Model_isLine_9 (by rw [w9_23]; rfl) ?_
    refine Go.aload_0 d_Model_isLine_214 rfl ?_
    refine Go.aload_1 d_Model_isLine_215 rfl ?_
    refine Go.bipush (v := 9) d_Model_isLine_216 rfl (by decide) ?_
    rw [if_pos o8_1, if_neg w9_2, if_neg w9_9, if_neg w9_16, if_pos w9_23] at hr
    obtain ⟨p218_24, hp218_24, hr⟩ := Option.bind_eq_some_iff.mp hr
    try dsimp only at hr
    refine Go.cv2r d_Model_isLine_218 rfl l_Model_116 k_Model_isName_v (mk_at_m (by omega)) rfl (c_Model_isName geo hp218_24) (Nat.ble_eq_true_of_le (by omega)) rfl rfl ?_
    refine Go.if_eq (t := 247) d_Model_isLine_221 (by decide) rfl (fun c221_25 => ?_) (fun c221_25 => ?_)
    · refine Go.iconst (v := 0) d_Model_isLine_247 rfl (by decide) ?_
      rw [if_pos c221_25] at hr
      cases hr
      exact Go.iret d_Model_isLine_248 rfl rfl ⟨rfl, rfl, rfl⟩
    · refine Go.aload_0 d_Model_isLine_224 rfl ?_
      refine Go.aload_1 d_Model_isLine_225 rfl ?_
      refine Go.iconst (v := 4) d_Model_isLine_226 rfl (by decide) ?_
      rw [if_neg c221_25] at hr
      obtain ⟨p227_26, hp227_26, hr⟩ := Option.bind_eq_some_iff.mp hr
      try dsimp only at hr
      refine Go.cv2r d_Model_isLine_227 rfl l_Model_116 k_Model_isName_v (mk_at_m (by omega)) rfl (c_Model_isName geo hp227_26) (Nat.ble_eq_true_of_le (by omega)) rfl rfl ?_
      refine Go.if_eq (t := 247) d_Model_isLine_230 (by decide) rfl (fun c230_27 => ?_) (fun c230_27 => ?_)
      · refine Go.iconst (v := 0) d_Model_isLine_247 rfl (by decide) ?_
        rw [if_pos c230_27] at hr
        cases hr
        exact Go.iret d_Model_isLine_248 rfl rfl ⟨rfl, rfl, rfl⟩
      · refine Go.aload_0 d_Model_isLine_233 rfl ?_
        refine Go.aload_1 d_Model_isLine_234 rfl ?_
        refine Go.bipush (v := 10) d_Model_isLine_235 rfl (by decide) ?_
        rw [if_neg c230_27] at hr
        obtain ⟨p237_28, hp237_28, hr⟩ := Option.bind_eq_some_iff.mp hr
        try dsimp only at hr
        refine Go.cv2r d_Model_isLine_237 rfl l_Model_119 k_Model_isNumber_v (mk_at_m (by omega)) rfl (c_Model_isNumber geo hp237_28) (Nat.ble_eq_true_of_le (by omega)) rfl rfl ?_
        refine Go.if_eq (t := 247) d_Model_isLine_240 (by decide) rfl (fun c240_29 => ?_) (fun c240_29 => ?_)
        · refine Go.iconst (v := 0) d_Model_isLine_247 rfl (by decide) ?_
          rw [if_pos c240_29] at hr
          cases hr
          exact Go.iret d_Model_isLine_248 rfl rfl ⟨rfl, rfl, rfl⟩
        · refine Go.iconst (v := 1) d_Model_isLine_243 rfl (by decide) ?_
          refine Go.goto (t := 248) d_Model_isLine_244 (by decide) ?_
          rw [if_neg c240_29] at hr
          cases hr
          exact Go.iret d_Model_isLine_248 rfl rfl ⟨rfl, rfl, rfl⟩
  by_cases w9_30 : ((sh_kd H) (mo_tk M)) = 11
  · refine Go.tsw (t := 249) d_Model_isLine_9 (by rw [w9_30]; rfl) ?_
    refine Go.aload_0 d_Model_isLine_249 rfl ?_
    refine Go.aload_1 d_Model_isLine_250 rfl ?_
    refine Go.bipush (v := 11) d_Model_isLine_251 rfl (by decide) ?_
    rw [if_pos o8_1, if_neg w9_2, if_neg w9_9, if_neg w9_16, if_neg w9_23, if_pos w9_30] at hr
    obtain ⟨p253_31, hp253_31, hr⟩ := Option.bind_eq_some_iff.mp hr
    try dsimp only at hr
    refine Go.cv2r d_Model_isLine_253 rfl l_Model_116 k_Model_isName_v (mk_at_m (by omega)) rfl (c_Model_isName geo hp253_31) (Nat.ble_eq_true_of_le (by omega)) rfl rfl ?_
    refine Go.if_eq (t := 292) d_Model_isLine_256 (by decide) rfl (fun c256_32 => ?_) (fun c256_32 => ?_)
    · refine Go.iconst (v := 0) d_Model_isLine_292 rfl (by decide) ?_
      rw [if_pos c256_32] at hr
      cases hr
      exact Go.iret d_Model_isLine_293 rfl rfl ⟨rfl, rfl, rfl⟩
    · refine Go.aload_0 d_Model_isLine_259 rfl ?_
      refine Go.aload_1 d_Model_isLine_260 rfl ?_
      refine Go.iconst (v := 4) d_Model_isLine_261 rfl (by decide) ?_
      rw [if_neg c256_32] at hr
      obtain ⟨p262_33, hp262_33, hr⟩ := Option.bind_eq_some_iff.mp hr
      try dsimp only at hr
      refine Go.cv2r d_Model_isLine_262 rfl l_Model_116 k_Model_isName_v (mk_at_m (by omega)) rfl (c_Model_isName geo hp262_33) (Nat.ble_eq_true_of_le (by omega)) rfl rfl ?_
      refine Go.if_eq (t := 292) d_Model_isLine_265 (by decide) rfl (fun c265_34 => ?_) (fun c265_34 => ?_)
      · refine Go.iconst (v := 0) d_Model_isLine_292 rfl (by decide) ?_
        rw [if_pos c265_34] at hr
        cases hr
        exact Go.iret d_Model_isLine_293 rfl rfl ⟨rfl, rfl, rfl⟩
      · refine Go.aload_0 d_Model_isLine_268 rfl ?_
        refine Go.aload_1 d_Model_isLine_269 rfl ?_
        refine Go.bipush (v := 12) d_Model_isLine_270 rfl (by decide) ?_
        rw [if_neg c265_34] at hr
        obtain ⟨p272_35, hp272_35, hr⟩ := Option.bind_eq_some_iff.mp hr
        try dsimp only at hr
        refine Go.cv2r d_Model_isLine_272 rfl l_Model_119 k_Model_isNumber_v (mk_at_m (by omega)) rfl (c_Model_isNumber geo hp272_35) (Nat.ble_eq_true_of_le (by omega)) rfl rfl ?_
        refine Go.if_eq (t := 292) d_Model_isLine_275 (by decide) rfl (fun c275_36 => ?_) (fun c275_36 => ?_)
        · refine Go.iconst (v := 0) d_Model_isLine_292 rfl (by decide) ?_
          rw [if_pos c275_36] at hr
          cases hr
          exact Go.iret d_Model_isLine_293 rfl rfl ⟨rfl, rfl, rfl⟩
        · refine Go.aload_0 d_Model_isLine_278 rfl ?_
          refine Go.aload_1 d_Model_isLine_279 rfl ?_
          refine Go.bipush (v := 10) d_Model_isLine_280 rfl (by decide) ?_
          rw [if_neg c275_36] at hr
          obtain ⟨p282_37, hp282_37, hr⟩ := Option.bind_eq_some_iff.mp hr
          try dsimp only at hr
          refine Go.cv2r d_Model_isLine_282 rfl l_Model_119 k_Model_isNumber_v (mk_at_m (by omega)) rfl (c_Model_isNumber geo hp282_37) (Nat.ble_eq_true_of_le (by omega)) rfl rfl ?_
          refine Go.if_eq (t := 292) d_Model_isLine_285 (by decide) rfl (fun c285_38 => ?_) (fun c285_38 => ?_)
          · refine Go.iconst (v := 0) d_Model_isLine_292 rfl (by decide) ?_
            rw [if_pos c285_38] at hr
            cases hr
            exact Go.iret d_Model_isLine_293 rfl rfl ⟨rfl, rfl, rfl⟩
          · refine Go.iconst (v := 1) d_Model_isLine_288 rfl (by decide) ?_
            refine Go.goto (t := 293) d_Model_isLine_289 (by decide) ?_
            rw [if_neg c285_38] at hr
            cases hr
            exact Go.iret d_Model_isLine_293 rfl rfl ⟨rfl, rfl, rfl⟩
  by_cases w9_39 : ((sh_kd H) (mo_tk M)) = 13
  · refine Go.tsw (t := 294) d_Model_isLine_9 (by rw [w9_39]; rfl) ?_
    refine Go.aload_0 d_Model_isLine_294 rfl ?_
    refine Go.aload_1 d_Model_isLine_295 rfl ?_
    refine Go.bipush (v := 13) d_Model_isLine_296 rfl (by decide) ?_
    rw [if_pos o8_1, if_neg w9_2, if_neg w9_9, if_neg w9_16, if_neg w9_23, if_neg w9_30, if_pos w9_39] at hr
    obtain ⟨p298_40, hp298_40, hr⟩ := Option.bind_eq_some_iff.mp hr
    try dsimp only at hr
    refine Go.cv2r d_Model_isLine_298 rfl l_Model_119 k_Model_isNumber_v (mk_at_m (by omega)) rfl (c_Model_isNumber geo hp298_40) (Nat.ble_eq_true_of_le (by omega)) rfl rfl ?_
    refine Go.if_eq (t := 318) d_Model_isLine_301 (by decide) rfl (fun c301_41 => ?_) (fun c301_41 => ?_)
    · refine Go.iconst (v := 0) d_Model_isLine_318 rfl (by decide) ?_
      rw [if_pos c301_41] at hr
      cases hr
      exact Go.iret d_Model_isLine_319 rfl rfl ⟨rfl, rfl, rfl⟩
    · refine Go.aload_0 d_Model_isLine_304 rfl ?_
      refine Go.aload_1 d_Model_isLine_305 rfl ?_
      refine Go.bipush (v := 14) d_Model_isLine_306 rfl (by decide) ?_
      rw [if_neg c301_41] at hr
      obtain ⟨p308_42, hp308_42, hr⟩ := Option.bind_eq_some_iff.mp hr
      try dsimp only at hr
      refine Go.cv2r d_Model_isLine_308 rfl l_Model_119 k_Model_isNumber_v (mk_at_m (by omega)) rfl (c_Model_isNumber geo hp308_42) (Nat.ble_eq_true_of_le (by omega)) rfl rfl ?_
      refine Go.if_eq (t := 318) d_Model_isLine_311 (by decide) rfl (fun c311_43 => ?_) (fun c311_43 => ?_)
      · refine Go.iconst (v := 0) d_Model_isLine_318 rfl (by decide) ?_
        rw [if_pos c311_43] at hr
        cases hr
        exact Go.iret d_Model_isLine_319 rfl rfl ⟨rfl, rfl, rfl⟩
      · refine Go.iconst (v := 1) d_Model_isLine_314 rfl (by decide) ?_
        refine Go.goto (t := 319) d_Model_isLine_315 (by decide) ?_
        rw [if_neg c311_43] at hr
        cases hr
        exact Go.iret d_Model_isLine_319 rfl rfl ⟨rfl, rfl, rfl⟩
  by_cases w9_44 : ((sh_kd H) (mo_tk M)) = 15
  · refine Go.tsw (t := 320) d_Model_isLine_9 (by rw [w9_44]; rfl) ?_
    refine Go.aload_0 d_Model_isLine_320 rfl ?_
    refine Go.dup d_Model_isLine_321 rfl rfl ?_
    refine Go.getfield d_Model_isLine_322 rfl f_Model_99 (mk_at_m (by omega)) (by rfl) ?_
    refine Go.iconst (v := 1) d_Model_isLine_325 rfl (by decide) ?_
    refine Go.iadd d_Model_isLine_326 rfl ?_
    rw [show (nI (mo_tk M)) + 1 = nI ((mo_tk M) + 1) from nI_add _ _]
    refine Go.putfield d_Model_isLine_327 rfl f_Model_99_p (Or.inl (fun C T N h => by cases h; rfl)) (mk_at_m (by omega)) (by exact Nat.le_of_ble_eq_true rfl) rfl rfl ?_
    refine Go.heq (mk_put_m_token (by omega)) ?_
    refine Go.aload_0 d_Model_isLine_330 rfl ?_
    refine Go.aload_1 d_Model_isLine_331 rfl ?_
    refine Go.bipush (v := 36) d_Model_isLine_332 rfl (by decide) ?_
    rw [if_pos o8_1, if_neg w9_2, if_neg w9_9, if_neg w9_16, if_neg w9_23, if_neg w9_30, if_neg w9_39, if_pos w9_44] at hr
    obtain ⟨p334_45, hp334_45, hr⟩ := Option.bind_eq_some_iff.mp hr
    try dsimp only at hr
    refine Go.cv2r d_Model_isLine_334 rfl l_Model_109 k_Model_eat_0_v (mk_at_m (by omega)) rfl (c_Model_eat_0 geo hp334_45) (Nat.ble_eq_true_of_le (by omega)) rfl rfl ?_
    refine Go.if_eq (t := 352) d_Model_isLine_337 (by decide) rfl (fun c337_46 => ?_) (fun c337_46 => ?_)
    · refine Go.iconst (v := 0) d_Model_isLine_352 rfl (by decide) ?_
      rw [if_pos c337_46] at hr
      cases hr
      exact Go.iret d_Model_isLine_353 rfl rfl ⟨rfl, rfl, rfl⟩
    · refine Go.aload_0 d_Model_isLine_340 rfl ?_
      refine Go.aload_1 d_Model_isLine_341 rfl ?_
      rw [if_neg c337_46] at hr
      obtain ⟨p342_47, hp342_47, hr⟩ := Option.bind_eq_some_iff.mp hr
      try dsimp only at hr
      refine Go.cv1r d_Model_isLine_342 rfl l_Model_122 k_Model_isWhen_v (mk_at_m (by omega)) rfl (c_Model_isWhen geo hp342_47) (Nat.ble_eq_true_of_le (by omega)) rfl rfl ?_
      refine Go.if_eq (t := 352) d_Model_isLine_345 (by decide) rfl (fun c345_48 => ?_) (fun c345_48 => ?_)
      · refine Go.iconst (v := 0) d_Model_isLine_352 rfl (by decide) ?_
        rw [if_pos c345_48] at hr
        cases hr
        exact Go.iret d_Model_isLine_353 rfl rfl ⟨rfl, rfl, rfl⟩
      · refine Go.iconst (v := 1) d_Model_isLine_348 rfl (by decide) ?_
        refine Go.goto (t := 353) d_Model_isLine_349 (by decide) ?_
        rw [if_neg c345_48] at hr
        cases hr
        exact Go.iret d_Model_isLine_353 rfl rfl ⟨rfl, rfl, rfl⟩
  by_cases w9_49 : ((sh_kd H) (mo_tk M)) = 16
  · refine Go.tsw (t := 320) d_Model_isLine_9 (by rw [w9_49]; rfl) ?_
    refine Go.aload_0 d_Model_isLine_320 rfl ?_
    refine Go.dup d_Model_isLine_321 rfl rfl ?_
    refine Go.getfield d_Model_isLine_322 rfl f_Model_99 (mk_at_m (by omega)) (by rfl) ?_
    refine Go.iconst (v := 1) d_Model_isLine_325 rfl (by decide) ?_
    refine Go.iadd d_Model_isLine_326 rfl ?_
    rw [show (nI (mo_tk M)) + 1 = nI ((mo_tk M) + 1) from nI_add _ _]
    refine Go.putfield d_Model_isLine_327 rfl f_Model_99_p (Or.inl (fun C T N h => by cases h; rfl)) (mk_at_m (by omega)) (by exact Nat.le_of_ble_eq_true rfl) rfl rfl ?_
    refine Go.heq (mk_put_m_token (by omega)) ?_
    refine Go.aload_0 d_Model_isLine_330 rfl ?_
    refine Go.aload_1 d_Model_isLine_331 rfl ?_
    refine Go.bipush (v := 36) d_Model_isLine_332 rfl (by decide) ?_
    rw [if_pos o8_1, if_neg w9_2, if_neg w9_9, if_neg w9_16, if_neg w9_23, if_neg w9_30, if_neg w9_39, if_neg w9_44, if_pos w9_49] at hr
    obtain ⟨p334_50, hp334_50, hr⟩ := Option.bind_eq_some_iff.mp hr
    try dsimp only at hr
    refine Go.cv2r d_Model_isLine_334 rfl l_Model_109 k_Model_eat_0_v (mk_at_m (by omega)) rfl (c_Model_eat_0 geo hp334_50) (Nat.ble_eq_true_of_le (by omega)) rfl rfl ?_
    refine Go.if_eq (t := 352) d_Model_isLine_337 (by decide) rfl (fun c337_51 => ?_) (fun c337_51 => ?_)
    · refine Go.iconst (v := 0) d_Model_isLine_352 rfl (by decide) ?_
      rw [if_pos c337_51] at hr
      cases hr
      exact Go.iret d_Model_isLine_353 rfl rfl ⟨rfl, rfl, rfl⟩
    · refine Go.aload_0 d_Model_isLine_340 rfl ?_
      refine Go.aload_1 d_Model_isLine_341 rfl ?_
      rw [if_neg c337_51] at hr
      obtain ⟨p342_52, hp342_52, hr⟩ := Option.bind_eq_some_iff.mp hr
      try dsimp only at hr
      refine Go.cv1r d_Model_isLine_342 rfl l_Model_122 k_Model_isWhen_v (mk_at_m (by omega)) rfl (c_Model_isWhen geo hp342_52) (Nat.ble_eq_true_of_le (by omega)) rfl rfl ?_
      refine Go.if_eq (t := 352) d_Model_isLine_345 (by decide) rfl (fun c345_53 => ?_) (fun c345_53 => ?_)
      · refine Go.iconst (v := 0) d_Model_isLine_352 rfl (by decide) ?_
        rw [if_pos c345_53] at hr
        cases hr
        exact Go.iret d_Model_isLine_353 rfl rfl ⟨rfl, rfl, rfl⟩
      · refine Go.iconst (v := 1) d_Model_isLine_348 rfl (by decide) ?_
        refine Go.goto (t := 353) d_Model_isLine_349 (by decide) ?_
        rw [if_neg c345_53] at hr
        cases hr
        exact Go.iret d_Model_isLine_353 rfl rfl ⟨rfl, rfl, rfl⟩
  by_cases w9_54 : ((sh_kd H) (mo_tk M)) = 17
  · refine Go.tsw (t := 354) d_Model_isLine_9 (by rw [w9_54]; rfl) ?_
    refine Go.aload_0 d_Model_isLine_354 rfl ?_
    refine Go.aload_1 d_Model_isLine_355 rfl ?_
    refine Go.bipush (v := 17) d_Model_isLine_356 rfl (by decide) ?_
    rw [if_pos o8_1, if_neg w9_2, if_neg w9_9, if_neg w9_16, if_neg w9_23, if_neg w9_30, if_neg w9_39, if_neg w9_44, if_neg w9_49, if_pos w9_54] at hr
    obtain ⟨p358_55, hp358_55, hr⟩ := Option.bind_eq_some_iff.mp hr
    try dsimp only at hr
    refine Go.cv2r d_Model_isLine_358 rfl l_Model_116 k_Model_isName_v (mk_at_m (by omega)) rfl (c_Model_isName geo hp358_55) (Nat.ble_eq_true_of_le (by omega)) rfl rfl ?_
    refine Go.if_eq (t := 386) d_Model_isLine_361 (by decide) rfl (fun c361_56 => ?_) (fun c361_56 => ?_)
    · refine Go.iconst (v := 0) d_Model_isLine_386 rfl (by decide) ?_
      rw [if_pos c361_56] at hr
      cases hr
      exact Go.iret d_Model_isLine_387 rfl rfl ⟨rfl, rfl, rfl⟩
    · refine Go.aload_0 d_Model_isLine_364 rfl ?_
      refine Go.aload_1 d_Model_isLine_365 rfl ?_
      refine Go.bipush (v := 18) d_Model_isLine_366 rfl (by decide) ?_
      rw [if_neg c361_56] at hr
      obtain ⟨p368_57, hp368_57, hr⟩ := Option.bind_eq_some_iff.mp hr
      try dsimp only at hr
      refine Go.cv2r d_Model_isLine_368 rfl l_Model_116 k_Model_isName_v (mk_at_m (by omega)) rfl (c_Model_isName geo hp368_57) (Nat.ble_eq_true_of_le (by omega)) rfl rfl ?_
      refine Go.if_eq (t := 386) d_Model_isLine_371 (by decide) rfl (fun c371_58 => ?_) (fun c371_58 => ?_)
      · refine Go.iconst (v := 0) d_Model_isLine_386 rfl (by decide) ?_
        rw [if_pos c371_58] at hr
        cases hr
        exact Go.iret d_Model_isLine_387 rfl rfl ⟨rfl, rfl, rfl⟩
      · refine Go.aload_0 d_Model_isLine_374 rfl ?_
        refine Go.aload_1 d_Model_isLine_375 rfl ?_
        rw [if_neg c371_58] at hr
        obtain ⟨p376_59, hp376_59, hr⟩ := Option.bind_eq_some_iff.mp hr
        try dsimp only at hr
        refine Go.cv1r d_Model_isLine_376 rfl l_Model_122 k_Model_isWhen_v (mk_at_m (by omega)) rfl (c_Model_isWhen geo hp376_59) (Nat.ble_eq_true_of_le (by omega)) rfl rfl ?_
        refine Go.if_eq (t := 386) d_Model_isLine_379 (by decide) rfl (fun c379_60 => ?_) (fun c379_60 => ?_)
        · refine Go.iconst (v := 0) d_Model_isLine_386 rfl (by decide) ?_
          rw [if_pos c379_60] at hr
          cases hr
          exact Go.iret d_Model_isLine_387 rfl rfl ⟨rfl, rfl, rfl⟩
        · refine Go.iconst (v := 1) d_Model_isLine_382 rfl (by decide) ?_
          refine Go.goto (t := 387) d_Model_isLine_383 (by decide) ?_
          rw [if_neg c379_60] at hr
          cases hr
          exact Go.iret d_Model_isLine_387 rfl rfl ⟨rfl, rfl, rfl⟩
  by_cases w9_61 : ((sh_kd H) (mo_tk M)) = 21
  · refine Go.tsw (t := 320) d_Model_isLine_9 (by rw [w9_61]; rfl) ?_
    refine Go.aload_0 d_Model_isLine_320 rfl ?_
    refine Go.dup d_Model_isLine_321 rfl rfl ?_
    refine Go.getfield d_Model_isLine_322 rfl f_Model_99 (mk_at_m (by omega)) (by rfl) ?_
    refine Go.iconst (v := 1) d_Model_isLine_325 rfl (by decide) ?_
    refine Go.iadd d_Model_isLine_326 rfl ?_
    rw [show (nI (mo_tk M)) + 1 = nI ((mo_tk M) + 1) from nI_add _ _]
    refine Go.putfield d_Model_isLine_327 rfl f_Model_99_p (Or.inl (fun C T N h => by cases h; rfl)) (mk_at_m (by omega)) (by exact Nat.le_of_ble_eq_true rfl) rfl rfl ?_
    refine Go.heq (mk_put_m_token (by omega)) ?_
    refine Go.aload_0 d_Model_isLine_330 rfl ?_
    refine Go.aload_1 d_Model_isLine_331 rfl ?_
    refine Go.bipush (v := 36) d_Model_isLine_332 rfl (by decide) ?_
    rw [if_pos o8_1, if_neg w9_2, if_neg w9_9, if_neg w9_16, if_neg w9_23, if_neg w9_30, if_neg w9_39, if_neg w9_44, if_neg w9_49, if_neg w9_54, if_pos w9_61] at hr
    obtain ⟨p334_62, hp334_62, hr⟩ := Option.bind_eq_some_iff.mp hr
    try dsimp only at hr
    refine Go.cv2r d_Model_isLine_334 rfl l_Model_109 k_Model_eat_0_v (mk_at_m (by omega)) rfl (c_Model_eat_0 geo hp334_62) (Nat.ble_eq_true_of_le (by omega)) rfl rfl ?_
    refine Go.if_eq (t := 352) d_Model_isLine_337 (by decide) rfl (fun c337_63 => ?_) (fun c337_63 => ?_)
    · refine Go.iconst (v := 0) d_Model_isLine_352 rfl (by decide) ?_
      rw [if_pos c337_63] at hr
      cases hr
      exact Go.iret d_Model_isLine_353 rfl rfl ⟨rfl, rfl, rfl⟩
    · refine Go.aload_0 d_Model_isLine_340 rfl ?_
      refine Go.aload_1 d_Model_isLine_341 rfl ?_
      rw [if_neg c337_63] at hr
      obtain ⟨p342_64, hp342_64, hr⟩ := Option.bind_eq_some_iff.mp hr
      try dsimp only at hr
      refine Go.cv1r d_Model_isLine_342 rfl l_Model_122 k_Model_isWhen_v (mk_at_m (by omega)) rfl (c_Model_isWhen geo hp342_64) (Nat.ble_eq_true_of_le (by omega)) rfl rfl ?_
      refine Go.if_eq (t := 352) d_Model_isLine_345 (by decide) rfl (fun c345_65 => ?_) (fun c345_65 => ?_)
      · refine Go.iconst (v := 0) d_Model_isLine_352 rfl (by decide) ?_
        rw [if_pos c345_65] at hr
        cases hr
        exact Go.iret d_Model_isLine_353 rfl rfl ⟨rfl, rfl, rfl⟩
      · refine Go.iconst (v := 1) d_Model_isLine_348 rfl (by decide) ?_
        refine Go.goto (t := 353) d_Model_isLine_349 (by decide) ?_
        rw [if_neg c345_65] at hr
        cases hr
        exact Go.iret d_Model_isLine_353 rfl rfl ⟨rfl, rfl, rfl⟩
  refine Go.tsw (t := 388) d_Model_isLine_9 (tsw_d fun n hn => by
      match n, hn with
      | 0, _ => exact Or.inr fun w => w9_2 (i32_eq w)
      | 1, _ => exact Or.inl rfl
      | 2, _ => exact Or.inl rfl
      | 3, _ => exact Or.inr fun w => w9_9 (i32_eq w)
      | 4, _ => exact Or.inl rfl
      | 5, _ => exact Or.inl rfl
      | 6, _ => exact Or.inr fun w => w9_16 (i32_eq w)
      | 7, _ => exact Or.inl rfl
      | 8, _ => exact Or.inl rfl
      | 9, _ => exact Or.inr fun w => w9_23 (i32_eq w)
      | 10, _ => exact Or.inl rfl
      | 11, _ => exact Or.inr fun w => w9_30 (i32_eq w)
      | 12, _ => exact Or.inl rfl
      | 13, _ => exact Or.inr fun w => w9_39 (i32_eq w)
      | 14, _ => exact Or.inl rfl
      | 15, _ => exact Or.inr fun w => w9_44 (i32_eq w)
      | 16, _ => exact Or.inr fun w => w9_49 (i32_eq w)
      | 17, _ => exact Or.inr fun w => w9_54 (i32_eq w)
      | 18, _ => exact Or.inl rfl
      | 19, _ => exact Or.inl rfl
      | 20, _ => exact Or.inl rfl
      | 21, _ => exact Or.inr fun w => w9_61 (i32_eq w)
      | _ + 22, w => exact absurd w (by simp)) ?_
  refine Go.aload_0 d_Model_isLine_388 rfl ?_
  refine Go.aload_1 d_Model_isLine_389 rfl ?_
  refine Go.bipush (v := 19) d_Model_isLine_390 rfl (by decide) ?_
  rw [if_pos o8_1, if_neg w9_2, if_neg w9_9, if_neg w9_16, if_neg w9_23, if_neg w9_30, if_neg w9_39, if_neg w9_44, if_neg w9_49, if_neg w9_54, if_neg w9_61] at hr
  obtain ⟨p392_66, hp392_66, hr⟩ := Option.bind_eq_some_iff.mp hr
  try dsimp only at hr
  refine Go.cv2r d_Model_isLine_392 rfl l_Model_116 k_Model_isName_v (mk_at_m (by omega)) rfl (c_Model_isName geo hp392_66) (Nat.ble_eq_true_of_le (by omega)) rfl rfl ?_
  refine Go.if_eq (t := 442) d_Model_isLine_395 (by decide) rfl (fun c395_67 => ?_) (fun c395_67 => ?_)
  · refine Go.iconst (v := 0) d_Model_isLine_442 rfl (by decide) ?_
    rw [if_pos c395_67] at hr
    cases hr
    exact Go.iret d_Model_isLine_443 rfl rfl ⟨rfl, rfl, rfl⟩
  · refine Go.aload_0 d_Model_isLine_398 rfl ?_
    refine Go.aload_1 d_Model_isLine_399 rfl ?_
    refine Go.bipush (v := 20) d_Model_isLine_400 rfl (by decide) ?_
    rw [if_neg c395_67] at hr
    obtain ⟨p402_68, hp402_68, hr⟩ := Option.bind_eq_some_iff.mp hr
    try dsimp only at hr
    refine Go.cv2r d_Model_isLine_402 rfl l_Model_109 k_Model_eat_0_v (mk_at_m (by omega)) rfl (c_Model_eat_0 geo hp402_68) (Nat.ble_eq_true_of_le (by omega)) rfl rfl ?_
    refine Go.if_eq (t := 442) d_Model_isLine_405 (by decide) rfl (fun c405_69 => ?_) (fun c405_69 => ?_)
    · refine Go.iconst (v := 0) d_Model_isLine_442 rfl (by decide) ?_
      rw [if_pos c405_69] at hr
      cases hr
      exact Go.iret d_Model_isLine_443 rfl rfl ⟨rfl, rfl, rfl⟩
    · refine Go.aload_0 d_Model_isLine_408 rfl ?_
      refine Go.aload_1 d_Model_isLine_409 rfl ?_
      rw [if_neg c405_69] at hr
      obtain ⟨p410_70, hp410_70, hr⟩ := Option.bind_eq_some_iff.mp hr
      try dsimp only at hr
      refine Go.cv1r d_Model_isLine_410 rfl l_Model_125 k_Model_isSum_v (mk_at_m (by omega)) rfl ((rk_go geo 64).2.2.2.1 _ _ hp410_70) (Nat.ble_eq_true_of_le (by omega)) rfl rfl ?_
      refine Go.if_eq (t := 442) d_Model_isLine_413 (by decide) rfl (fun c413_71 => ?_) (fun c413_71 => ?_)
      · refine Go.iconst (v := 0) d_Model_isLine_442 rfl (by decide) ?_
        rw [if_pos c413_71] at hr
        cases hr
        exact Go.iret d_Model_isLine_443 rfl rfl ⟨rfl, rfl, rfl⟩
      · refine Go.aload_1 d_Model_isLine_416 rfl ?_
        refine Go.getfield d_Model_isLine_417 rfl f_Model_93 (mk_at_q (by omega)) (by rfl) ?_
        refine Go.aload_0 d_Model_isLine_420 rfl ?_
        refine Go.getfield d_Model_isLine_421 rfl f_Model_99 (mk_at_m (by omega)) (by rfl) ?_
        have o424_72 : (mo_tk p410_70.2) < 401 := Classical.byContradiction fun w => by
          rw [if_neg c413_71, if_neg w] at hr
          cases hr
        refine Go.iaload d_Model_isLine_424 rfl (mk_at_q_1 (by omega)) (vp_in_nI o424_72 (by decide)) ?_
        rw [nI_clamp (show (mo_tk p410_70.2) < 2 ^ 31 by omega)]
        refine Go.bipush (v := 22) d_Model_isLine_425 rfl (by decide) ?_
        refine Go.icmp_ne (t := 438) d_Model_isLine_427 (by decide) rfl (fun c427_73 => ?_) (fun c427_73 => ?_)
        · refine Go.iconst (v := 1) d_Model_isLine_438 rfl (by decide) ?_
          refine Go.goto (t := 443) d_Model_isLine_439 (by decide) ?_
          rw [if_neg c413_71, if_pos o424_72, if_neg c427_73] at hr
          cases hr
          exact Go.iret d_Model_isLine_443 rfl rfl ⟨rfl, rfl, rfl⟩
        · refine Go.aload_0 d_Model_isLine_430 rfl ?_
          refine Go.aload_1 d_Model_isLine_431 rfl ?_
          rw [if_neg c413_71, if_pos o424_72, if_pos c427_73] at hr
          obtain ⟨p432_74, hp432_74, hr⟩ := Option.bind_eq_some_iff.mp hr
          try dsimp only at hr
          refine Go.cv1r d_Model_isLine_432 rfl l_Model_122 k_Model_isWhen_v (mk_at_m (by omega)) rfl (c_Model_isWhen geo hp432_74) (Nat.ble_eq_true_of_le (by omega)) rfl rfl ?_
          refine Go.if_eq (t := 442) d_Model_isLine_435 (by decide) rfl (fun c435_75 => ?_) (fun c435_75 => ?_)
          · refine Go.iconst (v := 0) d_Model_isLine_442 rfl (by decide) ?_
            rw [if_pos c435_75] at hr
            cases hr
            exact Go.iret d_Model_isLine_443 rfl rfl ⟨rfl, rfl, rfl⟩
          · refine Go.iconst (v := 1) d_Model_isLine_438 rfl (by decide) ?_
            refine Go.goto (t := 443) d_Model_isLine_439 (by decide) ?_
            rw [if_neg c435_75] at hr
            cases hr
            exact Go.iret d_Model_isLine_443 rfl rfl ⟨rfl, rfl, rfl⟩
theorem d_Model_isList_0 : decode M_Model_isList.2.1 0 = .ok (.aload_n 1, 1) := by decide +kernel
theorem d_Model_isList_1 : decode M_Model_isList.2.1 1 = .ok (.getfield 93, 3) := by decide +kernel
theorem d_Model_isList_4 : decode M_Model_isList.2.1 4 = .ok (.aload_n 0, 1) := by decide +kernel
theorem d_Model_isList_5 : decode M_Model_isList.2.1 5 = .ok (.getfield 99, 3) := by decide +kernel
theorem d_Model_isList_8 : decode M_Model_isList.2.1 8 = .ok (.iaload, 1) := by decide +kernel
theorem d_Model_isList_9 : decode M_Model_isList.2.1 9 = .ok (.bipush 70, 2) := by decide +kernel
theorem d_Model_isList_11 : decode M_Model_isList.2.1 11 = .ok (.if_icmp .eq 23, 3) := by decide +kernel
theorem d_Model_isList_14 : decode M_Model_isList.2.1 14 = .ok (.aload_n 0, 1) := by decide +kernel
theorem d_Model_isList_15 : decode M_Model_isList.2.1 15 = .ok (.aload_n 1, 1) := by decide +kernel
theorem d_Model_isList_16 : decode M_Model_isList.2.1 16 = .ok (.invokevirtual 105, 3) := by decide +kernel
theorem d_Model_isList_19 : decode M_Model_isList.2.1 19 = .ok (.ifCond .eq 13, 3) := by decide +kernel
theorem d_Model_isList_22 : decode M_Model_isList.2.1 22 = .ok (.aload_n 0, 1) := by decide +kernel
theorem d_Model_isList_23 : decode M_Model_isList.2.1 23 = .ok (.aload_n 1, 1) := by decide +kernel
theorem d_Model_isList_24 : decode M_Model_isList.2.1 24 = .ok (.bipush 44, 2) := by decide +kernel
theorem d_Model_isList_26 : decode M_Model_isList.2.1 26 = .ok (.invokevirtual 109, 3) := by decide +kernel
theorem d_Model_isList_29 : decode M_Model_isList.2.1 29 = .ok (.ifCond .ne (-29), 3) := by decide +kernel
theorem d_Model_isList_32 : decode M_Model_isList.2.1 32 = .ok (.iconst 0, 1) := by decide +kernel
theorem d_Model_isList_33 : decode M_Model_isList.2.1 33 = .ok (.ireturn, 1) := by decide +kernel
theorem d_Model_isList_34 : decode M_Model_isList.2.1 34 = .ok (.iconst 1, 1) := by decide +kernel
theorem d_Model_isList_35 : decode M_Model_isList.2.1 35 = .ok (.ireturn, 1) := by decide +kernel
def l_Model_isList (H : SH)  : Nat → MO → Option (Int32 × MO)
  | 0, _ => none
  | k + 1, M => (if (mo_tk M) < 401 then (if ((sh_kd H) (mo_tk M)) = 70 then some (1, M) else ((s_Model_isLine H M).bind fun p16_3 => (if p16_3.1 = 0 then some (0, p16_3.2) else ((s_Model_eat_0 H 44 p16_3.2).bind fun p26_5 => (if p26_5.1 = 0 then some (0, p26_5.2) else (l_Model_isList H  k p26_5.2)))))) else none)
set_option maxRecDepth 100000 in
set_option maxHeartbeats 4000000 in
theorem l_Model_isList_go {Γ : G9} {h : AH} {m q qs sa sb ro z : Nat} {H : SH} {p : Int32 × MO} (geo : m + 2 ≤ q) : ∀ (k : Nat) (M : MO), l_Model_isList H  k M = some p → Go Γ M_Model_isList 71 0 0 0 [some (.ref m), some (.ref q)] [] (mk_ Γ h m q qs sa sb ro M H) z (RQ (some (.int p.1)) (mk_ Γ h m q qs sa sb ro p.2 H) z) noX := by
  intro k
  induction k with
  | zero =>
    intro M hr
    cases hr
  | succ k ih =>
    intro M hr
    unfold l_Model_isList at hr
    refine Go.aload_1 d_Model_isList_0 rfl ?_
    refine Go.getfield d_Model_isList_1 rfl f_Model_93 (mk_at_q (by omega)) (by rfl) ?_
    refine Go.aload_0 d_Model_isList_4 rfl ?_
    refine Go.getfield d_Model_isList_5 rfl f_Model_99 (mk_at_m (by omega)) (by rfl) ?_
    have o8_1 : (mo_tk M) < 401 := Classical.byContradiction fun w => by
      rw [if_neg w] at hr
      cases hr
    refine Go.iaload d_Model_isList_8 rfl (mk_at_q_1 (by omega)) (vp_in_nI o8_1 (by decide)) ?_
    rw [nI_clamp (show (mo_tk M) < 2 ^ 31 by omega)]
    refine Go.bipush (v := 70) d_Model_isList_9 rfl (by decide) ?_
    refine Go.icmp_eq (t := 34) d_Model_isList_11 (by decide) rfl (fun c11_2 => ?_) (fun c11_2 => ?_)
    · refine Go.iconst (v := 1) d_Model_isList_34 rfl (by decide) ?_
      rw [if_pos o8_1, if_pos c11_2] at hr
      cases hr
      exact Go.iret d_Model_isList_35 rfl rfl ⟨rfl, rfl, rfl⟩
    · refine Go.aload_0 d_Model_isList_14 rfl ?_
      refine Go.aload_1 d_Model_isList_15 rfl ?_
      rw [if_pos o8_1, if_neg c11_2] at hr
      obtain ⟨p16_3, hp16_3, hr⟩ := Option.bind_eq_some_iff.mp hr
      try dsimp only at hr
      refine Go.cv1r d_Model_isList_16 rfl l_Model_105 k_Model_isLine_v (mk_at_m (by omega)) rfl (c_Model_isLine geo hp16_3) (Nat.ble_eq_true_of_le (by omega)) rfl rfl ?_
      refine Go.if_eq (t := 32) d_Model_isList_19 (by decide) rfl (fun c19_4 => ?_) (fun c19_4 => ?_)
      · refine Go.iconst (v := 0) d_Model_isList_32 rfl (by decide) ?_
        rw [if_pos c19_4] at hr
        cases hr
        exact Go.iret d_Model_isList_33 rfl rfl ⟨rfl, rfl, rfl⟩
      · refine Go.aload_0 d_Model_isList_22 rfl ?_
        refine Go.aload_1 d_Model_isList_23 rfl ?_
        refine Go.bipush (v := 44) d_Model_isList_24 rfl (by decide) ?_
        rw [if_neg c19_4] at hr
        obtain ⟨p26_5, hp26_5, hr⟩ := Option.bind_eq_some_iff.mp hr
        try dsimp only at hr
        refine Go.cv2r d_Model_isList_26 rfl l_Model_109 k_Model_eat_0_v (mk_at_m (by omega)) rfl (c_Model_eat_0 geo hp26_5) (Nat.ble_eq_true_of_le (by omega)) rfl rfl ?_
        refine Go.if_ne (t := 0) d_Model_isList_29 (by decide) rfl (fun c29_6 => ?_) (fun c29_6 => ?_)
        · rw [if_neg c29_6] at hr
          exact ih _ hr
        · refine Go.iconst (v := 0) d_Model_isList_32 rfl (by decide) ?_
          rw [if_pos c29_6] at hr
          cases hr
          exact Go.iret d_Model_isList_33 rfl rfl ⟨rfl, rfl, rfl⟩
def s_Model_isList (H : SH)  (M : MO) : Option (Int32 × MO) := (l_Model_isList H  401 M)
set_option maxRecDepth 100000 in
set_option maxHeartbeats 4000000 in
theorem c_Model_isList {Γ : G9} {h : AH} {m q qs sa sb ro z : Nat} {M : MO} {H : SH} {p : Int32 × MO} (geo : m + 2 ≤ q) (hr : s_Model_isList H  M = some p) : CallR Γ M_Model_isList 71 [.ref m, .ref q] (mk_ Γ h m q qs sa sb ro M H) z (some (.int p.1)) (mk_ Γ h m q qs sa sb ro p.2 H) := by
  refine Call.of_go (L := [some (.ref m), some (.ref q)]) (by decide +kernel) rfl (by exact Nat.le_of_ble_eq_true rfl) ?_
  unfold s_Model_isList at hr
  exact l_Model_isList_go geo _ _ hr
