/-! the reference: the tokens of a tape -/
theorem nI_subn {a b : Nat} (h : b ≤ a) : nI a - nI b = nI (a - b) := by
  have e : a = b + (a - b) := by omega
  generalize hA : a - b = c at *
  rw [e, ← nI_add, Int32.add_comm]
  exact Int32.add_sub_cancel _ _
theorem d_Model_isLetter_0 : decode M_Model_isLetter.2.1 0 = .ok (.iload_n 0, 1) := by decide +kernel
theorem d_Model_isLetter_1 : decode M_Model_isLetter.2.1 1 = .ok (.bipush 97, 2) := by decide +kernel
theorem d_Model_isLetter_3 : decode M_Model_isLetter.2.1 3 = .ok (.if_icmp .lt 13, 3) := by decide +kernel
theorem d_Model_isLetter_6 : decode M_Model_isLetter.2.1 6 = .ok (.iload_n 0, 1) := by decide +kernel
theorem d_Model_isLetter_7 : decode M_Model_isLetter.2.1 7 = .ok (.bipush 122, 2) := by decide +kernel
theorem d_Model_isLetter_9 : decode M_Model_isLetter.2.1 9 = .ok (.if_icmp .gt 7, 3) := by decide +kernel
theorem d_Model_isLetter_12 : decode M_Model_isLetter.2.1 12 = .ok (.iconst 1, 1) := by decide +kernel
theorem d_Model_isLetter_13 : decode M_Model_isLetter.2.1 13 = .ok (.goto 4, 3) := by decide +kernel
theorem d_Model_isLetter_16 : decode M_Model_isLetter.2.1 16 = .ok (.iconst 0, 1) := by decide +kernel
theorem d_Model_isLetter_17 : decode M_Model_isLetter.2.1 17 = .ok (.ireturn, 1) := by decide +kernel
def s_Model_isLetter (x1 : Int32) : Int32 := (if x1 < 97 then 0 else (if 122 < x1 then 0 else 1))
set_option maxRecDepth 100000 in
set_option maxHeartbeats 800000 in
theorem c_Model_isLetter {Γ : G9} {h : AH} {z : Nat} {x1 : Int32} : CallR Γ M_Model_isLetter 0 [.int x1] h z (some (.int (s_Model_isLetter x1))) h := by
  refine Call.of_go (L := [some (.int x1)]) (by decide +kernel) rfl (by exact Nat.le_of_ble_eq_true rfl) ?_
  unfold s_Model_isLetter
  refine Go.iload_0 d_Model_isLetter_0 rfl ?_
  refine Go.bipush (v := 97) d_Model_isLetter_1 rfl (by decide) ?_
  refine Go.icmp_lt (t := 16) d_Model_isLetter_3 (by decide) rfl (fun c3_1 => ?_) (fun c3_1 => ?_)
  · refine Go.iconst (v := 0) d_Model_isLetter_16 rfl (by decide) ?_
    rw [if_pos c3_1]
    exact Go.iret d_Model_isLetter_17 rfl rfl ⟨rfl, rfl, rfl⟩
  · refine Go.iload_0 d_Model_isLetter_6 rfl ?_
    refine Go.bipush (v := 122) d_Model_isLetter_7 rfl (by decide) ?_
    refine Go.icmp_gt (t := 16) d_Model_isLetter_9 (by decide) rfl (fun c9_2 => ?_) (fun c9_2 => ?_)
    · refine Go.iconst (v := 0) d_Model_isLetter_16 rfl (by decide) ?_
      rw [if_neg c3_1, if_pos c9_2]
      exact Go.iret d_Model_isLetter_17 rfl rfl ⟨rfl, rfl, rfl⟩
    · refine Go.iconst (v := 1) d_Model_isLetter_12 rfl (by decide) ?_
      refine Go.goto (t := 17) d_Model_isLetter_13 (by decide) ?_
      rw [if_neg c3_1, if_neg c9_2]
      exact Go.iret d_Model_isLetter_17 rfl rfl ⟨rfl, rfl, rfl⟩
set_option maxRecDepth 100000 in
set_option maxHeartbeats 800000 in
theorem s_Model_isLetter_01 (x1 : Int32) : (s_Model_isLetter x1) = 0 ∨ (s_Model_isLetter x1) = 1 := by
  unfold s_Model_isLetter
  (repeat' split) <;> first | exact Or.inl rfl | exact Or.inr rfl
theorem d_Model_isDigit_0 : decode M_Model_isDigit.2.1 0 = .ok (.iload_n 0, 1) := by decide +kernel
theorem d_Model_isDigit_1 : decode M_Model_isDigit.2.1 1 = .ok (.bipush 48, 2) := by decide +kernel
theorem d_Model_isDigit_3 : decode M_Model_isDigit.2.1 3 = .ok (.if_icmp .lt 13, 3) := by decide +kernel
theorem d_Model_isDigit_6 : decode M_Model_isDigit.2.1 6 = .ok (.iload_n 0, 1) := by decide +kernel
theorem d_Model_isDigit_7 : decode M_Model_isDigit.2.1 7 = .ok (.bipush 57, 2) := by decide +kernel
theorem d_Model_isDigit_9 : decode M_Model_isDigit.2.1 9 = .ok (.if_icmp .gt 7, 3) := by decide +kernel
theorem d_Model_isDigit_12 : decode M_Model_isDigit.2.1 12 = .ok (.iconst 1, 1) := by decide +kernel
theorem d_Model_isDigit_13 : decode M_Model_isDigit.2.1 13 = .ok (.goto 4, 3) := by decide +kernel
theorem d_Model_isDigit_16 : decode M_Model_isDigit.2.1 16 = .ok (.iconst 0, 1) := by decide +kernel
theorem d_Model_isDigit_17 : decode M_Model_isDigit.2.1 17 = .ok (.ireturn, 1) := by decide +kernel
def s_Model_isDigit (x1 : Int32) : Int32 := (if x1 < 48 then 0 else (if 57 < x1 then 0 else 1))
set_option maxRecDepth 100000 in
set_option maxHeartbeats 800000 in
theorem c_Model_isDigit {Γ : G9} {h : AH} {z : Nat} {x1 : Int32} : CallR Γ M_Model_isDigit 0 [.int x1] h z (some (.int (s_Model_isDigit x1))) h := by
  refine Call.of_go (L := [some (.int x1)]) (by decide +kernel) rfl (by exact Nat.le_of_ble_eq_true rfl) ?_
  unfold s_Model_isDigit
  refine Go.iload_0 d_Model_isDigit_0 rfl ?_
  refine Go.bipush (v := 48) d_Model_isDigit_1 rfl (by decide) ?_
  refine Go.icmp_lt (t := 16) d_Model_isDigit_3 (by decide) rfl (fun c3_1 => ?_) (fun c3_1 => ?_)
  · refine Go.iconst (v := 0) d_Model_isDigit_16 rfl (by decide) ?_
    rw [if_pos c3_1]
    exact Go.iret d_Model_isDigit_17 rfl rfl ⟨rfl, rfl, rfl⟩
  · refine Go.iload_0 d_Model_isDigit_6 rfl ?_
    refine Go.bipush (v := 57) d_Model_isDigit_7 rfl (by decide) ?_
    refine Go.icmp_gt (t := 16) d_Model_isDigit_9 (by decide) rfl (fun c9_2 => ?_) (fun c9_2 => ?_)
    · refine Go.iconst (v := 0) d_Model_isDigit_16 rfl (by decide) ?_
      rw [if_neg c3_1, if_pos c9_2]
      exact Go.iret d_Model_isDigit_17 rfl rfl ⟨rfl, rfl, rfl⟩
    · refine Go.iconst (v := 1) d_Model_isDigit_12 rfl (by decide) ?_
      refine Go.goto (t := 17) d_Model_isDigit_13 (by decide) ?_
      rw [if_neg c3_1, if_neg c9_2]
      exact Go.iret d_Model_isDigit_17 rfl rfl ⟨rfl, rfl, rfl⟩
set_option maxRecDepth 100000 in
set_option maxHeartbeats 800000 in
theorem s_Model_isDigit_01 (x1 : Int32) : (s_Model_isDigit x1) = 0 ∨ (s_Model_isDigit x1) = 1 := by
  unfold s_Model_isDigit
  (repeat' split) <;> first | exact Or.inl rfl | exact Or.inr rfl
theorem mk_at_m_1 {Γ : G9} {h : AH} {m q qs sa sb ro : Nat} {M : MO} {H : SH} (geo : m + 2 ≤ q) : (mk_ Γ h m q qs sa sb ro M H) (m + 1) = some (aI Γ 2000 (mo_ta M)) := by
  unfold mk_
  exact ((blk_out (by omega)).trans (mo_g1))
theorem d_Model_byteAt_0 : decode M_Model_byteAt.2.1 0 = .ok (.iload_n 1, 1) := by decide +kernel
theorem d_Model_byteAt_1 : decode M_Model_byteAt.2.1 1 = .ok (.aload_n 0, 1) := by decide +kernel
theorem d_Model_byteAt_2 : decode M_Model_byteAt.2.1 2 = .ok (.getfield 47, 3) := by decide +kernel
theorem d_Model_byteAt_5 : decode M_Model_byteAt.2.1 5 = .ok (.if_icmp .ge 12, 3) := by decide +kernel
theorem d_Model_byteAt_8 : decode M_Model_byteAt.2.1 8 = .ok (.aload_n 0, 1) := by decide +kernel
theorem d_Model_byteAt_9 : decode M_Model_byteAt.2.1 9 = .ok (.getfield 9, 3) := by decide +kernel
theorem d_Model_byteAt_12 : decode M_Model_byteAt.2.1 12 = .ok (.iload_n 1, 1) := by decide +kernel
theorem d_Model_byteAt_13 : decode M_Model_byteAt.2.1 13 = .ok (.iaload, 1) := by decide +kernel
theorem d_Model_byteAt_14 : decode M_Model_byteAt.2.1 14 = .ok (.goto 4, 3) := by decide +kernel
theorem d_Model_byteAt_17 : decode M_Model_byteAt.2.1 17 = .ok (.iconst (-1), 1) := by decide +kernel
theorem d_Model_byteAt_18 : decode M_Model_byteAt.2.1 18 = .ok (.ireturn, 1) := by decide +kernel
def s_Model_byteAt (M : MO) (H : SH) (x1 : Nat) : Int32 := (if (nI (mo_sz M)) ≤ (nI x1) then (-1) else ((mo_ta M) x1))
set_option maxRecDepth 100000 in
set_option maxHeartbeats 800000 in
theorem c_Model_byteAt {Γ : G9} {h : AH} {m q qs sa sb ro z : Nat} {M : MO} {H : SH} {x1 : Nat} {vx1 : Int32} (ex1 : vx1 = nI x1) (bx1 : x1 ≤ 5000) (geo : m + 2 ≤ q) (hsz : mo_sz M ≤ 2000) : CallR Γ M_Model_byteAt 0 [.ref m, .int vx1] (mk_ Γ h m q qs sa sb ro M H) z (some (.int (s_Model_byteAt M H x1))) (mk_ Γ h m q qs sa sb ro M H) := by
  subst ex1
  refine Call.of_go (L := [some (.ref m), some (.int (nI x1))]) (by decide +kernel) rfl (by exact Nat.le_of_ble_eq_true rfl) ?_
  unfold s_Model_byteAt
  refine Go.iload_1 d_Model_byteAt_0 rfl ?_
  refine Go.aload_0 d_Model_byteAt_1 rfl ?_
  refine Go.getfield d_Model_byteAt_2 rfl f_Model_47 (mk_at_m (by omega)) (by rfl) ?_
  refine Go.icmp_ge (t := 17) d_Model_byteAt_5 (by decide) rfl (fun c5_1 => ?_) (fun c5_1 => ?_)
  · refine Go.iconst (v := (-1)) d_Model_byteAt_17 rfl (by decide) ?_
    rw [if_pos c5_1]
    exact Go.iret d_Model_byteAt_18 rfl rfl ⟨rfl, rfl, rfl⟩
  · refine Go.aload_0 d_Model_byteAt_8 rfl ?_
    refine Go.getfield d_Model_byteAt_9 rfl f_Model_9 (mk_at_m (by omega)) (by rfl) ?_
    refine Go.iload_1 d_Model_byteAt_12 rfl ?_
    refine Go.iaload d_Model_byteAt_13 rfl (mk_at_m_1 (by omega)) (vp_in_nI (Nat.lt_of_lt_of_le (nI_gt_of (by assumption) (by omega)) hsz) (by decide)) ?_
    rw [nI_clamp (show x1 < 2 ^ 31 by omega)]
    refine Go.goto (t := 18) d_Model_byteAt_14 (by decide) ?_
    rw [if_neg c5_1]
    exact Go.iret d_Model_byteAt_18 rfl rfl ⟨rfl, rfl, rfl⟩
theorem mk_c_Model_isDigit_ {Γ : G9} {h : AH} {m q qs sa sb ro z : Nat} {M : MO} {H : SH} {x1 : Int32} (geo : m + 2 ≤ q) : CallR Γ M_Model_isDigit 0 [.int x1] (mk_ Γ h m q qs sa sb ro M H) z (some (.int (s_Model_isDigit x1))) (mk_ Γ h m q qs sa sb ro M H) := by
  unfold mk_
  exact CallR.conv rfl rfl (c_Model_isDigit)
theorem mk_c_Model_isLetter_ {Γ : G9} {h : AH} {m q qs sa sb ro z : Nat} {M : MO} {H : SH} {x1 : Int32} (geo : m + 2 ≤ q) : CallR Γ M_Model_isLetter 0 [.int x1] (mk_ Γ h m q qs sa sb ro M H) z (some (.int (s_Model_isLetter x1))) (mk_ Γ h m q qs sa sb ro M H) := by
  unfold mk_
  exact CallR.conv rfl rfl (c_Model_isLetter)
theorem d_Model_lengthAt_24 : decode M_Model_lengthAt.2.1 24 = .ok (.aload_n 0, 1) := by decide +kernel
theorem d_Model_lengthAt_25 : decode M_Model_lengthAt.2.1 25 = .ok (.iload_n 3, 1) := by decide +kernel
theorem d_Model_lengthAt_26 : decode M_Model_lengthAt.2.1 26 = .ok (.invokevirtual 50, 3) := by decide +kernel
theorem d_Model_lengthAt_29 : decode M_Model_lengthAt.2.1 29 = .ok (.invokestatic 58, 3) := by decide +kernel
theorem d_Model_lengthAt_32 : decode M_Model_lengthAt.2.1 32 = .ok (.ifCond .ne 21, 3) := by decide +kernel
theorem d_Model_lengthAt_35 : decode M_Model_lengthAt.2.1 35 = .ok (.iload_n 2, 1) := by decide +kernel
theorem d_Model_lengthAt_36 : decode M_Model_lengthAt.2.1 36 = .ok (.invokestatic 54, 3) := by decide +kernel
theorem d_Model_lengthAt_39 : decode M_Model_lengthAt.2.1 39 = .ok (.ifCond .eq 45, 3) := by decide +kernel
theorem d_Model_lengthAt_42 : decode M_Model_lengthAt.2.1 42 = .ok (.aload_n 0, 1) := by decide +kernel
theorem d_Model_lengthAt_43 : decode M_Model_lengthAt.2.1 43 = .ok (.iload_n 3, 1) := by decide +kernel
theorem d_Model_lengthAt_44 : decode M_Model_lengthAt.2.1 44 = .ok (.invokevirtual 50, 3) := by decide +kernel
theorem d_Model_lengthAt_47 : decode M_Model_lengthAt.2.1 47 = .ok (.invokestatic 54, 3) := by decide +kernel
theorem d_Model_lengthAt_50 : decode M_Model_lengthAt.2.1 50 = .ok (.ifCond .eq 34, 3) := by decide +kernel
theorem d_Model_lengthAt_53 : decode M_Model_lengthAt.2.1 53 = .ok (.iinc 3 1, 3) := by decide +kernel
theorem d_Model_lengthAt_56 : decode M_Model_lengthAt.2.1 56 = .ok (.goto (-32), 3) := by decide +kernel
theorem d_Model_lengthAt_84 : decode M_Model_lengthAt.2.1 84 = .ok (.iload_n 3, 1) := by decide +kernel
theorem d_Model_lengthAt_85 : decode M_Model_lengthAt.2.1 85 = .ok (.iload_n 1, 1) := by decide +kernel
theorem d_Model_lengthAt_86 : decode M_Model_lengthAt.2.1 86 = .ok (.isub, 1) := by decide +kernel
theorem d_Model_lengthAt_87 : decode M_Model_lengthAt.2.1 87 = .ok (.ireturn, 1) := by decide +kernel
def l_Model_lengthAt_24 (M : MO) (H : SH) (x1 : Nat) (b : Int32) : Nat → Nat → Option (Nat)
  | 0, _ => none
  | k + 1, en => (if en ≤ 5000 then (if (s_Model_isDigit (s_Model_byteAt M H en)) = 0 then (if (s_Model_isLetter b) = 0 then (if x1 ≤ en then some ((en - x1)) else none) else (if (s_Model_isLetter (s_Model_byteAt M H en)) = 0 then (if x1 ≤ en then some ((en - x1)) else none) else (l_Model_lengthAt_24 M H x1 b k (en + 1)))) else (l_Model_lengthAt_24 M H x1 b k (en + 1))) else none)
set_option maxRecDepth 100000 in
set_option maxHeartbeats 4000000 in
theorem l_Model_lengthAt_24_go {Γ : G9} {h : AH} {m q qs sa sb ro z : Nat} {M : MO} {H : SH} {x1 : Nat} {b : Int32} {p : Nat} (bx1 : x1 ≤ 2500) (geo : m + 2 ≤ q) (hsz : mo_sz M ≤ 2000) : ∀ (k : Nat) (en : Nat), l_Model_lengthAt_24 M H x1 b k en = some p → Go Γ M_Model_lengthAt 1 0 0 24 [some (.ref m), some (.int (nI x1)), some (.int b), some (.int (nI en))] [] (mk_ Γ h m q qs sa sb ro M H) z (RQ (some (.int (nI p))) (mk_ Γ h m q qs sa sb ro M H) z) noX := by
  intro k
  induction k with
  | zero =>
    intro en hr
    cases hr
  | succ k ih =>
    intro en hr
    unfold l_Model_lengthAt_24 at hr
    refine Go.aload_0 d_Model_lengthAt_24 rfl ?_
    refine Go.iload_3 d_Model_lengthAt_25 rfl ?_
    have o26_1 : en ≤ 5000 := Classical.byContradiction fun w => by
      rw [if_neg w] at hr
      cases hr
    refine Go.cv1r d_Model_lengthAt_26 rfl l_Model_50 k_Model_byteAt_v (mk_at_m (by omega)) rfl (c_Model_byteAt (x1 := en) rfl (by omega) (by omega) hsz) (Nat.ble_eq_true_of_le (by omega)) rfl rfl ?_
    refine Go.cs1r d_Model_lengthAt_29 rfl l_Model_58 k_Model_isDigit_s rfl (mk_c_Model_isDigit_ (by omega)) (Nat.ble_eq_true_of_le (by omega)) rfl rfl ?_
    refine Go.if_ne (t := 53) d_Model_lengthAt_32 (by decide) rfl (fun c32_2 => ?_) (fun c32_2 => ?_)
    · refine Go.iinc_3 d_Model_lengthAt_53 rfl (by rfl) (nI_inc _) ?_
      refine Go.goto (t := 24) d_Model_lengthAt_56 (by decide) ?_
      rw [if_pos o26_1, if_neg c32_2] at hr
      exact ih _ hr
    · refine Go.iload_2 d_Model_lengthAt_35 rfl ?_
      refine Go.cs1r d_Model_lengthAt_36 rfl l_Model_54 k_Model_isLetter_s rfl (mk_c_Model_isLetter_ (by omega)) (Nat.ble_eq_true_of_le (by omega)) rfl rfl ?_
      refine Go.if_eq (t := 84) d_Model_lengthAt_39 (by decide) rfl (fun c39_3 => ?_) (fun c39_3 => ?_)
      · refine Go.iload_3 d_Model_lengthAt_84 rfl ?_
        refine Go.iload_1 d_Model_lengthAt_85 rfl ?_
        refine Go.isub d_Model_lengthAt_86 rfl ?_
        have o86_4 : x1 ≤ en := Classical.byContradiction fun w => by
          rw [if_pos o26_1, if_pos c32_2, if_pos c39_3, if_neg w] at hr
          cases hr
        rw [nI_subn o86_4]
        rw [if_pos o26_1, if_pos c32_2, if_pos c39_3, if_pos o86_4] at hr
        cases hr
        exact Go.iret d_Model_lengthAt_87 rfl rfl ⟨rfl, rfl, rfl⟩
      · refine Go.aload_0 d_Model_lengthAt_42 rfl ?_
        refine Go.iload_3 d_Model_lengthAt_43 rfl ?_
        refine Go.cv1r d_Model_lengthAt_44 rfl l_Model_50 k_Model_byteAt_v (mk_at_m (by omega)) rfl (c_Model_byteAt (x1 := en) rfl (by omega) (by omega) hsz) (Nat.ble_eq_true_of_le (by omega)) rfl rfl ?_
        refine Go.cs1r d_Model_lengthAt_47 rfl l_Model_54 k_Model_isLetter_s rfl (mk_c_Model_isLetter_ (by omega)) (Nat.ble_eq_true_of_le (by omega)) rfl rfl ?_
        refine Go.if_eq (t := 84) d_Model_lengthAt_50 (by decide) rfl (fun c50_5 => ?_) (fun c50_5 => ?_)
        · refine Go.iload_3 d_Model_lengthAt_84 rfl ?_
          refine Go.iload_1 d_Model_lengthAt_85 rfl ?_
          refine Go.isub d_Model_lengthAt_86 rfl ?_
          have o86_6 : x1 ≤ en := Classical.byContradiction fun w => by
            rw [if_pos o26_1, if_pos c32_2, if_neg c39_3, if_pos c50_5, if_neg w] at hr
            cases hr
          rw [nI_subn o86_6]
          rw [if_pos o26_1, if_pos c32_2, if_neg c39_3, if_pos c50_5, if_pos o86_6] at hr
          cases hr
          exact Go.iret d_Model_lengthAt_87 rfl rfl ⟨rfl, rfl, rfl⟩
        · refine Go.iinc_3 d_Model_lengthAt_53 rfl (by rfl) (nI_inc _) ?_
          refine Go.goto (t := 24) d_Model_lengthAt_56 (by decide) ?_
          rw [if_pos o26_1, if_pos c32_2, if_neg c39_3, if_neg c50_5] at hr
          exact ih _ hr
theorem d_Model_lengthAt_0 : decode M_Model_lengthAt.2.1 0 = .ok (.aload_n 0, 1) := by decide +kernel
theorem d_Model_lengthAt_1 : decode M_Model_lengthAt.2.1 1 = .ok (.iload_n 1, 1) := by decide +kernel
theorem d_Model_lengthAt_2 : decode M_Model_lengthAt.2.1 2 = .ok (.invokevirtual 50, 3) := by decide +kernel
theorem d_Model_lengthAt_5 : decode M_Model_lengthAt.2.1 5 = .ok (.istore_n 2, 1) := by decide +kernel
theorem d_Model_lengthAt_6 : decode M_Model_lengthAt.2.1 6 = .ok (.iload_n 1, 1) := by decide +kernel
theorem d_Model_lengthAt_7 : decode M_Model_lengthAt.2.1 7 = .ok (.iconst 1, 1) := by decide +kernel
theorem d_Model_lengthAt_8 : decode M_Model_lengthAt.2.1 8 = .ok (.iadd, 1) := by decide +kernel
theorem d_Model_lengthAt_9 : decode M_Model_lengthAt.2.1 9 = .ok (.istore_n 3, 1) := by decide +kernel
theorem d_Model_lengthAt_10 : decode M_Model_lengthAt.2.1 10 = .ok (.iload_n 2, 1) := by decide +kernel
theorem d_Model_lengthAt_11 : decode M_Model_lengthAt.2.1 11 = .ok (.invokestatic 54, 3) := by decide +kernel
theorem d_Model_lengthAt_14 : decode M_Model_lengthAt.2.1 14 = .ok (.ifCond .ne 10, 3) := by decide +kernel
theorem d_Model_lengthAt_17 : decode M_Model_lengthAt.2.1 17 = .ok (.iload_n 2, 1) := by decide +kernel
theorem d_Model_lengthAt_18 : decode M_Model_lengthAt.2.1 18 = .ok (.invokestatic 58, 3) := by decide +kernel
theorem d_Model_lengthAt_21 : decode M_Model_lengthAt.2.1 21 = .ok (.ifCond .eq 38, 3) := by decide +kernel
theorem d_Model_lengthAt_59 : decode M_Model_lengthAt.2.1 59 = .ok (.iload_n 2, 1) := by decide +kernel
theorem d_Model_lengthAt_60 : decode M_Model_lengthAt.2.1 60 = .ok (.bipush 60, 2) := by decide +kernel
theorem d_Model_lengthAt_62 : decode M_Model_lengthAt.2.1 62 = .ok (.if_icmp .eq 9, 3) := by decide +kernel
theorem d_Model_lengthAt_65 : decode M_Model_lengthAt.2.1 65 = .ok (.iload_n 2, 1) := by decide +kernel
theorem d_Model_lengthAt_66 : decode M_Model_lengthAt.2.1 66 = .ok (.bipush 62, 2) := by decide +kernel
theorem d_Model_lengthAt_68 : decode M_Model_lengthAt.2.1 68 = .ok (.if_icmp .ne 16, 3) := by decide +kernel
theorem d_Model_lengthAt_71 : decode M_Model_lengthAt.2.1 71 = .ok (.aload_n 0, 1) := by decide +kernel
theorem d_Model_lengthAt_72 : decode M_Model_lengthAt.2.1 72 = .ok (.iload_n 3, 1) := by decide +kernel
theorem d_Model_lengthAt_73 : decode M_Model_lengthAt.2.1 73 = .ok (.invokevirtual 50, 3) := by decide +kernel
theorem d_Model_lengthAt_76 : decode M_Model_lengthAt.2.1 76 = .ok (.bipush 61, 2) := by decide +kernel
theorem d_Model_lengthAt_78 : decode M_Model_lengthAt.2.1 78 = .ok (.if_icmp .ne 6, 3) := by decide +kernel
theorem d_Model_lengthAt_81 : decode M_Model_lengthAt.2.1 81 = .ok (.iinc 3 1, 3) := by decide +kernel
def s_Model_lengthAt (M : MO) (H : SH) (x1 : Nat) : Option (Nat) := (if x1 ≤ 5000 then (if (s_Model_isLetter (s_Model_byteAt M H x1)) = 0 then (if (s_Model_isDigit (s_Model_byteAt M H x1)) = 0 then (if (s_Model_byteAt M H x1) = 60 then (if (x1 + 1) ≤ 5000 then (if (s_Model_byteAt M H (x1 + 1)) = 61 then (if x1 ≤ ((x1 + 1) + 1) then some ((((x1 + 1) + 1) - x1)) else none) else (if x1 ≤ (x1 + 1) then some (((x1 + 1) - x1)) else none)) else none) else (if (s_Model_byteAt M H x1) = 62 then (if (x1 + 1) ≤ 5000 then (if (s_Model_byteAt M H (x1 + 1)) = 61 then (if x1 ≤ ((x1 + 1) + 1) then some ((((x1 + 1) + 1) - x1)) else none) else (if x1 ≤ (x1 + 1) then some (((x1 + 1) - x1)) else none)) else none) else (if x1 ≤ (x1 + 1) then some (((x1 + 1) - x1)) else none))) else (l_Model_lengthAt_24 M H x1 (s_Model_byteAt M H x1) 2001 (x1 + 1))) else (l_Model_lengthAt_24 M H x1 (s_Model_byteAt M H x1) 2001 (x1 + 1))) else none)
set_option maxRecDepth 100000 in
set_option maxHeartbeats 4000000 in
theorem c_Model_lengthAt {Γ : G9} {h : AH} {m q qs sa sb ro z : Nat} {M : MO} {H : SH} {x1 : Nat} {p : Nat} (bx1 : x1 ≤ 2500) (geo : m + 2 ≤ q) (hsz : mo_sz M ≤ 2000) (hr : s_Model_lengthAt M H x1 = some p) : CallR Γ M_Model_lengthAt 1 [.ref m, .int (nI x1)] (mk_ Γ h m q qs sa sb ro M H) z (some (.int (nI p))) (mk_ Γ h m q qs sa sb ro M H) := by
  refine Call.of_go (L := [some (.ref m), some (.int (nI x1)), none, none]) (by decide +kernel) rfl (by exact Nat.le_of_ble_eq_true rfl) ?_
  unfold s_Model_lengthAt at hr
  refine Go.aload_0 d_Model_lengthAt_0 rfl ?_
  refine Go.iload_1 d_Model_lengthAt_1 rfl ?_
  have o2_1 : x1 ≤ 5000 := Classical.byContradiction fun w => by
    rw [if_neg w] at hr
    cases hr
  refine Go.cv1r d_Model_lengthAt_2 rfl l_Model_50 k_Model_byteAt_v (mk_at_m (by omega)) rfl (c_Model_byteAt (x1 := x1) rfl (by omega) (by omega) hsz) (Nat.ble_eq_true_of_le (by omega)) rfl rfl ?_
  refine Go.istore_2 d_Model_lengthAt_5 rfl (by rfl) ?_
  refine Go.iload_1 d_Model_lengthAt_6 rfl ?_
  refine Go.iconst (v := 1) d_Model_lengthAt_7 rfl (by decide) ?_
  refine Go.iadd d_Model_lengthAt_8 rfl ?_
  rw [show (nI x1) + 1 = nI (x1 + 1) from nI_add _ _]
  refine Go.istore_3 d_Model_lengthAt_9 rfl (by rfl) ?_
  refine Go.iload_2 d_Model_lengthAt_10 rfl ?_
  refine Go.cs1r d_Model_lengthAt_11 rfl l_Model_54 k_Model_isLetter_s rfl (mk_c_Model_isLetter_ (by omega)) (Nat.ble_eq_true_of_le (by omega)) rfl rfl ?_
  refine Go.if_ne (t := 24) d_Model_lengthAt_14 (by decide) rfl (fun c14_2 => ?_) (fun c14_2 => ?_)
  · rw [if_pos o2_1, if_neg c14_2] at hr
    exact l_Model_lengthAt_24_go bx1 (by omega) hsz _ _ hr
  · refine Go.iload_2 d_Model_lengthAt_17 rfl ?_
    refine Go.cs1r d_Model_lengthAt_18 rfl l_Model_58 k_Model_isDigit_s rfl (mk_c_Model_isDigit_ (by omega)) (Nat.ble_eq_true_of_le (by omega)) rfl rfl ?_
    refine Go.if_eq (t := 59) d_Model_lengthAt_21 (by decide) rfl (fun c21_3 => ?_) (fun c21_3 => ?_)
    · refine Go.iload_2 d_Model_lengthAt_59 rfl ?_
      refine Go.bipush (v := 60) d_Model_lengthAt_60 rfl (by decide) ?_
      refine Go.icmp_eq (t := 71) d_Model_lengthAt_62 (by decide) rfl (fun c62_4 => ?_) (fun c62_4 => ?_)
      · refine Go.aload_0 d_Model_lengthAt_71 rfl ?_
        refine Go.iload_3 d_Model_lengthAt_72 rfl ?_
        have o73_5 : (x1 + 1) ≤ 5000 := Classical.byContradiction fun w => by
          rw [if_pos o2_1, if_pos c14_2, if_pos c21_3, if_pos c62_4, if_neg w] at hr
          cases hr
        refine Go.cv1r d_Model_lengthAt_73 rfl l_Model_50 k_Model_byteAt_v (mk_at_m (by omega)) rfl (c_Model_byteAt (x1 := (x1 + 1)) rfl (by omega) (by omega) hsz) (Nat.ble_eq_true_of_le (by omega)) rfl rfl ?_
        refine Go.bipush (v := 61) d_Model_lengthAt_76 rfl (by decide) ?_
        refine Go.icmp_ne (t := 84) d_Model_lengthAt_78 (by decide) rfl (fun c78_6 => ?_) (fun c78_6 => ?_)
        · refine Go.iload_3 d_Model_lengthAt_84 rfl ?_
          refine Go.iload_1 d_Model_lengthAt_85 rfl ?_
          refine Go.isub d_Model_lengthAt_86 rfl ?_
          have o86_7 : x1 ≤ (x1 + 1) := Classical.byContradiction fun w => by
            rw [if_pos o2_1, if_pos c14_2, if_pos c21_3, if_pos c62_4, if_pos o73_5, if_neg c78_6, if_neg w] at hr
            cases hr
          rw [nI_subn o86_7]
          rw [if_pos o2_1, if_pos c14_2, if_pos c21_3, if_pos c62_4, if_pos o73_5, if_neg c78_6, if_pos o86_7] at hr
          cases hr
          exact Go.iret d_Model_lengthAt_87 rfl rfl ⟨rfl, rfl, rfl⟩
        · refine Go.iinc_3 d_Model_lengthAt_81 rfl (by rfl) (nI_inc _) ?_
          refine Go.iload_3 d_Model_lengthAt_84 rfl ?_
          refine Go.iload_1 d_Model_lengthAt_85 rfl ?_
          refine Go.isub d_Model_lengthAt_86 rfl ?_
          have o86_8 : x1 ≤ ((x1 + 1) + 1) := Classical.byContradiction fun w => by
            rw [if_pos o2_1, if_pos c14_2, if_pos c21_3, if_pos c62_4, if_pos o73_5, if_pos c78_6, if_neg w] at hr
            cases hr
          rw [nI_subn o86_8]
          rw [if_pos o2_1, if_pos c14_2, if_pos c21_3, if_pos c62_4, if_pos o73_5, if_pos c78_6, if_pos o86_8] at hr
          cases hr
          exact Go.iret d_Model_lengthAt_87 rfl rfl ⟨rfl, rfl, rfl⟩
      · refine Go.iload_2 d_Model_lengthAt_65 rfl ?_
        refine Go.bipush (v := 62) d_Model_lengthAt_66 rfl (by decide) ?_
        refine Go.icmp_ne (t := 84) d_Model_lengthAt_68 (by decide) rfl (fun c68_9 => ?_) (fun c68_9 => ?_)
        · refine Go.iload_3 d_Model_lengthAt_84 rfl ?_
          refine Go.iload_1 d_Model_lengthAt_85 rfl ?_
          refine Go.isub d_Model_lengthAt_86 rfl ?_
          have o86_10 : x1 ≤ (x1 + 1) := Classical.byContradiction fun w => by
            rw [if_pos o2_1, if_pos c14_2, if_pos c21_3, if_neg c62_4, if_neg c68_9, if_neg w] at hr
            cases hr
          rw [nI_subn o86_10]
          rw [if_pos o2_1, if_pos c14_2, if_pos c21_3, if_neg c62_4, if_neg c68_9, if_pos o86_10] at hr
          cases hr
          exact Go.iret d_Model_lengthAt_87 rfl rfl ⟨rfl, rfl, rfl⟩
        · refine Go.aload_0 d_Model_lengthAt_71 rfl ?_
          refine Go.iload_3 d_Model_lengthAt_72 rfl ?_
          have o73_11 : (x1 + 1) ≤ 5000 := Classical.byContradiction fun w => by
            rw [if_pos o2_1, if_pos c14_2, if_pos c21_3, if_neg c62_4, if_pos c68_9, if_neg w] at hr
            cases hr
          refine Go.cv1r d_Model_lengthAt_73 rfl l_Model_50 k_Model_byteAt_v (mk_at_m (by omega)) rfl (c_Model_byteAt (x1 := (x1 + 1)) rfl (by omega) (by omega) hsz) (Nat.ble_eq_true_of_le (by omega)) rfl rfl ?_
          refine Go.bipush (v := 61) d_Model_lengthAt_76 rfl (by decide) ?_
          refine Go.icmp_ne (t := 84) d_Model_lengthAt_78 (by decide) rfl (fun c78_12 => ?_) (fun c78_12 => ?_)
          · refine Go.iload_3 d_Model_lengthAt_84 rfl ?_
            refine Go.iload_1 d_Model_lengthAt_85 rfl ?_
            refine Go.isub d_Model_lengthAt_86 rfl ?_
            have o86_13 : x1 ≤ (x1 + 1) := Classical.byContradiction fun w => by
              rw [if_pos o2_1, if_pos c14_2, if_pos c21_3, if_neg c62_4, if_pos c68_9, if_pos o73_11, if_neg c78_12, if_neg w] at hr
              cases hr
            rw [nI_subn o86_13]
            rw [if_pos o2_1, if_pos c14_2, if_pos c21_3, if_neg c62_4, if_pos c68_9, if_pos o73_11, if_neg c78_12, if_pos o86_13] at hr
            cases hr
            exact Go.iret d_Model_lengthAt_87 rfl rfl ⟨rfl, rfl, rfl⟩
          · refine Go.iinc_3 d_Model_lengthAt_81 rfl (by rfl) (nI_inc _) ?_
            refine Go.iload_3 d_Model_lengthAt_84 rfl ?_
            refine Go.iload_1 d_Model_lengthAt_85 rfl ?_
            refine Go.isub d_Model_lengthAt_86 rfl ?_
            have o86_14 : x1 ≤ ((x1 + 1) + 1) := Classical.byContradiction fun w => by
              rw [if_pos o2_1, if_pos c14_2, if_pos c21_3, if_neg c62_4, if_pos c68_9, if_pos o73_11, if_pos c78_12, if_neg w] at hr
              cases hr
            rw [nI_subn o86_14]
            rw [if_pos o2_1, if_pos c14_2, if_pos c21_3, if_neg c62_4, if_pos c68_9, if_pos o73_11, if_pos c78_12, if_pos o86_14] at hr
            cases hr
            exact Go.iret d_Model_lengthAt_87 rfl rfl ⟨rfl, rfl, rfl⟩
    · rw [if_pos o2_1, if_pos c14_2, if_neg c21_3] at hr
      exact l_Model_lengthAt_24_go bx1 (by omega) hsz _ _ hr
