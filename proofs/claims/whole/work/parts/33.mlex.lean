/-! the reference: the tokens of a tape -/
theorem nI_subn {a b : Nat} (h : b ≤ a) : nI a - nI b = nI (a - b) := by
  have e : a = b + (a - b) := by omega
  generalize hA : a - b = c at *
  rw [e, ← nI_add, Int32.add_comm]
  exact Int32.add_sub_cancel _ _
theorem d_Model_isLetter_0 : decode M_Model_isLetter.2.1 0 = .ok (.iload_n 0, 1) := by decide +kernel
theorem d_Model_isLetter_1 : decode M_Model_isLetter.2.1 1 = .ok (.bipush 97, 2) := by decide +kernel
theorem d_Model_isLetter_3 : decode M_Model_isLetter.2.1 3 = .ok (.if_icmp .lt 13, 3) := by decide +kernel
theorem d_Model_isLetter_6 : decode M_Model_isLetter.2.1 6 = .ok (.iload_n 0, 1) := by decide +kernel
theorem d_Model_isLetter_7 : decode M_Model_isLetter.2.1 7 = .ok (.bipush 122, 2) := by decide +kernel
theorem d_Model_isLetter_9 : decode M_Model_isLetter.2.1 9 = .ok (.if_icmp .gt 7, 3) := by decide +kernel
theorem d_Model_isLetter_12 : decode M_Model_isLetter.2.1 12 = .ok (.iconst 1, 1) := by decide +kernel
theorem d_Model_isLetter_13 : decode M_Model_isLetter.2.1 13 = .ok (.goto 4, 3) := by decide +kernel
theorem d_Model_isLetter_16 : decode M_Model_isLetter.2.1 16 = .ok (.iconst 0, 1) := by decide +kernel
theorem d_Model_isLetter_17 : decode M_Model_isLetter.2.1 17 = .ok (.ireturn, 1) := by decide +kernel
def s_Model_isLetter (x1 : Int32) : Int32 := (if x1 < 97 then 0 else (if 122 < x1 then 0 else 1))
set_option maxRecDepth 100000 in
set_option maxHeartbeats 800000 in
theorem c_Model_isLetter {Γ : G9} {h : AH} {z : Nat} {x1 : Int32} : CallR Γ M_Model_isLetter 0 [.int x1] h z (some (.int (s_Model_isLetter x1))) h := by
  refine Call.of_go (L := [some (.int x1)]) (by decide +kernel) rfl (by exact Nat.le_of_ble_eq_true rfl) ?_
  unfold s_Model_isLetter
  refine Go.iload_0 d_Model_isLetter_0 rfl ?_
  refine Go.bipush (v := 97) d_Model_isLetter_1 rfl (by decide) ?_
  refine Go.icmp_lt (t := 16) d_Model_isLetter_3 (by decide) rfl (fun c3_1 => ?_) (fun c3_1 => ?_)
  · refine Go.iconst (v := 0) d_Model_isLetter_16 rfl (by decide) ?_
    rw [if_pos c3_1]
    exact Go.iret d_Model_isLetter_17 rfl rfl ⟨rfl, rfl, rfl⟩
  · refine Go.iload_0 d_Model_isLetter_6 rfl ?_
    refine Go.bipush (v := 122) d_Model_isLetter_7 rfl (by decide) ?_
    refine Go.icmp_gt (t := 16) d_Model_isLetter_9 (by decide) rfl (fun c9_2 => ?_) (fun c9_2 => ?_)
    · refine Go.iconst (v := 0) d_Model_isLetter_16 rfl (by decide) ?_
      rw [if_neg c3_1, if_pos c9_2]
      exact Go.iret d_Model_isLetter_17 rfl rfl ⟨rfl, rfl, rfl⟩
    · refine Go.iconst (v := 1) d_Model_isLetter_12 rfl (by decide) ?_
      refine Go.goto (t := 17) d_Model_isLetter_13 (by decide) ?_
      rw [if_neg c3_1, if_neg c9_2]
      exact Go.iret d_Model_isLetter_17 rfl rfl ⟨rfl, rfl, rfl⟩
set_option maxRecDepth 100000 in
set_option maxHeartbeats 800000 in
theorem s_Model_isLetter_01 (x1 : Int32) : (s_Model_isLetter x1) = 0 ∨ (s_Model_isLetter x1) = 1 := by
  unfold s_Model_isLetter
  (repeat' split) <;> first | exact Or.inl rfl | exact Or.inr rfl
theorem d_Model_isDigit_0 : decode M_Model_isDigit.2.1 0 = .ok (.iload_n 0, 1) := by decide +kernel
theorem d_Model_isDigit_1 : decode M_Model_isDigit.2.1 1 = .ok (.bipush 48, 2) := by decide +kernel
theorem d_Model_isDigit_3 : decode M_Model_isDigit.2.1 3 = .ok (.if_icmp .lt 13, 3) := by decide +kernel
theorem d_Model_isDigit_6 : decode M_Model_isDigit.2.1 6 = .ok (.iload_n 0, 1) := by decide +kernel
theorem d_Model_isDigit_7 : decode M_Model_isDigit.2.1 7 = .ok (.bipush 57, 2) := by decide +kernel
theorem d_Model_isDigit_9 : decode M_Model_isDigit.2.1 9 = .ok (.if_icmp .gt 7, 3) := by decide +kernel
theorem d_Model_isDigit_12 : decode M_Model_isDigit.2.1 12 = .ok (.iconst 1, 1) := by decide +kernel
theorem d_Model_isDigit_13 : decode M_Model_isDigit.2.1 13 = .ok (.goto 4, 3) := by decide +kernel
theorem d_Model_isDigit_16 : decode M_Model_isDigit.2.1 16 = .ok (.iconst 0, 1) := by decide +kernel
theorem d_Model_isDigit_17 : decode M_Model_isDigit.2.1 17 = .ok (.ireturn, 1) := by decide +kernel
def s_Model_isDigit (x1 : Int32) : Int32 := (if x1 < 48 then 0 else (if 57 < x1 then 0 else 1))
set_option maxRecDepth 100000 in
set_option maxHeartbeats 800000 in
theorem c_Model_isDigit {Γ : G9} {h : AH} {z : Nat} {x1 : Int32} : CallR Γ M_Model_isDigit 0 [.int x1] h z (some (.int (s_Model_isDigit x1))) h := by
  refine Call.of_go (L := [some (.int x1)]) (by decide +kernel) rfl (by exact Nat.le_of_ble_eq_true rfl) ?_
  unfold s_Model_isDigit
  refine Go.iload_0 d_Model_isDigit_0 rfl ?_
  refine Go.bipush (v := 48) d_Model_isDigit_1 rfl (by decide) ?_
  refine Go.icmp_lt (t := 16) d_Model_isDigit_3 (by decide) rfl (fun c3_1 => ?_) (fun c3_1 => ?_)
  · refine Go.iconst (v := 0) d_Model_isDigit_16 rfl (by decide) ?_
    rw [if_pos c3_1]
    exact Go.iret d_Model_isDigit_17 rfl rfl ⟨rfl, rfl, rfl⟩
  · refine Go.iload_0 d_Model_isDigit_6 rfl ?_
    refine Go.bipush (v := 57) d_Model_isDigit_7 rfl (by decide) ?_
    refine Go.icmp_gt (t := 16) d_Model_isDigit_9 (by decide) rfl (fun c9_2 => ?_) (fun c9_2 => ?_)
    · refine Go.iconst (v := 0) d_Model_isDigit_16 rfl (by decide) ?_
      rw [if_neg c3_1, if_pos c9_2]
      exact Go.iret d_Model_isDigit_17 rfl rfl ⟨rfl, rfl, rfl⟩
    · refine Go.iconst (v := 1) d_Model_isDigit_12 rfl (by decide) ?_
      refine Go.goto (t := 17) d_Model_isDigit_13 (by decide) ?_
      rw [if_neg c3_1, if_neg c9_2]
      exact Go.iret d_Model_isDigit_17 rfl rfl ⟨rfl, rfl, rfl⟩
set_option maxRecDepth 100000 in
set_option maxHeartbeats 800000 in
theorem s_Model_isDigit_01 (x1 : Int32) : (s_Model_isDigit x1) = 0 ∨ (s_Model_isDigit x1) = 1 := by
  unfold s_Model_isDigit
  (repeat' split) <;> first | exact Or.inl rfl | exact Or.inr rfl
theorem mk_at_m_1 {Γ : G9} {h : AH} {m q qs sa sb ro : Nat} {M : MO} {H : SH} (geo : m + 2 ≤ q) : (mk_ Γ h m q qs sa sb ro M H) (m + 1) = some (aI Γ 2000 (mo_ta M)) := by
  unfold mk_
  exact ((blk_out (by omega)).trans (mo_g1))
theorem d_Model_byteAt_0 : decode M_Model_byteAt.2.1 0 = .ok (.iload_n 1, 1) := by decide +kernel
theorem d_Model_byteAt_1 : decode M_Model_byteAt.2.1 1 = .ok (.aload_n 0, 1) := by decide +kernel
theorem d_Model_byteAt_2 : decode M_Model_byteAt.2.1 2 = .ok (.getfield 47, 3) := by decide +kernel
theorem d_Model_byteAt_5 : decode M_Model_byteAt.2.1 5 = .ok (.if_icmp .ge 12, 3) := by decide +kernel
theorem d_Model_byteAt_8 : decode M_Model_byteAt.2.1 8 = .ok (.aload_n 0, 1) := by decide +kernel
theorem d_Model_byteAt_9 : decode M_Model_byteAt.2.1 9 = .ok (.getfield 9, 3) := by decide +kernel
theorem d_Model_byteAt_12 : decode M_Model_byteAt.2.1 12 = .ok (.iload_n 1, 1) := by decide +kernel
theorem d_Model_byteAt_13 : decode M_Model_byteAt.2.1 13 = .ok (.iaload, 1) := by decide +kernel
theorem d_Model_byteAt_14 : decode M_Model_byteAt.2.1 14 = .ok (.goto 4, 3) := by decide +kernel
theorem d_Model_byteAt_17 : decode M_Model_byteAt.2.1 17 = .ok (.iconst (-1), 1) := by decide +kernel
theorem d_Model_byteAt_18 : decode M_Model_byteAt.2.1 18 = .ok (.ireturn, 1) := by decide +kernel
def s_Model_byteAt (M : MO) (H : SH) (x1 : Nat) : Int32 := (if (nI (mo_sz M)) ≤ (nI x1) then (-1) else ((mo_ta M) x1))
set_option maxRecDepth 100000 in
set_option maxHeartbeats 800000 in
theorem c_Model_byteAt {Γ : G9} {h : AH} {m q qs sa sb ro z : Nat} {M : MO} {H : SH} {x1 : Nat} {vx1 : Int32} (ex1 : vx1 = nI x1) (bx1 : x1 ≤ 5000) (geo : m + 2 ≤ q) (hsz : mo_sz M ≤ 2000) : CallR Γ M_Model_byteAt 0 [.ref m, .int vx1] (mk_ Γ h m q qs sa sb ro M H) z (some (.int (s_Model_byteAt M H x1))) (mk_ Γ h m q qs sa sb ro M H) := by
  subst ex1
  refine Call.of_go (L := [some (.ref m), some (.int (nI x1))]) (by decide +kernel) rfl (by exact Nat.le_of_ble_eq_true rfl) ?_
  unfold s_Model_byteAt
  refine Go.iload_1 d_Model_byteAt_0 rfl ?_
  refine Go.aload_0 d_Model_byteAt_1 rfl ?_
  refine Go.getfield d_Model_byteAt_2 rfl f_Model_47 (mk_at_m (by omega)) (by rfl) ?_
  refine Go.icmp_ge (t := 17) d_Model_byteAt_5 (by decide) rfl (fun c5_1 => ?_) (fun c5_1 => ?_)
  · refine Go.iconst (v := (-1)) d_Model_byteAt_17 rfl (by decide) ?_
    rw [if_pos c5_1]
    exact Go.iret d_Model_byteAt_18 rfl rfl ⟨rfl, rfl, rfl⟩
  · refine Go.aload_0 d_Model_byteAt_8 rfl ?_
    refine Go.getfield d_Model_byteAt_9 rfl f_Model_9 (mk_at_m (by omega)) (by rfl) ?_
    refine Go.iload_1 d_Model_byteAt_12 rfl ?_
    refine Go.iaload d_Model_byteAt_13 rfl (mk_at_m_1 (by omega)) (vp_in_nI (Nat.lt_of_lt_of_le (nI_gt_of (by assumption) (by omega)) hsz) (by decide)) ?_
    rw [nI_clamp (show x1 < 2 ^ 31 by omega)]
    refine Go.goto (t := 18) d_Model_byteAt_14 (by decide) ?_
    rw [if_neg c5_1]
    exact Go.iret d_Model_byteAt_18 rfl rfl ⟨rfl, rfl, rfl⟩
theorem mk_c_Model_isDigit_ {Γ : G9} {h : AH} {m q qs sa sb ro z : Nat} {M : MO} {H : SH} {x1 : Int32} (geo : m + 2 ≤ q) : CallR Γ M_Model_isDigit 0 [.int x1] (mk_ Γ h m q qs sa sb ro M H) z (some (.int (s_Model_isDigit x1))) (mk_ Γ h m q qs sa sb ro M H) := by
  unfold mk_
  exact CallR.conv rfl rfl (c_Model_isDigit)
theorem mk_c_Model_isLetter_ {Γ : G9} {h : AH} {m q qs sa sb ro z : Nat} {M : MO} {H : SH} {x1 : Int32} (geo : m + 2 ≤ q) : CallR Γ M_Model_isLetter 0 [.int x1] (mk_ Γ h m q qs sa sb ro M H) z (some (.int (s_Model_isLetter x1))) (mk_ Γ h m q qs sa sb ro M H) := by
  unfold mk_
  exact CallR.conv rfl rfl (c_Model_isLetter)
theorem d_Model_lengthAt_24 : decode M_Model_lengthAt.2.1 24 = .ok (.aload_n 0, 1) := by decide +kernel
theorem d_Model_lengthAt_25 : decode M_Model_lengthAt.2.1 25 = .ok (.iload_n 3, 1) := by decide +kernel
theorem d_Model_lengthAt_26 : decode M_Model_lengthAt.2.1 26 = .ok (.invokevirtual 50, 3) := by decide +kernel
theorem d_Model_lengthAt_29 : decode M_Model_lengthAt.2.1 29 = .ok (.invokestatic 58, 3) := by decide +kernel
theorem d_Model_lengthAt_32 : decode M_Model_lengthAt.2.1 32 = .ok (.ifCond .ne 21, 3) := by decide +kernel
theorem d_Model_lengthAt_35 : decode M_Model_lengthAt.2.1 35 = .ok (.iload_n 2, 1) := by decide +kernel
theorem d_Model_lengthAt_36 : decode M_Model_lengthAt.2.1 36 = .ok (.invokestatic 54, 3) := by decide +kernel
theorem d_Model_lengthAt_39 : decode M_Model_lengthAt.2.1 39 = .ok (.ifCond .eq 45, 3) := by decide +kernel
theorem d_Model_lengthAt_42 : decode M_Model_lengthAt.2.1 42 = .ok (.aload_n 0, 1) := by decide +kernel
theorem d_Model_lengthAt_43 : decode M_Model_lengthAt.2.1 43 = .ok (.iload_n 3, 1) := by decide +kernel
theorem d_Model_lengthAt_44 : decode M_Model_lengthAt.2.1 44 = .ok (.invokevirtual 50, 3) := by decide +kernel
theorem d_Model_lengthAt_47 : decode M_Model_lengthAt.2.1 47 = .ok (.invokestatic 54, 3) := by decide +kernel
theorem d_Model_lengthAt_50 : decode M_Model_lengthAt.2.1 50 = .ok (.ifCond .eq 34, 3) := by decide +kernel
theorem d_Model_lengthAt_53 : decode M_Model_lengthAt.2.1 53 = .ok (.iinc 3 1, 3) := by decide +kernel
theorem d_Model_lengthAt_56 : decode M_Model_lengthAt.2.1 56 = .ok (.goto (-32), 3) := by decide +kernel
theorem d_Model_lengthAt_84 : decode M_Model_lengthAt.2.1 84 = .ok (.iload_n 3, 1) := by decide +kernel
theorem d_Model_lengthAt_85 : decode M_Model_lengthAt.2.1 85 = .ok (.iload_n 1, 1) := by decide +kernel
theorem d_Model_lengthAt_86 : decode M_Model_lengthAt.2.1 86 = .ok (.isub, 1) := by decide +kernel
theorem d_Model_lengthAt_87 : decode M_Model_lengthAt.2.1 87 = .ok (.ireturn, 1) := by decide +kernel
def l_Model_lengthAt_24 (M : MO) (H : SH) (x1 : Nat) (b : Int32) : Nat → Nat → Option (Nat)
  | 0, _ => none
  | k + 1, en => (if en ≤ 5000 then (if (s_Model_isDigit (s_Model_byteAt M H en)) = 0 then (if (s_Model_isLetter b) = 0 then (if x1 ≤ en then some ((en - x1)) else none) else (if (s_Model_isLetter (s_Model_byteAt M H en)) = 0 then (if x1 ≤ en then some ((en - x1)) else none) else (l_Model_lengthAt_24 M H x1 b k (en + 1)))) else (l_Model_lengthAt_24 M H x1 b k (en + 1))) else none)
set_option maxRecDepth 100000 in
set_option maxHeartbeats 4000000 in
theorem l_Model_lengthAt_24_go {Γ : G9} {h : AH} {m q qs sa sb ro z : Nat} {M : MO} {H : SH} {x1 : Nat} {b : Int32} {p : Nat} (bx1 : x1 ≤ 2500) (geo : m + 2 ≤ q) (hsz : mo_sz M ≤ 2000) : ∀ (k : Nat) (en : Nat), l_Model_lengthAt_24 M H x1 b k en = some p → Go Γ M_Model_lengthAt 1 0 0 24 [some (.ref m), some (.int (nI x1)), some (.int b), some (.int (nI en))] [] (mk_ Γ h m q qs sa sb ro M H) z (RQ (some (.int (nI p))) (mk_ Γ h m q qs sa sb ro M H) z) noX := by
  intro k
  induction k with
  | zero =>
    intro en hr
    cases hr
  | succ k ih =>
    intro en hr
    unfold l_Model_lengthAt_24 at hr
    refine Go.aload_0 d_Model_lengthAt_24 rfl ?_
    refine Go.iload_3 d_Model_lengthAt_25 rfl ?_
    have o26_1 : en ≤ 5000 := Classical.byContradiction fun w => by
      rw [if_neg w] at hr
      cases hr
    refine Go.cv1r d_Model_lengthAt_26 rfl l_Model_50 k_Model_byteAt_v (mk_at_m (by omega)) rfl (c_Model_byteAt (x1 := en) rfl (by omega) (by omega) hsz) (Nat.ble_eq_true_of_le (by omega)) rfl rfl ?_
    refine Go.cs1r d_Model_lengthAt_29 rfl l_Model_58 k_Model_isDigit_s rfl (mk_c_Model_isDigit_ (by omega)) (Nat.ble_eq_true_of_le (by omega)) rfl rfl ?_
    refine Go.if_ne (t := 53) d_Model_lengthAt_32 (by decide) rfl (fun c32_2 => ?_) (fun c32_2 => ?_)
    · refine Go.iinc_3 d_Model_lengthAt_53 rfl (by rfl) (nI_inc _) ?_
      refine Go.goto (t := 24) d_Model_lengthAt_56 (by decide) ?_
      rw [if_pos o26_1, if_neg c32_2] at hr
      exact ih _ hr
    · refine Go.iload_2 d_Model_lengthAt_35 rfl ?_
      refine Go.cs1r d_Model_lengthAt_36 rfl l_Model_54 k_Model_isLetter_s rfl (mk_c_Model_isLetter_ (by omega)) (Nat.ble_eq_true_of_le (by omega)) rfl rfl ?_
      refine Go.if_eq (t := 84) d_Model_lengthAt_39 (by decide) rfl (fun c39_3 => ?_) (fun c39_3 => ?_)
      · refine Go.iload_3 d_Model_lengthAt_84 rfl ?_
        refine Go.iload_1 d_Model_lengthAt_85 rfl ?_
        refine Go.isub d_Model_lengthAt_86 rfl ?_
        have o86_4 : x1 ≤ en := Classical.byContradiction fun w => by
          rw [if_pos o26_1, if_pos c32_2, if_pos c39_3, if_neg w] at hr
          cases hr
        rw [nI_subn o86_4]
        rw [if_pos o26_1, if_pos c32_2, if_pos c39_3, if_pos o86_4] at hr
        cases hr
        exact Go.iret d_Model_lengthAt_87 rfl rfl ⟨rfl, rfl, rfl⟩
      · refine Go.aload_0 d_Model_lengthAt_42 rfl ?_
        refine Go.iload_3 d_Model_lengthAt_43 rfl ?_
        refine Go.cv1r d_Model_lengthAt_44 rfl l_Model_50 k_Model_byteAt_v (mk_at_m (by omega)) rfl (c_Model_byteAt (x1 := en) rfl (by omega) (by omega) hsz) (Nat.ble_eq_true_of_le (by omega)) rfl rfl ?_
        refine Go.cs1r d_Model_lengthAt_47 rfl l_Model_54 k_Model_isLetter_s rfl (mk_c_Model_isLetter_ (by omega)) (Nat.ble_eq_true_of_le (by omega)) rfl rfl ?_
        refine Go.if_eq (t := 84) d_Model_lengthAt_50 (by decide) rfl (fun c50_5 => ?_) (fun c50_5 => ?_)
        · refine Go.iload_3 d_Model_lengthAt_84 rfl ?_
          refine Go.iload_1 d_Model_lengthAt_85 rfl ?_
          refine Go.isub d_Model_lengthAt_86 rfl ?_
          have o86_6 : x1 ≤ en := Classical.byContradiction fun w => by
            rw [if_pos o26_1, if_pos c32_2, if_neg c39_3, if_pos c50_5, if_neg w] at hr
            cases hr
          rw [nI_subn o86_6]
          rw [if_pos o26_1, if_pos c32_2, if_neg c39_3, if_pos c50_5, if_pos o86_6] at hr
          cases hr
          exact Go.iret d_Model_lengthAt_87 rfl rfl ⟨rfl, rfl, rfl⟩
        · refine Go.iinc_3 d_Model_lengthAt_53 rfl (by rfl) (nI_inc _) ?_
          refine Go.goto (t := 24) d_Model_lengthAt_56 (by decide) ?_
          rw [if_pos o26_1, if_pos c32_2, if_neg c39_3, if_neg c50_5] at hr
          exact ih _ hr
theorem d_Model_lengthAt_0 : decode M_Model_lengthAt.2.1 0 = .ok (.aload_n 0, 1) := by decide +kernel
theorem d_Model_lengthAt_1 : decode M_Model_lengthAt.2.1 1 = .ok (.iload_n 1, 1) := by decide +kernel
theorem d_Model_lengthAt_2 : decode M_Model_lengthAt.2.1 2 = .ok (.invokevirtual 50, 3) := by decide +kernel
theorem d_Model_lengthAt_5 : decode M_Model_lengthAt.2.1 5 = .ok (.istore_n 2, 1) := by decide +kernel
theorem d_Model_lengthAt_6 : decode M_Model_lengthAt.2.1 6 = .ok (.iload_n 1, 1) := by decide +kernel
theorem d_Model_lengthAt_7 : decode M_Model_lengthAt.2.1 7 = .ok (.iconst 1, 1) := by decide +kernel
theorem d_Model_lengthAt_8 : decode M_Model_lengthAt.2.1 8 = .ok (.iadd, 1) := by decide +kernel
theorem d_Model_lengthAt_9 : decode M_Model_lengthAt.2.1 9 = .ok (.istore_n 3, 1) := by decide +kernel
theorem d_Model_lengthAt_10 : decode M_Model_lengthAt.2.1 10 = .ok (.iload_n 2, 1) := by decide +kernel
theorem d_Model_lengthAt_11 : decode M_Model_lengthAt.2.1 11 = .ok (.invokestatic 54, 3) := by decide +kernel
theorem d_Model_lengthAt_14 : decode M_Model_lengthAt.2.1 14 = .ok (.ifCond .ne 10, 3) := by decide +kernel
theorem d_Model_lengthAt_17 : decode M_Model_lengthAt.2.1 17 = .ok (.iload_n 2, 1) := by decide +kernel
theorem d_Model_lengthAt_18 : decode M_Model_lengthAt.2.1 18 = .ok (.invokestatic 58, 3) := by decide +kernel
theorem d_Model_lengthAt_21 : decode M_Model_lengthAt.2.1 21 = .ok (.ifCond .eq 38, 3) := by decide +kernel
theorem d_Model_lengthAt_59 : decode M_Model_lengthAt.2.1 59 = .ok (.iload_n 2, 1) := by decide +kernel
theorem d_Model_lengthAt_60 : decode M_Model_lengthAt.2.1 60 = .ok (.bipush 60, 2) := by decide +kernel
theorem d_Model_lengthAt_62 : decode M_Model_lengthAt.2.1 62 = .ok (.if_icmp .eq 9, 3) := by decide +kernel
theorem d_Model_lengthAt_65 : decode M_Model_lengthAt.2.1 65 = .ok (.iload_n 2, 1) := by decide +kernel
theorem d_Model_lengthAt_66 : decode M_Model_lengthAt.2.1 66 = .ok (.bipush 62, 2) := by decide +kernel
theorem d_Model_lengthAt_68 : decode M_Model_lengthAt.2.1 68 = .ok (.if_icmp .ne 16, 3) := by decide +kernel
theorem d_Model_lengthAt_71 : decode M_Model_lengthAt.2.1 71 = .ok (.aload_n 0, 1) := by decide +kernel
theorem d_Model_lengthAt_72 : decode M_Model_lengthAt.2.1 72 = .ok (.iload_n 3, 1) := by decide +kernel
theorem d_Model_lengthAt_73 : decode M_Model_lengthAt.2.1 73 = .ok (.invokevirtual 50, 3) := by decide +kernel
theorem d_Model_lengthAt_76 : decode M_Model_lengthAt.2.1 76 = .ok (.bipush 61, 2) := by decide +kernel
theorem d_Model_lengthAt_78 : decode M_Model_lengthAt.2.1 78 = .ok (.if_icmp .ne 6, 3) := by decide +kernel
theorem d_Model_lengthAt_81 : decode M_Model_lengthAt.2.1 81 = .ok (.iinc 3 1, 3) := by decide +kernel
def s_Model_lengthAt (M : MO) (H : SH) (x1 : Nat) : Option (Nat) := (if x1 ≤ 5000 then (if (s_Model_isLetter (s_Model_byteAt M H x1)) = 0 then (if (s_Model_isDigit (s_Model_byteAt M H x1)) = 0 then (if (s_Model_byteAt M H x1) = 60 then (if (x1 + 1) ≤ 5000 then (if (s_Model_byteAt M H (x1 + 1)) = 61 then (if x1 ≤ ((x1 + 1) + 1) then some ((((x1 + 1) + 1) - x1)) else none) else (if x1 ≤ (x1 + 1) then some (((x1 + 1) - x1)) else none)) else none) else (if (s_Model_byteAt M H x1) = 62 then (if (x1 + 1) ≤ 5000 then (if (s_Model_byteAt M H (x1 + 1)) = 61 then (if x1 ≤ ((x1 + 1) + 1) then some ((((x1 + 1) + 1) - x1)) else none) else (if x1 ≤ (x1 + 1) then some (((x1 + 1) - x1)) else none)) else none) else (if x1 ≤ (x1 + 1) then some (((x1 + 1) - x1)) else none))) else (l_Model_lengthAt_24 M H x1 (s_Model_byteAt M H x1) 2001 (x1 + 1))) else (l_Model_lengthAt_24 M H x1 (s_Model_byteAt M H x1) 2001 (x1 + 1))) else none)
set_option maxRecDepth 100000 in
set_option maxHeartbeats 4000000 in
theorem c_Model_lengthAt {Γ : G9} {h : AH} {m q qs sa sb ro z : Nat} {M : MO} {H : SH} {x1 : Nat} {p : Nat} (bx1 : x1 ≤ 2500) (geo : m + 2 ≤ q) (hsz : mo_sz M ≤ 2000) (hr : s_Model_lengthAt M H x1 = some p) : CallR Γ M_Model_lengthAt 1 [.ref m, .int (nI x1)] (mk_ Γ h m q qs sa sb ro M H) z (some (.int (nI p))) (mk_ Γ h m q qs sa sb ro M H) := by
  refine Call.of_go (L := [some (.ref m), some (.int (nI x1)), none, none]) (by decide +kernel) rfl (by exact Nat.le_of_ble_eq_true rfl) ?_
  unfold s_Model_lengthAt at hr
  refine Go.aload_0 d_Model_lengthAt_0 rfl ?_
  refine Go.iload_1 d_Model_lengthAt_1 rfl ?_
  have o2_1 : x1 ≤ 5000 := Classical.byContradiction fun w => by
    rw [if_neg w] at hr
    cases hr
  refine Go.cv1r d_Model_lengthAt_2 rfl l_Model_50 k_Model_byteAt_v (mk_at_m (by omega)) rfl (c_Model_byteAt (x1 := x1) rfl (by omega) (by omega) hsz) (Nat.ble_eq_true_of_le (by omega)) rfl rfl ?_
  refine Go.istore_2 d_Model_lengthAt_5 rfl (by rfl) ?_
  refine Go.iload_1 d_Model_lengthAt_6 rfl ?_
  refine Go.iconst (v := 1) d_Model_lengthAt_7 rfl (by decide) ?_
  refine Go.iadd d_Model_lengthAt_8 rfl ?_
  rw [show (nI x1) + 1 = nI (x1 + 1) from nI_add _ _]
  refine Go.istore_3 d_Model_lengthAt_9 rfl (by rfl) ?_
  refine Go.iload_2 d_Model_lengthAt_10 rfl ?_
  refine Go.cs1r d_Model_lengthAt_11 rfl l_Model_54 k_Model_isLetter_s rfl (mk_c_Model_isLetter_ (by omega)) (Nat.ble_eq_true_of_le (by omega)) rfl rfl ?_
  refine Go.if_ne (t := 24) d_Model_lengthAt_14 (by decide) rfl (fun c14_2 => ?_) (fun c14_2 => ?_)
  · rw [if_pos o2_1, if_neg c14_2] at hr
    exact l_Model_lengthAt_24_go bx1 (by omega) hsz _ _ hr
  · refine Go.iload_2 d_Model_lengthAt_17 rfl ?_
    refine Go.cs1r d_Model_lengthAt_18 rfl l_Model_58 k_Model_isDigit_s rfl (mk_c_Model_isDigit_ (by omega)) (Nat.ble_eq_true_of_le (by omega)) rfl rfl ?_
    refine Go.if_eq (t := 59) d_Model_lengthAt_21 (by decide) rfl (fun c21_3 => ?_) (fun c21_3 => ?_)
    · refine Go.iload_2 d_Model_lengthAt_59 rfl ?_
      refine Go.bipush (v := 60) d_Model_lengthAt_60 rfl (by decide) ?_
      refine Go.icmp_eq (t := 71) d_Model_lengthAt_62 (by decide) rfl (fun c62_4 => ?_) (fun c62_4 => ?_)
      · refine Go.aload_0 d_Model_lengthAt_71 rfl ?_
        refine Go.iload_3 d_Model_lengthAt_72 rfl ?_
        have o73_5 : (x1 + 1) ≤ 5000 := Classical.byContradiction fun w => by
          rw [if_pos o2_1, if_pos c14_2, if_pos c21_3, if_pos c62_4, if_neg w] at hr
          cases hr
        refine Go.cv1r d_Model_lengthAt_73 rfl l_Model_50 k_Model_byteAt_v (mk_at_m (by omega)) rfl (c_Model_byteAt (x1 := (x1 + 1)) rfl (by omega) (by omega) hsz) (Nat.ble_eq_true_of_le (by omega)) rfl rfl ?_
        refine Go.bipush (v := 61) d_Model_lengthAt_76 rfl (by decide) ?_
        refine Go.icmp_ne (t := 84) d_Model_lengthAt_78 (by decide) rfl (fun c78_6 => ?_) (fun c78_6 => ?_)
        · refine Go.iload_3 d_Model_lengthAt_84 rfl ?_
          refine Go.iload_1 d_Model_lengthAt_85 rfl ?_
          refine Go.isub d_Model_lengthAt_86 rfl ?_
          have o86_7 : x1 ≤ (x1 + 1) := Classical.byContradiction fun w => by
            rw [if_pos o2_1, if_pos c14_2, if_pos c21_3, if_pos c62_4, if_pos o73_5, if_neg c78_6, if_neg w] at hr
            cases hr
          rw [nI_subn o86_7]
          rw [if_pos o2_1, if_pos c14_2, if_pos c21_3, if_pos c62_4, if_pos o73_5, if_neg c78_6, if_pos o86_7] at hr
          cases hr
          exact Go.iret d_Model_lengthAt_87 rfl rfl ⟨rfl, rfl, rfl⟩
        · refine Go.iinc_3 d_Model_lengthAt_81 rfl (by rfl) (nI_inc _) ?_
          refine Go.iload_3 d_Model_lengthAt_84 rfl ?_
          refine Go.iload_1 d_Model_lengthAt_85 rfl ?_
          refine Go.isub d_Model_lengthAt_86 rfl ?_
          have o86_8 : x1 ≤ ((x1 + 1) + 1) := Classical.byContradiction fun w => by
            rw [if_pos o2_1, if_pos c14_2, if_pos c21_3, if_pos c62_4, if_pos o73_5, if_pos c78_6, if_neg w] at hr
            cases hr
          rw [nI_subn o86_8]
          rw [if_pos o2_1, if_pos c14_2, if_pos c21_3, if_pos c62_4, if_pos o73_5, if_pos c78_6, if_pos o86_8] at hr
          cases hr
          exact Go.iret d_Model_lengthAt_87 rfl rfl ⟨rfl, rfl, rfl⟩
      · refine Go.iload_2 d_Model_lengthAt_65 rfl ?_
        refine Go.bipush (v := 62) d_Model_lengthAt_66 rfl (by decide) ?_
        refine Go.icmp_ne (t := 84) d_Model_lengthAt_68 (by decide) rfl (fun c68_9 => ?_) (fun c68_9 => ?_)
        · refine Go.iload_3 d_Model_lengthAt_84 rfl ?_
          refine Go.iload_1 d_Model_lengthAt_85 rfl ?_
          refine Go.isub d_Model_lengthAt_86 rfl ?_
          have o86_10 : x1 ≤ (x1 + 1) := Classical.byContradiction fun w => by
            rw [if_pos o2_1, if_pos c14_2, if_pos c21_3, if_neg c62_4, if_neg c68_9, if_neg w] at hr
            cases hr
          rw [nI_subn o86_10]
          rw [if_pos o2_1, if_pos c14_2, if_pos c21_3, if_neg c62_4, if_neg c68_9, if_pos o86_10] at hr
          cases hr
          exact Go.iret d_Model_lengthAt_87 rfl rfl ⟨rfl, rfl, rfl⟩
        · refine Go.aload_0 d_Model_lengthAt_71 rfl ?_
          refine Go.iload_3 d_Model_lengthAt_72 rfl ?_
          have o73_11 : (x1 + 1) ≤ 5000 := Classical.byContradiction fun w => by
            rw [if_pos o2_1, if_pos c14_2, if_pos c21_3, if_neg c62_4, if_pos c68_9, if_neg w] at hr
            cases hr
          refine Go.cv1r d_Model_lengthAt_73 rfl l_Model_50 k_Model_byteAt_v (mk_at_m (by omega)) rfl (c_Model_byteAt (x1 := (x1 + 1)) rfl (by omega) (by omega) hsz) (Nat.ble_eq_true_of_le (by omega)) rfl rfl ?_
          refine Go.bipush (v := 61) d_Model_lengthAt_76 rfl (by decide) ?_
          refine Go.icmp_ne (t := 84) d_Model_lengthAt_78 (by decide) rfl (fun c78_12 => ?_) (fun c78_12 => ?_)
          · refine Go.iload_3 d_Model_lengthAt_84 rfl ?_
            refine Go.iload_1 d_Model_lengthAt_85 rfl ?_
            refine Go.isub d_Model_lengthAt_86 rfl ?_
            have o86_13 : x1 ≤ (x1 + 1) := Classical.byContradiction fun w => by
              rw [if_pos o2_1, if_pos c14_2, if_pos c21_3, if_neg c62_4, if_pos c68_9, if_pos o73_11, if_neg c78_12, if_neg w] at hr
              cases hr
            rw [nI_subn o86_13]
            rw [if_pos o2_1, if_pos c14_2, if_pos c21_3, if_neg c62_4, if_pos c68_9, if_pos o73_11, if_neg c78_12, if_pos o86_13] at hr
            cases hr
            exact Go.iret d_Model_lengthAt_87 rfl rfl ⟨rfl, rfl, rfl⟩
          · refine Go.iinc_3 d_Model_lengthAt_81 rfl (by rfl) (nI_inc _) ?_
            refine Go.iload_3 d_Model_lengthAt_84 rfl ?_
            refine Go.iload_1 d_Model_lengthAt_85 rfl ?_
            refine Go.isub d_Model_lengthAt_86 rfl ?_
            have o86_14 : x1 ≤ ((x1 + 1) + 1) := Classical.byContradiction fun w => by
              rw [if_pos o2_1, if_pos c14_2, if_pos c21_3, if_neg c62_4, if_pos c68_9, if_pos o73_11, if_pos c78_12, if_neg w] at hr
              cases hr
            rw [nI_subn o86_14]
            rw [if_pos o2_1, if_pos c14_2, if_pos c21_3, if_neg c62_4, if_pos c68_9, if_pos o73_11, if_pos c78_12, if_pos o86_14] at hr
            cases hr
            exact Go.iret d_Model_lengthAt_87 rfl rfl ⟨rfl, rfl, rfl⟩
    · rw [if_pos o2_1, if_pos c14_2, if_neg c21_3] at hr
      exact l_Model_lengthAt_24_go bx1 (by omega) hsz _ _ hr
abbrev wdXL : List (List Int32) := [[98, 97, 110, 100], [104, 101, 105, 103, 104, 116], [115, 110, 111, 119], [115, 116, 97, 107, 101], [105, 110], [100, 101, 101, 112], [99, 114, 101, 118, 97, 115, 115, 101], [97, 98, 111, 118, 101], [98, 114, 105, 100, 103, 101], [100, 101, 112, 111, 116], [102, 111, 111, 100], [116, 101, 97, 109], [115, 105, 122, 101], [100, 97, 121], [119, 97, 114, 109], [99, 108, 105, 109, 98], [100, 101, 115, 99, 101, 110, 100], [112, 114, 111, 98, 101], [98, 121], [102, 105, 108, 108], [119, 105, 116, 104], [100, 114, 105, 108, 108], [119, 104, 101, 110], [111, 117, 116], [115, 116, 111, 99, 107], [115, 97, 99, 107], [112, 108, 97, 99, 101], [115, 116, 97, 110, 100, 105, 110, 103], [104, 101, 114, 101], [107, 110, 111, 119, 110], [110, 111, 116], [97, 110, 100], [111, 114], [109, 105, 110], [109, 97, 120]]
abbrev snX : List Int32 := [40, 41, 91, 93, 59, 44, 43, 45, 42, 47, 60, 62, 61]
def wdX (i : Nat) : List Int32 := wdXL.getD i []
def WdOk (Γ : G9) (wa : Nat) (wd : Nat → Nat) : Prop := SF Γ (va_Z "GlacierCampModel" "WORDS" "[Ljava/lang/String;" (.ref wa)) ∧ SF Γ (va_T (.object "java/lang/String") wa 35 (fun j => .ref (wd j))) ∧ ∀ j : Nat, j < 35 → StOk Γ (wd j) (wdX j)
def SnOk (Γ : G9) (sn : Nat) : Prop := SF Γ (fun _ U _ => vk_R "GlacierCampModel" 65 "()[];,+-*/<>=" sn U) ∧ StOk Γ sn snX
theorem d_Model_wordAt_13 : decode M_Model_wordAt.2.1 13 = .ok (.iload 4, 2) := by decide +kernel
theorem d_Model_wordAt_15 : decode M_Model_wordAt.2.1 15 = .ok (.iload_n 2, 1) := by decide +kernel
theorem d_Model_wordAt_16 : decode M_Model_wordAt.2.1 16 = .ok (.if_icmp .ge 44, 3) := by decide +kernel
theorem d_Model_wordAt_19 : decode M_Model_wordAt.2.1 19 = .ok (.iload 4, 2) := by decide +kernel
theorem d_Model_wordAt_21 : decode M_Model_wordAt.2.1 21 = .ok (.getstatic 72, 3) := by decide +kernel
theorem d_Model_wordAt_24 : decode M_Model_wordAt.2.1 24 = .ok (.iload_n 3, 1) := by decide +kernel
theorem d_Model_wordAt_25 : decode M_Model_wordAt.2.1 25 = .ok (.aaload, 1) := by decide +kernel
theorem d_Model_wordAt_26 : decode M_Model_wordAt.2.1 26 = .ok (.invokevirtual 76, 3) := by decide +kernel
theorem d_Model_wordAt_29 : decode M_Model_wordAt.2.1 29 = .ok (.if_icmp .ge 31, 3) := by decide +kernel
theorem d_Model_wordAt_32 : decode M_Model_wordAt.2.1 32 = .ok (.getstatic 72, 3) := by decide +kernel
theorem d_Model_wordAt_35 : decode M_Model_wordAt.2.1 35 = .ok (.iload_n 3, 1) := by decide +kernel
theorem d_Model_wordAt_36 : decode M_Model_wordAt.2.1 36 = .ok (.aaload, 1) := by decide +kernel
theorem d_Model_wordAt_37 : decode M_Model_wordAt.2.1 37 = .ok (.iload 4, 2) := by decide +kernel
theorem d_Model_wordAt_39 : decode M_Model_wordAt.2.1 39 = .ok (.invokevirtual 80, 3) := by decide +kernel
theorem d_Model_wordAt_42 : decode M_Model_wordAt.2.1 42 = .ok (.aload_n 0, 1) := by decide +kernel
theorem d_Model_wordAt_43 : decode M_Model_wordAt.2.1 43 = .ok (.getfield 9, 3) := by decide +kernel
theorem d_Model_wordAt_46 : decode M_Model_wordAt.2.1 46 = .ok (.iload_n 1, 1) := by decide +kernel
theorem d_Model_wordAt_47 : decode M_Model_wordAt.2.1 47 = .ok (.iload 4, 2) := by decide +kernel
theorem d_Model_wordAt_49 : decode M_Model_wordAt.2.1 49 = .ok (.iadd, 1) := by decide +kernel
theorem d_Model_wordAt_50 : decode M_Model_wordAt.2.1 50 = .ok (.iaload, 1) := by decide +kernel
theorem d_Model_wordAt_51 : decode M_Model_wordAt.2.1 51 = .ok (.if_icmp .ne 9, 3) := by decide +kernel
theorem d_Model_wordAt_54 : decode M_Model_wordAt.2.1 54 = .ok (.iinc 4 1, 3) := by decide +kernel
theorem d_Model_wordAt_57 : decode M_Model_wordAt.2.1 57 = .ok (.goto (-44), 3) := by decide +kernel
def l_Model_wordAt_13 (M : MO) (H : SH) (x1 : Nat) (x2 : Nat) (wk : Nat) : Nat → Nat → Option (Nat)
  | 0, _ => none
  | k + 1, sm => (if (nI x2) ≤ (nI sm) then some (sm) else (if wk < 35 then (if (nI (wdX wk).length) ≤ (nI sm) then some (sm) else (if wk < 35 then (if sm < (wdX wk).length then (if (x1 + sm) < 2000 then (if (chr (wdX wk) sm) = ((mo_ta M) (x1 + sm)) then (l_Model_wordAt_13 M H x1 x2 wk k (sm + 1)) else some (sm)) else none) else none) else none)) else none))
set_option maxRecDepth 100000 in
set_option maxHeartbeats 4000000 in
theorem l_Model_wordAt_13_go {Γ : G9} {h : AH} {wd : Nat → Nat} {wa : Nat} {m q qs sa sb ro z : Nat} {M : MO} {H : SH} {x1 : Nat} {x2 : Nat} {wk : Nat} {w : Nat} {Q : QT} {X : XT} (bx1 : x1 ≤ 2500) (bx2 : x2 ≤ 2500) (geo : m + 2 ≤ q) (hsz : mo_sz M ≤ 2000) (hcs : CsOk Γ) (hwd : WdOk Γ wa wd) : ∀ (k : Nat) (sm : Nat), l_Model_wordAt_13 M H x1 x2 wk k sm = some w → Go Γ M_Model_wordAt 4 0 0 60 [some (.ref m), some (.int (nI x1)), some (.int (nI x2)), some (.int (nI wk)), some (.int (nI w))] [] (mk_ Γ h m q qs sa sb ro M H) z Q X → Go Γ M_Model_wordAt 4 0 0 13 [some (.ref m), some (.int (nI x1)), some (.int (nI x2)), some (.int (nI wk)), some (.int (nI sm))] [] (mk_ Γ h m q qs sa sb ro M H) z Q X := by
  intro k
  induction k with
  | zero =>
    intro sm hr hk
    cases hr
  | succ k ih =>
    intro sm hr hk
    unfold l_Model_wordAt_13 at hr
    refine Go.iload_4 d_Model_wordAt_13 rfl ?_
    refine Go.iload_2 d_Model_wordAt_15 rfl ?_
    refine Go.icmp_ge (t := 60) d_Model_wordAt_16 (by decide) rfl (fun c16_1 => ?_) (fun c16_1 => ?_)
    · rw [if_pos c16_1] at hr
      cases hr
      exact hk
    · refine Go.iload_4 d_Model_wordAt_19 rfl ?_
      refine Go.gets d_Model_wordAt_21 rfl x_Model_72 hwd.1 ?_
      refine Go.iload_3 d_Model_wordAt_24 rfl ?_
      have o25_2 : wk < 35 := Classical.byContradiction fun w => by
        rw [if_neg c16_1, if_neg w] at hr
        cases hr
      refine Go.aaloadS d_Model_wordAt_25 rfl hwd.2.1 (vp_in_nI o25_2 (by decide)) ?_
      rw [nI_clamp (show wk < 2 ^ 31 by omega)]
      refine Go.callO (as := []) d_Model_wordAt_26 rfl l_Model_76 k_String_length_v rfl (hwd.2.2 _ o25_2).2.1 rfl (c_String_length hcs (hwd.2.2 _ o25_2)) (Nat.ble_eq_true_of_le (by omega)) rfl rfl ?_
      refine Go.icmp_ge (t := 60) d_Model_wordAt_29 (by decide) rfl (fun c29_3 => ?_) (fun c29_3 => ?_)
      · rw [if_neg c16_1, if_pos o25_2, if_pos c29_3] at hr
        cases hr
        exact hk
      · refine Go.gets d_Model_wordAt_32 rfl x_Model_72 hwd.1 ?_
        refine Go.iload_3 d_Model_wordAt_35 rfl ?_
        have o36_4 : wk < 35 := Classical.byContradiction fun w => by
          rw [if_neg c16_1, if_pos o25_2, if_neg c29_3, if_neg w] at hr
          cases hr
        refine Go.aaloadS d_Model_wordAt_36 rfl hwd.2.1 (vp_in_nI o36_4 (by decide)) ?_
        rw [nI_clamp (show wk < 2 ^ 31 by omega)]
        refine Go.iload_4 d_Model_wordAt_37 rfl ?_
        have o39_5 : sm < (wdX wk).length := Classical.byContradiction fun w => by
          rw [if_neg c16_1, if_pos o25_2, if_neg c29_3, if_pos o36_4, if_neg w] at hr
          cases hr
        refine Go.callO (as := [.int (nI sm)]) d_Model_wordAt_39 rfl l_Model_80 k_String_charAt_v rfl (hwd.2.2 _ o36_4).2.1 rfl (c_String_charAt hcs (hwd.2.2 _ o36_4) o39_5) (Nat.ble_eq_true_of_le (by omega)) rfl rfl ?_
        refine Go.aload_0 d_Model_wordAt_42 rfl ?_
        refine Go.getfield d_Model_wordAt_43 rfl f_Model_9 (mk_at_m (by omega)) (by rfl) ?_
        refine Go.iload_1 d_Model_wordAt_46 rfl ?_
        refine Go.iload_4 d_Model_wordAt_47 rfl ?_
        refine Go.iadd d_Model_wordAt_49 rfl ?_
        rw [show (nI x1) + (nI sm) = nI (x1 + sm) from nI_add _ _]
        have o50_6 : (x1 + sm) < 2000 := Classical.byContradiction fun w => by
          rw [if_neg c16_1, if_pos o25_2, if_neg c29_3, if_pos o36_4, if_pos o39_5, if_neg w] at hr
          cases hr
        refine Go.iaload d_Model_wordAt_50 rfl (mk_at_m_1 (by omega)) (vp_in_nI o50_6 (by decide)) ?_
        rw [nI_clamp (show (x1 + sm) < 2 ^ 31 by omega)]
        refine Go.icmp_ne (t := 60) d_Model_wordAt_51 (by decide) rfl (fun c51_7 => ?_) (fun c51_7 => ?_)
        · rw [if_neg c16_1, if_pos o25_2, if_neg c29_3, if_pos o36_4, if_pos o39_5, if_pos o50_6, if_neg c51_7] at hr
          cases hr
          exact hk
        · refine Go.iinc_4 d_Model_wordAt_54 rfl (by rfl) (nI_inc _) ?_
          refine Go.goto (t := 13) d_Model_wordAt_57 (by decide) ?_
          rw [if_neg c16_1, if_pos o25_2, if_neg c29_3, if_pos o36_4, if_pos o39_5, if_pos o50_6, if_pos c51_7] at hr
          exact ih _ hr hk
theorem d_Model_wordAt_2 : decode M_Model_wordAt.2.1 2 = .ok (.iload_n 3, 1) := by decide +kernel
theorem d_Model_wordAt_3 : decode M_Model_wordAt.2.1 3 = .ok (.getstatic 72, 3) := by decide +kernel
theorem d_Model_wordAt_6 : decode M_Model_wordAt.2.1 6 = .ok (.arraylength, 1) := by decide +kernel
theorem d_Model_wordAt_7 : decode M_Model_wordAt.2.1 7 = .ok (.if_icmp .ge 80, 3) := by decide +kernel
theorem d_Model_wordAt_10 : decode M_Model_wordAt.2.1 10 = .ok (.iconst 0, 1) := by decide +kernel
theorem d_Model_wordAt_11 : decode M_Model_wordAt.2.1 11 = .ok (.istore 4, 2) := by decide +kernel
theorem d_Model_wordAt_60 : decode M_Model_wordAt.2.1 60 = .ok (.iload 4, 2) := by decide +kernel
theorem d_Model_wordAt_62 : decode M_Model_wordAt.2.1 62 = .ok (.iload_n 2, 1) := by decide +kernel
theorem d_Model_wordAt_63 : decode M_Model_wordAt.2.1 63 = .ok (.if_icmp .ne 18, 3) := by decide +kernel
theorem d_Model_wordAt_66 : decode M_Model_wordAt.2.1 66 = .ok (.iload 4, 2) := by decide +kernel
theorem d_Model_wordAt_68 : decode M_Model_wordAt.2.1 68 = .ok (.getstatic 72, 3) := by decide +kernel
theorem d_Model_wordAt_71 : decode M_Model_wordAt.2.1 71 = .ok (.iload_n 3, 1) := by decide +kernel
theorem d_Model_wordAt_72 : decode M_Model_wordAt.2.1 72 = .ok (.aaload, 1) := by decide +kernel
theorem d_Model_wordAt_73 : decode M_Model_wordAt.2.1 73 = .ok (.invokevirtual 76, 3) := by decide +kernel
theorem d_Model_wordAt_76 : decode M_Model_wordAt.2.1 76 = .ok (.if_icmp .ne 5, 3) := by decide +kernel
theorem d_Model_wordAt_79 : decode M_Model_wordAt.2.1 79 = .ok (.iload_n 3, 1) := by decide +kernel
theorem d_Model_wordAt_80 : decode M_Model_wordAt.2.1 80 = .ok (.ireturn, 1) := by decide +kernel
theorem d_Model_wordAt_81 : decode M_Model_wordAt.2.1 81 = .ok (.iinc 3 1, 3) := by decide +kernel
theorem d_Model_wordAt_84 : decode M_Model_wordAt.2.1 84 = .ok (.goto (-82), 3) := by decide +kernel
theorem d_Model_wordAt_87 : decode M_Model_wordAt.2.1 87 = .ok (.bipush 36, 2) := by decide +kernel
theorem d_Model_wordAt_89 : decode M_Model_wordAt.2.1 89 = .ok (.ireturn, 1) := by decide +kernel
def l_Model_wordAt_2 (M : MO) (H : SH) (x1 : Nat) (x2 : Nat) : Nat → Nat → Option (Int32)
  | 0, _ => none
  | k + 1, wk => (if (nI 35) ≤ (nI wk) then some (36) else ((l_Model_wordAt_13 M H x1 x2 wk 12 0).bind fun q13_2 => (if (nI q13_2) = (nI x2) then (if wk < 35 then (if (nI q13_2) = (nI (wdX wk).length) then some ((nI wk)) else (l_Model_wordAt_2 M H x1 x2 k (wk + 1))) else none) else (l_Model_wordAt_2 M H x1 x2 k (wk + 1)))))
set_option maxRecDepth 100000 in
set_option maxHeartbeats 4000000 in
theorem l_Model_wordAt_2_go {Γ : G9} {h : AH} {wd : Nat → Nat} {wa : Nat} {m q qs sa sb ro z : Nat} {M : MO} {H : SH} {x1 : Nat} {x2 : Nat} {p : Int32} (bx1 : x1 ≤ 2500) (bx2 : x2 ≤ 2500) (geo : m + 2 ≤ q) (hsz : mo_sz M ≤ 2000) (hcs : CsOk Γ) (hwd : WdOk Γ wa wd) : ∀ (k : Nat) (wk : Nat), l_Model_wordAt_2 M H x1 x2 k wk = some p → Go Γ M_Model_wordAt 4 0 0 2 [some (.ref m), some (.int (nI x1)), some (.int (nI x2)), some (.int (nI wk)), none] [] (mk_ Γ h m q qs sa sb ro M H) z (RQ (some (.int p)) (mk_ Γ h m q qs sa sb ro M H) z) noX := by
  intro k
  induction k with
  | zero =>
    intro wk hr
    cases hr
  | succ k ih =>
    intro wk hr
    unfold l_Model_wordAt_2 at hr
    refine Go.iload_3 d_Model_wordAt_2 rfl ?_
    refine Go.gets d_Model_wordAt_3 rfl x_Model_72 hwd.1 ?_
    refine Go.alenS (v := nI 35) d_Model_wordAt_6 rfl hwd.2.1 rfl ?_
    refine Go.icmp_ge (t := 87) d_Model_wordAt_7 (by decide) rfl (fun c7_1 => ?_) (fun c7_1 => ?_)
    · refine Go.bipush (v := 36) d_Model_wordAt_87 rfl (by decide) ?_
      rw [if_pos c7_1] at hr
      cases hr
      exact Go.iret d_Model_wordAt_89 rfl rfl ⟨rfl, rfl, rfl⟩
    · refine Go.iconst (v := 0) d_Model_wordAt_10 rfl (by decide) ?_
      refine Go.istore_4 d_Model_wordAt_11 rfl (by rfl) ?_
      rw [if_neg c7_1] at hr
      obtain ⟨q13_2, hq13_2, hr⟩ := Option.bind_eq_some_iff.mp hr
      try dsimp only at hr
      refine l_Model_wordAt_13_go bx1 bx2 (by omega) hsz hcs hwd _ _ hq13_2 ?_
      refine Go.iload_4 d_Model_wordAt_60 rfl ?_
      refine Go.iload_2 d_Model_wordAt_62 rfl ?_
      refine Go.icmp_ne (t := 81) d_Model_wordAt_63 (by decide) rfl (fun c63_3 => ?_) (fun c63_3 => ?_)
      · refine Go.iinc_3 d_Model_wordAt_81 rfl (by rfl) (nI_inc _) ?_
        refine Go.goto (t := 2) d_Model_wordAt_84 (by decide) ?_
        rw [if_neg c63_3] at hr
        refine Go.fgt [some (.ref m), some (.int (nI x1)), some (.int (nI x2)), some (.int (nI (wk + 1))), none] (by repeat' (first | exact trivial | refine ⟨rfl, ?_⟩)) ?_
        exact ih _ hr
      · refine Go.iload_4 d_Model_wordAt_66 rfl ?_
        refine Go.gets d_Model_wordAt_68 rfl x_Model_72 hwd.1 ?_
        refine Go.iload_3 d_Model_wordAt_71 rfl ?_
        have o72_4 : wk < 35 := Classical.byContradiction fun w => by
          rw [if_pos c63_3, if_neg w] at hr
          cases hr
        refine Go.aaloadS d_Model_wordAt_72 rfl hwd.2.1 (vp_in_nI o72_4 (by decide)) ?_
        rw [nI_clamp (show wk < 2 ^ 31 by omega)]
        refine Go.callO (as := []) d_Model_wordAt_73 rfl l_Model_76 k_String_length_v rfl (hwd.2.2 _ o72_4).2.1 rfl (c_String_length hcs (hwd.2.2 _ o72_4)) (Nat.ble_eq_true_of_le (by omega)) rfl rfl ?_
        refine Go.icmp_ne (t := 81) d_Model_wordAt_76 (by decide) rfl (fun c76_5 => ?_) (fun c76_5 => ?_)
        · refine Go.iinc_3 d_Model_wordAt_81 rfl (by rfl) (nI_inc _) ?_
          refine Go.goto (t := 2) d_Model_wordAt_84 (by decide) ?_
          rw [if_pos c63_3, if_pos o72_4, if_neg c76_5] at hr
          refine Go.fgt [some (.ref m), some (.int (nI x1)), some (.int (nI x2)), some (.int (nI (wk + 1))), none] (by repeat' (first | exact trivial | refine ⟨rfl, ?_⟩)) ?_
          exact ih _ hr
        · refine Go.iload_3 d_Model_wordAt_79 rfl ?_
          rw [if_pos c63_3, if_pos o72_4, if_pos c76_5] at hr
          cases hr
          exact Go.iret d_Model_wordAt_80 rfl rfl ⟨rfl, rfl, rfl⟩
theorem d_Model_wordAt_0 : decode M_Model_wordAt.2.1 0 = .ok (.iconst 0, 1) := by decide +kernel
theorem d_Model_wordAt_1 : decode M_Model_wordAt.2.1 1 = .ok (.istore_n 3, 1) := by decide +kernel
def s_Model_wordAt (M : MO) (H : SH) (x1 : Nat) (x2 : Nat) : Option (Int32) := (l_Model_wordAt_2 M H x1 x2 36 0)
set_option maxRecDepth 100000 in
set_option maxHeartbeats 4000000 in
theorem c_Model_wordAt {Γ : G9} {h : AH} {wd : Nat → Nat} {wa : Nat} {m q qs sa sb ro z : Nat} {M : MO} {H : SH} {x1 : Nat} {x2 : Nat} {p : Int32} (bx1 : x1 ≤ 2500) (bx2 : x2 ≤ 2500) (geo : m + 2 ≤ q) (hsz : mo_sz M ≤ 2000) (hcs : CsOk Γ) (hwd : WdOk Γ wa wd) (hr : s_Model_wordAt M H x1 x2 = some p) : CallR Γ M_Model_wordAt 4 [.ref m, .int (nI x1), .int (nI x2)] (mk_ Γ h m q qs sa sb ro M H) z (some (.int p)) (mk_ Γ h m q qs sa sb ro M H) := by
  refine Call.of_go (L := [some (.ref m), some (.int (nI x1)), some (.int (nI x2)), none, none]) (by decide +kernel) rfl (by exact Nat.le_of_ble_eq_true rfl) ?_
  unfold s_Model_wordAt at hr
  refine Go.iconst (v := 0) d_Model_wordAt_0 rfl (by decide) ?_
  refine Go.istore_3 d_Model_wordAt_1 rfl (by rfl) ?_
  exact l_Model_wordAt_2_go bx1 bx2 (by omega) hsz hcs hwd _ _ hr
theorem d_Model_kindAt_0 : decode M_Model_kindAt.2.1 0 = .ok (.aload_n 0, 1) := by decide +kernel
theorem d_Model_kindAt_1 : decode M_Model_kindAt.2.1 1 = .ok (.iload_n 1, 1) := by decide +kernel
theorem d_Model_kindAt_2 : decode M_Model_kindAt.2.1 2 = .ok (.invokevirtual 50, 3) := by decide +kernel
theorem d_Model_kindAt_5 : decode M_Model_kindAt.2.1 5 = .ok (.istore_n 3, 1) := by decide +kernel
theorem d_Model_kindAt_6 : decode M_Model_kindAt.2.1 6 = .ok (.iload_n 3, 1) := by decide +kernel
theorem d_Model_kindAt_7 : decode M_Model_kindAt.2.1 7 = .ok (.iconst (-1), 1) := by decide +kernel
theorem d_Model_kindAt_8 : decode M_Model_kindAt.2.1 8 = .ok (.if_icmp .ne 6, 3) := by decide +kernel
theorem d_Model_kindAt_11 : decode M_Model_kindAt.2.1 11 = .ok (.bipush 70, 2) := by decide +kernel
theorem d_Model_kindAt_13 : decode M_Model_kindAt.2.1 13 = .ok (.ireturn, 1) := by decide +kernel
theorem d_Model_kindAt_14 : decode M_Model_kindAt.2.1 14 = .ok (.iload_n 3, 1) := by decide +kernel
theorem d_Model_kindAt_15 : decode M_Model_kindAt.2.1 15 = .ok (.invokestatic 58, 3) := by decide +kernel
theorem d_Model_kindAt_18 : decode M_Model_kindAt.2.1 18 = .ok (.ifCond .eq 17, 3) := by decide +kernel
theorem d_Model_kindAt_21 : decode M_Model_kindAt.2.1 21 = .ok (.iload_n 2, 1) := by decide +kernel
theorem d_Model_kindAt_22 : decode M_Model_kindAt.2.1 22 = .ok (.bipush 6, 2) := by decide +kernel
theorem d_Model_kindAt_24 : decode M_Model_kindAt.2.1 24 = .ok (.if_icmp .le 8, 3) := by decide +kernel
theorem d_Model_kindAt_27 : decode M_Model_kindAt.2.1 27 = .ok (.bipush 71, 2) := by decide +kernel
theorem d_Model_kindAt_29 : decode M_Model_kindAt.2.1 29 = .ok (.goto 5, 3) := by decide +kernel
theorem d_Model_kindAt_32 : decode M_Model_kindAt.2.1 32 = .ok (.bipush 37, 2) := by decide +kernel
theorem d_Model_kindAt_34 : decode M_Model_kindAt.2.1 34 = .ok (.ireturn, 1) := by decide +kernel
theorem d_Model_kindAt_35 : decode M_Model_kindAt.2.1 35 = .ok (.iload_n 3, 1) := by decide +kernel
theorem d_Model_kindAt_36 : decode M_Model_kindAt.2.1 36 = .ok (.invokestatic 54, 3) := by decide +kernel
theorem d_Model_kindAt_39 : decode M_Model_kindAt.2.1 39 = .ok (.ifCond .eq 21, 3) := by decide +kernel
theorem d_Model_kindAt_42 : decode M_Model_kindAt.2.1 42 = .ok (.iload_n 2, 1) := by decide +kernel
theorem d_Model_kindAt_43 : decode M_Model_kindAt.2.1 43 = .ok (.bipush 10, 2) := by decide +kernel
theorem d_Model_kindAt_45 : decode M_Model_kindAt.2.1 45 = .ok (.if_icmp .le 8, 3) := by decide +kernel
theorem d_Model_kindAt_48 : decode M_Model_kindAt.2.1 48 = .ok (.bipush 71, 2) := by decide +kernel
theorem d_Model_kindAt_50 : decode M_Model_kindAt.2.1 50 = .ok (.goto 9, 3) := by decide +kernel
theorem d_Model_kindAt_53 : decode M_Model_kindAt.2.1 53 = .ok (.aload_n 0, 1) := by decide +kernel
theorem d_Model_kindAt_54 : decode M_Model_kindAt.2.1 54 = .ok (.iload_n 1, 1) := by decide +kernel
theorem d_Model_kindAt_55 : decode M_Model_kindAt.2.1 55 = .ok (.iload_n 2, 1) := by decide +kernel
theorem d_Model_kindAt_56 : decode M_Model_kindAt.2.1 56 = .ok (.invokevirtual 61, 3) := by decide +kernel
theorem d_Model_kindAt_59 : decode M_Model_kindAt.2.1 59 = .ok (.ireturn, 1) := by decide +kernel
theorem d_Model_kindAt_60 : decode M_Model_kindAt.2.1 60 = .ok (.iload_n 2, 1) := by decide +kernel
theorem d_Model_kindAt_61 : decode M_Model_kindAt.2.1 61 = .ok (.iconst 2, 1) := by decide +kernel
theorem d_Model_kindAt_62 : decode M_Model_kindAt.2.1 62 = .ok (.if_icmp .ne 17, 3) := by decide +kernel
theorem d_Model_kindAt_65 : decode M_Model_kindAt.2.1 65 = .ok (.iload_n 3, 1) := by decide +kernel
theorem d_Model_kindAt_66 : decode M_Model_kindAt.2.1 66 = .ok (.bipush 60, 2) := by decide +kernel
theorem d_Model_kindAt_68 : decode M_Model_kindAt.2.1 68 = .ok (.if_icmp .ne 8, 3) := by decide +kernel
theorem d_Model_kindAt_71 : decode M_Model_kindAt.2.1 71 = .ok (.bipush 53, 2) := by decide +kernel
theorem d_Model_kindAt_73 : decode M_Model_kindAt.2.1 73 = .ok (.goto 5, 3) := by decide +kernel
theorem d_Model_kindAt_76 : decode M_Model_kindAt.2.1 76 = .ok (.bipush 54, 2) := by decide +kernel
theorem d_Model_kindAt_78 : decode M_Model_kindAt.2.1 78 = .ok (.ireturn, 1) := by decide +kernel
theorem d_Model_kindAt_79 : decode M_Model_kindAt.2.1 79 = .ok (.ldc 65, 2) := by decide +kernel
theorem d_Model_kindAt_81 : decode M_Model_kindAt.2.1 81 = .ok (.iload_n 3, 1) := by decide +kernel
theorem d_Model_kindAt_82 : decode M_Model_kindAt.2.1 82 = .ok (.invokevirtual 67, 3) := by decide +kernel
theorem d_Model_kindAt_85 : decode M_Model_kindAt.2.1 85 = .ok (.istore 4, 2) := by decide +kernel
theorem d_Model_kindAt_87 : decode M_Model_kindAt.2.1 87 = .ok (.iload 4, 2) := by decide +kernel
theorem d_Model_kindAt_89 : decode M_Model_kindAt.2.1 89 = .ok (.ifCond .ge 8, 3) := by decide +kernel
theorem d_Model_kindAt_92 : decode M_Model_kindAt.2.1 92 = .ok (.bipush 71, 2) := by decide +kernel
theorem d_Model_kindAt_94 : decode M_Model_kindAt.2.1 94 = .ok (.goto 8, 3) := by decide +kernel
theorem d_Model_kindAt_97 : decode M_Model_kindAt.2.1 97 = .ok (.bipush 40, 2) := by decide +kernel
theorem d_Model_kindAt_99 : decode M_Model_kindAt.2.1 99 = .ok (.iload 4, 2) := by decide +kernel
theorem d_Model_kindAt_101 : decode M_Model_kindAt.2.1 101 = .ok (.iadd, 1) := by decide +kernel
theorem d_Model_kindAt_102 : decode M_Model_kindAt.2.1 102 = .ok (.ireturn, 1) := by decide +kernel
def s_Model_kindAt (M : MO) (H : SH) (x1 : Nat) (x2 : Nat) : Option (Int32) := (if x1 ≤ 5000 then (if (s_Model_byteAt M H x1) = (-1) then some (70) else (if (s_Model_isDigit (s_Model_byteAt M H x1)) = 0 then (if (s_Model_isLetter (s_Model_byteAt M H x1)) = 0 then (if (nI x2) = 2 then (if (s_Model_byteAt M H x1) = 60 then some (53) else some (54)) else (if 0 ≤ (ixS snX (s_Model_byteAt M H x1)) then some ((40 + (ixS snX (s_Model_byteAt M H x1)))) else some (71))) else (if (nI x2) ≤ 10 then (if x2 ≤ 2500 then ((s_Model_wordAt M H x1 x2).bind fun p56_10 => some (p56_10)) else none) else some (71))) else (if (nI x2) ≤ 6 then some (37) else some (71)))) else none)
set_option maxRecDepth 100000 in
set_option maxHeartbeats 4000000 in
theorem c_Model_kindAt {Γ : G9} {h : AH} {wd : Nat → Nat} {wa sn : Nat} {m q qs sa sb ro z : Nat} {M : MO} {H : SH} {x1 : Nat} {x2 : Nat} {p : Int32} (bx1 : x1 ≤ 2500) (bx2 : x2 ≤ 2500) (geo : m + 2 ≤ q) (hsz : mo_sz M ≤ 2000) (hcs : CsOk Γ) (hwd : WdOk Γ wa wd) (hsg : SnOk Γ sn) (hr : s_Model_kindAt M H x1 x2 = some p) : CallR Γ M_Model_kindAt 5 [.ref m, .int (nI x1), .int (nI x2)] (mk_ Γ h m q qs sa sb ro M H) z (some (.int p)) (mk_ Γ h m q qs sa sb ro M H) := by
  refine Call.of_go (L := [some (.ref m), some (.int (nI x1)), some (.int (nI x2)), none, none]) (by decide +kernel) rfl (by exact Nat.le_of_ble_eq_true rfl) ?_
  unfold s_Model_kindAt at hr
  refine Go.aload_0 d_Model_kindAt_0 rfl ?_
  refine Go.iload_1 d_Model_kindAt_1 rfl ?_
  have o2_1 : x1 ≤ 5000 := Classical.byContradiction fun w => by
    rw [if_neg w] at hr
    cases hr
  refine Go.cv1r d_Model_kindAt_2 rfl l_Model_50 k_Model_byteAt_v (mk_at_m (by omega)) rfl (c_Model_byteAt (x1 := x1) rfl (by omega) (by omega) hsz) (Nat.ble_eq_true_of_le (by omega)) rfl rfl ?_
  refine Go.istore_3 d_Model_kindAt_5 rfl (by rfl) ?_
  refine Go.iload_3 d_Model_kindAt_6 rfl ?_
  refine Go.iconst (v := (-1)) d_Model_kindAt_7 rfl (by decide) ?_
  refine Go.icmp_ne (t := 14) d_Model_kindAt_8 (by decide) rfl (fun c8_2 => ?_) (fun c8_2 => ?_)
  · refine Go.iload_3 d_Model_kindAt_14 rfl ?_
    refine Go.cs1r d_Model_kindAt_15 rfl l_Model_58 k_Model_isDigit_s rfl (mk_c_Model_isDigit_ (by omega)) (Nat.ble_eq_true_of_le (by omega)) rfl rfl ?_
    refine Go.if_eq (t := 35) d_Model_kindAt_18 (by decide) rfl (fun c18_3 => ?_) (fun c18_3 => ?_)
    · refine Go.iload_3 d_Model_kindAt_35 rfl ?_
      refine Go.cs1r d_Model_kindAt_36 rfl l_Model_54 k_Model_isLetter_s rfl (mk_c_Model_isLetter_ (by omega)) (Nat.ble_eq_true_of_le (by omega)) rfl rfl ?_
      refine Go.if_eq (t := 60) d_Model_kindAt_39 (by decide) rfl (fun c39_4 => ?_) (fun c39_4 => ?_)
      · refine Go.iload_2 d_Model_kindAt_60 rfl ?_
        refine Go.iconst (v := 2) d_Model_kindAt_61 rfl (by decide) ?_
        refine Go.icmp_ne (t := 79) d_Model_kindAt_62 (by decide) rfl (fun c62_5 => ?_) (fun c62_5 => ?_)
        · refine Go.ldcS d_Model_kindAt_79 rfl rfl hsg.1 ?_
          refine Go.iload_3 d_Model_kindAt_81 rfl ?_
          refine Go.callO (as := [.int (s_Model_byteAt M H x1)]) d_Model_kindAt_82 rfl l_Model_67 k_String_indexOf_0_v rfl hsg.2.2.1 rfl (c_String_indexOf_0 hcs hsg.2 (by decide)) (Nat.ble_eq_true_of_le (by omega)) rfl rfl ?_
          refine Go.istore_4 d_Model_kindAt_85 rfl (by rfl) ?_
          refine Go.iload_4 d_Model_kindAt_87 rfl ?_
          refine Go.if_ge (t := 97) d_Model_kindAt_89 (by decide) rfl (fun c89_6 => ?_) (fun c89_6 => ?_)
          · refine Go.bipush (v := 40) d_Model_kindAt_97 rfl (by decide) ?_
            refine Go.iload_4 d_Model_kindAt_99 rfl ?_
            refine Go.iadd d_Model_kindAt_101 rfl ?_
            rw [if_pos o2_1, if_neg c8_2, if_pos c18_3, if_pos c39_4, if_neg c62_5, if_pos c89_6] at hr
            cases hr
            exact Go.iret d_Model_kindAt_102 rfl rfl ⟨rfl, rfl, rfl⟩
          · refine Go.bipush (v := 71) d_Model_kindAt_92 rfl (by decide) ?_
            refine Go.goto (t := 102) d_Model_kindAt_94 (by decide) ?_
            rw [if_pos o2_1, if_neg c8_2, if_pos c18_3, if_pos c39_4, if_neg c62_5, if_neg c89_6] at hr
            cases hr
            exact Go.iret d_Model_kindAt_102 rfl rfl ⟨rfl, rfl, rfl⟩
        · refine Go.iload_3 d_Model_kindAt_65 rfl ?_
          refine Go.bipush (v := 60) d_Model_kindAt_66 rfl (by decide) ?_
          refine Go.icmp_ne (t := 76) d_Model_kindAt_68 (by decide) rfl (fun c68_7 => ?_) (fun c68_7 => ?_)
          · refine Go.bipush (v := 54) d_Model_kindAt_76 rfl (by decide) ?_
            rw [if_pos o2_1, if_neg c8_2, if_pos c18_3, if_pos c39_4, if_pos c62_5, if_neg c68_7] at hr
            cases hr
            exact Go.iret d_Model_kindAt_78 rfl rfl ⟨rfl, rfl, rfl⟩
          · refine Go.bipush (v := 53) d_Model_kindAt_71 rfl (by decide) ?_
            refine Go.goto (t := 78) d_Model_kindAt_73 (by decide) ?_
            rw [if_pos o2_1, if_neg c8_2, if_pos c18_3, if_pos c39_4, if_pos c62_5, if_pos c68_7] at hr
            cases hr
            exact Go.iret d_Model_kindAt_78 rfl rfl ⟨rfl, rfl, rfl⟩
      · refine Go.iload_2 d_Model_kindAt_42 rfl ?_
        refine Go.bipush (v := 10) d_Model_kindAt_43 rfl (by decide) ?_
        refine Go.icmp_le (t := 53) d_Model_kindAt_45 (by decide) rfl (fun c45_8 => ?_) (fun c45_8 => ?_)
        · refine Go.aload_0 d_Model_kindAt_53 rfl ?_
          refine Go.iload_1 d_Model_kindAt_54 rfl ?_
          refine Go.iload_2 d_Model_kindAt_55 rfl ?_
          have o56_9 : x2 ≤ 2500 := Classical.byContradiction fun w => by
            rw [if_pos o2_1, if_neg c8_2, if_pos c18_3, if_neg c39_4, if_pos c45_8, if_neg w] at hr
            cases hr
          rw [if_pos o2_1, if_neg c8_2, if_pos c18_3, if_neg c39_4, if_pos c45_8, if_pos o56_9] at hr
          obtain ⟨p56_10, hp56_10, hr⟩ := Option.bind_eq_some_iff.mp hr
          try dsimp only at hr
          refine Go.cv2r d_Model_kindAt_56 rfl l_Model_61 k_Model_wordAt_v (mk_at_m (by omega)) rfl (c_Model_wordAt (by omega) (by omega) (by omega) hsz hcs hwd hp56_10) (Nat.ble_eq_true_of_le (by omega)) rfl rfl ?_
          cases hr
          exact Go.iret d_Model_kindAt_59 rfl rfl ⟨rfl, rfl, rfl⟩
        · refine Go.bipush (v := 71) d_Model_kindAt_48 rfl (by decide) ?_
          refine Go.goto (t := 59) d_Model_kindAt_50 (by decide) ?_
          rw [if_pos o2_1, if_neg c8_2, if_pos c18_3, if_neg c39_4, if_neg c45_8] at hr
          cases hr
          exact Go.iret d_Model_kindAt_59 rfl rfl ⟨rfl, rfl, rfl⟩
    · refine Go.iload_2 d_Model_kindAt_21 rfl ?_
      refine Go.bipush (v := 6) d_Model_kindAt_22 rfl (by decide) ?_
      refine Go.icmp_le (t := 32) d_Model_kindAt_24 (by decide) rfl (fun c24_11 => ?_) (fun c24_11 => ?_)
      · refine Go.bipush (v := 37) d_Model_kindAt_32 rfl (by decide) ?_
        rw [if_pos o2_1, if_neg c8_2, if_neg c18_3, if_pos c24_11] at hr
        cases hr
        exact Go.iret d_Model_kindAt_34 rfl rfl ⟨rfl, rfl, rfl⟩
      · refine Go.bipush (v := 71) d_Model_kindAt_27 rfl (by decide) ?_
        refine Go.goto (t := 34) d_Model_kindAt_29 (by decide) ?_
        rw [if_pos o2_1, if_neg c8_2, if_neg c18_3, if_neg c24_11] at hr
        cases hr
        exact Go.iret d_Model_kindAt_34 rfl rfl ⟨rfl, rfl, rfl⟩
  · refine Go.bipush (v := 70) d_Model_kindAt_11 rfl (by decide) ?_
    rw [if_pos o2_1, if_pos c8_2] at hr
    cases hr
    exact Go.iret d_Model_kindAt_13 rfl rfl ⟨rfl, rfl, rfl⟩
theorem d_Model_cut_11 : decode M_Model_cut.2.1 11 = .ok (.aload_n 0, 1) := by decide +kernel
theorem d_Model_cut_12 : decode M_Model_cut.2.1 12 = .ok (.iload_n 2, 1) := by decide +kernel
theorem d_Model_cut_13 : decode M_Model_cut.2.1 13 = .ok (.invokevirtual 50, 3) := by decide +kernel
theorem d_Model_cut_16 : decode M_Model_cut.2.1 16 = .ok (.bipush 32, 2) := by decide +kernel
theorem d_Model_cut_18 : decode M_Model_cut.2.1 18 = .ok (.if_icmp .eq 13, 3) := by decide +kernel
theorem d_Model_cut_21 : decode M_Model_cut.2.1 21 = .ok (.aload_n 0, 1) := by decide +kernel
theorem d_Model_cut_22 : decode M_Model_cut.2.1 22 = .ok (.iload_n 2, 1) := by decide +kernel
theorem d_Model_cut_23 : decode M_Model_cut.2.1 23 = .ok (.invokevirtual 50, 3) := by decide +kernel
theorem d_Model_cut_26 : decode M_Model_cut.2.1 26 = .ok (.bipush 10, 2) := by decide +kernel
theorem d_Model_cut_28 : decode M_Model_cut.2.1 28 = .ok (.if_icmp .ne 9, 3) := by decide +kernel
theorem d_Model_cut_31 : decode M_Model_cut.2.1 31 = .ok (.iinc 2 1, 3) := by decide +kernel
theorem d_Model_cut_34 : decode M_Model_cut.2.1 34 = .ok (.goto (-23), 3) := by decide +kernel
def l_Model_cut_11 (M : MO) (H : SH) (kk : Nat) : Nat → Nat → Option (Nat)
  | 0, _ => none
  | k + 1, pl => (if pl ≤ 5000 then (if (s_Model_byteAt M H pl) = 32 then (l_Model_cut_11 M H kk k (pl + 1)) else (if (s_Model_byteAt M H pl) = 10 then (l_Model_cut_11 M H kk k (pl + 1)) else some (pl))) else none)
set_option maxRecDepth 100000 in
set_option maxHeartbeats 4000000 in
theorem l_Model_cut_11_go {Γ : G9} {h : AH} {wd : Nat → Nat} {wa sn : Nat} {m q qs sa sb ro z : Nat} {M : MO} {H : SH} {kk : Nat} {w : Nat} {Q : QT} {X : XT} (geo : m + 2 ≤ q) (hsz : mo_sz M ≤ 2000) (hcs : CsOk Γ) (hwd : WdOk Γ wa wd) (hsg : SnOk Γ sn) : ∀ (k : Nat) (pl : Nat), l_Model_cut_11 M H kk k pl = some w → Go Γ M_Model_cut 6 0 0 37 [some (.ref m), some (.ref q), some (.int (nI w)), some (.int (nI kk))] [] (mk_ Γ h m q qs sa sb ro M H) z Q X → Go Γ M_Model_cut 6 0 0 11 [some (.ref m), some (.ref q), some (.int (nI pl)), some (.int (nI kk))] [] (mk_ Γ h m q qs sa sb ro M H) z Q X := by
  intro k
  induction k with
  | zero =>
    intro pl hr hk
    cases hr
  | succ k ih =>
    intro pl hr hk
    unfold l_Model_cut_11 at hr
    refine Go.aload_0 d_Model_cut_11 rfl ?_
    refine Go.iload_2 d_Model_cut_12 rfl ?_
    have o13_1 : pl ≤ 5000 := Classical.byContradiction fun w => by
      rw [if_neg w] at hr
      cases hr
    refine Go.cv1r d_Model_cut_13 rfl l_Model_50 k_Model_byteAt_v (mk_at_m (by omega)) rfl (c_Model_byteAt (x1 := pl) rfl (by omega) (by omega) hsz) (Nat.ble_eq_true_of_le (by omega)) rfl rfl ?_
    refine Go.bipush (v := 32) d_Model_cut_16 rfl (by decide) ?_
    refine Go.icmp_eq (t := 31) d_Model_cut_18 (by decide) rfl (fun c18_2 => ?_) (fun c18_2 => ?_)
    · refine Go.iinc_2 d_Model_cut_31 rfl (by rfl) (nI_inc _) ?_
      refine Go.goto (t := 11) d_Model_cut_34 (by decide) ?_
      rw [if_pos o13_1, if_pos c18_2] at hr
      exact ih _ hr hk
    · refine Go.aload_0 d_Model_cut_21 rfl ?_
      refine Go.iload_2 d_Model_cut_22 rfl ?_
      refine Go.cv1r d_Model_cut_23 rfl l_Model_50 k_Model_byteAt_v (mk_at_m (by omega)) rfl (c_Model_byteAt (x1 := pl) rfl (by omega) (by omega) hsz) (Nat.ble_eq_true_of_le (by omega)) rfl rfl ?_
      refine Go.bipush (v := 10) d_Model_cut_26 rfl (by decide) ?_
      refine Go.icmp_ne (t := 37) d_Model_cut_28 (by decide) rfl (fun c28_3 => ?_) (fun c28_3 => ?_)
      · rw [if_pos o13_1, if_neg c18_2, if_neg c28_3] at hr
        cases hr
        exact hk
      · refine Go.iinc_2 d_Model_cut_31 rfl (by rfl) (nI_inc _) ?_
        refine Go.goto (t := 11) d_Model_cut_34 (by decide) ?_
        rw [if_pos o13_1, if_neg c18_2, if_pos c28_3] at hr
        exact ih _ hr hk
theorem mk_at_q_2 {Γ : G9} {h : AH} {m q qs sa sb ro : Nat} {M : MO} {H : SH} (geo : m + 2 ≤ q) : (mk_ Γ h m q qs sa sb ro M H) (q + 2) = some (aI Γ 401 (fun j => nI ((sh_fr H) j))) := by
  unfold mk_
  exact (sh_g2)
theorem mk_arr_q_2 {Γ : G9} {h : AH} {m q qs sa sb ro : Nat} {M : MO} {H : SH} {v : Nat → Nat} (geo : m + 2 ≤ q) : hup (mk_ Γ h m q qs sa sb ro M H) (q + 2) (aI Γ 401 (fun j => nI (v j))) = (mk_ Γ h m q qs sa sb ro M (sh_fr' H v)) := by
  unfold mk_
  exact (sh_a_fr (v := v))
theorem mk_at_q_3 {Γ : G9} {h : AH} {m q qs sa sb ro : Nat} {M : MO} {H : SH} (geo : m + 2 ≤ q) : (mk_ Γ h m q qs sa sb ro M H) (q + 3) = some (aI Γ 401 (fun j => nI ((sh_mn H) j))) := by
  unfold mk_
  exact (sh_g3)
theorem mk_arr_q_3 {Γ : G9} {h : AH} {m q qs sa sb ro : Nat} {M : MO} {H : SH} {v : Nat → Nat} (geo : m + 2 ≤ q) : hup (mk_ Γ h m q qs sa sb ro M H) (q + 3) (aI Γ 401 (fun j => nI (v j))) = (mk_ Γ h m q qs sa sb ro M (sh_mn' H v)) := by
  unfold mk_
  exact (sh_a_mn (v := v))
theorem mk_arr_q_1 {Γ : G9} {h : AH} {m q qs sa sb ro : Nat} {M : MO} {H : SH} {v : Nat → Int32} (geo : m + 2 ≤ q) : hup (mk_ Γ h m q qs sa sb ro M H) (q + 1) (aI Γ 401 v) = (mk_ Γ h m q qs sa sb ro M (sh_kd' H v)) := by
  unfold mk_
  exact (sh_a_kd (v := v))
theorem d_Model_cut_4 : decode M_Model_cut.2.1 4 = .ok (.iload_n 3, 1) := by decide +kernel
theorem d_Model_cut_5 : decode M_Model_cut.2.1 5 = .ok (.sipush 400, 3) := by decide +kernel
theorem d_Model_cut_8 : decode M_Model_cut.2.1 8 = .ok (.if_icmp .gt 117, 3) := by decide +kernel
theorem d_Model_cut_37 : decode M_Model_cut.2.1 37 = .ok (.aload_n 1, 1) := by decide +kernel
theorem d_Model_cut_38 : decode M_Model_cut.2.1 38 = .ok (.getfield 84, 3) := by decide +kernel
theorem d_Model_cut_41 : decode M_Model_cut.2.1 41 = .ok (.iload_n 3, 1) := by decide +kernel
theorem d_Model_cut_42 : decode M_Model_cut.2.1 42 = .ok (.iload_n 2, 1) := by decide +kernel
theorem d_Model_cut_43 : decode M_Model_cut.2.1 43 = .ok (.iastore, 1) := by decide +kernel
theorem d_Model_cut_44 : decode M_Model_cut.2.1 44 = .ok (.aload_n 1, 1) := by decide +kernel
theorem d_Model_cut_45 : decode M_Model_cut.2.1 45 = .ok (.getfield 87, 3) := by decide +kernel
theorem d_Model_cut_48 : decode M_Model_cut.2.1 48 = .ok (.iload_n 3, 1) := by decide +kernel
theorem d_Model_cut_49 : decode M_Model_cut.2.1 49 = .ok (.aload_n 0, 1) := by decide +kernel
theorem d_Model_cut_50 : decode M_Model_cut.2.1 50 = .ok (.iload_n 2, 1) := by decide +kernel
theorem d_Model_cut_51 : decode M_Model_cut.2.1 51 = .ok (.invokevirtual 90, 3) := by decide +kernel
theorem d_Model_cut_54 : decode M_Model_cut.2.1 54 = .ok (.iastore, 1) := by decide +kernel
theorem d_Model_cut_55 : decode M_Model_cut.2.1 55 = .ok (.aload_n 1, 1) := by decide +kernel
theorem d_Model_cut_56 : decode M_Model_cut.2.1 56 = .ok (.getfield 93, 3) := by decide +kernel
theorem d_Model_cut_59 : decode M_Model_cut.2.1 59 = .ok (.iload_n 3, 1) := by decide +kernel
theorem d_Model_cut_60 : decode M_Model_cut.2.1 60 = .ok (.aload_n 0, 1) := by decide +kernel
theorem d_Model_cut_61 : decode M_Model_cut.2.1 61 = .ok (.iload_n 2, 1) := by decide +kernel
theorem d_Model_cut_62 : decode M_Model_cut.2.1 62 = .ok (.aload_n 1, 1) := by decide +kernel
theorem d_Model_cut_63 : decode M_Model_cut.2.1 63 = .ok (.getfield 87, 3) := by decide +kernel
theorem d_Model_cut_66 : decode M_Model_cut.2.1 66 = .ok (.iload_n 3, 1) := by decide +kernel
theorem d_Model_cut_67 : decode M_Model_cut.2.1 67 = .ok (.iaload, 1) := by decide +kernel
theorem d_Model_cut_68 : decode M_Model_cut.2.1 68 = .ok (.invokevirtual 96, 3) := by decide +kernel
theorem d_Model_cut_71 : decode M_Model_cut.2.1 71 = .ok (.iastore, 1) := by decide +kernel
theorem d_Model_cut_72 : decode M_Model_cut.2.1 72 = .ok (.iload_n 3, 1) := by decide +kernel
theorem d_Model_cut_73 : decode M_Model_cut.2.1 73 = .ok (.sipush 400, 3) := by decide +kernel
theorem d_Model_cut_76 : decode M_Model_cut.2.1 76 = .ok (.if_icmp .ne 22, 3) := by decide +kernel
theorem d_Model_cut_79 : decode M_Model_cut.2.1 79 = .ok (.aload_n 1, 1) := by decide +kernel
theorem d_Model_cut_80 : decode M_Model_cut.2.1 80 = .ok (.getfield 93, 3) := by decide +kernel
theorem d_Model_cut_83 : decode M_Model_cut.2.1 83 = .ok (.iload_n 3, 1) := by decide +kernel
theorem d_Model_cut_84 : decode M_Model_cut.2.1 84 = .ok (.iaload, 1) := by decide +kernel
theorem d_Model_cut_85 : decode M_Model_cut.2.1 85 = .ok (.bipush 70, 2) := by decide +kernel
theorem d_Model_cut_87 : decode M_Model_cut.2.1 87 = .ok (.if_icmp .eq 11, 3) := by decide +kernel
theorem d_Model_cut_90 : decode M_Model_cut.2.1 90 = .ok (.aload_n 1, 1) := by decide +kernel
theorem d_Model_cut_91 : decode M_Model_cut.2.1 91 = .ok (.getfield 93, 3) := by decide +kernel
theorem d_Model_cut_94 : decode M_Model_cut.2.1 94 = .ok (.iload_n 3, 1) := by decide +kernel
theorem d_Model_cut_95 : decode M_Model_cut.2.1 95 = .ok (.bipush 71, 2) := by decide +kernel
theorem d_Model_cut_97 : decode M_Model_cut.2.1 97 = .ok (.iastore, 1) := by decide +kernel
theorem d_Model_cut_98 : decode M_Model_cut.2.1 98 = .ok (.aload_n 1, 1) := by decide +kernel
theorem d_Model_cut_99 : decode M_Model_cut.2.1 99 = .ok (.getfield 93, 3) := by decide +kernel
theorem d_Model_cut_102 : decode M_Model_cut.2.1 102 = .ok (.iload_n 3, 1) := by decide +kernel
theorem d_Model_cut_103 : decode M_Model_cut.2.1 103 = .ok (.iaload, 1) := by decide +kernel
theorem d_Model_cut_104 : decode M_Model_cut.2.1 104 = .ok (.bipush 70, 2) := by decide +kernel
theorem d_Model_cut_106 : decode M_Model_cut.2.1 106 = .ok (.if_icmp .lt 4, 3) := by decide +kernel
theorem d_Model_cut_109 : decode M_Model_cut.2.1 109 = .ok (.return_, 1) := by decide +kernel
theorem d_Model_cut_110 : decode M_Model_cut.2.1 110 = .ok (.iload_n 2, 1) := by decide +kernel
theorem d_Model_cut_111 : decode M_Model_cut.2.1 111 = .ok (.aload_n 1, 1) := by decide +kernel
theorem d_Model_cut_112 : decode M_Model_cut.2.1 112 = .ok (.getfield 87, 3) := by decide +kernel
theorem d_Model_cut_115 : decode M_Model_cut.2.1 115 = .ok (.iload_n 3, 1) := by decide +kernel
theorem d_Model_cut_116 : decode M_Model_cut.2.1 116 = .ok (.iaload, 1) := by decide +kernel
theorem d_Model_cut_117 : decode M_Model_cut.2.1 117 = .ok (.iadd, 1) := by decide +kernel
theorem d_Model_cut_118 : decode M_Model_cut.2.1 118 = .ok (.istore_n 2, 1) := by decide +kernel
theorem d_Model_cut_119 : decode M_Model_cut.2.1 119 = .ok (.iinc 3 1, 3) := by decide +kernel
theorem d_Model_cut_122 : decode M_Model_cut.2.1 122 = .ok (.goto (-118), 3) := by decide +kernel
theorem d_Model_cut_125 : decode M_Model_cut.2.1 125 = .ok (.return_, 1) := by decide +kernel
def l_Model_cut_4 (M : MO) : Nat → Nat → Nat → SH → Option (SH)
  | 0, _, _, _ => none
  | k + 1, pl, kk, H => (if 400 < (nI kk) then some (H) else ((l_Model_cut_11 M H kk 2001 pl).bind fun q11_2 => (if kk < 401 then (if q11_2 ≤ 2500 then ((s_Model_lengthAt M (sh_fr' H (updN (sh_fr H) kk q11_2)) q11_2).bind fun p51_5 => (if kk < 401 then (if kk < 401 then (if ((updN (sh_mn H) kk p51_5) kk) ≤ 2500 then ((s_Model_kindAt M (sh_mn' (sh_fr' H (updN (sh_fr H) kk q11_2)) (updN (sh_mn H) kk p51_5)) q11_2 ((updN (sh_mn H) kk p51_5) kk)).bind fun p68_9 => (if kk < 401 then (if (nI kk) = 400 then (if kk < 401 then (if ((upd (sh_kd H) kk p68_9) kk) = 70 then (if kk < 401 then (if ((upd (sh_kd H) kk p68_9) kk) < 70 then (if kk < 401 then (l_Model_cut_4 M k (q11_2 + ((updN (sh_mn H) kk p51_5) kk)) (kk + 1) (sh_kd' (sh_mn' (sh_fr' H (updN (sh_fr H) kk q11_2)) (updN (sh_mn H) kk p51_5)) (upd (sh_kd H) kk p68_9))) else none) else some ((sh_kd' (sh_mn' (sh_fr' H (updN (sh_fr H) kk q11_2)) (updN (sh_mn H) kk p51_5)) (upd (sh_kd H) kk p68_9)))) else none) else (if kk < 401 then (if kk < 401 then (if ((upd (upd (sh_kd H) kk p68_9) kk 71) kk) < 70 then (if kk < 401 then (l_Model_cut_4 M k (q11_2 + ((updN (sh_mn H) kk p51_5) kk)) (kk + 1) (sh_kd' (sh_kd' (sh_mn' (sh_fr' H (updN (sh_fr H) kk q11_2)) (updN (sh_mn H) kk p51_5)) (upd (sh_kd H) kk p68_9)) (upd (upd (sh_kd H) kk p68_9) kk 71))) else none) else some ((sh_kd' (sh_kd' (sh_mn' (sh_fr' H (updN (sh_fr H) kk q11_2)) (updN (sh_mn H) kk p51_5)) (upd (sh_kd H) kk p68_9)) (upd (upd (sh_kd H) kk p68_9) kk 71)))) else none) else none)) else none) else (if kk < 401 then (if ((upd (sh_kd H) kk p68_9) kk) < 70 then (if kk < 401 then (l_Model_cut_4 M k (q11_2 + ((updN (sh_mn H) kk p51_5) kk)) (kk + 1) (sh_kd' (sh_mn' (sh_fr' H (updN (sh_fr H) kk q11_2)) (updN (sh_mn H) kk p51_5)) (upd (sh_kd H) kk p68_9))) else none) else some ((sh_kd' (sh_mn' (sh_fr' H (updN (sh_fr H) kk q11_2)) (updN (sh_mn H) kk p51_5)) (upd (sh_kd H) kk p68_9)))) else none)) else none)) else none) else none) else none)) else none) else none)))
set_option maxRecDepth 100000 in
set_option maxHeartbeats 4000000 in
theorem l_Model_cut_4_go {Γ : G9} {h : AH} {wd : Nat → Nat} {wa sn : Nat} {m q qs sa sb ro z : Nat} {M : MO} {p : SH} (geo : m + 2 ≤ q) (hsz : mo_sz M ≤ 2000) (hcs : CsOk Γ) (hwd : WdOk Γ wa wd) (hsg : SnOk Γ sn) : ∀ (k : Nat) (pl : Nat) (kk : Nat) (H : SH), l_Model_cut_4 M k pl kk H = some p → Go Γ M_Model_cut 6 0 0 4 [some (.ref m), some (.ref q), some (.int (nI pl)), some (.int (nI kk))] [] (mk_ Γ h m q qs sa sb ro M H) z (RQ none (mk_ Γ h m q qs sa sb ro M p) z) noX := by
  intro k
  induction k with
  | zero =>
    intro pl kk H hr
    cases hr
  | succ k ih =>
    intro pl kk H hr
    unfold l_Model_cut_4 at hr
    refine Go.iload_3 d_Model_cut_4 rfl ?_
    refine Go.sipush (v := 400) d_Model_cut_5 rfl (by decide) ?_
    refine Go.icmp_gt (t := 125) d_Model_cut_8 (by decide) rfl (fun c8_1 => ?_) (fun c8_1 => ?_)
    · rw [if_pos c8_1] at hr
      cases hr
      exact Go.vret d_Model_cut_125 rfl ⟨rfl, by dsimp only, rfl⟩
    · rw [if_neg c8_1] at hr
      obtain ⟨q11_2, hq11_2, hr⟩ := Option.bind_eq_some_iff.mp hr
      try dsimp only at hr
      refine l_Model_cut_11_go (by omega) hsz hcs hwd hsg _ _ hq11_2 ?_
      refine Go.aload_1 d_Model_cut_37 rfl ?_
      refine Go.getfield d_Model_cut_38 rfl f_Model_84 (mk_at_q (by omega)) (by rfl) ?_
      refine Go.iload_3 d_Model_cut_41 rfl ?_
      refine Go.iload_2 d_Model_cut_42 rfl ?_
      have o43_3 : kk < 401 := Classical.byContradiction fun w => by
        rw [if_neg w] at hr
        cases hr
      refine Go.iastore d_Model_cut_43 rfl (mk_at_q_2 (by omega)) (vp_in_nI o43_3 (by decide)) ?_
      rw [nI_clamp (show kk < 2 ^ 31 by omega)]
      rw [updN_eq]
      refine Go.heq (mk_arr_q_2 (by omega)) ?_
      refine Go.aload_1 d_Model_cut_44 rfl ?_
      refine Go.getfield d_Model_cut_45 rfl f_Model_87 (mk_at_q (by omega)) (by rfl) ?_
      refine Go.iload_3 d_Model_cut_48 rfl ?_
      refine Go.aload_0 d_Model_cut_49 rfl ?_
      refine Go.iload_2 d_Model_cut_50 rfl ?_
      have o51_4 : q11_2 ≤ 2500 := Classical.byContradiction fun w => by
        rw [if_pos o43_3, if_neg w] at hr
        cases hr
      rw [if_pos o43_3, if_pos o51_4] at hr
      obtain ⟨p51_5, hp51_5, hr⟩ := Option.bind_eq_some_iff.mp hr
      try dsimp only at hr
      refine Go.cv1r d_Model_cut_51 rfl l_Model_90 k_Model_lengthAt_v (mk_at_m (by omega)) rfl (c_Model_lengthAt (by omega) (by omega) hsz hp51_5) (Nat.ble_eq_true_of_le (by omega)) rfl rfl ?_
      have o54_6 : kk < 401 := Classical.byContradiction fun w => by
        rw [if_neg w] at hr
        cases hr
      refine Go.iastore d_Model_cut_54 rfl (mk_at_q_3 (by omega)) (vp_in_nI o54_6 (by decide)) ?_
      rw [nI_clamp (show kk < 2 ^ 31 by omega)]
      rw [updN_eq]
      refine Go.heq (mk_arr_q_3 (by omega)) ?_
      refine Go.aload_1 d_Model_cut_55 rfl ?_
      refine Go.getfield d_Model_cut_56 rfl f_Model_93 (mk_at_q (by omega)) (by rfl) ?_
      refine Go.iload_3 d_Model_cut_59 rfl ?_
      refine Go.aload_0 d_Model_cut_60 rfl ?_
      refine Go.iload_2 d_Model_cut_61 rfl ?_
      refine Go.aload_1 d_Model_cut_62 rfl ?_
      refine Go.getfield d_Model_cut_63 rfl f_Model_87 (mk_at_q (by omega)) (by rfl) ?_
      refine Go.iload_3 d_Model_cut_66 rfl ?_
      have o67_7 : kk < 401 := Classical.byContradiction fun w => by
        rw [if_pos o54_6, if_neg w] at hr
        cases hr
      refine Go.iaload d_Model_cut_67 rfl (mk_at_q_3 (by omega)) (vp_in_nI o67_7 (by decide)) ?_
      rw [nI_clamp (show kk < 2 ^ 31 by omega)]
      have o68_8 : ((updN (sh_mn H) kk p51_5) kk) ≤ 2500 := Classical.byContradiction fun w => by
        rw [if_pos o54_6, if_pos o67_7, if_neg w] at hr
        cases hr
      rw [if_pos o54_6, if_pos o67_7, if_pos o68_8] at hr
      obtain ⟨p68_9, hp68_9, hr⟩ := Option.bind_eq_some_iff.mp hr
      try dsimp only at hr
      refine Go.cv2r d_Model_cut_68 rfl l_Model_96 k_Model_kindAt_v (mk_at_m (by omega)) rfl (c_Model_kindAt (by omega) (by omega) (by omega) hsz hcs hwd hsg hp68_9) (Nat.ble_eq_true_of_le (by omega)) rfl rfl ?_
      have o71_10 : kk < 401 := Classical.byContradiction fun w => by
        rw [if_neg w] at hr
        cases hr
      refine Go.iastore d_Model_cut_71 rfl (mk_at_q_1 (by omega)) (vp_in_nI o71_10 (by decide)) ?_
      rw [nI_clamp (show kk < 2 ^ 31 by omega)]
      refine Go.heq (mk_arr_q_1 (by omega)) ?_
      refine Go.iload_3 d_Model_cut_72 rfl ?_
      refine Go.sipush (v := 400) d_Model_cut_73 rfl (by decide) ?_
      refine Go.icmp_ne (t := 98) d_Model_cut_76 (by decide) rfl (fun c76_11 => ?_) (fun c76_11 => ?_)
      · refine Go.aload_1 d_Model_cut_98 rfl ?_
        refine Go.getfield d_Model_cut_99 rfl f_Model_93 (mk_at_q (by omega)) (by rfl) ?_
        refine Go.iload_3 d_Model_cut_102 rfl ?_
        have o103_12 : kk < 401 := Classical.byContradiction fun w => by
          rw [if_pos o71_10, if_neg c76_11, if_neg w] at hr
          cases hr
        refine Go.iaload d_Model_cut_103 rfl (mk_at_q_1 (by omega)) (vp_in_nI o103_12 (by decide)) ?_
        rw [nI_clamp (show kk < 2 ^ 31 by omega)]
        refine Go.bipush (v := 70) d_Model_cut_104 rfl (by decide) ?_
        refine Go.icmp_lt (t := 110) d_Model_cut_106 (by decide) rfl (fun c106_13 => ?_) (fun c106_13 => ?_)
        · refine Go.iload_2 d_Model_cut_110 rfl ?_
          refine Go.aload_1 d_Model_cut_111 rfl ?_
          refine Go.getfield d_Model_cut_112 rfl f_Model_87 (mk_at_q (by omega)) (by rfl) ?_
          refine Go.iload_3 d_Model_cut_115 rfl ?_
          have o116_14 : kk < 401 := Classical.byContradiction fun w => by
            rw [if_pos o71_10, if_neg c76_11, if_pos o103_12, if_pos c106_13, if_neg w] at hr
            cases hr
          refine Go.iaload d_Model_cut_116 rfl (mk_at_q_3 (by omega)) (vp_in_nI o116_14 (by decide)) ?_
          rw [nI_clamp (show kk < 2 ^ 31 by omega)]
          refine Go.iadd d_Model_cut_117 rfl ?_
          rw [show (nI q11_2) + (nI ((updN (sh_mn H) kk p51_5) kk)) = nI (q11_2 + ((updN (sh_mn H) kk p51_5) kk)) from nI_add _ _]
          refine Go.istore_2 d_Model_cut_118 rfl (by rfl) ?_
          refine Go.iinc_3 d_Model_cut_119 rfl (by rfl) (nI_inc _) ?_
          refine Go.goto (t := 4) d_Model_cut_122 (by decide) ?_
          rw [if_pos o71_10, if_neg c76_11, if_pos o103_12, if_pos c106_13, if_pos o116_14] at hr
          exact ih _ _ _ hr
        · rw [if_pos o71_10, if_neg c76_11, if_pos o103_12, if_neg c106_13] at hr
          cases hr
          exact Go.vret d_Model_cut_109 rfl ⟨rfl, by dsimp only, rfl⟩
      · refine Go.aload_1 d_Model_cut_79 rfl ?_
        refine Go.getfield d_Model_cut_80 rfl f_Model_93 (mk_at_q (by omega)) (by rfl) ?_
        refine Go.iload_3 d_Model_cut_83 rfl ?_
        have o84_15 : kk < 401 := Classical.byContradiction fun w => by
          rw [if_pos o71_10, if_pos c76_11, if_neg w] at hr
          cases hr
        refine Go.iaload d_Model_cut_84 rfl (mk_at_q_1 (by omega)) (vp_in_nI o84_15 (by decide)) ?_
        rw [nI_clamp (show kk < 2 ^ 31 by omega)]
        refine Go.bipush (v := 70) d_Model_cut_85 rfl (by decide) ?_
        refine Go.icmp_eq (t := 98) d_Model_cut_87 (by decide) rfl (fun c87_16 => ?_) (fun c87_16 => ?_)
        · refine Go.aload_1 d_Model_cut_98 rfl ?_
          refine Go.getfield d_Model_cut_99 rfl f_Model_93 (mk_at_q (by omega)) (by rfl) ?_
          refine Go.iload_3 d_Model_cut_102 rfl ?_
          have o103_17 : kk < 401 := Classical.byContradiction fun w => by
            rw [if_pos o71_10, if_pos c76_11, if_pos o84_15, if_pos c87_16, if_neg w] at hr
            cases hr
          refine Go.iaload d_Model_cut_103 rfl (mk_at_q_1 (by omega)) (vp_in_nI o103_17 (by decide)) ?_
          rw [nI_clamp (show kk < 2 ^ 31 by omega)]
          refine Go.bipush (v := 70) d_Model_cut_104 rfl (by decide) ?_
          refine Go.icmp_lt (t := 110) d_Model_cut_106 (by decide) rfl (fun c106_18 => ?_) (fun c106_18 => ?_)
          · refine Go.iload_2 d_Model_cut_110 rfl ?_
            refine Go.aload_1 d_Model_cut_111 rfl ?_
            refine Go.getfield d_Model_cut_112 rfl f_Model_87 (mk_at_q (by omega)) (by rfl) ?_
            refine Go.iload_3 d_Model_cut_115 rfl ?_
            have o116_19 : kk < 401 := Classical.byContradiction fun w => by
              rw [if_pos o71_10, if_pos c76_11, if_pos o84_15, if_pos c87_16, if_pos o103_17, if_pos c106_18, if_neg w] at hr
              cases hr
            refine Go.iaload d_Model_cut_116 rfl (mk_at_q_3 (by omega)) (vp_in_nI o116_19 (by decide)) ?_
            rw [nI_clamp (show kk < 2 ^ 31 by omega)]
            refine Go.iadd d_Model_cut_117 rfl ?_
            rw [show (nI q11_2) + (nI ((updN (sh_mn H) kk p51_5) kk)) = nI (q11_2 + ((updN (sh_mn H) kk p51_5) kk)) from nI_add _ _]
            refine Go.istore_2 d_Model_cut_118 rfl (by rfl) ?_
            refine Go.iinc_3 d_Model_cut_119 rfl (by rfl) (nI_inc _) ?_
            refine Go.goto (t := 4) d_Model_cut_122 (by decide) ?_
            rw [if_pos o71_10, if_pos c76_11, if_pos o84_15, if_pos c87_16, if_pos o103_17, if_pos c106_18, if_pos o116_19] at hr
            exact ih _ _ _ hr
          · rw [if_pos o71_10, if_pos c76_11, if_pos o84_15, if_pos c87_16, if_pos o103_17, if_neg c106_18] at hr
            cases hr
            exact Go.vret d_Model_cut_109 rfl ⟨rfl, by dsimp only, rfl⟩
        · refine Go.aload_1 d_Model_cut_90 rfl ?_
          refine Go.getfield d_Model_cut_91 rfl f_Model_93 (mk_at_q (by omega)) (by rfl) ?_
          refine Go.iload_3 d_Model_cut_94 rfl ?_
          refine Go.bipush (v := 71) d_Model_cut_95 rfl (by decide) ?_
          have o97_20 : kk < 401 := Classical.byContradiction fun w => by
            rw [if_pos o71_10, if_pos c76_11, if_pos o84_15, if_neg c87_16, if_neg w] at hr
            cases hr
          refine Go.iastore d_Model_cut_97 rfl (mk_at_q_1 (by omega)) (vp_in_nI o97_20 (by decide)) ?_
          rw [nI_clamp (show kk < 2 ^ 31 by omega)]
          refine Go.heq (mk_arr_q_1 (by omega)) ?_
          refine Go.aload_1 d_Model_cut_98 rfl ?_
          refine Go.getfield d_Model_cut_99 rfl f_Model_93 (mk_at_q (by omega)) (by rfl) ?_
          refine Go.iload_3 d_Model_cut_102 rfl ?_
          have o103_21 : kk < 401 := Classical.byContradiction fun w => by
            rw [if_pos o71_10, if_pos c76_11, if_pos o84_15, if_neg c87_16, if_pos o97_20, if_neg w] at hr
            cases hr
          refine Go.iaload d_Model_cut_103 rfl (mk_at_q_1 (by omega)) (vp_in_nI o103_21 (by decide)) ?_
          rw [nI_clamp (show kk < 2 ^ 31 by omega)]
          refine Go.bipush (v := 70) d_Model_cut_104 rfl (by decide) ?_
          refine Go.icmp_lt (t := 110) d_Model_cut_106 (by decide) rfl (fun c106_22 => ?_) (fun c106_22 => ?_)
          · refine Go.iload_2 d_Model_cut_110 rfl ?_
            refine Go.aload_1 d_Model_cut_111 rfl ?_
            refine Go.getfield d_Model_cut_112 rfl f_Model_87 (mk_at_q (by omega)) (by rfl) ?_
            refine Go.iload_3 d_Model_cut_115 rfl ?_
            have o116_23 : kk < 401 := Classical.byContradiction fun w => by
              rw [if_pos o71_10, if_pos c76_11, if_pos o84_15, if_neg c87_16, if_pos o97_20, if_pos o103_21, if_pos c106_22, if_neg w] at hr
              cases hr
            refine Go.iaload d_Model_cut_116 rfl (mk_at_q_3 (by omega)) (vp_in_nI o116_23 (by decide)) ?_
            rw [nI_clamp (show kk < 2 ^ 31 by omega)]
            refine Go.iadd d_Model_cut_117 rfl ?_
            rw [show (nI q11_2) + (nI ((updN (sh_mn H) kk p51_5) kk)) = nI (q11_2 + ((updN (sh_mn H) kk p51_5) kk)) from nI_add _ _]
            refine Go.istore_2 d_Model_cut_118 rfl (by rfl) ?_
            refine Go.iinc_3 d_Model_cut_119 rfl (by rfl) (nI_inc _) ?_
            refine Go.goto (t := 4) d_Model_cut_122 (by decide) ?_
            rw [if_pos o71_10, if_pos c76_11, if_pos o84_15, if_neg c87_16, if_pos o97_20, if_pos o103_21, if_pos c106_22, if_pos o116_23] at hr
            exact ih _ _ _ hr
          · rw [if_pos o71_10, if_pos c76_11, if_pos o84_15, if_neg c87_16, if_pos o97_20, if_pos o103_21, if_neg c106_22] at hr
            cases hr
            exact Go.vret d_Model_cut_109 rfl ⟨rfl, by dsimp only, rfl⟩
theorem d_Model_cut_0 : decode M_Model_cut.2.1 0 = .ok (.iconst 0, 1) := by decide +kernel
theorem d_Model_cut_1 : decode M_Model_cut.2.1 1 = .ok (.istore_n 2, 1) := by decide +kernel
theorem d_Model_cut_2 : decode M_Model_cut.2.1 2 = .ok (.iconst 0, 1) := by decide +kernel
theorem d_Model_cut_3 : decode M_Model_cut.2.1 3 = .ok (.istore_n 3, 1) := by decide +kernel
def s_Model_cut (M : MO) (H : SH) : Option (SH) := (l_Model_cut_4 M 402 0 0 H)
set_option maxRecDepth 100000 in
set_option maxHeartbeats 4000000 in
theorem c_Model_cut {Γ : G9} {h : AH} {wd : Nat → Nat} {wa sn : Nat} {m q qs sa sb ro z : Nat} {M : MO} {H : SH} {p : SH} (geo : m + 2 ≤ q) (hsz : mo_sz M ≤ 2000) (hcs : CsOk Γ) (hwd : WdOk Γ wa wd) (hsg : SnOk Γ sn) (hr : s_Model_cut M H = some p) : CallR Γ M_Model_cut 6 [.ref m, .ref q] (mk_ Γ h m q qs sa sb ro M H) z none (mk_ Γ h m q qs sa sb ro M p) := by
  refine Call.of_go (L := [some (.ref m), some (.ref q), none, none]) (by decide +kernel) rfl (by exact Nat.le_of_ble_eq_true rfl) ?_
  unfold s_Model_cut at hr
  refine Go.iconst (v := 0) d_Model_cut_0 rfl (by decide) ?_
  refine Go.istore_2 d_Model_cut_1 rfl (by rfl) ?_
  refine Go.iconst (v := 0) d_Model_cut_2 rfl (by decide) ?_
  refine Go.istore_3 d_Model_cut_3 rfl (by rfl) ?_
  exact l_Model_cut_4_go (by omega) hsz hcs hwd hsg _ _ _ _ hr
