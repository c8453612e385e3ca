/-! the reference: numbers and names of a sheet -/
theorem d_Model_number_5 : decode M_Model_number.2.1 5 = .ok (.iload 4, 2) := by decide +kernel
theorem d_Model_number_7 : decode M_Model_number.2.1 7 = .ok (.aload_n 1, 1) := by decide +kernel
theorem d_Model_number_8 : decode M_Model_number.2.1 8 = .ok (.getfield 87, 3) := by decide +kernel
theorem d_Model_number_11 : decode M_Model_number.2.1 11 = .ok (.iload_n 2, 1) := by decide +kernel
theorem d_Model_number_12 : decode M_Model_number.2.1 12 = .ok (.iaload, 1) := by decide +kernel
theorem d_Model_number_13 : decode M_Model_number.2.1 13 = .ok (.if_icmp .ge 32, 3) := by decide +kernel
theorem d_Model_number_16 : decode M_Model_number.2.1 16 = .ok (.bipush 10, 2) := by decide +kernel
theorem d_Model_number_18 : decode M_Model_number.2.1 18 = .ok (.iload_n 3, 1) := by decide +kernel
theorem d_Model_number_19 : decode M_Model_number.2.1 19 = .ok (.imul, 1) := by decide +kernel
theorem d_Model_number_20 : decode M_Model_number.2.1 20 = .ok (.aload_n 0, 1) := by decide +kernel
theorem d_Model_number_21 : decode M_Model_number.2.1 21 = .ok (.getfield 9, 3) := by decide +kernel
theorem d_Model_number_24 : decode M_Model_number.2.1 24 = .ok (.aload_n 1, 1) := by decide +kernel
theorem d_Model_number_25 : decode M_Model_number.2.1 25 = .ok (.getfield 84, 3) := by decide +kernel
theorem d_Model_number_28 : decode M_Model_number.2.1 28 = .ok (.iload_n 2, 1) := by decide +kernel
theorem d_Model_number_29 : decode M_Model_number.2.1 29 = .ok (.iaload, 1) := by decide +kernel
theorem d_Model_number_30 : decode M_Model_number.2.1 30 = .ok (.iload 4, 2) := by decide +kernel
theorem d_Model_number_32 : decode M_Model_number.2.1 32 = .ok (.iadd, 1) := by decide +kernel
theorem d_Model_number_33 : decode M_Model_number.2.1 33 = .ok (.iaload, 1) := by decide +kernel
theorem d_Model_number_34 : decode M_Model_number.2.1 34 = .ok (.iadd, 1) := by decide +kernel
theorem d_Model_number_35 : decode M_Model_number.2.1 35 = .ok (.bipush 48, 2) := by decide +kernel
theorem d_Model_number_37 : decode M_Model_number.2.1 37 = .ok (.isub, 1) := by decide +kernel
theorem d_Model_number_38 : decode M_Model_number.2.1 38 = .ok (.istore_n 3, 1) := by decide +kernel
theorem d_Model_number_39 : decode M_Model_number.2.1 39 = .ok (.iinc 4 1, 3) := by decide +kernel
theorem d_Model_number_42 : decode M_Model_number.2.1 42 = .ok (.goto (-37), 3) := by decide +kernel
theorem d_Model_number_45 : decode M_Model_number.2.1 45 = .ok (.iload_n 3, 1) := by decide +kernel
theorem d_Model_number_46 : decode M_Model_number.2.1 46 = .ok (.ireturn, 1) := by decide +kernel
def l_Model_number_5 (M : MO) (H : SH) (x2 : Nat) : Nat → Int32 → Nat → Option (Int32)
  | 0, _, _ => none
  | k + 1, sm, i => (if x2 < 401 then (if (nI ((sh_mn H) x2)) ≤ (nI i) then some (sm) else (if x2 < 401 then (if (((sh_fr H) x2) + i) < 2000 then (l_Model_number_5 M H x2 k (((10 * sm) + ((mo_ta M) (((sh_fr H) x2) + i))) - 48) (i + 1)) else none) else none)) else none)
set_option maxRecDepth 100000 in
set_option maxHeartbeats 4000000 in
theorem l_Model_number_5_go {Γ : G9} {h : AH} {m q qs sa sb ro z : Nat} {M : MO} {H : SH} {x2 : Nat} {p : Int32} (bx2 : x2 ≤ 2500) (geo : m + 2 ≤ q) : ∀ (k : Nat) (sm : Int32) (i : Nat), l_Model_number_5 M H x2 k sm i = some p → Go Γ M_Model_number 0 0 0 5 [some (.ref m), some (.ref q), some (.int (nI x2)), some (.int sm), some (.int (nI i))] [] (mk_ Γ h m q qs sa sb ro M H) z (RQ (some (.int p)) (mk_ Γ h m q qs sa sb ro M H) z) noX := by
  intro k
  induction k with
  | zero =>
    intro sm i hr
    cases hr
  | succ k ih =>
    intro sm i hr
    unfold l_Model_number_5 at hr
    refine Go.iload_4 d_Model_number_5 rfl ?_
    refine Go.aload_1 d_Model_number_7 rfl ?_
    refine Go.getfield d_Model_number_8 rfl f_Model_87 (mk_at_q (by omega)) (by rfl) ?_
    refine Go.iload_2 d_Model_number_11 rfl ?_
    have o12_1 : x2 < 401 := Classical.byContradiction fun w => by
      rw [if_neg w] at hr
      cases hr
    refine Go.iaload d_Model_number_12 rfl (mk_at_q_3 (by omega)) (vp_in_nI o12_1 (by decide)) ?_
    rw [nI_clamp (show x2 < 2 ^ 31 by omega)]
    refine Go.icmp_ge (t := 45) d_Model_number_13 (by decide) rfl (fun c13_2 => ?_) (fun c13_2 => ?_)
    · refine Go.iload_3 d_Model_number_45 rfl ?_
      rw [if_pos o12_1, if_pos c13_2] at hr
      cases hr
      exact Go.iret d_Model_number_46 rfl rfl ⟨rfl, rfl, rfl⟩
    · refine Go.bipush (v := 10) d_Model_number_16 rfl (by decide) ?_
      refine Go.iload_3 d_Model_number_18 rfl ?_
      refine Go.imul d_Model_number_19 rfl ?_
      refine Go.aload_0 d_Model_number_20 rfl ?_
      refine Go.getfield d_Model_number_21 rfl f_Model_9 (mk_at_m (by omega)) (by rfl) ?_
      refine Go.aload_1 d_Model_number_24 rfl ?_
      refine Go.getfield d_Model_number_25 rfl f_Model_84 (mk_at_q (by omega)) (by rfl) ?_
      refine Go.iload_2 d_Model_number_28 rfl ?_
      have o29_3 : x2 < 401 := Classical.byContradiction fun w => by
        rw [if_pos o12_1, if_neg c13_2, if_neg w] at hr
        cases hr
      refine Go.iaload d_Model_number_29 rfl (mk_at_q_2 (by omega)) (vp_in_nI o29_3 (by decide)) ?_
      rw [nI_clamp (show x2 < 2 ^ 31 by omega)]
      refine Go.iload_4 d_Model_number_30 rfl ?_
      refine Go.iadd d_Model_number_32 rfl ?_
      rw [show (nI ((sh_fr H) x2)) + (nI i) = nI (((sh_fr H) x2) + i) from nI_add _ _]
      have o33_4 : (((sh_fr H) x2) + i) < 2000 := Classical.byContradiction fun w => by
        rw [if_pos o12_1, if_neg c13_2, if_pos o29_3, if_neg w] at hr
        cases hr
      refine Go.iaload d_Model_number_33 rfl (mk_at_m_1 (by omega)) (vp_in_nI o33_4 (by decide)) ?_
      rw [nI_clamp (show (((sh_fr H) x2) + i) < 2 ^ 31 by omega)]
      refine Go.iadd d_Model_number_34 rfl ?_
      refine Go.bipush (v := 48) d_Model_number_35 rfl (by decide) ?_
      refine Go.isub d_Model_number_37 rfl ?_
      refine Go.istore_3 d_Model_number_38 rfl (by rfl) ?_
      refine Go.iinc_4 d_Model_number_39 rfl (by rfl) (nI_inc _) ?_
      refine Go.goto (t := 5) d_Model_number_42 (by decide) ?_
      rw [if_pos o12_1, if_neg c13_2, if_pos o29_3, if_pos o33_4] at hr
      exact ih _ _ hr
theorem d_Model_number_0 : decode M_Model_number.2.1 0 = .ok (.iconst 0, 1) := by decide +kernel
theorem d_Model_number_1 : decode M_Model_number.2.1 1 = .ok (.istore_n 3, 1) := by decide +kernel
theorem d_Model_number_2 : decode M_Model_number.2.1 2 = .ok (.iconst 0, 1) := by decide +kernel
theorem d_Model_number_3 : decode M_Model_number.2.1 3 = .ok (.istore 4, 2) := by decide +kernel
def s_Model_number (M : MO) (H : SH) (x2 : Nat) : Option (Int32) := (l_Model_number_5 M H x2 2001 0 0)
set_option maxRecDepth 100000 in
set_option maxHeartbeats 4000000 in
theorem c_Model_number {Γ : G9} {h : AH} {m q qs sa sb ro z : Nat} {M : MO} {H : SH} {x2 : Nat} {p : Int32} (bx2 : x2 ≤ 2500) (geo : m + 2 ≤ q) (hr : s_Model_number M H x2 = some p) : CallR Γ M_Model_number 0 [.ref m, .ref q, .int (nI x2)] (mk_ Γ h m q qs sa sb ro M H) z (some (.int p)) (mk_ Γ h m q qs sa sb ro M H) := by
  refine Call.of_go (L := [some (.ref m), some (.ref q), some (.int (nI x2)), none, none]) (by decide +kernel) rfl (by exact Nat.le_of_ble_eq_true rfl) ?_
  unfold s_Model_number at hr
  refine Go.iconst (v := 0) d_Model_number_0 rfl (by decide) ?_
  refine Go.istore_3 d_Model_number_1 rfl (by rfl) ?_
  refine Go.iconst (v := 0) d_Model_number_2 rfl (by decide) ?_
  refine Go.istore_4 d_Model_number_3 rfl (by rfl) ?_
  exact l_Model_number_5_go bx2 (by omega) _ _ _ hr
theorem d_Model_areSame_25 : decode M_Model_areSame.2.1 25 = .ok (.iload 4, 2) := by decide +kernel
theorem d_Model_areSame_27 : decode M_Model_areSame.2.1 27 = .ok (.ifCond .eq 58, 3) := by decide +kernel
theorem d_Model_areSame_30 : decode M_Model_areSame.2.1 30 = .ok (.iload 5, 2) := by decide +kernel
theorem d_Model_areSame_32 : decode M_Model_areSame.2.1 32 = .ok (.aload_n 1, 1) := by decide +kernel
theorem d_Model_areSame_33 : decode M_Model_areSame.2.1 33 = .ok (.getfield 87, 3) := by decide +kernel
theorem d_Model_areSame_36 : decode M_Model_areSame.2.1 36 = .ok (.iload_n 2, 1) := by decide +kernel
theorem d_Model_areSame_37 : decode M_Model_areSame.2.1 37 = .ok (.iaload, 1) := by decide +kernel
theorem d_Model_areSame_38 : decode M_Model_areSame.2.1 38 = .ok (.if_icmp .ge 47, 3) := by decide +kernel
theorem d_Model_areSame_41 : decode M_Model_areSame.2.1 41 = .ok (.aload_n 0, 1) := by decide +kernel
theorem d_Model_areSame_42 : decode M_Model_areSame.2.1 42 = .ok (.getfield 9, 3) := by decide +kernel
theorem d_Model_areSame_45 : decode M_Model_areSame.2.1 45 = .ok (.aload_n 1, 1) := by decide +kernel
theorem d_Model_areSame_46 : decode M_Model_areSame.2.1 46 = .ok (.getfield 84, 3) := by decide +kernel
theorem d_Model_areSame_49 : decode M_Model_areSame.2.1 49 = .ok (.iload_n 2, 1) := by decide +kernel
theorem d_Model_areSame_50 : decode M_Model_areSame.2.1 50 = .ok (.iaload, 1) := by decide +kernel
theorem d_Model_areSame_51 : decode M_Model_areSame.2.1 51 = .ok (.iload 5, 2) := by decide +kernel
theorem d_Model_areSame_53 : decode M_Model_areSame.2.1 53 = .ok (.iadd, 1) := by decide +kernel
theorem d_Model_areSame_54 : decode M_Model_areSame.2.1 54 = .ok (.iaload, 1) := by decide +kernel
theorem d_Model_areSame_55 : decode M_Model_areSame.2.1 55 = .ok (.aload_n 0, 1) := by decide +kernel
theorem d_Model_areSame_56 : decode M_Model_areSame.2.1 56 = .ok (.getfield 9, 3) := by decide +kernel
theorem d_Model_areSame_59 : decode M_Model_areSame.2.1 59 = .ok (.aload_n 1, 1) := by decide +kernel
theorem d_Model_areSame_60 : decode M_Model_areSame.2.1 60 = .ok (.getfield 84, 3) := by decide +kernel
theorem d_Model_areSame_63 : decode M_Model_areSame.2.1 63 = .ok (.iload_n 3, 1) := by decide +kernel
theorem d_Model_areSame_64 : decode M_Model_areSame.2.1 64 = .ok (.iaload, 1) := by decide +kernel
theorem d_Model_areSame_65 : decode M_Model_areSame.2.1 65 = .ok (.iload 5, 2) := by decide +kernel
theorem d_Model_areSame_67 : decode M_Model_areSame.2.1 67 = .ok (.iadd, 1) := by decide +kernel
theorem d_Model_areSame_68 : decode M_Model_areSame.2.1 68 = .ok (.iaload, 1) := by decide +kernel
theorem d_Model_areSame_69 : decode M_Model_areSame.2.1 69 = .ok (.if_icmp .ne 7, 3) := by decide +kernel
theorem d_Model_areSame_72 : decode M_Model_areSame.2.1 72 = .ok (.iconst 1, 1) := by decide +kernel
theorem d_Model_areSame_73 : decode M_Model_areSame.2.1 73 = .ok (.goto 4, 3) := by decide +kernel
theorem d_Model_areSame_76 : decode M_Model_areSame.2.1 76 = .ok (.iconst 0, 1) := by decide +kernel
theorem d_Model_areSame_77 : decode M_Model_areSame.2.1 77 = .ok (.istore 4, 2) := by decide +kernel
theorem d_Model_areSame_79 : decode M_Model_areSame.2.1 79 = .ok (.iinc 5 1, 3) := by decide +kernel
theorem d_Model_areSame_82 : decode M_Model_areSame.2.1 82 = .ok (.goto (-57), 3) := by decide +kernel
theorem d_Model_areSame_85 : decode M_Model_areSame.2.1 85 = .ok (.iload 4, 2) := by decide +kernel
theorem d_Model_areSame_87 : decode M_Model_areSame.2.1 87 = .ok (.ireturn, 1) := by decide +kernel
def l_Model_areSame_25 (M : MO) (H : SH) (x2 : Nat) (x3 : Nat) : Nat → Int32 → Nat → Option (Int32)
  | 0, _, _ => none
  | k + 1, ar, i => (if ar = 0 then (if b01 ar = true then some (ar) else none) else (if x2 < 401 then (if (nI ((sh_mn H) x2)) ≤ (nI i) then (if b01 ar = true then some (ar) else none) else (if x2 < 401 then (if (((sh_fr H) x2) + i) < 2000 then (if x3 < 401 then (if (((sh_fr H) x3) + i) < 2000 then (if ((mo_ta M) (((sh_fr H) x2) + i)) = ((mo_ta M) (((sh_fr H) x3) + i)) then (l_Model_areSame_25 M H x2 x3 k 1 (i + 1)) else (l_Model_areSame_25 M H x2 x3 k 0 (i + 1))) else none) else none) else none) else none)) else none))
set_option maxRecDepth 100000 in
set_option maxHeartbeats 4000000 in
theorem l_Model_areSame_25_go {Γ : G9} {h : AH} {m q qs sa sb ro z : Nat} {M : MO} {H : SH} {x2 : Nat} {x3 : Nat} {p : Int32} (bx2 : x2 ≤ 2500) (bx3 : x3 ≤ 2500) (geo : m + 2 ≤ q) : ∀ (k : Nat) (ar : Int32) (i : Nat), l_Model_areSame_25 M H x2 x3 k ar i = some p → Go Γ M_Model_areSame 0 0 0 25 [some (.ref m), some (.ref q), some (.int (nI x2)), some (.int (nI x3)), some (.int ar), some (.int (nI i))] [] (mk_ Γ h m q qs sa sb ro M H) z (RQ (some (.int p)) (mk_ Γ h m q qs sa sb ro M H) z) noX := by
  intro k
  induction k with
  | zero =>
    intro ar i hr
    cases hr
  | succ k ih =>
    intro ar i hr
    unfold l_Model_areSame_25 at hr
    refine Go.iload_4 d_Model_areSame_25 rfl ?_
    refine Go.if_eq (t := 85) d_Model_areSame_27 (by decide) rfl (fun c27_1 => ?_) (fun c27_1 => ?_)
    · refine Go.iload_4 d_Model_areSame_85 rfl ?_
      have b87_2 : b01 ar = true := Classical.byContradiction fun w => by
        rw [if_pos c27_1, if_neg w] at hr
        cases hr
      rw [if_pos c27_1, if_pos b87_2] at hr
      cases hr
      exact Go.iret d_Model_areSame_87 rfl (nb (b01_or b87_2)) ⟨rfl, rfl, rfl⟩
    · refine Go.iload_5 d_Model_areSame_30 rfl ?_
      refine Go.aload_1 d_Model_areSame_32 rfl ?_
      refine Go.getfield d_Model_areSame_33 rfl f_Model_87 (mk_at_q (by omega)) (by rfl) ?_
      refine Go.iload_2 d_Model_areSame_36 rfl ?_
      have o37_3 : x2 < 401 := Classical.byContradiction fun w => by
        rw [if_neg c27_1, if_neg w] at hr
        cases hr
      refine Go.iaload d_Model_areSame_37 rfl (mk_at_q_3 (by omega)) (vp_in_nI o37_3 (by decide)) ?_
      rw [nI_clamp (show x2 < 2 ^ 31 by omega)]
      refine Go.icmp_ge (t := 85) d_Model_areSame_38 (by decide) rfl (fun c38_4 => ?_) (fun c38_4 => ?_)
      · refine Go.iload_4 d_Model_areSame_85 rfl ?_
        have b87_5 : b01 ar = true := Classical.byContradiction fun w => by
          rw [if_neg c27_1, if_pos o37_3, if_pos c38_4, if_neg w] at hr
          cases hr
        rw [if_neg c27_1, if_pos o37_3, if_pos c38_4, if_pos b87_5] at hr
        cases hr
        exact Go.iret d_Model_areSame_87 rfl (nb (b01_or b87_5)) ⟨rfl, rfl, rfl⟩
      · refine Go.aload_0 d_Model_areSame_41 rfl ?_
        refine Go.getfield d_Model_areSame_42 rfl f_Model_9 (mk_at_m (by omega)) (by rfl) ?_
        refine Go.aload_1 d_Model_areSame_45 rfl ?_
        refine Go.getfield d_Model_areSame_46 rfl f_Model_84 (mk_at_q (by omega)) (by rfl) ?_
        refine Go.iload_2 d_Model_areSame_49 rfl ?_
        have o50_6 : x2 < 401 := Classical.byContradiction fun w => by
          rw [if_neg c27_1, if_pos o37_3, if_neg c38_4, if_neg w] at hr
          cases hr
        refine Go.iaload d_Model_areSame_50 rfl (mk_at_q_2 (by omega)) (vp_in_nI o50_6 (by decide)) ?_
        rw [nI_clamp (show x2 < 2 ^ 31 by omega)]
        refine Go.iload_5 d_Model_areSame_51 rfl ?_
        refine Go.iadd d_Model_areSame_53 rfl ?_
        rw [show (nI ((sh_fr H) x2)) + (nI i) = nI (((sh_fr H) x2) + i) from nI_add _ _]
        have o54_7 : (((sh_fr H) x2) + i) < 2000 := Classical.byContradiction fun w => by
          rw [if_neg c27_1, if_pos o37_3, if_neg c38_4, if_pos o50_6, if_neg w] at hr
          cases hr
        refine Go.iaload d_Model_areSame_54 rfl (mk_at_m_1 (by omega)) (vp_in_nI o54_7 (by decide)) ?_
        rw [nI_clamp (show (((sh_fr H) x2) + i) < 2 ^ 31 by omega)]
        refine Go.aload_0 d_Model_areSame_55 rfl ?_
        refine Go.getfield d_Model_areSame_56 rfl f_Model_9 (mk_at_m (by omega)) (by rfl) ?_
        refine Go.aload_1 d_Model_areSame_59 rfl ?_
        refine Go.getfield d_Model_areSame_60 rfl f_Model_84 (mk_at_q (by omega)) (by rfl) ?_
        refine Go.iload_3 d_Model_areSame_63 rfl ?_
        have o64_8 : x3 < 401 := Classical.byContradiction fun w => by
          rw [if_neg c27_1, if_pos o37_3, if_neg c38_4, if_pos o50_6, if_pos o54_7, if_neg w] at hr
          cases hr
        refine Go.iaload d_Model_areSame_64 rfl (mk_at_q_2 (by omega)) (vp_in_nI o64_8 (by decide)) ?_
        rw [nI_clamp (show x3 < 2 ^ 31 by omega)]
        refine Go.iload_5 d_Model_areSame_65 rfl ?_
        refine Go.iadd d_Model_areSame_67 rfl ?_
        rw [show (nI ((sh_fr H) x3)) + (nI i) = nI (((sh_fr H) x3) + i) from nI_add _ _]
        have o68_9 : (((sh_fr H) x3) + i) < 2000 := Classical.byContradiction fun w => by
          rw [if_neg c27_1, if_pos o37_3, if_neg c38_4, if_pos o50_6, if_pos o54_7, if_pos o64_8, if_neg w] at hr
          cases hr
        refine Go.iaload d_Model_areSame_68 rfl (mk_at_m_1 (by omega)) (vp_in_nI o68_9 (by decide)) ?_
        rw [nI_clamp (show (((sh_fr H) x3) + i) < 2 ^ 31 by omega)]
        refine Go.icmp_ne (t := 76) d_Model_areSame_69 (by decide) rfl (fun c69_10 => ?_) (fun c69_10 => ?_)
        · refine Go.iconst (v := 0) d_Model_areSame_76 rfl (by decide) ?_
          refine Go.istore_4 d_Model_areSame_77 rfl (by rfl) ?_
          refine Go.iinc_5 d_Model_areSame_79 rfl (by rfl) (nI_inc _) ?_
          refine Go.goto (t := 25) d_Model_areSame_82 (by decide) ?_
          rw [if_neg c27_1, if_pos o37_3, if_neg c38_4, if_pos o50_6, if_pos o54_7, if_pos o64_8, if_pos o68_9, if_neg c69_10] at hr
          exact ih _ _ hr
        · refine Go.iconst (v := 1) d_Model_areSame_72 rfl (by decide) ?_
          refine Go.goto (t := 77) d_Model_areSame_73 (by decide) ?_
          refine Go.istore_4 d_Model_areSame_77 rfl (by rfl) ?_
          refine Go.iinc_5 d_Model_areSame_79 rfl (by rfl) (nI_inc _) ?_
          refine Go.goto (t := 25) d_Model_areSame_82 (by decide) ?_
          rw [if_neg c27_1, if_pos o37_3, if_neg c38_4, if_pos o50_6, if_pos o54_7, if_pos o64_8, if_pos o68_9, if_pos c69_10] at hr
          exact ih _ _ hr
theorem d_Model_areSame_0 : decode M_Model_areSame.2.1 0 = .ok (.aload_n 1, 1) := by decide +kernel
theorem d_Model_areSame_1 : decode M_Model_areSame.2.1 1 = .ok (.getfield 87, 3) := by decide +kernel
theorem d_Model_areSame_4 : decode M_Model_areSame.2.1 4 = .ok (.iload_n 2, 1) := by decide +kernel
theorem d_Model_areSame_5 : decode M_Model_areSame.2.1 5 = .ok (.iaload, 1) := by decide +kernel
theorem d_Model_areSame_6 : decode M_Model_areSame.2.1 6 = .ok (.aload_n 1, 1) := by decide +kernel
theorem d_Model_areSame_7 : decode M_Model_areSame.2.1 7 = .ok (.getfield 87, 3) := by decide +kernel
theorem d_Model_areSame_10 : decode M_Model_areSame.2.1 10 = .ok (.iload_n 3, 1) := by decide +kernel
theorem d_Model_areSame_11 : decode M_Model_areSame.2.1 11 = .ok (.iaload, 1) := by decide +kernel
theorem d_Model_areSame_12 : decode M_Model_areSame.2.1 12 = .ok (.if_icmp .ne 7, 3) := by decide +kernel
theorem d_Model_areSame_15 : decode M_Model_areSame.2.1 15 = .ok (.iconst 1, 1) := by decide +kernel
theorem d_Model_areSame_16 : decode M_Model_areSame.2.1 16 = .ok (.goto 4, 3) := by decide +kernel
theorem d_Model_areSame_19 : decode M_Model_areSame.2.1 19 = .ok (.iconst 0, 1) := by decide +kernel
theorem d_Model_areSame_20 : decode M_Model_areSame.2.1 20 = .ok (.istore 4, 2) := by decide +kernel
theorem d_Model_areSame_22 : decode M_Model_areSame.2.1 22 = .ok (.iconst 0, 1) := by decide +kernel
theorem d_Model_areSame_23 : decode M_Model_areSame.2.1 23 = .ok (.istore 5, 2) := by decide +kernel
def s_Model_areSame (M : MO) (H : SH) (x2 : Nat) (x3 : Nat) : Option (Int32) := (if x2 < 401 then (if x3 < 401 then (if (nI ((sh_mn H) x2)) = (nI ((sh_mn H) x3)) then (l_Model_areSame_25 M H x2 x3 2001 1 0) else (l_Model_areSame_25 M H x2 x3 2001 0 0)) else none) else none)
set_option maxRecDepth 100000 in
set_option maxHeartbeats 4000000 in
theorem c_Model_areSame {Γ : G9} {h : AH} {m q qs sa sb ro z : Nat} {M : MO} {H : SH} {x2 : Nat} {x3 : Nat} {p : Int32} (bx2 : x2 ≤ 2500) (bx3 : x3 ≤ 2500) (geo : m + 2 ≤ q) (hr : s_Model_areSame M H x2 x3 = some p) : CallR Γ M_Model_areSame 0 [.ref m, .ref q, .int (nI x2), .int (nI x3)] (mk_ Γ h m q qs sa sb ro M H) z (some (.int p)) (mk_ Γ h m q qs sa sb ro M H) := by
  refine Call.of_go (L := [some (.ref m), some (.ref q), some (.int (nI x2)), some (.int (nI x3)), none, none]) (by decide +kernel) rfl (by exact Nat.le_of_ble_eq_true rfl) ?_
  unfold s_Model_areSame at hr
  refine Go.aload_1 d_Model_areSame_0 rfl ?_
  refine Go.getfield d_Model_areSame_1 rfl f_Model_87 (mk_at_q (by omega)) (by rfl) ?_
  refine Go.iload_2 d_Model_areSame_4 rfl ?_
  have o5_1 : x2 < 401 := Classical.byContradiction fun w => by
    rw [if_neg w] at hr
    cases hr
  refine Go.iaload d_Model_areSame_5 rfl (mk_at_q_3 (by omega)) (vp_in_nI o5_1 (by decide)) ?_
  rw [nI_clamp (show x2 < 2 ^ 31 by omega)]
  refine Go.aload_1 d_Model_areSame_6 rfl ?_
  refine Go.getfield d_Model_areSame_7 rfl f_Model_87 (mk_at_q (by omega)) (by rfl) ?_
  refine Go.iload_3 d_Model_areSame_10 rfl ?_
  have o11_2 : x3 < 401 := Classical.byContradiction fun w => by
    rw [if_pos o5_1, if_neg w] at hr
    cases hr
  refine Go.iaload d_Model_areSame_11 rfl (mk_at_q_3 (by omega)) (vp_in_nI o11_2 (by decide)) ?_
  rw [nI_clamp (show x3 < 2 ^ 31 by omega)]
  refine Go.icmp_ne (t := 19) d_Model_areSame_12 (by decide) rfl (fun c12_3 => ?_) (fun c12_3 => ?_)
  · refine Go.iconst (v := 0) d_Model_areSame_19 rfl (by decide) ?_
    refine Go.istore_4 d_Model_areSame_20 rfl (by rfl) ?_
    refine Go.iconst (v := 0) d_Model_areSame_22 rfl (by decide) ?_
    refine Go.istore_5 d_Model_areSame_23 rfl (by rfl) ?_
    rw [if_pos o5_1, if_pos o11_2, if_neg c12_3] at hr
    exact l_Model_areSame_25_go bx2 bx3 (by omega) _ _ _ hr
  · refine Go.iconst (v := 1) d_Model_areSame_15 rfl (by decide) ?_
    refine Go.goto (t := 20) d_Model_areSame_16 (by decide) ?_
    refine Go.istore_4 d_Model_areSame_20 rfl (by rfl) ?_
    refine Go.iconst (v := 0) d_Model_areSame_22 rfl (by decide) ?_
    refine Go.istore_5 d_Model_areSame_23 rfl (by rfl) ?_
    rw [if_pos o5_1, if_pos o11_2, if_pos c12_3] at hr
    exact l_Model_areSame_25_go bx2 bx3 (by omega) _ _ _ hr
theorem mk_at_q_5 {Γ : G9} {h : AH} {m q qs sa sb ro : Nat} {M : MO} {H : SH} (geo : m + 2 ≤ q) : (mk_ Γ h m q qs sa sb ro M H) (q + 5) = some (aI Γ 12 (fun j => nI ((sh_ha H) j))) := by
  unfold mk_
  exact (sh_g5)
theorem mk_at_q_6 {Γ : G9} {h : AH} {m q qs sa sb ro : Nat} {M : MO} {H : SH} (geo : m + 2 ≤ q) : (mk_ Γ h m q qs sa sb ro M H) (q + 6) = some (aI Γ 72 (fun j => nI ((sh_na H) j))) := by
  unfold mk_
  exact (sh_g6)
theorem d_Model_find_3 : decode M_Model_find.2.1 3 = .ok (.iload 4, 2) := by decide +kernel
theorem d_Model_find_5 : decode M_Model_find.2.1 5 = .ok (.aload_n 1, 1) := by decide +kernel
theorem d_Model_find_6 : decode M_Model_find.2.1 6 = .ok (.getfield 40, 3) := by decide +kernel
theorem d_Model_find_9 : decode M_Model_find.2.1 9 = .ok (.iload_n 2, 1) := by decide +kernel
theorem d_Model_find_10 : decode M_Model_find.2.1 10 = .ok (.iaload, 1) := by decide +kernel
theorem d_Model_find_11 : decode M_Model_find.2.1 11 = .ok (.if_icmp .ge 33, 3) := by decide +kernel
theorem d_Model_find_14 : decode M_Model_find.2.1 14 = .ok (.aload_n 0, 1) := by decide +kernel
theorem d_Model_find_15 : decode M_Model_find.2.1 15 = .ok (.aload_n 1, 1) := by decide +kernel
theorem d_Model_find_16 : decode M_Model_find.2.1 16 = .ok (.aload_n 1, 1) := by decide +kernel
theorem d_Model_find_17 : decode M_Model_find.2.1 17 = .ok (.getfield 147, 3) := by decide +kernel
theorem d_Model_find_20 : decode M_Model_find.2.1 20 = .ok (.bipush 6, 2) := by decide +kernel
theorem d_Model_find_22 : decode M_Model_find.2.1 22 = .ok (.iload_n 2, 1) := by decide +kernel
theorem d_Model_find_23 : decode M_Model_find.2.1 23 = .ok (.imul, 1) := by decide +kernel
theorem d_Model_find_24 : decode M_Model_find.2.1 24 = .ok (.iload 4, 2) := by decide +kernel
theorem d_Model_find_26 : decode M_Model_find.2.1 26 = .ok (.iadd, 1) := by decide +kernel
theorem d_Model_find_27 : decode M_Model_find.2.1 27 = .ok (.iaload, 1) := by decide +kernel
theorem d_Model_find_28 : decode M_Model_find.2.1 28 = .ok (.iload_n 3, 1) := by decide +kernel
theorem d_Model_find_29 : decode M_Model_find.2.1 29 = .ok (.invokevirtual 150, 3) := by decide +kernel
theorem d_Model_find_32 : decode M_Model_find.2.1 32 = .ok (.ifCond .eq 6, 3) := by decide +kernel
theorem d_Model_find_35 : decode M_Model_find.2.1 35 = .ok (.iload 4, 2) := by decide +kernel
theorem d_Model_find_37 : decode M_Model_find.2.1 37 = .ok (.ireturn, 1) := by decide +kernel
theorem d_Model_find_38 : decode M_Model_find.2.1 38 = .ok (.iinc 4 1, 3) := by decide +kernel
theorem d_Model_find_41 : decode M_Model_find.2.1 41 = .ok (.goto (-38), 3) := by decide +kernel
theorem d_Model_find_44 : decode M_Model_find.2.1 44 = .ok (.iconst (-1), 1) := by decide +kernel
theorem d_Model_find_45 : decode M_Model_find.2.1 45 = .ok (.ireturn, 1) := by decide +kernel
def l_Model_find_3 (M : MO) (H : SH) (x2 : Nat) (x3 : Nat) : Nat → Nat → Option (Int32)
  | 0, _ => none
  | k + 1, i => (if x2 < 12 then (if (nI ((sh_ha H) x2)) ≤ (nI i) then some ((-1)) else (if ((6 * x2) + i) < 72 then (if ((sh_na H) ((6 * x2) + i)) ≤ 2500 then (if x3 ≤ 2500 then ((s_Model_areSame M H ((sh_na H) ((6 * x2) + i)) x3).bind fun p29_6 => (if p29_6 = 0 then (l_Model_find_3 M H x2 x3 k (i + 1)) else some ((nI i)))) else none) else none) else none)) else none)
set_option maxRecDepth 100000 in
set_option maxHeartbeats 4000000 in
theorem l_Model_find_3_go {Γ : G9} {h : AH} {m q qs sa sb ro z : Nat} {M : MO} {H : SH} {x2 : Nat} {x3 : Nat} {p : Int32} (bx2 : x2 ≤ 12) (bx3 : x3 ≤ 2500) (geo : m + 2 ≤ q) : ∀ (k : Nat) (i : Nat), l_Model_find_3 M H x2 x3 k i = some p → Go Γ M_Model_find 1 0 0 3 [some (.ref m), some (.ref q), some (.int (nI x2)), some (.int (nI x3)), some (.int (nI i))] [] (mk_ Γ h m q qs sa sb ro M H) z (RQ (some (.int p)) (mk_ Γ h m q qs sa sb ro M H) z) noX := by
  intro k
  induction k with
  | zero =>
    intro i hr
    cases hr
  | succ k ih =>
    intro i hr
    unfold l_Model_find_3 at hr
    refine Go.iload_4 d_Model_find_3 rfl ?_
    refine Go.aload_1 d_Model_find_5 rfl ?_
    refine Go.getfield d_Model_find_6 rfl f_Model_40 (mk_at_q (by omega)) (by rfl) ?_
    refine Go.iload_2 d_Model_find_9 rfl ?_
    have o10_1 : x2 < 12 := Classical.byContradiction fun w => by
      rw [if_neg w] at hr
      cases hr
    refine Go.iaload d_Model_find_10 rfl (mk_at_q_5 (by omega)) (vp_in_nI o10_1 (by decide)) ?_
    rw [nI_clamp (show x2 < 2 ^ 31 by omega)]
    refine Go.icmp_ge (t := 44) d_Model_find_11 (by decide) rfl (fun c11_2 => ?_) (fun c11_2 => ?_)
    · refine Go.iconst (v := (-1)) d_Model_find_44 rfl (by decide) ?_
      rw [if_pos o10_1, if_pos c11_2] at hr
      cases hr
      exact Go.iret d_Model_find_45 rfl rfl ⟨rfl, rfl, rfl⟩
    · refine Go.aload_0 d_Model_find_14 rfl ?_
      refine Go.aload_1 d_Model_find_15 rfl ?_
      refine Go.aload_1 d_Model_find_16 rfl ?_
      refine Go.getfield d_Model_find_17 rfl f_Model_147 (mk_at_q (by omega)) (by rfl) ?_
      refine Go.bipush (v := 6) d_Model_find_20 rfl (by decide) ?_
      refine Go.iload_2 d_Model_find_22 rfl ?_
      refine Go.imul d_Model_find_23 rfl ?_
      rw [show 6 * nI x2 = nI (6 * x2) from by rw [show (6 : Int32) = nI 6 from rfl, pk_mul]]
      refine Go.iload_4 d_Model_find_24 rfl ?_
      refine Go.iadd d_Model_find_26 rfl ?_
      rw [show (nI (6 * x2)) + (nI i) = nI ((6 * x2) + i) from nI_add _ _]
      have o27_3 : ((6 * x2) + i) < 72 := Classical.byContradiction fun w => by
        rw [if_pos o10_1, if_neg c11_2, if_neg w] at hr
        cases hr
      refine Go.iaload d_Model_find_27 rfl (mk_at_q_6 (by omega)) (vp_in_nI o27_3 (by decide)) ?_
      rw [nI_clamp (show ((6 * x2) + i) < 2 ^ 31 by omega)]
      refine Go.iload_3 d_Model_find_28 rfl ?_
      have o29_4 : ((sh_na H) ((6 * x2) + i)) ≤ 2500 := Classical.byContradiction fun w => by
        rw [if_pos o10_1, if_neg c11_2, if_pos o27_3, if_neg w] at hr
        cases hr
      have o29_5 : x3 ≤ 2500 := Classical.byContradiction fun w => by
        rw [if_pos o10_1, if_neg c11_2, if_pos o27_3, if_pos o29_4, if_neg w] at hr
        cases hr
      rw [if_pos o10_1, if_neg c11_2, if_pos o27_3, if_pos o29_4, if_pos o29_5] at hr
      obtain ⟨p29_6, hp29_6, hr⟩ := Option.bind_eq_some_iff.mp hr
      try dsimp only at hr
      refine Go.cv3r d_Model_find_29 rfl l_Model_150 k_Model_areSame_v (mk_at_m (by omega)) rfl (c_Model_areSame (by omega) (by omega) (by omega) hp29_6) (Nat.ble_eq_true_of_le (by omega)) rfl rfl ?_
      refine Go.if_eq (t := 38) d_Model_find_32 (by decide) rfl (fun c32_7 => ?_) (fun c32_7 => ?_)
      · refine Go.iinc_4 d_Model_find_38 rfl (by rfl) (nI_inc _) ?_
        refine Go.goto (t := 3) d_Model_find_41 (by decide) ?_
        rw [if_pos c32_7] at hr
        exact ih _ hr
      · refine Go.iload_4 d_Model_find_35 rfl ?_
        rw [if_neg c32_7] at hr
        cases hr
        exact Go.iret d_Model_find_37 rfl rfl ⟨rfl, rfl, rfl⟩
theorem d_Model_find_0 : decode M_Model_find.2.1 0 = .ok (.iconst 0, 1) := by decide +kernel
theorem d_Model_find_1 : decode M_Model_find.2.1 1 = .ok (.istore 4, 2) := by decide +kernel
def s_Model_find (M : MO) (H : SH) (x2 : Nat) (x3 : Nat) : Option (Int32) := (l_Model_find_3 M H x2 x3 100 0)
set_option maxRecDepth 100000 in
set_option maxHeartbeats 4000000 in
theorem c_Model_find {Γ : G9} {h : AH} {m q qs sa sb ro z : Nat} {M : MO} {H : SH} {x2 : Nat} {x3 : Nat} {p : Int32} (bx2 : x2 ≤ 12) (bx3 : x3 ≤ 2500) (geo : m + 2 ≤ q) (hr : s_Model_find M H x2 x3 = some p) : CallR Γ M_Model_find 1 [.ref m, .ref q, .int (nI x2), .int (nI x3)] (mk_ Γ h m q qs sa sb ro M H) z (some (.int p)) (mk_ Γ h m q qs sa sb ro M H) := by
  refine Call.of_go (L := [some (.ref m), some (.ref q), some (.int (nI x2)), some (.int (nI x3)), none]) (by decide +kernel) rfl (by exact Nat.le_of_ble_eq_true rfl) ?_
  unfold s_Model_find at hr
  refine Go.iconst (v := 0) d_Model_find_0 rfl (by decide) ?_
  refine Go.istore_4 d_Model_find_1 rfl (by rfl) ?_
  exact l_Model_find_3_go bx2 bx3 (by omega) _ _ hr
