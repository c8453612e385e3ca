/-! the reference: what a token breaks -/
theorem d_Model_most_0 : decode M_Model_most.2.1 0 = .ok (.iload_n 0, 1) := by decide +kernel
theorem d_Model_most_1 : decode M_Model_most.2.1 1 = .ok (.ifCond .ne 7, 3) := by decide +kernel
theorem d_Model_most_4 : decode M_Model_most.2.1 4 = .ok (.iconst 5, 1) := by decide +kernel
theorem d_Model_most_5 : decode M_Model_most.2.1 5 = .ok (.goto 34, 3) := by decide +kernel
theorem d_Model_most_8 : decode M_Model_most.2.1 8 = .ok (.iload_n 0, 1) := by decide +kernel
theorem d_Model_most_9 : decode M_Model_most.2.1 9 = .ok (.iconst 3, 1) := by decide +kernel
theorem d_Model_most_10 : decode M_Model_most.2.1 10 = .ok (.if_icmp .ne 8, 3) := by decide +kernel
theorem d_Model_most_13 : decode M_Model_most.2.1 13 = .ok (.bipush 6, 2) := by decide +kernel
theorem d_Model_most_15 : decode M_Model_most.2.1 15 = .ok (.goto 24, 3) := by decide +kernel
theorem d_Model_most_18 : decode M_Model_most.2.1 18 = .ok (.iload_n 0, 1) := by decide +kernel
theorem d_Model_most_19 : decode M_Model_most.2.1 19 = .ok (.bipush 6, 2) := by decide +kernel
theorem d_Model_most_21 : decode M_Model_most.2.1 21 = .ok (.if_icmp .ne 7, 3) := by decide +kernel
theorem d_Model_most_24 : decode M_Model_most.2.1 24 = .ok (.iconst 4, 1) := by decide +kernel
theorem d_Model_most_25 : decode M_Model_most.2.1 25 = .ok (.goto 14, 3) := by decide +kernel
theorem d_Model_most_28 : decode M_Model_most.2.1 28 = .ok (.iload_n 0, 1) := by decide +kernel
theorem d_Model_most_29 : decode M_Model_most.2.1 29 = .ok (.bipush 9, 2) := by decide +kernel
theorem d_Model_most_31 : decode M_Model_most.2.1 31 = .ok (.if_icmp .ne 7, 3) := by decide +kernel
theorem d_Model_most_34 : decode M_Model_most.2.1 34 = .ok (.iconst 4, 1) := by decide +kernel
theorem d_Model_most_35 : decode M_Model_most.2.1 35 = .ok (.goto 4, 3) := by decide +kernel
theorem d_Model_most_38 : decode M_Model_most.2.1 38 = .ok (.iconst 4, 1) := by decide +kernel
theorem d_Model_most_39 : decode M_Model_most.2.1 39 = .ok (.ireturn, 1) := by decide +kernel
def s_Model_most (x1 : Int32) : Int32 := (if x1 = 0 then 5 else (if x1 = 3 then 6 else (if x1 = 6 then 4 else (if x1 = 9 then 4 else 4))))
set_option maxRecDepth 100000 in
set_option maxHeartbeats 800000 in
theorem c_Model_most {Γ : G9} {h : AH} {z : Nat} {x1 : Int32} : CallR Γ M_Model_most 0 [.int x1] h z (some (.int (s_Model_most x1))) h := by
  refine Call.of_go (L := [some (.int x1)]) (by decide +kernel) rfl (by exact Nat.le_of_ble_eq_true rfl) ?_
  unfold s_Model_most
  refine Go.iload_0 d_Model_most_0 rfl ?_
  refine Go.if_ne (t := 8) d_Model_most_1 (by decide) rfl (fun c1_1 => ?_) (fun c1_1 => ?_)
  · refine Go.iload_0 d_Model_most_8 rfl ?_
    refine Go.iconst (v := 3) d_Model_most_9 rfl (by decide) ?_
    refine Go.icmp_ne (t := 18) d_Model_most_10 (by decide) rfl (fun c10_2 => ?_) (fun c10_2 => ?_)
    · refine Go.iload_0 d_Model_most_18 rfl ?_
      refine Go.bipush (v := 6) d_Model_most_19 rfl (by decide) ?_
      refine Go.icmp_ne (t := 28) d_Model_most_21 (by decide) rfl (fun c21_3 => ?_) (fun c21_3 => ?_)
      · refine Go.iload_0 d_Model_most_28 rfl ?_
        refine Go.bipush (v := 9) d_Model_most_29 rfl (by decide) ?_
        refine Go.icmp_ne (t := 38) d_Model_most_31 (by decide) rfl (fun c31_4 => ?_) (fun c31_4 => ?_)
        · refine Go.iconst (v := 4) d_Model_most_38 rfl (by decide) ?_
          rw [if_neg c1_1, if_neg c10_2, if_neg c21_3, if_neg c31_4]
          exact Go.iret d_Model_most_39 rfl rfl ⟨rfl, rfl, rfl⟩
        · refine Go.iconst (v := 4) d_Model_most_34 rfl (by decide) ?_
          refine Go.goto (t := 39) d_Model_most_35 (by decide) ?_
          rw [if_neg c1_1, if_neg c10_2, if_neg c21_3, if_pos c31_4]
          exact Go.iret d_Model_most_39 rfl rfl ⟨rfl, rfl, rfl⟩
      · refine Go.iconst (v := 4) d_Model_most_24 rfl (by decide) ?_
        refine Go.goto (t := 39) d_Model_most_25 (by decide) ?_
        rw [if_neg c1_1, if_neg c10_2, if_pos c21_3]
        exact Go.iret d_Model_most_39 rfl rfl ⟨rfl, rfl, rfl⟩
    · refine Go.bipush (v := 6) d_Model_most_13 rfl (by decide) ?_
      refine Go.goto (t := 39) d_Model_most_15 (by decide) ?_
      rw [if_neg c1_1, if_pos c10_2]
      exact Go.iret d_Model_most_39 rfl rfl ⟨rfl, rfl, rfl⟩
  · refine Go.iconst (v := 5) d_Model_most_4 rfl (by decide) ?_
    refine Go.goto (t := 39) d_Model_most_5 (by decide) ?_
    rw [if_pos c1_1]
    exact Go.iret d_Model_most_39 rfl rfl ⟨rfl, rfl, rfl⟩
theorem d_Model_isSort_0 : decode M_Model_isSort.2.1 0 = .ok (.iload_n 0, 1) := by decide +kernel
theorem d_Model_isSort_1 : decode M_Model_isSort.2.1 1 = .ok (.ifCond .eq 26, 3) := by decide +kernel
theorem d_Model_isSort_4 : decode M_Model_isSort.2.1 4 = .ok (.iload_n 0, 1) := by decide +kernel
theorem d_Model_isSort_5 : decode M_Model_isSort.2.1 5 = .ok (.iconst 3, 1) := by decide +kernel
theorem d_Model_isSort_6 : decode M_Model_isSort.2.1 6 = .ok (.if_icmp .eq 21, 3) := by decide +kernel
theorem d_Model_isSort_9 : decode M_Model_isSort.2.1 9 = .ok (.iload_n 0, 1) := by decide +kernel
theorem d_Model_isSort_10 : decode M_Model_isSort.2.1 10 = .ok (.bipush 6, 2) := by decide +kernel
theorem d_Model_isSort_12 : decode M_Model_isSort.2.1 12 = .ok (.if_icmp .eq 15, 3) := by decide +kernel
theorem d_Model_isSort_15 : decode M_Model_isSort.2.1 15 = .ok (.iload_n 0, 1) := by decide +kernel
theorem d_Model_isSort_16 : decode M_Model_isSort.2.1 16 = .ok (.bipush 9, 2) := by decide +kernel
theorem d_Model_isSort_18 : decode M_Model_isSort.2.1 18 = .ok (.if_icmp .eq 9, 3) := by decide +kernel
theorem d_Model_isSort_21 : decode M_Model_isSort.2.1 21 = .ok (.iload_n 0, 1) := by decide +kernel
theorem d_Model_isSort_22 : decode M_Model_isSort.2.1 22 = .ok (.bipush 11, 2) := by decide +kernel
theorem d_Model_isSort_24 : decode M_Model_isSort.2.1 24 = .ok (.if_icmp .ne 7, 3) := by decide +kernel
theorem d_Model_isSort_27 : decode M_Model_isSort.2.1 27 = .ok (.iconst 1, 1) := by decide +kernel
theorem d_Model_isSort_28 : decode M_Model_isSort.2.1 28 = .ok (.goto 4, 3) := by decide +kernel
theorem d_Model_isSort_31 : decode M_Model_isSort.2.1 31 = .ok (.iconst 0, 1) := by decide +kernel
theorem d_Model_isSort_32 : decode M_Model_isSort.2.1 32 = .ok (.ireturn, 1) := by decide +kernel
def s_Model_isSort (x1 : Int32) : Int32 := (if x1 = 0 then 1 else (if x1 = 3 then 1 else (if x1 = 6 then 1 else (if x1 = 9 then 1 else (if x1 = 11 then 1 else 0)))))
set_option maxRecDepth 100000 in
set_option maxHeartbeats 800000 in
theorem c_Model_isSort {Γ : G9} {h : AH} {z : Nat} {x1 : Int32} : CallR Γ M_Model_isSort 0 [.int x1] h z (some (.int (s_Model_isSort x1))) h := by
  refine Call.of_go (L := [some (.int x1)]) (by decide +kernel) rfl (by exact Nat.le_of_ble_eq_true rfl) ?_
  unfold s_Model_isSort
  refine Go.iload_0 d_Model_isSort_0 rfl ?_
  refine Go.if_eq (t := 27) d_Model_isSort_1 (by decide) rfl (fun c1_1 => ?_) (fun c1_1 => ?_)
  · refine Go.iconst (v := 1) d_Model_isSort_27 rfl (by decide) ?_
    refine Go.goto (t := 32) d_Model_isSort_28 (by decide) ?_
    rw [if_pos c1_1]
    exact Go.iret d_Model_isSort_32 rfl rfl ⟨rfl, rfl, rfl⟩
  · refine Go.iload_0 d_Model_isSort_4 rfl ?_
    refine Go.iconst (v := 3) d_Model_isSort_5 rfl (by decide) ?_
    refine Go.icmp_eq (t := 27) d_Model_isSort_6 (by decide) rfl (fun c6_2 => ?_) (fun c6_2 => ?_)
    · refine Go.iconst (v := 1) d_Model_isSort_27 rfl (by decide) ?_
      refine Go.goto (t := 32) d_Model_isSort_28 (by decide) ?_
      rw [if_neg c1_1, if_pos c6_2]
      exact Go.iret d_Model_isSort_32 rfl rfl ⟨rfl, rfl, rfl⟩
    · refine Go.iload_0 d_Model_isSort_9 rfl ?_
      refine Go.bipush (v := 6) d_Model_isSort_10 rfl (by decide) ?_
      refine Go.icmp_eq (t := 27) d_Model_isSort_12 (by decide) rfl (fun c12_3 => ?_) (fun c12_3 => ?_)
      · refine Go.iconst (v := 1) d_Model_isSort_27 rfl (by decide) ?_
        refine Go.goto (t := 32) d_Model_isSort_28 (by decide) ?_
        rw [if_neg c1_1, if_neg c6_2, if_pos c12_3]
        exact Go.iret d_Model_isSort_32 rfl rfl ⟨rfl, rfl, rfl⟩
      · refine Go.iload_0 d_Model_isSort_15 rfl ?_
        refine Go.bipush (v := 9) d_Model_isSort_16 rfl (by decide) ?_
        refine Go.icmp_eq (t := 27) d_Model_isSort_18 (by decide) rfl (fun c18_4 => ?_) (fun c18_4 => ?_)
        · refine Go.iconst (v := 1) d_Model_isSort_27 rfl (by decide) ?_
          refine Go.goto (t := 32) d_Model_isSort_28 (by decide) ?_
          rw [if_neg c1_1, if_neg c6_2, if_neg c12_3, if_pos c18_4]
          exact Go.iret d_Model_isSort_32 rfl rfl ⟨rfl, rfl, rfl⟩
        · refine Go.iload_0 d_Model_isSort_21 rfl ?_
          refine Go.bipush (v := 11) d_Model_isSort_22 rfl (by decide) ?_
          refine Go.icmp_ne (t := 31) d_Model_isSort_24 (by decide) rfl (fun c24_5 => ?_) (fun c24_5 => ?_)
          · refine Go.iconst (v := 0) d_Model_isSort_31 rfl (by decide) ?_
            rw [if_neg c1_1, if_neg c6_2, if_neg c12_3, if_neg c18_4, if_neg c24_5]
            exact Go.iret d_Model_isSort_32 rfl rfl ⟨rfl, rfl, rfl⟩
          · refine Go.iconst (v := 1) d_Model_isSort_27 rfl (by decide) ?_
            refine Go.goto (t := 32) d_Model_isSort_28 (by decide) ?_
            rw [if_neg c1_1, if_neg c6_2, if_neg c12_3, if_neg c18_4, if_pos c24_5]
            exact Go.iret d_Model_isSort_32 rfl rfl ⟨rfl, rfl, rfl⟩
set_option maxRecDepth 100000 in
set_option maxHeartbeats 800000 in
theorem s_Model_isSort_01 (x1 : Int32) : (s_Model_isSort x1) = 0 ∨ (s_Model_isSort x1) = 1 := by
  unfold s_Model_isSort
  (repeat' split) <;> first | exact Or.inl rfl | exact Or.inr rfl
theorem d_Model_isOrder_0 : decode M_Model_isOrder.2.1 0 = .ok (.iload_n 0, 1) := by decide +kernel
theorem d_Model_isOrder_1 : decode M_Model_isOrder.2.1 1 = .ok (.bipush 15, 2) := by decide +kernel
theorem d_Model_isOrder_3 : decode M_Model_isOrder.2.1 3 = .ok (.if_icmp .eq 27, 3) := by decide +kernel
theorem d_Model_isOrder_6 : decode M_Model_isOrder.2.1 6 = .ok (.iload_n 0, 1) := by decide +kernel
theorem d_Model_isOrder_7 : decode M_Model_isOrder.2.1 7 = .ok (.bipush 16, 2) := by decide +kernel
theorem d_Model_isOrder_9 : decode M_Model_isOrder.2.1 9 = .ok (.if_icmp .eq 21, 3) := by decide +kernel
theorem d_Model_isOrder_12 : decode M_Model_isOrder.2.1 12 = .ok (.iload_n 0, 1) := by decide +kernel
theorem d_Model_isOrder_13 : decode M_Model_isOrder.2.1 13 = .ok (.bipush 17, 2) := by decide +kernel
theorem d_Model_isOrder_15 : decode M_Model_isOrder.2.1 15 = .ok (.if_icmp .eq 15, 3) := by decide +kernel
theorem d_Model_isOrder_18 : decode M_Model_isOrder.2.1 18 = .ok (.iload_n 0, 1) := by decide +kernel
theorem d_Model_isOrder_19 : decode M_Model_isOrder.2.1 19 = .ok (.bipush 19, 2) := by decide +kernel
theorem d_Model_isOrder_21 : decode M_Model_isOrder.2.1 21 = .ok (.if_icmp .eq 9, 3) := by decide +kernel
theorem d_Model_isOrder_24 : decode M_Model_isOrder.2.1 24 = .ok (.iload_n 0, 1) := by decide +kernel
theorem d_Model_isOrder_25 : decode M_Model_isOrder.2.1 25 = .ok (.bipush 21, 2) := by decide +kernel
theorem d_Model_isOrder_27 : decode M_Model_isOrder.2.1 27 = .ok (.if_icmp .ne 7, 3) := by decide +kernel
theorem d_Model_isOrder_30 : decode M_Model_isOrder.2.1 30 = .ok (.iconst 1, 1) := by decide +kernel
theorem d_Model_isOrder_31 : decode M_Model_isOrder.2.1 31 = .ok (.goto 4, 3) := by decide +kernel
theorem d_Model_isOrder_34 : decode M_Model_isOrder.2.1 34 = .ok (.iconst 0, 1) := by decide +kernel
theorem d_Model_isOrder_35 : decode M_Model_isOrder.2.1 35 = .ok (.ireturn, 1) := by decide +kernel
def s_Model_isOrder (x1 : Int32) : Int32 := (if x1 = 15 then 1 else (if x1 = 16 then 1 else (if x1 = 17 then 1 else (if x1 = 19 then 1 else (if x1 = 21 then 1 else 0)))))
set_option maxRecDepth 100000 in
set_option maxHeartbeats 800000 in
theorem c_Model_isOrder {Γ : G9} {h : AH} {z : Nat} {x1 : Int32} : CallR Γ M_Model_isOrder 0 [.int x1] h z (some (.int (s_Model_isOrder x1))) h := by
  refine Call.of_go (L := [some (.int x1)]) (by decide +kernel) rfl (by exact Nat.le_of_ble_eq_true rfl) ?_
  unfold s_Model_isOrder
  refine Go.iload_0 d_Model_isOrder_0 rfl ?_
  refine Go.bipush (v := 15) d_Model_isOrder_1 rfl (by decide) ?_
  refine Go.icmp_eq (t := 30) d_Model_isOrder_3 (by decide) rfl (fun c3_1 => ?_) (fun c3_1 => ?_)
  · refine Go.iconst (v := 1) d_Model_isOrder_30 rfl (by decide) ?_
    refine Go.goto (t := 35) d_Model_isOrder_31 (by decide) ?_
    rw [if_pos c3_1]
    exact Go.iret d_Model_isOrder_35 rfl rfl ⟨rfl, rfl, rfl⟩
  · refine Go.iload_0 d_Model_isOrder_6 rfl ?_
    refine Go.bipush (v := 16) d_Model_isOrder_7 rfl (by decide) ?_
    refine Go.icmp_eq (t := 30) d_Model_isOrder_9 (by decide) rfl (fun c9_2 => ?_) (fun c9_2 => ?_)
    · refine Go.iconst (v := 1) d_Model_isOrder_30 rfl (by decide) ?_
      refine Go.goto (t := 35) d_Model_isOrder_31 (by decide) ?_
      rw [if_neg c3_1, if_pos c9_2]
      exact Go.iret d_Model_isOrder_35 rfl rfl ⟨rfl, rfl, rfl⟩
    · refine Go.iload_0 d_Model_isOrder_12 rfl ?_
      refine Go.bipush (v := 17) d_Model_isOrder_13 rfl (by decide) ?_
      refine Go.icmp_eq (t := 30) d_Model_isOrder_15 (by decide) rfl (fun c15_3 => ?_) (fun c15_3 => ?_)
      · refine Go.iconst (v := 1) d_Model_isOrder_30 rfl (by decide) ?_
        refine Go.goto (t := 35) d_Model_isOrder_31 (by decide) ?_
        rw [if_neg c3_1, if_neg c9_2, if_pos c15_3]
        exact Go.iret d_Model_isOrder_35 rfl rfl ⟨rfl, rfl, rfl⟩
      · refine Go.iload_0 d_Model_isOrder_18 rfl ?_
        refine Go.bipush (v := 19) d_Model_isOrder_19 rfl (by decide) ?_
        refine Go.icmp_eq (t := 30) d_Model_isOrder_21 (by decide) rfl (fun c21_4 => ?_) (fun c21_4 => ?_)
        · refine Go.iconst (v := 1) d_Model_isOrder_30 rfl (by decide) ?_
          refine Go.goto (t := 35) d_Model_isOrder_31 (by decide) ?_
          rw [if_neg c3_1, if_neg c9_2, if_neg c15_3, if_pos c21_4]
          exact Go.iret d_Model_isOrder_35 rfl rfl ⟨rfl, rfl, rfl⟩
        · refine Go.iload_0 d_Model_isOrder_24 rfl ?_
          refine Go.bipush (v := 21) d_Model_isOrder_25 rfl (by decide) ?_
          refine Go.icmp_ne (t := 34) d_Model_isOrder_27 (by decide) rfl (fun c27_5 => ?_) (fun c27_5 => ?_)
          · refine Go.iconst (v := 0) d_Model_isOrder_34 rfl (by decide) ?_
            rw [if_neg c3_1, if_neg c9_2, if_neg c15_3, if_neg c21_4, if_neg c27_5]
            exact Go.iret d_Model_isOrder_35 rfl rfl ⟨rfl, rfl, rfl⟩
          · refine Go.iconst (v := 1) d_Model_isOrder_30 rfl (by decide) ?_
            refine Go.goto (t := 35) d_Model_isOrder_31 (by decide) ?_
            rw [if_neg c3_1, if_neg c9_2, if_neg c15_3, if_neg c21_4, if_pos c27_5]
            exact Go.iret d_Model_isOrder_35 rfl rfl ⟨rfl, rfl, rfl⟩
set_option maxRecDepth 100000 in
set_option maxHeartbeats 800000 in
theorem s_Model_isOrder_01 (x1 : Int32) : (s_Model_isOrder x1) = 0 ∨ (s_Model_isOrder x1) = 1 := by
  unfold s_Model_isOrder
  (repeat' split) <;> first | exact Or.inl rfl | exact Or.inr rfl
theorem d_Model_sortBehind_0 : decode M_Model_sortBehind.2.1 0 = .ok (.iload_n 0, 1) := by decide +kernel
theorem d_Model_sortBehind_1 : decode M_Model_sortBehind.2.1 1 = .ok (.tableswitch 137 2 29 #[127, 137, 127, 137, 137, 127, 131, 137, 137, 137, 137, 137, 137, 137, 137, 131, 137, 137, 137, 129, 137, 129, 134, 137, 137, 129, 137, 131], 127) := by decide +kernel
theorem d_Model_sortBehind_128 : decode M_Model_sortBehind.2.1 128 = .ok (.iconst 0, 1) := by decide +kernel
theorem d_Model_sortBehind_129 : decode M_Model_sortBehind.2.1 129 = .ok (.ireturn, 1) := by decide +kernel
theorem d_Model_sortBehind_130 : decode M_Model_sortBehind.2.1 130 = .ok (.iconst 3, 1) := by decide +kernel
theorem d_Model_sortBehind_131 : decode M_Model_sortBehind.2.1 131 = .ok (.ireturn, 1) := by decide +kernel
theorem d_Model_sortBehind_132 : decode M_Model_sortBehind.2.1 132 = .ok (.bipush 6, 2) := by decide +kernel
theorem d_Model_sortBehind_134 : decode M_Model_sortBehind.2.1 134 = .ok (.ireturn, 1) := by decide +kernel
theorem d_Model_sortBehind_135 : decode M_Model_sortBehind.2.1 135 = .ok (.bipush 9, 2) := by decide +kernel
theorem d_Model_sortBehind_137 : decode M_Model_sortBehind.2.1 137 = .ok (.ireturn, 1) := by decide +kernel
theorem d_Model_sortBehind_138 : decode M_Model_sortBehind.2.1 138 = .ok (.bipush 11, 2) := by decide +kernel
theorem d_Model_sortBehind_140 : decode M_Model_sortBehind.2.1 140 = .ok (.ireturn, 1) := by decide +kernel
def s_Model_sortBehind (x1 : Int32) : Int32 := (if x1 = 2 then 0 else (if x1 = 4 then 0 else (if x1 = 7 then 0 else (if x1 = 8 then 6 else (if x1 = 17 then 6 else (if x1 = 21 then 3 else (if x1 = 23 then 3 else (if x1 = 24 then 9 else (if x1 = 27 then 3 else (if x1 = 29 then 6 else 11))))))))))
set_option maxRecDepth 100000 in
set_option maxHeartbeats 800000 in
theorem c_Model_sortBehind {Γ : G9} {h : AH} {z : Nat} {x1 : Int32} : CallR Γ M_Model_sortBehind 0 [.int x1] h z (some (.int (s_Model_sortBehind x1))) h := by
  refine Call.of_go (L := [some (.int x1)]) (by decide +kernel) rfl (by exact Nat.le_of_ble_eq_true rfl) ?_
  unfold s_Model_sortBehind
  refine Go.iload_0 d_Model_sortBehind_0 rfl ?_
  by_cases w1_1 : x1 = 2
  · refine Go.tsw (t := 128) d_Model_sortBehind_1 (by rw [w1_1]; rfl) ?_
    refine Go.iconst (v := 0) d_Model_sortBehind_128 rfl (by decide) ?_
    rw [if_pos w1_1]
    exact Go.iret d_Model_sortBehind_129 rfl rfl ⟨rfl, rfl, rfl⟩
  by_cases w1_2 : x1 = 4
  · refine Go.tsw (t := 128) d_Model_sortBehind_1 (by rw [w1_2]; rfl) ?_
    refine Go.iconst (v := 0) d_Model_sortBehind_128 rfl (by decide) ?_
    rw [if_neg w1_1, if_pos w1_2]
    exact Go.iret d_Model_sortBehind_129 rfl rfl ⟨rfl, rfl, rfl⟩
  by_cases w1_3 : x1 = 7
  · refine Go.tsw (t := 128) d_Model_sortBehind_1 (by rw [w1_3]; rfl) ?_
    refine Go.iconst (v := 0) d_Model_sortBehind_128 rfl (by decide) ?_
    rw [if_neg w1_1, if_neg w1_2, if_pos w1_3]
    exact Go.iret d_Model_sortBehind_129 rfl rfl ⟨rfl, rfl, rfl⟩
  by_cases w1_4 : x1 = 8
  · refine Go.tsw (t := 132) d_Model_sortBehind_1 (by rw [w1_4]; rfl) ?_
    refine Go.bipush (v := 6) d_Model_sortBehind_132 rfl (by decide) ?_
    rw [if_neg w1_1, if_neg w1_2, if_neg w1_3, if_pos w1_4]
    exact Go.iret d_Model_sortBehind_134 rfl rfl ⟨rfl, rfl, rfl⟩
  by_cases w1_5 : x1 = 17
  · refine Go.tsw (t := 132) d_Model_sortBehind_1 (by rw [w1_5]; rfl) ?_
    refine Go.bipush (v := 6) d_Model_sortBehind_132 rfl (by decide) ?_
    rw [if_neg w1_1, if_neg w1_2, if_neg w1_3, if_neg w1_4, if_pos w1_5]
    exact Go.iret d_Model_sortBehind_134 rfl rfl ⟨rfl, rfl, rfl⟩
  by_cases w1_6 : x1 = 21
  · refine Go.tsw (t := 130) d_Model_sortBehind_1 (by rw [w1_6]; rfl) ?_
    refine Go.iconst (v := 3) d_Model_sortBehind_130 rfl (by decide) ?_
    rw [if_neg w1_1, if_neg w1_2, if_neg w1_3, if_neg w1_4, if_neg w1_5, if_pos w1_6]
    exact Go.iret d_Model_sortBehind_131 rfl rfl ⟨rfl, rfl, rfl⟩
  by_cases w1_7 : x1 = 23
  · refine Go.tsw (t := 130) d_Model_sortBehind_1 (by rw [w1_7]; rfl) ?_
    refine Go.iconst (v := 3) d_Model_sortBehind_130 rfl (by decide) ?_
    rw [if_neg w1_1, if_neg w1_2, if_neg w1_3, if_neg w1_4, if_neg w1_5, if_neg w1_6, if_pos w1_7]
    exact Go.iret d_Model_sortBehind_131 rfl rfl ⟨rfl, rfl, rfl⟩
  by_cases w1_8 : x1 = 24
  · refine Go.tsw (t := 135) d_Model_sortBehind_1 (by rw [w1_8]; rfl) ?_
    refine Go.bipush (v := 9) d_Model_sortBehind_135 rfl (by decide) ?_
    rw [if_neg w1_1, if_neg w1_2, if_neg w1_3, if_neg w1_4, if_neg w1_5, if_neg w1_6, if_neg w1_7, if_pos w1_8]
    exact Go.iret d_Model_sortBehind_137 rfl rfl ⟨rfl, rfl, rfl⟩
  by_cases w1_9 : x1 = 27
  · refine Go.tsw (t := 130) d_Model_sortBehind_1 (by rw [w1_9]; rfl) ?_
    refine Go.iconst (v := 3) d_Model_sortBehind_130 rfl (by decide) ?_
    rw [if_neg w1_1, if_neg w1_2, if_neg w1_3, if_neg w1_4, if_neg w1_5, if_neg w1_6, if_neg w1_7, if_neg w1_8, if_pos w1_9]
    exact Go.iret d_Model_sortBehind_131 rfl rfl ⟨rfl, rfl, rfl⟩
  by_cases w1_10 : x1 = 29
  · refine Go.tsw (t := 132) d_Model_sortBehind_1 (by rw [w1_10]; rfl) ?_
    refine Go.bipush (v := 6) d_Model_sortBehind_132 rfl (by decide) ?_
    rw [if_neg w1_1, if_neg w1_2, if_neg w1_3, if_neg w1_4, if_neg w1_5, if_neg w1_6, if_neg w1_7, if_neg w1_8, if_neg w1_9, if_pos w1_10]
    exact Go.iret d_Model_sortBehind_134 rfl rfl ⟨rfl, rfl, rfl⟩
  refine Go.tsw (t := 138) d_Model_sortBehind_1 (tsw_d fun n hn => by
      match n, hn with
      | 0, _ => exact Or.inr fun w => w1_1 (i32_eq w)
      | 1, _ => exact Or.inl rfl
      | 2, _ => exact Or.inr fun w => w1_2 (i32_eq w)
      | 3, _ => exact Or.inl rfl
      | 4, _ => exact Or.inl rfl
      | 5, _ => exact Or.inr fun w => w1_3 (i32_eq w)
      | 6, _ => exact Or.inr fun w => w1_4 (i32_eq w)
      | 7, _ => exact Or.inl rfl
      | 8, _ => exact Or.inl rfl
      | 9, _ => exact Or.inl rfl
      | 10, _ => exact Or.inl rfl
      | 11, _ => exact Or.inl rfl
      | 12, _ => exact Or.inl rfl
      | 13, _ => exact Or.inl rfl
      | 14, _ => exact Or.inl rfl
      | 15, _ => exact Or.inr fun w => w1_5 (i32_eq w)
      | 16, _ => exact Or.inl rfl
      | 17, _ => exact Or.inl rfl
      | 18, _ => exact Or.inl rfl
      | 19, _ => exact Or.inr fun w => w1_6 (i32_eq w)
      | 20, _ => exact Or.inl rfl
      | 21, _ => exact Or.inr fun w => w1_7 (i32_eq w)
      | 22, _ => exact Or.inr fun w => w1_8 (i32_eq w)
      | 23, _ => exact Or.inl rfl
      | 24, _ => exact Or.inl rfl
      | 25, _ => exact Or.inr fun w => w1_9 (i32_eq w)
      | 26, _ => exact Or.inl rfl
      | 27, _ => exact Or.inr fun w => w1_10 (i32_eq w)
      | _ + 28, w => exact absurd w (by simp)) ?_
  refine Go.bipush (v := 11) d_Model_sortBehind_138 rfl (by decide) ?_
  rw [if_neg w1_1, if_neg w1_2, if_neg w1_3, if_neg w1_4, if_neg w1_5, if_neg w1_6, if_neg w1_7, if_neg w1_8, if_neg w1_9, if_neg w1_10]
  exact Go.iret d_Model_sortBehind_140 rfl rfl ⟨rfl, rfl, rfl⟩
theorem d_Model_errorOfRange_0 : decode M_Model_errorOfRange.2.1 0 = .ok (.iload_n 0, 1) := by decide +kernel
theorem d_Model_errorOfRange_1 : decode M_Model_errorOfRange.2.1 1 = .ok (.iload_n 1, 1) := by decide +kernel
theorem d_Model_errorOfRange_2 : decode M_Model_errorOfRange.2.1 2 = .ok (.iload_n 2, 1) := by decide +kernel
theorem d_Model_errorOfRange_3 : decode M_Model_errorOfRange.2.1 3 = .ok (.invokestatic 43, 3) := by decide +kernel
theorem d_Model_errorOfRange_6 : decode M_Model_errorOfRange.2.1 6 = .ok (.ifCond .eq 7, 3) := by decide +kernel
theorem d_Model_errorOfRange_9 : decode M_Model_errorOfRange.2.1 9 = .ok (.iconst 0, 1) := by decide +kernel
theorem d_Model_errorOfRange_10 : decode M_Model_errorOfRange.2.1 10 = .ok (.goto 4, 3) := by decide +kernel
theorem d_Model_errorOfRange_13 : decode M_Model_errorOfRange.2.1 13 = .ok (.iconst 5, 1) := by decide +kernel
theorem d_Model_errorOfRange_14 : decode M_Model_errorOfRange.2.1 14 = .ok (.ireturn, 1) := by decide +kernel
def s_Model_errorOfRange (x1 : Int32) (x2 : Int32) (x3 : Int32) : Int32 := (if (s_Model_isIn x1 x2 x3) = 0 then 5 else 0)
set_option maxRecDepth 100000 in
set_option maxHeartbeats 800000 in
theorem c_Model_errorOfRange {Γ : G9} {h : AH} {z : Nat} {x1 : Int32} {x2 : Int32} {x3 : Int32} : CallR Γ M_Model_errorOfRange 1 [.int x1, .int x2, .int x3] h z (some (.int (s_Model_errorOfRange x1 x2 x3))) h := by
  refine Call.of_go (L := [some (.int x1), some (.int x2), some (.int x3)]) (by decide +kernel) rfl (by exact Nat.le_of_ble_eq_true rfl) ?_
  unfold s_Model_errorOfRange
  refine Go.iload_0 d_Model_errorOfRange_0 rfl ?_
  refine Go.iload_1 d_Model_errorOfRange_1 rfl ?_
  refine Go.iload_2 d_Model_errorOfRange_2 rfl ?_
  refine Go.cs3r d_Model_errorOfRange_3 rfl l_Model_43 k_Model_isIn_s rfl (c_Model_isIn) rfl rfl rfl ?_
  refine Go.if_eq (t := 13) d_Model_errorOfRange_6 (by decide) rfl (fun c6_1 => ?_) (fun c6_1 => ?_)
  · refine Go.iconst (v := 5) d_Model_errorOfRange_13 rfl (by decide) ?_
    rw [if_pos c6_1]
    exact Go.iret d_Model_errorOfRange_14 rfl rfl ⟨rfl, rfl, rfl⟩
  · refine Go.iconst (v := 0) d_Model_errorOfRange_9 rfl (by decide) ?_
    refine Go.goto (t := 14) d_Model_errorOfRange_10 (by decide) ?_
    rw [if_neg c6_1]
    exact Go.iret d_Model_errorOfRange_14 rfl rfl ⟨rfl, rfl, rfl⟩
theorem mk_c_Model_most_ {Γ : G9} {h : AH} {m q qs sa sb ro z : Nat} {M : MO} {H : SH} {x1 : Int32} (geo : m + 2 ≤ q) : CallR Γ M_Model_most 0 [.int x1] (mk_ Γ h m q qs sa sb ro M H) z (some (.int (s_Model_most x1))) (mk_ Γ h m q qs sa sb ro M H) := by
  unfold mk_
  exact CallR.conv rfl rfl (c_Model_most)
theorem mk_arr_q_6 {Γ : G9} {h : AH} {m q qs sa sb ro : Nat} {M : MO} {H : SH} {v : Nat → Nat} (geo : m + 2 ≤ q) : hup (mk_ Γ h m q qs sa sb ro M H) (q + 6) (aI Γ 72 (fun j => nI (v j))) = (mk_ Γ h m q qs sa sb ro M (sh_na' H v)) := by
  unfold mk_
  exact (sh_a_na (v := v))
theorem mk_arr_q_5 {Γ : G9} {h : AH} {m q qs sa sb ro : Nat} {M : MO} {H : SH} {v : Nat → Nat} (geo : m + 2 ≤ q) : hup (mk_ Γ h m q qs sa sb ro M H) (q + 5) (aI Γ 12 (fun j => nI (v j))) = (mk_ Γ h m q qs sa sb ro M (sh_ha' H v)) := by
  unfold mk_
  exact (sh_a_ha (v := v))
theorem d_Model_errorOfNew_0 : decode M_Model_errorOfNew.2.1 0 = .ok (.aload_n 0, 1) := by decide +kernel
theorem d_Model_errorOfNew_1 : decode M_Model_errorOfNew.2.1 1 = .ok (.aload_n 1, 1) := by decide +kernel
theorem d_Model_errorOfNew_2 : decode M_Model_errorOfNew.2.1 2 = .ok (.iload_n 2, 1) := by decide +kernel
theorem d_Model_errorOfNew_3 : decode M_Model_errorOfNew.2.1 3 = .ok (.iload_n 3, 1) := by decide +kernel
theorem d_Model_errorOfNew_4 : decode M_Model_errorOfNew.2.1 4 = .ok (.invokevirtual 153, 3) := by decide +kernel
theorem d_Model_errorOfNew_7 : decode M_Model_errorOfNew.2.1 7 = .ok (.iconst (-1), 1) := by decide +kernel
theorem d_Model_errorOfNew_8 : decode M_Model_errorOfNew.2.1 8 = .ok (.if_icmp .eq 5, 3) := by decide +kernel
theorem d_Model_errorOfNew_11 : decode M_Model_errorOfNew.2.1 11 = .ok (.iconst 2, 1) := by decide +kernel
theorem d_Model_errorOfNew_12 : decode M_Model_errorOfNew.2.1 12 = .ok (.ireturn, 1) := by decide +kernel
theorem d_Model_errorOfNew_13 : decode M_Model_errorOfNew.2.1 13 = .ok (.aload_n 1, 1) := by decide +kernel
theorem d_Model_errorOfNew_14 : decode M_Model_errorOfNew.2.1 14 = .ok (.getfield 40, 3) := by decide +kernel
theorem d_Model_errorOfNew_17 : decode M_Model_errorOfNew.2.1 17 = .ok (.iload_n 2, 1) := by decide +kernel
theorem d_Model_errorOfNew_18 : decode M_Model_errorOfNew.2.1 18 = .ok (.iaload, 1) := by decide +kernel
theorem d_Model_errorOfNew_19 : decode M_Model_errorOfNew.2.1 19 = .ok (.iload_n 2, 1) := by decide +kernel
theorem d_Model_errorOfNew_20 : decode M_Model_errorOfNew.2.1 20 = .ok (.invokestatic 157, 3) := by decide +kernel
theorem d_Model_errorOfNew_23 : decode M_Model_errorOfNew.2.1 23 = .ok (.if_icmp .ne 5, 3) := by decide +kernel
theorem d_Model_errorOfNew_26 : decode M_Model_errorOfNew.2.1 26 = .ok (.iconst 4, 1) := by decide +kernel
theorem d_Model_errorOfNew_27 : decode M_Model_errorOfNew.2.1 27 = .ok (.ireturn, 1) := by decide +kernel
theorem d_Model_errorOfNew_28 : decode M_Model_errorOfNew.2.1 28 = .ok (.aload_n 1, 1) := by decide +kernel
theorem d_Model_errorOfNew_29 : decode M_Model_errorOfNew.2.1 29 = .ok (.getfield 147, 3) := by decide +kernel
theorem d_Model_errorOfNew_32 : decode M_Model_errorOfNew.2.1 32 = .ok (.bipush 6, 2) := by decide +kernel
theorem d_Model_errorOfNew_34 : decode M_Model_errorOfNew.2.1 34 = .ok (.iload_n 2, 1) := by decide +kernel
theorem d_Model_errorOfNew_35 : decode M_Model_errorOfNew.2.1 35 = .ok (.imul, 1) := by decide +kernel
theorem d_Model_errorOfNew_36 : decode M_Model_errorOfNew.2.1 36 = .ok (.aload_n 1, 1) := by decide +kernel
theorem d_Model_errorOfNew_37 : decode M_Model_errorOfNew.2.1 37 = .ok (.getfield 40, 3) := by decide +kernel
theorem d_Model_errorOfNew_40 : decode M_Model_errorOfNew.2.1 40 = .ok (.iload_n 2, 1) := by decide +kernel
theorem d_Model_errorOfNew_41 : decode M_Model_errorOfNew.2.1 41 = .ok (.iaload, 1) := by decide +kernel
theorem d_Model_errorOfNew_42 : decode M_Model_errorOfNew.2.1 42 = .ok (.iadd, 1) := by decide +kernel
theorem d_Model_errorOfNew_43 : decode M_Model_errorOfNew.2.1 43 = .ok (.iload_n 3, 1) := by decide +kernel
theorem d_Model_errorOfNew_44 : decode M_Model_errorOfNew.2.1 44 = .ok (.iastore, 1) := by decide +kernel
theorem d_Model_errorOfNew_45 : decode M_Model_errorOfNew.2.1 45 = .ok (.aload_n 1, 1) := by decide +kernel
theorem d_Model_errorOfNew_46 : decode M_Model_errorOfNew.2.1 46 = .ok (.getfield 40, 3) := by decide +kernel
theorem d_Model_errorOfNew_49 : decode M_Model_errorOfNew.2.1 49 = .ok (.iload_n 2, 1) := by decide +kernel
theorem d_Model_errorOfNew_50 : decode M_Model_errorOfNew.2.1 50 = .ok (.dup2, 1) := by decide +kernel
theorem d_Model_errorOfNew_51 : decode M_Model_errorOfNew.2.1 51 = .ok (.iaload, 1) := by decide +kernel
theorem d_Model_errorOfNew_52 : decode M_Model_errorOfNew.2.1 52 = .ok (.iconst 1, 1) := by decide +kernel
theorem d_Model_errorOfNew_53 : decode M_Model_errorOfNew.2.1 53 = .ok (.iadd, 1) := by decide +kernel
theorem d_Model_errorOfNew_54 : decode M_Model_errorOfNew.2.1 54 = .ok (.iastore, 1) := by decide +kernel
theorem d_Model_errorOfNew_55 : decode M_Model_errorOfNew.2.1 55 = .ok (.iconst 0, 1) := by decide +kernel
theorem d_Model_errorOfNew_56 : decode M_Model_errorOfNew.2.1 56 = .ok (.ireturn, 1) := by decide +kernel
def s_Model_errorOfNew (M : MO) (H : SH) (x2 : Nat) (x3 : Nat) : Option (Int32 × SH) := (if x2 ≤ 12 then (if x3 ≤ 2500 then ((s_Model_find M H x2 x3).bind fun p4_3 => (if p4_3 = (-1) then (if x2 < 12 then (if (nI ((sh_ha H) x2)) = (s_Model_most (nI x2)) then some (4, H) else (if x2 < 12 then (if ((6 * x2) + ((sh_ha H) x2)) < 72 then (if x2 < 12 then (if x2 < 12 then some (0, (sh_ha' (sh_na' H (updN (sh_na H) ((6 * x2) + ((sh_ha H) x2)) x3)) (updN (sh_ha H) x2 (((sh_ha H) x2) + 1)))) else none) else none) else none) else none)) else none) else some (2, H))) else none) else none)
set_option maxRecDepth 100000 in
set_option maxHeartbeats 4000000 in
theorem c_Model_errorOfNew {Γ : G9} {h : AH} {m q qs sa sb ro z : Nat} {M : MO} {H : SH} {x2 : Nat} {x3 : Nat} {p : Int32 × SH} (bx2 : x2 ≤ 12) (bx3 : x3 ≤ 2500) (geo : m + 2 ≤ q) (hr : s_Model_errorOfNew M H x2 x3 = some p) : CallR Γ M_Model_errorOfNew 2 [.ref m, .ref q, .int (nI x2), .int (nI x3)] (mk_ Γ h m q qs sa sb ro M H) z (some (.int p.1)) (mk_ Γ h m q qs sa sb ro M p.2) := by
  refine Call.of_go (L := [some (.ref m), some (.ref q), some (.int (nI x2)), some (.int (nI x3))]) (by decide +kernel) rfl (by exact Nat.le_of_ble_eq_true rfl) ?_
  unfold s_Model_errorOfNew at hr
  refine Go.aload_0 d_Model_errorOfNew_0 rfl ?_
  refine Go.aload_1 d_Model_errorOfNew_1 rfl ?_
  refine Go.iload_2 d_Model_errorOfNew_2 rfl ?_
  refine Go.iload_3 d_Model_errorOfNew_3 rfl ?_
  have o4_1 : x2 ≤ 12 := Classical.byContradiction fun w => by
    rw [if_neg w] at hr
    cases hr
  have o4_2 : x3 ≤ 2500 := Classical.byContradiction fun w => by
    rw [if_pos o4_1, if_neg w] at hr
    cases hr
  rw [if_pos o4_1, if_pos o4_2] at hr
  obtain ⟨p4_3, hp4_3, hr⟩ := Option.bind_eq_some_iff.mp hr
  try dsimp only at hr
  refine Go.cv3r d_Model_errorOfNew_4 rfl l_Model_153 k_Model_find_v (mk_at_m (by omega)) rfl (c_Model_find (by omega) (by omega) (by omega) hp4_3) (Nat.ble_eq_true_of_le (by omega)) rfl rfl ?_
  refine Go.iconst (v := (-1)) d_Model_errorOfNew_7 rfl (by decide) ?_
  refine Go.icmp_eq (t := 13) d_Model_errorOfNew_8 (by decide) rfl (fun c8_4 => ?_) (fun c8_4 => ?_)
  · refine Go.aload_1 d_Model_errorOfNew_13 rfl ?_
    refine Go.getfield d_Model_errorOfNew_14 rfl f_Model_40 (mk_at_q (by omega)) (by rfl) ?_
    refine Go.iload_2 d_Model_errorOfNew_17 rfl ?_
    have o18_5 : x2 < 12 := Classical.byContradiction fun w => by
      rw [if_pos c8_4, if_neg w] at hr
      cases hr
    refine Go.iaload d_Model_errorOfNew_18 rfl (mk_at_q_5 (by omega)) (vp_in_nI o18_5 (by decide)) ?_
    rw [nI_clamp (show x2 < 2 ^ 31 by omega)]
    refine Go.iload_2 d_Model_errorOfNew_19 rfl ?_
    refine Go.cs1r d_Model_errorOfNew_20 rfl l_Model_157 k_Model_most_s rfl (mk_c_Model_most_ (by omega)) (Nat.ble_eq_true_of_le (by omega)) rfl rfl ?_
    refine Go.icmp_ne (t := 28) d_Model_errorOfNew_23 (by decide) rfl (fun c23_6 => ?_) (fun c23_6 => ?_)
    · refine Go.aload_1 d_Model_errorOfNew_28 rfl ?_
      refine Go.getfield d_Model_errorOfNew_29 rfl f_Model_147 (mk_at_q (by omega)) (by rfl) ?_
      refine Go.bipush (v := 6) d_Model_errorOfNew_32 rfl (by decide) ?_
      refine Go.iload_2 d_Model_errorOfNew_34 rfl ?_
      refine Go.imul d_Model_errorOfNew_35 rfl ?_
      rw [show 6 * nI x2 = nI (6 * x2) from by rw [show (6 : Int32) = nI 6 from rfl, pk_mul]]
      refine Go.aload_1 d_Model_errorOfNew_36 rfl ?_
      refine Go.getfield d_Model_errorOfNew_37 rfl f_Model_40 (mk_at_q (by omega)) (by rfl) ?_
      refine Go.iload_2 d_Model_errorOfNew_40 rfl ?_
      have o41_7 : x2 < 12 := Classical.byContradiction fun w => by
        rw [if_pos c8_4, if_pos o18_5, if_neg c23_6, if_neg w] at hr
        cases hr
      refine Go.iaload d_Model_errorOfNew_41 rfl (mk_at_q_5 (by omega)) (vp_in_nI o41_7 (by decide)) ?_
      rw [nI_clamp (show x2 < 2 ^ 31 by omega)]
      refine Go.iadd d_Model_errorOfNew_42 rfl ?_
      rw [show (nI (6 * x2)) + (nI ((sh_ha H) x2)) = nI ((6 * x2) + ((sh_ha H) x2)) from nI_add _ _]
      refine Go.iload_3 d_Model_errorOfNew_43 rfl ?_
      have o44_8 : ((6 * x2) + ((sh_ha H) x2)) < 72 := Classical.byContradiction fun w => by
        rw [if_pos c8_4, if_pos o18_5, if_neg c23_6, if_pos o41_7, if_neg w] at hr
        cases hr
      refine Go.iastore d_Model_errorOfNew_44 rfl (mk_at_q_6 (by omega)) (vp_in_nI o44_8 (by decide)) ?_
      rw [nI_clamp (show ((6 * x2) + ((sh_ha H) x2)) < 2 ^ 31 by omega)]
      rw [updN_eq]
      refine Go.heq (mk_arr_q_6 (by omega)) ?_
      refine Go.aload_1 d_Model_errorOfNew_45 rfl ?_
      refine Go.getfield d_Model_errorOfNew_46 rfl f_Model_40 (mk_at_q (by omega)) (by rfl) ?_
      refine Go.iload_2 d_Model_errorOfNew_49 rfl ?_
      refine Go.dup2 d_Model_errorOfNew_50 rfl rfl rfl ?_
      have o51_9 : x2 < 12 := Classical.byContradiction fun w => by
        rw [if_pos c8_4, if_pos o18_5, if_neg c23_6, if_pos o41_7, if_pos o44_8, if_neg w] at hr
        cases hr
      refine Go.iaload d_Model_errorOfNew_51 rfl (mk_at_q_5 (by omega)) (vp_in_nI o51_9 (by decide)) ?_
      rw [nI_clamp (show x2 < 2 ^ 31 by omega)]
      refine Go.iconst (v := 1) d_Model_errorOfNew_52 rfl (by decide) ?_
      refine Go.iadd d_Model_errorOfNew_53 rfl ?_
      rw [show (nI ((sh_ha H) x2)) + 1 = nI (((sh_ha H) x2) + 1) from nI_add _ _]
      have o54_10 : x2 < 12 := Classical.byContradiction fun w => by
        rw [if_pos c8_4, if_pos o18_5, if_neg c23_6, if_pos o41_7, if_pos o44_8, if_pos o51_9, if_neg w] at hr
        cases hr
      refine Go.iastore d_Model_errorOfNew_54 rfl (mk_at_q_5 (by omega)) (vp_in_nI o54_10 (by decide)) ?_
      rw [nI_clamp (show x2 < 2 ^ 31 by omega)]
      rw [updN_eq]
      refine Go.heq (mk_arr_q_5 (by omega)) ?_
      refine Go.iconst (v := 0) d_Model_errorOfNew_55 rfl (by decide) ?_
      rw [if_pos c8_4, if_pos o18_5, if_neg c23_6, if_pos o41_7, if_pos o44_8, if_pos o51_9, if_pos o54_10] at hr
      cases hr
      exact Go.iret d_Model_errorOfNew_56 rfl rfl ⟨rfl, by dsimp only, rfl⟩
    · refine Go.iconst (v := 4) d_Model_errorOfNew_26 rfl (by decide) ?_
      rw [if_pos c8_4, if_pos o18_5, if_pos c23_6] at hr
      cases hr
      exact Go.iret d_Model_errorOfNew_27 rfl rfl ⟨rfl, by dsimp only, rfl⟩
  · refine Go.iconst (v := 2) d_Model_errorOfNew_11 rfl (by decide) ?_
    rw [if_neg c8_4] at hr
    cases hr
    exact Go.iret d_Model_errorOfNew_12 rfl rfl ⟨rfl, by dsimp only, rfl⟩
theorem mk_at_q_19 {Γ : G9} {h : AH} {m q qs sa sb ro : Nat} {M : MO} {H : SH} (geo : m + 2 ≤ q) : (mk_ Γ h m q qs sa sb ro M H) (q + 19) = some (aI Γ 20 (sh_ds H)) := by
  unfold mk_
  exact (sh_g19)
theorem mk_arr_q_19 {Γ : G9} {h : AH} {m q qs sa sb ro : Nat} {M : MO} {H : SH} {v : Nat → Int32} (geo : m + 2 ≤ q) : hup (mk_ Γ h m q qs sa sb ro M H) (q + 19) (aI Γ 20 v) = (mk_ Γ h m q qs sa sb ro M (sh_ds' H v)) := by
  unfold mk_
  exact (sh_a_ds (v := v))
theorem mk_at_q_23 {Γ : G9} {h : AH} {m q qs sa sb ro : Nat} {M : MO} {H : SH} (geo : m + 2 ≤ q) : (mk_ Γ h m q qs sa sb ro M H) (q + 23) = some (aI Γ 20 (sh_wh H)) := by
  unfold mk_
  exact (sh_g23)
theorem mk_arr_q_23 {Γ : G9} {h : AH} {m q qs sa sb ro : Nat} {M : MO} {H : SH} {v : Nat → Int32} (geo : m + 2 ≤ q) : hup (mk_ Γ h m q qs sa sb ro M H) (q + 23) (aI Γ 20 v) = (mk_ Γ h m q qs sa sb ro M (sh_wh' H v)) := by
  unfold mk_
  exact (sh_a_wh (v := v))
theorem mk_put_q_orders {Γ : G9} {h : AH} {m q qs sa sb ro : Nat} {M : MO} {H : SH} {v : Nat} (geo : m + 2 ≤ q) : hup (mk_ Γ h m q qs sa sb ro M H) q (.inr (9, [.ref (q + 1), .ref (q + 2), .ref (q + 3), .ref (q + 4), .ref (q + 5), .ref (q + 6), .int (sh_ln H), .ref (q + 7), .ref (q + 8), .ref (q + 9), .ref (q + 10), .ref (q + 11), .ref (q + 12), .ref (q + 13), .ref (q + 14), .ref (q + 15), .ref (q + 16), .ref (q + 17), .ref (q + 18), .int (sh_dt H), .int (nI (sh_or H)), .ref (q + 19), .ref (q + 20), .ref (q + 21), .ref (q + 22), .ref (q + 23)].set 20 (.int (nI v)))) = (mk_ Γ h m q qs sa sb ro M (sh_or' H v)) := by
  unfold mk_
  exact (sh_p_or (v := v))
theorem d_Model_errorOfOrder_0 : decode M_Model_errorOfOrder.2.1 0 = .ok (.aload_n 1, 1) := by decide +kernel
theorem d_Model_errorOfOrder_1 : decode M_Model_errorOfOrder.2.1 1 = .ok (.getfield 172, 3) := by decide +kernel
theorem d_Model_errorOfOrder_4 : decode M_Model_errorOfOrder.2.1 4 = .ok (.bipush 20, 2) := by decide +kernel
theorem d_Model_errorOfOrder_6 : decode M_Model_errorOfOrder.2.1 6 = .ok (.if_icmp .ne 5, 3) := by decide +kernel
theorem d_Model_errorOfOrder_9 : decode M_Model_errorOfOrder.2.1 9 = .ok (.iconst 4, 1) := by decide +kernel
theorem d_Model_errorOfOrder_10 : decode M_Model_errorOfOrder.2.1 10 = .ok (.ireturn, 1) := by decide +kernel
theorem d_Model_errorOfOrder_11 : decode M_Model_errorOfOrder.2.1 11 = .ok (.aload_n 1, 1) := by decide +kernel
theorem d_Model_errorOfOrder_12 : decode M_Model_errorOfOrder.2.1 12 = .ok (.getfield 230, 3) := by decide +kernel
theorem d_Model_errorOfOrder_15 : decode M_Model_errorOfOrder.2.1 15 = .ok (.aload_n 1, 1) := by decide +kernel
theorem d_Model_errorOfOrder_16 : decode M_Model_errorOfOrder.2.1 16 = .ok (.getfield 172, 3) := by decide +kernel
theorem d_Model_errorOfOrder_19 : decode M_Model_errorOfOrder.2.1 19 = .ok (.iload_n 2, 1) := by decide +kernel
theorem d_Model_errorOfOrder_20 : decode M_Model_errorOfOrder.2.1 20 = .ok (.iastore, 1) := by decide +kernel
theorem d_Model_errorOfOrder_21 : decode M_Model_errorOfOrder.2.1 21 = .ok (.aload_n 1, 1) := by decide +kernel
theorem d_Model_errorOfOrder_22 : decode M_Model_errorOfOrder.2.1 22 = .ok (.getfield 233, 3) := by decide +kernel
theorem d_Model_errorOfOrder_25 : decode M_Model_errorOfOrder.2.1 25 = .ok (.aload_n 1, 1) := by decide +kernel
theorem d_Model_errorOfOrder_26 : decode M_Model_errorOfOrder.2.1 26 = .ok (.getfield 172, 3) := by decide +kernel
theorem d_Model_errorOfOrder_29 : decode M_Model_errorOfOrder.2.1 29 = .ok (.iconst (-1), 1) := by decide +kernel
theorem d_Model_errorOfOrder_30 : decode M_Model_errorOfOrder.2.1 30 = .ok (.iastore, 1) := by decide +kernel
theorem d_Model_errorOfOrder_31 : decode M_Model_errorOfOrder.2.1 31 = .ok (.aload_n 1, 1) := by decide +kernel
theorem d_Model_errorOfOrder_32 : decode M_Model_errorOfOrder.2.1 32 = .ok (.dup, 1) := by decide +kernel
theorem d_Model_errorOfOrder_33 : decode M_Model_errorOfOrder.2.1 33 = .ok (.getfield 172, 3) := by decide +kernel
theorem d_Model_errorOfOrder_36 : decode M_Model_errorOfOrder.2.1 36 = .ok (.iconst 1, 1) := by decide +kernel
theorem d_Model_errorOfOrder_37 : decode M_Model_errorOfOrder.2.1 37 = .ok (.iadd, 1) := by decide +kernel
theorem d_Model_errorOfOrder_38 : decode M_Model_errorOfOrder.2.1 38 = .ok (.putfield 172, 3) := by decide +kernel
theorem d_Model_errorOfOrder_41 : decode M_Model_errorOfOrder.2.1 41 = .ok (.iconst 0, 1) := by decide +kernel
theorem d_Model_errorOfOrder_42 : decode M_Model_errorOfOrder.2.1 42 = .ok (.ireturn, 1) := by decide +kernel
def s_Model_errorOfOrder (M : MO) (H : SH) (x2 : Int32) : Option (Int32 × SH) := (if (nI (sh_or H)) = 20 then some (4, H) else (if (sh_or H) < 20 then (if (sh_or H) < 20 then some (0, (sh_or' (sh_wh' (sh_ds' H (upd (sh_ds H) (sh_or H) x2)) (upd (sh_wh H) (sh_or H) (-1))) ((sh_or H) + 1))) else none) else none))
set_option maxRecDepth 100000 in
set_option maxHeartbeats 4000000 in
theorem c_Model_errorOfOrder {Γ : G9} {h : AH} {m q qs sa sb ro z : Nat} {M : MO} {H : SH} {x2 : Int32} {p : Int32 × SH} (geo : m + 2 ≤ q) (hr : s_Model_errorOfOrder M H x2 = some p) : CallR Γ M_Model_errorOfOrder 0 [.ref m, .ref q, .int x2] (mk_ Γ h m q qs sa sb ro M H) z (some (.int p.1)) (mk_ Γ h m q qs sa sb ro M p.2) := by
  refine Call.of_go (L := [some (.ref m), some (.ref q), some (.int x2)]) (by decide +kernel) rfl (by exact Nat.le_of_ble_eq_true rfl) ?_
  unfold s_Model_errorOfOrder at hr
  refine Go.aload_1 d_Model_errorOfOrder_0 rfl ?_
  refine Go.getfield d_Model_errorOfOrder_1 rfl f_Model_172 (mk_at_q (by omega)) (by rfl) ?_
  refine Go.bipush (v := 20) d_Model_errorOfOrder_4 rfl (by decide) ?_
  refine Go.icmp_ne (t := 11) d_Model_errorOfOrder_6 (by decide) rfl (fun c6_1 => ?_) (fun c6_1 => ?_)
  · refine Go.aload_1 d_Model_errorOfOrder_11 rfl ?_
    refine Go.getfield d_Model_errorOfOrder_12 rfl f_Model_230 (mk_at_q (by omega)) (by rfl) ?_
    refine Go.aload_1 d_Model_errorOfOrder_15 rfl ?_
    refine Go.getfield d_Model_errorOfOrder_16 rfl f_Model_172 (mk_at_q (by omega)) (by rfl) ?_
    refine Go.iload_2 d_Model_errorOfOrder_19 rfl ?_
    have o20_2 : (sh_or H) < 20 := Classical.byContradiction fun w => by
      rw [if_neg c6_1, if_neg w] at hr
      cases hr
    refine Go.iastore d_Model_errorOfOrder_20 rfl (mk_at_q_19 (by omega)) (vp_in_nI o20_2 (by decide)) ?_
    rw [nI_clamp (show (sh_or H) < 2 ^ 31 by omega)]
    refine Go.heq (mk_arr_q_19 (by omega)) ?_
    refine Go.aload_1 d_Model_errorOfOrder_21 rfl ?_
    refine Go.getfield d_Model_errorOfOrder_22 rfl f_Model_233 (mk_at_q (by omega)) (by rfl) ?_
    refine Go.aload_1 d_Model_errorOfOrder_25 rfl ?_
    refine Go.getfield d_Model_errorOfOrder_26 rfl f_Model_172 (mk_at_q (by omega)) (by rfl) ?_
    refine Go.iconst (v := (-1)) d_Model_errorOfOrder_29 rfl (by decide) ?_
    have o30_3 : (sh_or H) < 20 := Classical.byContradiction fun w => by
      rw [if_neg c6_1, if_pos o20_2, if_neg w] at hr
      cases hr
    refine Go.iastore d_Model_errorOfOrder_30 rfl (mk_at_q_23 (by omega)) (vp_in_nI o30_3 (by decide)) ?_
    rw [nI_clamp (show (sh_or H) < 2 ^ 31 by omega)]
    refine Go.heq (mk_arr_q_23 (by omega)) ?_
    refine Go.aload_1 d_Model_errorOfOrder_31 rfl ?_
    refine Go.dup d_Model_errorOfOrder_32 rfl rfl ?_
    refine Go.getfield d_Model_errorOfOrder_33 rfl f_Model_172 (mk_at_q (by omega)) (by rfl) ?_
    refine Go.iconst (v := 1) d_Model_errorOfOrder_36 rfl (by decide) ?_
    refine Go.iadd d_Model_errorOfOrder_37 rfl ?_
    rw [show (nI (sh_or H)) + 1 = nI ((sh_or H) + 1) from nI_add _ _]
    refine Go.putfield d_Model_errorOfOrder_38 rfl f_Model_172_p (Or.inl (fun C T N h => by cases h; rfl)) (mk_at_q (by omega)) (by exact Nat.le_of_ble_eq_true rfl) rfl rfl ?_
    refine Go.heq (mk_put_q_orders (by omega)) ?_
    refine Go.iconst (v := 0) d_Model_errorOfOrder_41 rfl (by decide) ?_
    rw [if_neg c6_1, if_pos o20_2, if_pos o30_3] at hr
    cases hr
    exact Go.iret d_Model_errorOfOrder_42 rfl rfl ⟨rfl, by dsimp only, rfl⟩
  · refine Go.iconst (v := 4) d_Model_errorOfOrder_9 rfl (by decide) ?_
    rw [if_pos c6_1] at hr
    cases hr
    exact Go.iret d_Model_errorOfOrder_10 rfl rfl ⟨rfl, by dsimp only, rfl⟩
