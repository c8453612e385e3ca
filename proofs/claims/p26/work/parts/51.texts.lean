/-! the builder: an int is appended; its beginning; the text that comes out -/
/-- the digits of a number below 1000 -/
def dec (v : Nat) : List Int32 := if v < 10 then [nI (48 + v)] else if v < 100 then [nI (48 + v / 10), nI (48 + v % 10)] else [nI (48 + v / 100), nI (48 + v / 10 % 10), nI (48 + v % 10)]
theorem dg_div : ∀ v, v < 1000 → (-nI v) / 100 = -nI (v / 100) := by decide +kernel
theorem dg_rem : ∀ v, v < 1000 → -nI (v / 100) * 100 - -nI v = nI (v % 100) := by decide +kernel
theorem dg_100 : ∀ v, v < 100 → (-100 : Int32) < -nI v := by decide +kernel
theorem dg_n100 : ∀ v, v < 900 → ¬ (-100 : Int32) < -nI (v + 100) := by decide +kernel
theorem dg_9 : ∀ v, v < 10 → (-9 : Int32) ≤ -nI v := by decide +kernel
theorem dg_n9 : ∀ v, v < 90 → ¬ (-9 : Int32) ≤ -nI (v + 10) := by decide +kernel
theorem dg_le10 : ∀ v, v < 990 → -nI (v + 10) ≤ (-10 : Int32) := by decide +kernel
theorem dg_nle10 : ∀ v, v < 10 → ¬ -nI v ≤ (-10 : Int32) := by decide +kernel
theorem dg_le100 : ∀ v, v < 900 → -nI (v + 100) ≤ (-100 : Int32) := by decide +kernel
theorem dg_nle100 : ∀ v, v < 100 → ¬ -nI v ≤ (-100 : Int32) := by decide +kernel
theorem dg_nle1000 : ∀ v, v < 1000 → ¬ -nI v ≤ (-1000 : Int32) := by decide +kernel
theorem dg_b : ∀ v, v < 10 → (nI (48 + v)).toInt8.toInt32 = nI (48 + v) := by decide +kernel
theorem dg_fit : ∀ v, v < 10 → fits .byte (.int (nI (48 + v))) = true := by decide +kernel
theorem dec_len (v : Nat) : 1 ≤ (dec v).length ∧ (dec v).length ≤ 3 := by
  unfold dec
  split
  · exact ⟨Nat.le_refl _, Nat.le_of_ble_eq_true rfl⟩
  · split
    · exact ⟨Nat.le_of_ble_eq_true rfl, Nat.le_of_ble_eq_true rfl⟩
    · exact ⟨Nat.le_of_ble_eq_true rfl, Nat.le_of_ble_eq_true rfl⟩
theorem LB_nil : LB [] := fun j => by rw [List.getD_nil]; decide
theorem LB_cons {x : Int32} {l : List Int32} (hx : fits .byte (.int x) = true) (hl : LB l) : LB (x :: l) := by
  intro j
  cases j with
  | zero => exact hx
  | succ j => exact hl j
theorem LB_dec {v : Nat} (hv : v < 1000) : LB (dec v) := by
  unfold dec
  split
  · exact LB_cons (dg_fit v (by omega)) LB_nil
  · split
    · exact LB_cons (dg_fit _ (by omega)) (LB_cons (dg_fit _ (by omega)) LB_nil)
    · exact LB_cons (dg_fit _ (by omega)) (LB_cons (dg_fit _ (by omega)) (LB_cons (dg_fit _ (by omega)) LB_nil))
/-- the tables of digits -/
def DgOk (Γ : G9) : Prop := ∃ a1 a2 : Nat, SF Γ (va_Z "java/lang/Integer" "DigitOnes" "[B" (.ref a1)) ∧ SF Γ (va_Z "java/lang/Integer" "DigitTens" "[B" (.ref a2)) ∧ SF Γ (va_T .byte a1 100 (fun j => .int (nI (48 + j % 10)))) ∧ SF Γ (va_T .byte a2 100 (fun j => .int (nI (48 + j / 10))))
theorem d_Integer_stringSize_0 : decode M_Integer_stringSize.2.1 0 = .ok (.iconst 1, 1) := by decide +kernel
theorem d_Integer_stringSize_1 : decode M_Integer_stringSize.2.1 1 = .ok (.istore_n 1, 1) := by decide +kernel
theorem d_Integer_stringSize_2 : decode M_Integer_stringSize.2.1 2 = .ok (.iload_n 0, 1) := by decide +kernel
theorem d_Integer_stringSize_3 : decode M_Integer_stringSize.2.1 3 = .ok (.ifCond .lt 8, 3) := by decide +kernel
theorem d_Integer_stringSize_6 : decode M_Integer_stringSize.2.1 6 = .ok (.iconst 0, 1) := by decide +kernel
theorem d_Integer_stringSize_7 : decode M_Integer_stringSize.2.1 7 = .ok (.istore_n 1, 1) := by decide +kernel
theorem d_Integer_stringSize_8 : decode M_Integer_stringSize.2.1 8 = .ok (.iload_n 0, 1) := by decide +kernel
theorem d_Integer_stringSize_9 : decode M_Integer_stringSize.2.1 9 = .ok (.ineg, 1) := by decide +kernel
theorem d_Integer_stringSize_10 : decode M_Integer_stringSize.2.1 10 = .ok (.istore_n 0, 1) := by decide +kernel
theorem d_Integer_stringSize_11 : decode M_Integer_stringSize.2.1 11 = .ok (.bipush (-10), 2) := by decide +kernel
theorem d_Integer_stringSize_13 : decode M_Integer_stringSize.2.1 13 = .ok (.istore_n 2, 1) := by decide +kernel
theorem d_Integer_stringSize_14 : decode M_Integer_stringSize.2.1 14 = .ok (.iconst 1, 1) := by decide +kernel
theorem d_Integer_stringSize_15 : decode M_Integer_stringSize.2.1 15 = .ok (.istore_n 3, 1) := by decide +kernel
theorem d_Integer_stringSize_16 : decode M_Integer_stringSize.2.1 16 = .ok (.iload_n 3, 1) := by decide +kernel
theorem d_Integer_stringSize_17 : decode M_Integer_stringSize.2.1 17 = .ok (.bipush 10, 2) := by decide +kernel
theorem d_Integer_stringSize_19 : decode M_Integer_stringSize.2.1 19 = .ok (.if_icmp .ge 23, 3) := by decide +kernel
theorem d_Integer_stringSize_22 : decode M_Integer_stringSize.2.1 22 = .ok (.iload_n 0, 1) := by decide +kernel
theorem d_Integer_stringSize_23 : decode M_Integer_stringSize.2.1 23 = .ok (.iload_n 2, 1) := by decide +kernel
theorem d_Integer_stringSize_24 : decode M_Integer_stringSize.2.1 24 = .ok (.if_icmp .le 7, 3) := by decide +kernel
theorem d_Integer_stringSize_27 : decode M_Integer_stringSize.2.1 27 = .ok (.iload_n 3, 1) := by decide +kernel
theorem d_Integer_stringSize_28 : decode M_Integer_stringSize.2.1 28 = .ok (.iload_n 1, 1) := by decide +kernel
theorem d_Integer_stringSize_29 : decode M_Integer_stringSize.2.1 29 = .ok (.iadd, 1) := by decide +kernel
theorem d_Integer_stringSize_30 : decode M_Integer_stringSize.2.1 30 = .ok (.ireturn, 1) := by decide +kernel
theorem d_Integer_stringSize_31 : decode M_Integer_stringSize.2.1 31 = .ok (.bipush 10, 2) := by decide +kernel
theorem d_Integer_stringSize_33 : decode M_Integer_stringSize.2.1 33 = .ok (.iload_n 2, 1) := by decide +kernel
theorem d_Integer_stringSize_34 : decode M_Integer_stringSize.2.1 34 = .ok (.imul, 1) := by decide +kernel
theorem d_Integer_stringSize_35 : decode M_Integer_stringSize.2.1 35 = .ok (.istore_n 2, 1) := by decide +kernel
theorem d_Integer_stringSize_36 : decode M_Integer_stringSize.2.1 36 = .ok (.iinc 3 1, 3) := by decide +kernel
theorem d_Integer_stringSize_39 : decode M_Integer_stringSize.2.1 39 = .ok (.goto (-23), 3) := by decide +kernel
set_option maxRecDepth 100000 in
set_option maxHeartbeats 4000000 in
theorem c_stringSize {Γ : G9} {h : AH} {z v : Nat} (hv : v < 1000) : CallR Γ M_Integer_stringSize 0 [.int (nI v)] h z (some (.int (nI (dec v).length))) h := by
  refine Call.of_go (L := [some (.int (nI v)), none, none, none]) (by decide +kernel) rfl (by exact Nat.le_of_ble_eq_true rfl) ?_
  refine Go.iconst (v := 1) d_Integer_stringSize_0 rfl (by decide) ?_
  refine Go.istore_1 d_Integer_stringSize_1 rfl (by rfl) ?_
  refine Go.iload_0 d_Integer_stringSize_2 rfl ?_
  refine Go.if_lt (t := 11) d_Integer_stringSize_3 (by decide) rfl (fun w => absurd w (nI_pos (by omega))) (fun _ => ?_)
  refine Go.iconst (v := 0) d_Integer_stringSize_6 rfl (by decide) ?_
  refine Go.istore_1 d_Integer_stringSize_7 rfl (by rfl) ?_
  refine Go.iload_0 d_Integer_stringSize_8 rfl ?_
  refine Go.ineg d_Integer_stringSize_9 rfl ?_
  refine Go.istore_0 d_Integer_stringSize_10 rfl ?_
  refine Go.bipush (v := (-10)) d_Integer_stringSize_11 rfl (by decide) ?_
  refine Go.istore_2 d_Integer_stringSize_13 rfl (by rfl) ?_
  refine Go.iconst (v := 1) d_Integer_stringSize_14 rfl (by decide) ?_
  refine Go.istore_3 d_Integer_stringSize_15 rfl (by rfl) ?_
  by_cases h1 : v < 10
  · rw [show (dec v).length = 1 by unfold dec; rw [if_pos h1]; rfl]
    refine Go.iload_3 d_Integer_stringSize_16 rfl ?_
    refine Go.bipush (v := 10) d_Integer_stringSize_17 rfl (by decide) ?_
    refine Go.icmp_ge (t := 42) d_Integer_stringSize_19 (by decide) rfl (fun w => absurd w (by decide)) (fun _ => ?_)
    refine Go.iload_0 d_Integer_stringSize_22 rfl ?_
    refine Go.iload_2 d_Integer_stringSize_23 rfl ?_
    refine Go.icmp_le (t := 31) d_Integer_stringSize_24 (by decide) rfl (fun w => absurd w (dg_nle10 v h1)) (fun _ => ?_)
    refine Go.iload_3 d_Integer_stringSize_27 rfl ?_
    refine Go.iload_1 d_Integer_stringSize_28 rfl ?_
    refine Go.iadd d_Integer_stringSize_29 rfl ?_
    exact Go.iret d_Integer_stringSize_30 rfl rfl ⟨rfl, rfl, rfl⟩
  refine Go.iload_3 d_Integer_stringSize_16 rfl ?_
  refine Go.bipush (v := 10) d_Integer_stringSize_17 rfl (by decide) ?_
  refine Go.icmp_ge (t := 42) d_Integer_stringSize_19 (by decide) rfl (fun w => absurd w (by decide)) (fun _ => ?_)
  refine Go.iload_0 d_Integer_stringSize_22 rfl ?_
  refine Go.iload_2 d_Integer_stringSize_23 rfl ?_
  refine Go.icmp_le (t := 31) d_Integer_stringSize_24 (by decide) rfl (fun _ => ?_) (fun w => absurd (by rw [show v = (v - 10) + 10 by omega]; exact dg_le10 (v - 10) (by omega)) w)
  refine Go.bipush (v := 10) d_Integer_stringSize_31 rfl (by decide) ?_
  refine Go.iload_2 d_Integer_stringSize_33 rfl ?_
  refine Go.imul d_Integer_stringSize_34 rfl ?_
  rw [show (10 : Int32) * (-10) = -100 from by decide]
  refine Go.istore_2 d_Integer_stringSize_35 rfl (by rfl) ?_
  refine Go.iinc_3 d_Integer_stringSize_36 rfl (by rfl) (show _ + Int32.ofInt 1 = (2 : Int32) by decide) ?_
  refine Go.goto (t := 16) d_Integer_stringSize_39 (by decide) ?_
  by_cases h2 : v < 100
  · rw [show (dec v).length = 2 by unfold dec; rw [if_neg h1, if_pos h2]; rfl]
    refine Go.iload_3 d_Integer_stringSize_16 rfl ?_
    refine Go.bipush (v := 10) d_Integer_stringSize_17 rfl (by decide) ?_
    refine Go.icmp_ge (t := 42) d_Integer_stringSize_19 (by decide) rfl (fun w => absurd w (by decide)) (fun _ => ?_)
    refine Go.iload_0 d_Integer_stringSize_22 rfl ?_
    refine Go.iload_2 d_Integer_stringSize_23 rfl ?_
    refine Go.icmp_le (t := 31) d_Integer_stringSize_24 (by decide) rfl (fun w => absurd w (dg_nle100 v h2)) (fun _ => ?_)
    refine Go.iload_3 d_Integer_stringSize_27 rfl ?_
    refine Go.iload_1 d_Integer_stringSize_28 rfl ?_
    refine Go.iadd d_Integer_stringSize_29 rfl ?_
    exact Go.iret d_Integer_stringSize_30 rfl rfl ⟨rfl, rfl, rfl⟩
  refine Go.iload_3 d_Integer_stringSize_16 rfl ?_
  refine Go.bipush (v := 10) d_Integer_stringSize_17 rfl (by decide) ?_
  refine Go.icmp_ge (t := 42) d_Integer_stringSize_19 (by decide) rfl (fun w => absurd w (by decide)) (fun _ => ?_)
  refine Go.iload_0 d_Integer_stringSize_22 rfl ?_
  refine Go.iload_2 d_Integer_stringSize_23 rfl ?_
  refine Go.icmp_le (t := 31) d_Integer_stringSize_24 (by decide) rfl (fun _ => ?_) (fun w => absurd (by rw [show v = (v - 100) + 100 by omega]; exact dg_le100 (v - 100) (by omega)) w)
  refine Go.bipush (v := 10) d_Integer_stringSize_31 rfl (by decide) ?_
  refine Go.iload_2 d_Integer_stringSize_33 rfl ?_
  refine Go.imul d_Integer_stringSize_34 rfl ?_
  rw [show (10 : Int32) * (-100) = -1000 from by decide]
  refine Go.istore_2 d_Integer_stringSize_35 rfl (by rfl) ?_
  refine Go.iinc_3 d_Integer_stringSize_36 rfl (by rfl) (show _ + Int32.ofInt 1 = (3 : Int32) by decide) ?_
  refine Go.goto (t := 16) d_Integer_stringSize_39 (by decide) ?_
  rw [show (dec v).length = 3 by unfold dec; rw [if_neg h1, if_neg h2]; rfl]
  refine Go.iload_3 d_Integer_stringSize_16 rfl ?_
  refine Go.bipush (v := 10) d_Integer_stringSize_17 rfl (by decide) ?_
  refine Go.icmp_ge (t := 42) d_Integer_stringSize_19 (by decide) rfl (fun w => absurd w (by decide)) (fun _ => ?_)
  refine Go.iload_0 d_Integer_stringSize_22 rfl ?_
  refine Go.iload_2 d_Integer_stringSize_23 rfl ?_
  refine Go.icmp_le (t := 31) d_Integer_stringSize_24 (by decide) rfl (fun w => absurd w (dg_nle1000 v hv)) (fun _ => ?_)
  refine Go.iload_3 d_Integer_stringSize_27 rfl ?_
  refine Go.iload_1 d_Integer_stringSize_28 rfl ?_
  refine Go.iadd d_Integer_stringSize_29 rfl ?_
  exact Go.iret d_Integer_stringSize_30 rfl rfl ⟨rfl, rfl, rfl⟩
/-- a row with the digits of v written at n -/
def gch (a : Nat → Int32) (n v : Nat) : Nat → Int32 := if v < 10 then upd a n (nI (48 + v)) else if v < 100 then upd (upd a (n + 1) (nI (48 + v % 10))) n (nI (48 + v / 10)) else upd (upd (upd a (n + 2) (nI (48 + v % 10))) (n + 1) (nI (48 + v / 10 % 10))) n (nI (48 + v / 100))
theorem d_Integer_getChars_0 : decode M_Integer_getChars.2.1 0 = .ok (.iload_n 1, 1) := by decide +kernel
theorem d_Integer_getChars_1 : decode M_Integer_getChars.2.1 1 = .ok (.istore 5, 2) := by decide +kernel
theorem d_Integer_getChars_3 : decode M_Integer_getChars.2.1 3 = .ok (.iload_n 0, 1) := by decide +kernel
theorem d_Integer_getChars_4 : decode M_Integer_getChars.2.1 4 = .ok (.ifCond .ge 7, 3) := by decide +kernel
theorem d_Integer_getChars_11 : decode M_Integer_getChars.2.1 11 = .ok (.iconst 0, 1) := by decide +kernel
theorem d_Integer_getChars_12 : decode M_Integer_getChars.2.1 12 = .ok (.istore 6, 2) := by decide +kernel
theorem d_Integer_getChars_14 : decode M_Integer_getChars.2.1 14 = .ok (.iload 6, 2) := by decide +kernel
theorem d_Integer_getChars_16 : decode M_Integer_getChars.2.1 16 = .ok (.ifCond .ne 6, 3) := by decide +kernel
theorem d_Integer_getChars_19 : decode M_Integer_getChars.2.1 19 = .ok (.iload_n 0, 1) := by decide +kernel
theorem d_Integer_getChars_20 : decode M_Integer_getChars.2.1 20 = .ok (.ineg, 1) := by decide +kernel
theorem d_Integer_getChars_21 : decode M_Integer_getChars.2.1 21 = .ok (.istore_n 0, 1) := by decide +kernel
theorem d_Integer_getChars_22 : decode M_Integer_getChars.2.1 22 = .ok (.iload_n 0, 1) := by decide +kernel
theorem d_Integer_getChars_23 : decode M_Integer_getChars.2.1 23 = .ok (.bipush (-100), 2) := by decide +kernel
theorem d_Integer_getChars_25 : decode M_Integer_getChars.2.1 25 = .ok (.if_icmp .gt 47, 3) := by decide +kernel
theorem d_Integer_getChars_28 : decode M_Integer_getChars.2.1 28 = .ok (.iload_n 0, 1) := by decide +kernel
theorem d_Integer_getChars_29 : decode M_Integer_getChars.2.1 29 = .ok (.bipush 100, 2) := by decide +kernel
theorem d_Integer_getChars_31 : decode M_Integer_getChars.2.1 31 = .ok (.idiv, 1) := by decide +kernel
theorem d_Integer_getChars_32 : decode M_Integer_getChars.2.1 32 = .ok (.istore_n 3, 1) := by decide +kernel
theorem d_Integer_getChars_33 : decode M_Integer_getChars.2.1 33 = .ok (.iload_n 3, 1) := by decide +kernel
theorem d_Integer_getChars_34 : decode M_Integer_getChars.2.1 34 = .ok (.bipush 100, 2) := by decide +kernel
theorem d_Integer_getChars_36 : decode M_Integer_getChars.2.1 36 = .ok (.imul, 1) := by decide +kernel
theorem d_Integer_getChars_37 : decode M_Integer_getChars.2.1 37 = .ok (.iload_n 0, 1) := by decide +kernel
theorem d_Integer_getChars_38 : decode M_Integer_getChars.2.1 38 = .ok (.isub, 1) := by decide +kernel
theorem d_Integer_getChars_39 : decode M_Integer_getChars.2.1 39 = .ok (.istore 4, 2) := by decide +kernel
theorem d_Integer_getChars_41 : decode M_Integer_getChars.2.1 41 = .ok (.iload_n 3, 1) := by decide +kernel
theorem d_Integer_getChars_42 : decode M_Integer_getChars.2.1 42 = .ok (.istore_n 0, 1) := by decide +kernel
theorem d_Integer_getChars_43 : decode M_Integer_getChars.2.1 43 = .ok (.aload_n 2, 1) := by decide +kernel
theorem d_Integer_getChars_44 : decode M_Integer_getChars.2.1 44 = .ok (.iinc 5 (-1), 3) := by decide +kernel
theorem d_Integer_getChars_47 : decode M_Integer_getChars.2.1 47 = .ok (.iload 5, 2) := by decide +kernel
theorem d_Integer_getChars_49 : decode M_Integer_getChars.2.1 49 = .ok (.getstatic 83, 3) := by decide +kernel
theorem d_Integer_getChars_52 : decode M_Integer_getChars.2.1 52 = .ok (.iload 4, 2) := by decide +kernel
theorem d_Integer_getChars_54 : decode M_Integer_getChars.2.1 54 = .ok (.baload, 1) := by decide +kernel
theorem d_Integer_getChars_55 : decode M_Integer_getChars.2.1 55 = .ok (.bastore, 1) := by decide +kernel
theorem d_Integer_getChars_56 : decode M_Integer_getChars.2.1 56 = .ok (.aload_n 2, 1) := by decide +kernel
theorem d_Integer_getChars_57 : decode M_Integer_getChars.2.1 57 = .ok (.iinc 5 (-1), 3) := by decide +kernel
theorem d_Integer_getChars_60 : decode M_Integer_getChars.2.1 60 = .ok (.iload 5, 2) := by decide +kernel
theorem d_Integer_getChars_62 : decode M_Integer_getChars.2.1 62 = .ok (.getstatic 87, 3) := by decide +kernel
theorem d_Integer_getChars_65 : decode M_Integer_getChars.2.1 65 = .ok (.iload 4, 2) := by decide +kernel
theorem d_Integer_getChars_67 : decode M_Integer_getChars.2.1 67 = .ok (.baload, 1) := by decide +kernel
theorem d_Integer_getChars_68 : decode M_Integer_getChars.2.1 68 = .ok (.bastore, 1) := by decide +kernel
theorem d_Integer_getChars_69 : decode M_Integer_getChars.2.1 69 = .ok (.goto (-47), 3) := by decide +kernel
theorem d_Integer_getChars_72 : decode M_Integer_getChars.2.1 72 = .ok (.aload_n 2, 1) := by decide +kernel
theorem d_Integer_getChars_73 : decode M_Integer_getChars.2.1 73 = .ok (.iinc 5 (-1), 3) := by decide +kernel
theorem d_Integer_getChars_76 : decode M_Integer_getChars.2.1 76 = .ok (.iload 5, 2) := by decide +kernel
theorem d_Integer_getChars_78 : decode M_Integer_getChars.2.1 78 = .ok (.getstatic 83, 3) := by decide +kernel
theorem d_Integer_getChars_81 : decode M_Integer_getChars.2.1 81 = .ok (.iload_n 0, 1) := by decide +kernel
theorem d_Integer_getChars_82 : decode M_Integer_getChars.2.1 82 = .ok (.ineg, 1) := by decide +kernel
theorem d_Integer_getChars_83 : decode M_Integer_getChars.2.1 83 = .ok (.baload, 1) := by decide +kernel
theorem d_Integer_getChars_84 : decode M_Integer_getChars.2.1 84 = .ok (.bastore, 1) := by decide +kernel
theorem d_Integer_getChars_85 : decode M_Integer_getChars.2.1 85 = .ok (.iload_n 0, 1) := by decide +kernel
theorem d_Integer_getChars_86 : decode M_Integer_getChars.2.1 86 = .ok (.bipush (-9), 2) := by decide +kernel
theorem d_Integer_getChars_88 : decode M_Integer_getChars.2.1 88 = .ok (.if_icmp .ge 16, 3) := by decide +kernel
theorem d_Integer_getChars_91 : decode M_Integer_getChars.2.1 91 = .ok (.aload_n 2, 1) := by decide +kernel
theorem d_Integer_getChars_92 : decode M_Integer_getChars.2.1 92 = .ok (.iinc 5 (-1), 3) := by decide +kernel
theorem d_Integer_getChars_95 : decode M_Integer_getChars.2.1 95 = .ok (.iload 5, 2) := by decide +kernel
theorem d_Integer_getChars_97 : decode M_Integer_getChars.2.1 97 = .ok (.getstatic 87, 3) := by decide +kernel
theorem d_Integer_getChars_100 : decode M_Integer_getChars.2.1 100 = .ok (.iload_n 0, 1) := by decide +kernel
theorem d_Integer_getChars_101 : decode M_Integer_getChars.2.1 101 = .ok (.ineg, 1) := by decide +kernel
theorem d_Integer_getChars_102 : decode M_Integer_getChars.2.1 102 = .ok (.baload, 1) := by decide +kernel
theorem d_Integer_getChars_103 : decode M_Integer_getChars.2.1 103 = .ok (.bastore, 1) := by decide +kernel
theorem d_Integer_getChars_104 : decode M_Integer_getChars.2.1 104 = .ok (.iload 6, 2) := by decide +kernel
theorem d_Integer_getChars_106 : decode M_Integer_getChars.2.1 106 = .ok (.ifCond .eq 12, 3) := by decide +kernel
theorem d_Integer_getChars_118 : decode M_Integer_getChars.2.1 118 = .ok (.iload 5, 2) := by decide +kernel
theorem d_Integer_getChars_120 : decode M_Integer_getChars.2.1 120 = .ok (.ireturn, 1) := by decide +kernel
set_option maxRecDepth 100000 in
set_option maxHeartbeats 4000000 in
theorem c_getChars {Γ : G9} {h : AH} {z v n w m : Nat} {a : Nat → Int32} (hd : DgOk Γ) (hv : v < 1000) (hw : h w = some (aB Γ m a)) (hm : n + (dec v).length ≤ m) (hM : m ≤ 2402) : CallR Γ M_Integer_getChars 0 [.int (nI v), .int (nI (n + (dec v).length)), .ref w] h z (some (.int (nI n))) (hup h w (aB Γ m (gch a n v))) := by
  obtain ⟨d1, d2, h1s, h2s, t1s, t2s⟩ := hd
  refine Call.of_go (L := [some (.int (nI v)), some (.int (nI (n + (dec v).length))), some (.ref w), none, none, none, none]) (by decide +kernel) rfl (by exact Nat.le_of_ble_eq_true rfl) ?_
  refine Go.iload_1 d_Integer_getChars_0 rfl ?_
  refine Go.istore_5 d_Integer_getChars_1 rfl (by rfl) ?_
  refine Go.iload_0 d_Integer_getChars_3 rfl ?_
  refine Go.if_ge (t := 11) d_Integer_getChars_4 (by decide) rfl (fun _ => ?_) (fun w => absurd (nI_pos' (by omega)) w)
  refine Go.iconst (v := 0) d_Integer_getChars_11 rfl (by decide) ?_
  refine Go.istore_6 d_Integer_getChars_12 rfl (by rfl) ?_
  refine Go.iload_6 d_Integer_getChars_14 rfl ?_
  refine Go.if_ne (t := 22) d_Integer_getChars_16 (by decide) rfl (fun w => absurd w (by decide)) (fun _ => ?_)
  refine Go.iload_0 d_Integer_getChars_19 rfl ?_
  refine Go.ineg d_Integer_getChars_20 rfl ?_
  refine Go.istore_0 d_Integer_getChars_21 rfl ?_
  by_cases c1 : v < 10
  · have e : (dec v).length = 1 := by unfold dec; rw [if_pos c1]; rfl
    rw [e] at hm ⊢
    refine Go.iload_0 d_Integer_getChars_22 rfl ?_
    refine Go.bipush (v := -100) d_Integer_getChars_23 rfl (by decide) ?_
    refine Go.icmp_gt (t := 72) d_Integer_getChars_25 (by decide) rfl (fun _ => ?_) (fun w => absurd (dg_100 v (by omega)) w)
    refine Go.aload_2 d_Integer_getChars_72 rfl ?_
    refine Go.iinc_5 d_Integer_getChars_73 rfl (by rfl) (show nI (n + 1) + Int32.ofInt (-1) = nI (n) from by rw [show (Int32.ofInt (-1)) = -1 from rfl, ← Int32.sub_eq_add_neg]; exact nI_pred _) ?_
    refine Go.iload_5 d_Integer_getChars_76 rfl ?_
    refine Go.gets d_Integer_getChars_78 rfl x_Integer_83 h1s ?_
    refine Go.iload_0 d_Integer_getChars_81 rfl ?_
    refine Go.ineg d_Integer_getChars_82 rfl ?_
    rw [Int32.neg_neg]
    refine Go.baloadS d_Integer_getChars_83 rfl t1s (vp_in_nI (by omega) (by omega)) ?_
    rw [nI_clamp (show v < 2 ^ 31 by omega), Nat.mod_eq_of_lt c1]
    refine Go.bastore d_Integer_getChars_84 rfl (by first | exact hw | exact hup_at) (vp_in_nI (by omega) (by omega)) ?_
    rw [nI_clamp (show n < 2 ^ 31 by omega), dg_b _ (by omega)]
    refine Go.iload_0 d_Integer_getChars_85 rfl ?_
    refine Go.bipush (v := -9) d_Integer_getChars_86 rfl (by decide) ?_
    refine Go.icmp_ge (t := 104) d_Integer_getChars_88 (by decide) rfl (fun _ => ?_) (fun w => absurd (dg_9 v (by omega)) w)
    refine Go.iload_6 d_Integer_getChars_104 rfl ?_
    refine Go.if_eq (t := 118) d_Integer_getChars_106 (by decide) rfl (fun _ => ?_) (fun w => absurd rfl w) 
    refine Go.iload_5 d_Integer_getChars_118 rfl ?_
    exact Go.iret d_Integer_getChars_120 rfl rfl ⟨rfl, (by unfold gch; rw [if_pos c1]), rfl⟩
  by_cases c2 : v < 100
  · have e : (dec v).length = 2 := by unfold dec; rw [if_neg c1, if_pos c2]; rfl
    rw [e] at hm ⊢
    refine Go.iload_0 d_Integer_getChars_22 rfl ?_
    refine Go.bipush (v := -100) d_Integer_getChars_23 rfl (by decide) ?_
    refine Go.icmp_gt (t := 72) d_Integer_getChars_25 (by decide) rfl (fun _ => ?_) (fun w => absurd (dg_100 v (by omega)) w)
    refine Go.aload_2 d_Integer_getChars_72 rfl ?_
    refine Go.iinc_5 d_Integer_getChars_73 rfl (by rfl) (show nI (n + 1 + 1) + Int32.ofInt (-1) = nI (n + 1) from by rw [show (Int32.ofInt (-1)) = -1 from rfl, ← Int32.sub_eq_add_neg]; exact nI_pred _) ?_
    refine Go.iload_5 d_Integer_getChars_76 rfl ?_
    refine Go.gets d_Integer_getChars_78 rfl x_Integer_83 h1s ?_
    refine Go.iload_0 d_Integer_getChars_81 rfl ?_
    refine Go.ineg d_Integer_getChars_82 rfl ?_
    rw [Int32.neg_neg]
    refine Go.baloadS d_Integer_getChars_83 rfl t1s (vp_in_nI (by omega) (by omega)) ?_
    rw [nI_clamp (show v < 2 ^ 31 by omega)]
    refine Go.bastore d_Integer_getChars_84 rfl (by first | exact hw | exact hup_at) (vp_in_nI (by omega) (by omega)) ?_
    rw [nI_clamp (show n + 1 < 2 ^ 31 by omega), dg_b _ (by omega)]
    refine Go.iload_0 d_Integer_getChars_85 rfl ?_
    refine Go.bipush (v := -9) d_Integer_getChars_86 rfl (by decide) ?_
    refine Go.icmp_ge (t := 104) d_Integer_getChars_88 (by decide) rfl (fun w => absurd w (by rw [show v = (v - 10) + 10 by omega]; exact dg_n9 (v - 10) (by omega))) (fun _ => ?_)
    refine Go.aload_2 d_Integer_getChars_91 rfl ?_
    refine Go.iinc_5 d_Integer_getChars_92 rfl (by rfl) (show nI (n + 1) + Int32.ofInt (-1) = nI (n) from by rw [show (Int32.ofInt (-1)) = -1 from rfl, ← Int32.sub_eq_add_neg]; exact nI_pred _) ?_
    refine Go.iload_5 d_Integer_getChars_95 rfl ?_
    refine Go.gets d_Integer_getChars_97 rfl x_Integer_87 h2s ?_
    refine Go.iload_0 d_Integer_getChars_100 rfl ?_
    refine Go.ineg d_Integer_getChars_101 rfl ?_
    rw [Int32.neg_neg]
    refine Go.baloadS d_Integer_getChars_102 rfl t2s (vp_in_nI (by omega) (by omega)) ?_
    rw [nI_clamp (show v < 2 ^ 31 by omega)]
    refine Go.bastore d_Integer_getChars_103 rfl (by first | exact hw | exact hup_at) (vp_in_nI (by omega) (by omega)) ?_
    rw [nI_clamp (show n < 2 ^ 31 by omega), dg_b _ (by omega)]
    rw [hup_hup]
    refine Go.iload_6 d_Integer_getChars_104 rfl ?_
    refine Go.if_eq (t := 118) d_Integer_getChars_106 (by decide) rfl (fun _ => ?_) (fun w => absurd rfl w) 
    refine Go.iload_5 d_Integer_getChars_118 rfl ?_
    exact Go.iret d_Integer_getChars_120 rfl rfl ⟨rfl, (by unfold gch; rw [if_neg c1, if_pos c2]), rfl⟩
  have e : (dec v).length = 3 := by unfold dec; rw [if_neg c1, if_neg c2]; rfl
  rw [e] at hm ⊢
  refine Go.iload_0 d_Integer_getChars_22 rfl ?_
  refine Go.bipush (v := -100) d_Integer_getChars_23 rfl (by decide) ?_
  refine Go.icmp_gt (t := 72) d_Integer_getChars_25 (by decide) rfl (fun w => absurd w (by rw [show v = (v - 100) + 100 by omega]; exact dg_n100 (v - 100) (by omega))) (fun _ => ?_)
  refine Go.iload_0 d_Integer_getChars_28 rfl ?_
  refine Go.bipush (v := 100) d_Integer_getChars_29 rfl (by decide) ?_
  refine Go.idiv d_Integer_getChars_31 rfl (by decide) ?_
  rw [dg_div v hv]
  refine Go.istore_3 d_Integer_getChars_32 rfl (by rfl) ?_
  refine Go.iload_3 d_Integer_getChars_33 rfl ?_
  refine Go.bipush (v := 100) d_Integer_getChars_34 rfl (by decide) ?_
  refine Go.imul d_Integer_getChars_36 rfl ?_
  refine Go.iload_0 d_Integer_getChars_37 rfl ?_
  refine Go.isub d_Integer_getChars_38 rfl ?_
  rw [dg_rem v hv]
  refine Go.istore_4 d_Integer_getChars_39 rfl (by rfl) ?_
  refine Go.iload_3 d_Integer_getChars_41 rfl ?_
  refine Go.istore_0 d_Integer_getChars_42 rfl ?_
  refine Go.aload_2 d_Integer_getChars_43 rfl ?_
  refine Go.iinc_5 d_Integer_getChars_44 rfl (by rfl) (show nI (n + 2 + 1) + Int32.ofInt (-1) = nI (n + 2) from by rw [show (Int32.ofInt (-1)) = -1 from rfl, ← Int32.sub_eq_add_neg]; exact nI_pred _) ?_
  refine Go.iload_5 d_Integer_getChars_47 rfl ?_
  refine Go.gets d_Integer_getChars_49 rfl x_Integer_83 h1s ?_
  refine Go.iload_4 d_Integer_getChars_52 rfl ?_
  refine Go.baloadS d_Integer_getChars_54 rfl t1s (vp_in_nI (by omega) (by omega)) ?_
  rw [nI_clamp (show v % 100 < 2 ^ 31 by omega)]
  refine Go.bastore d_Integer_getChars_55 rfl (by first | exact hw | exact hup_at) (vp_in_nI (by omega) (by omega)) ?_
  rw [nI_clamp (show n + 2 < 2 ^ 31 by omega), dg_b _ (by omega)]
  refine Go.aload_2 d_Integer_getChars_56 rfl ?_
  refine Go.iinc_5 d_Integer_getChars_57 rfl (by rfl) (show nI (n + 1 + 1) + Int32.ofInt (-1) = nI (n + 1) from by rw [show (Int32.ofInt (-1)) = -1 from rfl, ← Int32.sub_eq_add_neg]; exact nI_pred _) ?_
  refine Go.iload_5 d_Integer_getChars_60 rfl ?_
  refine Go.gets d_Integer_getChars_62 rfl x_Integer_87 h2s ?_
  refine Go.iload_4 d_Integer_getChars_65 rfl ?_
  refine Go.baloadS d_Integer_getChars_67 rfl t2s (vp_in_nI (by omega) (by omega)) ?_
  rw [nI_clamp (show v % 100 < 2 ^ 31 by omega)]
  refine Go.bastore d_Integer_getChars_68 rfl (by first | exact hw | exact hup_at) (vp_in_nI (by omega) (by omega)) ?_
  rw [nI_clamp (show n + 1 < 2 ^ 31 by omega), dg_b _ (by omega)]
  rw [hup_hup]
  refine Go.goto (t := 22) d_Integer_getChars_69 (by decide) ?_
  refine Go.iload_0 d_Integer_getChars_22 rfl ?_
  refine Go.bipush (v := -100) d_Integer_getChars_23 rfl (by decide) ?_
  refine Go.icmp_gt (t := 72) d_Integer_getChars_25 (by decide) rfl (fun _ => ?_) (fun w => absurd (dg_100 (v / 100) (by omega)) w)
  refine Go.aload_2 d_Integer_getChars_72 rfl ?_
  refine Go.iinc_5 d_Integer_getChars_73 rfl (by rfl) (show nI (n + 1) + Int32.ofInt (-1) = nI (n) from by rw [show (Int32.ofInt (-1)) = -1 from rfl, ← Int32.sub_eq_add_neg]; exact nI_pred _) ?_
  refine Go.iload_5 d_Integer_getChars_76 rfl ?_
  refine Go.gets d_Integer_getChars_78 rfl x_Integer_83 h1s ?_
  refine Go.iload_0 d_Integer_getChars_81 rfl ?_
  refine Go.ineg d_Integer_getChars_82 rfl ?_
  rw [Int32.neg_neg]
  refine Go.baloadS d_Integer_getChars_83 rfl t1s (vp_in_nI (by omega) (by omega)) ?_
  rw [nI_clamp (show v / 100 < 2 ^ 31 by omega)]
  refine Go.bastore d_Integer_getChars_84 rfl (by first | exact hw | exact hup_at) (vp_in_nI (by omega) (by omega)) ?_
  rw [nI_clamp (show n < 2 ^ 31 by omega), dg_b _ (by omega)]
  rw [hup_hup]
  refine Go.iload_0 d_Integer_getChars_85 rfl ?_
  refine Go.bipush (v := -9) d_Integer_getChars_86 rfl (by decide) ?_
  refine Go.icmp_ge (t := 104) d_Integer_getChars_88 (by decide) rfl (fun _ => ?_) (fun w => absurd (dg_9 (v / 100) (by omega)) w)
  refine Go.iload_6 d_Integer_getChars_104 rfl ?_
  refine Go.if_eq (t := 118) d_Integer_getChars_106 (by decide) rfl (fun _ => ?_) (fun w => absurd rfl w) 
  refine Go.iload_5 d_Integer_getChars_118 rfl ?_
  exact Go.iret d_Integer_getChars_120 rfl rfl ⟨rfl, (by unfold gch; rw [if_neg c1, if_neg c2, show v % 100 % 10 = v % 10 by omega, show v % 100 / 10 = v / 10 % 10 by omega, show v / 100 % 10 = v / 100 by omega]), rfl⟩
theorem gch_text {t : List Int32} {a : Nat → Int32} {v : Nat} (ha : ∀ j, j < t.length → a j = t.getD j 0) : ∀ j, j < (t ++ dec v).length → gch a t.length v j = (t ++ dec v).getD j 0 := by
  intro j hj
  rw [List.length_append] at hj
  have e0 : ∀ {l : List Int32}, j < t.length → (t ++ l).getD j 0 = t.getD j 0 := fun {l} h => by rw [List.getD_eq_getElem?_getD, List.getD_eq_getElem?_getD, List.getElem?_append_left h]
  have e1 : ∀ {l : List Int32}, t.length ≤ j → (t ++ l).getD j 0 = l.getD (j - t.length) 0 := fun {l} h => by rw [List.getD_eq_getElem?_getD, List.getD_eq_getElem?_getD, List.getElem?_append_right h]
  unfold gch
  unfold dec at hj ⊢
  by_cases c1 : v < 10
  · rw [if_pos c1] at hj ⊢
    rw [if_pos c1]
    simp only [List.length_cons, List.length_nil] at hj
    by_cases h : j < t.length
    · rw [e0 h, ← ha j h]
      unfold upd
      rw [if_neg (by omega)]
    · rw [e1 (by omega), show j - t.length = 0 by omega]
      unfold upd
      rw [if_pos (by omega)]
      rfl
  · rw [if_neg c1] at hj ⊢
    rw [if_neg c1]
    by_cases c2 : v < 100
    · rw [if_pos c2] at hj ⊢
      rw [if_pos c2]
      simp only [List.length_cons, List.length_nil] at hj
      by_cases h : j < t.length
      · rw [e0 h, ← ha j h]
        unfold upd
        rw [if_neg (by omega), if_neg (by omega)]
      · rw [e1 (by omega)]
        unfold upd
        by_cases h0 : j = t.length
        · rw [if_pos h0, show j - t.length = 0 by omega]
          rfl
        · rw [if_neg h0, if_pos (by omega), show j - t.length = 1 by omega]
          rfl
    · rw [if_neg c2] at hj ⊢
      rw [if_neg c2]
      simp only [List.length_cons, List.length_nil] at hj
      by_cases h : j < t.length
      · rw [e0 h, ← ha j h]
        unfold upd
        rw [if_neg (by omega), if_neg (by omega), if_neg (by omega)]
      · rw [e1 (by omega)]
        unfold upd
        by_cases h0 : j = t.length
        · rw [if_pos h0, show j - t.length = 0 by omega]
          rfl
        · by_cases h1 : j = t.length + 1
          · rw [if_neg h0, if_pos h1, show j - t.length = 1 by omega]
            rfl
          · rw [if_neg h0, if_neg h1, if_pos (by omega), show j - t.length = 2 by omega]
            rfl
theorem gch_fit {a : Nat → Int32} {n v : Nat} (hv : v < 1000) (hf : ∀ j, fits .byte (.int (a j)) = true) : ∀ j, fits .byte (.int (gch a n v j)) = true := by
  have u : ∀ {g : Nat → Int32} {k : Nat} {x : Int32}, (∀ j, fits .byte (.int (g j)) = true) → fits .byte (.int x) = true → ∀ j, fits .byte (.int (upd g k x j)) = true := by
    intro g k x hg hx j
    unfold upd
    by_cases e : j = k
    · rw [if_pos e]
      exact hx
    · rw [if_neg e]
      exact hg j
  unfold gch
  by_cases c1 : v < 10
  · rw [if_pos c1]
    exact u hf (dg_fit v c1)
  · rw [if_neg c1]
    by_cases c2 : v < 100
    · rw [if_pos c2]
      exact u (u hf (dg_fit _ (by omega))) (dg_fit _ (by omega))
    · rw [if_neg c2]
      exact u (u (u hf (dg_fit _ (by omega))) (dg_fit _ (by omega))) (dg_fit _ (by omega))
theorem d_AbstractStringBuilder_append_0_0 : decode M_AbstractStringBuilder_append_0.2.1 0 = .ok (.aload_n 0, 1) := by decide +kernel
theorem d_AbstractStringBuilder_append_0_1 : decode M_AbstractStringBuilder_append_0.2.1 1 = .ok (.getfield 79, 3) := by decide +kernel
theorem d_AbstractStringBuilder_append_0_4 : decode M_AbstractStringBuilder_append_0.2.1 4 = .ok (.istore_n 2, 1) := by decide +kernel
theorem d_AbstractStringBuilder_append_0_5 : decode M_AbstractStringBuilder_append_0.2.1 5 = .ok (.iload_n 2, 1) := by decide +kernel
theorem d_AbstractStringBuilder_append_0_6 : decode M_AbstractStringBuilder_append_0.2.1 6 = .ok (.iload_n 1, 1) := by decide +kernel
theorem d_AbstractStringBuilder_append_0_7 : decode M_AbstractStringBuilder_append_0.2.1 7 = .ok (.invokestatic 245, 3) := by decide +kernel
theorem d_AbstractStringBuilder_append_0_10 : decode M_AbstractStringBuilder_append_0.2.1 10 = .ok (.iadd, 1) := by decide +kernel
theorem d_AbstractStringBuilder_append_0_11 : decode M_AbstractStringBuilder_append_0.2.1 11 = .ok (.istore_n 3, 1) := by decide +kernel
theorem d_AbstractStringBuilder_append_0_12 : decode M_AbstractStringBuilder_append_0.2.1 12 = .ok (.aload_n 0, 1) := by decide +kernel
theorem d_AbstractStringBuilder_append_0_13 : decode M_AbstractStringBuilder_append_0.2.1 13 = .ok (.iload_n 3, 1) := by decide +kernel
theorem d_AbstractStringBuilder_append_0_14 : decode M_AbstractStringBuilder_append_0.2.1 14 = .ok (.invokevirtual 100, 3) := by decide +kernel
theorem d_AbstractStringBuilder_append_0_17 : decode M_AbstractStringBuilder_append_0.2.1 17 = .ok (.aload_n 0, 1) := by decide +kernel
theorem d_AbstractStringBuilder_append_0_18 : decode M_AbstractStringBuilder_append_0.2.1 18 = .ok (.invokevirtual 83, 3) := by decide +kernel
theorem d_AbstractStringBuilder_append_0_21 : decode M_AbstractStringBuilder_append_0.2.1 21 = .ok (.ifCond .eq 16, 3) := by decide +kernel
theorem d_AbstractStringBuilder_append_0_24 : decode M_AbstractStringBuilder_append_0.2.1 24 = .ok (.iload_n 1, 1) := by decide +kernel
theorem d_AbstractStringBuilder_append_0_25 : decode M_AbstractStringBuilder_append_0.2.1 25 = .ok (.iload_n 3, 1) := by decide +kernel
theorem d_AbstractStringBuilder_append_0_26 : decode M_AbstractStringBuilder_append_0.2.1 26 = .ok (.aload_n 0, 1) := by decide +kernel
theorem d_AbstractStringBuilder_append_0_27 : decode M_AbstractStringBuilder_append_0.2.1 27 = .ok (.getfield 15, 3) := by decide +kernel
theorem d_AbstractStringBuilder_append_0_30 : decode M_AbstractStringBuilder_append_0.2.1 30 = .ok (.invokestatic 248, 3) := by decide +kernel
theorem d_AbstractStringBuilder_append_0_33 : decode M_AbstractStringBuilder_append_0.2.1 33 = .ok (.pop, 1) := by decide +kernel
theorem d_AbstractStringBuilder_append_0_34 : decode M_AbstractStringBuilder_append_0.2.1 34 = .ok (.goto 14, 3) := by decide +kernel
theorem d_AbstractStringBuilder_append_0_48 : decode M_AbstractStringBuilder_append_0.2.1 48 = .ok (.aload_n 0, 1) := by decide +kernel
theorem d_AbstractStringBuilder_append_0_49 : decode M_AbstractStringBuilder_append_0.2.1 49 = .ok (.iload_n 3, 1) := by decide +kernel
theorem d_AbstractStringBuilder_append_0_50 : decode M_AbstractStringBuilder_append_0.2.1 50 = .ok (.putfield 79, 3) := by decide +kernel
theorem d_AbstractStringBuilder_append_0_53 : decode M_AbstractStringBuilder_append_0.2.1 53 = .ok (.aload_n 0, 1) := by decide +kernel
theorem d_AbstractStringBuilder_append_0_54 : decode M_AbstractStringBuilder_append_0.2.1 54 = .ok (.areturn, 1) := by decide +kernel
set_option maxRecDepth 100000 in
set_option maxHeartbeats 4000000 in
theorem c_asb_appendI {Γ : G9} {h h0 : AH} {z b v0 q : Nat} {t : List Int32} (hk : CsOk Γ) (hp : PrOk Γ) (hd : DgOk Γ) (hs : SB Γ h b h0 t q) (hv : v0 < 1000) (hlen : t.length + (dec v0).length ≤ 1200) : Call Γ M_AbstractStringBuilder_append_0 5 1 2402 [.ref b, .int (nI v0)] h z (fun w h2 z2 => w = some (.ref b) ∧ SB Γ h2 b h0 (t ++ dec v0) 0 ∧ z ≤ z2) noX := by
  obtain ⟨v, m, a, rfl, hbv, h0b, h0v, hn, hq0, hm, ha, hf⟩ := hs
  refine Call.of_go (L := [some (.ref b), some (.int (nI v0)), none, none]) (by decide +kernel) rfl (by exact Nat.le_of_ble_eq_true rfl) ?_
  refine Go.aload_0 d_AbstractStringBuilder_append_0_0 rfl ?_
  refine Go.getfield d_AbstractStringBuilder_append_0_1 rfl f_AbstractStringBuilder_79 (bd_b hbv) rfl ?_
  refine Go.istore_2 d_AbstractStringBuilder_append_0_4 rfl (by rfl) ?_
  refine Go.iload_2 d_AbstractStringBuilder_append_0_5 rfl ?_
  refine Go.iload_1 d_AbstractStringBuilder_append_0_6 rfl ?_
  refine Go.cs1r d_AbstractStringBuilder_append_0_7 rfl l_AbstractStringBuilder_245 k_Integer_stringSize_s rfl (c_stringSize hv) rfl rfl rfl ?_
  refine Go.iadd d_AbstractStringBuilder_append_0_10 rfl ?_
  rw [nI_add]
  refine Go.istore_3 d_AbstractStringBuilder_append_0_11 rfl (by rfl) ?_
  refine Go.aload_0 d_AbstractStringBuilder_append_0_12 rfl ?_
  refine Go.iload_3 d_AbstractStringBuilder_append_0_13 rfl ?_
  refine Go.callB (C1 := 0) (S1 := 0) (as := [.int (nI (t.length + (dec v0).length))]) d_AbstractStringBuilder_append_0_14 rfl l_AbstractStringBuilder_100 u_AbstractStringBuilder_ensureCapacityInternal (Or.inr (hp _ pr_0)) rfl (bd_b hbv) rfl (c_ensure hp (q0 := q) ⟨v, m, a, rfl, hbv, h0b, h0v, hn, hq0, hm, ha, hf⟩ hlen (by omega)) (by omega) (by decide) (by omega) (by omega) (by exact Nat.le_of_ble_eq_true rfl) (fun _ _ _ w _ => w.elim) (fun v9 h9 z9 w9 hz9 => ?_)
  obtain ⟨rfl, ⟨v2, m2, a2, rfl, hbv2, h0b2, h0v2, hn2, hq2, hm2, ha2, hf2⟩, hz2⟩ := w9
  refine Go.aload_0 d_AbstractStringBuilder_append_0_17 rfl ?_
  refine Go.callB (C1 := 0) (S1 := 0) (as := []) d_AbstractStringBuilder_append_0_18 rfl l_AbstractStringBuilder_83 u_AbstractStringBuilder_isLatin1 (Or.inl x_sel_isLatin1) rfl (bd_b hbv2) rfl (c_asb_isLatin1 hk (bd_b hbv2)) (by omega) (by decide) (by omega) (by omega) (by exact Nat.le_of_ble_eq_true rfl) (fun _ _ _ w _ => w.elim) (fun v8 h8 z8 w8 hz8 => ?_)
  obtain ⟨rfl, rfl, rfl⟩ := w8
  refine Go.if_eq (t := 37) d_AbstractStringBuilder_append_0_21 (by decide) rfl (fun w => absurd w (by decide)) (fun _ => ?_)
  refine Go.iload_1 d_AbstractStringBuilder_append_0_24 rfl ?_
  refine Go.iload_3 d_AbstractStringBuilder_append_0_25 rfl ?_
  refine Go.aload_0 d_AbstractStringBuilder_append_0_26 rfl ?_
  refine Go.getfield d_AbstractStringBuilder_append_0_27 rfl f_AbstractStringBuilder_15 (bd_b hbv2) rfl ?_
  refine Go.cs3r d_AbstractStringBuilder_append_0_30 rfl l_AbstractStringBuilder_248 k_Integer_getChars_s rfl (c_getChars hd hv bd_v hq2 hm2) rfl rfl rfl ?_
  rw [bd_arr]
  refine Go.pop d_AbstractStringBuilder_append_0_33 rfl rfl ?_
  refine Go.goto (t := 48) d_AbstractStringBuilder_append_0_34 (by decide) ?_
  refine Go.aload_0 d_AbstractStringBuilder_append_0_48 rfl ?_
  refine Go.iload_3 d_AbstractStringBuilder_append_0_49 rfl ?_
  refine Go.putfield2 d_AbstractStringBuilder_append_0_50 rfl f_AbstractStringBuilder_79_p (bd_b hbv2) (by exact Nat.le_of_ble_eq_true rfl) rfl rfl ?_
  refine Go.heq (h' := sbH Γ h0 b v2 (t.length + (dec v0).length) m2 _) (bd_cnt hbv2) ?_
  refine Go.aload_0 d_AbstractStringBuilder_append_0_53 rfl ?_
  refine Go.aret d_AbstractStringBuilder_append_0_54 rfl ⟨rfl, ⟨v2, m2, _, by rw [List.length_append], hbv2, h0b, h0v2, by rw [List.length_append]; exact hq2, Nat.zero_le _, hm2, gch_text ha2, gch_fit hv hf2⟩, by omega⟩
theorem d_StringBuilder_append_0_0 : decode M_StringBuilder_append_0.2.1 0 = .ok (.aload_n 0, 1) := by decide +kernel
theorem d_StringBuilder_append_0_1 : decode M_StringBuilder_append_0.2.1 1 = .ok (.iload_n 1, 1) := by decide +kernel
theorem d_StringBuilder_append_0_2 : decode M_StringBuilder_append_0.2.1 2 = .ok (.invokespecial 53, 3) := by decide +kernel
theorem d_StringBuilder_append_0_5 : decode M_StringBuilder_append_0.2.1 5 = .ok (.pop, 1) := by decide +kernel
theorem d_StringBuilder_append_0_6 : decode M_StringBuilder_append_0.2.1 6 = .ok (.aload_n 0, 1) := by decide +kernel
theorem d_StringBuilder_append_0_7 : decode M_StringBuilder_append_0.2.1 7 = .ok (.areturn, 1) := by decide +kernel
set_option maxRecDepth 100000 in
set_option maxHeartbeats 4000000 in
theorem c_appendI {Γ : G9} {h h0 : AH} {z b v0 q : Nat} {t : List Int32} (hk : CsOk Γ) (hp : PrOk Γ) (hd : DgOk Γ) (hs : SB Γ h b h0 t q) (hv : v0 < 1000) (hlen : t.length + (dec v0).length ≤ 1200) : Call Γ M_StringBuilder_append_0 6 1 2402 [.ref b, .int (nI v0)] h z (fun w h2 z2 => w = some (.ref b) ∧ SB Γ h2 b h0 (t ++ dec v0) 0 ∧ z ≤ z2) noX := by
  refine Call.of_go (L := [some (.ref b), some (.int (nI v0))]) (by decide +kernel) rfl (by exact Nat.le_of_ble_eq_true rfl) ?_
  have hb : ∃ v n, h b = some (sbO v n) := by obtain ⟨v, m, a, rfl, hbv, -⟩ := hs; exact ⟨_, _, bd_b hbv⟩
  obtain ⟨v, n, hb⟩ := hb
  refine Go.aload_0 d_StringBuilder_append_0_0 rfl ?_
  refine Go.iload_1 d_StringBuilder_append_0_1 rfl ?_
  refine Go.callBs (C1 := 0) (S1 := 0) (as := [.int (nI v0)]) d_StringBuilder_append_0_2 rfl l_StringBuilder_53 x_sup su_AbstractStringBuilder_append_0 rfl hb rfl (c_asb_appendI hk hp hd hs hv hlen) (by omega) (by decide) (by omega) (by omega) (by exact Nat.le_of_ble_eq_true rfl) (fun _ _ _ w _ => w.elim) (fun v9 h9 z9 w9 hz9 => ?_)
  obtain ⟨rfl, w9⟩ := w9
  refine Go.pop d_StringBuilder_append_0_5 rfl rfl ?_
  refine Go.aload_0 d_StringBuilder_append_0_6 rfl ?_
  exact Go.aret d_StringBuilder_append_0_7 rfl ⟨rfl, w9⟩
/-- the heap without what stands at b -/
def hdel (h : AH) (b : Nat) : AH := fun x => if x = b then none else h x
theorem hdel_at {h : AH} {b : Nat} : hdel h b b = none := if_pos rfl
theorem hdel_ne {h : AH} {b x : Nat} (hx : x ≠ b) : hdel h b x = h x := if_neg hx
theorem d_AbstractStringBuilder_init_0 : decode M_AbstractStringBuilder_init.2.1 0 = .ok (.aload_n 0, 1) := by decide +kernel
theorem d_AbstractStringBuilder_init_1 : decode M_AbstractStringBuilder_init.2.1 1 = .ok (.invokespecial 3, 3) := by decide +kernel
theorem d_AbstractStringBuilder_init_4 : decode M_AbstractStringBuilder_init.2.1 4 = .ok (.getstatic 18, 3) := by decide +kernel
theorem d_AbstractStringBuilder_init_7 : decode M_AbstractStringBuilder_init.2.1 7 = .ok (.ifCond .eq 18, 3) := by decide +kernel
theorem d_AbstractStringBuilder_init_10 : decode M_AbstractStringBuilder_init.2.1 10 = .ok (.aload_n 0, 1) := by decide +kernel
theorem d_AbstractStringBuilder_init_11 : decode M_AbstractStringBuilder_init.2.1 11 = .ok (.iload_n 1, 1) := by decide +kernel
theorem d_AbstractStringBuilder_init_12 : decode M_AbstractStringBuilder_init.2.1 12 = .ok (.newarray .byte, 2) := by decide +kernel
theorem d_AbstractStringBuilder_init_14 : decode M_AbstractStringBuilder_init.2.1 14 = .ok (.putfield 15, 3) := by decide +kernel
theorem d_AbstractStringBuilder_init_17 : decode M_AbstractStringBuilder_init.2.1 17 = .ok (.aload_n 0, 1) := by decide +kernel
theorem d_AbstractStringBuilder_init_18 : decode M_AbstractStringBuilder_init.2.1 18 = .ok (.iconst 0, 1) := by decide +kernel
theorem d_AbstractStringBuilder_init_19 : decode M_AbstractStringBuilder_init.2.1 19 = .ok (.putfield 22, 3) := by decide +kernel
theorem d_AbstractStringBuilder_init_22 : decode M_AbstractStringBuilder_init.2.1 22 = .ok (.goto 16, 3) := by decide +kernel
theorem d_AbstractStringBuilder_init_38 : decode M_AbstractStringBuilder_init.2.1 38 = .ok (.return_, 1) := by decide +kernel
set_option maxRecDepth 100000 in
set_option maxHeartbeats 4000000 in
theorem c_asb_init {Γ : G9} {h : AH} {z b : Nat} (hk : CsOk Γ) (hb : h b = some (.inr (10, [.null, .int 0, .int 0, .int 0]))) : Call Γ M_AbstractStringBuilder_init 1 1 16 [.ref b, .int 16] h z (fun w h2 z2 => w = none ∧ SB Γ h2 b (hdel h b) [] 0 ∧ z2 = z + 1) noX := by
  refine Call.of_go (L := [some (.ref b), some (.int 16)]) (by decide +kernel) rfl (by exact Nat.le_of_ble_eq_true rfl) ?_
  refine Go.low (fun hlow => ?_)
  have hbz : b ≠ z := fun w => (by rw [w, hlow z (Nat.le_refl z)] at hb; cases hb)
  refine Go.aload_0 d_AbstractStringBuilder_init_0 rfl ?_
  refine Go.objInit d_AbstractStringBuilder_init_1 rfl l_AbstractStringBuilder_3 q_obj1 q_obj2 (by decide) rfl ?_
  refine Go.gets d_AbstractStringBuilder_init_4 rfl x_AbstractStringBuilder_18 hk.1 ?_
  refine Go.if_eq (t := 25) d_AbstractStringBuilder_init_7 (by decide) rfl (fun w => absurd w (by decide)) (fun _ => ?_)
  refine Go.aload_0 d_AbstractStringBuilder_init_10 rfl ?_
  refine Go.iload_1 d_AbstractStringBuilder_init_11 rfl ?_
  refine Go.newarr (C1 := 0) (S1 := 0) (t := 2) (N := 16) (a0 := (16, .inl (fun _ => 0))) d_AbstractStringBuilder_init_12 rfl q_arr_byte rfl (fun _ w => by cases w) (fun _ => rfl) (by decide) (by decide) (by decide) (by omega) (by omega) ?_
  refine Go.putfield2 d_AbstractStringBuilder_init_14 rfl f_AbstractStringBuilder_15_p ((hup_ne hbz).trans hb) (by exact Nat.le_of_ble_eq_true rfl) rfl rfl ?_
  refine Go.aload_0 d_AbstractStringBuilder_init_17 rfl ?_
  refine Go.iconst (v := 0) d_AbstractStringBuilder_init_18 rfl (by decide) ?_
  refine Go.putfield2 d_AbstractStringBuilder_init_19 rfl f_AbstractStringBuilder_22_p hup_at (by exact Nat.le_of_ble_eq_true rfl) rfl rfl ?_
  refine Go.heq (h' := sbH Γ (hdel h b) b z 0 16 (fun _ => 0)) ?_ ?_
  · unfold sbH
    rw [hup_hup, hup_comm (Ne.symm hbz)]
    congr 1
    funext x
    by_cases hx : x = b
    · rw [hx, hup_at, hup_at]
      rfl
    · rw [hup_ne hx, hup_ne hx, hdel_ne hx]
  refine Go.goto (t := 38) d_AbstractStringBuilder_init_22 (by decide) ?_
  exact Go.vret d_AbstractStringBuilder_init_38 rfl ⟨rfl, ⟨z, 16, _, rfl, hbz, hdel_at, (hdel_ne (Ne.symm hbz)).trans (hlow z (Nat.le_refl z)), Nat.zero_le _, Nat.zero_le _, by decide, fun j hj => absurd hj (Nat.not_lt_zero j), fun j => (by decide : fits .byte (.int 0) = true)⟩, rfl⟩
theorem d_StringBuilder_init_0 : decode M_StringBuilder_init.2.1 0 = .ok (.aload_n 0, 1) := by decide +kernel
theorem d_StringBuilder_init_1 : decode M_StringBuilder_init.2.1 1 = .ok (.bipush 16, 2) := by decide +kernel
theorem d_StringBuilder_init_3 : decode M_StringBuilder_init.2.1 3 = .ok (.invokespecial 1, 3) := by decide +kernel
theorem d_StringBuilder_init_6 : decode M_StringBuilder_init.2.1 6 = .ok (.return_, 1) := by decide +kernel
set_option maxRecDepth 100000 in
set_option maxHeartbeats 4000000 in
theorem c_sb_init {Γ : G9} {h : AH} {z b : Nat} (hk : CsOk Γ) (hb : h b = some (.inr (10, [.null, .int 0, .int 0, .int 0]))) : Call Γ M_StringBuilder_init 2 1 16 [.ref b] h z (fun w h2 z2 => w = none ∧ SB Γ h2 b (hdel h b) [] 0 ∧ z2 = z + 1) noX := by
  refine Call.of_go (L := [some (.ref b)]) (by decide +kernel) rfl (by exact Nat.le_of_ble_eq_true rfl) ?_
  refine Go.aload_0 d_StringBuilder_init_0 rfl ?_
  refine Go.bipush (v := 16) d_StringBuilder_init_1 rfl (by decide) ?_
  refine Go.callI (C1 := 0) (S1 := 0) (as := [.int 16]) d_StringBuilder_init_3 rfl (Or.inl l_StringBuilder_1) k_AbstractStringBuilder_init_n rfl rfl (c_asb_init hk hb) (by decide) (by decide) (by decide) (by decide) (Nat.le_of_ble_eq_true rfl) (fun _ _ _ w _ => w.elim) (fun v9 h9 z9 w9 hz9 => ?_)
  obtain ⟨rfl, w9⟩ := w9
  exact Go.vret d_StringBuilder_init_6 rfl ⟨rfl, w9⟩
theorem d_Arrays_checkLength_0 : decode M_Arrays_checkLength.2.1 0 = .ok (.iload_n 1, 1) := by decide +kernel
theorem d_Arrays_checkLength_1 : decode M_Arrays_checkLength.2.1 1 = .ok (.iload_n 0, 1) := by decide +kernel
theorem d_Arrays_checkLength_2 : decode M_Arrays_checkLength.2.1 2 = .ok (.if_icmp .ge 35, 3) := by decide +kernel
theorem d_Arrays_checkLength_37 : decode M_Arrays_checkLength.2.1 37 = .ok (.return_, 1) := by decide +kernel
set_option maxRecDepth 100000 in
set_option maxHeartbeats 4000000 in
theorem c_checkLength {Γ : G9} {h : AH} {z n : Nat} (hn : n < 2 ^ 31) : CallR Γ M_Arrays_checkLength 0 [.int 0, .int (nI n)] h z none h := by
  refine Call.of_go (L := [some (.int 0), some (.int (nI n))]) (by decide +kernel) rfl (by exact Nat.le_of_ble_eq_true rfl) ?_
  refine Go.iload_1 d_Arrays_checkLength_0 rfl ?_
  refine Go.iload_0 d_Arrays_checkLength_1 rfl ?_
  refine Go.icmp_ge (t := 37) d_Arrays_checkLength_2 (by decide) rfl (fun _ => ?_) (fun w => absurd (nI_pos' hn) w)
  exact Go.vret d_Arrays_checkLength_37 rfl ⟨rfl, rfl, rfl⟩
theorem d_Arrays_copyOfRangeByte_0 : decode M_Arrays_copyOfRangeByte.2.1 0 = .ok (.iload_n 1, 1) := by decide +kernel
theorem d_Arrays_copyOfRangeByte_1 : decode M_Arrays_copyOfRangeByte.2.1 1 = .ok (.iload_n 2, 1) := by decide +kernel
theorem d_Arrays_copyOfRangeByte_2 : decode M_Arrays_copyOfRangeByte.2.1 2 = .ok (.invokestatic 343, 3) := by decide +kernel
theorem d_Arrays_copyOfRangeByte_5 : decode M_Arrays_copyOfRangeByte.2.1 5 = .ok (.iload_n 2, 1) := by decide +kernel
theorem d_Arrays_copyOfRangeByte_6 : decode M_Arrays_copyOfRangeByte.2.1 6 = .ok (.iload_n 1, 1) := by decide +kernel
theorem d_Arrays_copyOfRangeByte_7 : decode M_Arrays_copyOfRangeByte.2.1 7 = .ok (.isub, 1) := by decide +kernel
theorem d_Arrays_copyOfRangeByte_8 : decode M_Arrays_copyOfRangeByte.2.1 8 = .ok (.istore_n 3, 1) := by decide +kernel
theorem d_Arrays_copyOfRangeByte_9 : decode M_Arrays_copyOfRangeByte.2.1 9 = .ok (.iload_n 3, 1) := by decide +kernel
theorem d_Arrays_copyOfRangeByte_10 : decode M_Arrays_copyOfRangeByte.2.1 10 = .ok (.newarray .byte, 2) := by decide +kernel
theorem d_Arrays_copyOfRangeByte_12 : decode M_Arrays_copyOfRangeByte.2.1 12 = .ok (.astore 4, 2) := by decide +kernel
theorem d_Arrays_copyOfRangeByte_14 : decode M_Arrays_copyOfRangeByte.2.1 14 = .ok (.aload_n 0, 1) := by decide +kernel
theorem d_Arrays_copyOfRangeByte_15 : decode M_Arrays_copyOfRangeByte.2.1 15 = .ok (.iload_n 1, 1) := by decide +kernel
theorem d_Arrays_copyOfRangeByte_16 : decode M_Arrays_copyOfRangeByte.2.1 16 = .ok (.aload 4, 2) := by decide +kernel
theorem d_Arrays_copyOfRangeByte_18 : decode M_Arrays_copyOfRangeByte.2.1 18 = .ok (.iconst 0, 1) := by decide +kernel
theorem d_Arrays_copyOfRangeByte_19 : decode M_Arrays_copyOfRangeByte.2.1 19 = .ok (.aload_n 0, 1) := by decide +kernel
theorem d_Arrays_copyOfRangeByte_20 : decode M_Arrays_copyOfRangeByte.2.1 20 = .ok (.arraylength, 1) := by decide +kernel
theorem d_Arrays_copyOfRangeByte_21 : decode M_Arrays_copyOfRangeByte.2.1 21 = .ok (.iload_n 1, 1) := by decide +kernel
theorem d_Arrays_copyOfRangeByte_22 : decode M_Arrays_copyOfRangeByte.2.1 22 = .ok (.isub, 1) := by decide +kernel
theorem d_Arrays_copyOfRangeByte_23 : decode M_Arrays_copyOfRangeByte.2.1 23 = .ok (.iload_n 3, 1) := by decide +kernel
theorem d_Arrays_copyOfRangeByte_24 : decode M_Arrays_copyOfRangeByte.2.1 24 = .ok (.invokestatic 304, 3) := by decide +kernel
theorem d_Arrays_copyOfRangeByte_27 : decode M_Arrays_copyOfRangeByte.2.1 27 = .ok (.invokestatic 150, 3) := by decide +kernel
theorem d_Arrays_copyOfRangeByte_30 : decode M_Arrays_copyOfRangeByte.2.1 30 = .ok (.aload 4, 2) := by decide +kernel
theorem d_Arrays_copyOfRangeByte_32 : decode M_Arrays_copyOfRangeByte.2.1 32 = .ok (.areturn, 1) := by decide +kernel
set_option maxRecDepth 100000 in
set_option maxHeartbeats 4000000 in
theorem c_copyRB {Γ : G9} {h : AH} {z v m n : Nat} {f g : Nat → Int32} (hv : h v = some (aB Γ m f)) (hf : ∀ j, fits .byte (.int (f j)) = true) (hn : n ≤ m) (hm : m ≤ 2402) (hg : ∀ j, j < n → f j = g j) : Call Γ M_Arrays_copyOfRangeByte 3 1 n [.ref v, .int 0, .int (nI n)] h z (fun w h2 z2 => w = some (.ref z) ∧ h2 = hup h z (aB Γ n g) ∧ z2 = z + 1) noX := by
  refine Call.of_go (L := [some (.ref v), some (.int 0), some (.int (nI n)), none, none]) (by decide +kernel) rfl (by exact Nat.le_of_ble_eq_true rfl) ?_
  refine Go.low (fun hlow => ?_)
  have hvz : v ≠ z := fun w => (by rw [w, hlow z (Nat.le_refl z)] at hv; cases hv)
  refine Go.iload_1 d_Arrays_copyOfRangeByte_0 rfl ?_
  refine Go.iload_2 d_Arrays_copyOfRangeByte_1 rfl ?_
  refine Go.cs2v d_Arrays_copyOfRangeByte_2 rfl l_Arrays_343 k_Arrays_checkLength_s rfl (c_checkLength (by omega)) rfl rfl rfl ?_
  refine Go.iload_2 d_Arrays_copyOfRangeByte_5 rfl ?_
  refine Go.iload_1 d_Arrays_copyOfRangeByte_6 rfl ?_
  refine Go.isub d_Arrays_copyOfRangeByte_7 rfl ?_
  rw [Int32.sub_zero]
  refine Go.istore_3 d_Arrays_copyOfRangeByte_8 rfl (by rfl) ?_
  refine Go.iload_3 d_Arrays_copyOfRangeByte_9 rfl ?_
  refine Go.newarr (C1 := 0) (S1 := 0) (t := 2) (N := n) (a0 := (n, .inl (fun _ => 0))) d_Arrays_copyOfRangeByte_10 rfl q_arr_byte rfl (fun _ w => by cases w) (fun _ => rfl) (nI_pos (by omega)) (nI_clamp (by omega)) (by show n * 1 ≤ _; omega) (by omega) (by omega) ?_
  refine Go.astore_4 d_Arrays_copyOfRangeByte_12 rfl (by rfl) ?_
  refine Go.aload_0 d_Arrays_copyOfRangeByte_14 rfl ?_
  refine Go.iload_1 d_Arrays_copyOfRangeByte_15 rfl ?_
  refine Go.aload_4 d_Arrays_copyOfRangeByte_16 rfl ?_
  refine Go.iconst (v := 0) d_Arrays_copyOfRangeByte_18 rfl (by decide) ?_
  refine Go.aload_0 d_Arrays_copyOfRangeByte_19 rfl ?_
  refine Go.alen (t := 2) (n := nI m) d_Arrays_copyOfRangeByte_20 rfl ((hup_ne hvz).trans hv) rfl rfl ?_
  refine Go.iload_1 d_Arrays_copyOfRangeByte_21 rfl ?_
  refine Go.isub d_Arrays_copyOfRangeByte_22 rfl ?_
  rw [Int32.sub_zero]
  refine Go.iload_3 d_Arrays_copyOfRangeByte_23 rfl ?_
  refine Go.imin d_Arrays_copyOfRangeByte_24 rfl l_Arrays_304 (by decide) rfl ?_
  rw [iMin_n (show m < 2 ^ 31 by omega) (show n < 2 ^ 31 by omega), Nat.min_eq_right hn]
  refine Go.bcopy (dp := 0) d_Arrays_copyOfRangeByte_27 rfl x_acA (Or.inr ((hup_ne hvz).trans hv)) (fun j _ => hf j) hup_at hn (by omega) (by omega) rfl rfl ?_
  rw [hup_hup]
  refine Go.picB (g := g) hup_at (fun j hj => ?_) ?_
  · unfold va_cpy
    rw [if_pos (by omega), show 0 + (j - 0) = j by omega]
    exact hg j hj
  rw [hup_hup]
  refine Go.aload_4 d_Arrays_copyOfRangeByte_30 rfl ?_
  exact Go.aretA d_Arrays_copyOfRangeByte_32 rfl ⟨rfl, rfl, rfl⟩
theorem d_Arrays_copyOfRange_0 : decode M_Arrays_copyOfRange.2.1 0 = .ok (.iload_n 1, 1) := by decide +kernel
theorem d_Arrays_copyOfRange_1 : decode M_Arrays_copyOfRange.2.1 1 = .ok (.ifCond .ne 9, 3) := by decide +kernel
theorem d_Arrays_copyOfRange_4 : decode M_Arrays_copyOfRange.2.1 4 = .ok (.iload_n 2, 1) := by decide +kernel
theorem d_Arrays_copyOfRange_5 : decode M_Arrays_copyOfRange.2.1 5 = .ok (.aload_n 0, 1) := by decide +kernel
theorem d_Arrays_copyOfRange_6 : decode M_Arrays_copyOfRange.2.1 6 = .ok (.arraylength, 1) := by decide +kernel
theorem d_Arrays_copyOfRange_7 : decode M_Arrays_copyOfRange.2.1 7 = .ok (.if_icmp .eq 10, 3) := by decide +kernel
theorem d_Arrays_copyOfRange_17 : decode M_Arrays_copyOfRange.2.1 17 = .ok (.aload_n 0, 1) := by decide +kernel
theorem d_Arrays_copyOfRange_18 : decode M_Arrays_copyOfRange.2.1 18 = .ok (.invokevirtual 310, 3) := by decide +kernel
theorem d_Arrays_copyOfRange_21 : decode M_Arrays_copyOfRange.2.1 21 = .ok (.checkcast 311, 3) := by decide +kernel
theorem d_Arrays_copyOfRange_24 : decode M_Arrays_copyOfRange.2.1 24 = .ok (.areturn, 1) := by decide +kernel
theorem d_Arrays_copyOfRange_10 : decode M_Arrays_copyOfRange.2.1 10 = .ok (.aload_n 0, 1) := by decide +kernel
theorem d_Arrays_copyOfRange_11 : decode M_Arrays_copyOfRange.2.1 11 = .ok (.iload_n 1, 1) := by decide +kernel
theorem d_Arrays_copyOfRange_12 : decode M_Arrays_copyOfRange.2.1 12 = .ok (.iload_n 2, 1) := by decide +kernel
theorem d_Arrays_copyOfRange_13 : decode M_Arrays_copyOfRange.2.1 13 = .ok (.invokestatic 339, 3) := by decide +kernel
theorem d_Arrays_copyOfRange_16 : decode M_Arrays_copyOfRange.2.1 16 = .ok (.areturn, 1) := by decide +kernel
set_option maxRecDepth 100000 in
set_option maxHeartbeats 4000000 in
theorem c_copyR {Γ : G9} {h : AH} {z v m n : Nat} {f g : Nat → Int32} (hv : h v = some (aB Γ m f)) (hf : ∀ j, fits .byte (.int (f j)) = true) (hn : n ≤ m) (hm : m ≤ 2402) (hg : ∀ j, j < n → f j = g j) : Call Γ M_Arrays_copyOfRange 4 1 n [.ref v, .int 0, .int (nI n)] h z (fun w h2 z2 => w = some (.ref z) ∧ h2 = hup h z (aB Γ n g) ∧ z2 = z + 1) noX := by
  refine Call.of_go (L := [some (.ref v), some (.int 0), some (.int (nI n))]) (by decide +kernel) rfl (by exact Nat.le_of_ble_eq_true rfl) ?_
  by_cases hnm : n = m
  · subst hnm
    refine Go.iload_1 d_Arrays_copyOfRange_0 rfl ?_
    refine Go.if_ne (t := 10) d_Arrays_copyOfRange_1 (by decide) rfl (fun w => absurd w (by decide)) (fun _ => ?_)
    refine Go.iload_2 d_Arrays_copyOfRange_4 rfl ?_
    refine Go.aload_0 d_Arrays_copyOfRange_5 rfl ?_
    refine Go.alen (t := 2) (n := nI n) d_Arrays_copyOfRange_6 rfl hv rfl rfl ?_
    refine Go.icmp_eq (t := 17) d_Arrays_copyOfRange_7 (by decide) rfl (fun _ => ?_) (fun w => absurd rfl w)
    refine Go.aload_0 d_Arrays_copyOfRange_17 rfl ?_
    refine Go.cloneB (C1 := 0) (S1 := 0) d_Arrays_copyOfRange_18 rfl rfl hv (fun j _ => hf j) (by omega) (by omega) rfl rfl ?_
    refine Go.picB (g := g) hup_at hg ?_
    rw [hup_hup]
    refine Go.castB d_Arrays_copyOfRange_21 rfl rfl hup_at ?_
    exact Go.aretA d_Arrays_copyOfRange_24 rfl ⟨rfl, rfl, rfl⟩
  · refine Go.iload_1 d_Arrays_copyOfRange_0 rfl ?_
    refine Go.if_ne (t := 10) d_Arrays_copyOfRange_1 (by decide) rfl (fun w => absurd w (by decide)) (fun _ => ?_)
    refine Go.iload_2 d_Arrays_copyOfRange_4 rfl ?_
    refine Go.aload_0 d_Arrays_copyOfRange_5 rfl ?_
    refine Go.alen (t := 2) (n := nI m) d_Arrays_copyOfRange_6 rfl hv rfl rfl ?_
    refine Go.icmp_eq (t := 17) d_Arrays_copyOfRange_7 (by decide) rfl (fun w => absurd w (fun w9 => hnm ((nI_eq (by omega) (by omega)).mp w9))) (fun _ => ?_)
    refine Go.aload_0 d_Arrays_copyOfRange_10 rfl ?_
    refine Go.iload_1 d_Arrays_copyOfRange_11 rfl ?_
    refine Go.iload_2 d_Arrays_copyOfRange_12 rfl ?_
    refine Go.callS (C1 := 0) (S1 := 0) (as := [.ref v, .int 0, .int (nI n)]) d_Arrays_copyOfRange_13 rfl l_Arrays_339 k_Arrays_copyOfRangeByte_s rfl rfl rfl (c_copyRB hv hf hn hm hg) (by omega) (by decide) (by omega) (by omega) (by exact Nat.le_of_ble_eq_true rfl) (fun _ _ _ w _ => w.elim) (fun v9 h9 z9 w9 hz9 => ?_)
    obtain ⟨rfl, w9⟩ := w9
    exact Go.aretA d_Arrays_copyOfRange_16 rfl ⟨rfl, w9⟩
theorem d_String_init_0_0 : decode M_String_init_0.2.1 0 = .ok (.aload_n 0, 1) := by decide +kernel
theorem d_String_init_0_1 : decode M_String_init_0.2.1 1 = .ok (.invokespecial 1, 3) := by decide +kernel
theorem d_String_init_0_4 : decode M_String_init_0.2.1 4 = .ok (.aload_n 1, 1) := by decide +kernel
theorem d_String_init_0_5 : decode M_String_init_0.2.1 5 = .ok (.invokevirtual 552, 3) := by decide +kernel
theorem d_String_init_0_8 : decode M_String_init_0.2.1 8 = .ok (.astore_n 3, 1) := by decide +kernel
theorem d_String_init_0_9 : decode M_String_init_0.2.1 9 = .ok (.aload_n 1, 1) := by decide +kernel
theorem d_String_init_0_10 : decode M_String_init_0.2.1 10 = .ok (.invokevirtual 549, 3) := by decide +kernel
theorem d_String_init_0_13 : decode M_String_init_0.2.1 13 = .ok (.istore 4, 2) := by decide +kernel
theorem d_String_init_0_15 : decode M_String_init_0.2.1 15 = .ok (.aload_n 1, 1) := by decide +kernel
theorem d_String_init_0_16 : decode M_String_init_0.2.1 16 = .ok (.invokevirtual 1047, 3) := by decide +kernel
theorem d_String_init_0_19 : decode M_String_init_0.2.1 19 = .ok (.ifCond .eq 22, 3) := by decide +kernel
theorem d_String_init_0_22 : decode M_String_init_0.2.1 22 = .ok (.aload_n 0, 1) := by decide +kernel
theorem d_String_init_0_23 : decode M_String_init_0.2.1 23 = .ok (.iconst 0, 1) := by decide +kernel
theorem d_String_init_0_24 : decode M_String_init_0.2.1 24 = .ok (.putfield 15, 3) := by decide +kernel
theorem d_String_init_0_27 : decode M_String_init_0.2.1 27 = .ok (.aload_n 0, 1) := by decide +kernel
theorem d_String_init_0_28 : decode M_String_init_0.2.1 28 = .ok (.aload_n 3, 1) := by decide +kernel
theorem d_String_init_0_29 : decode M_String_init_0.2.1 29 = .ok (.iconst 0, 1) := by decide +kernel
theorem d_String_init_0_30 : decode M_String_init_0.2.1 30 = .ok (.iload 4, 2) := by decide +kernel
theorem d_String_init_0_32 : decode M_String_init_0.2.1 32 = .ok (.invokestatic 54, 3) := by decide +kernel
theorem d_String_init_0_35 : decode M_String_init_0.2.1 35 = .ok (.putfield 9, 3) := by decide +kernel
theorem d_String_init_0_38 : decode M_String_init_0.2.1 38 = .ok (.goto 59, 3) := by decide +kernel
theorem d_String_init_0_97 : decode M_String_init_0.2.1 97 = .ok (.return_, 1) := by decide +kernel
set_option maxRecDepth 100000 in
set_option maxHeartbeats 4000000 in
theorem c_strOf {Γ : G9} {h : AH} {z b c v m : Nat} {t : List Int32} {a : Nat → Int32} (hk : CsOk Γ) (hb : h b = some (sbO v t.length)) (hv : h v = some (aB Γ m a)) (hc : h c = some (.inr (11, [.null, .int 0, .int 0, .int 0]))) (hn : t.length ≤ m) (hm : m ≤ 2402) (ha : ∀ j, j < t.length → a j = t.getD j 0) (hf : ∀ j, fits .byte (.int (a j)) = true) : Call Γ M_String_init_0 5 1 t.length [.ref c, .ref b, .null] h z (fun w h2 z2 => w = none ∧ h2 = hup (hup h c (stO z)) z (aB Γ t.length (fun j => t.getD j 0)) ∧ z2 = z + 1) noX := by
  refine Call.of_go (L := [some (.ref c), some (.ref b), some (.null), none, none]) (by decide +kernel) rfl (by exact Nat.le_of_ble_eq_true rfl) ?_
  refine Go.low (fun hlow => ?_)
  have hcz : c ≠ z := fun w => (by rw [w, hlow z (Nat.le_refl z)] at hc; cases hc)
  have hcv : v ≠ c := fun w => (by rw [w, hc] at hv; cases hv)
  have hcb : b ≠ c := fun w => (by rw [w, hc] at hb; cases hb)
  refine Go.aload_0 d_String_init_0_0 rfl ?_
  refine Go.objInit d_String_init_0_1 rfl l_String_1 q_obj1 q_obj2 (by decide) rfl ?_
  refine Go.aload_1 d_String_init_0_4 rfl ?_
  refine Go.callB (C1 := 1) (S1 := t.length) (as := []) d_String_init_0_5 rfl l_String_552 u_AbstractStringBuilder_getValue (Or.inl x_sel_getValue) rfl hb rfl (c_asb_getValue hb) (by omega) (by decide) (by omega) (by omega) (by exact Nat.le_of_ble_eq_true rfl) (fun _ _ _ w _ => w.elim) (fun v9 h9 z9 w9 hz9 => ?_)
  obtain ⟨rfl, rfl, rfl⟩ := w9
  refine Go.astore_3 d_String_init_0_8 rfl (by rfl) ?_
  refine Go.aload_1 d_String_init_0_9 rfl ?_
  refine Go.callB (C1 := 1) (S1 := t.length) (as := []) d_String_init_0_10 rfl l_String_549 u_length (Or.inl x_sel_length) rfl hb rfl (c_sb_length hb) (by omega) (by decide) (by omega) (by omega) (by exact Nat.le_of_ble_eq_true rfl) (fun _ _ _ w _ => w.elim) (fun v8 h8 z8 w8 hz8 => ?_)
  obtain ⟨rfl, rfl, rfl⟩ := w8
  refine Go.istore_4 d_String_init_0_13 rfl (by rfl) ?_
  refine Go.aload_1 d_String_init_0_15 rfl ?_
  refine Go.callB (C1 := 1) (S1 := t.length) (as := []) d_String_init_0_16 rfl l_String_1047 u_AbstractStringBuilder_isLatin1 (Or.inl x_sel_isLatin1) rfl hb rfl (c_asb_isLatin1 hk hb) (by omega) (by decide) (by omega) (by omega) (by exact Nat.le_of_ble_eq_true rfl) (fun _ _ _ w _ => w.elim) (fun v7 h7 z7 w7 hz7 => ?_)
  obtain ⟨rfl, rfl, rfl⟩ := w7
  refine Go.if_eq (t := 41) d_String_init_0_19 (by decide) rfl (fun w => absurd w (by decide)) (fun _ => ?_)
  refine Go.aload_0 d_String_init_0_22 rfl ?_
  refine Go.iconst (v := 0) d_String_init_0_23 rfl (by decide) ?_
  refine Go.putfield d_String_init_0_24 rfl f_String_15_p (Or.inr ⟨rfl, fun C T N h => by cases h; exact ⟨rfl, rfl⟩⟩) hc (by exact Nat.le_of_ble_eq_true rfl) rfl rfl ?_
  refine Go.aload_0 d_String_init_0_27 rfl ?_
  refine Go.aload_3 d_String_init_0_28 rfl ?_
  refine Go.iconst (v := 0) d_String_init_0_29 rfl (by decide) ?_
  refine Go.iload_4 d_String_init_0_30 rfl ?_
  refine Go.callS (C1 := 0) (S1 := 0) (as := [.ref v, .int 0, .int (nI t.length)]) d_String_init_0_32 rfl l_String_54 k_Arrays_copyOfRange_s rfl rfl rfl (c_copyR (g := fun j => t.getD j 0) ((hup_ne hcv).trans hv) hf hn hm ha) (by omega) (by decide) (by omega) (by omega) (by exact Nat.le_of_ble_eq_true rfl) (fun _ _ _ w _ => w.elim) (fun v9 h9 z9 w9 hz9 => ?_)
  obtain ⟨rfl, rfl, rfl⟩ := w9
  refine Go.putfield d_String_init_0_35 rfl f_String_9_p (Or.inr ⟨rfl, fun C T N h => by cases h; exact ⟨rfl, rfl⟩⟩) ((hup_ne hcz).trans hup_at) (by exact Nat.le_of_ble_eq_true rfl) rfl rfl ?_
  refine Go.goto (t := 97) d_String_init_0_38 (by decide) ?_
  exact Go.vret d_String_init_0_97 rfl ⟨rfl, by rw [hup_comm (Ne.symm hcz), hup_hup]; rfl, rfl⟩
theorem d_String_init_1_0 : decode M_String_init_1.2.1 0 = .ok (.aload_n 0, 1) := by decide +kernel
theorem d_String_init_1_1 : decode M_String_init_1.2.1 1 = .ok (.aload_n 1, 1) := by decide +kernel
theorem d_String_init_1_2 : decode M_String_init_1.2.1 2 = .ok (.aconst_null, 1) := by decide +kernel
theorem d_String_init_1_3 : decode M_String_init_1.2.1 3 = .ok (.invokespecial 489, 3) := by decide +kernel
theorem d_String_init_1_6 : decode M_String_init_1.2.1 6 = .ok (.return_, 1) := by decide +kernel
set_option maxRecDepth 100000 in
set_option maxHeartbeats 4000000 in
theorem c_strOf1 {Γ : G9} {h : AH} {z b c v m : Nat} {t : List Int32} {a : Nat → Int32} (hk : CsOk Γ) (hb : h b = some (sbO v t.length)) (hv : h v = some (aB Γ m a)) (hc : h c = some (.inr (11, [.null, .int 0, .int 0, .int 0]))) (hn : t.length ≤ m) (hm : m ≤ 2402) (ha : ∀ j, j < t.length → a j = t.getD j 0) (hf : ∀ j, fits .byte (.int (a j)) = true) : Call Γ M_String_init_1 6 1 t.length [.ref c, .ref b] h z (fun w h2 z2 => w = none ∧ h2 = hup (hup h c (stO z)) z (aB Γ t.length (fun j => t.getD j 0)) ∧ z2 = z + 1) noX := by
  refine Call.of_go (L := [some (.ref c), some (.ref b)]) (by decide +kernel) rfl (by exact Nat.le_of_ble_eq_true rfl) ?_
  refine Go.aload_0 d_String_init_1_0 rfl ?_
  refine Go.aload_1 d_String_init_1_1 rfl ?_
  refine Go.aconst_null d_String_init_1_2 rfl ?_
  refine Go.callI (C1 := 0) (S1 := 0) (as := [.ref b, .null]) d_String_init_1_3 rfl (Or.inl l_String_489) k_String_init_0_n rfl rfl (c_strOf hk hb hv hc hn hm ha hf) (by omega) (by decide) (by omega) (by omega) (Nat.le_of_ble_eq_true rfl) (fun _ _ _ w _ => w.elim) (fun v9 h9 z9 w9 hz9 => ?_)
  obtain ⟨rfl, w9⟩ := w9
  exact Go.vret d_String_init_1_6 rfl ⟨rfl, w9⟩
theorem d_StringBuilder_toString_0 : decode M_StringBuilder_toString.2.1 0 = .ok (.new 18, 3) := by decide +kernel
theorem d_StringBuilder_toString_3 : decode M_StringBuilder_toString.2.1 3 = .ok (.dup, 1) := by decide +kernel
theorem d_StringBuilder_toString_4 : decode M_StringBuilder_toString.2.1 4 = .ok (.aload_n 0, 1) := by decide +kernel
theorem d_StringBuilder_toString_5 : decode M_StringBuilder_toString.2.1 5 = .ok (.invokespecial 137, 3) := by decide +kernel
theorem d_StringBuilder_toString_8 : decode M_StringBuilder_toString.2.1 8 = .ok (.areturn, 1) := by decide +kernel
set_option maxRecDepth 100000 in
set_option maxHeartbeats 4000000 in
theorem c_toString {Γ : G9} {h h0 : AH} {z b q : Nat} {t : List Int32} (hk : CsOk Γ) (hs : SB Γ h b h0 t q) : Call Γ M_StringBuilder_toString 7 2 (t.length + 4) [.ref b] h z (fun w h2 z2 => w = some (.ref z) ∧ h2 = hup (hup h z (stO (z + 1))) (z + 1) (aB Γ t.length (fun j => t.getD j 0)) ∧ z2 = z + 2) noX := by
  refine Call.of_go (L := [some (.ref b)]) (by decide +kernel) rfl (by exact Nat.le_of_ble_eq_true rfl) ?_
  obtain ⟨v, m, a, rfl, hbv, h0b, h0v, hn, hq0, hm, ha, hf⟩ := hs
  refine Go.low (fun hlow => ?_)
  obtain ⟨hbz, hvz, -⟩ := bd_low hbv hlow
  refine Go.new (ci := 11) (C1 := 1) (S1 := t.length) (fs := [.null, .int 0, .int 0, .int 0]) ty_String d_StringBuilder_toString_0 rfl rfl cw_String ty_String_ok x_ldStr x_insStr x_iniStr n9_fs_Str (by omega) (by omega) ?_
  refine Go.dup d_StringBuilder_toString_3 rfl rfl ?_
  refine Go.aload_0 d_StringBuilder_toString_4 rfl ?_
  refine Go.callI (C1 := 0) (S1 := 0) (as := [.ref b]) d_StringBuilder_toString_5 rfl (Or.inl l_StringBuilder_137) k_String_init_1_n rfl rfl (c_strOf1 hk ((hup_ne (by omega)).trans (bd_b hbv)) ((hup_ne (by omega)).trans bd_v) hup_at hn hm ha hf) (by omega) (by decide) (by omega) (by omega) (Nat.le_of_ble_eq_true rfl) (fun _ _ _ w _ => w.elim) (fun v9 h9 z9 w9 hz9 => ?_)
  obtain ⟨rfl, rfl, rfl⟩ := w9
  rw [hup_hup]
  exact Go.aret d_StringBuilder_toString_8 rfl ⟨rfl, rfl, rfl⟩
