/-! Tokens: reading a tape -/
abbrev sgXL : List (List Int32) := [[98, 97, 110, 100], [104, 101, 105, 103, 104, 116], [115, 110, 111, 119], [115, 116, 97, 107, 101], [105, 110], [100, 101, 101, 112], [99, 114, 101, 118, 97, 115, 115, 101], [97, 98, 111, 118, 101], [98, 114, 105, 100, 103, 101], [100, 101, 112, 111, 116], [102, 111, 111, 100], [116, 101, 97, 109], [115, 105, 122, 101], [100, 97, 121], [119, 97, 114, 109], [99, 108, 105, 109, 98], [100, 101, 115, 99, 101, 110, 100], [112, 114, 111, 98, 101], [98, 121], [102, 105, 108, 108], [119, 105, 116, 104], [100, 114, 105, 108, 108], [119, 104, 101, 110], [111, 117, 116], [115, 116, 111, 99, 107], [115, 97, 99, 107], [112, 108, 97, 99, 101], [115, 116, 97, 110, 100, 105, 110, 103], [104, 101, 114, 101], [107, 110, 111, 119, 110], [110, 111, 116], [97, 110, 100], [111, 114], [109, 105, 110], [109, 97, 120], [40], [41], [91], [93], [59], [44], [43], [45], [42], [47], [60], [62], [61], [60, 61], [62, 61], [], [], [], []]
def sgX (i : Nat) : List Int32 := sgXL.getD i []
def TxOk (Γ : G9) (sg tx : Nat → Nat) : Prop := ∀ i : Nat, i < 54 → SF Γ (va_OF clSign "text" "Ljava/lang/String;" (.ref (tx i)) (sg i)) ∧ StOk Γ (tx i) (sgX i)
def fin54 (i : Nat) : Fin 54 := ⟨i % 54, Nat.mod_lt _ (by decide)⟩
theorem fin54_val {i : Nat} (h : i < 54) : i = (fin54 i).val := (Nat.mod_eq_of_lt h).symm
theorem nI_gt_of {n i : Nat} (h : ¬ nI n ≤ nI i) (hi : i < 2 ^ 31) : i < n := Nat.not_le.mp fun w => h (nI_le w hi)
theorem d_Tokens_pastBlanks_2 : decode M_Tokens_pastBlanks.2.1 2 = .ok (.iload_n 2, 1) := by decide +kernel
theorem d_Tokens_pastBlanks_3 : decode M_Tokens_pastBlanks.2.1 3 = .ok (.aload_n 0, 1) := by decide +kernel
theorem d_Tokens_pastBlanks_4 : decode M_Tokens_pastBlanks.2.1 4 = .ok (.invokevirtual 43, 3) := by decide +kernel
theorem d_Tokens_pastBlanks_7 : decode M_Tokens_pastBlanks.2.1 7 = .ok (.if_icmp .ge 29, 3) := by decide +kernel
theorem d_Tokens_pastBlanks_36 : decode M_Tokens_pastBlanks.2.1 36 = .ok (.iload_n 2, 1) := by decide +kernel
theorem d_Tokens_pastBlanks_37 : decode M_Tokens_pastBlanks.2.1 37 = .ok (.ireturn, 1) := by decide +kernel
theorem d_Tokens_pastBlanks_10 : decode M_Tokens_pastBlanks.2.1 10 = .ok (.aload_n 0, 1) := by decide +kernel
theorem d_Tokens_pastBlanks_11 : decode M_Tokens_pastBlanks.2.1 11 = .ok (.iload_n 2, 1) := by decide +kernel
theorem d_Tokens_pastBlanks_12 : decode M_Tokens_pastBlanks.2.1 12 = .ok (.invokevirtual 82, 3) := by decide +kernel
theorem d_Tokens_pastBlanks_15 : decode M_Tokens_pastBlanks.2.1 15 = .ok (.bipush 32, 2) := by decide +kernel
theorem d_Tokens_pastBlanks_17 : decode M_Tokens_pastBlanks.2.1 17 = .ok (.if_icmp .eq 13, 3) := by decide +kernel
theorem d_Tokens_pastBlanks_20 : decode M_Tokens_pastBlanks.2.1 20 = .ok (.aload_n 0, 1) := by decide +kernel
theorem d_Tokens_pastBlanks_21 : decode M_Tokens_pastBlanks.2.1 21 = .ok (.iload_n 2, 1) := by decide +kernel
theorem d_Tokens_pastBlanks_22 : decode M_Tokens_pastBlanks.2.1 22 = .ok (.invokevirtual 82, 3) := by decide +kernel
theorem d_Tokens_pastBlanks_25 : decode M_Tokens_pastBlanks.2.1 25 = .ok (.bipush 10, 2) := by decide +kernel
theorem d_Tokens_pastBlanks_27 : decode M_Tokens_pastBlanks.2.1 27 = .ok (.if_icmp .ne 9, 3) := by decide +kernel
theorem d_Tokens_pastBlanks_30 : decode M_Tokens_pastBlanks.2.1 30 = .ok (.iinc 2 1, 3) := by decide +kernel
theorem d_Tokens_pastBlanks_33 : decode M_Tokens_pastBlanks.2.1 33 = .ok (.goto (-31), 3) := by decide +kernel
def l_Tokens_pastBlanks_2 (A : TA) (x1 : Nat) : Nat → Nat → Nat
  | 0, i => i
  | k + 1, i => (if (nI (ta_sz A)) ≤ (nI i) then i else (if (s_Tape_byteAt A (nI i)) = 32 then (l_Tokens_pastBlanks_2 A x1 k (i + 1)) else (if (s_Tape_byteAt A (nI i)) = 10 then (l_Tokens_pastBlanks_2 A x1 k (i + 1)) else i)))
set_option maxRecDepth 100000 in
set_option maxHeartbeats 4000000 in
theorem l_Tokens_pastBlanks_2_go {Γ : G9} {h : AH} {t z : Nat} {n : Nat} {A : TA} {x1 : Nat} (bx1 : x1 ≤ 2000) (hA : ta_sz A ≤ 2000) (hn20 : n ≤ 2000) (hn : ta_sz A = n) : ∀ (k i : Nat), n ≤ i + k → i + k ≤ 5000 → Go Γ M_Tokens_pastBlanks 1 0 0 2 [some (.ref t), some (.int (nI x1)), some (.int (nI i))] [] (blk h t 2 (taC Γ t A)) z (RQ (some (.int (nI (l_Tokens_pastBlanks_2 A x1 k i)))) (blk h t 2 (taC Γ t A)) z) noX := by
  intro k
  induction k with
  | zero =>
    intro i hi hb
    unfold l_Tokens_pastBlanks_2
    refine Go.iload_2 d_Tokens_pastBlanks_2 rfl ?_
    refine Go.aload_0 d_Tokens_pastBlanks_3 rfl ?_
    refine Go.cv0r d_Tokens_pastBlanks_4 rfl l_Tokens_43 k_Tape_size_v (ta_g0) rfl (c_Tape_size) rfl rfl rfl ?_
    refine Go.icmp_ge (t := 36) d_Tokens_pastBlanks_7 (by decide) rfl (fun c7_1 => ?_) (fun c7_1 => ?_)
    · refine Go.iload_2 d_Tokens_pastBlanks_36 rfl ?_
      exact Go.iret d_Tokens_pastBlanks_37 rfl rfl ⟨rfl, rfl, rfl⟩
    · exact absurd (nI_le (by omega) (by omega)) c7_1
  | succ k ih =>
    intro i hi hb
    unfold l_Tokens_pastBlanks_2
    refine Go.iload_2 d_Tokens_pastBlanks_2 rfl ?_
    refine Go.aload_0 d_Tokens_pastBlanks_3 rfl ?_
    refine Go.cv0r d_Tokens_pastBlanks_4 rfl l_Tokens_43 k_Tape_size_v (ta_g0) rfl (c_Tape_size) rfl rfl rfl ?_
    refine Go.icmp_ge (t := 36) d_Tokens_pastBlanks_7 (by decide) rfl (fun c7_1 => ?_) (fun c7_1 => ?_)
    · refine Go.iload_2 d_Tokens_pastBlanks_36 rfl ?_
      rw [if_pos c7_1]
      exact Go.iret d_Tokens_pastBlanks_37 rfl rfl ⟨rfl, rfl, rfl⟩
    · refine Go.aload_0 d_Tokens_pastBlanks_10 rfl ?_
      refine Go.iload_2 d_Tokens_pastBlanks_11 rfl ?_
      refine Go.cv1r d_Tokens_pastBlanks_12 rfl l_Tokens_82 k_Tape_byteAt_v (ta_g0) rfl (c_Tape_byteAt) rfl rfl rfl ?_
      refine Go.bipush (v := 32) d_Tokens_pastBlanks_15 rfl (by decide) ?_
      refine Go.icmp_eq (t := 30) d_Tokens_pastBlanks_17 (by decide) rfl (fun c17_2 => ?_) (fun c17_2 => ?_)
      · refine Go.iinc_2 d_Tokens_pastBlanks_30 rfl (by rfl) (nI_inc _) ?_
        refine Go.goto (t := 2) d_Tokens_pastBlanks_33 (by decide) ?_
        rw [if_neg c7_1, if_pos c17_2]
        exact ih (i + 1) (by omega) (by omega)
      · refine Go.aload_0 d_Tokens_pastBlanks_20 rfl ?_
        refine Go.iload_2 d_Tokens_pastBlanks_21 rfl ?_
        refine Go.cv1r d_Tokens_pastBlanks_22 rfl l_Tokens_82 k_Tape_byteAt_v (ta_g0) rfl (c_Tape_byteAt) rfl rfl rfl ?_
        refine Go.bipush (v := 10) d_Tokens_pastBlanks_25 rfl (by decide) ?_
        refine Go.icmp_ne (t := 36) d_Tokens_pastBlanks_27 (by decide) rfl (fun c27_3 => ?_) (fun c27_3 => ?_)
        · refine Go.iload_2 d_Tokens_pastBlanks_36 rfl ?_
          rw [if_neg c7_1, if_neg c17_2, if_neg c27_3]
          exact Go.iret d_Tokens_pastBlanks_37 rfl rfl ⟨rfl, rfl, rfl⟩
        · refine Go.iinc_2 d_Tokens_pastBlanks_30 rfl (by rfl) (nI_inc _) ?_
          refine Go.goto (t := 2) d_Tokens_pastBlanks_33 (by decide) ?_
          rw [if_neg c7_1, if_neg c17_2, if_pos c27_3]
          exact ih (i + 1) (by omega) (by omega)
theorem d_Tokens_pastBlanks_0 : decode M_Tokens_pastBlanks.2.1 0 = .ok (.iload_n 1, 1) := by decide +kernel
theorem d_Tokens_pastBlanks_1 : decode M_Tokens_pastBlanks.2.1 1 = .ok (.istore_n 2, 1) := by decide +kernel
def s_Tokens_pastBlanks (A : TA) (x1 : Nat) : Nat := (l_Tokens_pastBlanks_2 A x1 ((ta_sz A) - x1) x1)
set_option maxRecDepth 100000 in
set_option maxHeartbeats 4000000 in
theorem c_Tokens_pastBlanks {Γ : G9} {h : AH} {t z : Nat} {A : TA} {x1 : Nat} {vx1 : Int32} (ex1 : vx1 = nI x1) (bx1 : x1 ≤ 2000) (hA : ta_sz A ≤ 2000) : CallR Γ M_Tokens_pastBlanks 1 [.ref t, .int vx1] (blk h t 2 (taC Γ t A)) z (some (.int (nI (s_Tokens_pastBlanks A x1)))) (blk h t 2 (taC Γ t A)) := by
  subst ex1
  refine Call.of_go (L := [some (.ref t), some (.int (nI x1)), none]) (by decide +kernel) rfl (by exact Nat.le_of_ble_eq_true rfl) ?_
  unfold s_Tokens_pastBlanks
  refine Go.iload_1 d_Tokens_pastBlanks_0 rfl ?_
  refine Go.istore_2 d_Tokens_pastBlanks_1 rfl (by rfl) ?_
  exact l_Tokens_pastBlanks_2_go (n := (ta_sz A)) bx1 hA (by omega) rfl ((ta_sz A) - x1) x1 (by omega) (by omega)
theorem d_Tokens_tokenEnd_17 : decode M_Tokens_tokenEnd.2.1 17 = .ok (.iload_n 3, 1) := by decide +kernel
theorem d_Tokens_tokenEnd_18 : decode M_Tokens_tokenEnd.2.1 18 = .ok (.aload_n 0, 1) := by decide +kernel
theorem d_Tokens_tokenEnd_19 : decode M_Tokens_tokenEnd.2.1 19 = .ok (.invokevirtual 43, 3) := by decide +kernel
theorem d_Tokens_tokenEnd_22 : decode M_Tokens_tokenEnd.2.1 22 = .ok (.if_icmp .ge 88, 3) := by decide +kernel
theorem d_Tokens_tokenEnd_110 : decode M_Tokens_tokenEnd.2.1 110 = .ok (.iload_n 3, 1) := by decide +kernel
theorem d_Tokens_tokenEnd_111 : decode M_Tokens_tokenEnd.2.1 111 = .ok (.ireturn, 1) := by decide +kernel
theorem d_Tokens_tokenEnd_25 : decode M_Tokens_tokenEnd.2.1 25 = .ok (.aload_n 0, 1) := by decide +kernel
theorem d_Tokens_tokenEnd_26 : decode M_Tokens_tokenEnd.2.1 26 = .ok (.iload_n 3, 1) := by decide +kernel
theorem d_Tokens_tokenEnd_27 : decode M_Tokens_tokenEnd.2.1 27 = .ok (.invokevirtual 82, 3) := by decide +kernel
theorem d_Tokens_tokenEnd_30 : decode M_Tokens_tokenEnd.2.1 30 = .ok (.invokestatic 86, 3) := by decide +kernel
theorem d_Tokens_tokenEnd_33 : decode M_Tokens_tokenEnd.2.1 33 = .ok (.ifCond .ne 14, 3) := by decide +kernel
theorem d_Tokens_tokenEnd_36 : decode M_Tokens_tokenEnd.2.1 36 = .ok (.aload_n 0, 1) := by decide +kernel
theorem d_Tokens_tokenEnd_37 : decode M_Tokens_tokenEnd.2.1 37 = .ok (.iload_n 3, 1) := by decide +kernel
theorem d_Tokens_tokenEnd_38 : decode M_Tokens_tokenEnd.2.1 38 = .ok (.invokevirtual 82, 3) := by decide +kernel
theorem d_Tokens_tokenEnd_41 : decode M_Tokens_tokenEnd.2.1 41 = .ok (.invokestatic 90, 3) := by decide +kernel
theorem d_Tokens_tokenEnd_44 : decode M_Tokens_tokenEnd.2.1 44 = .ok (.ifCond .eq 66, 3) := by decide +kernel
theorem d_Tokens_tokenEnd_47 : decode M_Tokens_tokenEnd.2.1 47 = .ok (.iinc 3 1, 3) := by decide +kernel
theorem d_Tokens_tokenEnd_50 : decode M_Tokens_tokenEnd.2.1 50 = .ok (.goto (-33), 3) := by decide +kernel
def l_Tokens_tokenEnd_17 (A : TA) (x1 : Nat) : Nat → Nat → Nat
  | 0, i => i
  | k + 1, i => (if (nI (ta_sz A)) ≤ (nI i) then i else (if (s_Tokens_isLetter (s_Tape_byteAt A (nI i))) = 0 then (if (s_Tokens_isDigit (s_Tape_byteAt A (nI i))) = 0 then i else (l_Tokens_tokenEnd_17 A x1 k (i + 1))) else (l_Tokens_tokenEnd_17 A x1 k (i + 1))))
set_option maxRecDepth 100000 in
set_option maxHeartbeats 4000000 in
theorem l_Tokens_tokenEnd_17_go {Γ : G9} {h : AH} {t z : Nat} {n : Nat} {A : TA} {x1 : Nat} (bx1 : x1 ≤ 2000) (hA : ta_sz A ≤ 2000) (hn20 : n ≤ 2000) (hn : ta_sz A = n) : ∀ (k i : Nat), n ≤ i + k → i + k ≤ 5000 → Go Γ M_Tokens_tokenEnd 1 0 0 17 [some (.ref t), some (.int (nI x1)), none, some (.int (nI i))] [] (blk h t 2 (taC Γ t A)) z (RQ (some (.int (nI (l_Tokens_tokenEnd_17 A x1 k i)))) (blk h t 2 (taC Γ t A)) z) noX := by
  intro k
  induction k with
  | zero =>
    intro i hi hb
    unfold l_Tokens_tokenEnd_17
    refine Go.iload_3 d_Tokens_tokenEnd_17 rfl ?_
    refine Go.aload_0 d_Tokens_tokenEnd_18 rfl ?_
    refine Go.cv0r d_Tokens_tokenEnd_19 rfl l_Tokens_43 k_Tape_size_v (ta_g0) rfl (c_Tape_size) rfl rfl rfl ?_
    refine Go.icmp_ge (t := 110) d_Tokens_tokenEnd_22 (by decide) rfl (fun c22_1 => ?_) (fun c22_1 => ?_)
    · refine Go.iload_3 d_Tokens_tokenEnd_110 rfl ?_
      exact Go.iret d_Tokens_tokenEnd_111 rfl rfl ⟨rfl, rfl, rfl⟩
    · exact absurd (nI_le (by omega) (by omega)) c22_1
  | succ k ih =>
    intro i hi hb
    unfold l_Tokens_tokenEnd_17
    refine Go.iload_3 d_Tokens_tokenEnd_17 rfl ?_
    refine Go.aload_0 d_Tokens_tokenEnd_18 rfl ?_
    refine Go.cv0r d_Tokens_tokenEnd_19 rfl l_Tokens_43 k_Tape_size_v (ta_g0) rfl (c_Tape_size) rfl rfl rfl ?_
    refine Go.icmp_ge (t := 110) d_Tokens_tokenEnd_22 (by decide) rfl (fun c22_1 => ?_) (fun c22_1 => ?_)
    · refine Go.iload_3 d_Tokens_tokenEnd_110 rfl ?_
      rw [if_pos c22_1]
      exact Go.iret d_Tokens_tokenEnd_111 rfl rfl ⟨rfl, rfl, rfl⟩
    · refine Go.aload_0 d_Tokens_tokenEnd_25 rfl ?_
      refine Go.iload_3 d_Tokens_tokenEnd_26 rfl ?_
      refine Go.cv1r d_Tokens_tokenEnd_27 rfl l_Tokens_82 k_Tape_byteAt_v (ta_g0) rfl (c_Tape_byteAt) rfl rfl rfl ?_
      refine Go.cs1r d_Tokens_tokenEnd_30 rfl l_Tokens_86 k_Tokens_isLetter_s rfl (c_Tokens_isLetter) rfl rfl rfl ?_
      refine Go.if_ne (t := 47) d_Tokens_tokenEnd_33 (by decide) rfl (fun c33_2 => ?_) (fun c33_2 => ?_)
      · refine Go.iinc_3 d_Tokens_tokenEnd_47 rfl (by rfl) (nI_inc _) ?_
        refine Go.goto (t := 17) d_Tokens_tokenEnd_50 (by decide) ?_
        rw [if_neg c22_1, if_neg c33_2]
        exact ih (i + 1) (by omega) (by omega)
      · refine Go.aload_0 d_Tokens_tokenEnd_36 rfl ?_
        refine Go.iload_3 d_Tokens_tokenEnd_37 rfl ?_
        refine Go.cv1r d_Tokens_tokenEnd_38 rfl l_Tokens_82 k_Tape_byteAt_v (ta_g0) rfl (c_Tape_byteAt) rfl rfl rfl ?_
        refine Go.cs1r d_Tokens_tokenEnd_41 rfl l_Tokens_90 k_Tokens_isDigit_s rfl (c_Tokens_isDigit) rfl rfl rfl ?_
        refine Go.if_eq (t := 110) d_Tokens_tokenEnd_44 (by decide) rfl (fun c44_3 => ?_) (fun c44_3 => ?_)
        · refine Go.iload_3 d_Tokens_tokenEnd_110 rfl ?_
          rw [if_neg c22_1, if_pos c33_2, if_pos c44_3]
          exact Go.iret d_Tokens_tokenEnd_111 rfl rfl ⟨rfl, rfl, rfl⟩
        · refine Go.iinc_3 d_Tokens_tokenEnd_47 rfl (by rfl) (nI_inc _) ?_
          refine Go.goto (t := 17) d_Tokens_tokenEnd_50 (by decide) ?_
          rw [if_neg c22_1, if_pos c33_2, if_neg c44_3]
          exact ih (i + 1) (by omega) (by omega)
theorem d_Tokens_tokenEnd_60 : decode M_Tokens_tokenEnd.2.1 60 = .ok (.iload_n 3, 1) := by decide +kernel
theorem d_Tokens_tokenEnd_61 : decode M_Tokens_tokenEnd.2.1 61 = .ok (.aload_n 0, 1) := by decide +kernel
theorem d_Tokens_tokenEnd_62 : decode M_Tokens_tokenEnd.2.1 62 = .ok (.invokevirtual 43, 3) := by decide +kernel
theorem d_Tokens_tokenEnd_65 : decode M_Tokens_tokenEnd.2.1 65 = .ok (.if_icmp .ge 45, 3) := by decide +kernel
theorem d_Tokens_tokenEnd_68 : decode M_Tokens_tokenEnd.2.1 68 = .ok (.aload_n 0, 1) := by decide +kernel
theorem d_Tokens_tokenEnd_69 : decode M_Tokens_tokenEnd.2.1 69 = .ok (.iload_n 3, 1) := by decide +kernel
theorem d_Tokens_tokenEnd_70 : decode M_Tokens_tokenEnd.2.1 70 = .ok (.invokevirtual 82, 3) := by decide +kernel
theorem d_Tokens_tokenEnd_73 : decode M_Tokens_tokenEnd.2.1 73 = .ok (.invokestatic 90, 3) := by decide +kernel
theorem d_Tokens_tokenEnd_76 : decode M_Tokens_tokenEnd.2.1 76 = .ok (.ifCond .eq 34, 3) := by decide +kernel
theorem d_Tokens_tokenEnd_79 : decode M_Tokens_tokenEnd.2.1 79 = .ok (.iinc 3 1, 3) := by decide +kernel
theorem d_Tokens_tokenEnd_82 : decode M_Tokens_tokenEnd.2.1 82 = .ok (.goto (-22), 3) := by decide +kernel
def l_Tokens_tokenEnd_60 (A : TA) (x1 : Nat) : Nat → Nat → Nat
  | 0, i => i
  | k + 1, i => (if (nI (ta_sz A)) ≤ (nI i) then i else (if (s_Tokens_isDigit (s_Tape_byteAt A (nI i))) = 0 then i else (l_Tokens_tokenEnd_60 A x1 k (i + 1))))
set_option maxRecDepth 100000 in
set_option maxHeartbeats 4000000 in
theorem l_Tokens_tokenEnd_60_go {Γ : G9} {h : AH} {t z : Nat} {n : Nat} {A : TA} {x1 : Nat} (bx1 : x1 ≤ 2000) (hA : ta_sz A ≤ 2000) (hn20 : n ≤ 2000) (hn : ta_sz A = n) : ∀ (k i : Nat), n ≤ i + k → i + k ≤ 5000 → Go Γ M_Tokens_tokenEnd 1 0 0 60 [some (.ref t), some (.int (nI x1)), none, some (.int (nI i))] [] (blk h t 2 (taC Γ t A)) z (RQ (some (.int (nI (l_Tokens_tokenEnd_60 A x1 k i)))) (blk h t 2 (taC Γ t A)) z) noX := by
  intro k
  induction k with
  | zero =>
    intro i hi hb
    unfold l_Tokens_tokenEnd_60
    refine Go.iload_3 d_Tokens_tokenEnd_60 rfl ?_
    refine Go.aload_0 d_Tokens_tokenEnd_61 rfl ?_
    refine Go.cv0r d_Tokens_tokenEnd_62 rfl l_Tokens_43 k_Tape_size_v (ta_g0) rfl (c_Tape_size) rfl rfl rfl ?_
    refine Go.icmp_ge (t := 110) d_Tokens_tokenEnd_65 (by decide) rfl (fun c65_1 => ?_) (fun c65_1 => ?_)
    · refine Go.iload_3 d_Tokens_tokenEnd_110 rfl ?_
      exact Go.iret d_Tokens_tokenEnd_111 rfl rfl ⟨rfl, rfl, rfl⟩
    · exact absurd (nI_le (by omega) (by omega)) c65_1
  | succ k ih =>
    intro i hi hb
    unfold l_Tokens_tokenEnd_60
    refine Go.iload_3 d_Tokens_tokenEnd_60 rfl ?_
    refine Go.aload_0 d_Tokens_tokenEnd_61 rfl ?_
    refine Go.cv0r d_Tokens_tokenEnd_62 rfl l_Tokens_43 k_Tape_size_v (ta_g0) rfl (c_Tape_size) rfl rfl rfl ?_
    refine Go.icmp_ge (t := 110) d_Tokens_tokenEnd_65 (by decide) rfl (fun c65_1 => ?_) (fun c65_1 => ?_)
    · refine Go.iload_3 d_Tokens_tokenEnd_110 rfl ?_
      rw [if_pos c65_1]
      exact Go.iret d_Tokens_tokenEnd_111 rfl rfl ⟨rfl, rfl, rfl⟩
    · refine Go.aload_0 d_Tokens_tokenEnd_68 rfl ?_
      refine Go.iload_3 d_Tokens_tokenEnd_69 rfl ?_
      refine Go.cv1r d_Tokens_tokenEnd_70 rfl l_Tokens_82 k_Tape_byteAt_v (ta_g0) rfl (c_Tape_byteAt) rfl rfl rfl ?_
      refine Go.cs1r d_Tokens_tokenEnd_73 rfl l_Tokens_90 k_Tokens_isDigit_s rfl (c_Tokens_isDigit) rfl rfl rfl ?_
      refine Go.if_eq (t := 110) d_Tokens_tokenEnd_76 (by decide) rfl (fun c76_2 => ?_) (fun c76_2 => ?_)
      · refine Go.iload_3 d_Tokens_tokenEnd_110 rfl ?_
        rw [if_neg c65_1, if_pos c76_2]
        exact Go.iret d_Tokens_tokenEnd_111 rfl rfl ⟨rfl, rfl, rfl⟩
      · refine Go.iinc_3 d_Tokens_tokenEnd_79 rfl (by rfl) (nI_inc _) ?_
        refine Go.goto (t := 60) d_Tokens_tokenEnd_82 (by decide) ?_
        rw [if_neg c65_1, if_neg c76_2]
        exact ih (i + 1) (by omega) (by omega)
theorem d_Tokens_tokenEnd_0 : decode M_Tokens_tokenEnd.2.1 0 = .ok (.aload_n 0, 1) := by decide +kernel
theorem d_Tokens_tokenEnd_1 : decode M_Tokens_tokenEnd.2.1 1 = .ok (.iload_n 1, 1) := by decide +kernel
theorem d_Tokens_tokenEnd_2 : decode M_Tokens_tokenEnd.2.1 2 = .ok (.invokevirtual 82, 3) := by decide +kernel
theorem d_Tokens_tokenEnd_5 : decode M_Tokens_tokenEnd.2.1 5 = .ok (.istore_n 2, 1) := by decide +kernel
theorem d_Tokens_tokenEnd_6 : decode M_Tokens_tokenEnd.2.1 6 = .ok (.iload_n 1, 1) := by decide +kernel
theorem d_Tokens_tokenEnd_7 : decode M_Tokens_tokenEnd.2.1 7 = .ok (.iconst 1, 1) := by decide +kernel
theorem d_Tokens_tokenEnd_8 : decode M_Tokens_tokenEnd.2.1 8 = .ok (.iadd, 1) := by decide +kernel
theorem d_Tokens_tokenEnd_9 : decode M_Tokens_tokenEnd.2.1 9 = .ok (.istore_n 3, 1) := by decide +kernel
theorem d_Tokens_tokenEnd_10 : decode M_Tokens_tokenEnd.2.1 10 = .ok (.iload_n 2, 1) := by decide +kernel
theorem d_Tokens_tokenEnd_11 : decode M_Tokens_tokenEnd.2.1 11 = .ok (.invokestatic 86, 3) := by decide +kernel
theorem d_Tokens_tokenEnd_14 : decode M_Tokens_tokenEnd.2.1 14 = .ok (.ifCond .eq 39, 3) := by decide +kernel
theorem d_Tokens_tokenEnd_53 : decode M_Tokens_tokenEnd.2.1 53 = .ok (.iload_n 2, 1) := by decide +kernel
theorem d_Tokens_tokenEnd_54 : decode M_Tokens_tokenEnd.2.1 54 = .ok (.invokestatic 90, 3) := by decide +kernel
theorem d_Tokens_tokenEnd_57 : decode M_Tokens_tokenEnd.2.1 57 = .ok (.ifCond .eq 28, 3) := by decide +kernel
theorem d_Tokens_tokenEnd_85 : decode M_Tokens_tokenEnd.2.1 85 = .ok (.iload_n 2, 1) := by decide +kernel
theorem d_Tokens_tokenEnd_86 : decode M_Tokens_tokenEnd.2.1 86 = .ok (.bipush 60, 2) := by decide +kernel
theorem d_Tokens_tokenEnd_88 : decode M_Tokens_tokenEnd.2.1 88 = .ok (.if_icmp .eq 9, 3) := by decide +kernel
theorem d_Tokens_tokenEnd_91 : decode M_Tokens_tokenEnd.2.1 91 = .ok (.iload_n 2, 1) := by decide +kernel
theorem d_Tokens_tokenEnd_92 : decode M_Tokens_tokenEnd.2.1 92 = .ok (.bipush 62, 2) := by decide +kernel
theorem d_Tokens_tokenEnd_94 : decode M_Tokens_tokenEnd.2.1 94 = .ok (.if_icmp .ne 16, 3) := by decide +kernel
theorem d_Tokens_tokenEnd_97 : decode M_Tokens_tokenEnd.2.1 97 = .ok (.aload_n 0, 1) := by decide +kernel
theorem d_Tokens_tokenEnd_98 : decode M_Tokens_tokenEnd.2.1 98 = .ok (.iload_n 3, 1) := by decide +kernel
theorem d_Tokens_tokenEnd_99 : decode M_Tokens_tokenEnd.2.1 99 = .ok (.invokevirtual 82, 3) := by decide +kernel
theorem d_Tokens_tokenEnd_102 : decode M_Tokens_tokenEnd.2.1 102 = .ok (.bipush 61, 2) := by decide +kernel
theorem d_Tokens_tokenEnd_104 : decode M_Tokens_tokenEnd.2.1 104 = .ok (.if_icmp .ne 6, 3) := by decide +kernel
theorem d_Tokens_tokenEnd_107 : decode M_Tokens_tokenEnd.2.1 107 = .ok (.iinc 3 1, 3) := by decide +kernel
def s_Tokens_tokenEnd (A : TA) (x1 : Nat) : Nat := (if (s_Tokens_isLetter (s_Tape_byteAt A (nI x1))) = 0 then (if (s_Tokens_isDigit (s_Tape_byteAt A (nI x1))) = 0 then (if (s_Tape_byteAt A (nI x1)) = 60 then (if (s_Tape_byteAt A (nI (x1 + 1))) = 61 then ((x1 + 1) + 1) else (x1 + 1)) else (if (s_Tape_byteAt A (nI x1)) = 62 then (if (s_Tape_byteAt A (nI (x1 + 1))) = 61 then ((x1 + 1) + 1) else (x1 + 1)) else (x1 + 1))) else (l_Tokens_tokenEnd_60 A x1 ((ta_sz A) - (x1 + 1)) (x1 + 1))) else (l_Tokens_tokenEnd_17 A x1 ((ta_sz A) - (x1 + 1)) (x1 + 1)))
set_option maxRecDepth 100000 in
set_option maxHeartbeats 4000000 in
theorem c_Tokens_tokenEnd {Γ : G9} {h : AH} {t z : Nat} {A : TA} {x1 : Nat} {vx1 : Int32} (ex1 : vx1 = nI x1) (bx1 : x1 ≤ 2000) (hA : ta_sz A ≤ 2000) : CallR Γ M_Tokens_tokenEnd 1 [.ref t, .int vx1] (blk h t 2 (taC Γ t A)) z (some (.int (nI (s_Tokens_tokenEnd A x1)))) (blk h t 2 (taC Γ t A)) := by
  subst ex1
  refine Call.of_go (L := [some (.ref t), some (.int (nI x1)), none, none]) (by decide +kernel) rfl (by exact Nat.le_of_ble_eq_true rfl) ?_
  unfold s_Tokens_tokenEnd
  refine Go.aload_0 d_Tokens_tokenEnd_0 rfl ?_
  refine Go.iload_1 d_Tokens_tokenEnd_1 rfl ?_
  refine Go.cv1r d_Tokens_tokenEnd_2 rfl l_Tokens_82 k_Tape_byteAt_v (ta_g0) rfl (c_Tape_byteAt) rfl rfl rfl ?_
  refine Go.istore_2 d_Tokens_tokenEnd_5 rfl (by rfl) ?_
  refine Go.iload_1 d_Tokens_tokenEnd_6 rfl ?_
  refine Go.iconst (v := 1) d_Tokens_tokenEnd_7 rfl (by decide) ?_
  refine Go.iadd d_Tokens_tokenEnd_8 rfl ?_
  rw [show (nI x1) + 1 = nI (x1 + 1) from nI_add _ _]
  refine Go.istore_3 d_Tokens_tokenEnd_9 rfl (by rfl) ?_
  refine Go.iload_2 d_Tokens_tokenEnd_10 rfl ?_
  refine Go.cs1r d_Tokens_tokenEnd_11 rfl l_Tokens_86 k_Tokens_isLetter_s rfl (c_Tokens_isLetter) rfl rfl rfl ?_
  refine Go.if_eq (t := 53) d_Tokens_tokenEnd_14 (by decide) rfl (fun c14_1 => ?_) (fun c14_1 => ?_)
  · refine Go.iload_2 d_Tokens_tokenEnd_53 rfl ?_
    refine Go.cs1r d_Tokens_tokenEnd_54 rfl l_Tokens_90 k_Tokens_isDigit_s rfl (c_Tokens_isDigit) rfl rfl rfl ?_
    refine Go.if_eq (t := 85) d_Tokens_tokenEnd_57 (by decide) rfl (fun c57_2 => ?_) (fun c57_2 => ?_)
    · refine Go.iload_2 d_Tokens_tokenEnd_85 rfl ?_
      refine Go.bipush (v := 60) d_Tokens_tokenEnd_86 rfl (by decide) ?_
      refine Go.icmp_eq (t := 97) d_Tokens_tokenEnd_88 (by decide) rfl (fun c88_3 => ?_) (fun c88_3 => ?_)
      · refine Go.aload_0 d_Tokens_tokenEnd_97 rfl ?_
        refine Go.iload_3 d_Tokens_tokenEnd_98 rfl ?_
        refine Go.cv1r d_Tokens_tokenEnd_99 rfl l_Tokens_82 k_Tape_byteAt_v (ta_g0) rfl (c_Tape_byteAt) rfl rfl rfl ?_
        refine Go.bipush (v := 61) d_Tokens_tokenEnd_102 rfl (by decide) ?_
        refine Go.icmp_ne (t := 110) d_Tokens_tokenEnd_104 (by decide) rfl (fun c104_4 => ?_) (fun c104_4 => ?_)
        · refine Go.iload_3 d_Tokens_tokenEnd_110 rfl ?_
          rw [if_pos c14_1, if_pos c57_2, if_pos c88_3, if_neg c104_4]
          exact Go.iret d_Tokens_tokenEnd_111 rfl rfl ⟨rfl, rfl, rfl⟩
        · refine Go.iinc_3 d_Tokens_tokenEnd_107 rfl (by rfl) (nI_inc _) ?_
          refine Go.iload_3 d_Tokens_tokenEnd_110 rfl ?_
          rw [if_pos c14_1, if_pos c57_2, if_pos c88_3, if_pos c104_4]
          exact Go.iret d_Tokens_tokenEnd_111 rfl rfl ⟨rfl, rfl, rfl⟩
      · refine Go.iload_2 d_Tokens_tokenEnd_91 rfl ?_
        refine Go.bipush (v := 62) d_Tokens_tokenEnd_92 rfl (by decide) ?_
        refine Go.icmp_ne (t := 110) d_Tokens_tokenEnd_94 (by decide) rfl (fun c94_5 => ?_) (fun c94_5 => ?_)
        · refine Go.iload_3 d_Tokens_tokenEnd_110 rfl ?_
          rw [if_pos c14_1, if_pos c57_2, if_neg c88_3, if_neg c94_5]
          exact Go.iret d_Tokens_tokenEnd_111 rfl rfl ⟨rfl, rfl, rfl⟩
        · refine Go.aload_0 d_Tokens_tokenEnd_97 rfl ?_
          refine Go.iload_3 d_Tokens_tokenEnd_98 rfl ?_
          refine Go.cv1r d_Tokens_tokenEnd_99 rfl l_Tokens_82 k_Tape_byteAt_v (ta_g0) rfl (c_Tape_byteAt) rfl rfl rfl ?_
          refine Go.bipush (v := 61) d_Tokens_tokenEnd_102 rfl (by decide) ?_
          refine Go.icmp_ne (t := 110) d_Tokens_tokenEnd_104 (by decide) rfl (fun c104_6 => ?_) (fun c104_6 => ?_)
          · refine Go.iload_3 d_Tokens_tokenEnd_110 rfl ?_
            rw [if_pos c14_1, if_pos c57_2, if_neg c88_3, if_pos c94_5, if_neg c104_6]
            exact Go.iret d_Tokens_tokenEnd_111 rfl rfl ⟨rfl, rfl, rfl⟩
          · refine Go.iinc_3 d_Tokens_tokenEnd_107 rfl (by rfl) (nI_inc _) ?_
            refine Go.iload_3 d_Tokens_tokenEnd_110 rfl ?_
            rw [if_pos c14_1, if_pos c57_2, if_neg c88_3, if_pos c94_5, if_pos c104_6]
            exact Go.iret d_Tokens_tokenEnd_111 rfl rfl ⟨rfl, rfl, rfl⟩
    · rw [if_pos c14_1, if_neg c57_2]
      refine Go.fgt [some (.ref t), some (.int (nI x1)), none, some (.int (nI (x1 + 1)))] (by repeat' (first | exact trivial | refine ⟨rfl, ?_⟩)) ?_
      exact l_Tokens_tokenEnd_60_go (n := (ta_sz A)) bx1 hA (by omega) rfl ((ta_sz A) - (x1 + 1)) (x1 + 1) (by omega) (by omega)
  · rw [if_neg c14_1]
    refine Go.fgt [some (.ref t), some (.int (nI x1)), none, some (.int (nI (x1 + 1)))] (by repeat' (first | exact trivial | refine ⟨rfl, ?_⟩)) ?_
    exact l_Tokens_tokenEnd_17_go (n := (ta_sz A)) bx1 hA (by omega) rfl ((ta_sz A) - (x1 + 1)) (x1 + 1) (by omega) (by omega)
theorem d_Tokens_numberOf_5 : decode M_Tokens_numberOf.2.1 5 = .ok (.iload 5, 2) := by decide +kernel
theorem d_Tokens_numberOf_7 : decode M_Tokens_numberOf.2.1 7 = .ok (.iload_n 2, 1) := by decide +kernel
theorem d_Tokens_numberOf_8 : decode M_Tokens_numberOf.2.1 8 = .ok (.if_icmp .ge 27, 3) := by decide +kernel
theorem d_Tokens_numberOf_35 : decode M_Tokens_numberOf.2.1 35 = .ok (.lload_n 3, 1) := by decide +kernel
theorem d_Tokens_numberOf_36 : decode M_Tokens_numberOf.2.1 36 = .ok (.lreturn, 1) := by decide +kernel
theorem d_Tokens_numberOf_11 : decode M_Tokens_numberOf.2.1 11 = .ok (.lload_n 3, 1) := by decide +kernel
theorem d_Tokens_numberOf_12 : decode M_Tokens_numberOf.2.1 12 = .ok (.ldc2_w 126, 3) := by decide +kernel
theorem d_Tokens_numberOf_15 : decode M_Tokens_numberOf.2.1 15 = .ok (.lmul, 1) := by decide +kernel
theorem d_Tokens_numberOf_16 : decode M_Tokens_numberOf.2.1 16 = .ok (.aload_n 0, 1) := by decide +kernel
theorem d_Tokens_numberOf_17 : decode M_Tokens_numberOf.2.1 17 = .ok (.iload 5, 2) := by decide +kernel
theorem d_Tokens_numberOf_19 : decode M_Tokens_numberOf.2.1 19 = .ok (.invokevirtual 82, 3) := by decide +kernel
theorem d_Tokens_numberOf_22 : decode M_Tokens_numberOf.2.1 22 = .ok (.i2l, 1) := by decide +kernel
theorem d_Tokens_numberOf_23 : decode M_Tokens_numberOf.2.1 23 = .ok (.ladd, 1) := by decide +kernel
theorem d_Tokens_numberOf_24 : decode M_Tokens_numberOf.2.1 24 = .ok (.ldc2_w 128, 3) := by decide +kernel
theorem d_Tokens_numberOf_27 : decode M_Tokens_numberOf.2.1 27 = .ok (.lsub, 1) := by decide +kernel
theorem d_Tokens_numberOf_28 : decode M_Tokens_numberOf.2.1 28 = .ok (.lstore_n 3, 1) := by decide +kernel
theorem d_Tokens_numberOf_29 : decode M_Tokens_numberOf.2.1 29 = .ok (.iinc 5 1, 3) := by decide +kernel
theorem d_Tokens_numberOf_32 : decode M_Tokens_numberOf.2.1 32 = .ok (.goto (-27), 3) := by decide +kernel
def l_Tokens_numberOf_5 (A : TA) (x1 : Nat) (x2 : Nat) : Nat → Nat → Int64 → Int64
  | 0, i, v => v
  | k + 1, i, v => (l_Tokens_numberOf_5 A x1 x2 k (i + 1) (((v * 10) + (s_Tape_byteAt A (nI i)).toInt64) - 48))
set_option maxRecDepth 100000 in
set_option maxHeartbeats 4000000 in
theorem l_Tokens_numberOf_5_go {Γ : G9} {h : AH} {t z : Nat} {n : Nat} {A : TA} {x1 : Nat} {x2 : Nat} (bx1 : x1 ≤ x2) (bx2 : x2 ≤ 2000) (hn20 : n ≤ 2000) (hn : x2 = n) : ∀ (k i : Nat) (v : Int64), i + k = n → Go Γ M_Tokens_numberOf 1 0 0 5 [some (.ref t), some (.int (nI x1)), some (.int (nI x2)), some (.long v), none, some (.int (nI i))] [] (blk h t 2 (taC Γ t A)) z (RQ (some (.long (l_Tokens_numberOf_5 A x1 x2 k i v))) (blk h t 2 (taC Γ t A)) z) noX := by
  intro k
  induction k with
  | zero =>
    intro i v hi
    unfold l_Tokens_numberOf_5
    refine Go.iload_5 d_Tokens_numberOf_5 rfl ?_
    refine Go.iload_2 d_Tokens_numberOf_7 rfl ?_
    refine Go.icmp_ge (t := 35) d_Tokens_numberOf_8 (by decide) rfl (fun c8_1 => ?_) (fun c8_1 => ?_)
    · refine Go.lload_3 d_Tokens_numberOf_35 rfl ?_
      exact Go.lret d_Tokens_numberOf_36 rfl ⟨rfl, rfl, rfl⟩
    · exact absurd (nI_le (by omega) (by omega)) c8_1
  | succ k ih =>
    intro i v hi
    unfold l_Tokens_numberOf_5
    refine Go.iload_5 d_Tokens_numberOf_5 rfl ?_
    refine Go.iload_2 d_Tokens_numberOf_7 rfl ?_
    refine Go.icmp_ge (t := 35) d_Tokens_numberOf_8 (by decide) rfl (fun c8_1 => ?_) (fun c8_1 => ?_)
    · exact absurd c8_1 (nI_ge (by omega) (by omega))
    · refine Go.lload_3 d_Tokens_numberOf_11 rfl ?_
      refine Go.ldc2 (v := 10) d_Tokens_numberOf_12 rfl x_Tokens_126 ?_
      refine Go.lmul d_Tokens_numberOf_15 rfl ?_
      refine Go.aload_0 d_Tokens_numberOf_16 rfl ?_
      refine Go.iload_5 d_Tokens_numberOf_17 rfl ?_
      refine Go.cv1r d_Tokens_numberOf_19 rfl l_Tokens_82 k_Tape_byteAt_v (ta_g0) rfl (c_Tape_byteAt) rfl rfl rfl ?_
      refine Go.i2l d_Tokens_numberOf_22 rfl ?_
      refine Go.ladd d_Tokens_numberOf_23 rfl ?_
      refine Go.ldc2 (v := 48) d_Tokens_numberOf_24 rfl x_Tokens_128 ?_
      refine Go.lsub d_Tokens_numberOf_27 rfl ?_
      refine Go.lstore_3 d_Tokens_numberOf_28 rfl (by rfl) ?_
      refine Go.iinc_5 d_Tokens_numberOf_29 rfl (by rfl) (nI_inc _) ?_
      refine Go.goto (t := 5) d_Tokens_numberOf_32 (by decide) ?_
      exact ih (i + 1) _ (by omega)
theorem d_Tokens_numberOf_0 : decode M_Tokens_numberOf.2.1 0 = .ok (.lconst 0, 1) := by decide +kernel
theorem d_Tokens_numberOf_1 : decode M_Tokens_numberOf.2.1 1 = .ok (.lstore_n 3, 1) := by decide +kernel
theorem d_Tokens_numberOf_2 : decode M_Tokens_numberOf.2.1 2 = .ok (.iload_n 1, 1) := by decide +kernel
theorem d_Tokens_numberOf_3 : decode M_Tokens_numberOf.2.1 3 = .ok (.istore 5, 2) := by decide +kernel
def s_Tokens_numberOf (A : TA) (x1 : Nat) (x2 : Nat) : Int64 := (l_Tokens_numberOf_5 A x1 x2 ((x2) - x1) x1 0)
set_option maxRecDepth 100000 in
set_option maxHeartbeats 4000000 in
theorem c_Tokens_numberOf {Γ : G9} {h : AH} {t z : Nat} {A : TA} {x1 : Nat} {vx1 : Int32} {x2 : Nat} {vx2 : Int32} (ex1 : vx1 = nI x1) (bx1 : x1 ≤ x2) (ex2 : vx2 = nI x2) (bx2 : x2 ≤ 2000) : CallR Γ M_Tokens_numberOf 1 [.ref t, .int vx1, .int vx2] (blk h t 2 (taC Γ t A)) z (some (.long (s_Tokens_numberOf A x1 x2))) (blk h t 2 (taC Γ t A)) := by
  subst ex1
  subst ex2
  refine Call.of_go (L := [some (.ref t), some (.int (nI x1)), some (.int (nI x2)), none, none, none]) (by decide +kernel) rfl (by exact Nat.le_of_ble_eq_true rfl) ?_
  unfold s_Tokens_numberOf
  refine Go.lconst (v := 0) d_Tokens_numberOf_0 rfl (by decide) ?_
  refine Go.lstore_3 d_Tokens_numberOf_1 rfl (by rfl) ?_
  refine Go.iload_1 d_Tokens_numberOf_2 rfl ?_
  refine Go.istore_5 d_Tokens_numberOf_3 rfl (by rfl) ?_
  exact l_Tokens_numberOf_5_go (n := (x2)) bx1 bx2 (by omega) rfl ((x2) - x1) x1 0 (by omega)
theorem d_Tokens_nameOf_5 : decode M_Tokens_nameOf.2.1 5 = .ok (.iload 5, 2) := by decide +kernel
theorem d_Tokens_nameOf_7 : decode M_Tokens_nameOf.2.1 7 = .ok (.iload_n 2, 1) := by decide +kernel
theorem d_Tokens_nameOf_8 : decode M_Tokens_nameOf.2.1 8 = .ok (.if_icmp .ge 51, 3) := by decide +kernel
theorem d_Tokens_nameOf_59 : decode M_Tokens_nameOf.2.1 59 = .ok (.lload_n 3, 1) := by decide +kernel
theorem d_Tokens_nameOf_60 : decode M_Tokens_nameOf.2.1 60 = .ok (.lreturn, 1) := by decide +kernel
theorem d_Tokens_nameOf_11 : decode M_Tokens_nameOf.2.1 11 = .ok (.aload_n 0, 1) := by decide +kernel
theorem d_Tokens_nameOf_12 : decode M_Tokens_nameOf.2.1 12 = .ok (.iload 5, 2) := by decide +kernel
theorem d_Tokens_nameOf_14 : decode M_Tokens_nameOf.2.1 14 = .ok (.invokevirtual 82, 3) := by decide +kernel
theorem d_Tokens_nameOf_17 : decode M_Tokens_nameOf.2.1 17 = .ok (.istore 6, 2) := by decide +kernel
theorem d_Tokens_nameOf_19 : decode M_Tokens_nameOf.2.1 19 = .ok (.lload_n 3, 1) := by decide +kernel
theorem d_Tokens_nameOf_20 : decode M_Tokens_nameOf.2.1 20 = .ok (.ldc2_w 130, 3) := by decide +kernel
theorem d_Tokens_nameOf_23 : decode M_Tokens_nameOf.2.1 23 = .ok (.lmul, 1) := by decide +kernel
theorem d_Tokens_nameOf_24 : decode M_Tokens_nameOf.2.1 24 = .ok (.iload 6, 2) := by decide +kernel
theorem d_Tokens_nameOf_26 : decode M_Tokens_nameOf.2.1 26 = .ok (.invokestatic 90, 3) := by decide +kernel
theorem d_Tokens_nameOf_29 : decode M_Tokens_nameOf.2.1 29 = .ok (.ifCond .eq 14, 3) := by decide +kernel
theorem d_Tokens_nameOf_32 : decode M_Tokens_nameOf.2.1 32 = .ok (.iload 6, 2) := by decide +kernel
theorem d_Tokens_nameOf_34 : decode M_Tokens_nameOf.2.1 34 = .ok (.bipush 48, 2) := by decide +kernel
theorem d_Tokens_nameOf_36 : decode M_Tokens_nameOf.2.1 36 = .ok (.isub, 1) := by decide +kernel
theorem d_Tokens_nameOf_37 : decode M_Tokens_nameOf.2.1 37 = .ok (.bipush 27, 2) := by decide +kernel
theorem d_Tokens_nameOf_39 : decode M_Tokens_nameOf.2.1 39 = .ok (.iadd, 1) := by decide +kernel
theorem d_Tokens_nameOf_40 : decode M_Tokens_nameOf.2.1 40 = .ok (.goto 10, 3) := by decide +kernel
theorem d_Tokens_nameOf_43 : decode M_Tokens_nameOf.2.1 43 = .ok (.iload 6, 2) := by decide +kernel
theorem d_Tokens_nameOf_45 : decode M_Tokens_nameOf.2.1 45 = .ok (.bipush 97, 2) := by decide +kernel
theorem d_Tokens_nameOf_47 : decode M_Tokens_nameOf.2.1 47 = .ok (.isub, 1) := by decide +kernel
theorem d_Tokens_nameOf_48 : decode M_Tokens_nameOf.2.1 48 = .ok (.iconst 1, 1) := by decide +kernel
theorem d_Tokens_nameOf_49 : decode M_Tokens_nameOf.2.1 49 = .ok (.iadd, 1) := by decide +kernel
theorem d_Tokens_nameOf_50 : decode M_Tokens_nameOf.2.1 50 = .ok (.i2l, 1) := by decide +kernel
theorem d_Tokens_nameOf_51 : decode M_Tokens_nameOf.2.1 51 = .ok (.ladd, 1) := by decide +kernel
theorem d_Tokens_nameOf_52 : decode M_Tokens_nameOf.2.1 52 = .ok (.lstore_n 3, 1) := by decide +kernel
theorem d_Tokens_nameOf_53 : decode M_Tokens_nameOf.2.1 53 = .ok (.iinc 5 1, 3) := by decide +kernel
theorem d_Tokens_nameOf_56 : decode M_Tokens_nameOf.2.1 56 = .ok (.goto (-51), 3) := by decide +kernel
def l_Tokens_nameOf_5 (A : TA) (x1 : Nat) (x2 : Nat) : Nat → Nat → Int64 → Int64
  | 0, i, v => v
  | k + 1, i, v => (if (s_Tokens_isDigit (s_Tape_byteAt A (nI i))) = 0 then (l_Tokens_nameOf_5 A x1 x2 k (i + 1) ((v * 37) + (((s_Tape_byteAt A (nI i)) - 97) + 1).toInt64)) else (l_Tokens_nameOf_5 A x1 x2 k (i + 1) ((v * 37) + (((s_Tape_byteAt A (nI i)) - 48) + 27).toInt64)))
set_option maxRecDepth 100000 in
set_option maxHeartbeats 4000000 in
theorem l_Tokens_nameOf_5_go {Γ : G9} {h : AH} {t z : Nat} {n : Nat} {A : TA} {x1 : Nat} {x2 : Nat} (bx1 : x1 ≤ x2) (bx2 : x2 ≤ 2000) (hn20 : n ≤ 2000) (hn : x2 = n) : ∀ (k i : Nat) (v : Int64), i + k = n → Go Γ M_Tokens_nameOf 1 0 0 5 [some (.ref t), some (.int (nI x1)), some (.int (nI x2)), some (.long v), none, some (.int (nI i)), none] [] (blk h t 2 (taC Γ t A)) z (RQ (some (.long (l_Tokens_nameOf_5 A x1 x2 k i v))) (blk h t 2 (taC Γ t A)) z) noX := by
  intro k
  induction k with
  | zero =>
    intro i v hi
    unfold l_Tokens_nameOf_5
    refine Go.iload_5 d_Tokens_nameOf_5 rfl ?_
    refine Go.iload_2 d_Tokens_nameOf_7 rfl ?_
    refine Go.icmp_ge (t := 59) d_Tokens_nameOf_8 (by decide) rfl (fun c8_1 => ?_) (fun c8_1 => ?_)
    · refine Go.lload_3 d_Tokens_nameOf_59 rfl ?_
      exact Go.lret d_Tokens_nameOf_60 rfl ⟨rfl, rfl, rfl⟩
    · exact absurd (nI_le (by omega) (by omega)) c8_1
  | succ k ih =>
    intro i v hi
    unfold l_Tokens_nameOf_5
    refine Go.iload_5 d_Tokens_nameOf_5 rfl ?_
    refine Go.iload_2 d_Tokens_nameOf_7 rfl ?_
    refine Go.icmp_ge (t := 59) d_Tokens_nameOf_8 (by decide) rfl (fun c8_1 => ?_) (fun c8_1 => ?_)
    · exact absurd c8_1 (nI_ge (by omega) (by omega))
    · refine Go.aload_0 d_Tokens_nameOf_11 rfl ?_
      refine Go.iload_5 d_Tokens_nameOf_12 rfl ?_
      refine Go.cv1r d_Tokens_nameOf_14 rfl l_Tokens_82 k_Tape_byteAt_v (ta_g0) rfl (c_Tape_byteAt) rfl rfl rfl ?_
      refine Go.istore_6 d_Tokens_nameOf_17 rfl (by rfl) ?_
      refine Go.lload_3 d_Tokens_nameOf_19 rfl ?_
      refine Go.ldc2 (v := 37) d_Tokens_nameOf_20 rfl x_Tokens_130 ?_
      refine Go.lmul d_Tokens_nameOf_23 rfl ?_
      refine Go.iload_6 d_Tokens_nameOf_24 rfl ?_
      refine Go.cs1r d_Tokens_nameOf_26 rfl l_Tokens_90 k_Tokens_isDigit_s rfl (c_Tokens_isDigit) rfl rfl rfl ?_
      refine Go.if_eq (t := 43) d_Tokens_nameOf_29 (by decide) rfl (fun c29_2 => ?_) (fun c29_2 => ?_)
      · refine Go.iload_6 d_Tokens_nameOf_43 rfl ?_
        refine Go.bipush (v := 97) d_Tokens_nameOf_45 rfl (by decide) ?_
        refine Go.isub d_Tokens_nameOf_47 rfl ?_
        refine Go.iconst (v := 1) d_Tokens_nameOf_48 rfl (by decide) ?_
        refine Go.iadd d_Tokens_nameOf_49 rfl ?_
        refine Go.i2l d_Tokens_nameOf_50 rfl ?_
        refine Go.ladd d_Tokens_nameOf_51 rfl ?_
        refine Go.lstore_3 d_Tokens_nameOf_52 rfl (by rfl) ?_
        refine Go.iinc_5 d_Tokens_nameOf_53 rfl (by rfl) (nI_inc _) ?_
        refine Go.goto (t := 5) d_Tokens_nameOf_56 (by decide) ?_
        rw [if_pos c29_2]
        refine Go.fgt [some (.ref t), some (.int (nI x1)), some (.int (nI x2)), some (.long ((v * 37) + (((s_Tape_byteAt A (nI i)) - 97) + 1).toInt64)), none, some (.int (nI (i + 1))), none] (by repeat' (first | exact trivial | refine ⟨rfl, ?_⟩)) ?_
        exact ih (i + 1) _ (by omega)
      · refine Go.iload_6 d_Tokens_nameOf_32 rfl ?_
        refine Go.bipush (v := 48) d_Tokens_nameOf_34 rfl (by decide) ?_
        refine Go.isub d_Tokens_nameOf_36 rfl ?_
        refine Go.bipush (v := 27) d_Tokens_nameOf_37 rfl (by decide) ?_
        refine Go.iadd d_Tokens_nameOf_39 rfl ?_
        refine Go.goto (t := 50) d_Tokens_nameOf_40 (by decide) ?_
        refine Go.i2l d_Tokens_nameOf_50 rfl ?_
        refine Go.ladd d_Tokens_nameOf_51 rfl ?_
        refine Go.lstore_3 d_Tokens_nameOf_52 rfl (by rfl) ?_
        refine Go.iinc_5 d_Tokens_nameOf_53 rfl (by rfl) (nI_inc _) ?_
        refine Go.goto (t := 5) d_Tokens_nameOf_56 (by decide) ?_
        rw [if_neg c29_2]
        refine Go.fgt [some (.ref t), some (.int (nI x1)), some (.int (nI x2)), some (.long ((v * 37) + (((s_Tape_byteAt A (nI i)) - 48) + 27).toInt64)), none, some (.int (nI (i + 1))), none] (by repeat' (first | exact trivial | refine ⟨rfl, ?_⟩)) ?_
        exact ih (i + 1) _ (by omega)
theorem d_Tokens_nameOf_0 : decode M_Tokens_nameOf.2.1 0 = .ok (.lconst 0, 1) := by decide +kernel
theorem d_Tokens_nameOf_1 : decode M_Tokens_nameOf.2.1 1 = .ok (.lstore_n 3, 1) := by decide +kernel
theorem d_Tokens_nameOf_2 : decode M_Tokens_nameOf.2.1 2 = .ok (.iload_n 1, 1) := by decide +kernel
theorem d_Tokens_nameOf_3 : decode M_Tokens_nameOf.2.1 3 = .ok (.istore 5, 2) := by decide +kernel
def s_Tokens_nameOf (A : TA) (x1 : Nat) (x2 : Nat) : Int64 := (l_Tokens_nameOf_5 A x1 x2 ((x2) - x1) x1 0)
set_option maxRecDepth 100000 in
set_option maxHeartbeats 4000000 in
theorem c_Tokens_nameOf {Γ : G9} {h : AH} {t z : Nat} {A : TA} {x1 : Nat} {vx1 : Int32} {x2 : Nat} {vx2 : Int32} (ex1 : vx1 = nI x1) (bx1 : x1 ≤ x2) (ex2 : vx2 = nI x2) (bx2 : x2 ≤ 2000) : CallR Γ M_Tokens_nameOf 1 [.ref t, .int vx1, .int vx2] (blk h t 2 (taC Γ t A)) z (some (.long (s_Tokens_nameOf A x1 x2))) (blk h t 2 (taC Γ t A)) := by
  subst ex1
  subst ex2
  refine Call.of_go (L := [some (.ref t), some (.int (nI x1)), some (.int (nI x2)), none, none, none, none]) (by decide +kernel) rfl (by exact Nat.le_of_ble_eq_true rfl) ?_
  unfold s_Tokens_nameOf
  refine Go.lconst (v := 0) d_Tokens_nameOf_0 rfl (by decide) ?_
  refine Go.lstore_3 d_Tokens_nameOf_1 rfl (by rfl) ?_
  refine Go.iload_1 d_Tokens_nameOf_2 rfl ?_
  refine Go.istore_5 d_Tokens_nameOf_3 rfl (by rfl) ?_
  exact l_Tokens_nameOf_5_go (n := (x2)) bx1 bx2 (by omega) rfl ((x2) - x1) x1 0 (by omega)
theorem d_Tokens_reads_15 : decode M_Tokens_reads.2.1 15 = .ok (.iload 4, 2) := by decide +kernel
theorem d_Tokens_reads_17 : decode M_Tokens_reads.2.1 17 = .ok (.aload_n 3, 1) := by decide +kernel
theorem d_Tokens_reads_18 : decode M_Tokens_reads.2.1 18 = .ok (.invokevirtual 110, 3) := by decide +kernel
theorem d_Tokens_reads_21 : decode M_Tokens_reads.2.1 21 = .ok (.if_icmp .ge 28, 3) := by decide +kernel
theorem d_Tokens_reads_49 : decode M_Tokens_reads.2.1 49 = .ok (.iconst 1, 1) := by decide +kernel
theorem d_Tokens_reads_50 : decode M_Tokens_reads.2.1 50 = .ok (.ireturn, 1) := by decide +kernel
theorem d_Tokens_reads_24 : decode M_Tokens_reads.2.1 24 = .ok (.aload_n 3, 1) := by decide +kernel
theorem d_Tokens_reads_25 : decode M_Tokens_reads.2.1 25 = .ok (.iload 4, 2) := by decide +kernel
theorem d_Tokens_reads_27 : decode M_Tokens_reads.2.1 27 = .ok (.invokevirtual 115, 3) := by decide +kernel
theorem d_Tokens_reads_30 : decode M_Tokens_reads.2.1 30 = .ok (.aload_n 0, 1) := by decide +kernel
theorem d_Tokens_reads_31 : decode M_Tokens_reads.2.1 31 = .ok (.iload_n 1, 1) := by decide +kernel
theorem d_Tokens_reads_32 : decode M_Tokens_reads.2.1 32 = .ok (.iload 4, 2) := by decide +kernel
theorem d_Tokens_reads_34 : decode M_Tokens_reads.2.1 34 = .ok (.iadd, 1) := by decide +kernel
theorem d_Tokens_reads_35 : decode M_Tokens_reads.2.1 35 = .ok (.invokevirtual 82, 3) := by decide +kernel
theorem d_Tokens_reads_38 : decode M_Tokens_reads.2.1 38 = .ok (.if_icmp .eq 5, 3) := by decide +kernel
theorem d_Tokens_reads_41 : decode M_Tokens_reads.2.1 41 = .ok (.iconst 0, 1) := by decide +kernel
theorem d_Tokens_reads_42 : decode M_Tokens_reads.2.1 42 = .ok (.ireturn, 1) := by decide +kernel
theorem d_Tokens_reads_43 : decode M_Tokens_reads.2.1 43 = .ok (.iinc 4 1, 3) := by decide +kernel
theorem d_Tokens_reads_46 : decode M_Tokens_reads.2.1 46 = .ok (.goto (-31), 3) := by decide +kernel
def l_Tokens_reads_15 (A : TA) (x1 : Nat) (x2 : Nat) (x3 : List Int32) : Nat → Nat → Int32
  | 0, i => 1
  | k + 1, i => (if (chr x3 i) = (s_Tape_byteAt A (nI (x1 + i))) then (l_Tokens_reads_15 A x1 x2 x3 k (i + 1)) else 0)
set_option maxRecDepth 100000 in
set_option maxHeartbeats 4000000 in
theorem l_Tokens_reads_15_go {Γ : G9} {h : AH} {t z : Nat} {n : Nat} {A : TA} {x1 : Nat} {x2 : Nat} {x3 : List Int32} {ax3 : Nat} (hx3 : StOk Γ ax3 x3) (bx1 : x1 ≤ 2000) (bx2 : x2 ≤ 2000) (hcs : CsOk Γ) (hn20 : n ≤ 20) (hn : x3.length = n) : ∀ (k i : Nat), i + k = n → Go Γ M_Tokens_reads 4 0 0 15 [some (.ref t), some (.int (nI x1)), some (.int (nI x2)), some (.ref ax3), some (.int (nI i))] [] (blk h t 2 (taC Γ t A)) z (RQ (some (.int (l_Tokens_reads_15 A x1 x2 x3 k i))) (blk h t 2 (taC Γ t A)) z) noX := by
  intro k
  induction k with
  | zero =>
    intro i hi
    unfold l_Tokens_reads_15
    refine Go.iload_4 d_Tokens_reads_15 rfl ?_
    refine Go.aload_3 d_Tokens_reads_17 rfl ?_
    refine Go.callO (as := []) d_Tokens_reads_18 rfl l_Tokens_110 k_String_length_v rfl hx3.2.1 rfl (c_String_length hcs hx3) rfl rfl rfl ?_
    refine Go.icmp_ge (t := 49) d_Tokens_reads_21 (by decide) rfl (fun c21_1 => ?_) (fun c21_1 => ?_)
    · refine Go.iconst (v := 1) d_Tokens_reads_49 rfl (by decide) ?_
      exact Go.iret d_Tokens_reads_50 rfl rfl ⟨rfl, rfl, rfl⟩
    · exact absurd (nI_le (by omega) (by omega)) c21_1
  | succ k ih =>
    intro i hi
    unfold l_Tokens_reads_15
    refine Go.iload_4 d_Tokens_reads_15 rfl ?_
    refine Go.aload_3 d_Tokens_reads_17 rfl ?_
    refine Go.callO (as := []) d_Tokens_reads_18 rfl l_Tokens_110 k_String_length_v rfl hx3.2.1 rfl (c_String_length hcs hx3) rfl rfl rfl ?_
    refine Go.icmp_ge (t := 49) d_Tokens_reads_21 (by decide) rfl (fun c21_1 => ?_) (fun c21_1 => ?_)
    · exact absurd c21_1 (nI_ge (by omega) (by omega))
    · refine Go.aload_3 d_Tokens_reads_24 rfl ?_
      refine Go.iload_4 d_Tokens_reads_25 rfl ?_
      refine Go.callO (as := [.int (nI i)]) d_Tokens_reads_27 rfl l_Tokens_115 k_String_charAt_v rfl hx3.2.1 rfl (c_String_charAt hcs hx3 (by omega)) rfl rfl rfl ?_
      refine Go.aload_0 d_Tokens_reads_30 rfl ?_
      refine Go.iload_1 d_Tokens_reads_31 rfl ?_
      refine Go.iload_4 d_Tokens_reads_32 rfl ?_
      refine Go.iadd d_Tokens_reads_34 rfl ?_
      rw [show (nI x1) + (nI i) = nI (x1 + i) from nI_add _ _]
      refine Go.cv1r d_Tokens_reads_35 rfl l_Tokens_82 k_Tape_byteAt_v (ta_g0) rfl (c_Tape_byteAt) rfl rfl rfl ?_
      refine Go.icmp_eq (t := 43) d_Tokens_reads_38 (by decide) rfl (fun c38_2 => ?_) (fun c38_2 => ?_)
      · refine Go.iinc_4 d_Tokens_reads_43 rfl (by rfl) (nI_inc _) ?_
        refine Go.goto (t := 15) d_Tokens_reads_46 (by decide) ?_
        rw [if_pos c38_2]
        exact ih (i + 1) (by omega)
      · refine Go.iconst (v := 0) d_Tokens_reads_41 rfl (by decide) ?_
        rw [if_neg c38_2]
        exact Go.iret d_Tokens_reads_42 rfl rfl ⟨rfl, rfl, rfl⟩
theorem d_Tokens_reads_0 : decode M_Tokens_reads.2.1 0 = .ok (.aload_n 3, 1) := by decide +kernel
theorem d_Tokens_reads_1 : decode M_Tokens_reads.2.1 1 = .ok (.invokevirtual 110, 3) := by decide +kernel
theorem d_Tokens_reads_4 : decode M_Tokens_reads.2.1 4 = .ok (.iload_n 2, 1) := by decide +kernel
theorem d_Tokens_reads_5 : decode M_Tokens_reads.2.1 5 = .ok (.iload_n 1, 1) := by decide +kernel
theorem d_Tokens_reads_6 : decode M_Tokens_reads.2.1 6 = .ok (.isub, 1) := by decide +kernel
theorem d_Tokens_reads_7 : decode M_Tokens_reads.2.1 7 = .ok (.if_icmp .eq 5, 3) := by decide +kernel
theorem d_Tokens_reads_10 : decode M_Tokens_reads.2.1 10 = .ok (.iconst 0, 1) := by decide +kernel
theorem d_Tokens_reads_11 : decode M_Tokens_reads.2.1 11 = .ok (.ireturn, 1) := by decide +kernel
theorem d_Tokens_reads_12 : decode M_Tokens_reads.2.1 12 = .ok (.iconst 0, 1) := by decide +kernel
theorem d_Tokens_reads_13 : decode M_Tokens_reads.2.1 13 = .ok (.istore 4, 2) := by decide +kernel
def s_Tokens_reads (A : TA) (x1 : Nat) (x2 : Nat) (x3 : List Int32) : Int32 := (if (nI x3.length) = ((nI x2) - (nI x1)) then (l_Tokens_reads_15 A x1 x2 x3 (x3.length) 0) else 0)
set_option maxRecDepth 100000 in
set_option maxHeartbeats 4000000 in
theorem c_Tokens_reads {Γ : G9} {h : AH} {t z : Nat} {A : TA} {x1 : Nat} {vx1 : Int32} {x2 : Nat} {vx2 : Int32} {x3 : List Int32} {ax3 : Nat} (ex1 : vx1 = nI x1) (bx1 : x1 ≤ 2000) (ex2 : vx2 = nI x2) (bx2 : x2 ≤ 2000) (hx3 : StOk Γ ax3 x3) (hcs : CsOk Γ) : CallR Γ M_Tokens_reads 4 [.ref t, .int vx1, .int vx2, .ref ax3] (blk h t 2 (taC Γ t A)) z (some (.int (s_Tokens_reads A x1 x2 x3))) (blk h t 2 (taC Γ t A)) := by
  subst ex1
  subst ex2
  refine Call.of_go (L := [some (.ref t), some (.int (nI x1)), some (.int (nI x2)), some (.ref ax3), none]) (by decide +kernel) rfl (by exact Nat.le_of_ble_eq_true rfl) ?_
  unfold s_Tokens_reads
  refine Go.aload_3 d_Tokens_reads_0 rfl ?_
  refine Go.callO (as := []) d_Tokens_reads_1 rfl l_Tokens_110 k_String_length_v rfl hx3.2.1 rfl (c_String_length hcs hx3) rfl rfl rfl ?_
  refine Go.iload_2 d_Tokens_reads_4 rfl ?_
  refine Go.iload_1 d_Tokens_reads_5 rfl ?_
  refine Go.isub d_Tokens_reads_6 rfl ?_
  refine Go.icmp_eq (t := 12) d_Tokens_reads_7 (by decide) rfl (fun c7_1 => ?_) (fun c7_1 => ?_)
  · refine Go.iconst (v := 0) d_Tokens_reads_12 rfl (by decide) ?_
    refine Go.istore_4 d_Tokens_reads_13 rfl (by rfl) ?_
    rw [if_pos c7_1]
    exact l_Tokens_reads_15_go (n := (x3.length)) hx3 bx1 bx2 hcs hx3.1 rfl (x3.length) 0 (by omega)
  · refine Go.iconst (v := 0) d_Tokens_reads_10 rfl (by decide) ?_
    rw [if_neg c7_1]
    exact Go.iret d_Tokens_reads_11 rfl rfl ⟨rfl, rfl, rfl⟩
theorem d_Tokens_signOf_67 : decode M_Tokens_signOf.2.1 67 = .ok (.iload 6, 2) := by decide +kernel
theorem d_Tokens_signOf_69 : decode M_Tokens_signOf.2.1 69 = .ok (.iload 5, 2) := by decide +kernel
theorem d_Tokens_signOf_71 : decode M_Tokens_signOf.2.1 71 = .ok (.if_icmp .ge 33, 3) := by decide +kernel
theorem d_Tokens_signOf_104 : decode M_Tokens_signOf.2.1 104 = .ok (.iload_n 3, 1) := by decide +kernel
theorem d_Tokens_signOf_105 : decode M_Tokens_signOf.2.1 105 = .ok (.ifCond .eq 9, 3) := by decide +kernel
theorem d_Tokens_signOf_108 : decode M_Tokens_signOf.2.1 108 = .ok (.getstatic 107, 3) := by decide +kernel
theorem d_Tokens_signOf_111 : decode M_Tokens_signOf.2.1 111 = .ok (.goto 6, 3) := by decide +kernel
theorem d_Tokens_signOf_114 : decode M_Tokens_signOf.2.1 114 = .ok (.getstatic 63, 3) := by decide +kernel
theorem d_Tokens_signOf_117 : decode M_Tokens_signOf.2.1 117 = .ok (.areturn, 1) := by decide +kernel
theorem d_Tokens_signOf_74 : decode M_Tokens_signOf.2.1 74 = .ok (.aload 4, 2) := by decide +kernel
theorem d_Tokens_signOf_76 : decode M_Tokens_signOf.2.1 76 = .ok (.iload 6, 2) := by decide +kernel
theorem d_Tokens_signOf_78 : decode M_Tokens_signOf.2.1 78 = .ok (.aaload, 1) := by decide +kernel
theorem d_Tokens_signOf_79 : decode M_Tokens_signOf.2.1 79 = .ok (.astore 7, 2) := by decide +kernel
theorem d_Tokens_signOf_81 : decode M_Tokens_signOf.2.1 81 = .ok (.aload_n 0, 1) := by decide +kernel
theorem d_Tokens_signOf_82 : decode M_Tokens_signOf.2.1 82 = .ok (.iload_n 1, 1) := by decide +kernel
theorem d_Tokens_signOf_83 : decode M_Tokens_signOf.2.1 83 = .ok (.iload_n 2, 1) := by decide +kernel
theorem d_Tokens_signOf_84 : decode M_Tokens_signOf.2.1 84 = .ok (.aload 7, 2) := by decide +kernel
theorem d_Tokens_signOf_86 : decode M_Tokens_signOf.2.1 86 = .ok (.getfield 99, 3) := by decide +kernel
theorem d_Tokens_signOf_89 : decode M_Tokens_signOf.2.1 89 = .ok (.invokestatic 103, 3) := by decide +kernel
theorem d_Tokens_signOf_92 : decode M_Tokens_signOf.2.1 92 = .ok (.ifCond .eq 6, 3) := by decide +kernel
theorem d_Tokens_signOf_95 : decode M_Tokens_signOf.2.1 95 = .ok (.aload 7, 2) := by decide +kernel
theorem d_Tokens_signOf_97 : decode M_Tokens_signOf.2.1 97 = .ok (.areturn, 1) := by decide +kernel
theorem d_Tokens_signOf_98 : decode M_Tokens_signOf.2.1 98 = .ok (.iinc 6 1, 3) := by decide +kernel
theorem d_Tokens_signOf_101 : decode M_Tokens_signOf.2.1 101 = .ok (.goto (-34), 3) := by decide +kernel
def l_Tokens_signOf_67 (A : TA) (x1 : Nat) (x2 : Nat) (wd : Int32) : Nat → Nat → Fin 54
  | 0, i => (if wd = 0 then (53 : Fin 54) else (50 : Fin 54))
  | k + 1, i => (if (s_Tokens_reads A x1 x2 (sgX (fin54 i).val)) = 0 then (l_Tokens_signOf_67 A x1 x2 wd k (i + 1)) else (fin54 i))
set_option maxRecDepth 100000 in
set_option maxHeartbeats 4000000 in
theorem l_Tokens_signOf_67_go {Γ : G9} {sg tx : Nat → Nat} {sa : Nat} {h : AH} {t z : Nat} {n : Nat} {A : TA} {x1 : Nat} {x2 : Nat} {wd : Int32} (bx1 : x1 ≤ 2000) (bx2 : x2 ≤ 2000) (hs : SgOk Γ sg) (hcs : CsOk Γ) (htx : TxOk Γ sg tx) (hsa : SaOk Γ sg sa) (hn20 : n ≤ 54) (hn : 54 = n) : ∀ (k i : Nat), i + k = n → Go Γ M_Tokens_signOf 5 0 0 67 [some (.ref t), some (.int (nI x1)), some (.int (nI x2)), some (.int wd), some (.ref sa), some (.int (nI 54)), some (.int (nI i)), none] [] (blk h t 2 (taC Γ t A)) z (RQ (some (.ref (sg (l_Tokens_signOf_67 A x1 x2 wd k i).val))) (blk h t 2 (taC Γ t A)) z) noX := by
  intro k
  induction k with
  | zero =>
    intro i hi
    unfold l_Tokens_signOf_67
    refine Go.iload_6 d_Tokens_signOf_67 rfl ?_
    refine Go.iload_5 d_Tokens_signOf_69 rfl ?_
    refine Go.icmp_ge (t := 104) d_Tokens_signOf_71 (by decide) rfl (fun c71_1 => ?_) (fun c71_1 => ?_)
    · refine Go.iload_3 d_Tokens_signOf_104 rfl ?_
      refine Go.if_eq (t := 114) d_Tokens_signOf_105 (by decide) rfl (fun c105_2 => ?_) (fun c105_2 => ?_)
      · refine Go.gets d_Tokens_signOf_114 rfl x_Tokens_63 (hs.z (i := 53) rfl) ?_
        rw [if_pos c105_2]
        exact Go.aret d_Tokens_signOf_117 rfl ⟨rfl, rfl, rfl⟩
      · refine Go.gets d_Tokens_signOf_108 rfl x_Tokens_107 (hs.z (i := 50) rfl) ?_
        refine Go.goto (t := 117) d_Tokens_signOf_111 (by decide) ?_
        rw [if_neg c105_2]
        exact Go.aret d_Tokens_signOf_117 rfl ⟨rfl, rfl, rfl⟩
    · exact absurd (show nI 54 ≤ nI i from nI_le (by omega) (by omega)) c71_1
  | succ k ih =>
    intro i hi
    unfold l_Tokens_signOf_67
    refine Go.iload_6 d_Tokens_signOf_67 rfl ?_
    refine Go.iload_5 d_Tokens_signOf_69 rfl ?_
    refine Go.icmp_ge (t := 104) d_Tokens_signOf_71 (by decide) rfl (fun c71_1 => ?_) (fun c71_1 => ?_)
    · exact absurd c71_1 (show ¬ nI 54 ≤ nI i from nI_ge (by omega) (by omega))
    · refine Go.aload_4 d_Tokens_signOf_74 rfl ?_
      refine Go.iload_6 d_Tokens_signOf_76 rfl ?_
      refine Go.aaloadS d_Tokens_signOf_78 rfl hsa.2 (vp_in_nI (by omega) (by omega)) ?_
      rw [nI_clamp (show i < 2 ^ 31 by omega), show sg i = sg (fin54 i).val from by rw [← fin54_val (by omega)]]
      refine Go.astore_7 d_Tokens_signOf_79 rfl (by rfl) ?_
      refine Go.aload_0 d_Tokens_signOf_81 rfl ?_
      refine Go.iload_1 d_Tokens_signOf_82 rfl ?_
      refine Go.iload_2 d_Tokens_signOf_83 rfl ?_
      refine Go.aload_7 d_Tokens_signOf_84 rfl ?_
      refine Go.getfSN d_Tokens_signOf_86 rfl x_Tokens_99 (htx _ ((fin54 i)).isLt).1 ?_
      refine Go.cs4r d_Tokens_signOf_89 rfl l_Tokens_103 k_Tokens_reads_s rfl (c_Tokens_reads (x1 := x1) (x2 := x2) rfl (by omega) rfl (by omega) (htx _ ((fin54 i)).isLt).2 hcs) rfl rfl rfl ?_
      refine Go.if_eq (t := 98) d_Tokens_signOf_92 (by decide) rfl (fun c92_2 => ?_) (fun c92_2 => ?_)
      · refine Go.iinc_6 d_Tokens_signOf_98 rfl (by rfl) (nI_inc _) ?_
        refine Go.goto (t := 67) d_Tokens_signOf_101 (by decide) ?_
        rw [if_pos c92_2]
        refine Go.fgt [some (.ref t), some (.int (nI x1)), some (.int (nI x2)), some (.int wd), some (.ref sa), some (.int (nI 54)), some (.int (nI (i + 1))), none] (by repeat' (first | exact trivial | refine ⟨rfl, ?_⟩)) ?_
        exact ih (i + 1) (by omega)
      · refine Go.aload_7 d_Tokens_signOf_95 rfl ?_
        rw [if_neg c92_2]
        exact Go.aret d_Tokens_signOf_97 rfl ⟨rfl, rfl, rfl⟩
theorem d_Tokens_signOf_0 : decode M_Tokens_signOf.2.1 0 = .ok (.aload_n 0, 1) := by decide +kernel
theorem d_Tokens_signOf_1 : decode M_Tokens_signOf.2.1 1 = .ok (.iload_n 1, 1) := by decide +kernel
theorem d_Tokens_signOf_2 : decode M_Tokens_signOf.2.1 2 = .ok (.invokevirtual 82, 3) := by decide +kernel
theorem d_Tokens_signOf_5 : decode M_Tokens_signOf.2.1 5 = .ok (.invokestatic 90, 3) := by decide +kernel
theorem d_Tokens_signOf_8 : decode M_Tokens_signOf.2.1 8 = .ok (.ifCond .eq 21, 3) := by decide +kernel
theorem d_Tokens_signOf_11 : decode M_Tokens_signOf.2.1 11 = .ok (.iload_n 2, 1) := by decide +kernel
theorem d_Tokens_signOf_12 : decode M_Tokens_signOf.2.1 12 = .ok (.iload_n 1, 1) := by decide +kernel
theorem d_Tokens_signOf_13 : decode M_Tokens_signOf.2.1 13 = .ok (.isub, 1) := by decide +kernel
theorem d_Tokens_signOf_14 : decode M_Tokens_signOf.2.1 14 = .ok (.bipush 6, 2) := by decide +kernel
theorem d_Tokens_signOf_16 : decode M_Tokens_signOf.2.1 16 = .ok (.if_icmp .gt 9, 3) := by decide +kernel
theorem d_Tokens_signOf_19 : decode M_Tokens_signOf.2.1 19 = .ok (.getstatic 93, 3) := by decide +kernel
theorem d_Tokens_signOf_22 : decode M_Tokens_signOf.2.1 22 = .ok (.goto 6, 3) := by decide +kernel
theorem d_Tokens_signOf_25 : decode M_Tokens_signOf.2.1 25 = .ok (.getstatic 63, 3) := by decide +kernel
theorem d_Tokens_signOf_28 : decode M_Tokens_signOf.2.1 28 = .ok (.areturn, 1) := by decide +kernel
theorem d_Tokens_signOf_29 : decode M_Tokens_signOf.2.1 29 = .ok (.aload_n 0, 1) := by decide +kernel
theorem d_Tokens_signOf_30 : decode M_Tokens_signOf.2.1 30 = .ok (.iload_n 1, 1) := by decide +kernel
theorem d_Tokens_signOf_31 : decode M_Tokens_signOf.2.1 31 = .ok (.invokevirtual 82, 3) := by decide +kernel
theorem d_Tokens_signOf_34 : decode M_Tokens_signOf.2.1 34 = .ok (.invokestatic 86, 3) := by decide +kernel
theorem d_Tokens_signOf_37 : decode M_Tokens_signOf.2.1 37 = .ok (.istore_n 3, 1) := by decide +kernel
theorem d_Tokens_signOf_38 : decode M_Tokens_signOf.2.1 38 = .ok (.iload_n 3, 1) := by decide +kernel
theorem d_Tokens_signOf_39 : decode M_Tokens_signOf.2.1 39 = .ok (.ifCond .eq 15, 3) := by decide +kernel
theorem d_Tokens_signOf_42 : decode M_Tokens_signOf.2.1 42 = .ok (.iload_n 2, 1) := by decide +kernel
theorem d_Tokens_signOf_43 : decode M_Tokens_signOf.2.1 43 = .ok (.iload_n 1, 1) := by decide +kernel
theorem d_Tokens_signOf_44 : decode M_Tokens_signOf.2.1 44 = .ok (.isub, 1) := by decide +kernel
theorem d_Tokens_signOf_45 : decode M_Tokens_signOf.2.1 45 = .ok (.bipush 10, 2) := by decide +kernel
theorem d_Tokens_signOf_47 : decode M_Tokens_signOf.2.1 47 = .ok (.if_icmp .le 7, 3) := by decide +kernel
theorem d_Tokens_signOf_50 : decode M_Tokens_signOf.2.1 50 = .ok (.getstatic 63, 3) := by decide +kernel
theorem d_Tokens_signOf_53 : decode M_Tokens_signOf.2.1 53 = .ok (.areturn, 1) := by decide +kernel
theorem d_Tokens_signOf_54 : decode M_Tokens_signOf.2.1 54 = .ok (.getstatic 96, 3) := by decide +kernel
theorem d_Tokens_signOf_57 : decode M_Tokens_signOf.2.1 57 = .ok (.astore 4, 2) := by decide +kernel
theorem d_Tokens_signOf_59 : decode M_Tokens_signOf.2.1 59 = .ok (.aload 4, 2) := by decide +kernel
theorem d_Tokens_signOf_61 : decode M_Tokens_signOf.2.1 61 = .ok (.arraylength, 1) := by decide +kernel
theorem d_Tokens_signOf_62 : decode M_Tokens_signOf.2.1 62 = .ok (.istore 5, 2) := by decide +kernel
theorem d_Tokens_signOf_64 : decode M_Tokens_signOf.2.1 64 = .ok (.iconst 0, 1) := by decide +kernel
theorem d_Tokens_signOf_65 : decode M_Tokens_signOf.2.1 65 = .ok (.istore 6, 2) := by decide +kernel
def s_Tokens_signOf (A : TA) (x1 : Nat) (x2 : Nat) : Fin 54 := (if (s_Tokens_isDigit (s_Tape_byteAt A (nI x1))) = 0 then (if (s_Tokens_isLetter (s_Tape_byteAt A (nI x1))) = 0 then (l_Tokens_signOf_67 A x1 x2 (s_Tokens_isLetter (s_Tape_byteAt A (nI x1))) (54) 0) else (if ((nI x2) - (nI x1)) ≤ 10 then (l_Tokens_signOf_67 A x1 x2 (s_Tokens_isLetter (s_Tape_byteAt A (nI x1))) (54) 0) else (53 : Fin 54))) else (if 6 < ((nI x2) - (nI x1)) then (53 : Fin 54) else (51 : Fin 54)))
set_option maxRecDepth 100000 in
set_option maxHeartbeats 4000000 in
theorem c_Tokens_signOf {Γ : G9} {sg tx : Nat → Nat} {sa : Nat} {h : AH} {t z : Nat} {A : TA} {x1 : Nat} {vx1 : Int32} {x2 : Nat} {vx2 : Int32} (ex1 : vx1 = nI x1) (bx1 : x1 ≤ 2000) (ex2 : vx2 = nI x2) (bx2 : x2 ≤ 2000) (hs : SgOk Γ sg) (hcs : CsOk Γ) (htx : TxOk Γ sg tx) (hsa : SaOk Γ sg sa) : CallR Γ M_Tokens_signOf 5 [.ref t, .int vx1, .int vx2] (blk h t 2 (taC Γ t A)) z (some (.ref (sg (s_Tokens_signOf A x1 x2).val))) (blk h t 2 (taC Γ t A)) := by
  subst ex1
  subst ex2
  refine Call.of_go (L := [some (.ref t), some (.int (nI x1)), some (.int (nI x2)), none, none, none, none, none]) (by decide +kernel) rfl (by exact Nat.le_of_ble_eq_true rfl) ?_
  unfold s_Tokens_signOf
  refine Go.aload_0 d_Tokens_signOf_0 rfl ?_
  refine Go.iload_1 d_Tokens_signOf_1 rfl ?_
  refine Go.cv1r d_Tokens_signOf_2 rfl l_Tokens_82 k_Tape_byteAt_v (ta_g0) rfl (c_Tape_byteAt) rfl rfl rfl ?_
  refine Go.cs1r d_Tokens_signOf_5 rfl l_Tokens_90 k_Tokens_isDigit_s rfl (c_Tokens_isDigit) rfl rfl rfl ?_
  refine Go.if_eq (t := 29) d_Tokens_signOf_8 (by decide) rfl (fun c8_1 => ?_) (fun c8_1 => ?_)
  · refine Go.aload_0 d_Tokens_signOf_29 rfl ?_
    refine Go.iload_1 d_Tokens_signOf_30 rfl ?_
    refine Go.cv1r d_Tokens_signOf_31 rfl l_Tokens_82 k_Tape_byteAt_v (ta_g0) rfl (c_Tape_byteAt) rfl rfl rfl ?_
    refine Go.cs1r d_Tokens_signOf_34 rfl l_Tokens_86 k_Tokens_isLetter_s rfl (c_Tokens_isLetter) rfl rfl rfl ?_
    refine Go.istore_3 d_Tokens_signOf_37 rfl (by rfl) ?_
    refine Go.iload_3 d_Tokens_signOf_38 rfl ?_
    refine Go.if_eq (t := 54) d_Tokens_signOf_39 (by decide) rfl (fun c39_2 => ?_) (fun c39_2 => ?_)
    · refine Go.gets d_Tokens_signOf_54 rfl x_Tokens_96 hsa.1 ?_
      refine Go.astore_4 d_Tokens_signOf_57 rfl (by rfl) ?_
      refine Go.aload_4 d_Tokens_signOf_59 rfl ?_
      refine Go.alenS (v := nI 54) d_Tokens_signOf_61 rfl hsa.2 rfl ?_
      refine Go.istore_5 d_Tokens_signOf_62 rfl (by rfl) ?_
      refine Go.iconst (v := 0) d_Tokens_signOf_64 rfl (by decide) ?_
      refine Go.istore_6 d_Tokens_signOf_65 rfl (by rfl) ?_
      rw [if_pos c8_1, if_pos c39_2]
      exact l_Tokens_signOf_67_go (n := (54)) bx1 bx2 hs hcs htx hsa (by decide) rfl (54) 0 (by omega)
    · refine Go.iload_2 d_Tokens_signOf_42 rfl ?_
      refine Go.iload_1 d_Tokens_signOf_43 rfl ?_
      refine Go.isub d_Tokens_signOf_44 rfl ?_
      refine Go.bipush (v := 10) d_Tokens_signOf_45 rfl (by decide) ?_
      refine Go.icmp_le (t := 54) d_Tokens_signOf_47 (by decide) rfl (fun c47_3 => ?_) (fun c47_3 => ?_)
      · refine Go.gets d_Tokens_signOf_54 rfl x_Tokens_96 hsa.1 ?_
        refine Go.astore_4 d_Tokens_signOf_57 rfl (by rfl) ?_
        refine Go.aload_4 d_Tokens_signOf_59 rfl ?_
        refine Go.alenS (v := nI 54) d_Tokens_signOf_61 rfl hsa.2 rfl ?_
        refine Go.istore_5 d_Tokens_signOf_62 rfl (by rfl) ?_
        refine Go.iconst (v := 0) d_Tokens_signOf_64 rfl (by decide) ?_
        refine Go.istore_6 d_Tokens_signOf_65 rfl (by rfl) ?_
        rw [if_pos c8_1, if_neg c39_2, if_pos c47_3]
        exact l_Tokens_signOf_67_go (n := (54)) bx1 bx2 hs hcs htx hsa (by decide) rfl (54) 0 (by omega)
      · refine Go.gets d_Tokens_signOf_50 rfl x_Tokens_63 (hs.z (i := 53) rfl) ?_
        rw [if_pos c8_1, if_neg c39_2, if_neg c47_3]
        exact Go.aret d_Tokens_signOf_53 rfl ⟨rfl, rfl, rfl⟩
  · refine Go.iload_2 d_Tokens_signOf_11 rfl ?_
    refine Go.iload_1 d_Tokens_signOf_12 rfl ?_
    refine Go.isub d_Tokens_signOf_13 rfl ?_
    refine Go.bipush (v := 6) d_Tokens_signOf_14 rfl (by decide) ?_
    refine Go.icmp_gt (t := 25) d_Tokens_signOf_16 (by decide) rfl (fun c16_4 => ?_) (fun c16_4 => ?_)
    · refine Go.gets d_Tokens_signOf_25 rfl x_Tokens_63 (hs.z (i := 53) rfl) ?_
      rw [if_neg c8_1, if_pos c16_4]
      exact Go.aret d_Tokens_signOf_28 rfl ⟨rfl, rfl, rfl⟩
    · refine Go.gets d_Tokens_signOf_19 rfl x_Tokens_93 (hs.z (i := 51) rfl) ?_
      refine Go.goto (t := 28) d_Tokens_signOf_22 (by decide) ?_
      rw [if_neg c8_1, if_neg c16_4]
      exact Go.aret d_Tokens_signOf_28 rfl ⟨rfl, rfl, rfl⟩
theorem d_Tokens_worthOf_0 : decode M_Tokens_worthOf.2.1 0 = .ok (.aload_n 0, 1) := by decide +kernel
theorem d_Tokens_worthOf_1 : decode M_Tokens_worthOf.2.1 1 = .ok (.getstatic 93, 3) := by decide +kernel
theorem d_Tokens_worthOf_4 : decode M_Tokens_worthOf.2.1 4 = .ok (.if_acmp .ne 10, 3) := by decide +kernel
theorem d_Tokens_worthOf_7 : decode M_Tokens_worthOf.2.1 7 = .ok (.aload_n 1, 1) := by decide +kernel
theorem d_Tokens_worthOf_8 : decode M_Tokens_worthOf.2.1 8 = .ok (.iload_n 2, 1) := by decide +kernel
theorem d_Tokens_worthOf_9 : decode M_Tokens_worthOf.2.1 9 = .ok (.iload_n 3, 1) := by decide +kernel
theorem d_Tokens_worthOf_10 : decode M_Tokens_worthOf.2.1 10 = .ok (.invokestatic 119, 3) := by decide +kernel
theorem d_Tokens_worthOf_13 : decode M_Tokens_worthOf.2.1 13 = .ok (.lreturn, 1) := by decide +kernel
theorem d_Tokens_worthOf_14 : decode M_Tokens_worthOf.2.1 14 = .ok (.aload_n 0, 1) := by decide +kernel
theorem d_Tokens_worthOf_15 : decode M_Tokens_worthOf.2.1 15 = .ok (.getstatic 107, 3) := by decide +kernel
theorem d_Tokens_worthOf_18 : decode M_Tokens_worthOf.2.1 18 = .ok (.if_acmp .ne 12, 3) := by decide +kernel
theorem d_Tokens_worthOf_21 : decode M_Tokens_worthOf.2.1 21 = .ok (.aload_n 1, 1) := by decide +kernel
theorem d_Tokens_worthOf_22 : decode M_Tokens_worthOf.2.1 22 = .ok (.iload_n 2, 1) := by decide +kernel
theorem d_Tokens_worthOf_23 : decode M_Tokens_worthOf.2.1 23 = .ok (.iload_n 3, 1) := by decide +kernel
theorem d_Tokens_worthOf_24 : decode M_Tokens_worthOf.2.1 24 = .ok (.invokestatic 123, 3) := by decide +kernel
theorem d_Tokens_worthOf_27 : decode M_Tokens_worthOf.2.1 27 = .ok (.goto 4, 3) := by decide +kernel
theorem d_Tokens_worthOf_30 : decode M_Tokens_worthOf.2.1 30 = .ok (.lconst 0, 1) := by decide +kernel
theorem d_Tokens_worthOf_31 : decode M_Tokens_worthOf.2.1 31 = .ok (.lreturn, 1) := by decide +kernel
def s_Tokens_worthOf (A : TA) (x0 : Fin 54) (x1 : Nat) (x2 : Nat) : Int64 := (if x0.val = 51 then (s_Tokens_numberOf A x1 x2) else (if x0.val = 50 then (s_Tokens_nameOf A x1 x2) else 0))
set_option maxRecDepth 100000 in
set_option maxHeartbeats 4000000 in
theorem c_Tokens_worthOf {Γ : G9} {sg : Nat → Nat} {h : AH} {t z : Nat} {A : TA} {x0 : Fin 54} {x1 : Nat} {vx1 : Int32} {x2 : Nat} {vx2 : Int32} (ex1 : vx1 = nI x1) (bx1 : x1 ≤ x2) (ex2 : vx2 = nI x2) (bx2 : x2 ≤ 2000) (hs : SgOk Γ sg) (hsn : SgNe sg) : CallR Γ M_Tokens_worthOf 2 [.ref (sg x0.val), .ref t, .int vx1, .int vx2] (blk h t 2 (taC Γ t A)) z (some (.long (s_Tokens_worthOf A x0 x1 x2))) (blk h t 2 (taC Γ t A)) := by
  subst ex1
  subst ex2
  refine Call.of_go (L := [some (.ref (sg x0.val)), some (.ref t), some (.int (nI x1)), some (.int (nI x2))]) (by decide +kernel) rfl (by exact Nat.le_of_ble_eq_true rfl) ?_
  unfold s_Tokens_worthOf
  refine Go.aload_0 d_Tokens_worthOf_0 rfl ?_
  refine Go.gets d_Tokens_worthOf_1 rfl x_Tokens_93 (hs.z (i := 51) rfl) ?_
  refine Go.acmp_ne (t := 14) d_Tokens_worthOf_4 (by decide) rfl (fun c4_1 => ?_) (fun c4_1 => ?_)
  · have c4_1 : ¬ x0.val = 51 := fun w => c4_1 (by rw [w])
    refine Go.aload_0 d_Tokens_worthOf_14 rfl ?_
    refine Go.gets d_Tokens_worthOf_15 rfl x_Tokens_107 (hs.z (i := 50) rfl) ?_
    refine Go.acmp_ne (t := 30) d_Tokens_worthOf_18 (by decide) rfl (fun c18_2 => ?_) (fun c18_2 => ?_)
    · have c18_2 : ¬ x0.val = 50 := fun w => c18_2 (by rw [w])
      refine Go.lconst (v := 0) d_Tokens_worthOf_30 rfl (by decide) ?_
      rw [if_neg c4_1, if_neg c18_2]
      exact Go.lret d_Tokens_worthOf_31 rfl ⟨rfl, rfl, rfl⟩
    · have c18_2 := hsn _ _ (x0).isLt (by decide) c18_2
      refine Go.aload_1 d_Tokens_worthOf_21 rfl ?_
      refine Go.iload_2 d_Tokens_worthOf_22 rfl ?_
      refine Go.iload_3 d_Tokens_worthOf_23 rfl ?_
      refine Go.cs3r d_Tokens_worthOf_24 rfl l_Tokens_123 k_Tokens_nameOf_s rfl (c_Tokens_nameOf (x1 := x1) (x2 := x2) rfl (by omega) rfl (by omega)) rfl rfl rfl ?_
      refine Go.goto (t := 31) d_Tokens_worthOf_27 (by decide) ?_
      rw [if_neg c4_1, if_pos c18_2]
      exact Go.lret d_Tokens_worthOf_31 rfl ⟨rfl, rfl, rfl⟩
  · have c4_1 := hsn _ _ (x0).isLt (by decide) c4_1
    refine Go.aload_1 d_Tokens_worthOf_7 rfl ?_
    refine Go.iload_2 d_Tokens_worthOf_8 rfl ?_
    refine Go.iload_3 d_Tokens_worthOf_9 rfl ?_
    refine Go.cs3r d_Tokens_worthOf_10 rfl l_Tokens_119 k_Tokens_numberOf_s rfl (c_Tokens_numberOf (x1 := x1) (x2 := x2) rfl (by omega) rfl (by omega)) rfl rfl rfl ?_
    rw [if_pos c4_1]
    exact Go.lret d_Tokens_worthOf_13 rfl ⟨rfl, rfl, rfl⟩
theorem pb_le {A : TA} (hA : ta_sz A ≤ 2000) {x : Nat} : ∀ k i : Nat, i ≤ 2000 → l_Tokens_pastBlanks_2 A x k i ≤ 2000 := by
  intro k
  induction k with
  | zero => intro i hi; exact hi
  | succ k ih =>
    intro i hi
    unfold l_Tokens_pastBlanks_2
    split
    · exact hi
    · rename_i c
      have hlt : i < ta_sz A := nI_gt_of c (by omega)
      (repeat' split) <;> first | exact ih (i + 1) (by omega) | exact hi
theorem pastBlanks_le {A : TA} (hA : ta_sz A ≤ 2000) {x : Nat} (hx : x ≤ 2000) : s_Tokens_pastBlanks A x ≤ 2000 := pb_le hA _ _ hx
theorem te_le17 {A : TA} {x : Nat} : ∀ k i : Nat, i ≤ ta_sz A → ta_sz A ≤ 2000 → i ≤ l_Tokens_tokenEnd_17 A x k i ∧ l_Tokens_tokenEnd_17 A x k i ≤ ta_sz A := by
  intro k
  induction k with
  | zero => intro i hi hA; exact ⟨Nat.le_refl _, hi⟩
  | succ k ih =>
    intro i hi hA
    unfold l_Tokens_tokenEnd_17
    split
    · exact ⟨Nat.le_refl _, hi⟩
    · rename_i c
      have hlt : i < ta_sz A := nI_gt_of c (by omega)
      have := ih (i + 1) (by omega) hA
      (repeat' split) <;> first | omega | exact ⟨Nat.le_refl _, hi⟩
theorem te_le60 {A : TA} {x : Nat} : ∀ k i : Nat, i ≤ ta_sz A → ta_sz A ≤ 2000 → i ≤ l_Tokens_tokenEnd_60 A x k i ∧ l_Tokens_tokenEnd_60 A x k i ≤ ta_sz A := by
  intro k
  induction k with
  | zero => intro i hi hA; exact ⟨Nat.le_refl _, hi⟩
  | succ k ih =>
    intro i hi hA
    unfold l_Tokens_tokenEnd_60
    split
    · exact ⟨Nat.le_refl _, hi⟩
    · rename_i c
      have hlt : i < ta_sz A := nI_gt_of c (by omega)
      have := ih (i + 1) (by omega) hA
      (repeat' split) <;> first | omega | exact ⟨Nat.le_refl _, hi⟩
theorem ba_in {A : TA} {i : Nat} (hi : i < 2 ^ 31) (hA : ta_sz A ≤ 2000) (h : ¬ s_Tape_byteAt A (nI i) = -1) : i < ta_sz A := by
  rcases Nat.lt_or_ge i (ta_sz A) with h1 | h1
  · exact h1
  · refine absurd ?_ h
    unfold s_Tape_byteAt
    rw [if_neg (nI_pos hi), if_pos (nI_le h1 hi)]
theorem tokenEnd_le {A : TA} (hA : ta_sz A ≤ 2000) {x : Nat} (hx : x < ta_sz A) : x + 1 ≤ s_Tokens_tokenEnd A x ∧ s_Tokens_tokenEnd A x ≤ ta_sz A := by
  have h1 := te_le17 (A := A) (x := x) (ta_sz A - (x + 1)) (x + 1) (by omega) hA
  have h2 := te_le60 (A := A) (x := x) (ta_sz A - (x + 1)) (x + 1) (by omega) hA
  have h3 : s_Tape_byteAt A (nI (x + 1)) = 61 → x + 1 < ta_sz A := fun w => ba_in (by omega) hA (by rw [w]; decide)
  unfold s_Tokens_tokenEnd
  (repeat' split) <;> first | exact h1 | exact h2 | (have := h3 (by assumption); omega) | omega
theorem d_Tokens_readFrom_13 : decode M_Tokens_readFrom.2.1 13 = .ok (.iload_n 3, 1) := by decide +kernel
theorem d_Tokens_readFrom_14 : decode M_Tokens_readFrom.2.1 14 = .ok (.sipush 400, 3) := by decide +kernel
theorem d_Tokens_readFrom_17 : decode M_Tokens_readFrom.2.1 17 = .ok (.if_icmp .ge 56, 3) := by decide +kernel
theorem d_Tokens_readFrom_20 : decode M_Tokens_readFrom.2.1 20 = .ok (.iload_n 2, 1) := by decide +kernel
theorem d_Tokens_readFrom_21 : decode M_Tokens_readFrom.2.1 21 = .ok (.aload_n 1, 1) := by decide +kernel
theorem d_Tokens_readFrom_22 : decode M_Tokens_readFrom.2.1 22 = .ok (.invokevirtual 43, 3) := by decide +kernel
theorem d_Tokens_readFrom_25 : decode M_Tokens_readFrom.2.1 25 = .ok (.if_icmp .ge 48, 3) := by decide +kernel
theorem d_Tokens_readFrom_28 : decode M_Tokens_readFrom.2.1 28 = .ok (.aload_n 1, 1) := by decide +kernel
theorem d_Tokens_readFrom_29 : decode M_Tokens_readFrom.2.1 29 = .ok (.iload_n 2, 1) := by decide +kernel
theorem d_Tokens_readFrom_30 : decode M_Tokens_readFrom.2.1 30 = .ok (.invokestatic 48, 3) := by decide +kernel
theorem d_Tokens_readFrom_33 : decode M_Tokens_readFrom.2.1 33 = .ok (.istore 4, 2) := by decide +kernel
theorem d_Tokens_readFrom_35 : decode M_Tokens_readFrom.2.1 35 = .ok (.aload_n 1, 1) := by decide +kernel
theorem d_Tokens_readFrom_36 : decode M_Tokens_readFrom.2.1 36 = .ok (.iload_n 2, 1) := by decide +kernel
theorem d_Tokens_readFrom_37 : decode M_Tokens_readFrom.2.1 37 = .ok (.iload 4, 2) := by decide +kernel
theorem d_Tokens_readFrom_39 : decode M_Tokens_readFrom.2.1 39 = .ok (.invokestatic 51, 3) := by decide +kernel
theorem d_Tokens_readFrom_42 : decode M_Tokens_readFrom.2.1 42 = .ok (.astore 5, 2) := by decide +kernel
theorem d_Tokens_readFrom_44 : decode M_Tokens_readFrom.2.1 44 = .ok (.aload_n 0, 1) := by decide +kernel
theorem d_Tokens_readFrom_45 : decode M_Tokens_readFrom.2.1 45 = .ok (.aload 5, 2) := by decide +kernel
theorem d_Tokens_readFrom_47 : decode M_Tokens_readFrom.2.1 47 = .ok (.iload_n 2, 1) := by decide +kernel
theorem d_Tokens_readFrom_48 : decode M_Tokens_readFrom.2.1 48 = .ok (.aload 5, 2) := by decide +kernel
theorem d_Tokens_readFrom_50 : decode M_Tokens_readFrom.2.1 50 = .ok (.aload_n 1, 1) := by decide +kernel
theorem d_Tokens_readFrom_51 : decode M_Tokens_readFrom.2.1 51 = .ok (.iload_n 2, 1) := by decide +kernel
theorem d_Tokens_readFrom_52 : decode M_Tokens_readFrom.2.1 52 = .ok (.iload 4, 2) := by decide +kernel
theorem d_Tokens_readFrom_54 : decode M_Tokens_readFrom.2.1 54 = .ok (.invokestatic 55, 3) := by decide +kernel
theorem d_Tokens_readFrom_57 : decode M_Tokens_readFrom.2.1 57 = .ok (.invokevirtual 59, 3) := by decide +kernel
theorem d_Tokens_readFrom_60 : decode M_Tokens_readFrom.2.1 60 = .ok (.aload_n 1, 1) := by decide +kernel
theorem d_Tokens_readFrom_61 : decode M_Tokens_readFrom.2.1 61 = .ok (.iload 4, 2) := by decide +kernel
theorem d_Tokens_readFrom_63 : decode M_Tokens_readFrom.2.1 63 = .ok (.invokestatic 39, 3) := by decide +kernel
theorem d_Tokens_readFrom_66 : decode M_Tokens_readFrom.2.1 66 = .ok (.istore_n 2, 1) := by decide +kernel
theorem d_Tokens_readFrom_67 : decode M_Tokens_readFrom.2.1 67 = .ok (.iinc 3 1, 3) := by decide +kernel
theorem d_Tokens_readFrom_70 : decode M_Tokens_readFrom.2.1 70 = .ok (.goto (-57), 3) := by decide +kernel
def l_Tokens_readFrom_13 (A : TA) : Nat → Nat → Nat → TK → Nat × TK
  | 0, _, f, K => (f, K)
  | k + 1, i, f, K => (if (nI (ta_sz A)) ≤ (nI f) then (f, K) else (l_Tokens_readFrom_13 A k (i + 1) (s_Tokens_pastBlanks A (s_Tokens_tokenEnd A f)) (s_Tokens_put K (s_Tokens_signOf A f (s_Tokens_tokenEnd A f)) (nI f) (s_Tokens_worthOf A (s_Tokens_signOf A f (s_Tokens_tokenEnd A f)) f (s_Tokens_tokenEnd A f)))))
set_option maxRecDepth 100000 in
set_option maxHeartbeats 4000000 in
theorem l_Tokens_readFrom_13_go {Γ : G9} {sg tx : Nat → Nat} {sa : Nat} {h : AH} {t y z : Nat} {n : Nat} {Q : QT} {X : XT} {A : TA} (hA : ta_sz A ≤ 2000) (hcs : CsOk Γ) (hs : SgOk Γ sg) (hsn : SgNe sg) (htx : TxOk Γ sg tx) (hsa : SaOk Γ sg sa) (geo : t + 2 ≤ y ∨ y + 4 ≤ t) (hn20 : n ≤ 400) : ∀ (k i : Nat) (f : Nat) (K : TK), i + k = n → 400 = n → f ≤ 2000 → Go Γ M_Tokens_readFrom 6 0 0 73 [some (.ref y), some (.ref t), some (.int (nI (l_Tokens_readFrom_13 A k i f K).1)), none, none, none] [] (blk (blk h t 2 (taC Γ t A)) y 4 (tkC Γ sg y (l_Tokens_readFrom_13 A k i f K).2)) z Q X → Go Γ M_Tokens_readFrom 6 0 0 13 [some (.ref y), some (.ref t), some (.int (nI f)), some (.int (nI i)), none, none] [] (blk (blk h t 2 (taC Γ t A)) y 4 (tkC Γ sg y K)) z Q X := by
  intro k
  induction k with
  | zero =>
    intro i f K hi hn bf hk
    refine Go.iload_3 d_Tokens_readFrom_13 rfl ?_
    refine Go.sipush (v := 400) d_Tokens_readFrom_14 rfl (by decide) ?_
    refine Go.icmp_ge (t := 73) d_Tokens_readFrom_17 (by decide) rfl (fun c17_1 => ?_) (fun c17_1 => ?_)
    · refine Go.fgt [some (.ref y), some (.ref t), some (.int (nI f)), none, none, none] (by repeat' (first | exact trivial | refine ⟨rfl, ?_⟩)) ?_
      exact hk
    · exact absurd (show nI 400 ≤ nI i from nI_le (by omega) (by omega)) c17_1
  | succ k ih =>
    intro i f K hi hn bf hk
    unfold l_Tokens_readFrom_13 at hk
    refine Go.iload_3 d_Tokens_readFrom_13 rfl ?_
    refine Go.sipush (v := 400) d_Tokens_readFrom_14 rfl (by decide) ?_
    refine Go.icmp_ge (t := 73) d_Tokens_readFrom_17 (by decide) rfl (fun c17_1 => ?_) (fun c17_1 => ?_)
    · exact absurd c17_1 (show ¬ nI 400 ≤ nI i from nI_ge (by omega) (by omega))
    · refine Go.iload_2 d_Tokens_readFrom_20 rfl ?_
      refine Go.aload_1 d_Tokens_readFrom_21 rfl ?_
      refine Go.heq (blk_comm (by omega)) ?_
      refine Go.cv0r d_Tokens_readFrom_22 rfl l_Tokens_43 k_Tape_size_v (ta_g0) rfl (c_Tape_size) rfl rfl rfl ?_
      refine Go.heq (blk_comm (by omega)) ?_
      refine Go.icmp_ge (t := 73) d_Tokens_readFrom_25 (by decide) rfl (fun c25_2 => ?_) (fun c25_2 => ?_)
      · rw [if_pos c25_2] at hk
        refine Go.fgt [some (.ref y), some (.ref t), some (.int (nI f)), none, none, none] (by repeat' (first | exact trivial | refine ⟨rfl, ?_⟩)) ?_
        exact hk
      · refine Go.aload_1 d_Tokens_readFrom_28 rfl ?_
        refine Go.iload_2 d_Tokens_readFrom_29 rfl ?_
        refine Go.heq (blk_comm (by omega)) ?_
        refine Go.cs2r d_Tokens_readFrom_30 rfl l_Tokens_48 k_Tokens_tokenEnd_s rfl (c_Tokens_tokenEnd (x1 := f) rfl (by omega) hA) rfl rfl rfl ?_
        refine Go.heq (blk_comm (by omega)) ?_
        have q1 := tokenEnd_le hA (nI_gt_of c25_2 (by omega))
        refine Go.istore_4 d_Tokens_readFrom_33 rfl (by rfl) ?_
        refine Go.aload_1 d_Tokens_readFrom_35 rfl ?_
        refine Go.iload_2 d_Tokens_readFrom_36 rfl ?_
        refine Go.iload_4 d_Tokens_readFrom_37 rfl ?_
        refine Go.heq (blk_comm (by omega)) ?_
        refine Go.cs3r d_Tokens_readFrom_39 rfl l_Tokens_51 k_Tokens_signOf_s rfl (c_Tokens_signOf (x1 := f) (x2 := (s_Tokens_tokenEnd A f)) rfl (by omega) rfl (by omega) hs hcs htx hsa) rfl rfl rfl ?_
        refine Go.heq (blk_comm (by omega)) ?_
        refine Go.astore_5 d_Tokens_readFrom_42 rfl (by rfl) ?_
        refine Go.aload_0 d_Tokens_readFrom_44 rfl ?_
        refine Go.aload_5 d_Tokens_readFrom_45 rfl ?_
        refine Go.iload_2 d_Tokens_readFrom_47 rfl ?_
        refine Go.aload_5 d_Tokens_readFrom_48 rfl ?_
        refine Go.aload_1 d_Tokens_readFrom_50 rfl ?_
        refine Go.iload_2 d_Tokens_readFrom_51 rfl ?_
        refine Go.iload_4 d_Tokens_readFrom_52 rfl ?_
        refine Go.heq (blk_comm (by omega)) ?_
        refine Go.cs4r d_Tokens_readFrom_54 rfl l_Tokens_55 k_Tokens_worthOf_s rfl (c_Tokens_worthOf (x0 := (s_Tokens_signOf A f (s_Tokens_tokenEnd A f))) (x1 := f) (x2 := (s_Tokens_tokenEnd A f)) rfl (by omega) rfl (by omega) hs hsn) rfl rfl rfl ?_
        refine Go.heq (blk_comm (by omega)) ?_
        refine Go.cv3v d_Tokens_readFrom_57 rfl l_Tokens_59 k_Tokens_put_v (tk_g0) rfl (c_Tokens_put (x1 := (s_Tokens_signOf A f (s_Tokens_tokenEnd A f))) hs) rfl rfl rfl ?_
        refine Go.aload_1 d_Tokens_readFrom_60 rfl ?_
        refine Go.iload_4 d_Tokens_readFrom_61 rfl ?_
        refine Go.heq (blk_comm (by omega)) ?_
        refine Go.cs2r d_Tokens_readFrom_63 rfl l_Tokens_39 k_Tokens_pastBlanks_s rfl (c_Tokens_pastBlanks (x1 := (s_Tokens_tokenEnd A f)) rfl (by omega) hA) rfl rfl rfl ?_
        refine Go.heq (blk_comm (by omega)) ?_
        have q2 := pastBlanks_le hA (show s_Tokens_tokenEnd A f ≤ 2000 by omega)
        refine Go.istore_2 d_Tokens_readFrom_66 rfl (by rfl) ?_
        refine Go.iinc_3 d_Tokens_readFrom_67 rfl (by rfl) (nI_inc _) ?_
        refine Go.goto (t := 13) d_Tokens_readFrom_70 (by decide) ?_
        rw [if_neg c25_2] at hk
        refine Go.fgt [some (.ref y), some (.ref t), some (.int (nI (s_Tokens_pastBlanks A (s_Tokens_tokenEnd A f)))), some (.int (nI (i + 1))), none, none] (by repeat' (first | exact trivial | refine ⟨rfl, ?_⟩)) ?_
        exact ih (i + 1) _ _ (by omega) (by first | exact hn | (simp only []; exact hn)) (by omega) hk
theorem d_Tokens_readFrom_0 : decode M_Tokens_readFrom.2.1 0 = .ok (.aload_n 0, 1) := by decide +kernel
theorem d_Tokens_readFrom_1 : decode M_Tokens_readFrom.2.1 1 = .ok (.iconst 0, 1) := by decide +kernel
theorem d_Tokens_readFrom_2 : decode M_Tokens_readFrom.2.1 2 = .ok (.putfield 36, 3) := by decide +kernel
theorem d_Tokens_readFrom_5 : decode M_Tokens_readFrom.2.1 5 = .ok (.aload_n 1, 1) := by decide +kernel
theorem d_Tokens_readFrom_6 : decode M_Tokens_readFrom.2.1 6 = .ok (.iconst 0, 1) := by decide +kernel
theorem d_Tokens_readFrom_7 : decode M_Tokens_readFrom.2.1 7 = .ok (.invokestatic 39, 3) := by decide +kernel
theorem d_Tokens_readFrom_10 : decode M_Tokens_readFrom.2.1 10 = .ok (.istore_n 2, 1) := by decide +kernel
theorem d_Tokens_readFrom_11 : decode M_Tokens_readFrom.2.1 11 = .ok (.iconst 0, 1) := by decide +kernel
theorem d_Tokens_readFrom_12 : decode M_Tokens_readFrom.2.1 12 = .ok (.istore_n 3, 1) := by decide +kernel
theorem d_Tokens_readFrom_73 : decode M_Tokens_readFrom.2.1 73 = .ok (.aload_n 0, 1) := by decide +kernel
theorem d_Tokens_readFrom_74 : decode M_Tokens_readFrom.2.1 74 = .ok (.iload_n 2, 1) := by decide +kernel
theorem d_Tokens_readFrom_75 : decode M_Tokens_readFrom.2.1 75 = .ok (.aload_n 1, 1) := by decide +kernel
theorem d_Tokens_readFrom_76 : decode M_Tokens_readFrom.2.1 76 = .ok (.invokevirtual 43, 3) := by decide +kernel
theorem d_Tokens_readFrom_79 : decode M_Tokens_readFrom.2.1 79 = .ok (.if_icmp .ge 9, 3) := by decide +kernel
theorem d_Tokens_readFrom_82 : decode M_Tokens_readFrom.2.1 82 = .ok (.getstatic 63, 3) := by decide +kernel
theorem d_Tokens_readFrom_85 : decode M_Tokens_readFrom.2.1 85 = .ok (.goto 6, 3) := by decide +kernel
theorem d_Tokens_readFrom_88 : decode M_Tokens_readFrom.2.1 88 = .ok (.getstatic 25, 3) := by decide +kernel
theorem d_Tokens_readFrom_91 : decode M_Tokens_readFrom.2.1 91 = .ok (.iload_n 2, 1) := by decide +kernel
theorem d_Tokens_readFrom_92 : decode M_Tokens_readFrom.2.1 92 = .ok (.lconst 0, 1) := by decide +kernel
theorem d_Tokens_readFrom_93 : decode M_Tokens_readFrom.2.1 93 = .ok (.invokevirtual 59, 3) := by decide +kernel
theorem d_Tokens_readFrom_96 : decode M_Tokens_readFrom.2.1 96 = .ok (.aload_n 0, 1) := by decide +kernel
theorem d_Tokens_readFrom_97 : decode M_Tokens_readFrom.2.1 97 = .ok (.iconst (-1), 1) := by decide +kernel
theorem d_Tokens_readFrom_98 : decode M_Tokens_readFrom.2.1 98 = .ok (.putfield 66, 3) := by decide +kernel
theorem d_Tokens_readFrom_101 : decode M_Tokens_readFrom.2.1 101 = .ok (.aload_n 0, 1) := by decide +kernel
theorem d_Tokens_readFrom_102 : decode M_Tokens_readFrom.2.1 102 = .ok (.iconst (-1), 1) := by decide +kernel
theorem d_Tokens_readFrom_103 : decode M_Tokens_readFrom.2.1 103 = .ok (.putfield 32, 3) := by decide +kernel
theorem d_Tokens_readFrom_106 : decode M_Tokens_readFrom.2.1 106 = .ok (.aload_n 0, 1) := by decide +kernel
theorem d_Tokens_readFrom_107 : decode M_Tokens_readFrom.2.1 107 = .ok (.invokevirtual 69, 3) := by decide +kernel
theorem d_Tokens_readFrom_110 : decode M_Tokens_readFrom.2.1 110 = .ok (.return_, 1) := by decide +kernel
def s_Tokens_readFrom (A : TA) (K : TK) : TK := (if (nI (ta_sz A)) ≤ (nI (l_Tokens_readFrom_13 A (400) 0 (s_Tokens_pastBlanks A 0) (tk_sz' K 0)).1) then (s_Tokens_advance (tk_br' (tk_at' (s_Tokens_put (l_Tokens_readFrom_13 A (400) 0 (s_Tokens_pastBlanks A 0) (tk_sz' K 0)).2 (52 : Fin 54) (nI (l_Tokens_readFrom_13 A (400) 0 (s_Tokens_pastBlanks A 0) (tk_sz' K 0)).1) 0) (-1)) (-1))) else (s_Tokens_advance (tk_br' (tk_at' (s_Tokens_put (l_Tokens_readFrom_13 A (400) 0 (s_Tokens_pastBlanks A 0) (tk_sz' K 0)).2 (53 : Fin 54) (nI (l_Tokens_readFrom_13 A (400) 0 (s_Tokens_pastBlanks A 0) (tk_sz' K 0)).1) 0) (-1)) (-1))))
set_option maxRecDepth 100000 in
set_option maxHeartbeats 4000000 in
theorem c_Tokens_readFrom {Γ : G9} {sg tx : Nat → Nat} {sa : Nat} {h : AH} {t y z : Nat} {A : TA} {K : TK} (hA : ta_sz A ≤ 2000) (hcs : CsOk Γ) (hs : SgOk Γ sg) (hsn : SgNe sg) (htx : TxOk Γ sg tx) (hsa : SaOk Γ sg sa) (geo : t + 2 ≤ y ∨ y + 4 ≤ t) : CallR Γ M_Tokens_readFrom 6 [.ref y, .ref t] (blk (blk h t 2 (taC Γ t A)) y 4 (tkC Γ sg y K)) z none (blk (blk h t 2 (taC Γ t A)) y 4 (tkC Γ sg y (s_Tokens_readFrom A K))) := by
  refine Call.of_go (L := [some (.ref y), some (.ref t), none, none, none, none]) (by decide +kernel) rfl (by exact Nat.le_of_ble_eq_true rfl) ?_
  unfold s_Tokens_readFrom
  refine Go.aload_0 d_Tokens_readFrom_0 rfl ?_
  refine Go.iconst (v := 0) d_Tokens_readFrom_1 rfl (by decide) ?_
  refine Go.putfield d_Tokens_readFrom_2 rfl f_Tokens_36_p (Or.inl (fun C T N h => by cases h; rfl)) (tk_g0) (by exact Nat.le_of_ble_eq_true rfl) rfl rfl ?_
  refine Go.heq (tk_p_sz (v := 0)) ?_
  refine Go.aload_1 d_Tokens_readFrom_5 rfl ?_
  refine Go.iconst (v := 0) d_Tokens_readFrom_6 rfl (by decide) ?_
  refine Go.heq (blk_comm (by omega)) ?_
  refine Go.cs2r d_Tokens_readFrom_7 rfl l_Tokens_39 k_Tokens_pastBlanks_s rfl (c_Tokens_pastBlanks (x1 := 0) rfl (by omega) hA) rfl rfl rfl ?_
  refine Go.heq (blk_comm (by omega)) ?_
  have q0 := pastBlanks_le hA (show 0 ≤ 2000 by omega)
  refine Go.istore_2 d_Tokens_readFrom_10 rfl (by rfl) ?_
  refine Go.iconst (v := 0) d_Tokens_readFrom_11 rfl (by decide) ?_
  refine Go.istore_3 d_Tokens_readFrom_12 rfl (by rfl) ?_
  refine l_Tokens_readFrom_13_go (n := (400)) hA hcs hs hsn htx hsa geo (by decide) (400) 0 (s_Tokens_pastBlanks A 0) (tk_sz' K 0) (by omega) rfl (by omega) ?_
  refine Go.aload_0 d_Tokens_readFrom_73 rfl ?_
  refine Go.iload_2 d_Tokens_readFrom_74 rfl ?_
  refine Go.aload_1 d_Tokens_readFrom_75 rfl ?_
  refine Go.heq (blk_comm (by omega)) ?_
  refine Go.cv0r d_Tokens_readFrom_76 rfl l_Tokens_43 k_Tape_size_v (ta_g0) rfl (c_Tape_size) rfl rfl rfl ?_
  refine Go.heq (blk_comm (by omega)) ?_
  refine Go.icmp_ge (t := 88) d_Tokens_readFrom_79 (by decide) rfl (fun c79_1 => ?_) (fun c79_1 => ?_)
  · refine Go.gets d_Tokens_readFrom_88 rfl x_Tokens_25 (hs.z (i := 52) rfl) ?_
    refine Go.iload_2 d_Tokens_readFrom_91 rfl ?_
    refine Go.lconst (v := 0) d_Tokens_readFrom_92 rfl (by decide) ?_
    refine Go.cv3v d_Tokens_readFrom_93 rfl l_Tokens_59 k_Tokens_put_v (tk_g0) rfl (c_Tokens_put (x1 := (52 : Fin 54)) hs) rfl rfl rfl ?_
    refine Go.aload_0 d_Tokens_readFrom_96 rfl ?_
    refine Go.iconst (v := (-1)) d_Tokens_readFrom_97 rfl (by decide) ?_
    refine Go.putfield d_Tokens_readFrom_98 rfl f_Tokens_66_p (Or.inl (fun C T N h => by cases h; rfl)) (tk_g0) (by exact Nat.le_of_ble_eq_true rfl) rfl rfl ?_
    refine Go.heq (tk_p_at (v := (-1))) ?_
    refine Go.aload_0 d_Tokens_readFrom_101 rfl ?_
    refine Go.iconst (v := (-1)) d_Tokens_readFrom_102 rfl (by decide) ?_
    refine Go.putfield d_Tokens_readFrom_103 rfl f_Tokens_32_p (Or.inl (fun C T N h => by cases h; rfl)) (tk_g0) (by exact Nat.le_of_ble_eq_true rfl) rfl rfl ?_
    refine Go.heq (tk_p_br (v := (-1))) ?_
    refine Go.aload_0 d_Tokens_readFrom_106 rfl ?_
    refine Go.cv0v d_Tokens_readFrom_107 rfl l_Tokens_69 k_Tokens_advance_v (tk_g0) rfl (c_Tokens_advance hs) rfl rfl rfl ?_
    rw [if_pos c79_1]
    exact Go.vret d_Tokens_readFrom_110 rfl ⟨rfl, rfl, rfl⟩
  · refine Go.gets d_Tokens_readFrom_82 rfl x_Tokens_63 (hs.z (i := 53) rfl) ?_
    refine Go.goto (t := 91) d_Tokens_readFrom_85 (by decide) ?_
    refine Go.iload_2 d_Tokens_readFrom_91 rfl ?_
    refine Go.lconst (v := 0) d_Tokens_readFrom_92 rfl (by decide) ?_
    refine Go.cv3v d_Tokens_readFrom_93 rfl l_Tokens_59 k_Tokens_put_v (tk_g0) rfl (c_Tokens_put (x1 := (53 : Fin 54)) hs) rfl rfl rfl ?_
    refine Go.aload_0 d_Tokens_readFrom_96 rfl ?_
    refine Go.iconst (v := (-1)) d_Tokens_readFrom_97 rfl (by decide) ?_
    refine Go.putfield d_Tokens_readFrom_98 rfl f_Tokens_66_p (Or.inl (fun C T N h => by cases h; rfl)) (tk_g0) (by exact Nat.le_of_ble_eq_true rfl) rfl rfl ?_
    refine Go.heq (tk_p_at (v := (-1))) ?_
    refine Go.aload_0 d_Tokens_readFrom_101 rfl ?_
    refine Go.iconst (v := (-1)) d_Tokens_readFrom_102 rfl (by decide) ?_
    refine Go.putfield d_Tokens_readFrom_103 rfl f_Tokens_32_p (Or.inl (fun C T N h => by cases h; rfl)) (tk_g0) (by exact Nat.le_of_ble_eq_true rfl) rfl rfl ?_
    refine Go.heq (tk_p_br (v := (-1))) ?_
    refine Go.aload_0 d_Tokens_readFrom_106 rfl ?_
    refine Go.cv0v d_Tokens_readFrom_107 rfl l_Tokens_69 k_Tokens_advance_v (tk_g0) rfl (c_Tokens_advance hs) rfl rfl rfl ?_
    rw [if_neg c79_1]
    exact Go.vret d_Tokens_readFrom_110 rfl ⟨rfl, rfl, rfl⟩
