/-! Tokens: reading a tape -/
abbrev sgXL : List (List Int32) := [[98, 97, 110, 100], [104, 101, 105, 103, 104, 116], [115, 110, 111, 119], [115, 116, 97, 107, 101], [105, 110], [100, 101, 101, 112], [99, 114, 101, 118, 97, 115, 115, 101], [97, 98, 111, 118, 101], [98, 114, 105, 100, 103, 101], [100, 101, 112, 111, 116], [102, 111, 111, 100], [116, 101, 97, 109], [115, 105, 122, 101], [100, 97, 121], [119, 97, 114, 109], [99, 108, 105, 109, 98], [100, 101, 115, 99, 101, 110, 100], [112, 114, 111, 98, 101], [98, 121], [102, 105, 108, 108], [119, 105, 116, 104], [100, 114, 105, 108, 108], [119, 104, 101, 110], [111, 117, 116], [115, 116, 111, 99, 107], [115, 97, 99, 107], [112, 108, 97, 99, 101], [115, 116, 97, 110, 100, 105, 110, 103], [104, 101, 114, 101], [107, 110, 111, 119, 110], [110, 111, 116], [97, 110, 100], [111, 114], [109, 105, 110], [109, 97, 120], [40], [41], [91], [93], [59], [44], [43], [45], [42], [47], [60], [62], [61], [60, 61], [62, 61], [], [], [], []]
def sgX (i : Nat) : List Int32 := sgXL.getD i []
def TxOk (Γ : G9) (sg tx : Nat → Nat) : Prop := ∀ i : Nat, i < 54 → SF Γ (va_OF clSign "text" "Ljava/lang/String;" (.ref (tx i)) (sg i)) ∧ StOk Γ (tx i) (sgX i)
def fin54 (i : Nat) : Fin 54 := ⟨i % 54, Nat.mod_lt _ (by decide)⟩
theorem fin54_val {i : Nat} (h : i < 54) : i = (fin54 i).val := (Nat.mod_eq_of_lt h).symm
theorem nI_gt_of {n i : Nat} (h : ¬ nI n ≤ nI i) (hi : i < 2 ^ 31) : i < n := Nat.not_le.mp fun w => h (nI_le w hi)
theorem d_Tokens_pastBlanks_2 : decode M_Tokens_pastBlanks.2.1 2 = .ok (.iload_n 2, 1) := by decide +kernel
theorem d_Tokens_pastBlanks_3 : decode M_Tokens_pastBlanks.2.1 3 = .ok (.aload_n 0, 1) := by decide +kernel
theorem d_Tokens_pastBlanks_4 : decode M_Tokens_pastBlanks.2.1 4 = .ok (.invokevirtual 43, 3) := by decide +kernel
theorem d_Tokens_pastBlanks_7 : decode M_Tokens_pastBlanks.2.1 7 = .ok (.if_icmp .ge 29, 3) := by decide +kernel
theorem d_Tokens_pastBlanks_36 : decode M_Tokens_pastBlanks.2.1 36 = .ok (.iload_n 2, 1) := by decide +kernel
theorem d_Tokens_pastBlanks_37 : decode M_Tokens_pastBlanks.2.1 37 = .ok (.ireturn, 1) := by decide +kernel
theorem d_Tokens_pastBlanks_10 : decode M_Tokens_pastBlanks.2.1 10 = .ok (.aload_n 0, 1) := by decide +kernel
theorem d_Tokens_pastBlanks_11 : decode M_Tokens_pastBlanks.2.1 11 = .ok (.iload_n 2, 1) := by decide +kernel
theorem d_Tokens_pastBlanks_12 : decode M_Tokens_pastBlanks.2.1 12 = .ok (.invokevirtual 82, 3) := by decide +kernel
theorem d_Tokens_pastBlanks_15 : decode M_Tokens_pastBlanks.2.1 15 = .ok (.bipush 32, 2) := by decide +kernel
theorem d_Tokens_pastBlanks_17 : decode M_Tokens_pastBlanks.2.1 17 = .ok (.if_icmp .eq 13, 3) := by decide +kernel
theorem d_Tokens_pastBlanks_20 : decode M_Tokens_pastBlanks.2.1 20 = .ok (.aload_n 0, 1) := by decide +kernel
theorem d_Tokens_pastBlanks_21 : decode M_Tokens_pastBlanks.2.1 21 = .ok (.iload_n 2, 1) := by decide +kernel
theorem d_Tokens_pastBlanks_22 : decode M_Tokens_pastBlanks.2.1 22 = .ok (.invokevirtual 82, 3) := by decide +kernel
theorem d_Tokens_pastBlanks_25 : decode M_Tokens_pastBlanks.2.1 25 = .ok (.bipush 10, 2) := by decide +kernel
theorem d_Tokens_pastBlanks_27 : decode M_Tokens_pastBlanks.2.1 27 = .ok (.if_icmp .ne 9, 3) := by decide +kernel
theorem d_Tokens_pastBlanks_30 : decode M_Tokens_pastBlanks.2.1 30 = .ok (.iinc 2 1, 3) := by decide +kernel
theorem d_Tokens_pastBlanks_33 : decode M_Tokens_pastBlanks.2.1 33 = .ok (.goto (-31), 3) := by decide +kernel
def l_Tokens_pastBlanks_2 (A : TA) (x1 : Nat) : Nat → Nat → Nat
  | 0, i => i
  | k + 1, i => (if (nI (s_Tape_size A)) ≤ (nI i) then i else (if (s_Tape_byteAt A (nI i)) = 32 then (l_Tokens_pastBlanks_2 A x1 k (i + 1)) else (if (s_Tape_byteAt A (nI i)) = 10 then (l_Tokens_pastBlanks_2 A x1 k (i + 1)) else i)))
set_option maxRecDepth 100000 in
set_option maxHeartbeats 4000000 in
theorem l_Tokens_pastBlanks_2_go {Γ : G9} {sg tx : Nat → Nat} {sa : Nat} {h : AH} {t z : Nat} {n : Nat} {A : TA} {x1 : Nat} (bx1 : x1 ≤ 2000) (hA : ta_sz A ≤ 2000) (hn20 : n ≤ 2000) (hn : ta_sz A = n) : ∀ (k i : Nat), n ≤ i + k → i + k ≤ 5000 → Go Γ M_Tokens_pastBlanks 1 0 0 2 [some (.ref t), some (.int (nI x1)), some (.int (nI i))] [] (blk h t 2 (taC Γ t A)) z (RQ (some (.int (nI (l_Tokens_pastBlanks_2 A x1 k i)))) (blk h t 2 (taC Γ t A)) z) noX := by
  intro k
  induction k with
  | zero =>
    intro i hi hb
    unfold l_Tokens_pastBlanks_2
    refine Go.iload_2 d_Tokens_pastBlanks_2 rfl ?_
    refine Go.aload_0 d_Tokens_pastBlanks_3 rfl ?_
    refine Go.cv0r d_Tokens_pastBlanks_4 rfl l_Tokens_43 k_Tape_size_v (ta_g0) rfl (c_Tape_size) rfl rfl rfl ?_
    refine Go.icmp_ge (t := 36) d_Tokens_pastBlanks_7 (by decide) rfl (fun c7_1 => ?_) (fun c7_1 => ?_)
    · refine Go.iload_2 d_Tokens_pastBlanks_36 rfl ?_
      exact Go.iret d_Tokens_pastBlanks_37 rfl rfl ⟨rfl, rfl, rfl⟩
    · exact absurd (nI_le (by omega) (by omega)) c7_1
  | succ k ih =>
    intro i hi hb
    unfold l_Tokens_pastBlanks_2
    refine Go.iload_2 d_Tokens_pastBlanks_2 rfl ?_
    refine Go.aload_0 d_Tokens_pastBlanks_3 rfl ?_
    refine Go.cv0r d_Tokens_pastBlanks_4 rfl l_Tokens_43 k_Tape_size_v (ta_g0) rfl (c_Tape_size) rfl rfl rfl ?_
    refine Go.icmp_ge (t := 36) d_Tokens_pastBlanks_7 (by decide) rfl (fun c7_1 => ?_) (fun c7_1 => ?_)
    · refine Go.iload_2 d_Tokens_pastBlanks_36 rfl ?_
      rw [if_pos c7_1]
      exact Go.iret d_Tokens_pastBlanks_37 rfl rfl ⟨rfl, rfl, rfl⟩
    · refine Go.aload_0 d_Tokens_pastBlanks_10 rfl ?_
      refine Go.iload_2 d_Tokens_pastBlanks_11 rfl ?_
      refine Go.cv1r d_Tokens_pastBlanks_12 rfl l_Tokens_82 k_Tape_byteAt_v (ta_g0) rfl (c_Tape_byteAt) rfl rfl rfl ?_
      refine Go.bipush (v := 32) d_Tokens_pastBlanks_15 rfl (by decide) ?_
      refine Go.icmp_eq (t := 30) d_Tokens_pastBlanks_17 (by decide) rfl (fun c17_2 => ?_) (fun c17_2 => ?_)
      · refine Go.iinc_2 d_Tokens_pastBlanks_30 rfl (by rfl) (nI_inc _) ?_
        refine Go.goto (t := 2) d_Tokens_pastBlanks_33 (by decide) ?_
        rw [if_neg c7_1, if_pos c17_2]
        exact ih (i + 1) (by omega) (by omega)
      · refine Go.aload_0 d_Tokens_pastBlanks_20 rfl ?_
        refine Go.iload_2 d_Tokens_pastBlanks_21 rfl ?_
        refine Go.cv1r d_Tokens_pastBlanks_22 rfl l_Tokens_82 k_Tape_byteAt_v (ta_g0) rfl (c_Tape_byteAt) rfl rfl rfl ?_
        refine Go.bipush (v := 10) d_Tokens_pastBlanks_25 rfl (by decide) ?_
        refine Go.icmp_ne (t := 36) d_Tokens_pastBlanks_27 (by decide) rfl (fun c27_3 => ?_) (fun c27_3 => ?_)
        · refine Go.iload_2 d_Tokens_pastBlanks_36 rfl ?_
          rw [if_neg c7_1, if_neg c17_2, if_neg c27_3]
          exact Go.iret d_Tokens_pastBlanks_37 rfl rfl ⟨rfl, rfl, rfl⟩
        · refine Go.iinc_2 d_Tokens_pastBlanks_30 rfl (by rfl) (nI_inc _) ?_
          refine Go.goto (t := 2) d_Tokens_pastBlanks_33 (by decide) ?_
          rw [if_neg c7_1, if_neg c17_2, if_pos c27_3]
          exact ih (i + 1) (by omega) (by omega)
theorem d_Tokens_pastBlanks_0 : decode M_Tokens_pastBlanks.2.1 0 = .ok (.iload_n 1, 1) := by decide +kernel
theorem d_Tokens_pastBlanks_1 : decode M_Tokens_pastBlanks.2.1 1 = .ok (.istore_n 2, 1) := by decide +kernel
def s_Tokens_pastBlanks (A : TA) (x1 : Nat) : Nat := (l_Tokens_pastBlanks_2 A x1 ((ta_sz A) - x1) x1)
set_option maxRecDepth 100000 in
set_option maxHeartbeats 4000000 in
theorem c_Tokens_pastBlanks {Γ : G9} {sg tx : Nat → Nat} {sa : Nat} {h : AH} {t z : Nat} {A : TA} {x1 : Nat} {vx1 : Int32} (ex1 : vx1 = nI x1) (bx1 : x1 ≤ 2000) (hA : ta_sz A ≤ 2000) : CallR Γ M_Tokens_pastBlanks 1 [.ref t, .int vx1] (blk h t 2 (taC Γ t A)) z (some (.int (nI (s_Tokens_pastBlanks A x1)))) (blk h t 2 (taC Γ t A)) := by
  subst ex1
  refine Call.of_go (L := [some (.ref t), some (.int (nI x1)), none]) (by decide +kernel) rfl (by exact Nat.le_of_ble_eq_true rfl) ?_
  unfold s_Tokens_pastBlanks
  refine Go.iload_1 d_Tokens_pastBlanks_0 rfl ?_
  refine Go.istore_2 d_Tokens_pastBlanks_1 rfl (by rfl) ?_
  exact l_Tokens_pastBlanks_2_go (n := (ta_sz A)) bx1 hA (by omega) rfl ((ta_sz A) - x1) x1 (by omega) (by omega)
theorem d_Tokens_tokenEnd_17 : decode M_Tokens_tokenEnd.2.1 17 = .ok (.iload_n 3, 1) := by decide +kernel
theorem d_Tokens_tokenEnd_18 : decode M_Tokens_tokenEnd.2.1 18 = .ok (.aload_n 0, 1) := by decide +kernel
theorem d_Tokens_tokenEnd_19 : decode M_Tokens_tokenEnd.2.1 19 = .ok (.invokevirtual 43, 3) := by decide +kernel
theorem d_Tokens_tokenEnd_22 : decode M_Tokens_tokenEnd.2.1 22 = .ok (.if_icmp .ge 88, 3) := by decide +kernel
theorem d_Tokens_tokenEnd_110 : decode M_Tokens_tokenEnd.2.1 110 = .ok (.iload_n 3, 1) := by decide +kernel
theorem d_Tokens_tokenEnd_111 : decode M_Tokens_tokenEnd.2.1 111 = .ok (.ireturn, 1) := by decide +kernel
theorem d_Tokens_tokenEnd_25 : decode M_Tokens_tokenEnd.2.1 25 = .ok (.aload_n 0, 1) := by decide +kernel
theorem d_Tokens_tokenEnd_26 : decode M_Tokens_tokenEnd.2.1 26 = .ok (.iload_n 3, 1) := by decide +kernel
theorem d_Tokens_tokenEnd_27 : decode M_Tokens_tokenEnd.2.1 27 = .ok (.invokevirtual 82, 3) := by decide +kernel
theorem d_Tokens_tokenEnd_30 : decode M_Tokens_tokenEnd.2.1 30 = .ok (.invokestatic 86, 3) := by decide +kernel
theorem d_Tokens_tokenEnd_33 : decode M_Tokens_tokenEnd.2.1 33 = .ok (.ifCond .ne 14, 3) := by decide +kernel
theorem d_Tokens_tokenEnd_36 : decode M_Tokens_tokenEnd.2.1 36 = .ok (.aload_n 0, 1) := by decide +kernel
theorem d_Tokens_tokenEnd_37 : decode M_Tokens_tokenEnd.2.1 37 = .ok (.iload_n 3, 1) := by decide +kernel
theorem d_Tokens_tokenEnd_38 : decode M_Tokens_tokenEnd.2.1 38 = .ok (.invokevirtual 82, 3) := by decide +kernel
theorem d_Tokens_tokenEnd_41 : decode M_Tokens_tokenEnd.2.1 41 = .ok (.invokestatic 90, 3) := by decide +kernel
theorem d_Tokens_tokenEnd_44 : decode M_Tokens_tokenEnd.2.1 44 = .ok (.ifCond .eq 66, 3) := by decide +kernel
theorem d_Tokens_tokenEnd_47 : decode M_Tokens_tokenEnd.2.1 47 = .ok (.iinc 3 1, 3) := by decide +kernel
theorem d_Tokens_tokenEnd_50 : decode M_Tokens_tokenEnd.2.1 50 = .ok (.goto (-33), 3) := by decide +kernel
def l_Tokens_tokenEnd_17 (A : TA) (x1 : Nat) : Nat → Nat → Nat
  | 0, i => i
  | k + 1, i => (if (nI (s_Tape_size A)) ≤ (nI i) then i else (if (s_Tokens_isLetter (s_Tape_byteAt A (nI i))) = 0 then (if (s_Tokens_isDigit (s_Tape_byteAt A (nI i))) = 0 then i else (l_Tokens_tokenEnd_17 A x1 k (i + 1))) else (l_Tokens_tokenEnd_17 A x1 k (i + 1))))
set_option maxRecDepth 100000 in
set_option maxHeartbeats 4000000 in
theorem l_Tokens_tokenEnd_17_go {Γ : G9} {sg tx : Nat → Nat} {sa : Nat} {h : AH} {t z : Nat} {n : Nat} {A : TA} {x1 : Nat} (bx1 : x1 ≤ 2000) (hA : ta_sz A ≤ 2000) (hn20 : n ≤ 2000) (hn : ta_sz A = n) : ∀ (k i : Nat), n ≤ i + k → i + k ≤ 5000 → Go Γ M_Tokens_tokenEnd 1 0 0 17 [some (.ref t), some (.int (nI x1)), none, some (.int (nI i))] [] (blk h t 2 (taC Γ t A)) z (RQ (some (.int (nI (l_Tokens_tokenEnd_17 A x1 k i)))) (blk h t 2 (taC Γ t A)) z) noX := by
  intro k
  induction k with
  | zero =>
    intro i hi hb
    unfold l_Tokens_tokenEnd_17
    refine Go.iload_3 d_Tokens_tokenEnd_17 rfl ?_
    refine Go.aload_0 d_Tokens_tokenEnd_18 rfl ?_
    refine Go.cv0r d_Tokens_tokenEnd_19 rfl l_Tokens_43 k_Tape_size_v (ta_g0) rfl (c_Tape_size) rfl rfl rfl ?_
    refine Go.icmp_ge (t := 110) d_Tokens_tokenEnd_22 (by decide) rfl (fun c22_1 => ?_) (fun c22_1 => ?_)
    · refine Go.iload_3 d_Tokens_tokenEnd_110 rfl ?_
      exact Go.iret d_Tokens_tokenEnd_111 rfl rfl ⟨rfl, rfl, rfl⟩
    · exact absurd (nI_le (by omega) (by omega)) c22_1
  | succ k ih =>
    intro i hi hb
    unfold l_Tokens_tokenEnd_17
    refine Go.iload_3 d_Tokens_tokenEnd_17 rfl ?_
    refine Go.aload_0 d_Tokens_tokenEnd_18 rfl ?_
    refine Go.cv0r d_Tokens_tokenEnd_19 rfl l_Tokens_43 k_Tape_size_v (ta_g0) rfl (c_Tape_size) rfl rfl rfl ?_
    refine Go.icmp_ge (t := 110) d_Tokens_tokenEnd_22 (by decide) rfl (fun c22_1 => ?_) (fun c22_1 => ?_)
    · refine Go.iload_3 d_Tokens_tokenEnd_110 rfl ?_
      rw [if_pos c22_1]
      exact Go.iret d_Tokens_tokenEnd_111 rfl rfl ⟨rfl, rfl, rfl⟩
    · refine Go.aload_0 d_Tokens_tokenEnd_25 rfl ?_
      refine Go.iload_3 d_Tokens_tokenEnd_26 rfl ?_
      refine Go.cv1r d_Tokens_tokenEnd_27 rfl l_Tokens_82 k_Tape_byteAt_v (ta_g0) rfl (c_Tape_byteAt) rfl rfl rfl ?_
      refine Go.cs1r d_Tokens_tokenEnd_30 rfl l_Tokens_86 k_Tokens_isLetter_s rfl (c_Tokens_isLetter) rfl rfl rfl ?_
      refine Go.if_ne (t := 47) d_Tokens_tokenEnd_33 (by decide) rfl (fun c33_2 => ?_) (fun c33_2 => ?_)
      · refine Go.iinc_3 d_Tokens_tokenEnd_47 rfl (by rfl) (nI_inc _) ?_
        refine Go.goto (t := 17) d_Tokens_tokenEnd_50 (by decide) ?_
        rw [if_neg c22_1, if_neg c33_2]
        exact ih (i + 1) (by omega) (by omega)
      · refine Go.aload_0 d_Tokens_tokenEnd_36 rfl ?_
        refine Go.iload_3 d_Tokens_tokenEnd_37 rfl ?_
        refine Go.cv1r d_Tokens_tokenEnd_38 rfl l_Tokens_82 k_Tape_byteAt_v (ta_g0) rfl (c_Tape_byteAt) rfl rfl rfl ?_
        refine Go.cs1r d_Tokens_tokenEnd_41 rfl l_Tokens_90 k_Tokens_isDigit_s rfl (c_Tokens_isDigit) rfl rfl rfl ?_
        refine Go.if_eq (t := 110) d_Tokens_tokenEnd_44 (by decide) rfl (fun c44_3 => ?_) (fun c44_3 => ?_)
        · refine Go.iload_3 d_Tokens_tokenEnd_110 rfl ?_
          rw [if_neg c22_1, if_pos c33_2, if_pos c44_3]
          exact Go.iret d_Tokens_tokenEnd_111 rfl rfl ⟨rfl, rfl, rfl⟩
        · refine Go.iinc_3 d_Tokens_tokenEnd_47 rfl (by rfl) (nI_inc _) ?_
          refine Go.goto (t := 17) d_Tokens_tokenEnd_50 (by decide) ?_
          rw [if_neg c22_1, if_pos c33_2, if_neg c44_3]
          exact ih (i + 1) (by omega) (by omega)
theorem d_Tokens_tokenEnd_60 : decode M_Tokens_tokenEnd.2.1 60 = .ok (.iload_n 3, 1) := by decide +kernel
theorem d_Tokens_tokenEnd_61 : decode M_Tokens_tokenEnd.2.1 61 = .ok (.aload_n 0, 1) := by decide +kernel
theorem d_Tokens_tokenEnd_62 : decode M_Tokens_tokenEnd.2.1 62 = .ok (.invokevirtual 43, 3) := by decide +kernel
theorem d_Tokens_tokenEnd_65 : decode M_Tokens_tokenEnd.2.1 65 = .ok (.if_icmp .ge 45, 3) := by decide +kernel
theorem d_Tokens_tokenEnd_68 : decode M_Tokens_tokenEnd.2.1 68 = .ok (.aload_n 0, 1) := by decide +kernel
theorem d_Tokens_tokenEnd_69 : decode M_Tokens_tokenEnd.2.1 69 = .ok (.iload_n 3, 1) := by decide +kernel
theorem d_Tokens_tokenEnd_70 : decode M_Tokens_tokenEnd.2.1 70 = .ok (.invokevirtual 82, 3) := by decide +kernel
theorem d_Tokens_tokenEnd_73 : decode M_Tokens_tokenEnd.2.1 73 = .ok (.invokestatic 90, 3) := by decide +kernel
theorem d_Tokens_tokenEnd_76 : decode M_Tokens_tokenEnd.2.1 76 = .ok (.ifCond .eq 34, 3) := by decide +kernel
theorem d_Tokens_tokenEnd_79 : decode M_Tokens_tokenEnd.2.1 79 = .ok (.iinc 3 1, 3) := by decide +kernel
theorem d_Tokens_tokenEnd_82 : decode M_Tokens_tokenEnd.2.1 82 = .ok (.goto (-22), 3) := by decide +kernel
def l_Tokens_tokenEnd_60 (A : TA) (x1 : Nat) : Nat → Nat → Nat
  | 0, i => i
  | k + 1, i => (if (nI (s_Tape_size A)) ≤ (nI i) then i else (if (s_Tokens_isDigit (s_Tape_byteAt A (nI i))) = 0 then i else (l_Tokens_tokenEnd_60 A x1 k (i + 1))))
set_option maxRecDepth 100000 in
set_option maxHeartbeats 4000000 in
theorem l_Tokens_tokenEnd_60_go {Γ : G9} {sg tx : Nat → Nat} {sa : Nat} {h : AH} {t z : Nat} {n : Nat} {A : TA} {x1 : Nat} (bx1 : x1 ≤ 2000) (hA : ta_sz A ≤ 2000) (hn20 : n ≤ 2000) (hn : ta_sz A = n) : ∀ (k i : Nat), n ≤ i + k → i + k ≤ 5000 → Go Γ M_Tokens_tokenEnd 1 0 0 60 [some (.ref t), some (.int (nI x1)), none, some (.int (nI i))] [] (blk h t 2 (taC Γ t A)) z (RQ (some (.int (nI (l_Tokens_tokenEnd_60 A x1 k i)))) (blk h t 2 (taC Γ t A)) z) noX := by
  intro k
  induction k with
  | zero =>
    intro i hi hb
    unfold l_Tokens_tokenEnd_60
    refine Go.iload_3 d_Tokens_tokenEnd_60 rfl ?_
    refine Go.aload_0 d_Tokens_tokenEnd_61 rfl ?_
    refine Go.cv0r d_Tokens_tokenEnd_62 rfl l_Tokens_43 k_Tape_size_v (ta_g0) rfl (c_Tape_size) rfl rfl rfl ?_
    refine Go.icmp_ge (t := 110) d_Tokens_tokenEnd_65 (by decide) rfl (fun c65_1 => ?_) (fun c65_1 => ?_)
    · refine Go.iload_3 d_Tokens_tokenEnd_110 rfl ?_
      exact Go.iret d_Tokens_tokenEnd_111 rfl rfl ⟨rfl, rfl, rfl⟩
    · exact absurd (nI_le (by omega) (by omega)) c65_1
  | succ k ih =>
    intro i hi hb
    unfold l_Tokens_tokenEnd_60
    refine Go.iload_3 d_Tokens_tokenEnd_60 rfl ?_
    refine Go.aload_0 d_Tokens_tokenEnd_61 rfl ?_
    refine Go.cv0r d_Tokens_tokenEnd_62 rfl l_Tokens_43 k_Tape_size_v (ta_g0) rfl (c_Tape_size) rfl rfl rfl ?_
    refine Go.icmp_ge (t := 110) d_Tokens_tokenEnd_65 (by decide) rfl (fun c65_1 => ?_) (fun c65_1 => ?_)
    · refine Go.iload_3 d_Tokens_tokenEnd_110 rfl ?_
      rw [if_pos c65_1]
      exact Go.iret d_Tokens_tokenEnd_111 rfl rfl ⟨rfl, rfl, rfl⟩
    · refine Go.aload_0 d_Tokens_tokenEnd_68 rfl ?_
      refine Go.iload_3 d_Tokens_tokenEnd_69 rfl ?_
      refine Go.cv1r d_Tokens_tokenEnd_70 rfl l_Tokens_82 k_Tape_byteAt_v (ta_g0) rfl (c_Tape_byteAt) rfl rfl rfl ?_
      refine Go.cs1r d_Tokens_tokenEnd_73 rfl l_Tokens_90 k_Tokens_isDigit_s rfl (c_Tokens_isDigit) rfl rfl rfl ?_
      refine Go.if_eq (t := 110) d_Tokens_tokenEnd_76 (by decide) rfl (fun c76_2 => ?_) (fun c76_2 => ?_)
      · refine Go.iload_3 d_Tokens_tokenEnd_110 rfl ?_
        rw [if_neg c65_1, if_pos c76_2]
        exact Go.iret d_Tokens_tokenEnd_111 rfl rfl ⟨rfl, rfl, rfl⟩
      · refine Go.iinc_3 d_Tokens_tokenEnd_79 rfl (by rfl) (nI_inc _) ?_
        refine Go.goto (t := 60) d_Tokens_tokenEnd_82 (by decide) ?_
        rw [if_neg c65_1, if_neg c76_2]
        exact ih (i + 1) (by omega) (by omega)
theorem d_Tokens_tokenEnd_0 : decode M_Tokens_tokenEnd.2.1 0 = .ok (.aload_n 0, 1) := by decide +kernel
theorem d_Tokens_tokenEnd_1 : decode M_Tokens_tokenEnd.2.1 1 = .ok (.iload_n 1, 1) := by decide +kernel
theorem d_Tokens_tokenEnd_2 : decode M_Tokens_tokenEnd.2.1 2 = .ok (.invokevirtual 82, 3) := by decide +kernel
theorem d_Tokens_tokenEnd_5 : decode M_Tokens_tokenEnd.2.1 5 = .ok (.istore_n 2, 1) := by decide +kernel
theorem d_Tokens_tokenEnd_6 : decode M_Tokens_tokenEnd.2.1 6 = .ok (.iload_n 1, 1) := by decide +kernel
theorem d_Tokens_tokenEnd_7 : decode M_Tokens_tokenEnd.2.1 7 = .ok (.iconst 1, 1) := by decide +kernel
theorem d_Tokens_tokenEnd_8 : decode M_Tokens_tokenEnd.2.1 8 = .ok (.iadd, 1) := by decide +kernel
theorem d_Tokens_tokenEnd_9 : decode M_Tokens_tokenEnd.2.1 9 = .ok (.istore_n 3, 1) := by decide +kernel
theorem d_Tokens_tokenEnd_10 : decode M_Tokens_tokenEnd.2.1 10 = .ok (.iload_n 2, 1) := by decide +kernel
theorem d_Tokens_tokenEnd_11 : decode M_Tokens_tokenEnd.2.1 11 = .ok (.invokestatic 86, 3) := by decide +kernel
theorem d_Tokens_tokenEnd_14 : decode M_Tokens_tokenEnd.2.1 14 = .ok (.ifCond .eq 39, 3) := by decide +kernel
theorem d_Tokens_tokenEnd_53 : decode M_Tokens_tokenEnd.2.1 53 = .ok (.iload_n 2, 1) := by decide +kernel
theorem d_Tokens_tokenEnd_54 : decode M_Tokens_tokenEnd.2.1 54 = .ok (.invokestatic 90, 3) := by decide +kernel
theorem d_Tokens_tokenEnd_57 : decode M_Tokens_tokenEnd.2.1 57 = .ok (.ifCond .eq 28, 3) := by decide +kernel
theorem d_Tokens_tokenEnd_85 : decode M_Tokens_tokenEnd.2.1 85 = .ok (.iload_n 2, 1) := by decide +kernel
theorem d_Tokens_tokenEnd_86 : decode M_Tokens_tokenEnd.2.1 86 = .ok (.bipush 60, 2) := by decide +kernel
theorem d_Tokens_tokenEnd_88 : decode M_Tokens_tokenEnd.2.1 88 = .ok (.if_icmp .eq 9, 3) := by decide +kernel
theorem d_Tokens_tokenEnd_91 : decode M_Tokens_tokenEnd.2.1 91 = .ok (.iload_n 2, 1) := by decide +kernel
theorem d_Tokens_tokenEnd_92 : decode M_Tokens_tokenEnd.2.1 92 = .ok (.bipush 62, 2) := by decide +kernel
theorem d_Tokens_tokenEnd_94 : decode M_Tokens_tokenEnd.2.1 94 = .ok (.if_icmp .ne 16, 3) := by decide +kernel
theorem d_Tokens_tokenEnd_97 : decode M_Tokens_tokenEnd.2.1 97 = .ok (.aload_n 0, 1) := by decide +kernel
theorem d_Tokens_tokenEnd_98 : decode M_Tokens_tokenEnd.2.1 98 = .ok (.iload_n 3, 1) := by decide +kernel
theorem d_Tokens_tokenEnd_99 : decode M_Tokens_tokenEnd.2.1 99 = .ok (.invokevirtual 82, 3) := by decide +kernel
theorem d_Tokens_tokenEnd_102 : decode M_Tokens_tokenEnd.2.1 102 = .ok (.bipush 61, 2) := by decide +kernel
theorem d_Tokens_tokenEnd_104 : decode M_Tokens_tokenEnd.2.1 104 = .ok (.if_icmp .ne 6, 3) := by decide +kernel
theorem d_Tokens_tokenEnd_107 : decode M_Tokens_tokenEnd.2.1 107 = .ok (.iinc 3 1, 3) := by decide +kernel
def s_Tokens_tokenEnd (A : TA) (x1 : Nat) : Nat := (if (s_Tokens_isLetter (s_Tape_byteAt A (nI x1))) = 0 then (if (s_Tokens_isDigit (s_Tape_byteAt A (nI x1))) = 0 then (if (s_Tape_byteAt A (nI x1)) = 60 then (if (s_Tape_byteAt A (nI (x1 + 1))) = 61 then ((x1 + 1) + 1) else (x1 + 1)) else (if (s_Tape_byteAt A (nI x1)) = 62 then (if (s_Tape_byteAt A (nI (x1 + 1))) = 61 then ((x1 + 1) + 1) else (x1 + 1)) else (x1 + 1))) else (l_Tokens_tokenEnd_60 A x1 ((ta_sz A) - (x1 + 1)) (x1 + 1))) else (l_Tokens_tokenEnd_17 A x1 ((ta_sz A) - (x1 + 1)) (x1 + 1)))
set_option maxRecDepth 100000 in
set_option maxHeartbeats 4000000 in
theorem c_Tokens_tokenEnd {Γ : G9} {sg tx : Nat → Nat} {sa : Nat} {h : AH} {t z : Nat} {A : TA} {x1 : Nat} {vx1 : Int32} (ex1 : vx1 = nI x1) (bx1 : x1 ≤ 2000) (hA : ta_sz A ≤ 2000) : CallR Γ M_Tokens_tokenEnd 1 [.ref t, .int vx1] (blk h t 2 (taC Γ t A)) z (some (.int (nI (s_Tokens_tokenEnd A x1)))) (blk h t 2 (taC Γ t A)) := by
  subst ex1
  refine Call.of_go (L := [some (.ref t), some (.int (nI x1)), none, none]) (by decide +kernel) rfl (by exact Nat.le_of_ble_eq_true rfl) ?_
  unfold s_Tokens_tokenEnd
  refine Go.aload_0 d_Tokens_tokenEnd_0 rfl ?_
  refine Go.iload_1 d_Tokens_tokenEnd_1 rfl ?_
  refine Go.cv1r d_Tokens_tokenEnd_2 rfl l_Tokens_82 k_Tape_byteAt_v (ta_g0) rfl (c_Tape_byteAt) rfl rfl rfl ?_
  refine Go.istore_2 d_Tokens_tokenEnd_5 rfl (by rfl) ?_
  refine Go.iload_1 d_Tokens_tokenEnd_6 rfl ?_
  refine Go.iconst (v := 1) d_Tokens_tokenEnd_7 rfl (by decide) ?_
  refine Go.iadd d_Tokens_tokenEnd_8 rfl ?_
  rw [show (nI x1) + 1 = nI (x1 + 1) from nI_add _ _]
  refine Go.istore_3 d_Tokens_tokenEnd_9 rfl (by rfl) ?_
  refine Go.iload_2 d_Tokens_tokenEnd_10 rfl ?_
  refine Go.cs1r d_Tokens_tokenEnd_11 rfl l_Tokens_86 k_Tokens_isLetter_s rfl (c_Tokens_isLetter) rfl rfl rfl ?_
  refine Go.if_eq (t := 53) d_Tokens_tokenEnd_14 (by decide) rfl (fun c14_1 => ?_) (fun c14_1 => ?_)
  · refine Go.iload_2 d_Tokens_tokenEnd_53 rfl ?_
    refine Go.cs1r d_Tokens_tokenEnd_54 rfl l_Tokens_90 k_Tokens_isDigit_s rfl (c_Tokens_isDigit) rfl rfl rfl ?_
    refine Go.if_eq (t := 85) d_Tokens_tokenEnd_57 (by decide) rfl (fun c57_2 => ?_) (fun c57_2 => ?_)
    · refine Go.iload_2 d_Tokens_tokenEnd_85 rfl ?_
      refine Go.bipush (v := 60) d_Tokens_tokenEnd_86 rfl (by decide) ?_
      refine Go.icmp_eq (t := 97) d_Tokens_tokenEnd_88 (by decide) rfl (fun c88_3 => ?_) (fun c88_3 => ?_)
      · refine Go.aload_0 d_Tokens_tokenEnd_97 rfl ?_
        refine Go.iload_3 d_Tokens_tokenEnd_98 rfl ?_
        refine Go.cv1r d_Tokens_tokenEnd_99 rfl l_Tokens_82 k_Tape_byteAt_v (ta_g0) rfl (c_Tape_byteAt) rfl rfl rfl ?_
        refine Go.bipush (v := 61) d_Tokens_tokenEnd_102 rfl (by decide) ?_
        refine Go.icmp_ne (t := 110) d_Tokens_tokenEnd_104 (by decide) rfl (fun c104_4 => ?_) (fun c104_4 => ?_)
        · refine Go.iload_3 d_Tokens_tokenEnd_110 rfl ?_
          rw [if_pos c14_1, if_pos c57_2, if_pos c88_3, if_neg c104_4]
          exact Go.iret d_Tokens_tokenEnd_111 rfl rfl ⟨rfl, rfl, rfl⟩
        · refine Go.iinc_3 d_Tokens_tokenEnd_107 rfl (by rfl) (nI_inc _) ?_
          refine Go.iload_3 d_Tokens_tokenEnd_110 rfl ?_
          rw [if_pos c14_1, if_pos c57_2, if_pos c88_3, if_pos c104_4]
          exact Go.iret d_Tokens_tokenEnd_111 rfl rfl ⟨rfl, rfl, rfl⟩
      · refine Go.iload_2 d_Tokens_tokenEnd_91 rfl ?_
        refine Go.bipush (v := 62) d_Tokens_tokenEnd_92 rfl (by decide) ?_
        refine Go.icmp_ne (t := 110) d_Tokens_tokenEnd_94 (by decide) rfl (fun c94_5 => ?_) (fun c94_5 => ?_)
        · refine Go.iload_3 d_Tokens_tokenEnd_110 rfl ?_
          rw [if_pos c14_1, if_pos c57_2, if_neg c88_3, if_neg c94_5]
          exact Go.iret d_Tokens_tokenEnd_111 rfl rfl ⟨rfl, rfl, rfl⟩
        · refine Go.aload_0 d_Tokens_tokenEnd_97 rfl ?_
          refine Go.iload_3 d_Tokens_tokenEnd_98 rfl ?_
          refine Go.cv1r d_Tokens_tokenEnd_99 rfl l_Tokens_82 k_Tape_byteAt_v (ta_g0) rfl (c_Tape_byteAt) rfl rfl rfl ?_
          refine Go.bipush (v := 61) d_Tokens_tokenEnd_102 rfl (by decide) ?_
          refine Go.icmp_ne (t := 110) d_Tokens_tokenEnd_104 (by decide) rfl (fun c104_6 => ?_) (fun c104_6 => ?_)
          · refine Go.iload_3 d_Tokens_tokenEnd_110 rfl ?_
            rw [if_pos c14_1, if_pos c57_2, if_neg c88_3, if_pos c94_5, if_neg c104_6]
            exact Go.iret d_Tokens_tokenEnd_111 rfl rfl ⟨rfl, rfl, rfl⟩
          · refine Go.iinc_3 d_Tokens_tokenEnd_107 rfl (by rfl) (nI_inc _) ?_
            refine Go.iload_3 d_Tokens_tokenEnd_110 rfl ?_
            rw [if_pos c14_1, if_pos c57_2, if_neg c88_3, if_pos c94_5, if_pos c104_6]
            exact Go.iret d_Tokens_tokenEnd_111 rfl rfl ⟨rfl, rfl, rfl⟩
    · rw [if_pos c14_1, if_neg c57_2]
      refine Go.fgt [some (.ref t), some (.int (nI x1)), none, some (.int (nI (x1 + 1)))] (by repeat' (first | exact trivial | refine ⟨rfl, ?_⟩)) ?_
      exact l_Tokens_tokenEnd_60_go (n := (ta_sz A)) bx1 hA (by omega) rfl ((ta_sz A) - (x1 + 1)) (x1 + 1) (by omega) (by omega)
  · rw [if_neg c14_1]
    refine Go.fgt [some (.ref t), some (.int (nI x1)), none, some (.int (nI (x1 + 1)))] (by repeat' (first | exact trivial | refine ⟨rfl, ?_⟩)) ?_
    exact l_Tokens_tokenEnd_17_go (n := (ta_sz A)) bx1 hA (by omega) rfl ((ta_sz A) - (x1 + 1)) (x1 + 1) (by omega) (by omega)
theorem d_Tokens_reads_15 : decode M_Tokens_reads.2.1 15 = .ok (.iload 4, 2) := by decide +kernel
theorem d_Tokens_reads_17 : decode M_Tokens_reads.2.1 17 = .ok (.aload_n 3, 1) := by decide +kernel
theorem d_Tokens_reads_18 : decode M_Tokens_reads.2.1 18 = .ok (.invokevirtual 110, 3) := by decide +kernel
theorem d_Tokens_reads_21 : decode M_Tokens_reads.2.1 21 = .ok (.if_icmp .ge 28, 3) := by decide +kernel
theorem d_Tokens_reads_49 : decode M_Tokens_reads.2.1 49 = .ok (.iconst 1, 1) := by decide +kernel
theorem d_Tokens_reads_50 : decode M_Tokens_reads.2.1 50 = .ok (.ireturn, 1) := by decide +kernel
theorem d_Tokens_reads_24 : decode M_Tokens_reads.2.1 24 = .ok (.aload_n 3, 1) := by decide +kernel
theorem d_Tokens_reads_25 : decode M_Tokens_reads.2.1 25 = .ok (.iload 4, 2) := by decide +kernel
theorem d_Tokens_reads_27 : decode M_Tokens_reads.2.1 27 = .ok (.invokevirtual 115, 3) := by decide +kernel
theorem d_Tokens_reads_30 : decode M_Tokens_reads.2.1 30 = .ok (.aload_n 0, 1) := by decide +kernel
theorem d_Tokens_reads_31 : decode M_Tokens_reads.2.1 31 = .ok (.iload_n 1, 1) := by decide +kernel
theorem d_Tokens_reads_32 : decode M_Tokens_reads.2.1 32 = .ok (.iload 4, 2) := by decide +kernel
theorem d_Tokens_reads_34 : decode M_Tokens_reads.2.1 34 = .ok (.iadd, 1) := by decide +kernel
theorem d_Tokens_reads_35 : decode M_Tokens_reads.2.1 35 = .ok (.invokevirtual 82, 3) := by decide +kernel
theorem d_Tokens_reads_38 : decode M_Tokens_reads.2.1 38 = .ok (.if_icmp .eq 5, 3) := by decide +kernel
theorem d_Tokens_reads_41 : decode M_Tokens_reads.2.1 41 = .ok (.iconst 0, 1) := by decide +kernel
theorem d_Tokens_reads_42 : decode M_Tokens_reads.2.1 42 = .ok (.ireturn, 1) := by decide +kernel
theorem d_Tokens_reads_43 : decode M_Tokens_reads.2.1 43 = .ok (.iinc 4 1, 3) := by decide +kernel
theorem d_Tokens_reads_46 : decode M_Tokens_reads.2.1 46 = .ok (.goto (-31), 3) := by decide +kernel
def l_Tokens_reads_15 (A : TA) (x1 : Nat) (x2 : Nat) (x3 : List Int32) : Nat → Nat → Int32
  | 0, i => 1
  | k + 1, i => (if (chr x3 i) = (s_Tape_byteAt A (nI (x1 + i))) then (l_Tokens_reads_15 A x1 x2 x3 k (i + 1)) else 0)
set_option maxRecDepth 100000 in
set_option maxHeartbeats 4000000 in
theorem l_Tokens_reads_15_go {Γ : G9} {sg tx : Nat → Nat} {sa : Nat} {h : AH} {t z : Nat} {n : Nat} {A : TA} {x1 : Nat} {x2 : Nat} {x3 : List Int32} {ax3 : Nat} (hx3 : StOk Γ ax3 x3) (bx1 : x1 ≤ 2000) (bx2 : x2 ≤ 2000) (hk : CsOk Γ) (hn20 : n ≤ 20) (hn : x3.length = n) : ∀ (k i : Nat), i + k = n → Go Γ M_Tokens_reads 4 0 0 15 [some (.ref t), some (.int (nI x1)), some (.int (nI x2)), some (.ref ax3), some (.int (nI i))] [] (blk h t 2 (taC Γ t A)) z (RQ (some (.int (l_Tokens_reads_15 A x1 x2 x3 k i))) (blk h t 2 (taC Γ t A)) z) noX := by
  intro k
  induction k with
  | zero =>
    intro i hi
    unfold l_Tokens_reads_15
    refine Go.iload_4 d_Tokens_reads_15 rfl ?_
    refine Go.aload_3 d_Tokens_reads_17 rfl ?_
    refine Go.callO (as := []) d_Tokens_reads_18 rfl l_Tokens_110 k_String_length_v rfl hx3.2.1 rfl (c_String_length hk hx3) rfl rfl rfl ?_
    refine Go.icmp_ge (t := 49) d_Tokens_reads_21 (by decide) rfl (fun c21_1 => ?_) (fun c21_1 => ?_)
    · refine Go.iconst (v := 1) d_Tokens_reads_49 rfl (by decide) ?_
      exact Go.iret d_Tokens_reads_50 rfl rfl ⟨rfl, rfl, rfl⟩
    · exact absurd (nI_le (by omega) (by omega)) c21_1
  | succ k ih =>
    intro i hi
    unfold l_Tokens_reads_15
    refine Go.iload_4 d_Tokens_reads_15 rfl ?_
    refine Go.aload_3 d_Tokens_reads_17 rfl ?_
    refine Go.callO (as := []) d_Tokens_reads_18 rfl l_Tokens_110 k_String_length_v rfl hx3.2.1 rfl (c_String_length hk hx3) rfl rfl rfl ?_
    refine Go.icmp_ge (t := 49) d_Tokens_reads_21 (by decide) rfl (fun c21_1 => ?_) (fun c21_1 => ?_)
    · exact absurd c21_1 (nI_ge (by omega) (by omega))
    · refine Go.aload_3 d_Tokens_reads_24 rfl ?_
      refine Go.iload_4 d_Tokens_reads_25 rfl ?_
      refine Go.callO (as := [.int (nI i)]) d_Tokens_reads_27 rfl l_Tokens_115 k_String_charAt_v rfl hx3.2.1 rfl (c_String_charAt hk hx3 (by omega)) rfl rfl rfl ?_
      refine Go.aload_0 d_Tokens_reads_30 rfl ?_
      refine Go.iload_1 d_Tokens_reads_31 rfl ?_
      refine Go.iload_4 d_Tokens_reads_32 rfl ?_
      refine Go.iadd d_Tokens_reads_34 rfl ?_
      rw [show (nI x1) + (nI i) = nI (x1 + i) from nI_add _ _]
      refine Go.cv1r d_Tokens_reads_35 rfl l_Tokens_82 k_Tape_byteAt_v (ta_g0) rfl (c_Tape_byteAt) rfl rfl rfl ?_
      refine Go.icmp_eq (t := 43) d_Tokens_reads_38 (by decide) rfl (fun c38_2 => ?_) (fun c38_2 => ?_)
      · refine Go.iinc_4 d_Tokens_reads_43 rfl (by rfl) (nI_inc _) ?_
        refine Go.goto (t := 15) d_Tokens_reads_46 (by decide) ?_
        rw [if_pos c38_2]
        exact ih (i + 1) (by omega)
      · refine Go.iconst (v := 0) d_Tokens_reads_41 rfl (by decide) ?_
        rw [if_neg c38_2]
        exact Go.iret d_Tokens_reads_42 rfl rfl ⟨rfl, rfl, rfl⟩
theorem d_Tokens_reads_0 : decode M_Tokens_reads.2.1 0 = .ok (.aload_n 3, 1) := by decide +kernel
theorem d_Tokens_reads_1 : decode M_Tokens_reads.2.1 1 = .ok (.invokevirtual 110, 3) := by decide +kernel
theorem d_Tokens_reads_4 : decode M_Tokens_reads.2.1 4 = .ok (.iload_n 2, 1) := by decide +kernel
theorem d_Tokens_reads_5 : decode M_Tokens_reads.2.1 5 = .ok (.iload_n 1, 1) := by decide +kernel
theorem d_Tokens_reads_6 : decode M_Tokens_reads.2.1 6 = .ok (.isub, 1) := by decide +kernel
theorem d_Tokens_reads_7 : decode M_Tokens_reads.2.1 7 = .ok (.if_icmp .eq 5, 3) := by decide +kernel
theorem d_Tokens_reads_10 : decode M_Tokens_reads.2.1 10 = .ok (.iconst 0, 1) := by decide +kernel
theorem d_Tokens_reads_11 : decode M_Tokens_reads.2.1 11 = .ok (.ireturn, 1) := by decide +kernel
theorem d_Tokens_reads_12 : decode M_Tokens_reads.2.1 12 = .ok (.iconst 0, 1) := by decide +kernel
theorem d_Tokens_reads_13 : decode M_Tokens_reads.2.1 13 = .ok (.istore 4, 2) := by decide +kernel
def s_Tokens_reads (A : TA) (x1 : Nat) (x2 : Nat) (x3 : List Int32) : Int32 := (if (nI x3.length) = ((nI x2) - (nI x1)) then (l_Tokens_reads_15 A x1 x2 x3 (x3.length) 0) else 0)
set_option maxRecDepth 100000 in
set_option maxHeartbeats 4000000 in
theorem c_Tokens_reads {Γ : G9} {sg tx : Nat → Nat} {sa : Nat} {h : AH} {t z : Nat} {A : TA} {x1 : Nat} {vx1 : Int32} {x2 : Nat} {vx2 : Int32} {x3 : List Int32} {ax3 : Nat} (ex1 : vx1 = nI x1) (bx1 : x1 ≤ 2000) (ex2 : vx2 = nI x2) (bx2 : x2 ≤ 2000) (hx3 : StOk Γ ax3 x3) (hk : CsOk Γ) : CallR Γ M_Tokens_reads 4 [.ref t, .int vx1, .int vx2, .ref ax3] (blk h t 2 (taC Γ t A)) z (some (.int (s_Tokens_reads A x1 x2 x3))) (blk h t 2 (taC Γ t A)) := by
  subst ex1
  subst ex2
  refine Call.of_go (L := [some (.ref t), some (.int (nI x1)), some (.int (nI x2)), some (.ref ax3), none]) (by decide +kernel) rfl (by exact Nat.le_of_ble_eq_true rfl) ?_
  unfold s_Tokens_reads
  refine Go.aload_3 d_Tokens_reads_0 rfl ?_
  refine Go.callO (as := []) d_Tokens_reads_1 rfl l_Tokens_110 k_String_length_v rfl hx3.2.1 rfl (c_String_length hk hx3) rfl rfl rfl ?_
  refine Go.iload_2 d_Tokens_reads_4 rfl ?_
  refine Go.iload_1 d_Tokens_reads_5 rfl ?_
  refine Go.isub d_Tokens_reads_6 rfl ?_
  refine Go.icmp_eq (t := 12) d_Tokens_reads_7 (by decide) rfl (fun c7_1 => ?_) (fun c7_1 => ?_)
  · refine Go.iconst (v := 0) d_Tokens_reads_12 rfl (by decide) ?_
    refine Go.istore_4 d_Tokens_reads_13 rfl (by rfl) ?_
    rw [if_pos c7_1]
    exact l_Tokens_reads_15_go (n := (x3.length)) hx3 bx1 bx2 hk (by omega) rfl (x3.length) 0 (by omega)
  · refine Go.iconst (v := 0) d_Tokens_reads_10 rfl (by decide) ?_
    rw [if_neg c7_1]
    exact Go.iret d_Tokens_reads_11 rfl rfl ⟨rfl, rfl, rfl⟩
