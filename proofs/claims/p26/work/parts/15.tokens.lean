/-! Tape, Names, Tokens: the simple ones -/
abbrev TA : Type := (Nat → Int32) × Nat
abbrev ta_by (S : TA) : Nat → Int32 := S.1
abbrev ta_by' (S : TA) (v : Nat → Int32) : TA := (v, S.2)
abbrev ta_sz (S : TA) : Nat := S.2
abbrev ta_sz' (S : TA) (v : Nat) : TA := (S.1, v)
def taC (Γ : G9) (b : Nat) (S : TA) : Nat → Option va_E
  | 0 => some (.inr (5, [.ref (b + 1), .int (nI (ta_sz S))]))
  | 1 => some (aB Γ 2000 (ta_by S))
  | _ => none
theorem ta_g0 {Γ : G9} {h : AH} {b : Nat} {S : TA} : blk h b 2 (taC Γ b S) (b) = some (.inr (5, [.ref (b + 1), .int (nI (ta_sz S))])) := blk_at0 (by decide)
theorem ta_g1 {Γ : G9} {h : AH} {b : Nat} {S : TA} : blk h b 2 (taC Γ b S) (b + 1) = some (aB Γ 2000 (ta_by S)) := blk_at (k := 1) (by decide)
theorem ta_p_sz {Γ : G9} {h : AH} {b : Nat} {S : TA} {v : Nat} : hup (blk h b 2 (taC Γ b S)) (b) (.inr (5, [.ref (b + 1), .int (nI (ta_sz S))].set 1 (.int (nI v)))) = blk h b 2 (taC Γ b (ta_sz' S v)) := by
  rw [blk_hup0 (by decide)]
  refine blk_ext fun j hj => ?_
  match j, hj with
  | 0, _ => rfl
  | 1, _ => rfl
  | _ + 2, w => exact absurd w (by omega)
theorem ta_a_by {Γ : G9} {h : AH} {b : Nat} {S : TA} {v : Nat → Int32} : hup (blk h b 2 (taC Γ b S)) (b + 1) (aB Γ 2000 v) = blk h b 2 (taC Γ b (ta_by' S v)) := by
  rw [blk_hup (by decide)]
  refine blk_ext fun j hj => ?_
  match j, hj with
  | 0, _ => rfl
  | 1, _ => rfl
  | _ + 2, w => exact absurd w (by omega)
abbrev NM : Type := (Nat → Int64) × Nat
abbrev nm_na (S : NM) : Nat → Int64 := S.1
abbrev nm_na' (S : NM) (v : Nat → Int64) : NM := (v, S.2)
abbrev nm_sz (S : NM) : Nat := S.2
abbrev nm_sz' (S : NM) (v : Nat) : NM := (S.1, v)
def nmC (Γ : G9) (b : Nat) (S : NM) : Nat → Option va_E
  | 0 => some (.inr (2, [.ref (b + 1), .int (nI (nm_sz S))]))
  | 1 => some (aJ Γ 6 (nm_na S))
  | _ => none
theorem nm_g0 {Γ : G9} {h : AH} {b : Nat} {S : NM} : blk h b 2 (nmC Γ b S) (b) = some (.inr (2, [.ref (b + 1), .int (nI (nm_sz S))])) := blk_at0 (by decide)
theorem nm_g1 {Γ : G9} {h : AH} {b : Nat} {S : NM} : blk h b 2 (nmC Γ b S) (b + 1) = some (aJ Γ 6 (nm_na S)) := blk_at (k := 1) (by decide)
theorem nm_p_sz {Γ : G9} {h : AH} {b : Nat} {S : NM} {v : Nat} : hup (blk h b 2 (nmC Γ b S)) (b) (.inr (2, [.ref (b + 1), .int (nI (nm_sz S))].set 1 (.int (nI v)))) = blk h b 2 (nmC Γ b (nm_sz' S v)) := by
  rw [blk_hup0 (by decide)]
  refine blk_ext fun j hj => ?_
  match j, hj with
  | 0, _ => rfl
  | 1, _ => rfl
  | _ + 2, w => exact absurd w (by omega)
theorem nm_a_na {Γ : G9} {h : AH} {b : Nat} {S : NM} {v : Nat → Int64} : hup (blk h b 2 (nmC Γ b S)) (b + 1) (aJ Γ 6 v) = blk h b 2 (nmC Γ b (nm_na' S v)) := by
  rw [blk_hup (by decide)]
  refine blk_ext fun j hj => ?_
  match j, hj with
  | 0, _ => rfl
  | 1, _ => rfl
  | _ + 2, w => exact absurd w (by omega)
abbrev TK : Type := (Nat → Option (Fin 54)) × (Nat → Int32) × (Nat → Int64) × Int32 × Int32 × Fin 54 × Int32 × Int64 × Int32
abbrev tk_sg (S : TK) : Nat → Option (Fin 54) := S.1
abbrev tk_sg' (S : TK) (v : Nat → Option (Fin 54)) : TK := (v, S.2.1, S.2.2.1, S.2.2.2.1, S.2.2.2.2.1, S.2.2.2.2.2.1, S.2.2.2.2.2.2.1, S.2.2.2.2.2.2.2.1, S.2.2.2.2.2.2.2.2)
abbrev tk_st (S : TK) : Nat → Int32 := S.2.1
abbrev tk_st' (S : TK) (v : Nat → Int32) : TK := (S.1, v, S.2.2.1, S.2.2.2.1, S.2.2.2.2.1, S.2.2.2.2.2.1, S.2.2.2.2.2.2.1, S.2.2.2.2.2.2.2.1, S.2.2.2.2.2.2.2.2)
abbrev tk_wo (S : TK) : Nat → Int64 := S.2.2.1
abbrev tk_wo' (S : TK) (v : Nat → Int64) : TK := (S.1, S.2.1, v, S.2.2.2.1, S.2.2.2.2.1, S.2.2.2.2.2.1, S.2.2.2.2.2.2.1, S.2.2.2.2.2.2.2.1, S.2.2.2.2.2.2.2.2)
abbrev tk_sz (S : TK) : Int32 := S.2.2.2.1
abbrev tk_sz' (S : TK) (v : Int32) : TK := (S.1, S.2.1, S.2.2.1, v, S.2.2.2.2.1, S.2.2.2.2.2.1, S.2.2.2.2.2.2.1, S.2.2.2.2.2.2.2.1, S.2.2.2.2.2.2.2.2)
abbrev tk_at (S : TK) : Int32 := S.2.2.2.2.1
abbrev tk_at' (S : TK) (v : Int32) : TK := (S.1, S.2.1, S.2.2.1, S.2.2.2.1, v, S.2.2.2.2.2.1, S.2.2.2.2.2.2.1, S.2.2.2.2.2.2.2.1, S.2.2.2.2.2.2.2.2)
abbrev tk_sn (S : TK) : Fin 54 := S.2.2.2.2.2.1
abbrev tk_sn' (S : TK) (v : Fin 54) : TK := (S.1, S.2.1, S.2.2.1, S.2.2.2.1, S.2.2.2.2.1, v, S.2.2.2.2.2.2.1, S.2.2.2.2.2.2.2.1, S.2.2.2.2.2.2.2.2)
abbrev tk_b (S : TK) : Int32 := S.2.2.2.2.2.2.1
abbrev tk_b' (S : TK) (v : Int32) : TK := (S.1, S.2.1, S.2.2.1, S.2.2.2.1, S.2.2.2.2.1, S.2.2.2.2.2.1, v, S.2.2.2.2.2.2.2.1, S.2.2.2.2.2.2.2.2)
abbrev tk_w (S : TK) : Int64 := S.2.2.2.2.2.2.2.1
abbrev tk_w' (S : TK) (v : Int64) : TK := (S.1, S.2.1, S.2.2.1, S.2.2.2.1, S.2.2.2.2.1, S.2.2.2.2.2.1, S.2.2.2.2.2.2.1, v, S.2.2.2.2.2.2.2.2)
abbrev tk_br (S : TK) : Int32 := S.2.2.2.2.2.2.2.2
abbrev tk_br' (S : TK) (v : Int32) : TK := (S.1, S.2.1, S.2.2.1, S.2.2.2.1, S.2.2.2.2.1, S.2.2.2.2.2.1, S.2.2.2.2.2.2.1, S.2.2.2.2.2.2.2.1, v)
def tkC (Γ : G9) (sg : Nat → Nat) (b : Nat) (S : TK) : Nat → Option va_E
  | 0 => some (.inr (7, [.ref (b + 1), .ref (b + 2), .ref (b + 3), .int (tk_sz S), .int (tk_at S), .ref (sg (tk_sn S).val), .int (tk_b S), .long (tk_w S), .int (tk_br S)]))
  | 1 => some (aQ Γ 401 (fun j => ((tk_sg S) j).map fun w => sg w.val))
  | 2 => some (aI Γ 401 (tk_st S))
  | 3 => some (aJ Γ 401 (tk_wo S))
  | _ => none
theorem tk_g0 {Γ : G9} {sg : Nat → Nat} {h : AH} {b : Nat} {S : TK} : blk h b 4 (tkC Γ sg b S) (b) = some (.inr (7, [.ref (b + 1), .ref (b + 2), .ref (b + 3), .int (tk_sz S), .int (tk_at S), .ref (sg (tk_sn S).val), .int (tk_b S), .long (tk_w S), .int (tk_br S)])) := blk_at0 (by decide)
theorem tk_g1 {Γ : G9} {sg : Nat → Nat} {h : AH} {b : Nat} {S : TK} : blk h b 4 (tkC Γ sg b S) (b + 1) = some (aQ Γ 401 (fun j => ((tk_sg S) j).map fun w => sg w.val)) := blk_at (k := 1) (by decide)
theorem tk_g2 {Γ : G9} {sg : Nat → Nat} {h : AH} {b : Nat} {S : TK} : blk h b 4 (tkC Γ sg b S) (b + 2) = some (aI Γ 401 (tk_st S)) := blk_at (k := 2) (by decide)
theorem tk_g3 {Γ : G9} {sg : Nat → Nat} {h : AH} {b : Nat} {S : TK} : blk h b 4 (tkC Γ sg b S) (b + 3) = some (aJ Γ 401 (tk_wo S)) := blk_at (k := 3) (by decide)
theorem tk_p_sz {Γ : G9} {sg : Nat → Nat} {h : AH} {b : Nat} {S : TK} {v : Int32} : hup (blk h b 4 (tkC Γ sg b S)) (b) (.inr (7, [.ref (b + 1), .ref (b + 2), .ref (b + 3), .int (tk_sz S), .int (tk_at S), .ref (sg (tk_sn S).val), .int (tk_b S), .long (tk_w S), .int (tk_br S)].set 3 (.int v))) = blk h b 4 (tkC Γ sg b (tk_sz' S v)) := by
  rw [blk_hup0 (by decide)]
  refine blk_ext fun j hj => ?_
  match j, hj with
  | 0, _ => rfl
  | 1, _ => rfl
  | 2, _ => rfl
  | 3, _ => rfl
  | _ + 4, w => exact absurd w (by omega)
theorem tk_p_at {Γ : G9} {sg : Nat → Nat} {h : AH} {b : Nat} {S : TK} {v : Int32} : hup (blk h b 4 (tkC Γ sg b S)) (b) (.inr (7, [.ref (b + 1), .ref (b + 2), .ref (b + 3), .int (tk_sz S), .int (tk_at S), .ref (sg (tk_sn S).val), .int (tk_b S), .long (tk_w S), .int (tk_br S)].set 4 (.int v))) = blk h b 4 (tkC Γ sg b (tk_at' S v)) := by
  rw [blk_hup0 (by decide)]
  refine blk_ext fun j hj => ?_
  match j, hj with
  | 0, _ => rfl
  | 1, _ => rfl
  | 2, _ => rfl
  | 3, _ => rfl
  | _ + 4, w => exact absurd w (by omega)
theorem tk_p_sn {Γ : G9} {sg : Nat → Nat} {h : AH} {b : Nat} {S : TK} {v : Fin 54} : hup (blk h b 4 (tkC Γ sg b S)) (b) (.inr (7, [.ref (b + 1), .ref (b + 2), .ref (b + 3), .int (tk_sz S), .int (tk_at S), .ref (sg (tk_sn S).val), .int (tk_b S), .long (tk_w S), .int (tk_br S)].set 5 (.ref (sg v.val)))) = blk h b 4 (tkC Γ sg b (tk_sn' S v)) := by
  rw [blk_hup0 (by decide)]
  refine blk_ext fun j hj => ?_
  match j, hj with
  | 0, _ => rfl
  | 1, _ => rfl
  | 2, _ => rfl
  | 3, _ => rfl
  | _ + 4, w => exact absurd w (by omega)
theorem tk_p_b {Γ : G9} {sg : Nat → Nat} {h : AH} {b : Nat} {S : TK} {v : Int32} : hup (blk h b 4 (tkC Γ sg b S)) (b) (.inr (7, [.ref (b + 1), .ref (b + 2), .ref (b + 3), .int (tk_sz S), .int (tk_at S), .ref (sg (tk_sn S).val), .int (tk_b S), .long (tk_w S), .int (tk_br S)].set 6 (.int v))) = blk h b 4 (tkC Γ sg b (tk_b' S v)) := by
  rw [blk_hup0 (by decide)]
  refine blk_ext fun j hj => ?_
  match j, hj with
  | 0, _ => rfl
  | 1, _ => rfl
  | 2, _ => rfl
  | 3, _ => rfl
  | _ + 4, w => exact absurd w (by omega)
theorem tk_p_w {Γ : G9} {sg : Nat → Nat} {h : AH} {b : Nat} {S : TK} {v : Int64} : hup (blk h b 4 (tkC Γ sg b S)) (b) (.inr (7, [.ref (b + 1), .ref (b + 2), .ref (b + 3), .int (tk_sz S), .int (tk_at S), .ref (sg (tk_sn S).val), .int (tk_b S), .long (tk_w S), .int (tk_br S)].set 7 (.long v))) = blk h b 4 (tkC Γ sg b (tk_w' S v)) := by
  rw [blk_hup0 (by decide)]
  refine blk_ext fun j hj => ?_
  match j, hj with
  | 0, _ => rfl
  | 1, _ => rfl
  | 2, _ => rfl
  | 3, _ => rfl
  | _ + 4, w => exact absurd w (by omega)
theorem tk_p_br {Γ : G9} {sg : Nat → Nat} {h : AH} {b : Nat} {S : TK} {v : Int32} : hup (blk h b 4 (tkC Γ sg b S)) (b) (.inr (7, [.ref (b + 1), .ref (b + 2), .ref (b + 3), .int (tk_sz S), .int (tk_at S), .ref (sg (tk_sn S).val), .int (tk_b S), .long (tk_w S), .int (tk_br S)].set 8 (.int v))) = blk h b 4 (tkC Γ sg b (tk_br' S v)) := by
  rw [blk_hup0 (by decide)]
  refine blk_ext fun j hj => ?_
  match j, hj with
  | 0, _ => rfl
  | 1, _ => rfl
  | 2, _ => rfl
  | 3, _ => rfl
  | _ + 4, w => exact absurd w (by omega)
theorem tk_a_sg {Γ : G9} {sg : Nat → Nat} {h : AH} {b : Nat} {S : TK} {v : Nat → Option (Fin 54)} : hup (blk h b 4 (tkC Γ sg b S)) (b + 1) (aQ Γ 401 (fun j => (v j).map fun w => sg w.val)) = blk h b 4 (tkC Γ sg b (tk_sg' S v)) := by
  rw [blk_hup (by decide)]
  refine blk_ext fun j hj => ?_
  match j, hj with
  | 0, _ => rfl
  | 1, _ => rfl
  | 2, _ => rfl
  | 3, _ => rfl
  | _ + 4, w => exact absurd w (by omega)
theorem tk_a_st {Γ : G9} {sg : Nat → Nat} {h : AH} {b : Nat} {S : TK} {v : Nat → Int32} : hup (blk h b 4 (tkC Γ sg b S)) (b + 2) (aI Γ 401 v) = blk h b 4 (tkC Γ sg b (tk_st' S v)) := by
  rw [blk_hup (by decide)]
  refine blk_ext fun j hj => ?_
  match j, hj with
  | 0, _ => rfl
  | 1, _ => rfl
  | 2, _ => rfl
  | 3, _ => rfl
  | _ + 4, w => exact absurd w (by omega)
theorem tk_a_wo {Γ : G9} {sg : Nat → Nat} {h : AH} {b : Nat} {S : TK} {v : Nat → Int64} : hup (blk h b 4 (tkC Γ sg b S)) (b + 3) (aJ Γ 401 v) = blk h b 4 (tkC Γ sg b (tk_wo' S v)) := by
  rw [blk_hup (by decide)]
  refine blk_ext fun j hj => ?_
  match j, hj with
  | 0, _ => rfl
  | 1, _ => rfl
  | 2, _ => rfl
  | 3, _ => rfl
  | _ + 4, w => exact absurd w (by omega)
theorem d_Tape_size_0 : decode M_Tape_size.2.1 0 = .ok (.aload_n 0, 1) := by decide +kernel
theorem d_Tape_size_1 : decode M_Tape_size.2.1 1 = .ok (.getfield 15, 3) := by decide +kernel
theorem d_Tape_size_4 : decode M_Tape_size.2.1 4 = .ok (.ireturn, 1) := by decide +kernel
abbrev s_Tape_size (A : TA) : Nat := (ta_sz A)
set_option maxRecDepth 100000 in
set_option maxHeartbeats 4000000 in
theorem c_Tape_size {Γ : G9} {h : AH} {t z : Nat} {A : TA} : CallR Γ M_Tape_size 0 [.ref t] (blk h t 2 (taC Γ t A)) z (some (.int (nI (ta_sz A)))) (blk h t 2 (taC Γ t A)) := by
  refine Call.of_go (L := [some (.ref t)]) (by decide +kernel) rfl (by exact Nat.le_of_ble_eq_true rfl) ?_
  refine Go.aload_0 d_Tape_size_0 rfl ?_
  refine Go.getfield d_Tape_size_1 rfl f_Tape_15 (ta_g0) (by rfl) ?_
  exact Go.iret d_Tape_size_4 rfl rfl ⟨rfl, rfl, rfl⟩
theorem d_Tape_byteAt_0 : decode M_Tape_byteAt.2.1 0 = .ok (.iload_n 1, 1) := by decide +kernel
theorem d_Tape_byteAt_1 : decode M_Tape_byteAt.2.1 1 = .ok (.ifCond .lt 29, 3) := by decide +kernel
theorem d_Tape_byteAt_4 : decode M_Tape_byteAt.2.1 4 = .ok (.iload_n 1, 1) := by decide +kernel
theorem d_Tape_byteAt_5 : decode M_Tape_byteAt.2.1 5 = .ok (.aload_n 0, 1) := by decide +kernel
theorem d_Tape_byteAt_6 : decode M_Tape_byteAt.2.1 6 = .ok (.getfield 15, 3) := by decide +kernel
theorem d_Tape_byteAt_9 : decode M_Tape_byteAt.2.1 9 = .ok (.if_icmp .ge 21, 3) := by decide +kernel
theorem d_Tape_byteAt_12 : decode M_Tape_byteAt.2.1 12 = .ok (.iload_n 1, 1) := by decide +kernel
theorem d_Tape_byteAt_13 : decode M_Tape_byteAt.2.1 13 = .ok (.aload_n 0, 1) := by decide +kernel
theorem d_Tape_byteAt_14 : decode M_Tape_byteAt.2.1 14 = .ok (.getfield 9, 3) := by decide +kernel
theorem d_Tape_byteAt_17 : decode M_Tape_byteAt.2.1 17 = .ok (.arraylength, 1) := by decide +kernel
theorem d_Tape_byteAt_18 : decode M_Tape_byteAt.2.1 18 = .ok (.if_icmp .ge 12, 3) := by decide +kernel
theorem d_Tape_byteAt_21 : decode M_Tape_byteAt.2.1 21 = .ok (.aload_n 0, 1) := by decide +kernel
theorem d_Tape_byteAt_22 : decode M_Tape_byteAt.2.1 22 = .ok (.getfield 9, 3) := by decide +kernel
theorem d_Tape_byteAt_25 : decode M_Tape_byteAt.2.1 25 = .ok (.iload_n 1, 1) := by decide +kernel
theorem d_Tape_byteAt_26 : decode M_Tape_byteAt.2.1 26 = .ok (.baload, 1) := by decide +kernel
theorem d_Tape_byteAt_27 : decode M_Tape_byteAt.2.1 27 = .ok (.goto 4, 3) := by decide +kernel
theorem d_Tape_byteAt_30 : decode M_Tape_byteAt.2.1 30 = .ok (.iconst (-1), 1) := by decide +kernel
theorem d_Tape_byteAt_31 : decode M_Tape_byteAt.2.1 31 = .ok (.ireturn, 1) := by decide +kernel
def s_Tape_byteAt (A : TA) (x1 : Int32) : Int32 := (if x1 < 0 then (-1) else (if (nI (ta_sz A)) ≤ x1 then (-1) else (if (nI 2000) ≤ x1 then (-1) else ((ta_by A) x1.toNatClampNeg))))
set_option maxRecDepth 100000 in
set_option maxHeartbeats 4000000 in
theorem c_Tape_byteAt {Γ : G9} {h : AH} {t z : Nat} {A : TA} {x1 : Int32} : CallR Γ M_Tape_byteAt 0 [.ref t, .int x1] (blk h t 2 (taC Γ t A)) z (some (.int (s_Tape_byteAt A x1))) (blk h t 2 (taC Γ t A)) := by
  refine Call.of_go (L := [some (.ref t), some (.int x1)]) (by decide +kernel) rfl (by exact Nat.le_of_ble_eq_true rfl) ?_
  unfold s_Tape_byteAt
  refine Go.iload_1 d_Tape_byteAt_0 rfl ?_
  refine Go.if_lt (t := 30) d_Tape_byteAt_1 (by decide) rfl (fun c1_1 => ?_) (fun c1_1 => ?_)
  · refine Go.iconst (v := (-1)) d_Tape_byteAt_30 rfl (by decide) ?_
    rw [if_pos c1_1]
    exact Go.iret d_Tape_byteAt_31 rfl rfl ⟨rfl, rfl, rfl⟩
  · refine Go.iload_1 d_Tape_byteAt_4 rfl ?_
    refine Go.aload_0 d_Tape_byteAt_5 rfl ?_
    refine Go.getfield d_Tape_byteAt_6 rfl f_Tape_15 (ta_g0) (by rfl) ?_
    refine Go.icmp_ge (t := 30) d_Tape_byteAt_9 (by decide) rfl (fun c9_2 => ?_) (fun c9_2 => ?_)
    · refine Go.iconst (v := (-1)) d_Tape_byteAt_30 rfl (by decide) ?_
      rw [if_neg c1_1, if_pos c9_2]
      exact Go.iret d_Tape_byteAt_31 rfl rfl ⟨rfl, rfl, rfl⟩
    · refine Go.iload_1 d_Tape_byteAt_12 rfl ?_
      refine Go.aload_0 d_Tape_byteAt_13 rfl ?_
      refine Go.getfield d_Tape_byteAt_14 rfl f_Tape_9 (ta_g0) (by rfl) ?_
      refine Go.alen (n := (nI 2000)) d_Tape_byteAt_17 rfl (ta_g1) (by rfl) rfl ?_
      refine Go.icmp_ge (t := 30) d_Tape_byteAt_18 (by decide) rfl (fun c18_3 => ?_) (fun c18_3 => ?_)
      · refine Go.iconst (v := (-1)) d_Tape_byteAt_30 rfl (by decide) ?_
        rw [if_neg c1_1, if_neg c9_2, if_pos c18_3]
        exact Go.iret d_Tape_byteAt_31 rfl rfl ⟨rfl, rfl, rfl⟩
      · refine Go.aload_0 d_Tape_byteAt_21 rfl ?_
        refine Go.getfield d_Tape_byteAt_22 rfl f_Tape_9 (ta_g0) (by rfl) ?_
        refine Go.iload_1 d_Tape_byteAt_25 rfl ?_
        refine Go.baload d_Tape_byteAt_26 rfl (ta_g1) (vp_ofL (n := 2000) (m := nI 2000) (by assumption) (by assumption) rfl (by decide)) ?_
        refine Go.goto (t := 31) d_Tape_byteAt_27 (by decide) ?_
        rw [if_neg c1_1, if_neg c9_2, if_neg c18_3]
        exact Go.iret d_Tape_byteAt_31 rfl rfl ⟨rfl, rfl, rfl⟩
theorem d_Tape_append_0 : decode M_Tape_append.2.1 0 = .ok (.bipush 24, 2) := by decide +kernel
theorem d_Tape_append_2 : decode M_Tape_append.2.1 2 = .ok (.istore_n 2, 1) := by decide +kernel
theorem d_Tape_append_3 : decode M_Tape_append.2.1 3 = .ok (.iload_n 2, 1) := by decide +kernel
theorem d_Tape_append_4 : decode M_Tape_append.2.1 4 = .ok (.ifCond .lt 51, 3) := by decide +kernel
theorem d_Tape_append_7 : decode M_Tape_append.2.1 7 = .ok (.aload_n 0, 1) := by decide +kernel
theorem d_Tape_append_8 : decode M_Tape_append.2.1 8 = .ok (.getfield 15, 3) := by decide +kernel
theorem d_Tape_append_11 : decode M_Tape_append.2.1 11 = .ok (.ifCond .lt 38, 3) := by decide +kernel
theorem d_Tape_append_14 : decode M_Tape_append.2.1 14 = .ok (.aload_n 0, 1) := by decide +kernel
theorem d_Tape_append_15 : decode M_Tape_append.2.1 15 = .ok (.getfield 15, 3) := by decide +kernel
theorem d_Tape_append_18 : decode M_Tape_append.2.1 18 = .ok (.aload_n 0, 1) := by decide +kernel
theorem d_Tape_append_19 : decode M_Tape_append.2.1 19 = .ok (.getfield 9, 3) := by decide +kernel
theorem d_Tape_append_22 : decode M_Tape_append.2.1 22 = .ok (.arraylength, 1) := by decide +kernel
theorem d_Tape_append_23 : decode M_Tape_append.2.1 23 = .ok (.if_icmp .ge 26, 3) := by decide +kernel
theorem d_Tape_append_26 : decode M_Tape_append.2.1 26 = .ok (.aload_n 0, 1) := by decide +kernel
theorem d_Tape_append_27 : decode M_Tape_append.2.1 27 = .ok (.getfield 9, 3) := by decide +kernel
theorem d_Tape_append_30 : decode M_Tape_append.2.1 30 = .ok (.aload_n 0, 1) := by decide +kernel
theorem d_Tape_append_31 : decode M_Tape_append.2.1 31 = .ok (.getfield 15, 3) := by decide +kernel
theorem d_Tape_append_34 : decode M_Tape_append.2.1 34 = .ok (.iload_n 1, 1) := by decide +kernel
theorem d_Tape_append_35 : decode M_Tape_append.2.1 35 = .ok (.iload_n 2, 1) := by decide +kernel
theorem d_Tape_append_36 : decode M_Tape_append.2.1 36 = .ok (.ishr, 1) := by decide +kernel
theorem d_Tape_append_37 : decode M_Tape_append.2.1 37 = .ok (.i2b, 1) := by decide +kernel
theorem d_Tape_append_38 : decode M_Tape_append.2.1 38 = .ok (.bastore, 1) := by decide +kernel
theorem d_Tape_append_39 : decode M_Tape_append.2.1 39 = .ok (.aload_n 0, 1) := by decide +kernel
theorem d_Tape_append_40 : decode M_Tape_append.2.1 40 = .ok (.dup, 1) := by decide +kernel
theorem d_Tape_append_41 : decode M_Tape_append.2.1 41 = .ok (.getfield 15, 3) := by decide +kernel
theorem d_Tape_append_44 : decode M_Tape_append.2.1 44 = .ok (.iconst 1, 1) := by decide +kernel
theorem d_Tape_append_45 : decode M_Tape_append.2.1 45 = .ok (.iadd, 1) := by decide +kernel
theorem d_Tape_append_46 : decode M_Tape_append.2.1 46 = .ok (.putfield 15, 3) := by decide +kernel
theorem d_Tape_append_49 : decode M_Tape_append.2.1 49 = .ok (.iinc 2 (-8), 3) := by decide +kernel
theorem d_Tape_append_52 : decode M_Tape_append.2.1 52 = .ok (.goto (-49), 3) := by decide +kernel
theorem d_Tape_append_55 : decode M_Tape_append.2.1 55 = .ok (.return_, 1) := by decide +kernel
def s_Tape_append (A : TA) (x1 : Int32) : TA := (if (nI 2000) ≤ (nI (ta_sz A)) then A else (if (nI 2000) ≤ (nI ((ta_sz A) + 1)) then (ta_sz' (ta_by' A (upd (ta_by A) (ta_sz A) (x1 >>> (24 &&& 31)).toInt8.toInt32.toInt8.toInt32)) ((ta_sz A) + 1)) else (if (nI 2000) ≤ (nI (((ta_sz A) + 1) + 1)) then (ta_sz' (ta_by' (ta_sz' (ta_by' A (upd (ta_by A) (ta_sz A) (x1 >>> (24 &&& 31)).toInt8.toInt32.toInt8.toInt32)) ((ta_sz A) + 1)) (upd (upd (ta_by A) (ta_sz A) (x1 >>> (24 &&& 31)).toInt8.toInt32.toInt8.toInt32) ((ta_sz A) + 1) (x1 >>> (16 &&& 31)).toInt8.toInt32.toInt8.toInt32)) (((ta_sz A) + 1) + 1)) else (if (nI 2000) ≤ (nI ((((ta_sz A) + 1) + 1) + 1)) then (ta_sz' (ta_by' (ta_sz' (ta_by' (ta_sz' (ta_by' A (upd (ta_by A) (ta_sz A) (x1 >>> (24 &&& 31)).toInt8.toInt32.toInt8.toInt32)) ((ta_sz A) + 1)) (upd (upd (ta_by A) (ta_sz A) (x1 >>> (24 &&& 31)).toInt8.toInt32.toInt8.toInt32) ((ta_sz A) + 1) (x1 >>> (16 &&& 31)).toInt8.toInt32.toInt8.toInt32)) (((ta_sz A) + 1) + 1)) (upd (upd (upd (ta_by A) (ta_sz A) (x1 >>> (24 &&& 31)).toInt8.toInt32.toInt8.toInt32) ((ta_sz A) + 1) (x1 >>> (16 &&& 31)).toInt8.toInt32.toInt8.toInt32) (((ta_sz A) + 1) + 1) (x1 >>> (8 &&& 31)).toInt8.toInt32.toInt8.toInt32)) ((((ta_sz A) + 1) + 1) + 1)) else (ta_sz' (ta_by' (ta_sz' (ta_by' (ta_sz' (ta_by' (ta_sz' (ta_by' A (upd (ta_by A) (ta_sz A) (x1 >>> (24 &&& 31)).toInt8.toInt32.toInt8.toInt32)) ((ta_sz A) + 1)) (upd (upd (ta_by A) (ta_sz A) (x1 >>> (24 &&& 31)).toInt8.toInt32.toInt8.toInt32) ((ta_sz A) + 1) (x1 >>> (16 &&& 31)).toInt8.toInt32.toInt8.toInt32)) (((ta_sz A) + 1) + 1)) (upd (upd (upd (ta_by A) (ta_sz A) (x1 >>> (24 &&& 31)).toInt8.toInt32.toInt8.toInt32) ((ta_sz A) + 1) (x1 >>> (16 &&& 31)).toInt8.toInt32.toInt8.toInt32) (((ta_sz A) + 1) + 1) (x1 >>> (8 &&& 31)).toInt8.toInt32.toInt8.toInt32)) ((((ta_sz A) + 1) + 1) + 1)) (upd (upd (upd (upd (ta_by A) (ta_sz A) (x1 >>> (24 &&& 31)).toInt8.toInt32.toInt8.toInt32) ((ta_sz A) + 1) (x1 >>> (16 &&& 31)).toInt8.toInt32.toInt8.toInt32) (((ta_sz A) + 1) + 1) (x1 >>> (8 &&& 31)).toInt8.toInt32.toInt8.toInt32) ((((ta_sz A) + 1) + 1) + 1) (x1 >>> (0 &&& 31)).toInt8.toInt32.toInt8.toInt32)) (((((ta_sz A) + 1) + 1) + 1) + 1))))))
set_option maxRecDepth 100000 in
set_option maxHeartbeats 4000000 in
theorem c_Tape_append {Γ : G9} {h : AH} {t z : Nat} {A : TA} {x1 : Int32} (hA : ta_sz A ≤ 2000) : CallR Γ M_Tape_append 0 [.ref t, .int x1] (blk h t 2 (taC Γ t A)) z none (blk h t 2 (taC Γ t (s_Tape_append A x1))) := by
  refine Call.of_go (L := [some (.ref t), some (.int x1), none]) (by decide +kernel) rfl (by exact Nat.le_of_ble_eq_true rfl) ?_
  unfold s_Tape_append
  refine Go.bipush (v := 24) d_Tape_append_0 rfl (by decide) ?_
  refine Go.istore_2 d_Tape_append_2 rfl (by rfl) ?_
  refine Go.iload_2 d_Tape_append_3 rfl ?_
  refine Go.if_lt (t := 55) d_Tape_append_4 (by decide) rfl (fun c4_1 => ?_) (fun c4_1 => ?_)
  · exact absurd c4_1 (by decide)
  · refine Go.aload_0 d_Tape_append_7 rfl ?_
    refine Go.getfield d_Tape_append_8 rfl f_Tape_15 (ta_g0) (by rfl) ?_
    refine Go.if_lt (t := 49) d_Tape_append_11 (by decide) rfl (fun c11_2 => ?_) (fun c11_2 => ?_)
    · exact absurd c11_2 (nI_pos (n := (ta_sz A)) (by omega))
    · refine Go.aload_0 d_Tape_append_14 rfl ?_
      refine Go.getfield d_Tape_append_15 rfl f_Tape_15 (ta_g0) (by rfl) ?_
      refine Go.aload_0 d_Tape_append_18 rfl ?_
      refine Go.getfield d_Tape_append_19 rfl f_Tape_9 (ta_g0) (by rfl) ?_
      refine Go.alen (n := (nI 2000)) d_Tape_append_22 rfl (ta_g1) (by rfl) rfl ?_
      refine Go.icmp_ge (t := 49) d_Tape_append_23 (by decide) rfl (fun c23_3 => ?_) (fun c23_3 => ?_)
      · refine Go.iinc_2 d_Tape_append_49 rfl (by rfl) (show _ + Int32.ofInt (-8) = (16 : Int32) by decide) ?_
        refine Go.goto (t := 3) d_Tape_append_52 (by decide) ?_
        refine Go.iload_2 d_Tape_append_3 rfl ?_
        refine Go.if_lt (t := 55) d_Tape_append_4 (by decide) rfl (fun c4_4 => ?_) (fun c4_4 => ?_)
        · exact absurd c4_4 (by decide)
        · refine Go.aload_0 d_Tape_append_7 rfl ?_
          refine Go.getfield d_Tape_append_8 rfl f_Tape_15 (ta_g0) (by rfl) ?_
          refine Go.if_lt (t := 49) d_Tape_append_11 (by decide) rfl (fun c11_5 => ?_) (fun c11_5 => ?_)
          · exact absurd c11_5 (nI_pos (n := (ta_sz A)) (by omega))
          · refine Go.aload_0 d_Tape_append_14 rfl ?_
            refine Go.getfield d_Tape_append_15 rfl f_Tape_15 (ta_g0) (by rfl) ?_
            refine Go.aload_0 d_Tape_append_18 rfl ?_
            refine Go.getfield d_Tape_append_19 rfl f_Tape_9 (ta_g0) (by rfl) ?_
            refine Go.alen (n := (nI 2000)) d_Tape_append_22 rfl (ta_g1) (by rfl) rfl ?_
            refine Go.icmp_ge (t := 49) d_Tape_append_23 (by decide) rfl (fun c23_6 => ?_) (fun c23_6 => ?_)
            · refine Go.iinc_2 d_Tape_append_49 rfl (by rfl) (show _ + Int32.ofInt (-8) = (8 : Int32) by decide) ?_
              refine Go.goto (t := 3) d_Tape_append_52 (by decide) ?_
              refine Go.iload_2 d_Tape_append_3 rfl ?_
              refine Go.if_lt (t := 55) d_Tape_append_4 (by decide) rfl (fun c4_7 => ?_) (fun c4_7 => ?_)
              · exact absurd c4_7 (by decide)
              · refine Go.aload_0 d_Tape_append_7 rfl ?_
                refine Go.getfield d_Tape_append_8 rfl f_Tape_15 (ta_g0) (by rfl) ?_
                refine Go.if_lt (t := 49) d_Tape_append_11 (by decide) rfl (fun c11_8 => ?_) (fun c11_8 => ?_)
                · exact absurd c11_8 (nI_pos (n := (ta_sz A)) (by omega))
                · refine Go.aload_0 d_Tape_append_14 rfl ?_
                  refine Go.getfield d_Tape_append_15 rfl f_Tape_15 (ta_g0) (by rfl) ?_
                  refine Go.aload_0 d_Tape_append_18 rfl ?_
                  refine Go.getfield d_Tape_append_19 rfl f_Tape_9 (ta_g0) (by rfl) ?_
                  refine Go.alen (n := (nI 2000)) d_Tape_append_22 rfl (ta_g1) (by rfl) rfl ?_
                  refine Go.icmp_ge (t := 49) d_Tape_append_23 (by decide) rfl (fun c23_9 => ?_) (fun c23_9 => ?_)
                  · refine Go.iinc_2 d_Tape_append_49 rfl (by rfl) (show _ + Int32.ofInt (-8) = (0 : Int32) by decide) ?_
                    refine Go.goto (t := 3) d_Tape_append_52 (by decide) ?_
                    refine Go.iload_2 d_Tape_append_3 rfl ?_
                    refine Go.if_lt (t := 55) d_Tape_append_4 (by decide) rfl (fun c4_10 => ?_) (fun c4_10 => ?_)
                    · exact absurd c4_10 (by decide)
                    · refine Go.aload_0 d_Tape_append_7 rfl ?_
                      refine Go.getfield d_Tape_append_8 rfl f_Tape_15 (ta_g0) (by rfl) ?_
                      refine Go.if_lt (t := 49) d_Tape_append_11 (by decide) rfl (fun c11_11 => ?_) (fun c11_11 => ?_)
                      · exact absurd c11_11 (nI_pos (n := (ta_sz A)) (by omega))
                      · refine Go.aload_0 d_Tape_append_14 rfl ?_
                        refine Go.getfield d_Tape_append_15 rfl f_Tape_15 (ta_g0) (by rfl) ?_
                        refine Go.aload_0 d_Tape_append_18 rfl ?_
                        refine Go.getfield d_Tape_append_19 rfl f_Tape_9 (ta_g0) (by rfl) ?_
                        refine Go.alen (n := (nI 2000)) d_Tape_append_22 rfl (ta_g1) (by rfl) rfl ?_
                        refine Go.icmp_ge (t := 49) d_Tape_append_23 (by decide) rfl (fun c23_12 => ?_) (fun c23_12 => ?_)
                        · refine Go.iinc_2 d_Tape_append_49 rfl (by rfl) (show _ + Int32.ofInt (-8) = ((-8) : Int32) by decide) ?_
                          refine Go.goto (t := 3) d_Tape_append_52 (by decide) ?_
                          refine Go.iload_2 d_Tape_append_3 rfl ?_
                          refine Go.if_lt (t := 55) d_Tape_append_4 (by decide) rfl (fun c4_13 => ?_) (fun c4_13 => ?_)
                          · rw [if_pos c23_3]
                            exact Go.vret d_Tape_append_55 rfl ⟨rfl, rfl, rfl⟩
                          · exact absurd (by decide) c4_13
                        · exact absurd c23_3 c23_12
                  · exact absurd c23_3 c23_9
            · exact absurd c23_3 c23_6
      · refine Go.aload_0 d_Tape_append_26 rfl ?_
        refine Go.getfield d_Tape_append_27 rfl f_Tape_9 (ta_g0) (by rfl) ?_
        refine Go.aload_0 d_Tape_append_30 rfl ?_
        refine Go.getfield d_Tape_append_31 rfl f_Tape_15 (ta_g0) (by rfl) ?_
        refine Go.iload_1 d_Tape_append_34 rfl ?_
        refine Go.iload_2 d_Tape_append_35 rfl ?_
        refine Go.ishr d_Tape_append_36 rfl ?_
        refine Go.i2b d_Tape_append_37 rfl ?_
        refine Go.bastore d_Tape_append_38 rfl (ta_g1) (show vp_in (nI (ta_sz A)) 2000 from by first | exact vp_in_nI (by omega) (by omega) | exact vp_nle (by assumption) (by omega) (by omega)) ?_
        rw [nI_clamp (show (ta_sz A) < 2 ^ 31 by omega)]
        refine Go.heq (ta_a_by (v := (upd (ta_by A) (ta_sz A) (x1 >>> (24 &&& 31)).toInt8.toInt32.toInt8.toInt32))) ?_
        refine Go.aload_0 d_Tape_append_39 rfl ?_
        refine Go.dup d_Tape_append_40 rfl rfl ?_
        refine Go.getfield d_Tape_append_41 rfl f_Tape_15 (ta_g0) (by rfl) ?_
        refine Go.iconst (v := 1) d_Tape_append_44 rfl (by decide) ?_
        refine Go.iadd d_Tape_append_45 rfl ?_
        rw [show (nI (ta_sz A)) + 1 = nI ((ta_sz A) + 1) from nI_add _ _]
        refine Go.putfield d_Tape_append_46 rfl f_Tape_15_p (Or.inl (fun C T N h => by cases h; rfl)) (ta_g0) (by exact Nat.le_of_ble_eq_true rfl) rfl rfl ?_
        refine Go.heq (ta_p_sz (v := ((ta_sz A) + 1))) ?_
        refine Go.iinc_2 d_Tape_append_49 rfl (by rfl) (show _ + Int32.ofInt (-8) = (16 : Int32) by decide) ?_
        refine Go.goto (t := 3) d_Tape_append_52 (by decide) ?_
        refine Go.iload_2 d_Tape_append_3 rfl ?_
        refine Go.if_lt (t := 55) d_Tape_append_4 (by decide) rfl (fun c4_14 => ?_) (fun c4_14 => ?_)
        · exact absurd c4_14 (by decide)
        · refine Go.aload_0 d_Tape_append_7 rfl ?_
          refine Go.getfield d_Tape_append_8 rfl f_Tape_15 (ta_g0) (by rfl) ?_
          refine Go.if_lt (t := 49) d_Tape_append_11 (by decide) rfl (fun c11_15 => ?_) (fun c11_15 => ?_)
          · exact absurd c11_15 (nI_pos (n := ((ta_sz A) + 1)) (by omega))
          · refine Go.aload_0 d_Tape_append_14 rfl ?_
            refine Go.getfield d_Tape_append_15 rfl f_Tape_15 (ta_g0) (by rfl) ?_
            refine Go.aload_0 d_Tape_append_18 rfl ?_
            refine Go.getfield d_Tape_append_19 rfl f_Tape_9 (ta_g0) (by rfl) ?_
            refine Go.alen (n := (nI 2000)) d_Tape_append_22 rfl (ta_g1) (by rfl) rfl ?_
            refine Go.icmp_ge (t := 49) d_Tape_append_23 (by decide) rfl (fun c23_16 => ?_) (fun c23_16 => ?_)
            · refine Go.iinc_2 d_Tape_append_49 rfl (by rfl) (show _ + Int32.ofInt (-8) = (8 : Int32) by decide) ?_
              refine Go.goto (t := 3) d_Tape_append_52 (by decide) ?_
              refine Go.iload_2 d_Tape_append_3 rfl ?_
              refine Go.if_lt (t := 55) d_Tape_append_4 (by decide) rfl (fun c4_17 => ?_) (fun c4_17 => ?_)
              · exact absurd c4_17 (by decide)
              · refine Go.aload_0 d_Tape_append_7 rfl ?_
                refine Go.getfield d_Tape_append_8 rfl f_Tape_15 (ta_g0) (by rfl) ?_
                refine Go.if_lt (t := 49) d_Tape_append_11 (by decide) rfl (fun c11_18 => ?_) (fun c11_18 => ?_)
                · exact absurd c11_18 (nI_pos (n := ((ta_sz A) + 1)) (by omega))
                · refine Go.aload_0 d_Tape_append_14 rfl ?_
                  refine Go.getfield d_Tape_append_15 rfl f_Tape_15 (ta_g0) (by rfl) ?_
                  refine Go.aload_0 d_Tape_append_18 rfl ?_
                  refine Go.getfield d_Tape_append_19 rfl f_Tape_9 (ta_g0) (by rfl) ?_
                  refine Go.alen (n := (nI 2000)) d_Tape_append_22 rfl (ta_g1) (by rfl) rfl ?_
                  refine Go.icmp_ge (t := 49) d_Tape_append_23 (by decide) rfl (fun c23_19 => ?_) (fun c23_19 => ?_)
                  · refine Go.iinc_2 d_Tape_append_49 rfl (by rfl) (show _ + Int32.ofInt (-8) = (0 : Int32) by decide) ?_
                    refine Go.goto (t := 3) d_Tape_append_52 (by decide) ?_
                    refine Go.iload_2 d_Tape_append_3 rfl ?_
                    refine Go.if_lt (t := 55) d_Tape_append_4 (by decide) rfl (fun c4_20 => ?_) (fun c4_20 => ?_)
                    · exact absurd c4_20 (by decide)
                    · refine Go.aload_0 d_Tape_append_7 rfl ?_
                      refine Go.getfield d_Tape_append_8 rfl f_Tape_15 (ta_g0) (by rfl) ?_
                      refine Go.if_lt (t := 49) d_Tape_append_11 (by decide) rfl (fun c11_21 => ?_) (fun c11_21 => ?_)
                      · exact absurd c11_21 (nI_pos (n := ((ta_sz A) + 1)) (by omega))
                      · refine Go.aload_0 d_Tape_append_14 rfl ?_
                        refine Go.getfield d_Tape_append_15 rfl f_Tape_15 (ta_g0) (by rfl) ?_
                        refine Go.aload_0 d_Tape_append_18 rfl ?_
                        refine Go.getfield d_Tape_append_19 rfl f_Tape_9 (ta_g0) (by rfl) ?_
                        refine Go.alen (n := (nI 2000)) d_Tape_append_22 rfl (ta_g1) (by rfl) rfl ?_
                        refine Go.icmp_ge (t := 49) d_Tape_append_23 (by decide) rfl (fun c23_22 => ?_) (fun c23_22 => ?_)
                        · refine Go.iinc_2 d_Tape_append_49 rfl (by rfl) (show _ + Int32.ofInt (-8) = ((-8) : Int32) by decide) ?_
                          refine Go.goto (t := 3) d_Tape_append_52 (by decide) ?_
                          refine Go.iload_2 d_Tape_append_3 rfl ?_
                          refine Go.if_lt (t := 55) d_Tape_append_4 (by decide) rfl (fun c4_23 => ?_) (fun c4_23 => ?_)
                          · rw [if_neg c23_3, if_pos c23_16]
                            exact Go.vret d_Tape_append_55 rfl ⟨rfl, rfl, rfl⟩
                          · exact absurd (by decide) c4_23
                        · exact absurd c23_16 c23_22
                  · exact absurd c23_16 c23_19
            · refine Go.aload_0 d_Tape_append_26 rfl ?_
              refine Go.getfield d_Tape_append_27 rfl f_Tape_9 (ta_g0) (by rfl) ?_
              refine Go.aload_0 d_Tape_append_30 rfl ?_
              refine Go.getfield d_Tape_append_31 rfl f_Tape_15 (ta_g0) (by rfl) ?_
              refine Go.iload_1 d_Tape_append_34 rfl ?_
              refine Go.iload_2 d_Tape_append_35 rfl ?_
              refine Go.ishr d_Tape_append_36 rfl ?_
              refine Go.i2b d_Tape_append_37 rfl ?_
              refine Go.bastore d_Tape_append_38 rfl (ta_g1) (show vp_in (nI ((ta_sz A) + 1)) 2000 from by first | exact vp_in_nI (by omega) (by omega) | exact vp_nle (by assumption) (by omega) (by omega)) ?_
              rw [nI_clamp (show ((ta_sz A) + 1) < 2 ^ 31 by omega)]
              refine Go.heq (ta_a_by (v := (upd (upd (ta_by A) (ta_sz A) (x1 >>> (24 &&& 31)).toInt8.toInt32.toInt8.toInt32) ((ta_sz A) + 1) (x1 >>> (16 &&& 31)).toInt8.toInt32.toInt8.toInt32))) ?_
              refine Go.aload_0 d_Tape_append_39 rfl ?_
              refine Go.dup d_Tape_append_40 rfl rfl ?_
              refine Go.getfield d_Tape_append_41 rfl f_Tape_15 (ta_g0) (by rfl) ?_
              refine Go.iconst (v := 1) d_Tape_append_44 rfl (by decide) ?_
              refine Go.iadd d_Tape_append_45 rfl ?_
              rw [show (nI ((ta_sz A) + 1)) + 1 = nI (((ta_sz A) + 1) + 1) from nI_add _ _]
              refine Go.putfield d_Tape_append_46 rfl f_Tape_15_p (Or.inl (fun C T N h => by cases h; rfl)) (ta_g0) (by exact Nat.le_of_ble_eq_true rfl) rfl rfl ?_
              refine Go.heq (ta_p_sz (v := (((ta_sz A) + 1) + 1))) ?_
              refine Go.iinc_2 d_Tape_append_49 rfl (by rfl) (show _ + Int32.ofInt (-8) = (8 : Int32) by decide) ?_
              refine Go.goto (t := 3) d_Tape_append_52 (by decide) ?_
              refine Go.iload_2 d_Tape_append_3 rfl ?_
              refine Go.if_lt (t := 55) d_Tape_append_4 (by decide) rfl (fun c4_24 => ?_) (fun c4_24 => ?_)
              · exact absurd c4_24 (by decide)
              · refine Go.aload_0 d_Tape_append_7 rfl ?_
                refine Go.getfield d_Tape_append_8 rfl f_Tape_15 (ta_g0) (by rfl) ?_
                refine Go.if_lt (t := 49) d_Tape_append_11 (by decide) rfl (fun c11_25 => ?_) (fun c11_25 => ?_)
                · exact absurd c11_25 (nI_pos (n := (((ta_sz A) + 1) + 1)) (by omega))
                · refine Go.aload_0 d_Tape_append_14 rfl ?_
                  refine Go.getfield d_Tape_append_15 rfl f_Tape_15 (ta_g0) (by rfl) ?_
                  refine Go.aload_0 d_Tape_append_18 rfl ?_
                  refine Go.getfield d_Tape_append_19 rfl f_Tape_9 (ta_g0) (by rfl) ?_
                  refine Go.alen (n := (nI 2000)) d_Tape_append_22 rfl (ta_g1) (by rfl) rfl ?_
                  refine Go.icmp_ge (t := 49) d_Tape_append_23 (by decide) rfl (fun c23_26 => ?_) (fun c23_26 => ?_)
                  · refine Go.iinc_2 d_Tape_append_49 rfl (by rfl) (show _ + Int32.ofInt (-8) = (0 : Int32) by decide) ?_
                    refine Go.goto (t := 3) d_Tape_append_52 (by decide) ?_
                    refine Go.iload_2 d_Tape_append_3 rfl ?_
                    refine Go.if_lt (t := 55) d_Tape_append_4 (by decide) rfl (fun c4_27 => ?_) (fun c4_27 => ?_)
                    · exact absurd c4_27 (by decide)
                    · refine Go.aload_0 d_Tape_append_7 rfl ?_
                      refine Go.getfield d_Tape_append_8 rfl f_Tape_15 (ta_g0) (by rfl) ?_
                      refine Go.if_lt (t := 49) d_Tape_append_11 (by decide) rfl (fun c11_28 => ?_) (fun c11_28 => ?_)
                      · exact absurd c11_28 (nI_pos (n := (((ta_sz A) + 1) + 1)) (by omega))
                      · refine Go.aload_0 d_Tape_append_14 rfl ?_
                        refine Go.getfield d_Tape_append_15 rfl f_Tape_15 (ta_g0) (by rfl) ?_
                        refine Go.aload_0 d_Tape_append_18 rfl ?_
                        refine Go.getfield d_Tape_append_19 rfl f_Tape_9 (ta_g0) (by rfl) ?_
                        refine Go.alen (n := (nI 2000)) d_Tape_append_22 rfl (ta_g1) (by rfl) rfl ?_
                        refine Go.icmp_ge (t := 49) d_Tape_append_23 (by decide) rfl (fun c23_29 => ?_) (fun c23_29 => ?_)
                        · refine Go.iinc_2 d_Tape_append_49 rfl (by rfl) (show _ + Int32.ofInt (-8) = ((-8) : Int32) by decide) ?_
                          refine Go.goto (t := 3) d_Tape_append_52 (by decide) ?_
                          refine Go.iload_2 d_Tape_append_3 rfl ?_
                          refine Go.if_lt (t := 55) d_Tape_append_4 (by decide) rfl (fun c4_30 => ?_) (fun c4_30 => ?_)
                          · rw [if_neg c23_3, if_neg c23_16, if_pos c23_26]
                            exact Go.vret d_Tape_append_55 rfl ⟨rfl, rfl, rfl⟩
                          · exact absurd (by decide) c4_30
                        · exact absurd c23_26 c23_29
                  · refine Go.aload_0 d_Tape_append_26 rfl ?_
                    refine Go.getfield d_Tape_append_27 rfl f_Tape_9 (ta_g0) (by rfl) ?_
                    refine Go.aload_0 d_Tape_append_30 rfl ?_
                    refine Go.getfield d_Tape_append_31 rfl f_Tape_15 (ta_g0) (by rfl) ?_
                    refine Go.iload_1 d_Tape_append_34 rfl ?_
                    refine Go.iload_2 d_Tape_append_35 rfl ?_
                    refine Go.ishr d_Tape_append_36 rfl ?_
                    refine Go.i2b d_Tape_append_37 rfl ?_
                    refine Go.bastore d_Tape_append_38 rfl (ta_g1) (show vp_in (nI (((ta_sz A) + 1) + 1)) 2000 from by first | exact vp_in_nI (by omega) (by omega) | exact vp_nle (by assumption) (by omega) (by omega)) ?_
                    rw [nI_clamp (show (((ta_sz A) + 1) + 1) < 2 ^ 31 by omega)]
                    refine Go.heq (ta_a_by (v := (upd (upd (upd (ta_by A) (ta_sz A) (x1 >>> (24 &&& 31)).toInt8.toInt32.toInt8.toInt32) ((ta_sz A) + 1) (x1 >>> (16 &&& 31)).toInt8.toInt32.toInt8.toInt32) (((ta_sz A) + 1) + 1) (x1 >>> (8 &&& 31)).toInt8.toInt32.toInt8.toInt32))) ?_
                    refine Go.aload_0 d_Tape_append_39 rfl ?_
                    refine Go.dup d_Tape_append_40 rfl rfl ?_
                    refine Go.getfield d_Tape_append_41 rfl f_Tape_15 (ta_g0) (by rfl) ?_
                    refine Go.iconst (v := 1) d_Tape_append_44 rfl (by decide) ?_
                    refine Go.iadd d_Tape_append_45 rfl ?_
                    rw [show (nI (((ta_sz A) + 1) + 1)) + 1 = nI ((((ta_sz A) + 1) + 1) + 1) from nI_add _ _]
                    refine Go.putfield d_Tape_append_46 rfl f_Tape_15_p (Or.inl (fun C T N h => by cases h; rfl)) (ta_g0) (by exact Nat.le_of_ble_eq_true rfl) rfl rfl ?_
                    refine Go.heq (ta_p_sz (v := ((((ta_sz A) + 1) + 1) + 1))) ?_
                    refine Go.iinc_2 d_Tape_append_49 rfl (by rfl) (show _ + Int32.ofInt (-8) = (0 : Int32) by decide) ?_
                    refine Go.goto (t := 3) d_Tape_append_52 (by decide) ?_
                    refine Go.iload_2 d_Tape_append_3 rfl ?_
                    refine Go.if_lt (t := 55) d_Tape_append_4 (by decide) rfl (fun c4_31 => ?_) (fun c4_31 => ?_)
                    · exact absurd c4_31 (by decide)
                    · refine Go.aload_0 d_Tape_append_7 rfl ?_
                      refine Go.getfield d_Tape_append_8 rfl f_Tape_15 (ta_g0) (by rfl) ?_
                      refine Go.if_lt (t := 49) d_Tape_append_11 (by decide) rfl (fun c11_32 => ?_) (fun c11_32 => ?_)
                      · exact absurd c11_32 (nI_pos (n := ((((ta_sz A) + 1) + 1) + 1)) (by omega))
                      · refine Go.aload_0 d_Tape_append_14 rfl ?_
                        refine Go.getfield d_Tape_append_15 rfl f_Tape_15 (ta_g0) (by rfl) ?_
                        refine Go.aload_0 d_Tape_append_18 rfl ?_
                        refine Go.getfield d_Tape_append_19 rfl f_Tape_9 (ta_g0) (by rfl) ?_
                        refine Go.alen (n := (nI 2000)) d_Tape_append_22 rfl (ta_g1) (by rfl) rfl ?_
                        refine Go.icmp_ge (t := 49) d_Tape_append_23 (by decide) rfl (fun c23_33 => ?_) (fun c23_33 => ?_)
                        · refine Go.iinc_2 d_Tape_append_49 rfl (by rfl) (show _ + Int32.ofInt (-8) = ((-8) : Int32) by decide) ?_
                          refine Go.goto (t := 3) d_Tape_append_52 (by decide) ?_
                          refine Go.iload_2 d_Tape_append_3 rfl ?_
                          refine Go.if_lt (t := 55) d_Tape_append_4 (by decide) rfl (fun c4_34 => ?_) (fun c4_34 => ?_)
                          · rw [if_neg c23_3, if_neg c23_16, if_neg c23_26, if_pos c23_33]
                            exact Go.vret d_Tape_append_55 rfl ⟨rfl, rfl, rfl⟩
                          · exact absurd (by decide) c4_34
                        · refine Go.aload_0 d_Tape_append_26 rfl ?_
                          refine Go.getfield d_Tape_append_27 rfl f_Tape_9 (ta_g0) (by rfl) ?_
                          refine Go.aload_0 d_Tape_append_30 rfl ?_
                          refine Go.getfield d_Tape_append_31 rfl f_Tape_15 (ta_g0) (by rfl) ?_
                          refine Go.iload_1 d_Tape_append_34 rfl ?_
                          refine Go.iload_2 d_Tape_append_35 rfl ?_
                          refine Go.ishr d_Tape_append_36 rfl ?_
                          refine Go.i2b d_Tape_append_37 rfl ?_
                          refine Go.bastore d_Tape_append_38 rfl (ta_g1) (show vp_in (nI ((((ta_sz A) + 1) + 1) + 1)) 2000 from by first | exact vp_in_nI (by omega) (by omega) | exact vp_nle (by assumption) (by omega) (by omega)) ?_
                          rw [nI_clamp (show ((((ta_sz A) + 1) + 1) + 1) < 2 ^ 31 by omega)]
                          refine Go.heq (ta_a_by (v := (upd (upd (upd (upd (ta_by A) (ta_sz A) (x1 >>> (24 &&& 31)).toInt8.toInt32.toInt8.toInt32) ((ta_sz A) + 1) (x1 >>> (16 &&& 31)).toInt8.toInt32.toInt8.toInt32) (((ta_sz A) + 1) + 1) (x1 >>> (8 &&& 31)).toInt8.toInt32.toInt8.toInt32) ((((ta_sz A) + 1) + 1) + 1) (x1 >>> (0 &&& 31)).toInt8.toInt32.toInt8.toInt32))) ?_
                          refine Go.aload_0 d_Tape_append_39 rfl ?_
                          refine Go.dup d_Tape_append_40 rfl rfl ?_
                          refine Go.getfield d_Tape_append_41 rfl f_Tape_15 (ta_g0) (by rfl) ?_
                          refine Go.iconst (v := 1) d_Tape_append_44 rfl (by decide) ?_
                          refine Go.iadd d_Tape_append_45 rfl ?_
                          rw [show (nI ((((ta_sz A) + 1) + 1) + 1)) + 1 = nI (((((ta_sz A) + 1) + 1) + 1) + 1) from nI_add _ _]
                          refine Go.putfield d_Tape_append_46 rfl f_Tape_15_p (Or.inl (fun C T N h => by cases h; rfl)) (ta_g0) (by exact Nat.le_of_ble_eq_true rfl) rfl rfl ?_
                          refine Go.heq (ta_p_sz (v := (((((ta_sz A) + 1) + 1) + 1) + 1))) ?_
                          refine Go.iinc_2 d_Tape_append_49 rfl (by rfl) (show _ + Int32.ofInt (-8) = ((-8) : Int32) by decide) ?_
                          refine Go.goto (t := 3) d_Tape_append_52 (by decide) ?_
                          refine Go.iload_2 d_Tape_append_3 rfl ?_
                          refine Go.if_lt (t := 55) d_Tape_append_4 (by decide) rfl (fun c4_35 => ?_) (fun c4_35 => ?_)
                          · rw [if_neg c23_3, if_neg c23_16, if_neg c23_26, if_neg c23_33]
                            exact Go.vret d_Tape_append_55 rfl ⟨rfl, rfl, rfl⟩
                          · exact absurd (by decide) c4_35
theorem d_Tape_cut_0 : decode M_Tape_cut.2.1 0 = .ok (.aload_n 0, 1) := by decide +kernel
theorem d_Tape_cut_1 : decode M_Tape_cut.2.1 1 = .ok (.iload_n 1, 1) := by decide +kernel
theorem d_Tape_cut_2 : decode M_Tape_cut.2.1 2 = .ok (.putfield 15, 3) := by decide +kernel
theorem d_Tape_cut_5 : decode M_Tape_cut.2.1 5 = .ok (.return_, 1) := by decide +kernel
def s_Tape_cut (A : TA) (x1 : Nat) : TA := (ta_sz' A x1)
set_option maxRecDepth 100000 in
set_option maxHeartbeats 4000000 in
theorem c_Tape_cut {Γ : G9} {h : AH} {t z : Nat} {A : TA} {x1 : Nat} {vx1 : Int32} (ex1 : vx1 = nI x1) (bx1 : x1 ≤ 2000) : CallR Γ M_Tape_cut 0 [.ref t, .int vx1] (blk h t 2 (taC Γ t A)) z none (blk h t 2 (taC Γ t (s_Tape_cut A x1))) := by
  subst ex1
  refine Call.of_go (L := [some (.ref t), some (.int (nI x1))]) (by decide +kernel) rfl (by exact Nat.le_of_ble_eq_true rfl) ?_
  unfold s_Tape_cut
  refine Go.aload_0 d_Tape_cut_0 rfl ?_
  refine Go.iload_1 d_Tape_cut_1 rfl ?_
  refine Go.putfield d_Tape_cut_2 rfl f_Tape_15_p (Or.inl (fun C T N h => by cases h; rfl)) (ta_g0) (by exact Nat.le_of_ble_eq_true rfl) rfl rfl ?_
  refine Go.heq (ta_p_sz (v := x1)) ?_
  exact Go.vret d_Tape_cut_5 rfl ⟨rfl, rfl, rfl⟩
theorem d_Names_size_0 : decode M_Names_size.2.1 0 = .ok (.aload_n 0, 1) := by decide +kernel
theorem d_Names_size_1 : decode M_Names_size.2.1 1 = .ok (.getfield 15, 3) := by decide +kernel
theorem d_Names_size_4 : decode M_Names_size.2.1 4 = .ok (.ireturn, 1) := by decide +kernel
abbrev s_Names_size (N : NM) : Nat := (nm_sz N)
set_option maxRecDepth 100000 in
set_option maxHeartbeats 4000000 in
theorem c_Names_size {Γ : G9} {h : AH} {u z : Nat} {N : NM} : CallR Γ M_Names_size 0 [.ref u] (blk h u 2 (nmC Γ u N)) z (some (.int (nI (nm_sz N)))) (blk h u 2 (nmC Γ u N)) := by
  refine Call.of_go (L := [some (.ref u)]) (by decide +kernel) rfl (by exact Nat.le_of_ble_eq_true rfl) ?_
  refine Go.aload_0 d_Names_size_0 rfl ?_
  refine Go.getfield d_Names_size_1 rfl f_Names_15 (nm_g0) (by rfl) ?_
  exact Go.iret d_Names_size_4 rfl rfl ⟨rfl, rfl, rfl⟩
theorem d_Names_find_2 : decode M_Names_find.2.1 2 = .ok (.iload_n 3, 1) := by decide +kernel
theorem d_Names_find_3 : decode M_Names_find.2.1 3 = .ok (.aload_n 0, 1) := by decide +kernel
theorem d_Names_find_4 : decode M_Names_find.2.1 4 = .ok (.getfield 15, 3) := by decide +kernel
theorem d_Names_find_7 : decode M_Names_find.2.1 7 = .ok (.if_icmp .ge 31, 3) := by decide +kernel
theorem d_Names_find_38 : decode M_Names_find.2.1 38 = .ok (.iconst (-1), 1) := by decide +kernel
theorem d_Names_find_39 : decode M_Names_find.2.1 39 = .ok (.ireturn, 1) := by decide +kernel
theorem d_Names_find_10 : decode M_Names_find.2.1 10 = .ok (.iload_n 3, 1) := by decide +kernel
theorem d_Names_find_11 : decode M_Names_find.2.1 11 = .ok (.aload_n 0, 1) := by decide +kernel
theorem d_Names_find_12 : decode M_Names_find.2.1 12 = .ok (.getfield 9, 3) := by decide +kernel
theorem d_Names_find_15 : decode M_Names_find.2.1 15 = .ok (.arraylength, 1) := by decide +kernel
theorem d_Names_find_16 : decode M_Names_find.2.1 16 = .ok (.if_icmp .ge 22, 3) := by decide +kernel
theorem d_Names_find_19 : decode M_Names_find.2.1 19 = .ok (.aload_n 0, 1) := by decide +kernel
theorem d_Names_find_20 : decode M_Names_find.2.1 20 = .ok (.getfield 9, 3) := by decide +kernel
theorem d_Names_find_23 : decode M_Names_find.2.1 23 = .ok (.iload_n 3, 1) := by decide +kernel
theorem d_Names_find_24 : decode M_Names_find.2.1 24 = .ok (.laload, 1) := by decide +kernel
theorem d_Names_find_25 : decode M_Names_find.2.1 25 = .ok (.lload_n 1, 1) := by decide +kernel
theorem d_Names_find_26 : decode M_Names_find.2.1 26 = .ok (.lcmp, 1) := by decide +kernel
theorem d_Names_find_27 : decode M_Names_find.2.1 27 = .ok (.ifCond .ne 5, 3) := by decide +kernel
theorem d_Names_find_30 : decode M_Names_find.2.1 30 = .ok (.iload_n 3, 1) := by decide +kernel
theorem d_Names_find_31 : decode M_Names_find.2.1 31 = .ok (.ireturn, 1) := by decide +kernel
theorem d_Names_find_32 : decode M_Names_find.2.1 32 = .ok (.iinc 3 1, 3) := by decide +kernel
theorem d_Names_find_35 : decode M_Names_find.2.1 35 = .ok (.goto (-33), 3) := by decide +kernel
def l_Names_find_2 (N : NM) (x1 : Int64) : Nat → Nat → Int32
  | 0, i => (-1)
  | k + 1, i => (if (lg_cmp ((nm_na N) i) x1) = 0 then (nI i) else (l_Names_find_2 N x1 k (i + 1)))
set_option maxRecDepth 100000 in
set_option maxHeartbeats 4000000 in
theorem l_Names_find_2_go {Γ : G9} {h : AH} {u z : Nat} {n : Nat} {N : NM} {x1 : Int64} (hN : nm_sz N ≤ 6) (hn20 : n ≤ 6) (hn : nm_sz N = n) : ∀ (k i : Nat), i + k = n → Go Γ M_Names_find 0 0 0 2 [some (.ref u), some (.long x1), none, some (.int (nI i))] [] (blk h u 2 (nmC Γ u N)) z (RQ (some (.int (l_Names_find_2 N x1 k i))) (blk h u 2 (nmC Γ u N)) z) noX := by
  intro k
  induction k with
  | zero =>
    intro i hi
    unfold l_Names_find_2
    refine Go.iload_3 d_Names_find_2 rfl ?_
    refine Go.aload_0 d_Names_find_3 rfl ?_
    refine Go.getfield d_Names_find_4 rfl f_Names_15 (nm_g0) (by rfl) ?_
    refine Go.icmp_ge (t := 38) d_Names_find_7 (by decide) rfl (fun c7_1 => ?_) (fun c7_1 => ?_)
    · refine Go.iconst (v := (-1)) d_Names_find_38 rfl (by decide) ?_
      exact Go.iret d_Names_find_39 rfl rfl ⟨rfl, rfl, rfl⟩
    · exact absurd (nI_le (by omega) (by omega)) c7_1
  | succ k ih =>
    intro i hi
    unfold l_Names_find_2
    refine Go.iload_3 d_Names_find_2 rfl ?_
    refine Go.aload_0 d_Names_find_3 rfl ?_
    refine Go.getfield d_Names_find_4 rfl f_Names_15 (nm_g0) (by rfl) ?_
    refine Go.icmp_ge (t := 38) d_Names_find_7 (by decide) rfl (fun c7_1 => ?_) (fun c7_1 => ?_)
    · exact absurd c7_1 (nI_ge (by omega) (by omega))
    · refine Go.iload_3 d_Names_find_10 rfl ?_
      refine Go.aload_0 d_Names_find_11 rfl ?_
      refine Go.getfield d_Names_find_12 rfl f_Names_9 (nm_g0) (by rfl) ?_
      refine Go.alen (n := (nI 6)) d_Names_find_15 rfl (nm_g1) (by rfl) rfl ?_
      refine Go.icmp_ge (t := 38) d_Names_find_16 (by decide) rfl (fun c16_2 => ?_) (fun c16_2 => ?_)
      · exact absurd c16_2 (nI_ge (by omega) (by omega))
      · refine Go.aload_0 d_Names_find_19 rfl ?_
        refine Go.getfield d_Names_find_20 rfl f_Names_9 (nm_g0) (by rfl) ?_
        refine Go.iload_3 d_Names_find_23 rfl ?_
        refine Go.laload d_Names_find_24 rfl (nm_g1) (show vp_in (nI i) 6 from by first | exact vp_in_nI (by omega) (by omega) | exact vp_nle (by assumption) (by omega) (by omega)) ?_
        rw [nI_clamp (show i < 2 ^ 31 by omega)]
        refine Go.lload_1 d_Names_find_25 rfl ?_
        refine Go.lcmp d_Names_find_26 rfl ?_
        refine Go.if_ne (t := 32) d_Names_find_27 (by decide) rfl (fun c27_3 => ?_) (fun c27_3 => ?_)
        · refine Go.iinc_3 d_Names_find_32 rfl (by rfl) (nI_inc _) ?_
          refine Go.goto (t := 2) d_Names_find_35 (by decide) ?_
          rw [if_neg c27_3]
          exact ih (i + 1) (by omega)
        · refine Go.iload_3 d_Names_find_30 rfl ?_
          rw [if_pos c27_3]
          exact Go.iret d_Names_find_31 rfl rfl ⟨rfl, rfl, rfl⟩
theorem d_Names_find_0 : decode M_Names_find.2.1 0 = .ok (.iconst 0, 1) := by decide +kernel
theorem d_Names_find_1 : decode M_Names_find.2.1 1 = .ok (.istore_n 3, 1) := by decide +kernel
def s_Names_find (N : NM) (x1 : Int64) : Int32 := (l_Names_find_2 N x1 (nm_sz N) 0)
set_option maxRecDepth 100000 in
set_option maxHeartbeats 4000000 in
theorem c_Names_find {Γ : G9} {h : AH} {u z : Nat} {N : NM} {x1 : Int64} (hN : nm_sz N ≤ 6) : CallR Γ M_Names_find 0 [.ref u, .long x1] (blk h u 2 (nmC Γ u N)) z (some (.int (s_Names_find N x1))) (blk h u 2 (nmC Γ u N)) := by
  refine Call.of_go (L := [some (.ref u), some (.long x1), none, none]) (by decide +kernel) rfl (by exact Nat.le_of_ble_eq_true rfl) ?_
  unfold s_Names_find
  refine Go.iconst (v := 0) d_Names_find_0 rfl (by decide) ?_
  refine Go.istore_3 d_Names_find_1 rfl (by rfl) ?_
  exact l_Names_find_2_go (n := (nm_sz N)) hN (by omega) rfl (nm_sz N) 0 (by omega)
theorem d_Names_add_0 : decode M_Names_add.2.1 0 = .ok (.aload_n 0, 1) := by decide +kernel
theorem d_Names_add_1 : decode M_Names_add.2.1 1 = .ok (.getfield 15, 3) := by decide +kernel
theorem d_Names_add_4 : decode M_Names_add.2.1 4 = .ok (.ifCond .lt 35, 3) := by decide +kernel
theorem d_Names_add_7 : decode M_Names_add.2.1 7 = .ok (.aload_n 0, 1) := by decide +kernel
theorem d_Names_add_8 : decode M_Names_add.2.1 8 = .ok (.getfield 15, 3) := by decide +kernel
theorem d_Names_add_11 : decode M_Names_add.2.1 11 = .ok (.aload_n 0, 1) := by decide +kernel
theorem d_Names_add_12 : decode M_Names_add.2.1 12 = .ok (.getfield 9, 3) := by decide +kernel
theorem d_Names_add_15 : decode M_Names_add.2.1 15 = .ok (.arraylength, 1) := by decide +kernel
theorem d_Names_add_16 : decode M_Names_add.2.1 16 = .ok (.if_icmp .ge 23, 3) := by decide +kernel
theorem d_Names_add_19 : decode M_Names_add.2.1 19 = .ok (.aload_n 0, 1) := by decide +kernel
theorem d_Names_add_20 : decode M_Names_add.2.1 20 = .ok (.getfield 9, 3) := by decide +kernel
theorem d_Names_add_23 : decode M_Names_add.2.1 23 = .ok (.aload_n 0, 1) := by decide +kernel
theorem d_Names_add_24 : decode M_Names_add.2.1 24 = .ok (.getfield 15, 3) := by decide +kernel
theorem d_Names_add_27 : decode M_Names_add.2.1 27 = .ok (.lload_n 1, 1) := by decide +kernel
theorem d_Names_add_28 : decode M_Names_add.2.1 28 = .ok (.lastore, 1) := by decide +kernel
theorem d_Names_add_29 : decode M_Names_add.2.1 29 = .ok (.aload_n 0, 1) := by decide +kernel
theorem d_Names_add_30 : decode M_Names_add.2.1 30 = .ok (.dup, 1) := by decide +kernel
theorem d_Names_add_31 : decode M_Names_add.2.1 31 = .ok (.getfield 15, 3) := by decide +kernel
theorem d_Names_add_34 : decode M_Names_add.2.1 34 = .ok (.iconst 1, 1) := by decide +kernel
theorem d_Names_add_35 : decode M_Names_add.2.1 35 = .ok (.iadd, 1) := by decide +kernel
theorem d_Names_add_36 : decode M_Names_add.2.1 36 = .ok (.putfield 15, 3) := by decide +kernel
theorem d_Names_add_39 : decode M_Names_add.2.1 39 = .ok (.return_, 1) := by decide +kernel
def s_Names_add (N : NM) (x1 : Int64) : NM := (if (nI 6) ≤ (nI (nm_sz N)) then N else (nm_sz' (nm_na' N (vp_updL (nm_na N) (nm_sz N) x1)) ((nm_sz N) + 1)))
set_option maxRecDepth 100000 in
set_option maxHeartbeats 4000000 in
theorem c_Names_add {Γ : G9} {h : AH} {u z : Nat} {N : NM} {x1 : Int64} (hN : nm_sz N ≤ 6) : CallR Γ M_Names_add 0 [.ref u, .long x1] (blk h u 2 (nmC Γ u N)) z none (blk h u 2 (nmC Γ u (s_Names_add N x1))) := by
  refine Call.of_go (L := [some (.ref u), some (.long x1), none]) (by decide +kernel) rfl (by exact Nat.le_of_ble_eq_true rfl) ?_
  unfold s_Names_add
  refine Go.aload_0 d_Names_add_0 rfl ?_
  refine Go.getfield d_Names_add_1 rfl f_Names_15 (nm_g0) (by rfl) ?_
  refine Go.if_lt (t := 39) d_Names_add_4 (by decide) rfl (fun c4_1 => ?_) (fun c4_1 => ?_)
  · exact absurd c4_1 (nI_pos (n := (nm_sz N)) (by omega))
  · refine Go.aload_0 d_Names_add_7 rfl ?_
    refine Go.getfield d_Names_add_8 rfl f_Names_15 (nm_g0) (by rfl) ?_
    refine Go.aload_0 d_Names_add_11 rfl ?_
    refine Go.getfield d_Names_add_12 rfl f_Names_9 (nm_g0) (by rfl) ?_
    refine Go.alen (n := (nI 6)) d_Names_add_15 rfl (nm_g1) (by rfl) rfl ?_
    refine Go.icmp_ge (t := 39) d_Names_add_16 (by decide) rfl (fun c16_2 => ?_) (fun c16_2 => ?_)
    · rw [if_pos c16_2]
      exact Go.vret d_Names_add_39 rfl ⟨rfl, rfl, rfl⟩
    · refine Go.aload_0 d_Names_add_19 rfl ?_
      refine Go.getfield d_Names_add_20 rfl f_Names_9 (nm_g0) (by rfl) ?_
      refine Go.aload_0 d_Names_add_23 rfl ?_
      refine Go.getfield d_Names_add_24 rfl f_Names_15 (nm_g0) (by rfl) ?_
      refine Go.lload_1 d_Names_add_27 rfl ?_
      refine Go.lastore d_Names_add_28 rfl (nm_g1) (show vp_in (nI (nm_sz N)) 6 from by first | exact vp_in_nI (by omega) (by omega) | exact vp_nle (by assumption) (by omega) (by omega)) ?_
      rw [nI_clamp (show (nm_sz N) < 2 ^ 31 by omega)]
      refine Go.heq (nm_a_na (v := (vp_updL (nm_na N) (nm_sz N) x1))) ?_
      refine Go.aload_0 d_Names_add_29 rfl ?_
      refine Go.dup d_Names_add_30 rfl rfl ?_
      refine Go.getfield d_Names_add_31 rfl f_Names_15 (nm_g0) (by rfl) ?_
      refine Go.iconst (v := 1) d_Names_add_34 rfl (by decide) ?_
      refine Go.iadd d_Names_add_35 rfl ?_
      rw [show (nI (nm_sz N)) + 1 = nI ((nm_sz N) + 1) from nI_add _ _]
      refine Go.putfield d_Names_add_36 rfl f_Names_15_p (Or.inl (fun C T N h => by cases h; rfl)) (nm_g0) (by exact Nat.le_of_ble_eq_true rfl) rfl rfl ?_
      refine Go.heq (nm_p_sz (v := ((nm_sz N) + 1))) ?_
      rw [if_neg c16_2]
      exact Go.vret d_Names_add_39 rfl ⟨rfl, rfl, rfl⟩
theorem d_Tokens_sign_0 : decode M_Tokens_sign.2.1 0 = .ok (.aload_n 0, 1) := by decide +kernel
theorem d_Tokens_sign_1 : decode M_Tokens_sign.2.1 1 = .ok (.getfield 29, 3) := by decide +kernel
theorem d_Tokens_sign_4 : decode M_Tokens_sign.2.1 4 = .ok (.areturn, 1) := by decide +kernel
def s_Tokens_sign (K : TK) : Fin 54 := (tk_sn K)
set_option maxRecDepth 100000 in
set_option maxHeartbeats 4000000 in
theorem c_Tokens_sign {Γ : G9} {sg : Nat → Nat} {h : AH} {k z : Nat} {K : TK} : CallR Γ M_Tokens_sign 0 [.ref k] (blk h k 4 (tkC Γ sg k K)) z (some (.ref (sg (s_Tokens_sign K).val))) (blk h k 4 (tkC Γ sg k K)) := by
  refine Call.of_go (L := [some (.ref k)]) (by decide +kernel) rfl (by exact Nat.le_of_ble_eq_true rfl) ?_
  unfold s_Tokens_sign
  refine Go.aload_0 d_Tokens_sign_0 rfl ?_
  refine Go.getfield d_Tokens_sign_1 rfl f_Tokens_29 (tk_g0) (by rfl) ?_
  exact Go.aret d_Tokens_sign_4 rfl ⟨rfl, rfl, rfl⟩
theorem d_Tokens_start_0 : decode M_Tokens_start.2.1 0 = .ok (.aload_n 0, 1) := by decide +kernel
theorem d_Tokens_start_1 : decode M_Tokens_start.2.1 1 = .ok (.getfield 72, 3) := by decide +kernel
theorem d_Tokens_start_4 : decode M_Tokens_start.2.1 4 = .ok (.ireturn, 1) := by decide +kernel
def s_Tokens_start (K : TK) : Int32 := (tk_b K)
set_option maxRecDepth 100000 in
set_option maxHeartbeats 4000000 in
theorem c_Tokens_start {Γ : G9} {sg : Nat → Nat} {h : AH} {k z : Nat} {K : TK} : CallR Γ M_Tokens_start 0 [.ref k] (blk h k 4 (tkC Γ sg k K)) z (some (.int (s_Tokens_start K))) (blk h k 4 (tkC Γ sg k K)) := by
  refine Call.of_go (L := [some (.ref k)]) (by decide +kernel) rfl (by exact Nat.le_of_ble_eq_true rfl) ?_
  unfold s_Tokens_start
  refine Go.aload_0 d_Tokens_start_0 rfl ?_
  refine Go.getfield d_Tokens_start_1 rfl f_Tokens_72 (tk_g0) (by rfl) ?_
  exact Go.iret d_Tokens_start_4 rfl rfl ⟨rfl, rfl, rfl⟩
theorem d_Tokens_worth_0 : decode M_Tokens_worth.2.1 0 = .ok (.aload_n 0, 1) := by decide +kernel
theorem d_Tokens_worth_1 : decode M_Tokens_worth.2.1 1 = .ok (.getfield 75, 3) := by decide +kernel
theorem d_Tokens_worth_4 : decode M_Tokens_worth.2.1 4 = .ok (.lreturn, 1) := by decide +kernel
def s_Tokens_worth (K : TK) : Int64 := (tk_w K)
set_option maxRecDepth 100000 in
set_option maxHeartbeats 4000000 in
theorem c_Tokens_worth {Γ : G9} {sg : Nat → Nat} {h : AH} {k z : Nat} {K : TK} : CallR Γ M_Tokens_worth 0 [.ref k] (blk h k 4 (tkC Γ sg k K)) z (some (.long (s_Tokens_worth K))) (blk h k 4 (tkC Γ sg k K)) := by
  refine Call.of_go (L := [some (.ref k)]) (by decide +kernel) rfl (by exact Nat.le_of_ble_eq_true rfl) ?_
  unfold s_Tokens_worth
  refine Go.aload_0 d_Tokens_worth_0 rfl ?_
  refine Go.getfield d_Tokens_worth_1 rfl f_Tokens_75 (tk_g0) (by rfl) ?_
  exact Go.lret d_Tokens_worth_4 rfl ⟨rfl, rfl, rfl⟩
theorem d_Tokens_brokenAt_0 : decode M_Tokens_brokenAt.2.1 0 = .ok (.aload_n 0, 1) := by decide +kernel
theorem d_Tokens_brokenAt_1 : decode M_Tokens_brokenAt.2.1 1 = .ok (.getfield 32, 3) := by decide +kernel
theorem d_Tokens_brokenAt_4 : decode M_Tokens_brokenAt.2.1 4 = .ok (.ireturn, 1) := by decide +kernel
def s_Tokens_brokenAt (K : TK) : Int32 := (tk_br K)
set_option maxRecDepth 100000 in
set_option maxHeartbeats 4000000 in
theorem c_Tokens_brokenAt {Γ : G9} {sg : Nat → Nat} {h : AH} {k z : Nat} {K : TK} : CallR Γ M_Tokens_brokenAt 0 [.ref k] (blk h k 4 (tkC Γ sg k K)) z (some (.int (s_Tokens_brokenAt K))) (blk h k 4 (tkC Γ sg k K)) := by
  refine Call.of_go (L := [some (.ref k)]) (by decide +kernel) rfl (by exact Nat.le_of_ble_eq_true rfl) ?_
  unfold s_Tokens_brokenAt
  refine Go.aload_0 d_Tokens_brokenAt_0 rfl ?_
  refine Go.getfield d_Tokens_brokenAt_1 rfl f_Tokens_32 (tk_g0) (by rfl) ?_
  exact Go.iret d_Tokens_brokenAt_4 rfl rfl ⟨rfl, rfl, rfl⟩
theorem d_Tokens_breakOff_0 : decode M_Tokens_breakOff.2.1 0 = .ok (.aload_n 0, 1) := by decide +kernel
theorem d_Tokens_breakOff_1 : decode M_Tokens_breakOff.2.1 1 = .ok (.getfield 32, 3) := by decide +kernel
theorem d_Tokens_breakOff_4 : decode M_Tokens_breakOff.2.1 4 = .ok (.ifCond .ge 11, 3) := by decide +kernel
theorem d_Tokens_breakOff_7 : decode M_Tokens_breakOff.2.1 7 = .ok (.aload_n 0, 1) := by decide +kernel
theorem d_Tokens_breakOff_8 : decode M_Tokens_breakOff.2.1 8 = .ok (.aload_n 0, 1) := by decide +kernel
theorem d_Tokens_breakOff_9 : decode M_Tokens_breakOff.2.1 9 = .ok (.getfield 72, 3) := by decide +kernel
theorem d_Tokens_breakOff_12 : decode M_Tokens_breakOff.2.1 12 = .ok (.putfield 32, 3) := by decide +kernel
theorem d_Tokens_breakOff_15 : decode M_Tokens_breakOff.2.1 15 = .ok (.aload_n 0, 1) := by decide +kernel
theorem d_Tokens_breakOff_16 : decode M_Tokens_breakOff.2.1 16 = .ok (.getstatic 63, 3) := by decide +kernel
theorem d_Tokens_breakOff_19 : decode M_Tokens_breakOff.2.1 19 = .ok (.putfield 29, 3) := by decide +kernel
theorem d_Tokens_breakOff_22 : decode M_Tokens_breakOff.2.1 22 = .ok (.return_, 1) := by decide +kernel
def s_Tokens_breakOff (K : TK) : TK := (if 0 ≤ (tk_br K) then (tk_sn' K (53 : Fin 54)) else (tk_sn' (tk_br' K (tk_b K)) (53 : Fin 54)))
set_option maxRecDepth 100000 in
set_option maxHeartbeats 4000000 in
theorem c_Tokens_breakOff {Γ : G9} {sg : Nat → Nat} {h : AH} {k z : Nat} {K : TK} (hs : SgOk Γ sg) : CallR Γ M_Tokens_breakOff 0 [.ref k] (blk h k 4 (tkC Γ sg k K)) z none (blk h k 4 (tkC Γ sg k (s_Tokens_breakOff K))) := by
  refine Call.of_go (L := [some (.ref k)]) (by decide +kernel) rfl (by exact Nat.le_of_ble_eq_true rfl) ?_
  unfold s_Tokens_breakOff
  refine Go.aload_0 d_Tokens_breakOff_0 rfl ?_
  refine Go.getfield d_Tokens_breakOff_1 rfl f_Tokens_32 (tk_g0) (by rfl) ?_
  refine Go.if_ge (t := 15) d_Tokens_breakOff_4 (by decide) rfl (fun c4_1 => ?_) (fun c4_1 => ?_)
  · refine Go.aload_0 d_Tokens_breakOff_15 rfl ?_
    refine Go.gets d_Tokens_breakOff_16 rfl x_Tokens_63 (hs.z (i := 53) rfl) ?_
    refine Go.putfield d_Tokens_breakOff_19 rfl f_Tokens_29_p (Or.inl (fun C T N h => by cases h; rfl)) (tk_g0) (by exact Nat.le_of_ble_eq_true rfl) rfl rfl ?_
    refine Go.heq (tk_p_sn (v := (53 : Fin 54))) ?_
    rw [if_pos c4_1]
    exact Go.vret d_Tokens_breakOff_22 rfl ⟨rfl, rfl, rfl⟩
  · refine Go.aload_0 d_Tokens_breakOff_7 rfl ?_
    refine Go.aload_0 d_Tokens_breakOff_8 rfl ?_
    refine Go.getfield d_Tokens_breakOff_9 rfl f_Tokens_72 (tk_g0) (by rfl) ?_
    refine Go.putfield d_Tokens_breakOff_12 rfl f_Tokens_32_p (Or.inl (fun C T N h => by cases h; rfl)) (tk_g0) (by exact Nat.le_of_ble_eq_true rfl) rfl rfl ?_
    refine Go.heq (tk_p_br (v := (tk_b K))) ?_
    refine Go.aload_0 d_Tokens_breakOff_15 rfl ?_
    refine Go.gets d_Tokens_breakOff_16 rfl x_Tokens_63 (hs.z (i := 53) rfl) ?_
    refine Go.putfield d_Tokens_breakOff_19 rfl f_Tokens_29_p (Or.inl (fun C T N h => by cases h; rfl)) (tk_g0) (by exact Nat.le_of_ble_eq_true rfl) rfl rfl ?_
    refine Go.heq (tk_p_sn (v := (53 : Fin 54))) ?_
    rw [if_neg c4_1]
    exact Go.vret d_Tokens_breakOff_22 rfl ⟨rfl, rfl, rfl⟩
theorem d_Tokens_put_0 : decode M_Tokens_put.2.1 0 = .ok (.aload_n 0, 1) := by decide +kernel
theorem d_Tokens_put_1 : decode M_Tokens_put.2.1 1 = .ok (.getfield 36, 3) := by decide +kernel
theorem d_Tokens_put_4 : decode M_Tokens_put.2.1 4 = .ok (.ifCond .lt 79, 3) := by decide +kernel
theorem d_Tokens_put_7 : decode M_Tokens_put.2.1 7 = .ok (.aload_n 0, 1) := by decide +kernel
theorem d_Tokens_put_8 : decode M_Tokens_put.2.1 8 = .ok (.getfield 36, 3) := by decide +kernel
theorem d_Tokens_put_11 : decode M_Tokens_put.2.1 11 = .ok (.aload_n 0, 1) := by decide +kernel
theorem d_Tokens_put_12 : decode M_Tokens_put.2.1 12 = .ok (.getfield 11, 3) := by decide +kernel
theorem d_Tokens_put_15 : decode M_Tokens_put.2.1 15 = .ok (.arraylength, 1) := by decide +kernel
theorem d_Tokens_put_16 : decode M_Tokens_put.2.1 16 = .ok (.if_icmp .ge 67, 3) := by decide +kernel
theorem d_Tokens_put_19 : decode M_Tokens_put.2.1 19 = .ok (.aload_n 0, 1) := by decide +kernel
theorem d_Tokens_put_20 : decode M_Tokens_put.2.1 20 = .ok (.getfield 36, 3) := by decide +kernel
theorem d_Tokens_put_23 : decode M_Tokens_put.2.1 23 = .ok (.aload_n 0, 1) := by decide +kernel
theorem d_Tokens_put_24 : decode M_Tokens_put.2.1 24 = .ok (.getfield 17, 3) := by decide +kernel
theorem d_Tokens_put_27 : decode M_Tokens_put.2.1 27 = .ok (.arraylength, 1) := by decide +kernel
theorem d_Tokens_put_28 : decode M_Tokens_put.2.1 28 = .ok (.if_icmp .ge 55, 3) := by decide +kernel
theorem d_Tokens_put_31 : decode M_Tokens_put.2.1 31 = .ok (.aload_n 0, 1) := by decide +kernel
theorem d_Tokens_put_32 : decode M_Tokens_put.2.1 32 = .ok (.getfield 36, 3) := by decide +kernel
theorem d_Tokens_put_35 : decode M_Tokens_put.2.1 35 = .ok (.aload_n 0, 1) := by decide +kernel
theorem d_Tokens_put_36 : decode M_Tokens_put.2.1 36 = .ok (.getfield 21, 3) := by decide +kernel
theorem d_Tokens_put_39 : decode M_Tokens_put.2.1 39 = .ok (.arraylength, 1) := by decide +kernel
theorem d_Tokens_put_40 : decode M_Tokens_put.2.1 40 = .ok (.if_icmp .ge 43, 3) := by decide +kernel
theorem d_Tokens_put_43 : decode M_Tokens_put.2.1 43 = .ok (.aload_n 0, 1) := by decide +kernel
theorem d_Tokens_put_44 : decode M_Tokens_put.2.1 44 = .ok (.getfield 11, 3) := by decide +kernel
theorem d_Tokens_put_47 : decode M_Tokens_put.2.1 47 = .ok (.aload_n 0, 1) := by decide +kernel
theorem d_Tokens_put_48 : decode M_Tokens_put.2.1 48 = .ok (.getfield 36, 3) := by decide +kernel
theorem d_Tokens_put_51 : decode M_Tokens_put.2.1 51 = .ok (.aload_n 1, 1) := by decide +kernel
theorem d_Tokens_put_52 : decode M_Tokens_put.2.1 52 = .ok (.aastore, 1) := by decide +kernel
theorem d_Tokens_put_53 : decode M_Tokens_put.2.1 53 = .ok (.aload_n 0, 1) := by decide +kernel
theorem d_Tokens_put_54 : decode M_Tokens_put.2.1 54 = .ok (.getfield 17, 3) := by decide +kernel
theorem d_Tokens_put_57 : decode M_Tokens_put.2.1 57 = .ok (.aload_n 0, 1) := by decide +kernel
theorem d_Tokens_put_58 : decode M_Tokens_put.2.1 58 = .ok (.getfield 36, 3) := by decide +kernel
theorem d_Tokens_put_61 : decode M_Tokens_put.2.1 61 = .ok (.iload_n 2, 1) := by decide +kernel
theorem d_Tokens_put_62 : decode M_Tokens_put.2.1 62 = .ok (.iastore, 1) := by decide +kernel
theorem d_Tokens_put_63 : decode M_Tokens_put.2.1 63 = .ok (.aload_n 0, 1) := by decide +kernel
theorem d_Tokens_put_64 : decode M_Tokens_put.2.1 64 = .ok (.getfield 21, 3) := by decide +kernel
theorem d_Tokens_put_67 : decode M_Tokens_put.2.1 67 = .ok (.aload_n 0, 1) := by decide +kernel
theorem d_Tokens_put_68 : decode M_Tokens_put.2.1 68 = .ok (.getfield 36, 3) := by decide +kernel
theorem d_Tokens_put_71 : decode M_Tokens_put.2.1 71 = .ok (.lload_n 3, 1) := by decide +kernel
theorem d_Tokens_put_72 : decode M_Tokens_put.2.1 72 = .ok (.lastore, 1) := by decide +kernel
theorem d_Tokens_put_73 : decode M_Tokens_put.2.1 73 = .ok (.aload_n 0, 1) := by decide +kernel
theorem d_Tokens_put_74 : decode M_Tokens_put.2.1 74 = .ok (.dup, 1) := by decide +kernel
theorem d_Tokens_put_75 : decode M_Tokens_put.2.1 75 = .ok (.getfield 36, 3) := by decide +kernel
theorem d_Tokens_put_78 : decode M_Tokens_put.2.1 78 = .ok (.iconst 1, 1) := by decide +kernel
theorem d_Tokens_put_79 : decode M_Tokens_put.2.1 79 = .ok (.iadd, 1) := by decide +kernel
theorem d_Tokens_put_80 : decode M_Tokens_put.2.1 80 = .ok (.putfield 36, 3) := by decide +kernel
theorem d_Tokens_put_83 : decode M_Tokens_put.2.1 83 = .ok (.return_, 1) := by decide +kernel
def s_Tokens_put (K : TK) (x1 : Fin 54) (x2 : Int32) (x3 : Int64) : TK := (if (tk_sz K) < 0 then K else (if (nI 401) ≤ (tk_sz K) then K else (tk_sz' (tk_wo' (tk_st' (tk_sg' K (updS (tk_sg K) (tk_sz K).toNatClampNeg x1)) (upd (tk_st K) (tk_sz K).toNatClampNeg x2)) (vp_updL (tk_wo K) (tk_sz K).toNatClampNeg x3)) ((tk_sz K) + 1))))
set_option maxRecDepth 100000 in
set_option maxHeartbeats 4000000 in
theorem c_Tokens_put {Γ : G9} {sg : Nat → Nat} {h : AH} {k z : Nat} {K : TK} {x1 : Fin 54} {x2 : Int32} {x3 : Int64} (hs : SgOk Γ sg) : CallR Γ M_Tokens_put 0 [.ref k, .ref (sg x1.val), .int x2, .long x3] (blk h k 4 (tkC Γ sg k K)) z none (blk h k 4 (tkC Γ sg k (s_Tokens_put K x1 x2 x3))) := by
  refine Call.of_go (L := [some (.ref k), some (.ref (sg x1.val)), some (.int x2), some (.long x3), none]) (by decide +kernel) rfl (by exact Nat.le_of_ble_eq_true rfl) ?_
  unfold s_Tokens_put
  refine Go.aload_0 d_Tokens_put_0 rfl ?_
  refine Go.getfield d_Tokens_put_1 rfl f_Tokens_36 (tk_g0) (by rfl) ?_
  refine Go.if_lt (t := 83) d_Tokens_put_4 (by decide) rfl (fun c4_1 => ?_) (fun c4_1 => ?_)
  · rw [if_pos c4_1]
    exact Go.vret d_Tokens_put_83 rfl ⟨rfl, rfl, rfl⟩
  · refine Go.aload_0 d_Tokens_put_7 rfl ?_
    refine Go.getfield d_Tokens_put_8 rfl f_Tokens_36 (tk_g0) (by rfl) ?_
    refine Go.aload_0 d_Tokens_put_11 rfl ?_
    refine Go.getfield d_Tokens_put_12 rfl f_Tokens_11 (tk_g0) (by rfl) ?_
    refine Go.alen (n := (nI 401)) d_Tokens_put_15 rfl (tk_g1) (by rfl) rfl ?_
    refine Go.icmp_ge (t := 83) d_Tokens_put_16 (by decide) rfl (fun c16_2 => ?_) (fun c16_2 => ?_)
    · rw [if_neg c4_1, if_pos c16_2]
      exact Go.vret d_Tokens_put_83 rfl ⟨rfl, rfl, rfl⟩
    · refine Go.aload_0 d_Tokens_put_19 rfl ?_
      refine Go.getfield d_Tokens_put_20 rfl f_Tokens_36 (tk_g0) (by rfl) ?_
      refine Go.aload_0 d_Tokens_put_23 rfl ?_
      refine Go.getfield d_Tokens_put_24 rfl f_Tokens_17 (tk_g0) (by rfl) ?_
      refine Go.alen (n := (nI 401)) d_Tokens_put_27 rfl (tk_g2) (by rfl) rfl ?_
      refine Go.icmp_ge (t := 83) d_Tokens_put_28 (by decide) rfl (fun c28_3 => ?_) (fun c28_3 => ?_)
      · exact absurd c28_3 c16_2
      · refine Go.aload_0 d_Tokens_put_31 rfl ?_
        refine Go.getfield d_Tokens_put_32 rfl f_Tokens_36 (tk_g0) (by rfl) ?_
        refine Go.aload_0 d_Tokens_put_35 rfl ?_
        refine Go.getfield d_Tokens_put_36 rfl f_Tokens_21 (tk_g0) (by rfl) ?_
        refine Go.alen (n := (nI 401)) d_Tokens_put_39 rfl (tk_g3) (by rfl) rfl ?_
        refine Go.icmp_ge (t := 83) d_Tokens_put_40 (by decide) rfl (fun c40_4 => ?_) (fun c40_4 => ?_)
        · exact absurd c40_4 c16_2
        · refine Go.aload_0 d_Tokens_put_43 rfl ?_
          refine Go.getfield d_Tokens_put_44 rfl f_Tokens_11 (tk_g0) (by rfl) ?_
          refine Go.aload_0 d_Tokens_put_47 rfl ?_
          refine Go.getfield d_Tokens_put_48 rfl f_Tokens_36 (tk_g0) (by rfl) ?_
          refine Go.aload_1 d_Tokens_put_51 rfl ?_
          refine Go.aastoreS (v := x1) d_Tokens_put_52 rfl (tk_g1) (vp_ofL (n := 401) (m := nI 401) (by assumption) (by assumption) rfl (by decide)) hs ?_
          refine Go.heq (tk_a_sg (v := (updS (tk_sg K) (tk_sz K).toNatClampNeg x1))) ?_
          refine Go.aload_0 d_Tokens_put_53 rfl ?_
          refine Go.getfield d_Tokens_put_54 rfl f_Tokens_17 (tk_g0) (by rfl) ?_
          refine Go.aload_0 d_Tokens_put_57 rfl ?_
          refine Go.getfield d_Tokens_put_58 rfl f_Tokens_36 (tk_g0) (by rfl) ?_
          refine Go.iload_2 d_Tokens_put_61 rfl ?_
          refine Go.iastore d_Tokens_put_62 rfl (tk_g2) (vp_ofL (n := 401) (m := nI 401) (by assumption) (by assumption) rfl (by decide)) ?_
          refine Go.heq (tk_a_st (v := (upd (tk_st K) (tk_sz K).toNatClampNeg x2))) ?_
          refine Go.aload_0 d_Tokens_put_63 rfl ?_
          refine Go.getfield d_Tokens_put_64 rfl f_Tokens_21 (tk_g0) (by rfl) ?_
          refine Go.aload_0 d_Tokens_put_67 rfl ?_
          refine Go.getfield d_Tokens_put_68 rfl f_Tokens_36 (tk_g0) (by rfl) ?_
          refine Go.lload_3 d_Tokens_put_71 rfl ?_
          refine Go.lastore d_Tokens_put_72 rfl (tk_g3) (vp_ofL (n := 401) (m := nI 401) (by assumption) (by assumption) rfl (by decide)) ?_
          refine Go.heq (tk_a_wo (v := (vp_updL (tk_wo K) (tk_sz K).toNatClampNeg x3))) ?_
          refine Go.aload_0 d_Tokens_put_73 rfl ?_
          refine Go.dup d_Tokens_put_74 rfl rfl ?_
          refine Go.getfield d_Tokens_put_75 rfl f_Tokens_36 (tk_g0) (by rfl) ?_
          refine Go.iconst (v := 1) d_Tokens_put_78 rfl (by decide) ?_
          refine Go.iadd d_Tokens_put_79 rfl ?_
          refine Go.putfield d_Tokens_put_80 rfl f_Tokens_36_p (Or.inl (fun C T N h => by cases h; rfl)) (tk_g0) (by exact Nat.le_of_ble_eq_true rfl) rfl rfl ?_
          refine Go.heq (tk_p_sz (v := ((tk_sz K) + 1))) ?_
          rw [if_neg c4_1, if_neg c16_2]
          exact Go.vret d_Tokens_put_83 rfl ⟨rfl, rfl, rfl⟩
theorem d_Tokens_advance_0 : decode M_Tokens_advance.2.1 0 = .ok (.aload_n 0, 1) := by decide +kernel
theorem d_Tokens_advance_1 : decode M_Tokens_advance.2.1 1 = .ok (.dup, 1) := by decide +kernel
theorem d_Tokens_advance_2 : decode M_Tokens_advance.2.1 2 = .ok (.getfield 66, 3) := by decide +kernel
theorem d_Tokens_advance_5 : decode M_Tokens_advance.2.1 5 = .ok (.iconst 1, 1) := by decide +kernel
theorem d_Tokens_advance_6 : decode M_Tokens_advance.2.1 6 = .ok (.iadd, 1) := by decide +kernel
theorem d_Tokens_advance_7 : decode M_Tokens_advance.2.1 7 = .ok (.putfield 66, 3) := by decide +kernel
theorem d_Tokens_advance_10 : decode M_Tokens_advance.2.1 10 = .ok (.aload_n 0, 1) := by decide +kernel
theorem d_Tokens_advance_11 : decode M_Tokens_advance.2.1 11 = .ok (.getfield 66, 3) := by decide +kernel
theorem d_Tokens_advance_14 : decode M_Tokens_advance.2.1 14 = .ok (.ifCond .lt 54, 3) := by decide +kernel
theorem d_Tokens_advance_17 : decode M_Tokens_advance.2.1 17 = .ok (.aload_n 0, 1) := by decide +kernel
theorem d_Tokens_advance_18 : decode M_Tokens_advance.2.1 18 = .ok (.getfield 66, 3) := by decide +kernel
theorem d_Tokens_advance_21 : decode M_Tokens_advance.2.1 21 = .ok (.aload_n 0, 1) := by decide +kernel
theorem d_Tokens_advance_22 : decode M_Tokens_advance.2.1 22 = .ok (.getfield 36, 3) := by decide +kernel
theorem d_Tokens_advance_25 : decode M_Tokens_advance.2.1 25 = .ok (.if_icmp .ge 43, 3) := by decide +kernel
theorem d_Tokens_advance_28 : decode M_Tokens_advance.2.1 28 = .ok (.aload_n 0, 1) := by decide +kernel
theorem d_Tokens_advance_29 : decode M_Tokens_advance.2.1 29 = .ok (.getfield 66, 3) := by decide +kernel
theorem d_Tokens_advance_32 : decode M_Tokens_advance.2.1 32 = .ok (.aload_n 0, 1) := by decide +kernel
theorem d_Tokens_advance_33 : decode M_Tokens_advance.2.1 33 = .ok (.getfield 11, 3) := by decide +kernel
theorem d_Tokens_advance_36 : decode M_Tokens_advance.2.1 36 = .ok (.arraylength, 1) := by decide +kernel
theorem d_Tokens_advance_37 : decode M_Tokens_advance.2.1 37 = .ok (.if_icmp .ge 31, 3) := by decide +kernel
theorem d_Tokens_advance_40 : decode M_Tokens_advance.2.1 40 = .ok (.aload_n 0, 1) := by decide +kernel
theorem d_Tokens_advance_41 : decode M_Tokens_advance.2.1 41 = .ok (.getfield 66, 3) := by decide +kernel
theorem d_Tokens_advance_44 : decode M_Tokens_advance.2.1 44 = .ok (.aload_n 0, 1) := by decide +kernel
theorem d_Tokens_advance_45 : decode M_Tokens_advance.2.1 45 = .ok (.getfield 17, 3) := by decide +kernel
theorem d_Tokens_advance_48 : decode M_Tokens_advance.2.1 48 = .ok (.arraylength, 1) := by decide +kernel
theorem d_Tokens_advance_49 : decode M_Tokens_advance.2.1 49 = .ok (.if_icmp .ge 19, 3) := by decide +kernel
theorem d_Tokens_advance_52 : decode M_Tokens_advance.2.1 52 = .ok (.aload_n 0, 1) := by decide +kernel
theorem d_Tokens_advance_53 : decode M_Tokens_advance.2.1 53 = .ok (.getfield 66, 3) := by decide +kernel
theorem d_Tokens_advance_56 : decode M_Tokens_advance.2.1 56 = .ok (.aload_n 0, 1) := by decide +kernel
theorem d_Tokens_advance_57 : decode M_Tokens_advance.2.1 57 = .ok (.getfield 21, 3) := by decide +kernel
theorem d_Tokens_advance_60 : decode M_Tokens_advance.2.1 60 = .ok (.arraylength, 1) := by decide +kernel
theorem d_Tokens_advance_61 : decode M_Tokens_advance.2.1 61 = .ok (.if_icmp .ge 7, 3) := by decide +kernel
theorem d_Tokens_advance_64 : decode M_Tokens_advance.2.1 64 = .ok (.iconst 1, 1) := by decide +kernel
theorem d_Tokens_advance_65 : decode M_Tokens_advance.2.1 65 = .ok (.goto 4, 3) := by decide +kernel
theorem d_Tokens_advance_68 : decode M_Tokens_advance.2.1 68 = .ok (.iconst 0, 1) := by decide +kernel
theorem d_Tokens_advance_69 : decode M_Tokens_advance.2.1 69 = .ok (.istore_n 1, 1) := by decide +kernel
theorem d_Tokens_advance_70 : decode M_Tokens_advance.2.1 70 = .ok (.iload_n 1, 1) := by decide +kernel
theorem d_Tokens_advance_71 : decode M_Tokens_advance.2.1 71 = .ok (.ifCond .eq 15, 3) := by decide +kernel
theorem d_Tokens_advance_74 : decode M_Tokens_advance.2.1 74 = .ok (.aload_n 0, 1) := by decide +kernel
theorem d_Tokens_advance_75 : decode M_Tokens_advance.2.1 75 = .ok (.getfield 11, 3) := by decide +kernel
theorem d_Tokens_advance_78 : decode M_Tokens_advance.2.1 78 = .ok (.aload_n 0, 1) := by decide +kernel
theorem d_Tokens_advance_79 : decode M_Tokens_advance.2.1 79 = .ok (.getfield 66, 3) := by decide +kernel
theorem d_Tokens_advance_82 : decode M_Tokens_advance.2.1 82 = .ok (.aaload, 1) := by decide +kernel
theorem d_Tokens_advance_83 : decode M_Tokens_advance.2.1 83 = .ok (.goto 4, 3) := by decide +kernel
theorem d_Tokens_advance_86 : decode M_Tokens_advance.2.1 86 = .ok (.aconst_null, 1) := by decide +kernel
theorem d_Tokens_advance_87 : decode M_Tokens_advance.2.1 87 = .ok (.astore_n 2, 1) := by decide +kernel
theorem d_Tokens_advance_88 : decode M_Tokens_advance.2.1 88 = .ok (.aload_n 0, 1) := by decide +kernel
theorem d_Tokens_advance_89 : decode M_Tokens_advance.2.1 89 = .ok (.aload_n 2, 1) := by decide +kernel
theorem d_Tokens_advance_90 : decode M_Tokens_advance.2.1 90 = .ok (.ifnull 7, 3) := by decide +kernel
theorem d_Tokens_advance_93 : decode M_Tokens_advance.2.1 93 = .ok (.aload_n 2, 1) := by decide +kernel
theorem d_Tokens_advance_94 : decode M_Tokens_advance.2.1 94 = .ok (.goto 6, 3) := by decide +kernel
theorem d_Tokens_advance_97 : decode M_Tokens_advance.2.1 97 = .ok (.getstatic 63, 3) := by decide +kernel
theorem d_Tokens_advance_100 : decode M_Tokens_advance.2.1 100 = .ok (.putfield 29, 3) := by decide +kernel
theorem d_Tokens_advance_103 : decode M_Tokens_advance.2.1 103 = .ok (.aload_n 0, 1) := by decide +kernel
theorem d_Tokens_advance_104 : decode M_Tokens_advance.2.1 104 = .ok (.iload_n 1, 1) := by decide +kernel
theorem d_Tokens_advance_105 : decode M_Tokens_advance.2.1 105 = .ok (.ifCond .eq 15, 3) := by decide +kernel
theorem d_Tokens_advance_108 : decode M_Tokens_advance.2.1 108 = .ok (.aload_n 0, 1) := by decide +kernel
theorem d_Tokens_advance_109 : decode M_Tokens_advance.2.1 109 = .ok (.getfield 17, 3) := by decide +kernel
theorem d_Tokens_advance_112 : decode M_Tokens_advance.2.1 112 = .ok (.aload_n 0, 1) := by decide +kernel
theorem d_Tokens_advance_113 : decode M_Tokens_advance.2.1 113 = .ok (.getfield 66, 3) := by decide +kernel
theorem d_Tokens_advance_116 : decode M_Tokens_advance.2.1 116 = .ok (.iaload, 1) := by decide +kernel
theorem d_Tokens_advance_117 : decode M_Tokens_advance.2.1 117 = .ok (.goto 7, 3) := by decide +kernel
theorem d_Tokens_advance_120 : decode M_Tokens_advance.2.1 120 = .ok (.aload_n 0, 1) := by decide +kernel
theorem d_Tokens_advance_121 : decode M_Tokens_advance.2.1 121 = .ok (.getfield 72, 3) := by decide +kernel
theorem d_Tokens_advance_124 : decode M_Tokens_advance.2.1 124 = .ok (.putfield 72, 3) := by decide +kernel
theorem d_Tokens_advance_127 : decode M_Tokens_advance.2.1 127 = .ok (.aload_n 0, 1) := by decide +kernel
theorem d_Tokens_advance_128 : decode M_Tokens_advance.2.1 128 = .ok (.iload_n 1, 1) := by decide +kernel
theorem d_Tokens_advance_129 : decode M_Tokens_advance.2.1 129 = .ok (.ifCond .eq 15, 3) := by decide +kernel
theorem d_Tokens_advance_132 : decode M_Tokens_advance.2.1 132 = .ok (.aload_n 0, 1) := by decide +kernel
theorem d_Tokens_advance_133 : decode M_Tokens_advance.2.1 133 = .ok (.getfield 21, 3) := by decide +kernel
theorem d_Tokens_advance_136 : decode M_Tokens_advance.2.1 136 = .ok (.aload_n 0, 1) := by decide +kernel
theorem d_Tokens_advance_137 : decode M_Tokens_advance.2.1 137 = .ok (.getfield 66, 3) := by decide +kernel
theorem d_Tokens_advance_140 : decode M_Tokens_advance.2.1 140 = .ok (.laload, 1) := by decide +kernel
theorem d_Tokens_advance_141 : decode M_Tokens_advance.2.1 141 = .ok (.goto 4, 3) := by decide +kernel
theorem d_Tokens_advance_144 : decode M_Tokens_advance.2.1 144 = .ok (.lconst 0, 1) := by decide +kernel
theorem d_Tokens_advance_145 : decode M_Tokens_advance.2.1 145 = .ok (.putfield 75, 3) := by decide +kernel
theorem d_Tokens_advance_148 : decode M_Tokens_advance.2.1 148 = .ok (.return_, 1) := by decide +kernel
def s_Tokens_advance (K : TK) : TK := (if ((tk_at K) + 1) < 0 then (tk_w' (tk_b' (tk_sn' (tk_at' K ((tk_at K) + 1)) (53 : Fin 54)) (tk_b K)) 0) else (if (tk_sz K) ≤ ((tk_at K) + 1) then (tk_w' (tk_b' (tk_sn' (tk_at' K ((tk_at K) + 1)) (53 : Fin 54)) (tk_b K)) 0) else (if (nI 401) ≤ ((tk_at K) + 1) then (tk_w' (tk_b' (tk_sn' (tk_at' K ((tk_at K) + 1)) (53 : Fin 54)) (tk_b K)) 0) else (if ((tk_sg K) ((tk_at K) + 1).toNatClampNeg) = none then (tk_w' (tk_b' (tk_sn' (tk_at' K ((tk_at K) + 1)) (53 : Fin 54)) ((tk_st K) ((tk_at K) + 1).toNatClampNeg)) ((tk_wo K) ((tk_at K) + 1).toNatClampNeg)) else (tk_w' (tk_b' (tk_sn' (tk_at' K ((tk_at K) + 1)) ((((tk_sg K) ((tk_at K) + 1).toNatClampNeg)).getD 0)) ((tk_st K) ((tk_at K) + 1).toNatClampNeg)) ((tk_wo K) ((tk_at K) + 1).toNatClampNeg))))))
set_option maxRecDepth 100000 in
set_option maxHeartbeats 4000000 in
theorem c_Tokens_advance {Γ : G9} {sg : Nat → Nat} {h : AH} {k z : Nat} {K : TK} (hs : SgOk Γ sg) : CallR Γ M_Tokens_advance 0 [.ref k] (blk h k 4 (tkC Γ sg k K)) z none (blk h k 4 (tkC Γ sg k (s_Tokens_advance K))) := by
  refine Call.of_go (L := [some (.ref k), none, none]) (by decide +kernel) rfl (by exact Nat.le_of_ble_eq_true rfl) ?_
  unfold s_Tokens_advance
  refine Go.aload_0 d_Tokens_advance_0 rfl ?_
  refine Go.dup d_Tokens_advance_1 rfl rfl ?_
  refine Go.getfield d_Tokens_advance_2 rfl f_Tokens_66 (tk_g0) (by rfl) ?_
  refine Go.iconst (v := 1) d_Tokens_advance_5 rfl (by decide) ?_
  refine Go.iadd d_Tokens_advance_6 rfl ?_
  refine Go.putfield d_Tokens_advance_7 rfl f_Tokens_66_p (Or.inl (fun C T N h => by cases h; rfl)) (tk_g0) (by exact Nat.le_of_ble_eq_true rfl) rfl rfl ?_
  refine Go.heq (tk_p_at (v := ((tk_at K) + 1))) ?_
  refine Go.aload_0 d_Tokens_advance_10 rfl ?_
  refine Go.getfield d_Tokens_advance_11 rfl f_Tokens_66 (tk_g0) (by rfl) ?_
  refine Go.if_lt (t := 68) d_Tokens_advance_14 (by decide) rfl (fun c14_1 => ?_) (fun c14_1 => ?_)
  · refine Go.iconst (v := 0) d_Tokens_advance_68 rfl (by decide) ?_
    refine Go.istore_1 d_Tokens_advance_69 rfl (by rfl) ?_
    refine Go.iload_1 d_Tokens_advance_70 rfl ?_
    refine Go.if_eq (t := 86) d_Tokens_advance_71 (by decide) rfl (fun c71_2 => ?_) (fun c71_2 => ?_)
    · refine Go.aconst_null d_Tokens_advance_86 rfl ?_
      refine Go.astoreN_2 d_Tokens_advance_87 rfl (by rfl) ?_
      refine Go.aload_0 d_Tokens_advance_88 rfl ?_
      refine Go.aloadN_2 d_Tokens_advance_89 rfl ?_
      refine Go.ifnullN (t := 97) d_Tokens_advance_90 (by decide) ?_
      refine Go.gets d_Tokens_advance_97 rfl x_Tokens_63 (hs.z (i := 53) rfl) ?_
      refine Go.putfield d_Tokens_advance_100 rfl f_Tokens_29_p (Or.inl (fun C T N h => by cases h; rfl)) (tk_g0) (by exact Nat.le_of_ble_eq_true rfl) rfl rfl ?_
      refine Go.heq (tk_p_sn (v := (53 : Fin 54))) ?_
      refine Go.aload_0 d_Tokens_advance_103 rfl ?_
      refine Go.iload_1 d_Tokens_advance_104 rfl ?_
      refine Go.if_eq (t := 120) d_Tokens_advance_105 (by decide) rfl (fun c105_3 => ?_) (fun c105_3 => ?_)
      · refine Go.aload_0 d_Tokens_advance_120 rfl ?_
        refine Go.getfield d_Tokens_advance_121 rfl f_Tokens_72 (tk_g0) (by rfl) ?_
        refine Go.putfield d_Tokens_advance_124 rfl f_Tokens_72_p (Or.inl (fun C T N h => by cases h; rfl)) (tk_g0) (by exact Nat.le_of_ble_eq_true rfl) rfl rfl ?_
        refine Go.heq (tk_p_b (v := (tk_b K))) ?_
        refine Go.aload_0 d_Tokens_advance_127 rfl ?_
        refine Go.iload_1 d_Tokens_advance_128 rfl ?_
        refine Go.if_eq (t := 144) d_Tokens_advance_129 (by decide) rfl (fun c129_4 => ?_) (fun c129_4 => ?_)
        · refine Go.lconst (v := 0) d_Tokens_advance_144 rfl (by decide) ?_
          refine Go.putfield d_Tokens_advance_145 rfl f_Tokens_75_p (Or.inl (fun C T N h => by cases h; rfl)) (tk_g0) (by exact Nat.le_of_ble_eq_true rfl) rfl rfl ?_
          refine Go.heq (tk_p_w (v := 0)) ?_
          rw [if_pos c14_1]
          exact Go.vret d_Tokens_advance_148 rfl ⟨rfl, rfl, rfl⟩
        · exact absurd rfl c129_4
      · exact absurd rfl c105_3
    · exact absurd rfl c71_2
  · refine Go.aload_0 d_Tokens_advance_17 rfl ?_
    refine Go.getfield d_Tokens_advance_18 rfl f_Tokens_66 (tk_g0) (by rfl) ?_
    refine Go.aload_0 d_Tokens_advance_21 rfl ?_
    refine Go.getfield d_Tokens_advance_22 rfl f_Tokens_36 (tk_g0) (by rfl) ?_
    refine Go.icmp_ge (t := 68) d_Tokens_advance_25 (by decide) rfl (fun c25_5 => ?_) (fun c25_5 => ?_)
    · refine Go.iconst (v := 0) d_Tokens_advance_68 rfl (by decide) ?_
      refine Go.istore_1 d_Tokens_advance_69 rfl (by rfl) ?_
      refine Go.iload_1 d_Tokens_advance_70 rfl ?_
      refine Go.if_eq (t := 86) d_Tokens_advance_71 (by decide) rfl (fun c71_6 => ?_) (fun c71_6 => ?_)
      · refine Go.aconst_null d_Tokens_advance_86 rfl ?_
        refine Go.astoreN_2 d_Tokens_advance_87 rfl (by rfl) ?_
        refine Go.aload_0 d_Tokens_advance_88 rfl ?_
        refine Go.aloadN_2 d_Tokens_advance_89 rfl ?_
        refine Go.ifnullN (t := 97) d_Tokens_advance_90 (by decide) ?_
        refine Go.gets d_Tokens_advance_97 rfl x_Tokens_63 (hs.z (i := 53) rfl) ?_
        refine Go.putfield d_Tokens_advance_100 rfl f_Tokens_29_p (Or.inl (fun C T N h => by cases h; rfl)) (tk_g0) (by exact Nat.le_of_ble_eq_true rfl) rfl rfl ?_
        refine Go.heq (tk_p_sn (v := (53 : Fin 54))) ?_
        refine Go.aload_0 d_Tokens_advance_103 rfl ?_
        refine Go.iload_1 d_Tokens_advance_104 rfl ?_
        refine Go.if_eq (t := 120) d_Tokens_advance_105 (by decide) rfl (fun c105_7 => ?_) (fun c105_7 => ?_)
        · refine Go.aload_0 d_Tokens_advance_120 rfl ?_
          refine Go.getfield d_Tokens_advance_121 rfl f_Tokens_72 (tk_g0) (by rfl) ?_
          refine Go.putfield d_Tokens_advance_124 rfl f_Tokens_72_p (Or.inl (fun C T N h => by cases h; rfl)) (tk_g0) (by exact Nat.le_of_ble_eq_true rfl) rfl rfl ?_
          refine Go.heq (tk_p_b (v := (tk_b K))) ?_
          refine Go.aload_0 d_Tokens_advance_127 rfl ?_
          refine Go.iload_1 d_Tokens_advance_128 rfl ?_
          refine Go.if_eq (t := 144) d_Tokens_advance_129 (by decide) rfl (fun c129_8 => ?_) (fun c129_8 => ?_)
          · refine Go.lconst (v := 0) d_Tokens_advance_144 rfl (by decide) ?_
            refine Go.putfield d_Tokens_advance_145 rfl f_Tokens_75_p (Or.inl (fun C T N h => by cases h; rfl)) (tk_g0) (by exact Nat.le_of_ble_eq_true rfl) rfl rfl ?_
            refine Go.heq (tk_p_w (v := 0)) ?_
            rw [if_neg c14_1, if_pos c25_5]
            exact Go.vret d_Tokens_advance_148 rfl ⟨rfl, rfl, rfl⟩
          · exact absurd rfl c129_8
        · exact absurd rfl c105_7
      · exact absurd rfl c71_6
    · refine Go.aload_0 d_Tokens_advance_28 rfl ?_
      refine Go.getfield d_Tokens_advance_29 rfl f_Tokens_66 (tk_g0) (by rfl) ?_
      refine Go.aload_0 d_Tokens_advance_32 rfl ?_
      refine Go.getfield d_Tokens_advance_33 rfl f_Tokens_11 (tk_g0) (by rfl) ?_
      refine Go.alen (n := (nI 401)) d_Tokens_advance_36 rfl (tk_g1) (by rfl) rfl ?_
      refine Go.icmp_ge (t := 68) d_Tokens_advance_37 (by decide) rfl (fun c37_9 => ?_) (fun c37_9 => ?_)
      · refine Go.iconst (v := 0) d_Tokens_advance_68 rfl (by decide) ?_
        refine Go.istore_1 d_Tokens_advance_69 rfl (by rfl) ?_
        refine Go.iload_1 d_Tokens_advance_70 rfl ?_
        refine Go.if_eq (t := 86) d_Tokens_advance_71 (by decide) rfl (fun c71_10 => ?_) (fun c71_10 => ?_)
        · refine Go.aconst_null d_Tokens_advance_86 rfl ?_
          refine Go.astoreN_2 d_Tokens_advance_87 rfl (by rfl) ?_
          refine Go.aload_0 d_Tokens_advance_88 rfl ?_
          refine Go.aloadN_2 d_Tokens_advance_89 rfl ?_
          refine Go.ifnullN (t := 97) d_Tokens_advance_90 (by decide) ?_
          refine Go.gets d_Tokens_advance_97 rfl x_Tokens_63 (hs.z (i := 53) rfl) ?_
          refine Go.putfield d_Tokens_advance_100 rfl f_Tokens_29_p (Or.inl (fun C T N h => by cases h; rfl)) (tk_g0) (by exact Nat.le_of_ble_eq_true rfl) rfl rfl ?_
          refine Go.heq (tk_p_sn (v := (53 : Fin 54))) ?_
          refine Go.aload_0 d_Tokens_advance_103 rfl ?_
          refine Go.iload_1 d_Tokens_advance_104 rfl ?_
          refine Go.if_eq (t := 120) d_Tokens_advance_105 (by decide) rfl (fun c105_11 => ?_) (fun c105_11 => ?_)
          · refine Go.aload_0 d_Tokens_advance_120 rfl ?_
            refine Go.getfield d_Tokens_advance_121 rfl f_Tokens_72 (tk_g0) (by rfl) ?_
            refine Go.putfield d_Tokens_advance_124 rfl f_Tokens_72_p (Or.inl (fun C T N h => by cases h; rfl)) (tk_g0) (by exact Nat.le_of_ble_eq_true rfl) rfl rfl ?_
            refine Go.heq (tk_p_b (v := (tk_b K))) ?_
            refine Go.aload_0 d_Tokens_advance_127 rfl ?_
            refine Go.iload_1 d_Tokens_advance_128 rfl ?_
            refine Go.if_eq (t := 144) d_Tokens_advance_129 (by decide) rfl (fun c129_12 => ?_) (fun c129_12 => ?_)
            · refine Go.lconst (v := 0) d_Tokens_advance_144 rfl (by decide) ?_
              refine Go.putfield d_Tokens_advance_145 rfl f_Tokens_75_p (Or.inl (fun C T N h => by cases h; rfl)) (tk_g0) (by exact Nat.le_of_ble_eq_true rfl) rfl rfl ?_
              refine Go.heq (tk_p_w (v := 0)) ?_
              rw [if_neg c14_1, if_neg c25_5, if_pos c37_9]
              exact Go.vret d_Tokens_advance_148 rfl ⟨rfl, rfl, rfl⟩
            · exact absurd rfl c129_12
          · exact absurd rfl c105_11
        · exact absurd rfl c71_10
      · refine Go.aload_0 d_Tokens_advance_40 rfl ?_
        refine Go.getfield d_Tokens_advance_41 rfl f_Tokens_66 (tk_g0) (by rfl) ?_
        refine Go.aload_0 d_Tokens_advance_44 rfl ?_
        refine Go.getfield d_Tokens_advance_45 rfl f_Tokens_17 (tk_g0) (by rfl) ?_
        refine Go.alen (n := (nI 401)) d_Tokens_advance_48 rfl (tk_g2) (by rfl) rfl ?_
        refine Go.icmp_ge (t := 68) d_Tokens_advance_49 (by decide) rfl (fun c49_13 => ?_) (fun c49_13 => ?_)
        · exact absurd c49_13 c37_9
        · refine Go.aload_0 d_Tokens_advance_52 rfl ?_
          refine Go.getfield d_Tokens_advance_53 rfl f_Tokens_66 (tk_g0) (by rfl) ?_
          refine Go.aload_0 d_Tokens_advance_56 rfl ?_
          refine Go.getfield d_Tokens_advance_57 rfl f_Tokens_21 (tk_g0) (by rfl) ?_
          refine Go.alen (n := (nI 401)) d_Tokens_advance_60 rfl (tk_g3) (by rfl) rfl ?_
          refine Go.icmp_ge (t := 68) d_Tokens_advance_61 (by decide) rfl (fun c61_14 => ?_) (fun c61_14 => ?_)
          · exact absurd c61_14 c37_9
          · refine Go.iconst (v := 1) d_Tokens_advance_64 rfl (by decide) ?_
            refine Go.goto (t := 69) d_Tokens_advance_65 (by decide) ?_
            refine Go.istore_1 d_Tokens_advance_69 rfl (by rfl) ?_
            refine Go.iload_1 d_Tokens_advance_70 rfl ?_
            refine Go.if_eq (t := 86) d_Tokens_advance_71 (by decide) rfl (fun c71_15 => ?_) (fun c71_15 => ?_)
            · exact absurd c71_15 (by decide)
            · refine Go.aload_0 d_Tokens_advance_74 rfl ?_
              refine Go.getfield d_Tokens_advance_75 rfl f_Tokens_11 (tk_g0) (by rfl) ?_
              refine Go.aload_0 d_Tokens_advance_78 rfl ?_
              refine Go.getfield d_Tokens_advance_79 rfl f_Tokens_66 (tk_g0) (by rfl) ?_
              refine Go.aaldS d_Tokens_advance_82 rfl (tk_g1) (vp_ofL (n := 401) (m := nI 401) (by assumption) (by assumption) rfl (by decide)) ?_
              by_cases c82_16 : ((tk_sg K) ((tk_at K) + 1).toNatClampNeg) = none
              · rw [va_rf_none c82_16]
                refine Go.goto (t := 87) d_Tokens_advance_83 (by decide) ?_
                refine Go.astoreN_2 d_Tokens_advance_87 rfl (by rfl) ?_
                refine Go.aload_0 d_Tokens_advance_88 rfl ?_
                refine Go.aloadN_2 d_Tokens_advance_89 rfl ?_
                refine Go.ifnullN (t := 97) d_Tokens_advance_90 (by decide) ?_
                refine Go.gets d_Tokens_advance_97 rfl x_Tokens_63 (hs.z (i := 53) rfl) ?_
                refine Go.putfield d_Tokens_advance_100 rfl f_Tokens_29_p (Or.inl (fun C T N h => by cases h; rfl)) (tk_g0) (by exact Nat.le_of_ble_eq_true rfl) rfl rfl ?_
                refine Go.heq (tk_p_sn (v := (53 : Fin 54))) ?_
                refine Go.aload_0 d_Tokens_advance_103 rfl ?_
                refine Go.iload_1 d_Tokens_advance_104 rfl ?_
                refine Go.if_eq (t := 120) d_Tokens_advance_105 (by decide) rfl (fun c105_17 => ?_) (fun c105_17 => ?_)
                · exact absurd c105_17 (by decide)
                · refine Go.aload_0 d_Tokens_advance_108 rfl ?_
                  refine Go.getfield d_Tokens_advance_109 rfl f_Tokens_17 (tk_g0) (by rfl) ?_
                  refine Go.aload_0 d_Tokens_advance_112 rfl ?_
                  refine Go.getfield d_Tokens_advance_113 rfl f_Tokens_66 (tk_g0) (by rfl) ?_
                  refine Go.iaload d_Tokens_advance_116 rfl (tk_g2) (vp_ofL (n := 401) (m := nI 401) (by assumption) (by assumption) rfl (by decide)) ?_
                  refine Go.goto (t := 124) d_Tokens_advance_117 (by decide) ?_
                  refine Go.putfield d_Tokens_advance_124 rfl f_Tokens_72_p (Or.inl (fun C T N h => by cases h; rfl)) (tk_g0) (by exact Nat.le_of_ble_eq_true rfl) rfl rfl ?_
                  refine Go.heq (tk_p_b (v := ((tk_st K) ((tk_at K) + 1).toNatClampNeg))) ?_
                  refine Go.aload_0 d_Tokens_advance_127 rfl ?_
                  refine Go.iload_1 d_Tokens_advance_128 rfl ?_
                  refine Go.if_eq (t := 144) d_Tokens_advance_129 (by decide) rfl (fun c129_18 => ?_) (fun c129_18 => ?_)
                  · exact absurd c129_18 (by decide)
                  · refine Go.aload_0 d_Tokens_advance_132 rfl ?_
                    refine Go.getfield d_Tokens_advance_133 rfl f_Tokens_21 (tk_g0) (by rfl) ?_
                    refine Go.aload_0 d_Tokens_advance_136 rfl ?_
                    refine Go.getfield d_Tokens_advance_137 rfl f_Tokens_66 (tk_g0) (by rfl) ?_
                    refine Go.laload d_Tokens_advance_140 rfl (tk_g3) (vp_ofL (n := 401) (m := nI 401) (by assumption) (by assumption) rfl (by decide)) ?_
                    refine Go.goto (t := 145) d_Tokens_advance_141 (by decide) ?_
                    refine Go.putfield d_Tokens_advance_145 rfl f_Tokens_75_p (Or.inl (fun C T N h => by cases h; rfl)) (tk_g0) (by exact Nat.le_of_ble_eq_true rfl) rfl rfl ?_
                    refine Go.heq (tk_p_w (v := ((tk_wo K) ((tk_at K) + 1).toNatClampNeg))) ?_
                    rw [if_neg c14_1, if_neg c25_5, if_neg c37_9, if_pos c82_16]
                    exact Go.vret d_Tokens_advance_148 rfl ⟨rfl, rfl, rfl⟩
              rw [va_rf_some 0 c82_16]
              refine Go.goto (t := 87) d_Tokens_advance_83 (by decide) ?_
              refine Go.astore_2 d_Tokens_advance_87 rfl (by rfl) ?_
              refine Go.aload_0 d_Tokens_advance_88 rfl ?_
              refine Go.aload_2 d_Tokens_advance_89 rfl ?_
              refine Go.ifnull d_Tokens_advance_90 rfl ?_
              refine Go.aload_2 d_Tokens_advance_93 rfl ?_
              refine Go.goto (t := 100) d_Tokens_advance_94 (by decide) ?_
              refine Go.putfield d_Tokens_advance_100 rfl f_Tokens_29_p (Or.inl (fun C T N h => by cases h; rfl)) (tk_g0) (by exact Nat.le_of_ble_eq_true rfl) rfl rfl ?_
              refine Go.heq (tk_p_sn (v := ((((tk_sg K) ((tk_at K) + 1).toNatClampNeg)).getD 0))) ?_
              refine Go.aload_0 d_Tokens_advance_103 rfl ?_
              refine Go.iload_1 d_Tokens_advance_104 rfl ?_
              refine Go.if_eq (t := 120) d_Tokens_advance_105 (by decide) rfl (fun c105_19 => ?_) (fun c105_19 => ?_)
              · exact absurd c105_19 (by decide)
              · refine Go.aload_0 d_Tokens_advance_108 rfl ?_
                refine Go.getfield d_Tokens_advance_109 rfl f_Tokens_17 (tk_g0) (by rfl) ?_
                refine Go.aload_0 d_Tokens_advance_112 rfl ?_
                refine Go.getfield d_Tokens_advance_113 rfl f_Tokens_66 (tk_g0) (by rfl) ?_
                refine Go.iaload d_Tokens_advance_116 rfl (tk_g2) (vp_ofL (n := 401) (m := nI 401) (by assumption) (by assumption) rfl (by decide)) ?_
                refine Go.goto (t := 124) d_Tokens_advance_117 (by decide) ?_
                refine Go.putfield d_Tokens_advance_124 rfl f_Tokens_72_p (Or.inl (fun C T N h => by cases h; rfl)) (tk_g0) (by exact Nat.le_of_ble_eq_true rfl) rfl rfl ?_
                refine Go.heq (tk_p_b (v := ((tk_st K) ((tk_at K) + 1).toNatClampNeg))) ?_
                refine Go.aload_0 d_Tokens_advance_127 rfl ?_
                refine Go.iload_1 d_Tokens_advance_128 rfl ?_
                refine Go.if_eq (t := 144) d_Tokens_advance_129 (by decide) rfl (fun c129_20 => ?_) (fun c129_20 => ?_)
                · exact absurd c129_20 (by decide)
                · refine Go.aload_0 d_Tokens_advance_132 rfl ?_
                  refine Go.getfield d_Tokens_advance_133 rfl f_Tokens_21 (tk_g0) (by rfl) ?_
                  refine Go.aload_0 d_Tokens_advance_136 rfl ?_
                  refine Go.getfield d_Tokens_advance_137 rfl f_Tokens_66 (tk_g0) (by rfl) ?_
                  refine Go.laload d_Tokens_advance_140 rfl (tk_g3) (vp_ofL (n := 401) (m := nI 401) (by assumption) (by assumption) rfl (by decide)) ?_
                  refine Go.goto (t := 145) d_Tokens_advance_141 (by decide) ?_
                  refine Go.putfield d_Tokens_advance_145 rfl f_Tokens_75_p (Or.inl (fun C T N h => by cases h; rfl)) (tk_g0) (by exact Nat.le_of_ble_eq_true rfl) rfl rfl ?_
                  refine Go.heq (tk_p_w (v := ((tk_wo K) ((tk_at K) + 1).toNatClampNeg))) ?_
                  rw [if_neg c14_1, if_neg c25_5, if_neg c37_9, if_neg c82_16]
                  exact Go.vret d_Tokens_advance_148 rfl ⟨rfl, rfl, rfl⟩
theorem d_Tokens_expect_0 : decode M_Tokens_expect.2.1 0 = .ok (.aload_n 0, 1) := by decide +kernel
theorem d_Tokens_expect_1 : decode M_Tokens_expect.2.1 1 = .ok (.getfield 29, 3) := by decide +kernel
theorem d_Tokens_expect_4 : decode M_Tokens_expect.2.1 4 = .ok (.aload_n 1, 1) := by decide +kernel
theorem d_Tokens_expect_5 : decode M_Tokens_expect.2.1 5 = .ok (.if_acmp .ne 10, 3) := by decide +kernel
theorem d_Tokens_expect_8 : decode M_Tokens_expect.2.1 8 = .ok (.aload_n 0, 1) := by decide +kernel
theorem d_Tokens_expect_9 : decode M_Tokens_expect.2.1 9 = .ok (.invokevirtual 69, 3) := by decide +kernel
theorem d_Tokens_expect_12 : decode M_Tokens_expect.2.1 12 = .ok (.goto 7, 3) := by decide +kernel
theorem d_Tokens_expect_15 : decode M_Tokens_expect.2.1 15 = .ok (.aload_n 0, 1) := by decide +kernel
theorem d_Tokens_expect_16 : decode M_Tokens_expect.2.1 16 = .ok (.invokevirtual 79, 3) := by decide +kernel
theorem d_Tokens_expect_19 : decode M_Tokens_expect.2.1 19 = .ok (.return_, 1) := by decide +kernel
def s_Tokens_expect (K : TK) (x1 : Fin 54) : TK := (if (tk_sn K).val = x1.val then (s_Tokens_advance K) else (s_Tokens_breakOff K))
set_option maxRecDepth 100000 in
set_option maxHeartbeats 4000000 in
theorem c_Tokens_expect {Γ : G9} {sg : Nat → Nat} {h : AH} {k z : Nat} {K : TK} {x1 : Fin 54} (hs : SgOk Γ sg) (hsn : SgNe sg) : CallR Γ M_Tokens_expect 1 [.ref k, .ref (sg x1.val)] (blk h k 4 (tkC Γ sg k K)) z none (blk h k 4 (tkC Γ sg k (s_Tokens_expect K x1))) := by
  refine Call.of_go (L := [some (.ref k), some (.ref (sg x1.val))]) (by decide +kernel) rfl (by exact Nat.le_of_ble_eq_true rfl) ?_
  unfold s_Tokens_expect
  refine Go.aload_0 d_Tokens_expect_0 rfl ?_
  refine Go.getfield d_Tokens_expect_1 rfl f_Tokens_29 (tk_g0) (by rfl) ?_
  refine Go.aload_1 d_Tokens_expect_4 rfl ?_
  refine Go.acmp_ne (t := 15) d_Tokens_expect_5 (by decide) rfl (fun c5_1 => ?_) (fun c5_1 => ?_)
  · have c5_1 : ¬ (tk_sn K).val = x1.val := fun w => c5_1 (by rw [w])
    refine Go.aload_0 d_Tokens_expect_15 rfl ?_
    refine Go.cv0v d_Tokens_expect_16 rfl l_Tokens_79 k_Tokens_breakOff_v (tk_g0) rfl (c_Tokens_breakOff hs) rfl rfl rfl ?_
    rw [if_neg c5_1]
    exact Go.vret d_Tokens_expect_19 rfl ⟨rfl, rfl, rfl⟩
  · have c5_1 := hsn _ _ ((tk_sn K)).isLt (x1).isLt c5_1
    refine Go.aload_0 d_Tokens_expect_8 rfl ?_
    refine Go.cv0v d_Tokens_expect_9 rfl l_Tokens_69 k_Tokens_advance_v (tk_g0) rfl (c_Tokens_advance hs) rfl rfl rfl ?_
    refine Go.goto (t := 19) d_Tokens_expect_12 (by decide) ?_
    rw [if_pos c5_1]
    exact Go.vret d_Tokens_expect_19 rfl ⟨rfl, rfl, rfl⟩
theorem d_Tokens_isLetter_0 : decode M_Tokens_isLetter.2.1 0 = .ok (.iload_n 0, 1) := by decide +kernel
theorem d_Tokens_isLetter_1 : decode M_Tokens_isLetter.2.1 1 = .ok (.bipush 97, 2) := by decide +kernel
theorem d_Tokens_isLetter_3 : decode M_Tokens_isLetter.2.1 3 = .ok (.if_icmp .lt 13, 3) := by decide +kernel
theorem d_Tokens_isLetter_6 : decode M_Tokens_isLetter.2.1 6 = .ok (.iload_n 0, 1) := by decide +kernel
theorem d_Tokens_isLetter_7 : decode M_Tokens_isLetter.2.1 7 = .ok (.bipush 122, 2) := by decide +kernel
theorem d_Tokens_isLetter_9 : decode M_Tokens_isLetter.2.1 9 = .ok (.if_icmp .gt 7, 3) := by decide +kernel
theorem d_Tokens_isLetter_12 : decode M_Tokens_isLetter.2.1 12 = .ok (.iconst 1, 1) := by decide +kernel
theorem d_Tokens_isLetter_13 : decode M_Tokens_isLetter.2.1 13 = .ok (.goto 4, 3) := by decide +kernel
theorem d_Tokens_isLetter_16 : decode M_Tokens_isLetter.2.1 16 = .ok (.iconst 0, 1) := by decide +kernel
theorem d_Tokens_isLetter_17 : decode M_Tokens_isLetter.2.1 17 = .ok (.ireturn, 1) := by decide +kernel
def s_Tokens_isLetter (x1 : Int32) : Int32 := (if x1 < 97 then 0 else (if 122 < x1 then 0 else 1))
set_option maxRecDepth 100000 in
set_option maxHeartbeats 4000000 in
theorem c_Tokens_isLetter {Γ : G9} {h : AH} {z : Nat} {x1 : Int32} : CallR Γ M_Tokens_isLetter 0 [.int x1] h z (some (.int (s_Tokens_isLetter x1))) h := by
  refine Call.of_go (L := [some (.int x1)]) (by decide +kernel) rfl (by exact Nat.le_of_ble_eq_true rfl) ?_
  unfold s_Tokens_isLetter
  refine Go.iload_0 d_Tokens_isLetter_0 rfl ?_
  refine Go.bipush (v := 97) d_Tokens_isLetter_1 rfl (by decide) ?_
  refine Go.icmp_lt (t := 16) d_Tokens_isLetter_3 (by decide) rfl (fun c3_1 => ?_) (fun c3_1 => ?_)
  · refine Go.iconst (v := 0) d_Tokens_isLetter_16 rfl (by decide) ?_
    rw [if_pos c3_1]
    exact Go.iret d_Tokens_isLetter_17 rfl rfl ⟨rfl, rfl, rfl⟩
  · refine Go.iload_0 d_Tokens_isLetter_6 rfl ?_
    refine Go.bipush (v := 122) d_Tokens_isLetter_7 rfl (by decide) ?_
    refine Go.icmp_gt (t := 16) d_Tokens_isLetter_9 (by decide) rfl (fun c9_2 => ?_) (fun c9_2 => ?_)
    · refine Go.iconst (v := 0) d_Tokens_isLetter_16 rfl (by decide) ?_
      rw [if_neg c3_1, if_pos c9_2]
      exact Go.iret d_Tokens_isLetter_17 rfl rfl ⟨rfl, rfl, rfl⟩
    · refine Go.iconst (v := 1) d_Tokens_isLetter_12 rfl (by decide) ?_
      refine Go.goto (t := 17) d_Tokens_isLetter_13 (by decide) ?_
      rw [if_neg c3_1, if_neg c9_2]
      exact Go.iret d_Tokens_isLetter_17 rfl rfl ⟨rfl, rfl, rfl⟩
set_option maxRecDepth 100000 in
set_option maxHeartbeats 4000000 in
theorem s_Tokens_isLetter_01 (x1 : Int32) : (s_Tokens_isLetter x1) = 0 ∨ (s_Tokens_isLetter x1) = 1 := by
  unfold s_Tokens_isLetter
  (repeat' split) <;> first | exact Or.inl rfl | exact Or.inr rfl
theorem d_Tokens_isDigit_0 : decode M_Tokens_isDigit.2.1 0 = .ok (.iload_n 0, 1) := by decide +kernel
theorem d_Tokens_isDigit_1 : decode M_Tokens_isDigit.2.1 1 = .ok (.bipush 48, 2) := by decide +kernel
theorem d_Tokens_isDigit_3 : decode M_Tokens_isDigit.2.1 3 = .ok (.if_icmp .lt 13, 3) := by decide +kernel
theorem d_Tokens_isDigit_6 : decode M_Tokens_isDigit.2.1 6 = .ok (.iload_n 0, 1) := by decide +kernel
theorem d_Tokens_isDigit_7 : decode M_Tokens_isDigit.2.1 7 = .ok (.bipush 57, 2) := by decide +kernel
theorem d_Tokens_isDigit_9 : decode M_Tokens_isDigit.2.1 9 = .ok (.if_icmp .gt 7, 3) := by decide +kernel
theorem d_Tokens_isDigit_12 : decode M_Tokens_isDigit.2.1 12 = .ok (.iconst 1, 1) := by decide +kernel
theorem d_Tokens_isDigit_13 : decode M_Tokens_isDigit.2.1 13 = .ok (.goto 4, 3) := by decide +kernel
theorem d_Tokens_isDigit_16 : decode M_Tokens_isDigit.2.1 16 = .ok (.iconst 0, 1) := by decide +kernel
theorem d_Tokens_isDigit_17 : decode M_Tokens_isDigit.2.1 17 = .ok (.ireturn, 1) := by decide +kernel
def s_Tokens_isDigit (x1 : Int32) : Int32 := (if x1 < 48 then 0 else (if 57 < x1 then 0 else 1))
set_option maxRecDepth 100000 in
set_option maxHeartbeats 4000000 in
theorem c_Tokens_isDigit {Γ : G9} {h : AH} {z : Nat} {x1 : Int32} : CallR Γ M_Tokens_isDigit 0 [.int x1] h z (some (.int (s_Tokens_isDigit x1))) h := by
  refine Call.of_go (L := [some (.int x1)]) (by decide +kernel) rfl (by exact Nat.le_of_ble_eq_true rfl) ?_
  unfold s_Tokens_isDigit
  refine Go.iload_0 d_Tokens_isDigit_0 rfl ?_
  refine Go.bipush (v := 48) d_Tokens_isDigit_1 rfl (by decide) ?_
  refine Go.icmp_lt (t := 16) d_Tokens_isDigit_3 (by decide) rfl (fun c3_1 => ?_) (fun c3_1 => ?_)
  · refine Go.iconst (v := 0) d_Tokens_isDigit_16 rfl (by decide) ?_
    rw [if_pos c3_1]
    exact Go.iret d_Tokens_isDigit_17 rfl rfl ⟨rfl, rfl, rfl⟩
  · refine Go.iload_0 d_Tokens_isDigit_6 rfl ?_
    refine Go.bipush (v := 57) d_Tokens_isDigit_7 rfl (by decide) ?_
    refine Go.icmp_gt (t := 16) d_Tokens_isDigit_9 (by decide) rfl (fun c9_2 => ?_) (fun c9_2 => ?_)
    · refine Go.iconst (v := 0) d_Tokens_isDigit_16 rfl (by decide) ?_
      rw [if_neg c3_1, if_pos c9_2]
      exact Go.iret d_Tokens_isDigit_17 rfl rfl ⟨rfl, rfl, rfl⟩
    · refine Go.iconst (v := 1) d_Tokens_isDigit_12 rfl (by decide) ?_
      refine Go.goto (t := 17) d_Tokens_isDigit_13 (by decide) ?_
      rw [if_neg c3_1, if_neg c9_2]
      exact Go.iret d_Tokens_isDigit_17 rfl rfl ⟨rfl, rfl, rfl⟩
set_option maxRecDepth 100000 in
set_option maxHeartbeats 4000000 in
theorem s_Tokens_isDigit_01 (x1 : Int32) : (s_Tokens_isDigit x1) = 0 ∨ (s_Tokens_isDigit x1) = 1 := by
  unfold s_Tokens_isDigit
  (repeat' split) <;> first | exact Or.inl rfl | exact Or.inr rfl
