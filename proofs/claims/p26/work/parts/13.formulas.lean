/-! Formulas: signs, operands, a stack -/
abbrev FM : Type := (Nat → Option (Fin 54)) × (Nat → Int32) × (Nat → Int32) × Int32 × Int32
abbrev fm_sg (S : FM) : Nat → Option (Fin 54) := S.1
abbrev fm_sg' (S : FM) (v : Nat → Option (Fin 54)) : FM := (v, S.2.1, S.2.2.1, S.2.2.2.1, S.2.2.2.2)
abbrev fm_op (S : FM) : Nat → Int32 := S.2.1
abbrev fm_op' (S : FM) (v : Nat → Int32) : FM := (S.1, v, S.2.2.1, S.2.2.2.1, S.2.2.2.2)
abbrev fm_st (S : FM) : Nat → Int32 := S.2.2.1
abbrev fm_st' (S : FM) (v : Nat → Int32) : FM := (S.1, S.2.1, v, S.2.2.2.1, S.2.2.2.2)
abbrev fm_sz (S : FM) : Int32 := S.2.2.2.1
abbrev fm_sz' (S : FM) (v : Int32) : FM := (S.1, S.2.1, S.2.2.1, v, S.2.2.2.2)
abbrev fm_top (S : FM) : Int32 := S.2.2.2.2
abbrev fm_top' (S : FM) (v : Int32) : FM := (S.1, S.2.1, S.2.2.1, S.2.2.2.1, v)
def fmC (Γ : G9) (sg : Nat → Nat) (b : Nat) (S : FM) : Nat → Option va_E
  | 0 => some (.inr (0, [.ref (b + 1), .ref (b + 2), .ref (b + 3), .int (fm_sz S), .int (fm_top S)]))
  | 1 => some (aQ Γ 800 (fun j => ((fm_sg S) j).map fun w => sg w.val))
  | 2 => some (aI Γ 800 (fm_op S))
  | 3 => some (aI Γ 800 (fm_st S))
  | _ => none
theorem fm_g0 {Γ : G9} {sg : Nat → Nat} {h : AH} {b : Nat} {S : FM} : blk h b 4 (fmC Γ sg b S) (b) = some (.inr (0, [.ref (b + 1), .ref (b + 2), .ref (b + 3), .int (fm_sz S), .int (fm_top S)])) := blk_at0 (by decide)
theorem fm_g1 {Γ : G9} {sg : Nat → Nat} {h : AH} {b : Nat} {S : FM} : blk h b 4 (fmC Γ sg b S) (b + 1) = some (aQ Γ 800 (fun j => ((fm_sg S) j).map fun w => sg w.val)) := blk_at (k := 1) (by decide)
theorem fm_g2 {Γ : G9} {sg : Nat → Nat} {h : AH} {b : Nat} {S : FM} : blk h b 4 (fmC Γ sg b S) (b + 2) = some (aI Γ 800 (fm_op S)) := blk_at (k := 2) (by decide)
theorem fm_g3 {Γ : G9} {sg : Nat → Nat} {h : AH} {b : Nat} {S : FM} : blk h b 4 (fmC Γ sg b S) (b + 3) = some (aI Γ 800 (fm_st S)) := blk_at (k := 3) (by decide)
theorem fm_p_sz {Γ : G9} {sg : Nat → Nat} {h : AH} {b : Nat} {S : FM} {v : Int32} : hup (blk h b 4 (fmC Γ sg b S)) (b) (.inr (0, [.ref (b + 1), .ref (b + 2), .ref (b + 3), .int (fm_sz S), .int (fm_top S)].set 3 (.int v))) = blk h b 4 (fmC Γ sg b (fm_sz' S v)) := by
  rw [blk_hup0 (by decide)]
  refine blk_ext fun j hj => ?_
  match j, hj with
  | 0, _ => rfl
  | 1, _ => rfl
  | 2, _ => rfl
  | 3, _ => rfl
  | _ + 4, w => exact absurd w (by omega)
theorem fm_p_top {Γ : G9} {sg : Nat → Nat} {h : AH} {b : Nat} {S : FM} {v : Int32} : hup (blk h b 4 (fmC Γ sg b S)) (b) (.inr (0, [.ref (b + 1), .ref (b + 2), .ref (b + 3), .int (fm_sz S), .int (fm_top S)].set 4 (.int v))) = blk h b 4 (fmC Γ sg b (fm_top' S v)) := by
  rw [blk_hup0 (by decide)]
  refine blk_ext fun j hj => ?_
  match j, hj with
  | 0, _ => rfl
  | 1, _ => rfl
  | 2, _ => rfl
  | 3, _ => rfl
  | _ + 4, w => exact absurd w (by omega)
theorem fm_a_sg {Γ : G9} {sg : Nat → Nat} {h : AH} {b : Nat} {S : FM} {v : Nat → Option (Fin 54)} : hup (blk h b 4 (fmC Γ sg b S)) (b + 1) (aQ Γ 800 (fun j => (v j).map fun w => sg w.val)) = blk h b 4 (fmC Γ sg b (fm_sg' S v)) := by
  rw [blk_hup (by decide)]
  refine blk_ext fun j hj => ?_
  match j, hj with
  | 0, _ => rfl
  | 1, _ => rfl
  | 2, _ => rfl
  | 3, _ => rfl
  | _ + 4, w => exact absurd w (by omega)
theorem fm_a_op {Γ : G9} {sg : Nat → Nat} {h : AH} {b : Nat} {S : FM} {v : Nat → Int32} : hup (blk h b 4 (fmC Γ sg b S)) (b + 2) (aI Γ 800 v) = blk h b 4 (fmC Γ sg b (fm_op' S v)) := by
  rw [blk_hup (by decide)]
  refine blk_ext fun j hj => ?_
  match j, hj with
  | 0, _ => rfl
  | 1, _ => rfl
  | 2, _ => rfl
  | 3, _ => rfl
  | _ + 4, w => exact absurd w (by omega)
theorem fm_a_st {Γ : G9} {sg : Nat → Nat} {h : AH} {b : Nat} {S : FM} {v : Nat → Int32} : hup (blk h b 4 (fmC Γ sg b S)) (b + 3) (aI Γ 800 v) = blk h b 4 (fmC Γ sg b (fm_st' S v)) := by
  rw [blk_hup (by decide)]
  refine blk_ext fun j hj => ?_
  match j, hj with
  | 0, _ => rfl
  | 1, _ => rfl
  | 2, _ => rfl
  | 3, _ => rfl
  | _ + 4, w => exact absurd w (by omega)
theorem d_Formulas_size_0 : decode M_Formulas_size.2.1 0 = .ok (.aload_n 0, 1) := by decide +kernel
theorem d_Formulas_size_1 : decode M_Formulas_size.2.1 1 = .ok (.getfield 24, 3) := by decide +kernel
theorem d_Formulas_size_4 : decode M_Formulas_size.2.1 4 = .ok (.ireturn, 1) := by decide +kernel
def s_Formulas_size (F : FM) : Int32 := (fm_sz F)
set_option maxRecDepth 100000 in
set_option maxHeartbeats 4000000 in
theorem c_Formulas_size {Γ : G9} {sg : Nat → Nat} {h : AH} {f z : Nat} {F : FM} : CallR Γ M_Formulas_size 0 [.ref f] (blk h f 4 (fmC Γ sg f F)) z (some (.int (s_Formulas_size F))) (blk h f 4 (fmC Γ sg f F)) := by
  refine Call.of_go (L := [some (.ref f)]) (by decide +kernel) rfl (by exact Nat.le_of_ble_eq_true rfl) ?_
  unfold s_Formulas_size
  refine Go.aload_0 d_Formulas_size_0 rfl ?_
  refine Go.getfield d_Formulas_size_1 rfl f_Formulas_24 (fm_g0) (by rfl) ?_
  exact Go.iret d_Formulas_size_4 rfl rfl ⟨rfl, rfl, rfl⟩
theorem d_Formulas_clear_0 : decode M_Formulas_clear.2.1 0 = .ok (.aload_n 0, 1) := by decide +kernel
theorem d_Formulas_clear_1 : decode M_Formulas_clear.2.1 1 = .ok (.iconst 0, 1) := by decide +kernel
theorem d_Formulas_clear_2 : decode M_Formulas_clear.2.1 2 = .ok (.putfield 24, 3) := by decide +kernel
theorem d_Formulas_clear_5 : decode M_Formulas_clear.2.1 5 = .ok (.return_, 1) := by decide +kernel
def s_Formulas_clear (F : FM) : FM := (fm_sz' F 0)
set_option maxRecDepth 100000 in
set_option maxHeartbeats 4000000 in
theorem c_Formulas_clear {Γ : G9} {sg : Nat → Nat} {h : AH} {f z : Nat} {F : FM} : CallR Γ M_Formulas_clear 0 [.ref f] (blk h f 4 (fmC Γ sg f F)) z none (blk h f 4 (fmC Γ sg f (s_Formulas_clear F))) := by
  refine Call.of_go (L := [some (.ref f)]) (by decide +kernel) rfl (by exact Nat.le_of_ble_eq_true rfl) ?_
  unfold s_Formulas_clear
  refine Go.aload_0 d_Formulas_clear_0 rfl ?_
  refine Go.iconst (v := 0) d_Formulas_clear_1 rfl (by decide) ?_
  refine Go.putfield d_Formulas_clear_2 rfl f_Formulas_24_p (Or.inl (fun C T N h => by cases h; rfl)) (fm_g0) (by exact Nat.le_of_ble_eq_true rfl) rfl rfl ?_
  refine Go.heq (fm_p_sz (v := 0)) ?_
  exact Go.vret d_Formulas_clear_5 rfl ⟨rfl, rfl, rfl⟩
theorem d_Formulas_push_0 : decode M_Formulas_push.2.1 0 = .ok (.aload_n 0, 1) := by decide +kernel
theorem d_Formulas_push_1 : decode M_Formulas_push.2.1 1 = .ok (.getfield 28, 3) := by decide +kernel
theorem d_Formulas_push_4 : decode M_Formulas_push.2.1 4 = .ok (.ifCond .lt 35, 3) := by decide +kernel
theorem d_Formulas_push_7 : decode M_Formulas_push.2.1 7 = .ok (.aload_n 0, 1) := by decide +kernel
theorem d_Formulas_push_8 : decode M_Formulas_push.2.1 8 = .ok (.getfield 28, 3) := by decide +kernel
theorem d_Formulas_push_11 : decode M_Formulas_push.2.1 11 = .ok (.aload_n 0, 1) := by decide +kernel
theorem d_Formulas_push_12 : decode M_Formulas_push.2.1 12 = .ok (.getfield 21, 3) := by decide +kernel
theorem d_Formulas_push_15 : decode M_Formulas_push.2.1 15 = .ok (.arraylength, 1) := by decide +kernel
theorem d_Formulas_push_16 : decode M_Formulas_push.2.1 16 = .ok (.if_icmp .ge 23, 3) := by decide +kernel
theorem d_Formulas_push_19 : decode M_Formulas_push.2.1 19 = .ok (.aload_n 0, 1) := by decide +kernel
theorem d_Formulas_push_20 : decode M_Formulas_push.2.1 20 = .ok (.getfield 21, 3) := by decide +kernel
theorem d_Formulas_push_23 : decode M_Formulas_push.2.1 23 = .ok (.aload_n 0, 1) := by decide +kernel
theorem d_Formulas_push_24 : decode M_Formulas_push.2.1 24 = .ok (.getfield 28, 3) := by decide +kernel
theorem d_Formulas_push_27 : decode M_Formulas_push.2.1 27 = .ok (.iload_n 1, 1) := by decide +kernel
theorem d_Formulas_push_28 : decode M_Formulas_push.2.1 28 = .ok (.iastore, 1) := by decide +kernel
theorem d_Formulas_push_29 : decode M_Formulas_push.2.1 29 = .ok (.aload_n 0, 1) := by decide +kernel
theorem d_Formulas_push_30 : decode M_Formulas_push.2.1 30 = .ok (.dup, 1) := by decide +kernel
theorem d_Formulas_push_31 : decode M_Formulas_push.2.1 31 = .ok (.getfield 28, 3) := by decide +kernel
theorem d_Formulas_push_34 : decode M_Formulas_push.2.1 34 = .ok (.iconst 1, 1) := by decide +kernel
theorem d_Formulas_push_35 : decode M_Formulas_push.2.1 35 = .ok (.iadd, 1) := by decide +kernel
theorem d_Formulas_push_36 : decode M_Formulas_push.2.1 36 = .ok (.putfield 28, 3) := by decide +kernel
theorem d_Formulas_push_39 : decode M_Formulas_push.2.1 39 = .ok (.return_, 1) := by decide +kernel
def s_Formulas_push (F : FM) (x1 : Int32) : FM := (if (fm_top F) < 0 then F else (if (nI 800) ≤ (fm_top F) then F else (fm_top' (fm_st' F (upd (fm_st F) (fm_top F).toNatClampNeg x1)) ((fm_top F) + 1))))
set_option maxRecDepth 100000 in
set_option maxHeartbeats 4000000 in
theorem c_Formulas_push {Γ : G9} {sg : Nat → Nat} {h : AH} {f z : Nat} {F : FM} {x1 : Int32} : CallR Γ M_Formulas_push 0 [.ref f, .int x1] (blk h f 4 (fmC Γ sg f F)) z none (blk h f 4 (fmC Γ sg f (s_Formulas_push F x1))) := by
  refine Call.of_go (L := [some (.ref f), some (.int x1)]) (by decide +kernel) rfl (by exact Nat.le_of_ble_eq_true rfl) ?_
  unfold s_Formulas_push
  refine Go.aload_0 d_Formulas_push_0 rfl ?_
  refine Go.getfield d_Formulas_push_1 rfl f_Formulas_28 (fm_g0) (by rfl) ?_
  refine Go.if_lt (t := 39) d_Formulas_push_4 (by decide) rfl (fun c4_1 => ?_) (fun c4_1 => ?_)
  · rw [if_pos c4_1]
    exact Go.vret d_Formulas_push_39 rfl ⟨rfl, rfl, rfl⟩
  · refine Go.aload_0 d_Formulas_push_7 rfl ?_
    refine Go.getfield d_Formulas_push_8 rfl f_Formulas_28 (fm_g0) (by rfl) ?_
    refine Go.aload_0 d_Formulas_push_11 rfl ?_
    refine Go.getfield d_Formulas_push_12 rfl f_Formulas_21 (fm_g0) (by rfl) ?_
    refine Go.alen (n := (nI 800)) d_Formulas_push_15 rfl (fm_g3) (by rfl) rfl ?_
    refine Go.icmp_ge (t := 39) d_Formulas_push_16 (by decide) rfl (fun c16_2 => ?_) (fun c16_2 => ?_)
    · rw [if_neg c4_1, if_pos c16_2]
      exact Go.vret d_Formulas_push_39 rfl ⟨rfl, rfl, rfl⟩
    · refine Go.aload_0 d_Formulas_push_19 rfl ?_
      refine Go.getfield d_Formulas_push_20 rfl f_Formulas_21 (fm_g0) (by rfl) ?_
      refine Go.aload_0 d_Formulas_push_23 rfl ?_
      refine Go.getfield d_Formulas_push_24 rfl f_Formulas_28 (fm_g0) (by rfl) ?_
      refine Go.iload_1 d_Formulas_push_27 rfl ?_
      refine Go.iastore d_Formulas_push_28 rfl (fm_g3) (vp_ofL (n := 800) (m := nI 800) (by assumption) (by assumption) rfl (by decide)) ?_
      refine Go.heq (fm_a_st (v := (upd (fm_st F) (fm_top F).toNatClampNeg x1))) ?_
      refine Go.aload_0 d_Formulas_push_29 rfl ?_
      refine Go.dup d_Formulas_push_30 rfl rfl ?_
      refine Go.getfield d_Formulas_push_31 rfl f_Formulas_28 (fm_g0) (by rfl) ?_
      refine Go.iconst (v := 1) d_Formulas_push_34 rfl (by decide) ?_
      refine Go.iadd d_Formulas_push_35 rfl ?_
      refine Go.putfield d_Formulas_push_36 rfl f_Formulas_28_p (Or.inl (fun C T N h => by cases h; rfl)) (fm_g0) (by exact Nat.le_of_ble_eq_true rfl) rfl rfl ?_
      refine Go.heq (fm_p_top (v := ((fm_top F) + 1))) ?_
      rw [if_neg c4_1, if_neg c16_2]
      exact Go.vret d_Formulas_push_39 rfl ⟨rfl, rfl, rfl⟩
theorem d_Formulas_pop_0 : decode M_Formulas_pop.2.1 0 = .ok (.aload_n 0, 1) := by decide +kernel
theorem d_Formulas_pop_1 : decode M_Formulas_pop.2.1 1 = .ok (.getfield 28, 3) := by decide +kernel
theorem d_Formulas_pop_4 : decode M_Formulas_pop.2.1 4 = .ok (.ifCond .le 15, 3) := by decide +kernel
theorem d_Formulas_pop_7 : decode M_Formulas_pop.2.1 7 = .ok (.aload_n 0, 1) := by decide +kernel
theorem d_Formulas_pop_8 : decode M_Formulas_pop.2.1 8 = .ok (.getfield 28, 3) := by decide +kernel
theorem d_Formulas_pop_11 : decode M_Formulas_pop.2.1 11 = .ok (.aload_n 0, 1) := by decide +kernel
theorem d_Formulas_pop_12 : decode M_Formulas_pop.2.1 12 = .ok (.getfield 21, 3) := by decide +kernel
theorem d_Formulas_pop_15 : decode M_Formulas_pop.2.1 15 = .ok (.arraylength, 1) := by decide +kernel
theorem d_Formulas_pop_16 : decode M_Formulas_pop.2.1 16 = .ok (.if_icmp .le 5, 3) := by decide +kernel
theorem d_Formulas_pop_19 : decode M_Formulas_pop.2.1 19 = .ok (.iconst 0, 1) := by decide +kernel
theorem d_Formulas_pop_20 : decode M_Formulas_pop.2.1 20 = .ok (.ireturn, 1) := by decide +kernel
theorem d_Formulas_pop_21 : decode M_Formulas_pop.2.1 21 = .ok (.aload_n 0, 1) := by decide +kernel
theorem d_Formulas_pop_22 : decode M_Formulas_pop.2.1 22 = .ok (.dup, 1) := by decide +kernel
theorem d_Formulas_pop_23 : decode M_Formulas_pop.2.1 23 = .ok (.getfield 28, 3) := by decide +kernel
theorem d_Formulas_pop_26 : decode M_Formulas_pop.2.1 26 = .ok (.iconst 1, 1) := by decide +kernel
theorem d_Formulas_pop_27 : decode M_Formulas_pop.2.1 27 = .ok (.isub, 1) := by decide +kernel
theorem d_Formulas_pop_28 : decode M_Formulas_pop.2.1 28 = .ok (.putfield 28, 3) := by decide +kernel
theorem d_Formulas_pop_31 : decode M_Formulas_pop.2.1 31 = .ok (.aload_n 0, 1) := by decide +kernel
theorem d_Formulas_pop_32 : decode M_Formulas_pop.2.1 32 = .ok (.getfield 21, 3) := by decide +kernel
theorem d_Formulas_pop_35 : decode M_Formulas_pop.2.1 35 = .ok (.aload_n 0, 1) := by decide +kernel
theorem d_Formulas_pop_36 : decode M_Formulas_pop.2.1 36 = .ok (.getfield 28, 3) := by decide +kernel
theorem d_Formulas_pop_39 : decode M_Formulas_pop.2.1 39 = .ok (.iaload, 1) := by decide +kernel
theorem d_Formulas_pop_40 : decode M_Formulas_pop.2.1 40 = .ok (.ireturn, 1) := by decide +kernel
def s_Formulas_pop (F : FM) : Int32 × FM := (if (fm_top F) ≤ 0 then (0, F) else (if (fm_top F) ≤ (nI 800) then (((fm_st F) ((fm_top F) - 1).toNatClampNeg), (fm_top' F ((fm_top F) - 1))) else (0, F)))
set_option maxRecDepth 100000 in
set_option maxHeartbeats 4000000 in
theorem c_Formulas_pop {Γ : G9} {sg : Nat → Nat} {h : AH} {f z : Nat} {F : FM} : CallR Γ M_Formulas_pop 0 [.ref f] (blk h f 4 (fmC Γ sg f F)) z (some (.int (s_Formulas_pop F).1)) (blk h f 4 (fmC Γ sg f (s_Formulas_pop F).2)) := by
  refine Call.of_go (L := [some (.ref f)]) (by decide +kernel) rfl (by exact Nat.le_of_ble_eq_true rfl) ?_
  unfold s_Formulas_pop
  refine Go.aload_0 d_Formulas_pop_0 rfl ?_
  refine Go.getfield d_Formulas_pop_1 rfl f_Formulas_28 (fm_g0) (by rfl) ?_
  refine Go.if_le (t := 19) d_Formulas_pop_4 (by decide) rfl (fun c4_1 => ?_) (fun c4_1 => ?_)
  · refine Go.iconst (v := 0) d_Formulas_pop_19 rfl (by decide) ?_
    rw [if_pos c4_1]
    exact Go.iret d_Formulas_pop_20 rfl rfl ⟨rfl, rfl, rfl⟩
  · refine Go.aload_0 d_Formulas_pop_7 rfl ?_
    refine Go.getfield d_Formulas_pop_8 rfl f_Formulas_28 (fm_g0) (by rfl) ?_
    refine Go.aload_0 d_Formulas_pop_11 rfl ?_
    refine Go.getfield d_Formulas_pop_12 rfl f_Formulas_21 (fm_g0) (by rfl) ?_
    refine Go.alen (n := (nI 800)) d_Formulas_pop_15 rfl (fm_g3) (by rfl) rfl ?_
    refine Go.icmp_le (t := 21) d_Formulas_pop_16 (by decide) rfl (fun c16_2 => ?_) (fun c16_2 => ?_)
    · refine Go.aload_0 d_Formulas_pop_21 rfl ?_
      refine Go.dup d_Formulas_pop_22 rfl rfl ?_
      refine Go.getfield d_Formulas_pop_23 rfl f_Formulas_28 (fm_g0) (by rfl) ?_
      refine Go.iconst (v := 1) d_Formulas_pop_26 rfl (by decide) ?_
      refine Go.isub d_Formulas_pop_27 rfl ?_
      refine Go.putfield d_Formulas_pop_28 rfl f_Formulas_28_p (Or.inl (fun C T N h => by cases h; rfl)) (fm_g0) (by exact Nat.le_of_ble_eq_true rfl) rfl rfl ?_
      refine Go.heq (fm_p_top (v := ((fm_top F) - 1))) ?_
      refine Go.aload_0 d_Formulas_pop_31 rfl ?_
      refine Go.getfield d_Formulas_pop_32 rfl f_Formulas_21 (fm_g0) (by rfl) ?_
      refine Go.aload_0 d_Formulas_pop_35 rfl ?_
      refine Go.getfield d_Formulas_pop_36 rfl f_Formulas_28 (fm_g0) (by rfl) ?_
      refine Go.iaload d_Formulas_pop_39 rfl (fm_g3) (vp_dec (n := 800) (m := nI 800) (by assumption) (by assumption) rfl (by decide)) ?_
      rw [if_neg c4_1, if_pos c16_2]
      exact Go.iret d_Formulas_pop_40 rfl rfl ⟨rfl, rfl, rfl⟩
    · refine Go.iconst (v := 0) d_Formulas_pop_19 rfl (by decide) ?_
      rw [if_neg c4_1, if_neg c16_2]
      exact Go.iret d_Formulas_pop_20 rfl rfl ⟨rfl, rfl, rfl⟩
theorem d_Formulas_put_0 : decode M_Formulas_put.2.1 0 = .ok (.aload_n 0, 1) := by decide +kernel
theorem d_Formulas_put_1 : decode M_Formulas_put.2.1 1 = .ok (.getfield 24, 3) := by decide +kernel
theorem d_Formulas_put_4 : decode M_Formulas_put.2.1 4 = .ok (.ifCond .lt 57, 3) := by decide +kernel
theorem d_Formulas_put_7 : decode M_Formulas_put.2.1 7 = .ok (.aload_n 0, 1) := by decide +kernel
theorem d_Formulas_put_8 : decode M_Formulas_put.2.1 8 = .ok (.getfield 24, 3) := by decide +kernel
theorem d_Formulas_put_11 : decode M_Formulas_put.2.1 11 = .ok (.aload_n 0, 1) := by decide +kernel
theorem d_Formulas_put_12 : decode M_Formulas_put.2.1 12 = .ok (.getfield 13, 3) := by decide +kernel
theorem d_Formulas_put_15 : decode M_Formulas_put.2.1 15 = .ok (.arraylength, 1) := by decide +kernel
theorem d_Formulas_put_16 : decode M_Formulas_put.2.1 16 = .ok (.if_icmp .ge 45, 3) := by decide +kernel
theorem d_Formulas_put_19 : decode M_Formulas_put.2.1 19 = .ok (.aload_n 0, 1) := by decide +kernel
theorem d_Formulas_put_20 : decode M_Formulas_put.2.1 20 = .ok (.getfield 24, 3) := by decide +kernel
theorem d_Formulas_put_23 : decode M_Formulas_put.2.1 23 = .ok (.aload_n 0, 1) := by decide +kernel
theorem d_Formulas_put_24 : decode M_Formulas_put.2.1 24 = .ok (.getfield 17, 3) := by decide +kernel
theorem d_Formulas_put_27 : decode M_Formulas_put.2.1 27 = .ok (.arraylength, 1) := by decide +kernel
theorem d_Formulas_put_28 : decode M_Formulas_put.2.1 28 = .ok (.if_icmp .ge 33, 3) := by decide +kernel
theorem d_Formulas_put_31 : decode M_Formulas_put.2.1 31 = .ok (.aload_n 0, 1) := by decide +kernel
theorem d_Formulas_put_32 : decode M_Formulas_put.2.1 32 = .ok (.getfield 13, 3) := by decide +kernel
theorem d_Formulas_put_35 : decode M_Formulas_put.2.1 35 = .ok (.aload_n 0, 1) := by decide +kernel
theorem d_Formulas_put_36 : decode M_Formulas_put.2.1 36 = .ok (.getfield 24, 3) := by decide +kernel
theorem d_Formulas_put_39 : decode M_Formulas_put.2.1 39 = .ok (.aload_n 1, 1) := by decide +kernel
theorem d_Formulas_put_40 : decode M_Formulas_put.2.1 40 = .ok (.aastore, 1) := by decide +kernel
theorem d_Formulas_put_41 : decode M_Formulas_put.2.1 41 = .ok (.aload_n 0, 1) := by decide +kernel
theorem d_Formulas_put_42 : decode M_Formulas_put.2.1 42 = .ok (.getfield 17, 3) := by decide +kernel
theorem d_Formulas_put_45 : decode M_Formulas_put.2.1 45 = .ok (.aload_n 0, 1) := by decide +kernel
theorem d_Formulas_put_46 : decode M_Formulas_put.2.1 46 = .ok (.getfield 24, 3) := by decide +kernel
theorem d_Formulas_put_49 : decode M_Formulas_put.2.1 49 = .ok (.iload_n 2, 1) := by decide +kernel
theorem d_Formulas_put_50 : decode M_Formulas_put.2.1 50 = .ok (.iastore, 1) := by decide +kernel
theorem d_Formulas_put_51 : decode M_Formulas_put.2.1 51 = .ok (.aload_n 0, 1) := by decide +kernel
theorem d_Formulas_put_52 : decode M_Formulas_put.2.1 52 = .ok (.dup, 1) := by decide +kernel
theorem d_Formulas_put_53 : decode M_Formulas_put.2.1 53 = .ok (.getfield 24, 3) := by decide +kernel
theorem d_Formulas_put_56 : decode M_Formulas_put.2.1 56 = .ok (.iconst 1, 1) := by decide +kernel
theorem d_Formulas_put_57 : decode M_Formulas_put.2.1 57 = .ok (.iadd, 1) := by decide +kernel
theorem d_Formulas_put_58 : decode M_Formulas_put.2.1 58 = .ok (.putfield 24, 3) := by decide +kernel
theorem d_Formulas_put_61 : decode M_Formulas_put.2.1 61 = .ok (.return_, 1) := by decide +kernel
def s_Formulas_put (F : FM) (x1 : Fin 54) (x2 : Int32) : FM := (if (fm_sz F) < 0 then F else (if (nI 800) ≤ (fm_sz F) then F else (fm_sz' (fm_op' (fm_sg' F (updS (fm_sg F) (fm_sz F).toNatClampNeg x1)) (upd (fm_op F) (fm_sz F).toNatClampNeg x2)) ((fm_sz F) + 1))))
set_option maxRecDepth 100000 in
set_option maxHeartbeats 4000000 in
theorem c_Formulas_put {Γ : G9} {sg : Nat → Nat} {h : AH} {f z : Nat} {F : FM} {x1 : Fin 54} {x2 : Int32} (hs : SgOk Γ sg) : CallR Γ M_Formulas_put 0 [.ref f, .ref (sg x1.val), .int x2] (blk h f 4 (fmC Γ sg f F)) z none (blk h f 4 (fmC Γ sg f (s_Formulas_put F x1 x2))) := by
  refine Call.of_go (L := [some (.ref f), some (.ref (sg x1.val)), some (.int x2)]) (by decide +kernel) rfl (by exact Nat.le_of_ble_eq_true rfl) ?_
  unfold s_Formulas_put
  refine Go.aload_0 d_Formulas_put_0 rfl ?_
  refine Go.getfield d_Formulas_put_1 rfl f_Formulas_24 (fm_g0) (by rfl) ?_
  refine Go.if_lt (t := 61) d_Formulas_put_4 (by decide) rfl (fun c4_1 => ?_) (fun c4_1 => ?_)
  · rw [if_pos c4_1]
    exact Go.vret d_Formulas_put_61 rfl ⟨rfl, rfl, rfl⟩
  · refine Go.aload_0 d_Formulas_put_7 rfl ?_
    refine Go.getfield d_Formulas_put_8 rfl f_Formulas_24 (fm_g0) (by rfl) ?_
    refine Go.aload_0 d_Formulas_put_11 rfl ?_
    refine Go.getfield d_Formulas_put_12 rfl f_Formulas_13 (fm_g0) (by rfl) ?_
    refine Go.alen (n := (nI 800)) d_Formulas_put_15 rfl (fm_g1) (by rfl) rfl ?_
    refine Go.icmp_ge (t := 61) d_Formulas_put_16 (by decide) rfl (fun c16_2 => ?_) (fun c16_2 => ?_)
    · rw [if_neg c4_1, if_pos c16_2]
      exact Go.vret d_Formulas_put_61 rfl ⟨rfl, rfl, rfl⟩
    · refine Go.aload_0 d_Formulas_put_19 rfl ?_
      refine Go.getfield d_Formulas_put_20 rfl f_Formulas_24 (fm_g0) (by rfl) ?_
      refine Go.aload_0 d_Formulas_put_23 rfl ?_
      refine Go.getfield d_Formulas_put_24 rfl f_Formulas_17 (fm_g0) (by rfl) ?_
      refine Go.alen (n := (nI 800)) d_Formulas_put_27 rfl (fm_g2) (by rfl) rfl ?_
      refine Go.icmp_ge (t := 61) d_Formulas_put_28 (by decide) rfl (fun c28_3 => ?_) (fun c28_3 => ?_)
      · exact absurd c28_3 c16_2
      · refine Go.aload_0 d_Formulas_put_31 rfl ?_
        refine Go.getfield d_Formulas_put_32 rfl f_Formulas_13 (fm_g0) (by rfl) ?_
        refine Go.aload_0 d_Formulas_put_35 rfl ?_
        refine Go.getfield d_Formulas_put_36 rfl f_Formulas_24 (fm_g0) (by rfl) ?_
        refine Go.aload_1 d_Formulas_put_39 rfl ?_
        refine Go.aastoreS (v := x1) d_Formulas_put_40 rfl (fm_g1) (vp_ofL (n := 800) (m := nI 800) (by assumption) (by assumption) rfl (by decide)) hs ?_
        refine Go.heq (fm_a_sg (v := (updS (fm_sg F) (fm_sz F).toNatClampNeg x1))) ?_
        refine Go.aload_0 d_Formulas_put_41 rfl ?_
        refine Go.getfield d_Formulas_put_42 rfl f_Formulas_17 (fm_g0) (by rfl) ?_
        refine Go.aload_0 d_Formulas_put_45 rfl ?_
        refine Go.getfield d_Formulas_put_46 rfl f_Formulas_24 (fm_g0) (by rfl) ?_
        refine Go.iload_2 d_Formulas_put_49 rfl ?_
        refine Go.iastore d_Formulas_put_50 rfl (fm_g2) (vp_ofL (n := 800) (m := nI 800) (by assumption) (by assumption) rfl (by decide)) ?_
        refine Go.heq (fm_a_op (v := (upd (fm_op F) (fm_sz F).toNatClampNeg x2))) ?_
        refine Go.aload_0 d_Formulas_put_51 rfl ?_
        refine Go.dup d_Formulas_put_52 rfl rfl ?_
        refine Go.getfield d_Formulas_put_53 rfl f_Formulas_24 (fm_g0) (by rfl) ?_
        refine Go.iconst (v := 1) d_Formulas_put_56 rfl (by decide) ?_
        refine Go.iadd d_Formulas_put_57 rfl ?_
        refine Go.putfield d_Formulas_put_58 rfl f_Formulas_24_p (Or.inl (fun C T N h => by cases h; rfl)) (fm_g0) (by exact Nat.le_of_ble_eq_true rfl) rfl rfl ?_
        refine Go.heq (fm_p_sz (v := ((fm_sz F) + 1))) ?_
        rw [if_neg c4_1, if_neg c16_2]
        exact Go.vret d_Formulas_put_61 rfl ⟨rfl, rfl, rfl⟩
theorem d_Formulas_joined_0 : decode M_Formulas_joined.2.1 0 = .ok (.getstatic 56, 3) := by decide +kernel
theorem d_Formulas_joined_3 : decode M_Formulas_joined.2.1 3 = .ok (.aload_n 0, 1) := by decide +kernel
theorem d_Formulas_joined_4 : decode M_Formulas_joined.2.1 4 = .ok (.invokevirtual 61, 3) := by decide +kernel
theorem d_Formulas_joined_7 : decode M_Formulas_joined.2.1 7 = .ok (.iaload, 1) := by decide +kernel
theorem d_Formulas_joined_8 : decode M_Formulas_joined.2.1 8 = .ok (.tableswitch 159 20 31 #[64, 68, 72, 76, 88, 94, 100, 111, 122, 133, 144, 155], 64) := by decide +kernel
theorem d_Formulas_joined_72 : decode M_Formulas_joined.2.1 72 = .ok (.iload_n 1, 1) := by decide +kernel
theorem d_Formulas_joined_73 : decode M_Formulas_joined.2.1 73 = .ok (.iload_n 2, 1) := by decide +kernel
theorem d_Formulas_joined_74 : decode M_Formulas_joined.2.1 74 = .ok (.iadd, 1) := by decide +kernel
theorem d_Formulas_joined_75 : decode M_Formulas_joined.2.1 75 = .ok (.ireturn, 1) := by decide +kernel
theorem d_Formulas_joined_76 : decode M_Formulas_joined.2.1 76 = .ok (.iload_n 1, 1) := by decide +kernel
theorem d_Formulas_joined_77 : decode M_Formulas_joined.2.1 77 = .ok (.iload_n 2, 1) := by decide +kernel
theorem d_Formulas_joined_78 : decode M_Formulas_joined.2.1 78 = .ok (.isub, 1) := by decide +kernel
theorem d_Formulas_joined_79 : decode M_Formulas_joined.2.1 79 = .ok (.ireturn, 1) := by decide +kernel
theorem d_Formulas_joined_80 : decode M_Formulas_joined.2.1 80 = .ok (.iload_n 1, 1) := by decide +kernel
theorem d_Formulas_joined_81 : decode M_Formulas_joined.2.1 81 = .ok (.iload_n 2, 1) := by decide +kernel
theorem d_Formulas_joined_82 : decode M_Formulas_joined.2.1 82 = .ok (.imul, 1) := by decide +kernel
theorem d_Formulas_joined_83 : decode M_Formulas_joined.2.1 83 = .ok (.ireturn, 1) := by decide +kernel
theorem d_Formulas_joined_84 : decode M_Formulas_joined.2.1 84 = .ok (.iload_n 2, 1) := by decide +kernel
theorem d_Formulas_joined_85 : decode M_Formulas_joined.2.1 85 = .ok (.ifCond .eq 9, 3) := by decide +kernel
theorem d_Formulas_joined_88 : decode M_Formulas_joined.2.1 88 = .ok (.iload_n 1, 1) := by decide +kernel
theorem d_Formulas_joined_89 : decode M_Formulas_joined.2.1 89 = .ok (.iload_n 2, 1) := by decide +kernel
theorem d_Formulas_joined_90 : decode M_Formulas_joined.2.1 90 = .ok (.idiv, 1) := by decide +kernel
theorem d_Formulas_joined_91 : decode M_Formulas_joined.2.1 91 = .ok (.goto 4, 3) := by decide +kernel
theorem d_Formulas_joined_94 : decode M_Formulas_joined.2.1 94 = .ok (.iconst 0, 1) := by decide +kernel
theorem d_Formulas_joined_95 : decode M_Formulas_joined.2.1 95 = .ok (.ireturn, 1) := by decide +kernel
theorem d_Formulas_joined_96 : decode M_Formulas_joined.2.1 96 = .ok (.iload_n 1, 1) := by decide +kernel
theorem d_Formulas_joined_97 : decode M_Formulas_joined.2.1 97 = .ok (.iload_n 2, 1) := by decide +kernel
theorem d_Formulas_joined_98 : decode M_Formulas_joined.2.1 98 = .ok (.invokestatic 64, 3) := by decide +kernel
theorem d_Formulas_joined_101 : decode M_Formulas_joined.2.1 101 = .ok (.ireturn, 1) := by decide +kernel
theorem d_Formulas_joined_102 : decode M_Formulas_joined.2.1 102 = .ok (.iload_n 1, 1) := by decide +kernel
theorem d_Formulas_joined_103 : decode M_Formulas_joined.2.1 103 = .ok (.iload_n 2, 1) := by decide +kernel
theorem d_Formulas_joined_104 : decode M_Formulas_joined.2.1 104 = .ok (.invokestatic 70, 3) := by decide +kernel
theorem d_Formulas_joined_107 : decode M_Formulas_joined.2.1 107 = .ok (.ireturn, 1) := by decide +kernel
theorem d_Formulas_joined_108 : decode M_Formulas_joined.2.1 108 = .ok (.iload_n 1, 1) := by decide +kernel
theorem d_Formulas_joined_109 : decode M_Formulas_joined.2.1 109 = .ok (.iload_n 2, 1) := by decide +kernel
theorem d_Formulas_joined_110 : decode M_Formulas_joined.2.1 110 = .ok (.if_icmp .ge 7, 3) := by decide +kernel
theorem d_Formulas_joined_113 : decode M_Formulas_joined.2.1 113 = .ok (.iconst 1, 1) := by decide +kernel
theorem d_Formulas_joined_114 : decode M_Formulas_joined.2.1 114 = .ok (.goto 4, 3) := by decide +kernel
theorem d_Formulas_joined_117 : decode M_Formulas_joined.2.1 117 = .ok (.iconst 0, 1) := by decide +kernel
theorem d_Formulas_joined_118 : decode M_Formulas_joined.2.1 118 = .ok (.ireturn, 1) := by decide +kernel
theorem d_Formulas_joined_119 : decode M_Formulas_joined.2.1 119 = .ok (.iload_n 1, 1) := by decide +kernel
theorem d_Formulas_joined_120 : decode M_Formulas_joined.2.1 120 = .ok (.iload_n 2, 1) := by decide +kernel
theorem d_Formulas_joined_121 : decode M_Formulas_joined.2.1 121 = .ok (.if_icmp .le 7, 3) := by decide +kernel
theorem d_Formulas_joined_124 : decode M_Formulas_joined.2.1 124 = .ok (.iconst 1, 1) := by decide +kernel
theorem d_Formulas_joined_125 : decode M_Formulas_joined.2.1 125 = .ok (.goto 4, 3) := by decide +kernel
theorem d_Formulas_joined_128 : decode M_Formulas_joined.2.1 128 = .ok (.iconst 0, 1) := by decide +kernel
theorem d_Formulas_joined_129 : decode M_Formulas_joined.2.1 129 = .ok (.ireturn, 1) := by decide +kernel
theorem d_Formulas_joined_130 : decode M_Formulas_joined.2.1 130 = .ok (.iload_n 1, 1) := by decide +kernel
theorem d_Formulas_joined_131 : decode M_Formulas_joined.2.1 131 = .ok (.iload_n 2, 1) := by decide +kernel
theorem d_Formulas_joined_132 : decode M_Formulas_joined.2.1 132 = .ok (.if_icmp .ne 7, 3) := by decide +kernel
theorem d_Formulas_joined_135 : decode M_Formulas_joined.2.1 135 = .ok (.iconst 1, 1) := by decide +kernel
theorem d_Formulas_joined_136 : decode M_Formulas_joined.2.1 136 = .ok (.goto 4, 3) := by decide +kernel
theorem d_Formulas_joined_139 : decode M_Formulas_joined.2.1 139 = .ok (.iconst 0, 1) := by decide +kernel
theorem d_Formulas_joined_140 : decode M_Formulas_joined.2.1 140 = .ok (.ireturn, 1) := by decide +kernel
theorem d_Formulas_joined_141 : decode M_Formulas_joined.2.1 141 = .ok (.iload_n 1, 1) := by decide +kernel
theorem d_Formulas_joined_142 : decode M_Formulas_joined.2.1 142 = .ok (.iload_n 2, 1) := by decide +kernel
theorem d_Formulas_joined_143 : decode M_Formulas_joined.2.1 143 = .ok (.if_icmp .gt 7, 3) := by decide +kernel
theorem d_Formulas_joined_146 : decode M_Formulas_joined.2.1 146 = .ok (.iconst 1, 1) := by decide +kernel
theorem d_Formulas_joined_147 : decode M_Formulas_joined.2.1 147 = .ok (.goto 4, 3) := by decide +kernel
theorem d_Formulas_joined_150 : decode M_Formulas_joined.2.1 150 = .ok (.iconst 0, 1) := by decide +kernel
theorem d_Formulas_joined_151 : decode M_Formulas_joined.2.1 151 = .ok (.ireturn, 1) := by decide +kernel
theorem d_Formulas_joined_152 : decode M_Formulas_joined.2.1 152 = .ok (.iload_n 1, 1) := by decide +kernel
theorem d_Formulas_joined_153 : decode M_Formulas_joined.2.1 153 = .ok (.iload_n 2, 1) := by decide +kernel
theorem d_Formulas_joined_154 : decode M_Formulas_joined.2.1 154 = .ok (.if_icmp .lt 7, 3) := by decide +kernel
theorem d_Formulas_joined_157 : decode M_Formulas_joined.2.1 157 = .ok (.iconst 1, 1) := by decide +kernel
theorem d_Formulas_joined_158 : decode M_Formulas_joined.2.1 158 = .ok (.goto 4, 3) := by decide +kernel
theorem d_Formulas_joined_161 : decode M_Formulas_joined.2.1 161 = .ok (.iconst 0, 1) := by decide +kernel
theorem d_Formulas_joined_162 : decode M_Formulas_joined.2.1 162 = .ok (.ireturn, 1) := by decide +kernel
theorem d_Formulas_joined_163 : decode M_Formulas_joined.2.1 163 = .ok (.iload_n 1, 1) := by decide +kernel
theorem d_Formulas_joined_164 : decode M_Formulas_joined.2.1 164 = .ok (.iload_n 2, 1) := by decide +kernel
theorem d_Formulas_joined_165 : decode M_Formulas_joined.2.1 165 = .ok (.iand, 1) := by decide +kernel
theorem d_Formulas_joined_166 : decode M_Formulas_joined.2.1 166 = .ok (.ireturn, 1) := by decide +kernel
theorem d_Formulas_joined_167 : decode M_Formulas_joined.2.1 167 = .ok (.iload_n 1, 1) := by decide +kernel
theorem d_Formulas_joined_168 : decode M_Formulas_joined.2.1 168 = .ok (.iload_n 2, 1) := by decide +kernel
theorem d_Formulas_joined_169 : decode M_Formulas_joined.2.1 169 = .ok (.ior, 1) := by decide +kernel
theorem d_Formulas_joined_170 : decode M_Formulas_joined.2.1 170 = .ok (.ireturn, 1) := by decide +kernel
def s_Formulas_joined (x1 : Fin 54) (x2 : Int32) (x3 : Int32) : Int32 := (if (swf x1.val) = 20 then (x2 + x3) else (if (swf x1.val) = 21 then (x2 - x3) else (if (swf x1.val) = 22 then (x2 * x3) else (if (swf x1.val) = 23 then (if x3 = 0 then 0 else (x2 / x3)) else (if (swf x1.val) = 24 then (iMin x2 x3) else (if (swf x1.val) = 25 then (iMax x2 x3) else (if (swf x1.val) = 26 then (if x3 ≤ x2 then 0 else 1) else (if (swf x1.val) = 27 then (if x2 ≤ x3 then 0 else 1) else (if (swf x1.val) = 28 then (if x2 = x3 then 1 else 0) else (if (swf x1.val) = 29 then (if x3 < x2 then 0 else 1) else (if (swf x1.val) = 30 then (if x2 < x3 then 0 else 1) else (if (swf x1.val) = 31 then (x2 &&& x3) else (x2 ||| x3)))))))))))))
set_option maxRecDepth 100000 in
set_option maxHeartbeats 4000000 in
theorem c_Formulas_joined {Γ : G9} {sg : Nat → Nat} {sw : Nat} {h : AH} {z : Nat} {x1 : Fin 54} {x2 : Int32} {x3 : Int32} (hs : SgOk Γ sg) (hw : SwOk Γ sw) : CallR Γ M_Formulas_joined 1 [.ref (sg x1.val), .int x2, .int x3] h z (some (.int (s_Formulas_joined x1 x2 x3))) h := by
  refine Call.of_go (L := [some (.ref (sg x1.val)), some (.int x2), some (.int x3)]) (by decide +kernel) rfl (by exact Nat.le_of_ble_eq_true rfl) ?_
  unfold s_Formulas_joined
  refine Go.gets d_Formulas_joined_0 rfl x_Formulas_56 hw.1 ?_
  refine Go.aload_0 d_Formulas_joined_3 rfl ?_
  refine Go.ordinal (i := x1.val) d_Formulas_joined_4 rfl x_Formulas_61 hs (x1).isLt rfl rfl ?_
  refine Go.ialoadS d_Formulas_joined_7 rfl hw.2 (vp_in_nI (by omega) (by omega)) ?_
  rw [nI_clamp (show x1.val < 2 ^ 31 by omega)]
  by_cases w8_1 : (swf x1.val) = 20
  · refine Go.tsw (t := 72) d_Formulas_joined_8 (by rw [w8_1]; rfl) ?_
    refine Go.iload_1 d_Formulas_joined_72 rfl ?_
    refine Go.iload_2 d_Formulas_joined_73 rfl ?_
    refine Go.iadd d_Formulas_joined_74 rfl ?_
    rw [if_pos w8_1]
    exact Go.iret d_Formulas_joined_75 rfl rfl ⟨rfl, rfl, rfl⟩
  by_cases w8_2 : (swf x1.val) = 21
  · refine Go.tsw (t := 76) d_Formulas_joined_8 (by rw [w8_2]; rfl) ?_
    refine Go.iload_1 d_Formulas_joined_76 rfl ?_
    refine Go.iload_2 d_Formulas_joined_77 rfl ?_
    refine Go.isub d_Formulas_joined_78 rfl ?_
    rw [if_neg w8_1, if_pos w8_2]
    exact Go.iret d_Formulas_joined_79 rfl rfl ⟨rfl, rfl, rfl⟩
  by_cases w8_3 : (swf x1.val) = 22
  · refine Go.tsw (t := 80) d_Formulas_joined_8 (by rw [w8_3]; rfl) ?_
    refine Go.iload_1 d_Formulas_joined_80 rfl ?_
    refine Go.iload_2 d_Formulas_joined_81 rfl ?_
    refine Go.imul d_Formulas_joined_82 rfl ?_
    rw [if_neg w8_1, if_neg w8_2, if_pos w8_3]
    exact Go.iret d_Formulas_joined_83 rfl rfl ⟨rfl, rfl, rfl⟩
  by_cases w8_4 : (swf x1.val) = 23
  · refine Go.tsw (t := 84) d_Formulas_joined_8 (by rw [w8_4]; rfl) ?_
    refine Go.iload_2 d_Formulas_joined_84 rfl ?_
    refine Go.if_eq (t := 94) d_Formulas_joined_85 (by decide) rfl (fun c85_5 => ?_) (fun c85_5 => ?_)
    · refine Go.iconst (v := 0) d_Formulas_joined_94 rfl (by decide) ?_
      rw [if_neg w8_1, if_neg w8_2, if_neg w8_3, if_pos w8_4, if_pos c85_5]
      exact Go.iret d_Formulas_joined_95 rfl rfl ⟨rfl, rfl, rfl⟩
    · refine Go.iload_1 d_Formulas_joined_88 rfl ?_
      refine Go.iload_2 d_Formulas_joined_89 rfl ?_
      refine Go.idiv d_Formulas_joined_90 rfl (by assumption) ?_
      refine Go.goto (t := 95) d_Formulas_joined_91 (by decide) ?_
      rw [if_neg w8_1, if_neg w8_2, if_neg w8_3, if_pos w8_4, if_neg c85_5]
      exact Go.iret d_Formulas_joined_95 rfl rfl ⟨rfl, rfl, rfl⟩
  by_cases w8_6 : (swf x1.val) = 24
  · refine Go.tsw (t := 96) d_Formulas_joined_8 (by rw [w8_6]; rfl) ?_
    refine Go.iload_1 d_Formulas_joined_96 rfl ?_
    refine Go.iload_2 d_Formulas_joined_97 rfl ?_
    refine Go.imin d_Formulas_joined_98 rfl l_Formulas_64 (by decide) rfl ?_
    rw [if_neg w8_1, if_neg w8_2, if_neg w8_3, if_neg w8_4, if_pos w8_6]
    exact Go.iret d_Formulas_joined_101 rfl rfl ⟨rfl, rfl, rfl⟩
  by_cases w8_7 : (swf x1.val) = 25
  · refine Go.tsw (t := 102) d_Formulas_joined_8 (by rw [w8_7]; rfl) ?_
    refine Go.iload_1 d_Formulas_joined_102 rfl ?_
    refine Go.iload_2 d_Formulas_joined_103 rfl ?_
    refine Go.imax d_Formulas_joined_104 rfl l_Formulas_70 (by decide) rfl ?_
    rw [if_neg w8_1, if_neg w8_2, if_neg w8_3, if_neg w8_4, if_neg w8_6, if_pos w8_7]
    exact Go.iret d_Formulas_joined_107 rfl rfl ⟨rfl, rfl, rfl⟩
  by_cases w8_8 : (swf x1.val) = 26
  · refine Go.tsw (t := 108) d_Formulas_joined_8 (by rw [w8_8]; rfl) ?_
    refine Go.iload_1 d_Formulas_joined_108 rfl ?_
    refine Go.iload_2 d_Formulas_joined_109 rfl ?_
    refine Go.icmp_ge (t := 117) d_Formulas_joined_110 (by decide) rfl (fun c110_9 => ?_) (fun c110_9 => ?_)
    · refine Go.iconst (v := 0) d_Formulas_joined_117 rfl (by decide) ?_
      rw [if_neg w8_1, if_neg w8_2, if_neg w8_3, if_neg w8_4, if_neg w8_6, if_neg w8_7, if_pos w8_8, if_pos c110_9]
      exact Go.iret d_Formulas_joined_118 rfl rfl ⟨rfl, rfl, rfl⟩
    · refine Go.iconst (v := 1) d_Formulas_joined_113 rfl (by decide) ?_
      refine Go.goto (t := 118) d_Formulas_joined_114 (by decide) ?_
      rw [if_neg w8_1, if_neg w8_2, if_neg w8_3, if_neg w8_4, if_neg w8_6, if_neg w8_7, if_pos w8_8, if_neg c110_9]
      exact Go.iret d_Formulas_joined_118 rfl rfl ⟨rfl, rfl, rfl⟩
  by_cases w8_10 : (swf x1.val) = 27
  · refine Go.tsw (t := 119) d_Formulas_joined_8 (by rw [w8_10]; rfl) ?_
    refine Go.iload_1 d_Formulas_joined_119 rfl ?_
    refine Go.iload_2 d_Formulas_joined_120 rfl ?_
    refine Go.icmp_le (t := 128) d_Formulas_joined_121 (by decide) rfl (fun c121_11 => ?_) (fun c121_11 => ?_)
    · refine Go.iconst (v := 0) d_Formulas_joined_128 rfl (by decide) ?_
      rw [if_neg w8_1, if_neg w8_2, if_neg w8_3, if_neg w8_4, if_neg w8_6, if_neg w8_7, if_neg w8_8, if_pos w8_10, if_pos c121_11]
      exact Go.iret d_Formulas_joined_129 rfl rfl ⟨rfl, rfl, rfl⟩
    · refine Go.iconst (v := 1) d_Formulas_joined_124 rfl (by decide) ?_
      refine Go.goto (t := 129) d_Formulas_joined_125 (by decide) ?_
      rw [if_neg w8_1, if_neg w8_2, if_neg w8_3, if_neg w8_4, if_neg w8_6, if_neg w8_7, if_neg w8_8, if_pos w8_10, if_neg c121_11]
      exact Go.iret d_Formulas_joined_129 rfl rfl ⟨rfl, rfl, rfl⟩
  by_cases w8_12 : (swf x1.val) = 28
  · refine Go.tsw (t := 130) d_Formulas_joined_8 (by rw [w8_12]; rfl) ?_
    refine Go.iload_1 d_Formulas_joined_130 rfl ?_
    refine Go.iload_2 d_Formulas_joined_131 rfl ?_
    refine Go.icmp_ne (t := 139) d_Formulas_joined_132 (by decide) rfl (fun c132_13 => ?_) (fun c132_13 => ?_)
    · refine Go.iconst (v := 0) d_Formulas_joined_139 rfl (by decide) ?_
      rw [if_neg w8_1, if_neg w8_2, if_neg w8_3, if_neg w8_4, if_neg w8_6, if_neg w8_7, if_neg w8_8, if_neg w8_10, if_pos w8_12, if_neg c132_13]
      exact Go.iret d_Formulas_joined_140 rfl rfl ⟨rfl, rfl, rfl⟩
    · refine Go.iconst (v := 1) d_Formulas_joined_135 rfl (by decide) ?_
      refine Go.goto (t := 140) d_Formulas_joined_136 (by decide) ?_
      rw [if_neg w8_1, if_neg w8_2, if_neg w8_3, if_neg w8_4, if_neg w8_6, if_neg w8_7, if_neg w8_8, if_neg w8_10, if_pos w8_12, if_pos c132_13]
      exact Go.iret d_Formulas_joined_140 rfl rfl ⟨rfl, rfl, rfl⟩
  by_cases w8_14 : (swf x1.val) = 29
  · refine Go.tsw (t := 141) d_Formulas_joined_8 (by rw [w8_14]; rfl) ?_
    refine Go.iload_1 d_Formulas_joined_141 rfl ?_
    refine Go.iload_2 d_Formulas_joined_142 rfl ?_
    refine Go.icmp_gt (t := 150) d_Formulas_joined_143 (by decide) rfl (fun c143_15 => ?_) (fun c143_15 => ?_)
    · refine Go.iconst (v := 0) d_Formulas_joined_150 rfl (by decide) ?_
      rw [if_neg w8_1, if_neg w8_2, if_neg w8_3, if_neg w8_4, if_neg w8_6, if_neg w8_7, if_neg w8_8, if_neg w8_10, if_neg w8_12, if_pos w8_14, if_pos c143_15]
      exact Go.iret d_Formulas_joined_151 rfl rfl ⟨rfl, rfl, rfl⟩
    · refine Go.iconst (v := 1) d_Formulas_joined_146 rfl (by decide) ?_
      refine Go.goto (t := 151) d_Formulas_joined_147 (by decide) ?_
      rw [if_neg w8_1, if_neg w8_2, if_neg w8_3, if_neg w8_4, if_neg w8_6, if_neg w8_7, if_neg w8_8, if_neg w8_10, if_neg w8_12, if_pos w8_14, if_neg c143_15]
      exact Go.iret d_Formulas_joined_151 rfl rfl ⟨rfl, rfl, rfl⟩
  by_cases w8_16 : (swf x1.val) = 30
  · refine Go.tsw (t := 152) d_Formulas_joined_8 (by rw [w8_16]; rfl) ?_
    refine Go.iload_1 d_Formulas_joined_152 rfl ?_
    refine Go.iload_2 d_Formulas_joined_153 rfl ?_
    refine Go.icmp_lt (t := 161) d_Formulas_joined_154 (by decide) rfl (fun c154_17 => ?_) (fun c154_17 => ?_)
    · refine Go.iconst (v := 0) d_Formulas_joined_161 rfl (by decide) ?_
      rw [if_neg w8_1, if_neg w8_2, if_neg w8_3, if_neg w8_4, if_neg w8_6, if_neg w8_7, if_neg w8_8, if_neg w8_10, if_neg w8_12, if_neg w8_14, if_pos w8_16, if_pos c154_17]
      exact Go.iret d_Formulas_joined_162 rfl rfl ⟨rfl, rfl, rfl⟩
    · refine Go.iconst (v := 1) d_Formulas_joined_157 rfl (by decide) ?_
      refine Go.goto (t := 162) d_Formulas_joined_158 (by decide) ?_
      rw [if_neg w8_1, if_neg w8_2, if_neg w8_3, if_neg w8_4, if_neg w8_6, if_neg w8_7, if_neg w8_8, if_neg w8_10, if_neg w8_12, if_neg w8_14, if_pos w8_16, if_neg c154_17]
      exact Go.iret d_Formulas_joined_162 rfl rfl ⟨rfl, rfl, rfl⟩
  by_cases w8_18 : (swf x1.val) = 31
  · refine Go.tsw (t := 163) d_Formulas_joined_8 (by rw [w8_18]; rfl) ?_
    refine Go.iload_1 d_Formulas_joined_163 rfl ?_
    refine Go.iload_2 d_Formulas_joined_164 rfl ?_
    refine Go.iand d_Formulas_joined_165 rfl ?_
    rw [if_neg w8_1, if_neg w8_2, if_neg w8_3, if_neg w8_4, if_neg w8_6, if_neg w8_7, if_neg w8_8, if_neg w8_10, if_neg w8_12, if_neg w8_14, if_neg w8_16, if_pos w8_18]
    exact Go.iret d_Formulas_joined_166 rfl rfl ⟨rfl, rfl, rfl⟩
  refine Go.tsw (t := 167) d_Formulas_joined_8 (tsw_out fun n hn => by
      match n, hn with
      | 0, _ => exact fun w => w8_1 (i32_eq w)
      | 1, _ => exact fun w => w8_2 (i32_eq w)
      | 2, _ => exact fun w => w8_3 (i32_eq w)
      | 3, _ => exact fun w => w8_4 (i32_eq w)
      | 4, _ => exact fun w => w8_6 (i32_eq w)
      | 5, _ => exact fun w => w8_7 (i32_eq w)
      | 6, _ => exact fun w => w8_8 (i32_eq w)
      | 7, _ => exact fun w => w8_10 (i32_eq w)
      | 8, _ => exact fun w => w8_12 (i32_eq w)
      | 9, _ => exact fun w => w8_14 (i32_eq w)
      | 10, _ => exact fun w => w8_16 (i32_eq w)
      | 11, _ => exact fun w => w8_18 (i32_eq w)
      | _ + 12, w => exact absurd w (by simp)) ?_
  refine Go.iload_1 d_Formulas_joined_167 rfl ?_
  refine Go.iload_2 d_Formulas_joined_168 rfl ?_
  refine Go.ior d_Formulas_joined_169 rfl ?_
  rw [if_neg w8_1, if_neg w8_2, if_neg w8_3, if_neg w8_4, if_neg w8_6, if_neg w8_7, if_neg w8_8, if_neg w8_10, if_neg w8_12, if_neg w8_14, if_neg w8_16, if_neg w8_18]
  exact Go.iret d_Formulas_joined_170 rfl rfl ⟨rfl, rfl, rfl⟩
theorem gl_g0 {Γ : G9} {h : AH} {g : Nat} {σ : GL} : blk h g 12 (glC Γ g σ) g = some (.inr (1, glF g σ)) := gl_obj
theorem d_Glacier_valueOf_0 : decode M_Glacier_valueOf.2.1 0 = .ok (.getstatic 84, 3) := by decide +kernel
theorem d_Glacier_valueOf_3 : decode M_Glacier_valueOf.2.1 3 = .ok (.aload_n 1, 1) := by decide +kernel
theorem d_Glacier_valueOf_4 : decode M_Glacier_valueOf.2.1 4 = .ok (.invokevirtual 89, 3) := by decide +kernel
theorem d_Glacier_valueOf_7 : decode M_Glacier_valueOf.2.1 7 = .ok (.iaload, 1) := by decide +kernel
theorem d_Glacier_valueOf_8 : decode M_Glacier_valueOf.2.1 8 = .ok (.tableswitch 221 6 33 #[128, 221, 221, 221, 221, 221, 221, 136, 141, 151, 161, 171, 181, 191, 221, 221, 221, 221, 221, 221, 221, 221, 221, 221, 221, 221, 201, 211], 128) := by decide +kernel
theorem d_Glacier_valueOf_136 : decode M_Glacier_valueOf.2.1 136 = .ok (.aload_n 0, 1) := by decide +kernel
theorem d_Glacier_valueOf_137 : decode M_Glacier_valueOf.2.1 137 = .ok (.getfield 42, 3) := by decide +kernel
theorem d_Glacier_valueOf_140 : decode M_Glacier_valueOf.2.1 140 = .ok (.bipush 8, 2) := by decide +kernel
theorem d_Glacier_valueOf_142 : decode M_Glacier_valueOf.2.1 142 = .ok (.irem, 1) := by decide +kernel
theorem d_Glacier_valueOf_143 : decode M_Glacier_valueOf.2.1 143 = .ok (.ireturn, 1) := by decide +kernel
theorem d_Glacier_valueOf_144 : decode M_Glacier_valueOf.2.1 144 = .ok (.aload_n 0, 1) := by decide +kernel
theorem d_Glacier_valueOf_145 : decode M_Glacier_valueOf.2.1 145 = .ok (.invokevirtual 94, 3) := by decide +kernel
theorem d_Glacier_valueOf_148 : decode M_Glacier_valueOf.2.1 148 = .ok (.ireturn, 1) := by decide +kernel
theorem d_Glacier_valueOf_149 : decode M_Glacier_valueOf.2.1 149 = .ok (.aload_n 0, 1) := by decide +kernel
theorem d_Glacier_valueOf_150 : decode M_Glacier_valueOf.2.1 150 = .ok (.getfield 14, 3) := by decide +kernel
theorem d_Glacier_valueOf_153 : decode M_Glacier_valueOf.2.1 153 = .ok (.iload_n 2, 1) := by decide +kernel
theorem d_Glacier_valueOf_154 : decode M_Glacier_valueOf.2.1 154 = .ok (.iconst 1, 1) := by decide +kernel
theorem d_Glacier_valueOf_155 : decode M_Glacier_valueOf.2.1 155 = .ok (.invokevirtual 75, 3) := by decide +kernel
theorem d_Glacier_valueOf_158 : decode M_Glacier_valueOf.2.1 158 = .ok (.ireturn, 1) := by decide +kernel
theorem d_Glacier_valueOf_159 : decode M_Glacier_valueOf.2.1 159 = .ok (.aload_n 0, 1) := by decide +kernel
theorem d_Glacier_valueOf_160 : decode M_Glacier_valueOf.2.1 160 = .ok (.getfield 20, 3) := by decide +kernel
theorem d_Glacier_valueOf_163 : decode M_Glacier_valueOf.2.1 163 = .ok (.iload_n 2, 1) := by decide +kernel
theorem d_Glacier_valueOf_164 : decode M_Glacier_valueOf.2.1 164 = .ok (.iconst 2, 1) := by decide +kernel
theorem d_Glacier_valueOf_165 : decode M_Glacier_valueOf.2.1 165 = .ok (.invokevirtual 75, 3) := by decide +kernel
theorem d_Glacier_valueOf_168 : decode M_Glacier_valueOf.2.1 168 = .ok (.ireturn, 1) := by decide +kernel
theorem d_Glacier_valueOf_169 : decode M_Glacier_valueOf.2.1 169 = .ok (.aload_n 0, 1) := by decide +kernel
theorem d_Glacier_valueOf_170 : decode M_Glacier_valueOf.2.1 170 = .ok (.getfield 23, 3) := by decide +kernel
theorem d_Glacier_valueOf_173 : decode M_Glacier_valueOf.2.1 173 = .ok (.iload_n 2, 1) := by decide +kernel
theorem d_Glacier_valueOf_174 : decode M_Glacier_valueOf.2.1 174 = .ok (.iconst 1, 1) := by decide +kernel
theorem d_Glacier_valueOf_175 : decode M_Glacier_valueOf.2.1 175 = .ok (.invokevirtual 75, 3) := by decide +kernel
theorem d_Glacier_valueOf_178 : decode M_Glacier_valueOf.2.1 178 = .ok (.ireturn, 1) := by decide +kernel
theorem d_Glacier_valueOf_179 : decode M_Glacier_valueOf.2.1 179 = .ok (.aload_n 0, 1) := by decide +kernel
theorem d_Glacier_valueOf_180 : decode M_Glacier_valueOf.2.1 180 = .ok (.getfield 26, 3) := by decide +kernel
theorem d_Glacier_valueOf_183 : decode M_Glacier_valueOf.2.1 183 = .ok (.iload_n 2, 1) := by decide +kernel
theorem d_Glacier_valueOf_184 : decode M_Glacier_valueOf.2.1 184 = .ok (.iconst 1, 1) := by decide +kernel
theorem d_Glacier_valueOf_185 : decode M_Glacier_valueOf.2.1 185 = .ok (.invokevirtual 75, 3) := by decide +kernel
theorem d_Glacier_valueOf_188 : decode M_Glacier_valueOf.2.1 188 = .ok (.ireturn, 1) := by decide +kernel
theorem d_Glacier_valueOf_189 : decode M_Glacier_valueOf.2.1 189 = .ok (.aload_n 0, 1) := by decide +kernel
theorem d_Glacier_valueOf_190 : decode M_Glacier_valueOf.2.1 190 = .ok (.getfield 29, 3) := by decide +kernel
theorem d_Glacier_valueOf_193 : decode M_Glacier_valueOf.2.1 193 = .ok (.iload_n 2, 1) := by decide +kernel
theorem d_Glacier_valueOf_194 : decode M_Glacier_valueOf.2.1 194 = .ok (.iconst 1, 1) := by decide +kernel
theorem d_Glacier_valueOf_195 : decode M_Glacier_valueOf.2.1 195 = .ok (.invokevirtual 75, 3) := by decide +kernel
theorem d_Glacier_valueOf_198 : decode M_Glacier_valueOf.2.1 198 = .ok (.ireturn, 1) := by decide +kernel
theorem d_Glacier_valueOf_199 : decode M_Glacier_valueOf.2.1 199 = .ok (.aload_n 0, 1) := by decide +kernel
theorem d_Glacier_valueOf_200 : decode M_Glacier_valueOf.2.1 200 = .ok (.getfield 29, 3) := by decide +kernel
theorem d_Glacier_valueOf_203 : decode M_Glacier_valueOf.2.1 203 = .ok (.iload_n 2, 1) := by decide +kernel
theorem d_Glacier_valueOf_204 : decode M_Glacier_valueOf.2.1 204 = .ok (.iconst 2, 1) := by decide +kernel
theorem d_Glacier_valueOf_205 : decode M_Glacier_valueOf.2.1 205 = .ok (.invokevirtual 75, 3) := by decide +kernel
theorem d_Glacier_valueOf_208 : decode M_Glacier_valueOf.2.1 208 = .ok (.ireturn, 1) := by decide +kernel
theorem d_Glacier_valueOf_209 : decode M_Glacier_valueOf.2.1 209 = .ok (.aload_n 0, 1) := by decide +kernel
theorem d_Glacier_valueOf_210 : decode M_Glacier_valueOf.2.1 210 = .ok (.getfield 20, 3) := by decide +kernel
theorem d_Glacier_valueOf_213 : decode M_Glacier_valueOf.2.1 213 = .ok (.iload_n 2, 1) := by decide +kernel
theorem d_Glacier_valueOf_214 : decode M_Glacier_valueOf.2.1 214 = .ok (.iconst 3, 1) := by decide +kernel
theorem d_Glacier_valueOf_215 : decode M_Glacier_valueOf.2.1 215 = .ok (.invokevirtual 75, 3) := by decide +kernel
theorem d_Glacier_valueOf_218 : decode M_Glacier_valueOf.2.1 218 = .ok (.ireturn, 1) := by decide +kernel
theorem d_Glacier_valueOf_219 : decode M_Glacier_valueOf.2.1 219 = .ok (.aload_n 0, 1) := by decide +kernel
theorem d_Glacier_valueOf_220 : decode M_Glacier_valueOf.2.1 220 = .ok (.getfield 29, 3) := by decide +kernel
theorem d_Glacier_valueOf_223 : decode M_Glacier_valueOf.2.1 223 = .ok (.iload_n 2, 1) := by decide +kernel
theorem d_Glacier_valueOf_224 : decode M_Glacier_valueOf.2.1 224 = .ok (.iconst 4, 1) := by decide +kernel
theorem d_Glacier_valueOf_225 : decode M_Glacier_valueOf.2.1 225 = .ok (.invokevirtual 75, 3) := by decide +kernel
theorem d_Glacier_valueOf_228 : decode M_Glacier_valueOf.2.1 228 = .ok (.ireturn, 1) := by decide +kernel
theorem d_Glacier_valueOf_229 : decode M_Glacier_valueOf.2.1 229 = .ok (.aload_n 0, 1) := by decide +kernel
theorem d_Glacier_valueOf_230 : decode M_Glacier_valueOf.2.1 230 = .ok (.iload_n 2, 1) := by decide +kernel
theorem d_Glacier_valueOf_231 : decode M_Glacier_valueOf.2.1 231 = .ok (.iconst 2, 1) := by decide +kernel
theorem d_Glacier_valueOf_232 : decode M_Glacier_valueOf.2.1 232 = .ok (.invokevirtual 97, 3) := by decide +kernel
theorem d_Glacier_valueOf_235 : decode M_Glacier_valueOf.2.1 235 = .ok (.ireturn, 1) := by decide +kernel
def s_Glacier_valueOf (σ : GL) (x1 : Fin 54) (x2 : Int32) : Int32 := (if (swf x1.val) = 6 then ((gD σ) - (gD σ) / 8 * 8) else (if (swf x1.val) = 13 then (s_Glacier_warmthToday σ) else (if (swf x1.val) = 14 then (gG σ 0 x2 1) else (if (swf x1.val) = 15 then (gG σ 1 x2 2) else (if (swf x1.val) = 16 then (gG σ 2 x2 1) else (if (swf x1.val) = 17 then (gG σ 3 x2 1) else (if (swf x1.val) = 18 then (gG σ 4 x2 1) else (if (swf x1.val) = 19 then (gG σ 4 x2 2) else (if (swf x1.val) = 32 then (gG σ 1 x2 3) else (if (swf x1.val) = 33 then (gG σ 4 x2 4) else (s_Glacier_crevasseFact σ x2 2)))))))))))
set_option maxRecDepth 100000 in
set_option maxHeartbeats 4000000 in
theorem c_Glacier_valueOf {Γ : G9} {sg : Nat → Nat} {sw : Nat} {h : AH} {g z : Nat} {σ : GL} {x1 : Fin 54} {x2 : Int32} (hs : SgOk Γ sg) (hw : SwOk Γ sw) (hW : WFG σ) : CallR Γ M_Glacier_valueOf 2 [.ref g, .ref (sg x1.val), .int x2] (blk h g 12 (glC Γ g σ)) z (some (.int (s_Glacier_valueOf σ x1 x2))) (blk h g 12 (glC Γ g σ)) := by
  refine Call.of_go (L := [some (.ref g), some (.ref (sg x1.val)), some (.int x2)]) (by decide +kernel) rfl (by exact Nat.le_of_ble_eq_true rfl) ?_
  unfold s_Glacier_valueOf
  refine Go.gets d_Glacier_valueOf_0 rfl x_Glacier_84 hw.1 ?_
  refine Go.aload_1 d_Glacier_valueOf_3 rfl ?_
  refine Go.ordinal (i := x1.val) d_Glacier_valueOf_4 rfl x_Glacier_89 hs (x1).isLt rfl rfl ?_
  refine Go.ialoadS d_Glacier_valueOf_7 rfl hw.2 (vp_in_nI (by omega) (by omega)) ?_
  rw [nI_clamp (show x1.val < 2 ^ 31 by omega)]
  by_cases w8_1 : (swf x1.val) = 6
  · refine Go.tsw (t := 136) d_Glacier_valueOf_8 (by rw [w8_1]; rfl) ?_
    refine Go.aload_0 d_Glacier_valueOf_136 rfl ?_
    refine Go.getfield d_Glacier_valueOf_137 rfl f_Glacier_42 (gl_obj) (by rfl) ?_
    refine Go.bipush (v := 8) d_Glacier_valueOf_140 rfl (by decide) ?_
    refine Go.irem d_Glacier_valueOf_142 rfl (by decide) ?_
    rw [if_pos w8_1]
    exact Go.iret d_Glacier_valueOf_143 rfl rfl ⟨rfl, rfl, rfl⟩
  by_cases w8_2 : (swf x1.val) = 13
  · refine Go.tsw (t := 144) d_Glacier_valueOf_8 (by rw [w8_2]; rfl) ?_
    refine Go.aload_0 d_Glacier_valueOf_144 rfl ?_
    refine Go.cv0r d_Glacier_valueOf_145 rfl l_Glacier_94 k_Glacier_warmthToday_v (gl_g0) rfl (c_Glacier_warmthToday) rfl rfl rfl ?_
    rw [if_neg w8_1, if_pos w8_2]
    exact Go.iret d_Glacier_valueOf_148 rfl rfl ⟨rfl, rfl, rfl⟩
  by_cases w8_3 : (swf x1.val) = 14
  · refine Go.tsw (t := 149) d_Glacier_valueOf_8 (by rw [w8_3]; rfl) ?_
    refine Go.aload_0 d_Glacier_valueOf_149 rfl ?_
    refine Go.getfield d_Glacier_valueOf_150 rfl f_Glacier_14 (gl_obj) (by rfl) ?_
    refine Go.iload_2 d_Glacier_valueOf_153 rfl ?_
    refine Go.iconst (v := 1) d_Glacier_valueOf_154 rfl (by decide) ?_
    refine Go.cv2r d_Glacier_valueOf_155 rfl l_Glacier_75 k_Table_get_v (gl_tab (k := 0) (by decide)) rfl (cG_get (k := 0) (by decide) (c := 1) rfl (by omega) hW) rfl rfl rfl ?_
    rw [if_neg w8_1, if_neg w8_2, if_pos w8_3]
    exact Go.iret d_Glacier_valueOf_158 rfl rfl ⟨rfl, rfl, rfl⟩
  by_cases w8_4 : (swf x1.val) = 15
  · refine Go.tsw (t := 159) d_Glacier_valueOf_8 (by rw [w8_4]; rfl) ?_
    refine Go.aload_0 d_Glacier_valueOf_159 rfl ?_
    refine Go.getfield d_Glacier_valueOf_160 rfl f_Glacier_20 (gl_obj) (by rfl) ?_
    refine Go.iload_2 d_Glacier_valueOf_163 rfl ?_
    refine Go.iconst (v := 2) d_Glacier_valueOf_164 rfl (by decide) ?_
    refine Go.cv2r d_Glacier_valueOf_165 rfl l_Glacier_75 k_Table_get_v (gl_tab (k := 1) (by decide)) rfl (cG_get (k := 1) (by decide) (c := 2) rfl (by omega) hW) rfl rfl rfl ?_
    rw [if_neg w8_1, if_neg w8_2, if_neg w8_3, if_pos w8_4]
    exact Go.iret d_Glacier_valueOf_168 rfl rfl ⟨rfl, rfl, rfl⟩
  by_cases w8_5 : (swf x1.val) = 16
  · refine Go.tsw (t := 169) d_Glacier_valueOf_8 (by rw [w8_5]; rfl) ?_
    refine Go.aload_0 d_Glacier_valueOf_169 rfl ?_
    refine Go.getfield d_Glacier_valueOf_170 rfl f_Glacier_23 (gl_obj) (by rfl) ?_
    refine Go.iload_2 d_Glacier_valueOf_173 rfl ?_
    refine Go.iconst (v := 1) d_Glacier_valueOf_174 rfl (by decide) ?_
    refine Go.cv2r d_Glacier_valueOf_175 rfl l_Glacier_75 k_Table_get_v (gl_tab (k := 2) (by decide)) rfl (cG_get (k := 2) (by decide) (c := 1) rfl (by omega) hW) rfl rfl rfl ?_
    rw [if_neg w8_1, if_neg w8_2, if_neg w8_3, if_neg w8_4, if_pos w8_5]
    exact Go.iret d_Glacier_valueOf_178 rfl rfl ⟨rfl, rfl, rfl⟩
  by_cases w8_6 : (swf x1.val) = 17
  · refine Go.tsw (t := 179) d_Glacier_valueOf_8 (by rw [w8_6]; rfl) ?_
    refine Go.aload_0 d_Glacier_valueOf_179 rfl ?_
    refine Go.getfield d_Glacier_valueOf_180 rfl f_Glacier_26 (gl_obj) (by rfl) ?_
    refine Go.iload_2 d_Glacier_valueOf_183 rfl ?_
    refine Go.iconst (v := 1) d_Glacier_valueOf_184 rfl (by decide) ?_
    refine Go.cv2r d_Glacier_valueOf_185 rfl l_Glacier_75 k_Table_get_v (gl_tab (k := 3) (by decide)) rfl (cG_get (k := 3) (by decide) (c := 1) rfl (by omega) hW) rfl rfl rfl ?_
    rw [if_neg w8_1, if_neg w8_2, if_neg w8_3, if_neg w8_4, if_neg w8_5, if_pos w8_6]
    exact Go.iret d_Glacier_valueOf_188 rfl rfl ⟨rfl, rfl, rfl⟩
  by_cases w8_7 : (swf x1.val) = 18
  · refine Go.tsw (t := 189) d_Glacier_valueOf_8 (by rw [w8_7]; rfl) ?_
    refine Go.aload_0 d_Glacier_valueOf_189 rfl ?_
    refine Go.getfield d_Glacier_valueOf_190 rfl f_Glacier_29 (gl_obj) (by rfl) ?_
    refine Go.iload_2 d_Glacier_valueOf_193 rfl ?_
    refine Go.iconst (v := 1) d_Glacier_valueOf_194 rfl (by decide) ?_
    refine Go.cv2r d_Glacier_valueOf_195 rfl l_Glacier_75 k_Table_get_v (gl_tab (k := 4) (by decide)) rfl (cG_get (k := 4) (by decide) (c := 1) rfl (by omega) hW) rfl rfl rfl ?_
    rw [if_neg w8_1, if_neg w8_2, if_neg w8_3, if_neg w8_4, if_neg w8_5, if_neg w8_6, if_pos w8_7]
    exact Go.iret d_Glacier_valueOf_198 rfl rfl ⟨rfl, rfl, rfl⟩
  by_cases w8_8 : (swf x1.val) = 19
  · refine Go.tsw (t := 199) d_Glacier_valueOf_8 (by rw [w8_8]; rfl) ?_
    refine Go.aload_0 d_Glacier_valueOf_199 rfl ?_
    refine Go.getfield d_Glacier_valueOf_200 rfl f_Glacier_29 (gl_obj) (by rfl) ?_
    refine Go.iload_2 d_Glacier_valueOf_203 rfl ?_
    refine Go.iconst (v := 2) d_Glacier_valueOf_204 rfl (by decide) ?_
    refine Go.cv2r d_Glacier_valueOf_205 rfl l_Glacier_75 k_Table_get_v (gl_tab (k := 4) (by decide)) rfl (cG_get (k := 4) (by decide) (c := 2) rfl (by omega) hW) rfl rfl rfl ?_
    rw [if_neg w8_1, if_neg w8_2, if_neg w8_3, if_neg w8_4, if_neg w8_5, if_neg w8_6, if_neg w8_7, if_pos w8_8]
    exact Go.iret d_Glacier_valueOf_208 rfl rfl ⟨rfl, rfl, rfl⟩
  by_cases w8_9 : (swf x1.val) = 32
  · refine Go.tsw (t := 209) d_Glacier_valueOf_8 (by rw [w8_9]; rfl) ?_
    refine Go.aload_0 d_Glacier_valueOf_209 rfl ?_
    refine Go.getfield d_Glacier_valueOf_210 rfl f_Glacier_20 (gl_obj) (by rfl) ?_
    refine Go.iload_2 d_Glacier_valueOf_213 rfl ?_
    refine Go.iconst (v := 3) d_Glacier_valueOf_214 rfl (by decide) ?_
    refine Go.cv2r d_Glacier_valueOf_215 rfl l_Glacier_75 k_Table_get_v (gl_tab (k := 1) (by decide)) rfl (cG_get (k := 1) (by decide) (c := 3) rfl (by omega) hW) rfl rfl rfl ?_
    rw [if_neg w8_1, if_neg w8_2, if_neg w8_3, if_neg w8_4, if_neg w8_5, if_neg w8_6, if_neg w8_7, if_neg w8_8, if_pos w8_9]
    exact Go.iret d_Glacier_valueOf_218 rfl rfl ⟨rfl, rfl, rfl⟩
  by_cases w8_10 : (swf x1.val) = 33
  · refine Go.tsw (t := 219) d_Glacier_valueOf_8 (by rw [w8_10]; rfl) ?_
    refine Go.aload_0 d_Glacier_valueOf_219 rfl ?_
    refine Go.getfield d_Glacier_valueOf_220 rfl f_Glacier_29 (gl_obj) (by rfl) ?_
    refine Go.iload_2 d_Glacier_valueOf_223 rfl ?_
    refine Go.iconst (v := 4) d_Glacier_valueOf_224 rfl (by decide) ?_
    refine Go.cv2r d_Glacier_valueOf_225 rfl l_Glacier_75 k_Table_get_v (gl_tab (k := 4) (by decide)) rfl (cG_get (k := 4) (by decide) (c := 4) rfl (by omega) hW) rfl rfl rfl ?_
    rw [if_neg w8_1, if_neg w8_2, if_neg w8_3, if_neg w8_4, if_neg w8_5, if_neg w8_6, if_neg w8_7, if_neg w8_8, if_neg w8_9, if_pos w8_10]
    exact Go.iret d_Glacier_valueOf_228 rfl rfl ⟨rfl, rfl, rfl⟩
  refine Go.tsw (t := 229) d_Glacier_valueOf_8 (tsw_d fun n hn => by
      match n, hn with
      | 0, _ => exact Or.inr fun w => w8_1 (i32_eq w)
      | 1, _ => exact Or.inl rfl
      | 2, _ => exact Or.inl rfl
      | 3, _ => exact Or.inl rfl
      | 4, _ => exact Or.inl rfl
      | 5, _ => exact Or.inl rfl
      | 6, _ => exact Or.inl rfl
      | 7, _ => exact Or.inr fun w => w8_2 (i32_eq w)
      | 8, _ => exact Or.inr fun w => w8_3 (i32_eq w)
      | 9, _ => exact Or.inr fun w => w8_4 (i32_eq w)
      | 10, _ => exact Or.inr fun w => w8_5 (i32_eq w)
      | 11, _ => exact Or.inr fun w => w8_6 (i32_eq w)
      | 12, _ => exact Or.inr fun w => w8_7 (i32_eq w)
      | 13, _ => exact Or.inr fun w => w8_8 (i32_eq w)
      | 14, _ => exact Or.inl rfl
      | 15, _ => exact Or.inl rfl
      | 16, _ => exact Or.inl rfl
      | 17, _ => exact Or.inl rfl
      | 18, _ => exact Or.inl rfl
      | 19, _ => exact Or.inl rfl
      | 20, _ => exact Or.inl rfl
      | 21, _ => exact Or.inl rfl
      | 22, _ => exact Or.inl rfl
      | 23, _ => exact Or.inl rfl
      | 24, _ => exact Or.inl rfl
      | 25, _ => exact Or.inl rfl
      | 26, _ => exact Or.inr fun w => w8_9 (i32_eq w)
      | 27, _ => exact Or.inr fun w => w8_10 (i32_eq w)
      | _ + 28, w => exact absurd w (by simp)) ?_
  refine Go.aload_0 d_Glacier_valueOf_229 rfl ?_
  refine Go.iload_2 d_Glacier_valueOf_230 rfl ?_
  refine Go.iconst (v := 2) d_Glacier_valueOf_231 rfl (by decide) ?_
  refine Go.cv2r d_Glacier_valueOf_232 rfl l_Glacier_97 k_Glacier_crevasseFact_v (gl_g0) rfl (c_Glacier_crevasseFact (x2 := 2) rfl (by omega) hW) rfl rfl rfl ?_
  rw [if_neg w8_1, if_neg w8_2, if_neg w8_3, if_neg w8_4, if_neg w8_5, if_neg w8_6, if_neg w8_7, if_neg w8_8, if_neg w8_9, if_neg w8_10]
  exact Go.iret d_Glacier_valueOf_235 rfl rfl ⟨rfl, rfl, rfl⟩
theorem d_Formulas_worth_8 : decode M_Formulas_worth.2.1 8 = .ok (.iload 4, 2) := by decide +kernel
theorem d_Formulas_worth_10 : decode M_Formulas_worth.2.1 10 = .ok (.ifCond .lt 144, 3) := by decide +kernel
theorem d_Formulas_worth_13 : decode M_Formulas_worth.2.1 13 = .ok (.iload 4, 2) := by decide +kernel
theorem d_Formulas_worth_15 : decode M_Formulas_worth.2.1 15 = .ok (.iload_n 2, 1) := by decide +kernel
theorem d_Formulas_worth_16 : decode M_Formulas_worth.2.1 16 = .ok (.if_icmp .ge 138, 3) := by decide +kernel
theorem d_Formulas_worth_19 : decode M_Formulas_worth.2.1 19 = .ok (.iload 4, 2) := by decide +kernel
theorem d_Formulas_worth_21 : decode M_Formulas_worth.2.1 21 = .ok (.aload_n 0, 1) := by decide +kernel
theorem d_Formulas_worth_22 : decode M_Formulas_worth.2.1 22 = .ok (.getfield 13, 3) := by decide +kernel
theorem d_Formulas_worth_25 : decode M_Formulas_worth.2.1 25 = .ok (.arraylength, 1) := by decide +kernel
theorem d_Formulas_worth_26 : decode M_Formulas_worth.2.1 26 = .ok (.if_icmp .ge 128, 3) := by decide +kernel
theorem d_Formulas_worth_154 : decode M_Formulas_worth.2.1 154 = .ok (.aload_n 0, 1) := by decide +kernel
theorem d_Formulas_worth_155 : decode M_Formulas_worth.2.1 155 = .ok (.invokevirtual 48, 3) := by decide +kernel
theorem d_Formulas_worth_158 : decode M_Formulas_worth.2.1 158 = .ok (.ireturn, 1) := by decide +kernel
theorem d_Formulas_worth_29 : decode M_Formulas_worth.2.1 29 = .ok (.iload 4, 2) := by decide +kernel
theorem d_Formulas_worth_31 : decode M_Formulas_worth.2.1 31 = .ok (.aload_n 0, 1) := by decide +kernel
theorem d_Formulas_worth_32 : decode M_Formulas_worth.2.1 32 = .ok (.getfield 17, 3) := by decide +kernel
theorem d_Formulas_worth_35 : decode M_Formulas_worth.2.1 35 = .ok (.arraylength, 1) := by decide +kernel
theorem d_Formulas_worth_36 : decode M_Formulas_worth.2.1 36 = .ok (.if_icmp .ge 118, 3) := by decide +kernel
theorem d_Formulas_worth_39 : decode M_Formulas_worth.2.1 39 = .ok (.aload_n 0, 1) := by decide +kernel
theorem d_Formulas_worth_40 : decode M_Formulas_worth.2.1 40 = .ok (.getfield 13, 3) := by decide +kernel
theorem d_Formulas_worth_43 : decode M_Formulas_worth.2.1 43 = .ok (.iload 4, 2) := by decide +kernel
theorem d_Formulas_worth_45 : decode M_Formulas_worth.2.1 45 = .ok (.aaload, 1) := by decide +kernel
theorem d_Formulas_worth_46 : decode M_Formulas_worth.2.1 46 = .ok (.astore 5, 2) := by decide +kernel
theorem d_Formulas_worth_48 : decode M_Formulas_worth.2.1 48 = .ok (.aload 5, 2) := by decide +kernel
theorem d_Formulas_worth_50 : decode M_Formulas_worth.2.1 50 = .ok (.ifnonnull 5, 3) := by decide +kernel
theorem d_Formulas_worth_53 : decode M_Formulas_worth.2.1 53 = .ok (.iconst 0, 1) := by decide +kernel
theorem d_Formulas_worth_54 : decode M_Formulas_worth.2.1 54 = .ok (.ireturn, 1) := by decide +kernel
theorem d_Formulas_worth_55 : decode M_Formulas_worth.2.1 55 = .ok (.aload 5, 2) := by decide +kernel
theorem d_Formulas_worth_57 : decode M_Formulas_worth.2.1 57 = .ok (.getstatic 31, 3) := by decide +kernel
theorem d_Formulas_worth_60 : decode M_Formulas_worth.2.1 60 = .ok (.if_acmp .ne 17, 3) := by decide +kernel
theorem d_Formulas_worth_63 : decode M_Formulas_worth.2.1 63 = .ok (.aload_n 0, 1) := by decide +kernel
theorem d_Formulas_worth_64 : decode M_Formulas_worth.2.1 64 = .ok (.aload_n 0, 1) := by decide +kernel
theorem d_Formulas_worth_65 : decode M_Formulas_worth.2.1 65 = .ok (.getfield 17, 3) := by decide +kernel
theorem d_Formulas_worth_68 : decode M_Formulas_worth.2.1 68 = .ok (.iload 4, 2) := by decide +kernel
theorem d_Formulas_worth_70 : decode M_Formulas_worth.2.1 70 = .ok (.iaload, 1) := by decide +kernel
theorem d_Formulas_worth_71 : decode M_Formulas_worth.2.1 71 = .ok (.invokevirtual 35, 3) := by decide +kernel
theorem d_Formulas_worth_74 : decode M_Formulas_worth.2.1 74 = .ok (.goto 74, 3) := by decide +kernel
theorem d_Formulas_worth_77 : decode M_Formulas_worth.2.1 77 = .ok (.aload 5, 2) := by decide +kernel
theorem d_Formulas_worth_79 : decode M_Formulas_worth.2.1 79 = .ok (.getfield 39, 3) := by decide +kernel
theorem d_Formulas_worth_82 : decode M_Formulas_worth.2.1 82 = .ok (.ifCond .ne 23, 3) := by decide +kernel
theorem d_Formulas_worth_85 : decode M_Formulas_worth.2.1 85 = .ok (.aload_n 0, 1) := by decide +kernel
theorem d_Formulas_worth_86 : decode M_Formulas_worth.2.1 86 = .ok (.aload_n 3, 1) := by decide +kernel
theorem d_Formulas_worth_87 : decode M_Formulas_worth.2.1 87 = .ok (.aload 5, 2) := by decide +kernel
theorem d_Formulas_worth_89 : decode M_Formulas_worth.2.1 89 = .ok (.aload_n 0, 1) := by decide +kernel
theorem d_Formulas_worth_90 : decode M_Formulas_worth.2.1 90 = .ok (.getfield 17, 3) := by decide +kernel
theorem d_Formulas_worth_93 : decode M_Formulas_worth.2.1 93 = .ok (.iload 4, 2) := by decide +kernel
theorem d_Formulas_worth_95 : decode M_Formulas_worth.2.1 95 = .ok (.iaload, 1) := by decide +kernel
theorem d_Formulas_worth_96 : decode M_Formulas_worth.2.1 96 = .ok (.invokevirtual 42, 3) := by decide +kernel
theorem d_Formulas_worth_99 : decode M_Formulas_worth.2.1 99 = .ok (.invokevirtual 35, 3) := by decide +kernel
theorem d_Formulas_worth_102 : decode M_Formulas_worth.2.1 102 = .ok (.goto 46, 3) := by decide +kernel
theorem d_Formulas_worth_105 : decode M_Formulas_worth.2.1 105 = .ok (.aload 5, 2) := by decide +kernel
theorem d_Formulas_worth_107 : decode M_Formulas_worth.2.1 107 = .ok (.getfield 39, 3) := by decide +kernel
theorem d_Formulas_worth_110 : decode M_Formulas_worth.2.1 110 = .ok (.iconst 1, 1) := by decide +kernel
theorem d_Formulas_worth_111 : decode M_Formulas_worth.2.1 111 = .ok (.if_icmp .ne 16, 3) := by decide +kernel
theorem d_Formulas_worth_114 : decode M_Formulas_worth.2.1 114 = .ok (.aload_n 0, 1) := by decide +kernel
theorem d_Formulas_worth_115 : decode M_Formulas_worth.2.1 115 = .ok (.iconst 1, 1) := by decide +kernel
theorem d_Formulas_worth_116 : decode M_Formulas_worth.2.1 116 = .ok (.aload_n 0, 1) := by decide +kernel
theorem d_Formulas_worth_117 : decode M_Formulas_worth.2.1 117 = .ok (.invokevirtual 48, 3) := by decide +kernel
theorem d_Formulas_worth_120 : decode M_Formulas_worth.2.1 120 = .ok (.isub, 1) := by decide +kernel
theorem d_Formulas_worth_121 : decode M_Formulas_worth.2.1 121 = .ok (.invokevirtual 35, 3) := by decide +kernel
theorem d_Formulas_worth_124 : decode M_Formulas_worth.2.1 124 = .ok (.goto 24, 3) := by decide +kernel
theorem d_Formulas_worth_127 : decode M_Formulas_worth.2.1 127 = .ok (.aload_n 0, 1) := by decide +kernel
theorem d_Formulas_worth_128 : decode M_Formulas_worth.2.1 128 = .ok (.invokevirtual 48, 3) := by decide +kernel
theorem d_Formulas_worth_131 : decode M_Formulas_worth.2.1 131 = .ok (.istore 6, 2) := by decide +kernel
theorem d_Formulas_worth_133 : decode M_Formulas_worth.2.1 133 = .ok (.aload_n 0, 1) := by decide +kernel
theorem d_Formulas_worth_134 : decode M_Formulas_worth.2.1 134 = .ok (.aload 5, 2) := by decide +kernel
theorem d_Formulas_worth_136 : decode M_Formulas_worth.2.1 136 = .ok (.aload_n 0, 1) := by decide +kernel
theorem d_Formulas_worth_137 : decode M_Formulas_worth.2.1 137 = .ok (.invokevirtual 48, 3) := by decide +kernel
theorem d_Formulas_worth_140 : decode M_Formulas_worth.2.1 140 = .ok (.iload 6, 2) := by decide +kernel
theorem d_Formulas_worth_142 : decode M_Formulas_worth.2.1 142 = .ok (.invokestatic 52, 3) := by decide +kernel
theorem d_Formulas_worth_145 : decode M_Formulas_worth.2.1 145 = .ok (.invokevirtual 35, 3) := by decide +kernel
theorem d_Formulas_worth_148 : decode M_Formulas_worth.2.1 148 = .ok (.iinc 4 1, 3) := by decide +kernel
theorem d_Formulas_worth_151 : decode M_Formulas_worth.2.1 151 = .ok (.goto (-143), 3) := by decide +kernel
def l_Formulas_worth_8 (σ : GL) (x1 : Int32) (x2 : Int32) : Nat → Nat → FM → Int32 × FM
  | 0, i, F => (if x2 ≤ (nI i) then ((s_Formulas_pop F).1, (s_Formulas_pop F).2) else ((s_Formulas_pop F).1, (s_Formulas_pop F).2))
  | k + 1, i, F => (if x2 ≤ (nI i) then ((s_Formulas_pop F).1, (s_Formulas_pop F).2) else (if ((fm_sg F) i) = none then (0, F) else (if ((((fm_sg F) i)).getD 0).val = 51 then (l_Formulas_worth_8 σ x1 x2 k (i + 1) (s_Formulas_push F ((fm_op F) i))) else (if (sgk ((((fm_sg F) i)).getD 0).val) = 0 then (l_Formulas_worth_8 σ x1 x2 k (i + 1) (s_Formulas_push F (s_Glacier_valueOf σ ((((fm_sg F) i)).getD 0) ((fm_op F) i)))) else (if (sgk ((((fm_sg F) i)).getD 0).val) = 1 then (l_Formulas_worth_8 σ x1 x2 k (i + 1) (s_Formulas_push (s_Formulas_pop F).2 (1 - (s_Formulas_pop F).1))) else (l_Formulas_worth_8 σ x1 x2 k (i + 1) (s_Formulas_push (s_Formulas_pop (s_Formulas_pop F).2).2 (s_Formulas_joined ((((fm_sg F) i)).getD 0) (s_Formulas_pop (s_Formulas_pop F).2).1 (s_Formulas_pop F).1))))))))
set_option maxRecDepth 100000 in
set_option maxHeartbeats 4000000 in
theorem l_Formulas_worth_8_go {Γ : G9} {sg : Nat → Nat} {sw : Nat} {h : AH} {f g z : Nat} {n : Nat} {σ : GL} {x1 : Int32} {x2 : Int32} (hs : SgOk Γ sg) (hsn : SgNe sg) (hw : SwOk Γ sw) (geo : f + 4 ≤ g ∨ g + 12 ≤ f) (hW : WFG σ) (hn20 : n ≤ 800) : ∀ (k i : Nat) (F : FM), i + k = n → 800 = n → Go Γ M_Formulas_worth 3 0 0 8 [some (.ref f), some (.int x1), some (.int x2), some (.ref g), some (.int (nI i)), none, none] [] (blk (blk h g 12 (glC Γ g σ)) f 4 (fmC Γ sg f F)) z (RQ (some (.int (l_Formulas_worth_8 σ x1 x2 k i F).1)) (blk (blk h g 12 (glC Γ g σ)) f 4 (fmC Γ sg f (l_Formulas_worth_8 σ x1 x2 k i F).2)) z) noX := by
  intro k
  induction k with
  | zero =>
    intro i F hi hn
    unfold l_Formulas_worth_8
    refine Go.iload_4 d_Formulas_worth_8 rfl ?_
    refine Go.if_lt (t := 154) d_Formulas_worth_10 (by decide) rfl (fun c10_1 => ?_) (fun c10_1 => ?_)
    · exact absurd c10_1 (nI_pos (by omega))
    · refine Go.iload_4 d_Formulas_worth_13 rfl ?_
      refine Go.iload_2 d_Formulas_worth_15 rfl ?_
      refine Go.icmp_ge (t := 154) d_Formulas_worth_16 (by decide) rfl (fun c16_2 => ?_) (fun c16_2 => ?_)
      · refine Go.aload_0 d_Formulas_worth_154 rfl ?_
        refine Go.cv0r d_Formulas_worth_155 rfl l_Formulas_48 k_Formulas_pop_v (fm_g0) rfl (c_Formulas_pop) rfl rfl rfl ?_
        rw [if_pos c16_2]
        exact Go.iret d_Formulas_worth_158 rfl rfl ⟨rfl, rfl, rfl⟩
      · refine Go.iload_4 d_Formulas_worth_19 rfl ?_
        refine Go.aload_0 d_Formulas_worth_21 rfl ?_
        refine Go.getfield d_Formulas_worth_22 rfl f_Formulas_13 (fm_g0) (by rfl) ?_
        refine Go.alen (n := (nI 800)) d_Formulas_worth_25 rfl (fm_g1) (by rfl) rfl ?_
        refine Go.icmp_ge (t := 154) d_Formulas_worth_26 (by decide) rfl (fun c26_3 => ?_) (fun c26_3 => ?_)
        · refine Go.aload_0 d_Formulas_worth_154 rfl ?_
          refine Go.cv0r d_Formulas_worth_155 rfl l_Formulas_48 k_Formulas_pop_v (fm_g0) rfl (c_Formulas_pop) rfl rfl rfl ?_
          rw [if_neg c16_2]
          exact Go.iret d_Formulas_worth_158 rfl rfl ⟨rfl, rfl, rfl⟩
        · exact absurd (nI_le (by omega) (by omega)) c26_3
  | succ k ih =>
    intro i F hi hn
    unfold l_Formulas_worth_8
    refine Go.iload_4 d_Formulas_worth_8 rfl ?_
    refine Go.if_lt (t := 154) d_Formulas_worth_10 (by decide) rfl (fun c10_1 => ?_) (fun c10_1 => ?_)
    · exact absurd c10_1 (nI_pos (by omega))
    · refine Go.iload_4 d_Formulas_worth_13 rfl ?_
      refine Go.iload_2 d_Formulas_worth_15 rfl ?_
      refine Go.icmp_ge (t := 154) d_Formulas_worth_16 (by decide) rfl (fun c16_2 => ?_) (fun c16_2 => ?_)
      · refine Go.aload_0 d_Formulas_worth_154 rfl ?_
        refine Go.cv0r d_Formulas_worth_155 rfl l_Formulas_48 k_Formulas_pop_v (fm_g0) rfl (c_Formulas_pop) rfl rfl rfl ?_
        rw [if_pos c16_2]
        exact Go.iret d_Formulas_worth_158 rfl rfl ⟨rfl, rfl, rfl⟩
      · refine Go.iload_4 d_Formulas_worth_19 rfl ?_
        refine Go.aload_0 d_Formulas_worth_21 rfl ?_
        refine Go.getfield d_Formulas_worth_22 rfl f_Formulas_13 (fm_g0) (by rfl) ?_
        refine Go.alen (n := (nI 800)) d_Formulas_worth_25 rfl (fm_g1) (by rfl) rfl ?_
        refine Go.icmp_ge (t := 154) d_Formulas_worth_26 (by decide) rfl (fun c26_3 => ?_) (fun c26_3 => ?_)
        · exact absurd c26_3 (nI_ge (by omega) (by omega))
        · refine Go.iload_4 d_Formulas_worth_29 rfl ?_
          refine Go.aload_0 d_Formulas_worth_31 rfl ?_
          refine Go.getfield d_Formulas_worth_32 rfl f_Formulas_17 (fm_g0) (by rfl) ?_
          refine Go.alen (n := (nI 800)) d_Formulas_worth_35 rfl (fm_g2) (by rfl) rfl ?_
          refine Go.icmp_ge (t := 154) d_Formulas_worth_36 (by decide) rfl (fun c36_4 => ?_) (fun c36_4 => ?_)
          · exact absurd c36_4 (nI_ge (by omega) (by omega))
          · refine Go.aload_0 d_Formulas_worth_39 rfl ?_
            refine Go.getfield d_Formulas_worth_40 rfl f_Formulas_13 (fm_g0) (by rfl) ?_
            refine Go.iload_4 d_Formulas_worth_43 rfl ?_
            refine Go.aaldS d_Formulas_worth_45 rfl (fm_g1) (vp_in_nI (by omega) (by omega)) ?_
            rw [nI_clamp (show i < 2 ^ 31 by omega)]
            by_cases c45_5 : ((fm_sg F) i) = none
            · rw [va_rf_none c45_5]
              refine Go.astoreN_5 d_Formulas_worth_46 rfl (by rfl) ?_
              refine Go.aloadN_5 d_Formulas_worth_48 rfl ?_
              refine Go.ifnonnullN d_Formulas_worth_50 rfl ?_
              refine Go.iconst (v := 0) d_Formulas_worth_53 rfl (by decide) ?_
              rw [if_neg c16_2, if_pos c45_5]
              exact Go.iret d_Formulas_worth_54 rfl rfl ⟨rfl, rfl, rfl⟩
            rw [va_rf_some 0 c45_5]
            refine Go.astore_5 d_Formulas_worth_46 rfl (by rfl) ?_
            refine Go.aload_5 d_Formulas_worth_48 rfl ?_
            refine Go.ifnonnull (t := 55) d_Formulas_worth_50 (by decide) ?_
            refine Go.aload_5 d_Formulas_worth_55 rfl ?_
            refine Go.gets d_Formulas_worth_57 rfl x_Formulas_31 (hs.z (i := 51) rfl) ?_
            refine Go.acmp_ne (t := 77) d_Formulas_worth_60 (by decide) rfl (fun c60_6 => ?_) (fun c60_6 => ?_)
            · have c60_6 : ¬ ((((fm_sg F) i)).getD 0).val = 51 := fun w => c60_6 (by rw [w])
              refine Go.aload_5 d_Formulas_worth_77 rfl ?_
              refine Go.getfSN d_Formulas_worth_79 rfl x_Formulas_39 (hs.takes (((((fm_sg F) i)).getD 0)).isLt) ?_
              refine Go.if_ne (t := 105) d_Formulas_worth_82 (by decide) rfl (fun c82_7 => ?_) (fun c82_7 => ?_)
              · refine Go.aload_5 d_Formulas_worth_105 rfl ?_
                refine Go.getfSN d_Formulas_worth_107 rfl x_Formulas_39 (hs.takes (((((fm_sg F) i)).getD 0)).isLt) ?_
                refine Go.iconst (v := 1) d_Formulas_worth_110 rfl (by decide) ?_
                refine Go.icmp_ne (t := 127) d_Formulas_worth_111 (by decide) rfl (fun c111_8 => ?_) (fun c111_8 => ?_)
                · refine Go.aload_0 d_Formulas_worth_127 rfl ?_
                  refine Go.cv0r d_Formulas_worth_128 rfl l_Formulas_48 k_Formulas_pop_v (fm_g0) rfl (c_Formulas_pop) rfl rfl rfl ?_
                  refine Go.istore_6 d_Formulas_worth_131 rfl (by rfl) ?_
                  refine Go.aload_0 d_Formulas_worth_133 rfl ?_
                  refine Go.aload_5 d_Formulas_worth_134 rfl ?_
                  refine Go.aload_0 d_Formulas_worth_136 rfl ?_
                  refine Go.cv0r d_Formulas_worth_137 rfl l_Formulas_48 k_Formulas_pop_v (fm_g0) rfl (c_Formulas_pop) rfl rfl rfl ?_
                  refine Go.iload_6 d_Formulas_worth_140 rfl ?_
                  refine Go.cs3r d_Formulas_worth_142 rfl l_Formulas_52 k_Formulas_joined_s rfl (c_Formulas_joined hs hw) rfl rfl rfl ?_
                  refine Go.cv1v d_Formulas_worth_145 rfl l_Formulas_35 k_Formulas_push_v (fm_g0) rfl (c_Formulas_push) rfl rfl rfl ?_
                  refine Go.iinc_4 d_Formulas_worth_148 rfl (by rfl) (nI_inc _) ?_
                  refine Go.goto (t := 8) d_Formulas_worth_151 (by decide) ?_
                  rw [if_neg c16_2, if_neg c45_5, if_neg c60_6, if_neg c82_7, if_neg c111_8]
                  refine Go.fgt [some (.ref f), some (.int x1), some (.int x2), some (.ref g), some (.int (nI (i + 1))), none, none] (by repeat' (first | exact trivial | refine ⟨rfl, ?_⟩)) ?_
                  exact ih (i + 1) _ (by omega) (by first | exact hn | (simp only []; exact hn))
                · refine Go.aload_0 d_Formulas_worth_114 rfl ?_
                  refine Go.iconst (v := 1) d_Formulas_worth_115 rfl (by decide) ?_
                  refine Go.aload_0 d_Formulas_worth_116 rfl ?_
                  refine Go.cv0r d_Formulas_worth_117 rfl l_Formulas_48 k_Formulas_pop_v (fm_g0) rfl (c_Formulas_pop) rfl rfl rfl ?_
                  refine Go.isub d_Formulas_worth_120 rfl ?_
                  refine Go.cv1v d_Formulas_worth_121 rfl l_Formulas_35 k_Formulas_push_v (fm_g0) rfl (c_Formulas_push) rfl rfl rfl ?_
                  refine Go.goto (t := 148) d_Formulas_worth_124 (by decide) ?_
                  refine Go.iinc_4 d_Formulas_worth_148 rfl (by rfl) (nI_inc _) ?_
                  refine Go.goto (t := 8) d_Formulas_worth_151 (by decide) ?_
                  rw [if_neg c16_2, if_neg c45_5, if_neg c60_6, if_neg c82_7, if_pos c111_8]
                  refine Go.fgt [some (.ref f), some (.int x1), some (.int x2), some (.ref g), some (.int (nI (i + 1))), none, none] (by repeat' (first | exact trivial | refine ⟨rfl, ?_⟩)) ?_
                  exact ih (i + 1) _ (by omega) (by first | exact hn | (simp only []; exact hn))
              · refine Go.aload_0 d_Formulas_worth_85 rfl ?_
                refine Go.aload_3 d_Formulas_worth_86 rfl ?_
                refine Go.aload_5 d_Formulas_worth_87 rfl ?_
                refine Go.aload_0 d_Formulas_worth_89 rfl ?_
                refine Go.getfield d_Formulas_worth_90 rfl f_Formulas_17 (fm_g0) (by rfl) ?_
                refine Go.iload_4 d_Formulas_worth_93 rfl ?_
                refine Go.iaload d_Formulas_worth_95 rfl (fm_g2) (vp_in_nI (by omega) (by omega)) ?_
                rw [nI_clamp (show i < 2 ^ 31 by omega)]
                refine Go.heq (blk_comm (by omega)) ?_
                refine Go.cv2r d_Formulas_worth_96 rfl l_Formulas_42 k_Glacier_valueOf_v (gl_g0) rfl (c_Glacier_valueOf hs hw hW) rfl rfl rfl ?_
                refine Go.heq (blk_comm (by omega)) ?_
                refine Go.cv1v d_Formulas_worth_99 rfl l_Formulas_35 k_Formulas_push_v (fm_g0) rfl (c_Formulas_push) rfl rfl rfl ?_
                refine Go.goto (t := 148) d_Formulas_worth_102 (by decide) ?_
                refine Go.iinc_4 d_Formulas_worth_148 rfl (by rfl) (nI_inc _) ?_
                refine Go.goto (t := 8) d_Formulas_worth_151 (by decide) ?_
                rw [if_neg c16_2, if_neg c45_5, if_neg c60_6, if_pos c82_7]
                refine Go.fgt [some (.ref f), some (.int x1), some (.int x2), some (.ref g), some (.int (nI (i + 1))), none, none] (by repeat' (first | exact trivial | refine ⟨rfl, ?_⟩)) ?_
                exact ih (i + 1) _ (by omega) (by first | exact hn | (simp only []; exact hn))
            · have c60_6 := hsn _ _ (((((fm_sg F) i)).getD 0)).isLt (by decide) c60_6
              refine Go.aload_0 d_Formulas_worth_63 rfl ?_
              refine Go.aload_0 d_Formulas_worth_64 rfl ?_
              refine Go.getfield d_Formulas_worth_65 rfl f_Formulas_17 (fm_g0) (by rfl) ?_
              refine Go.iload_4 d_Formulas_worth_68 rfl ?_
              refine Go.iaload d_Formulas_worth_70 rfl (fm_g2) (vp_in_nI (by omega) (by omega)) ?_
              rw [nI_clamp (show i < 2 ^ 31 by omega)]
              refine Go.cv1v d_Formulas_worth_71 rfl l_Formulas_35 k_Formulas_push_v (fm_g0) rfl (c_Formulas_push) rfl rfl rfl ?_
              refine Go.goto (t := 148) d_Formulas_worth_74 (by decide) ?_
              refine Go.iinc_4 d_Formulas_worth_148 rfl (by rfl) (nI_inc _) ?_
              refine Go.goto (t := 8) d_Formulas_worth_151 (by decide) ?_
              rw [if_neg c16_2, if_neg c45_5, if_pos c60_6]
              refine Go.fgt [some (.ref f), some (.int x1), some (.int x2), some (.ref g), some (.int (nI (i + 1))), none, none] (by repeat' (first | exact trivial | refine ⟨rfl, ?_⟩)) ?_
              exact ih (i + 1) _ (by omega) (by first | exact hn | (simp only []; exact hn))
theorem d_Formulas_worth_0 : decode M_Formulas_worth.2.1 0 = .ok (.aload_n 0, 1) := by decide +kernel
theorem d_Formulas_worth_1 : decode M_Formulas_worth.2.1 1 = .ok (.iconst 0, 1) := by decide +kernel
theorem d_Formulas_worth_2 : decode M_Formulas_worth.2.1 2 = .ok (.putfield 28, 3) := by decide +kernel
theorem d_Formulas_worth_5 : decode M_Formulas_worth.2.1 5 = .ok (.iload_n 1, 1) := by decide +kernel
theorem d_Formulas_worth_6 : decode M_Formulas_worth.2.1 6 = .ok (.istore 4, 2) := by decide +kernel
def s_Formulas_worth (σ : GL) (F : FM) (x1 : Int32) (x2 : Int32) : Int32 × FM := (if x1 < 0 then ((s_Formulas_pop (fm_top' F 0)).1, (s_Formulas_pop (fm_top' F 0)).2) else if nI 800 ≤ x1 then (if x2 ≤ x1 then ((s_Formulas_pop (fm_top' F 0)).1, (s_Formulas_pop (fm_top' F 0)).2) else ((s_Formulas_pop (fm_top' F 0)).1, (s_Formulas_pop (fm_top' F 0)).2)) else (l_Formulas_worth_8 σ x1 x2 ((800) - x1.toNatClampNeg) x1.toNatClampNeg (fm_top' F 0)))
set_option maxRecDepth 100000 in
set_option maxHeartbeats 4000000 in
theorem c_Formulas_worth {Γ : G9} {sg : Nat → Nat} {sw : Nat} {h : AH} {f g z : Nat} {σ : GL} {F : FM} {x1 : Int32} {x2 : Int32} (hs : SgOk Γ sg) (hsn : SgNe sg) (hw : SwOk Γ sw) (geo : f + 4 ≤ g ∨ g + 12 ≤ f) (hW : WFG σ) : CallR Γ M_Formulas_worth 3 [.ref f, .int x1, .int x2, .ref g] (blk (blk h g 12 (glC Γ g σ)) f 4 (fmC Γ sg f F)) z (some (.int (s_Formulas_worth σ F x1 x2).1)) (blk (blk h g 12 (glC Γ g σ)) f 4 (fmC Γ sg f (s_Formulas_worth σ F x1 x2).2)) := by
  refine Call.of_go (L := [some (.ref f), some (.int x1), some (.int x2), some (.ref g), none, none, none]) (by decide +kernel) rfl (by exact Nat.le_of_ble_eq_true rfl) ?_
  unfold s_Formulas_worth
  refine Go.aload_0 d_Formulas_worth_0 rfl ?_
  refine Go.iconst (v := 0) d_Formulas_worth_1 rfl (by decide) ?_
  refine Go.putfield d_Formulas_worth_2 rfl f_Formulas_28_p (Or.inl (fun C T N h => by cases h; rfl)) (fm_g0) (by exact Nat.le_of_ble_eq_true rfl) rfl rfl ?_
  refine Go.heq (fm_p_top (v := 0)) ?_
  refine Go.iload_1 d_Formulas_worth_5 rfl ?_
  refine Go.istore_4 d_Formulas_worth_6 rfl (by rfl) ?_
  by_cases w1 : x1 < 0
  · refine Go.iload_4 d_Formulas_worth_8 rfl ?_
    refine Go.if_lt (t := 154) d_Formulas_worth_10 (by decide) rfl (fun c10_1 => ?_) (fun c10_1 => ?_)
    · refine Go.aload_0 d_Formulas_worth_154 rfl ?_
      refine Go.cv0r d_Formulas_worth_155 rfl l_Formulas_48 k_Formulas_pop_v (fm_g0) rfl (c_Formulas_pop) rfl rfl rfl ?_
      rw [if_pos w1]
      exact Go.iret d_Formulas_worth_158 rfl rfl ⟨rfl, rfl, rfl⟩
    · exact absurd w1 c10_1
  by_cases w2 : nI 800 ≤ x1
  · refine Go.iload_4 d_Formulas_worth_8 rfl ?_
    refine Go.if_lt (t := 154) d_Formulas_worth_10 (by decide) rfl (fun c10_2 => ?_) (fun c10_2 => ?_)
    · exact absurd c10_2 w1
    · refine Go.iload_4 d_Formulas_worth_13 rfl ?_
      refine Go.iload_2 d_Formulas_worth_15 rfl ?_
      refine Go.icmp_ge (t := 154) d_Formulas_worth_16 (by decide) rfl (fun c16_3 => ?_) (fun c16_3 => ?_)
      · refine Go.aload_0 d_Formulas_worth_154 rfl ?_
        refine Go.cv0r d_Formulas_worth_155 rfl l_Formulas_48 k_Formulas_pop_v (fm_g0) rfl (c_Formulas_pop) rfl rfl rfl ?_
        rw [if_neg w1, if_pos w2, if_pos c16_3]
        exact Go.iret d_Formulas_worth_158 rfl rfl ⟨rfl, rfl, rfl⟩
      · refine Go.iload_4 d_Formulas_worth_19 rfl ?_
        refine Go.aload_0 d_Formulas_worth_21 rfl ?_
        refine Go.getfield d_Formulas_worth_22 rfl f_Formulas_13 (fm_g0) (by rfl) ?_
        refine Go.alen (n := (nI 800)) d_Formulas_worth_25 rfl (fm_g1) (by rfl) rfl ?_
        refine Go.icmp_ge (t := 154) d_Formulas_worth_26 (by decide) rfl (fun c26_4 => ?_) (fun c26_4 => ?_)
        · refine Go.aload_0 d_Formulas_worth_154 rfl ?_
          refine Go.cv0r d_Formulas_worth_155 rfl l_Formulas_48 k_Formulas_pop_v (fm_g0) rfl (c_Formulas_pop) rfl rfl rfl ?_
          rw [if_neg w1, if_pos w2, if_neg c16_3]
          exact Go.iret d_Formulas_worth_158 rfl rfl ⟨rfl, rfl, rfl⟩
        · exact absurd w2 c26_4
  obtain ⟨a0, ha0, rfl⟩ := nI_of w1
  have hb0 : a0 < 800 := Nat.not_le.mp fun q => w2 (nI_le q ha0)
  rw [if_neg w1, if_neg w2]
  rw [nI_clamp ha0]
  exact l_Formulas_worth_8_go (n := (800)) hs hsn hw geo hW (by decide) ((800) - a0) a0 (fm_top' F 0) (by omega) rfl
