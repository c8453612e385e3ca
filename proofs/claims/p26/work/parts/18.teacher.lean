/-! Teacher: errors, names, numbers, orders; its world -/
theorem CallR.conv {Γ : G9} {M : MI} {d : Nat} {avs : List Value} {h h1 h2 h3 : AH} {z : Nat} {V : Option Value} (e1 : h = h1) (e2 : h2 = h3) (c : CallR Γ M d avs h1 z V h2) : CallR Γ M d avs h z V h3 := by
  subst e1
  subst e2
  exact c
abbrev TE : Type := Int32 × Int32
abbrev te_er (S : TE) : Int32 := S.1
abbrev te_er' (S : TE) (v : Int32) : TE := (v, S.2)
abbrev te_ep (S : TE) : Int32 := S.2
abbrev te_ep' (S : TE) (v : Int32) : TE := (S.1, v)
def teC (Γ : G9) (y : Nat) (g : Nat) (o : Nat) (b : Nat) (S : TE) : Nat → Option va_E
  | 0 => some (.inr (6, [.ref y, .ref g, .ref o, .ref (o + 3), .ref (b + 1), .ref (b + 3), .ref (b + 5), .ref (b + 7), .ref (b + 9), .int (te_er S), .int (te_ep S)]))
  | _ => none
theorem te_g0 {Γ : G9} {y : Nat} {g : Nat} {o : Nat} {h : AH} {b : Nat} {S : TE} : blk h b 1 (teC Γ y g o b S) (b) = some (.inr (6, [.ref y, .ref g, .ref o, .ref (o + 3), .ref (b + 1), .ref (b + 3), .ref (b + 5), .ref (b + 7), .ref (b + 9), .int (te_er S), .int (te_ep S)])) := blk_at0 (by decide)
theorem te_p_er {Γ : G9} {y : Nat} {g : Nat} {o : Nat} {h : AH} {b : Nat} {S : TE} {v : Int32} : hup (blk h b 1 (teC Γ y g o b S)) (b) (.inr (6, [.ref y, .ref g, .ref o, .ref (o + 3), .ref (b + 1), .ref (b + 3), .ref (b + 5), .ref (b + 7), .ref (b + 9), .int (te_er S), .int (te_ep S)].set 9 (.int v))) = blk h b 1 (teC Γ y g o b (te_er' S v)) := by
  rw [blk_hup0 (by decide)]
  refine blk_ext fun j hj => ?_
  match j, hj with
  | 0, _ => rfl
  | _ + 1, w => exact absurd w (by omega)
theorem te_p_ep {Γ : G9} {y : Nat} {g : Nat} {o : Nat} {h : AH} {b : Nat} {S : TE} {v : Int32} : hup (blk h b 1 (teC Γ y g o b S)) (b) (.inr (6, [.ref y, .ref g, .ref o, .ref (o + 3), .ref (b + 1), .ref (b + 3), .ref (b + 5), .ref (b + 7), .ref (b + 9), .int (te_er S), .int (te_ep S)].set 10 (.int v))) = blk h b 1 (teC Γ y g o b (te_ep' S v)) := by
  rw [blk_hup0 (by decide)]
  refine blk_ext fun j hj => ?_
  match j, hj with
  | 0, _ => rfl
  | _ + 1, w => exact absurd w (by omega)
theorem d_Teacher_tellError_0 : decode M_Teacher_tellError.2.1 0 = .ok (.aload_n 0, 1) := by decide +kernel
theorem d_Teacher_tellError_1 : decode M_Teacher_tellError.2.1 1 = .ok (.getfield 59, 3) := by decide +kernel
theorem d_Teacher_tellError_4 : decode M_Teacher_tellError.2.1 4 = .ok (.ifCond .ne 19, 3) := by decide +kernel
theorem d_Teacher_tellError_7 : decode M_Teacher_tellError.2.1 7 = .ok (.aload_n 0, 1) := by decide +kernel
theorem d_Teacher_tellError_8 : decode M_Teacher_tellError.2.1 8 = .ok (.iload_n 1, 1) := by decide +kernel
theorem d_Teacher_tellError_9 : decode M_Teacher_tellError.2.1 9 = .ok (.putfield 59, 3) := by decide +kernel
theorem d_Teacher_tellError_12 : decode M_Teacher_tellError.2.1 12 = .ok (.aload_n 0, 1) := by decide +kernel
theorem d_Teacher_tellError_13 : decode M_Teacher_tellError.2.1 13 = .ok (.aload_n 0, 1) := by decide +kernel
theorem d_Teacher_tellError_14 : decode M_Teacher_tellError.2.1 14 = .ok (.getfield 34, 3) := by decide +kernel
theorem d_Teacher_tellError_17 : decode M_Teacher_tellError.2.1 17 = .ok (.invokevirtual 356, 3) := by decide +kernel
theorem d_Teacher_tellError_20 : decode M_Teacher_tellError.2.1 20 = .ok (.putfield 30, 3) := by decide +kernel
theorem d_Teacher_tellError_23 : decode M_Teacher_tellError.2.1 23 = .ok (.return_, 1) := by decide +kernel
def s_Teacher_tellError (K : TK) (E : TE) (x1 : Int32) : TE := (if (te_er E) = 0 then (te_ep' (te_er' E x1) (s_Tokens_start K)) else E)
set_option maxRecDepth 100000 in
set_option maxHeartbeats 4000000 in
theorem c_Teacher_tellError {Γ : G9} {sg : Nat → Nat} {h : AH} {y g o u z : Nat} {K : TK} {E : TE} {x1 : Int32} (geo : y + 4 ≤ u) : CallR Γ M_Teacher_tellError 1 [.ref u, .int x1] (blk (blk h y 4 (tkC Γ sg y K)) u 1 (teC Γ y g o u E)) z none (blk (blk h y 4 (tkC Γ sg y K)) u 1 (teC Γ y g o u (s_Teacher_tellError K E x1))) := by
  refine Call.of_go (L := [some (.ref u), some (.int x1)]) (by decide +kernel) rfl (by exact Nat.le_of_ble_eq_true rfl) ?_
  unfold s_Teacher_tellError
  refine Go.aload_0 d_Teacher_tellError_0 rfl ?_
  refine Go.getfield d_Teacher_tellError_1 rfl f_Teacher_59 (te_g0) (by rfl) ?_
  refine Go.if_ne (t := 23) d_Teacher_tellError_4 (by decide) rfl (fun c4_1 => ?_) (fun c4_1 => ?_)
  · rw [if_neg c4_1]
    exact Go.vret d_Teacher_tellError_23 rfl ⟨rfl, rfl, rfl⟩
  · refine Go.aload_0 d_Teacher_tellError_7 rfl ?_
    refine Go.iload_1 d_Teacher_tellError_8 rfl ?_
    refine Go.putfield d_Teacher_tellError_9 rfl f_Teacher_59_p (Or.inl (fun C T N h => by cases h; rfl)) (te_g0) (by exact Nat.le_of_ble_eq_true rfl) rfl rfl ?_
    refine Go.heq (te_p_er (v := x1)) ?_
    refine Go.aload_0 d_Teacher_tellError_12 rfl ?_
    refine Go.aload_0 d_Teacher_tellError_13 rfl ?_
    refine Go.getfield d_Teacher_tellError_14 rfl f_Teacher_34 (te_g0) (by rfl) ?_
    refine Go.heq (blk_comm (by omega)) ?_
    refine Go.cv0r d_Teacher_tellError_17 rfl l_Teacher_356 k_Tokens_start_v (tk_g0) rfl (c_Tokens_start) rfl rfl rfl ?_
    refine Go.heq (blk_comm (by omega)) ?_
    refine Go.putfield d_Teacher_tellError_20 rfl f_Teacher_30_p (Or.inl (fun C T N h => by cases h; rfl)) (te_g0) (by exact Nat.le_of_ble_eq_true rfl) rfl rfl ?_
    refine Go.heq (te_p_ep (v := (s_Tokens_start K))) ?_
    rw [if_pos c4_1]
    exact Go.vret d_Teacher_tellError_23 rfl ⟨rfl, rfl, rfl⟩
theorem d_Teacher_goesDeeper_0 : decode M_Teacher_goesDeeper.2.1 0 = .ok (.iload_n 1, 1) := by decide +kernel
theorem d_Teacher_goesDeeper_1 : decode M_Teacher_goesDeeper.2.1 1 = .ok (.bipush 8, 2) := by decide +kernel
theorem d_Teacher_goesDeeper_3 : decode M_Teacher_goesDeeper.2.1 3 = .ok (.if_icmp .lt 12, 3) := by decide +kernel
theorem d_Teacher_goesDeeper_6 : decode M_Teacher_goesDeeper.2.1 6 = .ok (.aload_n 0, 1) := by decide +kernel
theorem d_Teacher_goesDeeper_7 : decode M_Teacher_goesDeeper.2.1 7 = .ok (.getfield 34, 3) := by decide +kernel
theorem d_Teacher_goesDeeper_10 : decode M_Teacher_goesDeeper.2.1 10 = .ok (.invokevirtual 118, 3) := by decide +kernel
theorem d_Teacher_goesDeeper_13 : decode M_Teacher_goesDeeper.2.1 13 = .ok (.iconst 0, 1) := by decide +kernel
theorem d_Teacher_goesDeeper_14 : decode M_Teacher_goesDeeper.2.1 14 = .ok (.ireturn, 1) := by decide +kernel
theorem d_Teacher_goesDeeper_15 : decode M_Teacher_goesDeeper.2.1 15 = .ok (.aload_n 0, 1) := by decide +kernel
theorem d_Teacher_goesDeeper_16 : decode M_Teacher_goesDeeper.2.1 16 = .ok (.getfield 34, 3) := by decide +kernel
theorem d_Teacher_goesDeeper_19 : decode M_Teacher_goesDeeper.2.1 19 = .ok (.invokevirtual 242, 3) := by decide +kernel
theorem d_Teacher_goesDeeper_22 : decode M_Teacher_goesDeeper.2.1 22 = .ok (.iconst 1, 1) := by decide +kernel
theorem d_Teacher_goesDeeper_23 : decode M_Teacher_goesDeeper.2.1 23 = .ok (.ireturn, 1) := by decide +kernel
def s_Teacher_goesDeeper (K : TK) (E : TE) (x1 : Nat) : Int32 × TK := (if (nI x1) < 8 then (1, (s_Tokens_advance K)) else (0, (s_Tokens_breakOff K)))
set_option maxRecDepth 100000 in
set_option maxHeartbeats 4000000 in
theorem c_Teacher_goesDeeper {Γ : G9} {sg : Nat → Nat} {h : AH} {y g o u z : Nat} {K : TK} {E : TE} {x1 : Nat} {vx1 : Int32} (ex1 : vx1 = nI x1) (bx1 : x1 ≤ 8) (hs : SgOk Γ sg) (geo : y + 4 ≤ u) : CallR Γ M_Teacher_goesDeeper 1 [.ref u, .int vx1] (blk (blk h y 4 (tkC Γ sg y K)) u 1 (teC Γ y g o u E)) z (some (.int (s_Teacher_goesDeeper K E x1).1)) (blk (blk h y 4 (tkC Γ sg y (s_Teacher_goesDeeper K E x1).2)) u 1 (teC Γ y g o u E)) := by
  subst ex1
  refine Call.of_go (L := [some (.ref u), some (.int (nI x1))]) (by decide +kernel) rfl (by exact Nat.le_of_ble_eq_true rfl) ?_
  unfold s_Teacher_goesDeeper
  refine Go.iload_1 d_Teacher_goesDeeper_0 rfl ?_
  refine Go.bipush (v := 8) d_Teacher_goesDeeper_1 rfl (by decide) ?_
  refine Go.icmp_lt (t := 15) d_Teacher_goesDeeper_3 (by decide) rfl (fun c3_1 => ?_) (fun c3_1 => ?_)
  · refine Go.aload_0 d_Teacher_goesDeeper_15 rfl ?_
    refine Go.getfield d_Teacher_goesDeeper_16 rfl f_Teacher_34 (te_g0) (by rfl) ?_
    refine Go.heq (blk_comm (by omega)) ?_
    refine Go.cv0v d_Teacher_goesDeeper_19 rfl l_Teacher_242 k_Tokens_advance_v (tk_g0) rfl (c_Tokens_advance hs) rfl rfl rfl ?_
    refine Go.heq (blk_comm (by omega)) ?_
    refine Go.iconst (v := 1) d_Teacher_goesDeeper_22 rfl (by decide) ?_
    rw [if_pos c3_1]
    exact Go.iret d_Teacher_goesDeeper_23 rfl rfl ⟨rfl, rfl, rfl⟩
  · refine Go.aload_0 d_Teacher_goesDeeper_6 rfl ?_
    refine Go.getfield d_Teacher_goesDeeper_7 rfl f_Teacher_34 (te_g0) (by rfl) ?_
    refine Go.heq (blk_comm (by omega)) ?_
    refine Go.cv0v d_Teacher_goesDeeper_10 rfl l_Teacher_118 k_Tokens_breakOff_v (tk_g0) rfl (c_Tokens_breakOff hs) rfl rfl rfl ?_
    refine Go.heq (blk_comm (by omega)) ?_
    refine Go.iconst (v := 0) d_Teacher_goesDeeper_13 rfl (by decide) ?_
    rw [if_neg c3_1]
    exact Go.iret d_Teacher_goesDeeper_14 rfl rfl ⟨rfl, rfl, rfl⟩
set_option maxRecDepth 100000 in
set_option maxHeartbeats 4000000 in
theorem s_Teacher_goesDeeper_01 (K : TK) (E : TE) (x1 : Nat) : (s_Teacher_goesDeeper K E x1).1 = 0 ∨ (s_Teacher_goesDeeper K E x1).1 = 1 := by
  unfold s_Teacher_goesDeeper
  (repeat' split) <;> first | exact Or.inl rfl | exact Or.inr rfl
theorem d_Teacher_number_0 : decode M_Teacher_number.2.1 0 = .ok (.aload_n 0, 1) := by decide +kernel
theorem d_Teacher_number_1 : decode M_Teacher_number.2.1 1 = .ok (.getfield 34, 3) := by decide +kernel
theorem d_Teacher_number_4 : decode M_Teacher_number.2.1 4 = .ok (.aload_n 1, 1) := by decide +kernel
theorem d_Teacher_number_5 : decode M_Teacher_number.2.1 5 = .ok (.invokevirtual 124, 3) := by decide +kernel
theorem d_Teacher_number_8 : decode M_Teacher_number.2.1 8 = .ok (.aload_n 0, 1) := by decide +kernel
theorem d_Teacher_number_9 : decode M_Teacher_number.2.1 9 = .ok (.getfield 34, 3) := by decide +kernel
theorem d_Teacher_number_12 : decode M_Teacher_number.2.1 12 = .ok (.invokevirtual 62, 3) := by decide +kernel
theorem d_Teacher_number_15 : decode M_Teacher_number.2.1 15 = .ok (.getstatic 321, 3) := by decide +kernel
theorem d_Teacher_number_18 : decode M_Teacher_number.2.1 18 = .ok (.if_acmp .eq 12, 3) := by decide +kernel
theorem d_Teacher_number_21 : decode M_Teacher_number.2.1 21 = .ok (.aload_n 0, 1) := by decide +kernel
theorem d_Teacher_number_22 : decode M_Teacher_number.2.1 22 = .ok (.getfield 34, 3) := by decide +kernel
theorem d_Teacher_number_25 : decode M_Teacher_number.2.1 25 = .ok (.invokevirtual 118, 3) := by decide +kernel
theorem d_Teacher_number_28 : decode M_Teacher_number.2.1 28 = .ok (.iload_n 2, 1) := by decide +kernel
theorem d_Teacher_number_29 : decode M_Teacher_number.2.1 29 = .ok (.ireturn, 1) := by decide +kernel
theorem d_Teacher_number_30 : decode M_Teacher_number.2.1 30 = .ok (.aload_n 0, 1) := by decide +kernel
theorem d_Teacher_number_31 : decode M_Teacher_number.2.1 31 = .ok (.getfield 34, 3) := by decide +kernel
theorem d_Teacher_number_34 : decode M_Teacher_number.2.1 34 = .ok (.invokevirtual 314, 3) := by decide +kernel
theorem d_Teacher_number_37 : decode M_Teacher_number.2.1 37 = .ok (.l2i, 1) := by decide +kernel
theorem d_Teacher_number_38 : decode M_Teacher_number.2.1 38 = .ok (.istore 4, 2) := by decide +kernel
theorem d_Teacher_number_40 : decode M_Teacher_number.2.1 40 = .ok (.iload 4, 2) := by decide +kernel
theorem d_Teacher_number_42 : decode M_Teacher_number.2.1 42 = .ok (.iload_n 2, 1) := by decide +kernel
theorem d_Teacher_number_43 : decode M_Teacher_number.2.1 43 = .ok (.if_icmp .lt 9, 3) := by decide +kernel
theorem d_Teacher_number_46 : decode M_Teacher_number.2.1 46 = .ok (.iload 4, 2) := by decide +kernel
theorem d_Teacher_number_48 : decode M_Teacher_number.2.1 48 = .ok (.iload_n 3, 1) := by decide +kernel
theorem d_Teacher_number_49 : decode M_Teacher_number.2.1 49 = .ok (.if_icmp .le 8, 3) := by decide +kernel
theorem d_Teacher_number_52 : decode M_Teacher_number.2.1 52 = .ok (.aload_n 0, 1) := by decide +kernel
theorem d_Teacher_number_53 : decode M_Teacher_number.2.1 53 = .ok (.iconst 5, 1) := by decide +kernel
theorem d_Teacher_number_54 : decode M_Teacher_number.2.1 54 = .ok (.invokevirtual 346, 3) := by decide +kernel
theorem d_Teacher_number_57 : decode M_Teacher_number.2.1 57 = .ok (.aload_n 0, 1) := by decide +kernel
theorem d_Teacher_number_58 : decode M_Teacher_number.2.1 58 = .ok (.getfield 34, 3) := by decide +kernel
theorem d_Teacher_number_61 : decode M_Teacher_number.2.1 61 = .ok (.invokevirtual 242, 3) := by decide +kernel
theorem d_Teacher_number_64 : decode M_Teacher_number.2.1 64 = .ok (.iload 4, 2) := by decide +kernel
theorem d_Teacher_number_66 : decode M_Teacher_number.2.1 66 = .ok (.ireturn, 1) := by decide +kernel
def s_Teacher_number (K : TK) (E : TE) (x1 : Fin 54) (x2 : Int32) (x3 : Int32) : Int32 × TK × TE := (if (s_Tokens_sign (s_Tokens_expect K x1)).val = 51 then (if (s_Tokens_worth (s_Tokens_expect K x1)).toInt32 < x2 then ((s_Tokens_worth (s_Tokens_expect K x1)).toInt32, (s_Tokens_advance (s_Tokens_expect K x1)), (s_Teacher_tellError (s_Tokens_expect K x1) E 5)) else (if (s_Tokens_worth (s_Tokens_expect K x1)).toInt32 ≤ x3 then ((s_Tokens_worth (s_Tokens_expect K x1)).toInt32, (s_Tokens_advance (s_Tokens_expect K x1)), E) else ((s_Tokens_worth (s_Tokens_expect K x1)).toInt32, (s_Tokens_advance (s_Tokens_expect K x1)), (s_Teacher_tellError (s_Tokens_expect K x1) E 5)))) else (x2, (s_Tokens_breakOff (s_Tokens_expect K x1)), E))
set_option maxRecDepth 100000 in
set_option maxHeartbeats 4000000 in
theorem c_Teacher_number {Γ : G9} {sg : Nat → Nat} {h : AH} {y g o u z : Nat} {K : TK} {E : TE} {x1 : Fin 54} {x2 : Int32} {x3 : Int32} (hs : SgOk Γ sg) (hsn : SgNe sg) (geo : y + 4 ≤ u) : CallR Γ M_Teacher_number 2 [.ref u, .ref (sg x1.val), .int x2, .int x3] (blk (blk h y 4 (tkC Γ sg y K)) u 1 (teC Γ y g o u E)) z (some (.int (s_Teacher_number K E x1 x2 x3).1)) (blk (blk h y 4 (tkC Γ sg y (s_Teacher_number K E x1 x2 x3).2.1)) u 1 (teC Γ y g o u (s_Teacher_number K E x1 x2 x3).2.2)) := by
  refine Call.of_go (L := [some (.ref u), some (.ref (sg x1.val)), some (.int x2), some (.int x3), none]) (by decide +kernel) rfl (by exact Nat.le_of_ble_eq_true rfl) ?_
  unfold s_Teacher_number
  refine Go.aload_0 d_Teacher_number_0 rfl ?_
  refine Go.getfield d_Teacher_number_1 rfl f_Teacher_34 (te_g0) (by rfl) ?_
  refine Go.aload_1 d_Teacher_number_4 rfl ?_
  refine Go.heq (blk_comm (by omega)) ?_
  refine Go.cv1v d_Teacher_number_5 rfl l_Teacher_124 k_Tokens_expect_v (tk_g0) rfl (c_Tokens_expect (x1 := x1) hs hsn) rfl rfl rfl ?_
  refine Go.heq (blk_comm (by omega)) ?_
  refine Go.aload_0 d_Teacher_number_8 rfl ?_
  refine Go.getfield d_Teacher_number_9 rfl f_Teacher_34 (te_g0) (by rfl) ?_
  refine Go.heq (blk_comm (by omega)) ?_
  refine Go.cv0r d_Teacher_number_12 rfl l_Teacher_62 k_Tokens_sign_v (tk_g0) rfl (c_Tokens_sign) rfl rfl rfl ?_
  refine Go.heq (blk_comm (by omega)) ?_
  refine Go.gets d_Teacher_number_15 rfl x_Teacher_321 (hs.z (i := 51) rfl) ?_
  refine Go.acmp_eq (t := 30) d_Teacher_number_18 (by decide) rfl (fun c18_1 => ?_) (fun c18_1 => ?_)
  · have c18_1 := hsn _ _ ((s_Tokens_sign (s_Tokens_expect K x1))).isLt (by decide) c18_1
    refine Go.aload_0 d_Teacher_number_30 rfl ?_
    refine Go.getfield d_Teacher_number_31 rfl f_Teacher_34 (te_g0) (by rfl) ?_
    refine Go.heq (blk_comm (by omega)) ?_
    refine Go.cv0r d_Teacher_number_34 rfl l_Teacher_314 k_Tokens_worth_v (tk_g0) rfl (c_Tokens_worth) rfl rfl rfl ?_
    refine Go.heq (blk_comm (by omega)) ?_
    refine Go.l2i d_Teacher_number_37 rfl ?_
    refine Go.istore_4 d_Teacher_number_38 rfl (by rfl) ?_
    refine Go.iload_4 d_Teacher_number_40 rfl ?_
    refine Go.iload_2 d_Teacher_number_42 rfl ?_
    refine Go.icmp_lt (t := 52) d_Teacher_number_43 (by decide) rfl (fun c43_2 => ?_) (fun c43_2 => ?_)
    · refine Go.aload_0 d_Teacher_number_52 rfl ?_
      refine Go.iconst (v := 5) d_Teacher_number_53 rfl (by decide) ?_
      refine Go.cv1v d_Teacher_number_54 rfl l_Teacher_346 k_Teacher_tellError_v (te_g0) rfl (c_Teacher_tellError (by omega)) rfl rfl rfl ?_
      refine Go.aload_0 d_Teacher_number_57 rfl ?_
      refine Go.getfield d_Teacher_number_58 rfl f_Teacher_34 (te_g0) (by rfl) ?_
      refine Go.heq (blk_comm (by omega)) ?_
      refine Go.cv0v d_Teacher_number_61 rfl l_Teacher_242 k_Tokens_advance_v (tk_g0) rfl (c_Tokens_advance hs) rfl rfl rfl ?_
      refine Go.heq (blk_comm (by omega)) ?_
      refine Go.iload_4 d_Teacher_number_64 rfl ?_
      rw [if_pos c18_1, if_pos c43_2]
      exact Go.iret d_Teacher_number_66 rfl rfl ⟨rfl, rfl, rfl⟩
    · refine Go.iload_4 d_Teacher_number_46 rfl ?_
      refine Go.iload_3 d_Teacher_number_48 rfl ?_
      refine Go.icmp_le (t := 57) d_Teacher_number_49 (by decide) rfl (fun c49_3 => ?_) (fun c49_3 => ?_)
      · refine Go.aload_0 d_Teacher_number_57 rfl ?_
        refine Go.getfield d_Teacher_number_58 rfl f_Teacher_34 (te_g0) (by rfl) ?_
        refine Go.heq (blk_comm (by omega)) ?_
        refine Go.cv0v d_Teacher_number_61 rfl l_Teacher_242 k_Tokens_advance_v (tk_g0) rfl (c_Tokens_advance hs) rfl rfl rfl ?_
        refine Go.heq (blk_comm (by omega)) ?_
        refine Go.iload_4 d_Teacher_number_64 rfl ?_
        rw [if_pos c18_1, if_neg c43_2, if_pos c49_3]
        exact Go.iret d_Teacher_number_66 rfl rfl ⟨rfl, rfl, rfl⟩
      · refine Go.aload_0 d_Teacher_number_52 rfl ?_
        refine Go.iconst (v := 5) d_Teacher_number_53 rfl (by decide) ?_
        refine Go.cv1v d_Teacher_number_54 rfl l_Teacher_346 k_Teacher_tellError_v (te_g0) rfl (c_Teacher_tellError (by omega)) rfl rfl rfl ?_
        refine Go.aload_0 d_Teacher_number_57 rfl ?_
        refine Go.getfield d_Teacher_number_58 rfl f_Teacher_34 (te_g0) (by rfl) ?_
        refine Go.heq (blk_comm (by omega)) ?_
        refine Go.cv0v d_Teacher_number_61 rfl l_Teacher_242 k_Tokens_advance_v (tk_g0) rfl (c_Tokens_advance hs) rfl rfl rfl ?_
        refine Go.heq (blk_comm (by omega)) ?_
        refine Go.iload_4 d_Teacher_number_64 rfl ?_
        rw [if_pos c18_1, if_neg c43_2, if_neg c49_3]
        exact Go.iret d_Teacher_number_66 rfl rfl ⟨rfl, rfl, rfl⟩
  · have c18_1 : ¬ (s_Tokens_sign (s_Tokens_expect K x1)).val = 51 := fun w => c18_1 (by rw [w])
    refine Go.aload_0 d_Teacher_number_21 rfl ?_
    refine Go.getfield d_Teacher_number_22 rfl f_Teacher_34 (te_g0) (by rfl) ?_
    refine Go.heq (blk_comm (by omega)) ?_
    refine Go.cv0v d_Teacher_number_25 rfl l_Teacher_118 k_Tokens_breakOff_v (tk_g0) rfl (c_Tokens_breakOff hs) rfl rfl rfl ?_
    refine Go.heq (blk_comm (by omega)) ?_
    refine Go.iload_2 d_Teacher_number_28 rfl ?_
    rw [if_neg c18_1]
    exact Go.iret d_Teacher_number_29 rfl rfl ⟨rfl, rfl, rfl⟩
theorem d_Teacher_error_0 : decode M_Teacher_error.2.1 0 = .ok (.aload_n 0, 1) := by decide +kernel
theorem d_Teacher_error_1 : decode M_Teacher_error.2.1 1 = .ok (.getfield 34, 3) := by decide +kernel
theorem d_Teacher_error_4 : decode M_Teacher_error.2.1 4 = .ok (.invokevirtual 53, 3) := by decide +kernel
theorem d_Teacher_error_7 : decode M_Teacher_error.2.1 7 = .ok (.ifCond .lt 7, 3) := by decide +kernel
theorem d_Teacher_error_10 : decode M_Teacher_error.2.1 10 = .ok (.iconst 1, 1) := by decide +kernel
theorem d_Teacher_error_11 : decode M_Teacher_error.2.1 11 = .ok (.goto 7, 3) := by decide +kernel
theorem d_Teacher_error_14 : decode M_Teacher_error.2.1 14 = .ok (.aload_n 0, 1) := by decide +kernel
theorem d_Teacher_error_15 : decode M_Teacher_error.2.1 15 = .ok (.getfield 59, 3) := by decide +kernel
theorem d_Teacher_error_18 : decode M_Teacher_error.2.1 18 = .ok (.ireturn, 1) := by decide +kernel
def s_Teacher_error (K : TK) (E : TE) : Int32 := (if (s_Tokens_brokenAt K) < 0 then (te_er E) else 1)
set_option maxRecDepth 100000 in
set_option maxHeartbeats 4000000 in
theorem c_Teacher_error {Γ : G9} {sg : Nat → Nat} {h : AH} {y g o u z : Nat} {K : TK} {E : TE} (geo : y + 4 ≤ u) : CallR Γ M_Teacher_error 1 [.ref u] (blk (blk h y 4 (tkC Γ sg y K)) u 1 (teC Γ y g o u E)) z (some (.int (s_Teacher_error K E))) (blk (blk h y 4 (tkC Γ sg y K)) u 1 (teC Γ y g o u E)) := by
  refine Call.of_go (L := [some (.ref u)]) (by decide +kernel) rfl (by exact Nat.le_of_ble_eq_true rfl) ?_
  unfold s_Teacher_error
  refine Go.aload_0 d_Teacher_error_0 rfl ?_
  refine Go.getfield d_Teacher_error_1 rfl f_Teacher_34 (te_g0) (by rfl) ?_
  refine Go.heq (blk_comm (by omega)) ?_
  refine Go.cv0r d_Teacher_error_4 rfl l_Teacher_53 k_Tokens_brokenAt_v (tk_g0) rfl (c_Tokens_brokenAt) rfl rfl rfl ?_
  refine Go.heq (blk_comm (by omega)) ?_
  refine Go.if_lt (t := 14) d_Teacher_error_7 (by decide) rfl (fun c7_1 => ?_) (fun c7_1 => ?_)
  · refine Go.aload_0 d_Teacher_error_14 rfl ?_
    refine Go.getfield d_Teacher_error_15 rfl f_Teacher_59 (te_g0) (by rfl) ?_
    rw [if_pos c7_1]
    exact Go.iret d_Teacher_error_18 rfl rfl ⟨rfl, rfl, rfl⟩
  · refine Go.iconst (v := 1) d_Teacher_error_10 rfl (by decide) ?_
    refine Go.goto (t := 18) d_Teacher_error_11 (by decide) ?_
    rw [if_neg c7_1]
    exact Go.iret d_Teacher_error_18 rfl rfl ⟨rfl, rfl, rfl⟩
theorem d_Teacher_errorPosition_0 : decode M_Teacher_errorPosition.2.1 0 = .ok (.aload_n 0, 1) := by decide +kernel
theorem d_Teacher_errorPosition_1 : decode M_Teacher_errorPosition.2.1 1 = .ok (.getfield 34, 3) := by decide +kernel
theorem d_Teacher_errorPosition_4 : decode M_Teacher_errorPosition.2.1 4 = .ok (.invokevirtual 53, 3) := by decide +kernel
theorem d_Teacher_errorPosition_7 : decode M_Teacher_errorPosition.2.1 7 = .ok (.ifCond .lt 13, 3) := by decide +kernel
theorem d_Teacher_errorPosition_10 : decode M_Teacher_errorPosition.2.1 10 = .ok (.aload_n 0, 1) := by decide +kernel
theorem d_Teacher_errorPosition_11 : decode M_Teacher_errorPosition.2.1 11 = .ok (.getfield 34, 3) := by decide +kernel
theorem d_Teacher_errorPosition_14 : decode M_Teacher_errorPosition.2.1 14 = .ok (.invokevirtual 53, 3) := by decide +kernel
theorem d_Teacher_errorPosition_17 : decode M_Teacher_errorPosition.2.1 17 = .ok (.goto 7, 3) := by decide +kernel
theorem d_Teacher_errorPosition_20 : decode M_Teacher_errorPosition.2.1 20 = .ok (.aload_n 0, 1) := by decide +kernel
theorem d_Teacher_errorPosition_21 : decode M_Teacher_errorPosition.2.1 21 = .ok (.getfield 30, 3) := by decide +kernel
theorem d_Teacher_errorPosition_24 : decode M_Teacher_errorPosition.2.1 24 = .ok (.ireturn, 1) := by decide +kernel
def s_Teacher_errorPosition (K : TK) (E : TE) : Int32 := (if (s_Tokens_brokenAt K) < 0 then (te_ep E) else (s_Tokens_brokenAt K))
set_option maxRecDepth 100000 in
set_option maxHeartbeats 4000000 in
theorem c_Teacher_errorPosition {Γ : G9} {sg : Nat → Nat} {h : AH} {y g o u z : Nat} {K : TK} {E : TE} (geo : y + 4 ≤ u) : CallR Γ M_Teacher_errorPosition 1 [.ref u] (blk (blk h y 4 (tkC Γ sg y K)) u 1 (teC Γ y g o u E)) z (some (.int (s_Teacher_errorPosition K E))) (blk (blk h y 4 (tkC Γ sg y K)) u 1 (teC Γ y g o u E)) := by
  refine Call.of_go (L := [some (.ref u)]) (by decide +kernel) rfl (by exact Nat.le_of_ble_eq_true rfl) ?_
  unfold s_Teacher_errorPosition
  refine Go.aload_0 d_Teacher_errorPosition_0 rfl ?_
  refine Go.getfield d_Teacher_errorPosition_1 rfl f_Teacher_34 (te_g0) (by rfl) ?_
  refine Go.heq (blk_comm (by omega)) ?_
  refine Go.cv0r d_Teacher_errorPosition_4 rfl l_Teacher_53 k_Tokens_brokenAt_v (tk_g0) rfl (c_Tokens_brokenAt) rfl rfl rfl ?_
  refine Go.heq (blk_comm (by omega)) ?_
  refine Go.if_lt (t := 20) d_Teacher_errorPosition_7 (by decide) rfl (fun c7_1 => ?_) (fun c7_1 => ?_)
  · refine Go.aload_0 d_Teacher_errorPosition_20 rfl ?_
    refine Go.getfield d_Teacher_errorPosition_21 rfl f_Teacher_30 (te_g0) (by rfl) ?_
    rw [if_pos c7_1]
    exact Go.iret d_Teacher_errorPosition_24 rfl rfl ⟨rfl, rfl, rfl⟩
  · refine Go.aload_0 d_Teacher_errorPosition_10 rfl ?_
    refine Go.getfield d_Teacher_errorPosition_11 rfl f_Teacher_34 (te_g0) (by rfl) ?_
    refine Go.heq (blk_comm (by omega)) ?_
    refine Go.cv0r d_Teacher_errorPosition_14 rfl l_Teacher_53 k_Tokens_brokenAt_v (tk_g0) rfl (c_Tokens_brokenAt) rfl rfl rfl ?_
    refine Go.heq (blk_comm (by omega)) ?_
    refine Go.goto (t := 24) d_Teacher_errorPosition_17 (by decide) ?_
    rw [if_neg c7_1]
    exact Go.iret d_Teacher_errorPosition_24 rfl rfl ⟨rfl, rfl, rfl⟩
theorem gd_lt {K : TK} {E : TE} {x : Nat} (hx : x ≤ 8) (h : ¬ (s_Teacher_goesDeeper K E x).1 = 0) : x < 8 := by
  unfold s_Teacher_goesDeeper at h
  split at h
  · rename_i c
    exact (nI_ltI (b := 8) (by omega) (by omega)).mp c
  · exact absurd rfl h
theorem d_Teacher_newName_0 : decode M_Teacher_newName.2.1 0 = .ok (.aload_n 0, 1) := by decide +kernel
theorem d_Teacher_newName_1 : decode M_Teacher_newName.2.1 1 = .ok (.getfield 34, 3) := by decide +kernel
theorem d_Teacher_newName_4 : decode M_Teacher_newName.2.1 4 = .ok (.invokevirtual 242, 3) := by decide +kernel
theorem d_Teacher_newName_7 : decode M_Teacher_newName.2.1 7 = .ok (.aload_n 0, 1) := by decide +kernel
theorem d_Teacher_newName_8 : decode M_Teacher_newName.2.1 8 = .ok (.getfield 34, 3) := by decide +kernel
theorem d_Teacher_newName_11 : decode M_Teacher_newName.2.1 11 = .ok (.invokevirtual 62, 3) := by decide +kernel
theorem d_Teacher_newName_14 : decode M_Teacher_newName.2.1 14 = .ok (.getstatic 339, 3) := by decide +kernel
theorem d_Teacher_newName_17 : decode M_Teacher_newName.2.1 17 = .ok (.if_acmp .eq 11, 3) := by decide +kernel
theorem d_Teacher_newName_20 : decode M_Teacher_newName.2.1 20 = .ok (.aload_n 0, 1) := by decide +kernel
theorem d_Teacher_newName_21 : decode M_Teacher_newName.2.1 21 = .ok (.getfield 34, 3) := by decide +kernel
theorem d_Teacher_newName_24 : decode M_Teacher_newName.2.1 24 = .ok (.invokevirtual 118, 3) := by decide +kernel
theorem d_Teacher_newName_27 : decode M_Teacher_newName.2.1 27 = .ok (.return_, 1) := by decide +kernel
theorem d_Teacher_newName_28 : decode M_Teacher_newName.2.1 28 = .ok (.aload_n 1, 1) := by decide +kernel
theorem d_Teacher_newName_29 : decode M_Teacher_newName.2.1 29 = .ok (.aload_n 0, 1) := by decide +kernel
theorem d_Teacher_newName_30 : decode M_Teacher_newName.2.1 30 = .ok (.getfield 34, 3) := by decide +kernel
theorem d_Teacher_newName_33 : decode M_Teacher_newName.2.1 33 = .ok (.invokevirtual 314, 3) := by decide +kernel
theorem d_Teacher_newName_36 : decode M_Teacher_newName.2.1 36 = .ok (.invokevirtual 342, 3) := by decide +kernel
theorem d_Teacher_newName_39 : decode M_Teacher_newName.2.1 39 = .ok (.ifCond .lt 11, 3) := by decide +kernel
theorem d_Teacher_newName_42 : decode M_Teacher_newName.2.1 42 = .ok (.aload_n 0, 1) := by decide +kernel
theorem d_Teacher_newName_43 : decode M_Teacher_newName.2.1 43 = .ok (.iconst 2, 1) := by decide +kernel
theorem d_Teacher_newName_44 : decode M_Teacher_newName.2.1 44 = .ok (.invokevirtual 346, 3) := by decide +kernel
theorem d_Teacher_newName_47 : decode M_Teacher_newName.2.1 47 = .ok (.goto 30, 3) := by decide +kernel
theorem d_Teacher_newName_50 : decode M_Teacher_newName.2.1 50 = .ok (.aload_n 1, 1) := by decide +kernel
theorem d_Teacher_newName_51 : decode M_Teacher_newName.2.1 51 = .ok (.invokevirtual 349, 3) := by decide +kernel
theorem d_Teacher_newName_54 : decode M_Teacher_newName.2.1 54 = .ok (.iload_n 2, 1) := by decide +kernel
theorem d_Teacher_newName_55 : decode M_Teacher_newName.2.1 55 = .ok (.if_icmp .lt 11, 3) := by decide +kernel
theorem d_Teacher_newName_58 : decode M_Teacher_newName.2.1 58 = .ok (.aload_n 0, 1) := by decide +kernel
theorem d_Teacher_newName_59 : decode M_Teacher_newName.2.1 59 = .ok (.iconst 4, 1) := by decide +kernel
theorem d_Teacher_newName_60 : decode M_Teacher_newName.2.1 60 = .ok (.invokevirtual 346, 3) := by decide +kernel
theorem d_Teacher_newName_63 : decode M_Teacher_newName.2.1 63 = .ok (.goto 14, 3) := by decide +kernel
theorem d_Teacher_newName_66 : decode M_Teacher_newName.2.1 66 = .ok (.aload_n 1, 1) := by decide +kernel
theorem d_Teacher_newName_67 : decode M_Teacher_newName.2.1 67 = .ok (.aload_n 0, 1) := by decide +kernel
theorem d_Teacher_newName_68 : decode M_Teacher_newName.2.1 68 = .ok (.getfield 34, 3) := by decide +kernel
theorem d_Teacher_newName_71 : decode M_Teacher_newName.2.1 71 = .ok (.invokevirtual 314, 3) := by decide +kernel
theorem d_Teacher_newName_74 : decode M_Teacher_newName.2.1 74 = .ok (.invokevirtual 350, 3) := by decide +kernel
theorem d_Teacher_newName_77 : decode M_Teacher_newName.2.1 77 = .ok (.aload_n 0, 1) := by decide +kernel
theorem d_Teacher_newName_78 : decode M_Teacher_newName.2.1 78 = .ok (.getfield 34, 3) := by decide +kernel
theorem d_Teacher_newName_81 : decode M_Teacher_newName.2.1 81 = .ok (.invokevirtual 242, 3) := by decide +kernel
theorem d_Teacher_newName_84 : decode M_Teacher_newName.2.1 84 = .ok (.return_, 1) := by decide +kernel
def s_Teacher_newName (K : TK) (E : TE) (N : NM) (x2 : Int32) : TK × TE × NM := (if (s_Tokens_sign (s_Tokens_advance K)).val = 50 then (if (s_Names_find N (s_Tokens_worth (s_Tokens_advance K))) < 0 then (if (nI (nm_sz N)) < x2 then ((s_Tokens_advance (s_Tokens_advance K)), E, (s_Names_add N (s_Tokens_worth (s_Tokens_advance K)))) else ((s_Tokens_advance (s_Tokens_advance K)), (s_Teacher_tellError (s_Tokens_advance K) E 4), N)) else ((s_Tokens_advance (s_Tokens_advance K)), (s_Teacher_tellError (s_Tokens_advance K) E 2), N)) else ((s_Tokens_breakOff (s_Tokens_advance K)), E, N))
set_option maxRecDepth 100000 in
set_option maxHeartbeats 4000000 in
theorem c_Teacher_newName {Γ : G9} {sg : Nat → Nat} {h : AH} {y g o u a z : Nat} {K : TK} {E : TE} {N : NM} {x2 : Int32} (hs : SgOk Γ sg) (hsn : SgNe sg) (geo : y + 4 ≤ u ∧ u + 1 ≤ a) (hN : nm_sz N ≤ 6) : CallR Γ M_Teacher_newName 2 [.ref u, .ref a, .int x2] (blk (blk (blk h y 4 (tkC Γ sg y K)) u 1 (teC Γ y g o u E)) a 2 (nmC Γ a N)) z none (blk (blk (blk h y 4 (tkC Γ sg y (s_Teacher_newName K E N x2).1)) u 1 (teC Γ y g o u (s_Teacher_newName K E N x2).2.1)) a 2 (nmC Γ a (s_Teacher_newName K E N x2).2.2)) := by
  refine Call.of_go (L := [some (.ref u), some (.ref a), some (.int x2)]) (by decide +kernel) rfl (by exact Nat.le_of_ble_eq_true rfl) ?_
  unfold s_Teacher_newName
  refine Go.aload_0 d_Teacher_newName_0 rfl ?_
  refine Go.getfield d_Teacher_newName_1 rfl f_Teacher_34 ((blk_out (by omega)).trans (te_g0)) (by rfl) ?_
  refine Go.heq ((blk_in (blk_comm (by omega))).trans (blk_comm (by omega))) ?_
  refine Go.cv0v d_Teacher_newName_4 rfl l_Teacher_242 k_Tokens_advance_v (tk_g0) rfl (c_Tokens_advance hs) rfl rfl rfl ?_
  refine Go.heq ((blk_comm (by omega)).trans (blk_in (blk_comm (by omega)))) ?_
  refine Go.aload_0 d_Teacher_newName_7 rfl ?_
  refine Go.getfield d_Teacher_newName_8 rfl f_Teacher_34 ((blk_out (by omega)).trans (te_g0)) (by rfl) ?_
  refine Go.heq ((blk_in (blk_comm (by omega))).trans (blk_comm (by omega))) ?_
  refine Go.cv0r d_Teacher_newName_11 rfl l_Teacher_62 k_Tokens_sign_v (tk_g0) rfl (c_Tokens_sign) rfl rfl rfl ?_
  refine Go.heq ((blk_comm (by omega)).trans (blk_in (blk_comm (by omega)))) ?_
  refine Go.gets d_Teacher_newName_14 rfl x_Teacher_339 (hs.z (i := 50) rfl) ?_
  refine Go.acmp_eq (t := 28) d_Teacher_newName_17 (by decide) rfl (fun c17_1 => ?_) (fun c17_1 => ?_)
  · have c17_1 := hsn _ _ ((s_Tokens_sign (s_Tokens_advance K))).isLt (by decide) c17_1
    refine Go.aload_1 d_Teacher_newName_28 rfl ?_
    refine Go.aload_0 d_Teacher_newName_29 rfl ?_
    refine Go.getfield d_Teacher_newName_30 rfl f_Teacher_34 ((blk_out (by omega)).trans (te_g0)) (by rfl) ?_
    refine Go.heq ((blk_in (blk_comm (by omega))).trans (blk_comm (by omega))) ?_
    refine Go.cv0r d_Teacher_newName_33 rfl l_Teacher_314 k_Tokens_worth_v (tk_g0) rfl (c_Tokens_worth) rfl rfl rfl ?_
    refine Go.heq ((blk_comm (by omega)).trans (blk_in (blk_comm (by omega)))) ?_
    refine Go.cv1r d_Teacher_newName_36 rfl l_Teacher_342 k_Names_find_v (nm_g0) rfl (c_Names_find hN) rfl rfl rfl ?_
    refine Go.if_lt (t := 50) d_Teacher_newName_39 (by decide) rfl (fun c39_2 => ?_) (fun c39_2 => ?_)
    · refine Go.aload_1 d_Teacher_newName_50 rfl ?_
      refine Go.cv0r d_Teacher_newName_51 rfl l_Teacher_349 k_Names_size_v (nm_g0) rfl (c_Names_size) rfl rfl rfl ?_
      refine Go.iload_2 d_Teacher_newName_54 rfl ?_
      refine Go.icmp_lt (t := 66) d_Teacher_newName_55 (by decide) rfl (fun c55_3 => ?_) (fun c55_3 => ?_)
      · refine Go.aload_1 d_Teacher_newName_66 rfl ?_
        refine Go.aload_0 d_Teacher_newName_67 rfl ?_
        refine Go.getfield d_Teacher_newName_68 rfl f_Teacher_34 ((blk_out (by omega)).trans (te_g0)) (by rfl) ?_
        refine Go.heq ((blk_in (blk_comm (by omega))).trans (blk_comm (by omega))) ?_
        refine Go.cv0r d_Teacher_newName_71 rfl l_Teacher_314 k_Tokens_worth_v (tk_g0) rfl (c_Tokens_worth) rfl rfl rfl ?_
        refine Go.heq ((blk_comm (by omega)).trans (blk_in (blk_comm (by omega)))) ?_
        refine Go.cv1v d_Teacher_newName_74 rfl l_Teacher_350 k_Names_add_v (nm_g0) rfl (c_Names_add hN) rfl rfl rfl ?_
        refine Go.aload_0 d_Teacher_newName_77 rfl ?_
        refine Go.getfield d_Teacher_newName_78 rfl f_Teacher_34 ((blk_out (by omega)).trans (te_g0)) (by rfl) ?_
        refine Go.heq ((blk_in (blk_comm (by omega))).trans (blk_comm (by omega))) ?_
        refine Go.cv0v d_Teacher_newName_81 rfl l_Teacher_242 k_Tokens_advance_v (tk_g0) rfl (c_Tokens_advance hs) rfl rfl rfl ?_
        refine Go.heq ((blk_comm (by omega)).trans (blk_in (blk_comm (by omega)))) ?_
        rw [if_pos c17_1, if_pos c39_2, if_pos c55_3]
        exact Go.vret d_Teacher_newName_84 rfl ⟨rfl, rfl, rfl⟩
      · refine Go.aload_0 d_Teacher_newName_58 rfl ?_
        refine Go.iconst (v := 4) d_Teacher_newName_59 rfl (by decide) ?_
        refine Go.heq ((blk_comm (by omega)).trans (blk_in (blk_comm (by omega)))) ?_
        refine Go.cv1v d_Teacher_newName_60 rfl l_Teacher_346 k_Teacher_tellError_v (te_g0) rfl (c_Teacher_tellError (by omega)) rfl rfl rfl ?_
        refine Go.heq ((blk_in (blk_comm (by omega))).trans (blk_comm (by omega))) ?_
        refine Go.goto (t := 77) d_Teacher_newName_63 (by decide) ?_
        refine Go.aload_0 d_Teacher_newName_77 rfl ?_
        refine Go.getfield d_Teacher_newName_78 rfl f_Teacher_34 ((blk_out (by omega)).trans (te_g0)) (by rfl) ?_
        refine Go.heq ((blk_in (blk_comm (by omega))).trans (blk_comm (by omega))) ?_
        refine Go.cv0v d_Teacher_newName_81 rfl l_Teacher_242 k_Tokens_advance_v (tk_g0) rfl (c_Tokens_advance hs) rfl rfl rfl ?_
        refine Go.heq ((blk_comm (by omega)).trans (blk_in (blk_comm (by omega)))) ?_
        rw [if_pos c17_1, if_pos c39_2, if_neg c55_3]
        exact Go.vret d_Teacher_newName_84 rfl ⟨rfl, rfl, rfl⟩
    · refine Go.aload_0 d_Teacher_newName_42 rfl ?_
      refine Go.iconst (v := 2) d_Teacher_newName_43 rfl (by decide) ?_
      refine Go.heq ((blk_comm (by omega)).trans (blk_in (blk_comm (by omega)))) ?_
      refine Go.cv1v d_Teacher_newName_44 rfl l_Teacher_346 k_Teacher_tellError_v (te_g0) rfl (c_Teacher_tellError (by omega)) rfl rfl rfl ?_
      refine Go.heq ((blk_in (blk_comm (by omega))).trans (blk_comm (by omega))) ?_
      refine Go.goto (t := 77) d_Teacher_newName_47 (by decide) ?_
      refine Go.aload_0 d_Teacher_newName_77 rfl ?_
      refine Go.getfield d_Teacher_newName_78 rfl f_Teacher_34 ((blk_out (by omega)).trans (te_g0)) (by rfl) ?_
      refine Go.heq ((blk_in (blk_comm (by omega))).trans (blk_comm (by omega))) ?_
      refine Go.cv0v d_Teacher_newName_81 rfl l_Teacher_242 k_Tokens_advance_v (tk_g0) rfl (c_Tokens_advance hs) rfl rfl rfl ?_
      refine Go.heq ((blk_comm (by omega)).trans (blk_in (blk_comm (by omega)))) ?_
      rw [if_pos c17_1, if_neg c39_2]
      exact Go.vret d_Teacher_newName_84 rfl ⟨rfl, rfl, rfl⟩
  · have c17_1 : ¬ (s_Tokens_sign (s_Tokens_advance K)).val = 50 := fun w => c17_1 (by rw [w])
    refine Go.aload_0 d_Teacher_newName_20 rfl ?_
    refine Go.getfield d_Teacher_newName_21 rfl f_Teacher_34 ((blk_out (by omega)).trans (te_g0)) (by rfl) ?_
    refine Go.heq ((blk_in (blk_comm (by omega))).trans (blk_comm (by omega))) ?_
    refine Go.cv0v d_Teacher_newName_24 rfl l_Teacher_118 k_Tokens_breakOff_v (tk_g0) rfl (c_Tokens_breakOff hs) rfl rfl rfl ?_
    refine Go.heq ((blk_comm (by omega)).trans (blk_in (blk_comm (by omega)))) ?_
    rw [if_neg c17_1]
    exact Go.vret d_Teacher_newName_27 rfl ⟨rfl, rfl, rfl⟩
theorem d_Teacher_oldName_0 : decode M_Teacher_oldName.2.1 0 = .ok (.aload_n 0, 1) := by decide +kernel
theorem d_Teacher_oldName_1 : decode M_Teacher_oldName.2.1 1 = .ok (.getfield 34, 3) := by decide +kernel
theorem d_Teacher_oldName_4 : decode M_Teacher_oldName.2.1 4 = .ok (.aload_n 1, 1) := by decide +kernel
theorem d_Teacher_oldName_5 : decode M_Teacher_oldName.2.1 5 = .ok (.invokevirtual 124, 3) := by decide +kernel
theorem d_Teacher_oldName_8 : decode M_Teacher_oldName.2.1 8 = .ok (.aload_n 0, 1) := by decide +kernel
theorem d_Teacher_oldName_9 : decode M_Teacher_oldName.2.1 9 = .ok (.getfield 34, 3) := by decide +kernel
theorem d_Teacher_oldName_12 : decode M_Teacher_oldName.2.1 12 = .ok (.invokevirtual 62, 3) := by decide +kernel
theorem d_Teacher_oldName_15 : decode M_Teacher_oldName.2.1 15 = .ok (.getstatic 339, 3) := by decide +kernel
theorem d_Teacher_oldName_18 : decode M_Teacher_oldName.2.1 18 = .ok (.if_acmp .eq 12, 3) := by decide +kernel
theorem d_Teacher_oldName_21 : decode M_Teacher_oldName.2.1 21 = .ok (.aload_n 0, 1) := by decide +kernel
theorem d_Teacher_oldName_22 : decode M_Teacher_oldName.2.1 22 = .ok (.getfield 34, 3) := by decide +kernel
theorem d_Teacher_oldName_25 : decode M_Teacher_oldName.2.1 25 = .ok (.invokevirtual 118, 3) := by decide +kernel
theorem d_Teacher_oldName_28 : decode M_Teacher_oldName.2.1 28 = .ok (.iconst (-1), 1) := by decide +kernel
theorem d_Teacher_oldName_29 : decode M_Teacher_oldName.2.1 29 = .ok (.ireturn, 1) := by decide +kernel
theorem d_Teacher_oldName_30 : decode M_Teacher_oldName.2.1 30 = .ok (.aload_n 2, 1) := by decide +kernel
theorem d_Teacher_oldName_31 : decode M_Teacher_oldName.2.1 31 = .ok (.aload_n 0, 1) := by decide +kernel
theorem d_Teacher_oldName_32 : decode M_Teacher_oldName.2.1 32 = .ok (.getfield 34, 3) := by decide +kernel
theorem d_Teacher_oldName_35 : decode M_Teacher_oldName.2.1 35 = .ok (.invokevirtual 314, 3) := by decide +kernel
theorem d_Teacher_oldName_38 : decode M_Teacher_oldName.2.1 38 = .ok (.invokevirtual 342, 3) := by decide +kernel
theorem d_Teacher_oldName_41 : decode M_Teacher_oldName.2.1 41 = .ok (.istore_n 3, 1) := by decide +kernel
theorem d_Teacher_oldName_42 : decode M_Teacher_oldName.2.1 42 = .ok (.iload_n 3, 1) := by decide +kernel
theorem d_Teacher_oldName_43 : decode M_Teacher_oldName.2.1 43 = .ok (.ifCond .ge 8, 3) := by decide +kernel
theorem d_Teacher_oldName_46 : decode M_Teacher_oldName.2.1 46 = .ok (.aload_n 0, 1) := by decide +kernel
theorem d_Teacher_oldName_47 : decode M_Teacher_oldName.2.1 47 = .ok (.iconst 3, 1) := by decide +kernel
theorem d_Teacher_oldName_48 : decode M_Teacher_oldName.2.1 48 = .ok (.invokevirtual 346, 3) := by decide +kernel
theorem d_Teacher_oldName_51 : decode M_Teacher_oldName.2.1 51 = .ok (.aload_n 0, 1) := by decide +kernel
theorem d_Teacher_oldName_52 : decode M_Teacher_oldName.2.1 52 = .ok (.getfield 34, 3) := by decide +kernel
theorem d_Teacher_oldName_55 : decode M_Teacher_oldName.2.1 55 = .ok (.invokevirtual 242, 3) := by decide +kernel
theorem d_Teacher_oldName_58 : decode M_Teacher_oldName.2.1 58 = .ok (.iload_n 3, 1) := by decide +kernel
theorem d_Teacher_oldName_59 : decode M_Teacher_oldName.2.1 59 = .ok (.ireturn, 1) := by decide +kernel
def s_Teacher_oldName (K : TK) (E : TE) (N : NM) (x1 : Fin 54) : Int32 × TK × TE := (if (s_Tokens_sign (s_Tokens_expect K x1)).val = 50 then (if 0 ≤ (s_Names_find N (s_Tokens_worth (s_Tokens_expect K x1))) then ((s_Names_find N (s_Tokens_worth (s_Tokens_expect K x1))), (s_Tokens_advance (s_Tokens_expect K x1)), E) else ((s_Names_find N (s_Tokens_worth (s_Tokens_expect K x1))), (s_Tokens_advance (s_Tokens_expect K x1)), (s_Teacher_tellError (s_Tokens_expect K x1) E 3))) else ((-1), (s_Tokens_breakOff (s_Tokens_expect K x1)), E))
set_option maxRecDepth 100000 in
set_option maxHeartbeats 4000000 in
theorem c_Teacher_oldName {Γ : G9} {sg : Nat → Nat} {h : AH} {y g o u a z : Nat} {K : TK} {E : TE} {N : NM} {x1 : Fin 54} (hs : SgOk Γ sg) (hsn : SgNe sg) (geo : y + 4 ≤ u ∧ u + 1 ≤ a) (hN : nm_sz N ≤ 6) : CallR Γ M_Teacher_oldName 2 [.ref u, .ref (sg x1.val), .ref a] (blk (blk (blk h y 4 (tkC Γ sg y K)) u 1 (teC Γ y g o u E)) a 2 (nmC Γ a N)) z (some (.int (s_Teacher_oldName K E N x1).1)) (blk (blk (blk h y 4 (tkC Γ sg y (s_Teacher_oldName K E N x1).2.1)) u 1 (teC Γ y g o u (s_Teacher_oldName K E N x1).2.2)) a 2 (nmC Γ a N)) := by
  refine Call.of_go (L := [some (.ref u), some (.ref (sg x1.val)), some (.ref a), none]) (by decide +kernel) rfl (by exact Nat.le_of_ble_eq_true rfl) ?_
  unfold s_Teacher_oldName
  refine Go.aload_0 d_Teacher_oldName_0 rfl ?_
  refine Go.getfield d_Teacher_oldName_1 rfl f_Teacher_34 ((blk_out (by omega)).trans (te_g0)) (by rfl) ?_
  refine Go.aload_1 d_Teacher_oldName_4 rfl ?_
  refine Go.heq ((blk_in (blk_comm (by omega))).trans (blk_comm (by omega))) ?_
  refine Go.cv1v d_Teacher_oldName_5 rfl l_Teacher_124 k_Tokens_expect_v (tk_g0) rfl (c_Tokens_expect (x1 := x1) hs hsn) rfl rfl rfl ?_
  refine Go.heq ((blk_comm (by omega)).trans (blk_in (blk_comm (by omega)))) ?_
  refine Go.aload_0 d_Teacher_oldName_8 rfl ?_
  refine Go.getfield d_Teacher_oldName_9 rfl f_Teacher_34 ((blk_out (by omega)).trans (te_g0)) (by rfl) ?_
  refine Go.heq ((blk_in (blk_comm (by omega))).trans (blk_comm (by omega))) ?_
  refine Go.cv0r d_Teacher_oldName_12 rfl l_Teacher_62 k_Tokens_sign_v (tk_g0) rfl (c_Tokens_sign) rfl rfl rfl ?_
  refine Go.heq ((blk_comm (by omega)).trans (blk_in (blk_comm (by omega)))) ?_
  refine Go.gets d_Teacher_oldName_15 rfl x_Teacher_339 (hs.z (i := 50) rfl) ?_
  refine Go.acmp_eq (t := 30) d_Teacher_oldName_18 (by decide) rfl (fun c18_1 => ?_) (fun c18_1 => ?_)
  · have c18_1 := hsn _ _ ((s_Tokens_sign (s_Tokens_expect K x1))).isLt (by decide) c18_1
    refine Go.aload_2 d_Teacher_oldName_30 rfl ?_
    refine Go.aload_0 d_Teacher_oldName_31 rfl ?_
    refine Go.getfield d_Teacher_oldName_32 rfl f_Teacher_34 ((blk_out (by omega)).trans (te_g0)) (by rfl) ?_
    refine Go.heq ((blk_in (blk_comm (by omega))).trans (blk_comm (by omega))) ?_
    refine Go.cv0r d_Teacher_oldName_35 rfl l_Teacher_314 k_Tokens_worth_v (tk_g0) rfl (c_Tokens_worth) rfl rfl rfl ?_
    refine Go.heq ((blk_comm (by omega)).trans (blk_in (blk_comm (by omega)))) ?_
    refine Go.cv1r d_Teacher_oldName_38 rfl l_Teacher_342 k_Names_find_v (nm_g0) rfl (c_Names_find hN) rfl rfl rfl ?_
    refine Go.istore_3 d_Teacher_oldName_41 rfl (by rfl) ?_
    refine Go.iload_3 d_Teacher_oldName_42 rfl ?_
    refine Go.if_ge (t := 51) d_Teacher_oldName_43 (by decide) rfl (fun c43_2 => ?_) (fun c43_2 => ?_)
    · refine Go.aload_0 d_Teacher_oldName_51 rfl ?_
      refine Go.getfield d_Teacher_oldName_52 rfl f_Teacher_34 ((blk_out (by omega)).trans (te_g0)) (by rfl) ?_
      refine Go.heq ((blk_in (blk_comm (by omega))).trans (blk_comm (by omega))) ?_
      refine Go.cv0v d_Teacher_oldName_55 rfl l_Teacher_242 k_Tokens_advance_v (tk_g0) rfl (c_Tokens_advance hs) rfl rfl rfl ?_
      refine Go.heq ((blk_comm (by omega)).trans (blk_in (blk_comm (by omega)))) ?_
      refine Go.iload_3 d_Teacher_oldName_58 rfl ?_
      rw [if_pos c18_1, if_pos c43_2]
      exact Go.iret d_Teacher_oldName_59 rfl rfl ⟨rfl, rfl, rfl⟩
    · refine Go.aload_0 d_Teacher_oldName_46 rfl ?_
      refine Go.iconst (v := 3) d_Teacher_oldName_47 rfl (by decide) ?_
      refine Go.heq ((blk_comm (by omega)).trans (blk_in (blk_comm (by omega)))) ?_
      refine Go.cv1v d_Teacher_oldName_48 rfl l_Teacher_346 k_Teacher_tellError_v (te_g0) rfl (c_Teacher_tellError (by omega)) rfl rfl rfl ?_
      refine Go.heq ((blk_in (blk_comm (by omega))).trans (blk_comm (by omega))) ?_
      refine Go.aload_0 d_Teacher_oldName_51 rfl ?_
      refine Go.getfield d_Teacher_oldName_52 rfl f_Teacher_34 ((blk_out (by omega)).trans (te_g0)) (by rfl) ?_
      refine Go.heq ((blk_in (blk_comm (by omega))).trans (blk_comm (by omega))) ?_
      refine Go.cv0v d_Teacher_oldName_55 rfl l_Teacher_242 k_Tokens_advance_v (tk_g0) rfl (c_Tokens_advance hs) rfl rfl rfl ?_
      refine Go.heq ((blk_comm (by omega)).trans (blk_in (blk_comm (by omega)))) ?_
      refine Go.iload_3 d_Teacher_oldName_58 rfl ?_
      rw [if_pos c18_1, if_neg c43_2]
      exact Go.iret d_Teacher_oldName_59 rfl rfl ⟨rfl, rfl, rfl⟩
  · have c18_1 : ¬ (s_Tokens_sign (s_Tokens_expect K x1)).val = 50 := fun w => c18_1 (by rw [w])
    refine Go.aload_0 d_Teacher_oldName_21 rfl ?_
    refine Go.getfield d_Teacher_oldName_22 rfl f_Teacher_34 ((blk_out (by omega)).trans (te_g0)) (by rfl) ?_
    refine Go.heq ((blk_in (blk_comm (by omega))).trans (blk_comm (by omega))) ?_
    refine Go.cv0v d_Teacher_oldName_25 rfl l_Teacher_118 k_Tokens_breakOff_v (tk_g0) rfl (c_Tokens_breakOff hs) rfl rfl rfl ?_
    refine Go.heq ((blk_comm (by omega)).trans (blk_in (blk_comm (by omega)))) ?_
    refine Go.iconst (v := (-1)) d_Teacher_oldName_28 rfl (by decide) ?_
    rw [if_neg c18_1]
    exact Go.iret d_Teacher_oldName_29 rfl rfl ⟨rfl, rfl, rfl⟩
theorem newName_le {K : TK} {E : TE} {N : NM} {x : Int32} (hN : nm_sz N ≤ 6) : nm_sz (s_Teacher_newName K E N x).2.2 ≤ 6 := by
  unfold s_Teacher_newName
  have : nm_sz (s_Names_add N (s_Tokens_worth (s_Tokens_advance K))) ≤ 6 := by
    unfold s_Names_add
    split
    · exact hN
    · rename_i c
      have := nI_gt_of c (by omega)
      show nm_sz N + 1 ≤ 6
      omega
  (repeat' split) <;> first | exact hN | exact this
theorem d_Teacher_newOrder_0 : decode M_Teacher_newOrder.2.1 0 = .ok (.aload_n 0, 1) := by decide +kernel
theorem d_Teacher_newOrder_1 : decode M_Teacher_newOrder.2.1 1 = .ok (.getfield 42, 3) := by decide +kernel
theorem d_Teacher_newOrder_4 : decode M_Teacher_newOrder.2.1 4 = .ok (.iload_n 1, 1) := by decide +kernel
theorem d_Teacher_newOrder_5 : decode M_Teacher_newOrder.2.1 5 = .ok (.invokevirtual 354, 3) := by decide +kernel
theorem d_Teacher_newOrder_8 : decode M_Teacher_newOrder.2.1 8 = .ok (.ifCond .ne 8, 3) := by decide +kernel
theorem d_Teacher_newOrder_11 : decode M_Teacher_newOrder.2.1 11 = .ok (.aload_n 0, 1) := by decide +kernel
theorem d_Teacher_newOrder_12 : decode M_Teacher_newOrder.2.1 12 = .ok (.iconst 4, 1) := by decide +kernel
theorem d_Teacher_newOrder_13 : decode M_Teacher_newOrder.2.1 13 = .ok (.invokevirtual 346, 3) := by decide +kernel
theorem d_Teacher_newOrder_16 : decode M_Teacher_newOrder.2.1 16 = .ok (.return_, 1) := by decide +kernel
def s_Teacher_newOrder (T : TM) (F : FM) (K : TK) (E : TE) (x1 : Int32) : TM × TE := (if (s_Orders_add T F x1).1 = 0 then ((s_Orders_add T F x1).2, (s_Teacher_tellError K E 4)) else ((s_Orders_add T F x1).2, E))
set_option maxRecDepth 100000 in
set_option maxHeartbeats 4000000 in
theorem c_Teacher_newOrder {Γ : G9} {sg : Nat → Nat} {h : AH} {y g o u z : Nat} {T : TM} {F : FM} {K : TK} {E : TE} {x1 : Int32} (ho : h o = some (.inr (3, [.ref (o + 1), .ref (o + 3)]))) (hT : T.2 ≤ 20) (geo : y + 4 ≤ o ∧ o + 7 ≤ u) : CallR Γ M_Teacher_newOrder 2 [.ref u, .int x1] (blk (blk (blk (blk h (o + 1) 2 (tbC Γ 20 (o + 1) T)) (o + 3) 4 (fmC Γ sg (o + 3) F)) y 4 (tkC Γ sg y K)) u 1 (teC Γ y g o u E)) z none (blk (blk (blk (blk h (o + 1) 2 (tbC Γ 20 (o + 1) (s_Teacher_newOrder T F K E x1).1)) (o + 3) 4 (fmC Γ sg (o + 3) F)) y 4 (tkC Γ sg y K)) u 1 (teC Γ y g o u (s_Teacher_newOrder T F K E x1).2)) := by
  refine Call.of_go (L := [some (.ref u), some (.int x1)]) (by decide +kernel) rfl (by exact Nat.le_of_ble_eq_true rfl) ?_
  unfold s_Teacher_newOrder
  refine Go.aload_0 d_Teacher_newOrder_0 rfl ?_
  refine Go.getfield d_Teacher_newOrder_1 rfl f_Teacher_42 (te_g0) (by rfl) ?_
  refine Go.iload_1 d_Teacher_newOrder_4 rfl ?_
  refine Go.heq ((((blk_in (blk_comm (by omega))).trans (blk_comm (by omega))).trans (blk_in (blk_in (blk_comm (by omega))))).trans (blk_in (blk_comm (by omega)))) ?_
  refine Go.cv1r d_Teacher_newOrder_5 rfl l_Teacher_354 k_Orders_add_v ((blk_out (by omega)).trans ((blk_out (by omega)).trans ((blk_out (by omega)).trans ((blk_out (by omega)).trans ho)))) rfl (c_Orders_add (by exact ((blk_out (by omega)).trans ((blk_out (by omega)).trans ho))) hT) rfl rfl rfl ?_
  refine Go.heq ((((blk_in (blk_comm (by omega))).trans (blk_comm (by omega))).trans (blk_in (blk_in (blk_comm (by omega))))).trans (blk_in (blk_comm (by omega)))) ?_
  refine Go.if_ne (t := 16) d_Teacher_newOrder_8 (by decide) rfl (fun c8_1 => ?_) (fun c8_1 => ?_)
  · rw [if_neg c8_1]
    exact Go.vret d_Teacher_newOrder_16 rfl ⟨rfl, rfl, rfl⟩
  · refine Go.aload_0 d_Teacher_newOrder_11 rfl ?_
    refine Go.iconst (v := 4) d_Teacher_newOrder_12 rfl (by decide) ?_
    refine Go.cv1v d_Teacher_newOrder_13 rfl l_Teacher_346 k_Teacher_tellError_v (te_g0) rfl (c_Teacher_tellError (by omega)) rfl rfl rfl ?_
    rw [if_pos c8_1]
    exact Go.vret d_Teacher_newOrder_16 rfl ⟨rfl, rfl, rfl⟩
def rw_ (Γ : G9) (sg : Nat → Nat) (h : AH) (y g o u : Nat) (K : TK) (F : FM) (E : TE) (N0 N1 N2 N3 N4 : NM) : AH := (blk (blk (blk (blk (blk (blk (blk (blk h y 4 (tkC Γ sg y K)) (o + 3) 4 (fmC Γ sg (o + 3) F)) u 1 (teC Γ y g o u E)) (u + 1) 2 (nmC Γ (u + 1) N0)) (u + 3) 2 (nmC Γ (u + 3) N1)) (u + 5) 2 (nmC Γ (u + 5) N2)) (u + 7) 2 (nmC Γ (u + 7) N3)) (u + 9) 2 (nmC Γ (u + 9) N4))
theorem rw_u {Γ : G9} {sg : Nat → Nat} {h : AH} {y g o u : Nat} {K : TK} {F : FM} {E : TE} {N0 : NM} {N1 : NM} {N2 : NM} {N3 : NM} {N4 : NM} (geo : y + 4 ≤ o ∧ o + 7 ≤ u) : (rw_ Γ sg h y g o u K F E N0 N1 N2 N3 N4) u = some (.inr (6, [.ref y, .ref g, .ref o, .ref (o + 3), .ref (u + 1), .ref (u + 3), .ref (u + 5), .ref (u + 7), .ref (u + 9), .int (te_er E), .int (te_ep E)])) := by
  unfold rw_
  exact ((blk_out (by omega)).trans ((blk_out (by omega)).trans ((blk_out (by omega)).trans ((blk_out (by omega)).trans ((blk_out (by omega)).trans te_g0)))))
theorem rw_y {Γ : G9} {sg : Nat → Nat} {h : AH} {y g o u : Nat} {K : TK} {F : FM} {E : TE} {N0 : NM} {N1 : NM} {N2 : NM} {N3 : NM} {N4 : NM} (geo : y + 4 ≤ o ∧ o + 7 ≤ u) : (rw_ Γ sg h y g o u K F E N0 N1 N2 N3 N4) y = some (.inr (7, [.ref (y + 1), .ref (y + 2), .ref (y + 3), .int (tk_sz K), .int (tk_at K), .ref (sg (tk_sn K).val), .int (tk_b K), .long (tk_w K), .int (tk_br K)])) := by
  unfold rw_
  exact ((blk_out (by omega)).trans ((blk_out (by omega)).trans ((blk_out (by omega)).trans ((blk_out (by omega)).trans ((blk_out (by omega)).trans ((blk_out (by omega)).trans ((blk_out (by omega)).trans tk_g0)))))))
theorem rw_f {Γ : G9} {sg : Nat → Nat} {h : AH} {y g o u : Nat} {K : TK} {F : FM} {E : TE} {N0 : NM} {N1 : NM} {N2 : NM} {N3 : NM} {N4 : NM} (geo : y + 4 ≤ o ∧ o + 7 ≤ u) : (rw_ Γ sg h y g o u K F E N0 N1 N2 N3 N4) (o + 3) = some (.inr (0, [.ref ((o + 3) + 1), .ref ((o + 3) + 2), .ref ((o + 3) + 3), .int (fm_sz F), .int (fm_top F)])) := by
  unfold rw_
  exact ((blk_out (by omega)).trans ((blk_out (by omega)).trans ((blk_out (by omega)).trans ((blk_out (by omega)).trans ((blk_out (by omega)).trans ((blk_out (by omega)).trans fm_g0))))))
theorem rw_g {Γ : G9} {sg : Nat → Nat} {h : AH} {y g o u : Nat} {K : TK} {F : FM} {E : TE} {N0 : NM} {N1 : NM} {N2 : NM} {N3 : NM} {N4 : NM} {T : TM} {σ : GL} (geo : y + 4 ≤ g ∧ g + 12 ≤ o ∧ o + 7 ≤ u) : (rw_ Γ sg (blk (blk h g 12 (glC Γ g σ)) (o + 1) 2 (tbC Γ 20 (o + 1) T)) y g o u K F E N0 N1 N2 N3 N4) g = some (.inr (1, glF g σ)) := by
  unfold rw_
  exact ((blk_out (by omega)).trans ((blk_out (by omega)).trans ((blk_out (by omega)).trans ((blk_out (by omega)).trans ((blk_out (by omega)).trans ((blk_out (by omega)).trans ((blk_out (by omega)).trans ((blk_out (by omega)).trans ((blk_out (by omega)).trans gl_obj)))))))))
theorem rw_b {Γ : G9} {sg : Nat → Nat} {h : AH} {y g o u : Nat} {K : TK} {F : FM} {E : TE} {N0 : NM} {N1 : NM} {N2 : NM} {N3 : NM} {N4 : NM} {T : TM} {σ : GL} (geo : y + 4 ≤ g ∧ g + 12 ≤ o ∧ o + 7 ≤ u) : (rw_ Γ sg (blk (blk h g 12 (glC Γ g σ)) (o + 1) 2 (tbC Γ 20 (o + 1) T)) y g o u K F E N0 N1 N2 N3 N4) (g + 1) = some (tabO (g + 1) (σ.1 0)) := by
  unfold rw_
  exact ((blk_out (by omega)).trans ((blk_out (by omega)).trans ((blk_out (by omega)).trans ((blk_out (by omega)).trans ((blk_out (by omega)).trans ((blk_out (by omega)).trans ((blk_out (by omega)).trans ((blk_out (by omega)).trans ((blk_out (by omega)).trans (gl_tab (k := 0) (by decide)))))))))))
theorem rw_o {Γ : G9} {sg : Nat → Nat} {h : AH} {y g o u : Nat} {K : TK} {F : FM} {E : TE} {N0 : NM} {N1 : NM} {N2 : NM} {N3 : NM} {N4 : NM} {T : TM} {σ : GL} (geo : y + 4 ≤ g ∧ g + 12 ≤ o ∧ o + 7 ≤ u) (ho : h o = some (.inr (3, [.ref (o + 1), .ref (o + 3)]))) : (rw_ Γ sg (blk (blk h g 12 (glC Γ g σ)) (o + 1) 2 (tbC Γ 20 (o + 1) T)) y g o u K F E N0 N1 N2 N3 N4) o = some (.inr (3, [.ref (o + 1), .ref (o + 3)])) := by
  unfold rw_
  exact ((blk_out (by omega)).trans ((blk_out (by omega)).trans ((blk_out (by omega)).trans ((blk_out (by omega)).trans ((blk_out (by omega)).trans ((blk_out (by omega)).trans ((blk_out (by omega)).trans ((blk_out (by omega)).trans ((blk_out (by omega)).trans ((blk_out (by omega)).trans ho))))))))))
theorem w1_Tokens_sign {Γ : G9} {sg : Nat → Nat} {h : AH} {y g o u z : Nat} {K : TK} {F : FM} {E : TE} {N0 : NM} {N1 : NM} {N2 : NM} {N3 : NM} {N4 : NM} (hs : SgOk Γ sg) (hsn : SgNe sg) (geo : y + 4 ≤ o ∧ o + 7 ≤ u) (hN0 : nm_sz N0 ≤ 6) (hN1 : nm_sz N1 ≤ 6) (hN2 : nm_sz N2 ≤ 6) (hN3 : nm_sz N3 ≤ 6) (hN4 : nm_sz N4 ≤ 6) : CallR Γ M_Tokens_sign 0 [.ref y] (rw_ Γ sg h y g o u K F E N0 N1 N2 N3 N4) z (some (.ref (sg (s_Tokens_sign K).val))) (rw_ Γ sg h y g o u K F E N0 N1 N2 N3 N4) := by
  unfold rw_
  exact CallR.conv (((((((blk_in (blk_in (blk_in (blk_in (blk_in (blk_in (blk_comm (by omega)))))))).trans (blk_in (blk_in (blk_in (blk_in (blk_in (blk_comm (by omega)))))))).trans (blk_in (blk_in (blk_in (blk_in (blk_comm (by omega))))))).trans (blk_in (blk_in (blk_in (blk_comm (by omega)))))).trans (blk_in (blk_in (blk_comm (by omega))))).trans (blk_in (blk_comm (by omega)))).trans (blk_comm (by omega))) (((((((blk_comm (by omega)).trans (blk_in (blk_comm (by omega)))).trans (blk_in (blk_in (blk_comm (by omega))))).trans (blk_in (blk_in (blk_in (blk_comm (by omega)))))).trans (blk_in (blk_in (blk_in (blk_in (blk_comm (by omega))))))).trans (blk_in (blk_in (blk_in (blk_in (blk_in (blk_comm (by omega)))))))).trans (blk_in (blk_in (blk_in (blk_in (blk_in (blk_in (blk_comm (by omega))))))))) (c_Tokens_sign)
theorem w1_Tokens_worth {Γ : G9} {sg : Nat → Nat} {h : AH} {y g o u z : Nat} {K : TK} {F : FM} {E : TE} {N0 : NM} {N1 : NM} {N2 : NM} {N3 : NM} {N4 : NM} (hs : SgOk Γ sg) (hsn : SgNe sg) (geo : y + 4 ≤ o ∧ o + 7 ≤ u) (hN0 : nm_sz N0 ≤ 6) (hN1 : nm_sz N1 ≤ 6) (hN2 : nm_sz N2 ≤ 6) (hN3 : nm_sz N3 ≤ 6) (hN4 : nm_sz N4 ≤ 6) : CallR Γ M_Tokens_worth 0 [.ref y] (rw_ Γ sg h y g o u K F E N0 N1 N2 N3 N4) z (some (.long (s_Tokens_worth K))) (rw_ Γ sg h y g o u K F E N0 N1 N2 N3 N4) := by
  unfold rw_
  exact CallR.conv (((((((blk_in (blk_in (blk_in (blk_in (blk_in (blk_in (blk_comm (by omega)))))))).trans (blk_in (blk_in (blk_in (blk_in (blk_in (blk_comm (by omega)))))))).trans (blk_in (blk_in (blk_in (blk_in (blk_comm (by omega))))))).trans (blk_in (blk_in (blk_in (blk_comm (by omega)))))).trans (blk_in (blk_in (blk_comm (by omega))))).trans (blk_in (blk_comm (by omega)))).trans (blk_comm (by omega))) (((((((blk_comm (by omega)).trans (blk_in (blk_comm (by omega)))).trans (blk_in (blk_in (blk_comm (by omega))))).trans (blk_in (blk_in (blk_in (blk_comm (by omega)))))).trans (blk_in (blk_in (blk_in (blk_in (blk_comm (by omega))))))).trans (blk_in (blk_in (blk_in (blk_in (blk_in (blk_comm (by omega)))))))).trans (blk_in (blk_in (blk_in (blk_in (blk_in (blk_in (blk_comm (by omega))))))))) (c_Tokens_worth)
theorem w1_Tokens_advance {Γ : G9} {sg : Nat → Nat} {h : AH} {y g o u z : Nat} {K : TK} {F : FM} {E : TE} {N0 : NM} {N1 : NM} {N2 : NM} {N3 : NM} {N4 : NM} (hs : SgOk Γ sg) (hsn : SgNe sg) (geo : y + 4 ≤ o ∧ o + 7 ≤ u) (hN0 : nm_sz N0 ≤ 6) (hN1 : nm_sz N1 ≤ 6) (hN2 : nm_sz N2 ≤ 6) (hN3 : nm_sz N3 ≤ 6) (hN4 : nm_sz N4 ≤ 6) : CallR Γ M_Tokens_advance 0 [.ref y] (rw_ Γ sg h y g o u K F E N0 N1 N2 N3 N4) z none (rw_ Γ sg h y g o u (s_Tokens_advance K) F E N0 N1 N2 N3 N4) := by
  unfold rw_
  exact CallR.conv (((((((blk_in (blk_in (blk_in (blk_in (blk_in (blk_in (blk_comm (by omega)))))))).trans (blk_in (blk_in (blk_in (blk_in (blk_in (blk_comm (by omega)))))))).trans (blk_in (blk_in (blk_in (blk_in (blk_comm (by omega))))))).trans (blk_in (blk_in (blk_in (blk_comm (by omega)))))).trans (blk_in (blk_in (blk_comm (by omega))))).trans (blk_in (blk_comm (by omega)))).trans (blk_comm (by omega))) (((((((blk_comm (by omega)).trans (blk_in (blk_comm (by omega)))).trans (blk_in (blk_in (blk_comm (by omega))))).trans (blk_in (blk_in (blk_in (blk_comm (by omega)))))).trans (blk_in (blk_in (blk_in (blk_in (blk_comm (by omega))))))).trans (blk_in (blk_in (blk_in (blk_in (blk_in (blk_comm (by omega)))))))).trans (blk_in (blk_in (blk_in (blk_in (blk_in (blk_in (blk_comm (by omega))))))))) (c_Tokens_advance hs)
theorem w1_Tokens_expect {Γ : G9} {sg : Nat → Nat} {h : AH} {y g o u z : Nat} {K : TK} {F : FM} {E : TE} {N0 : NM} {N1 : NM} {N2 : NM} {N3 : NM} {N4 : NM} {x1 : Fin 54} (hs : SgOk Γ sg) (hsn : SgNe sg) (geo : y + 4 ≤ o ∧ o + 7 ≤ u) (hN0 : nm_sz N0 ≤ 6) (hN1 : nm_sz N1 ≤ 6) (hN2 : nm_sz N2 ≤ 6) (hN3 : nm_sz N3 ≤ 6) (hN4 : nm_sz N4 ≤ 6) : CallR Γ M_Tokens_expect 1 [.ref y, .ref (sg x1.val)] (rw_ Γ sg h y g o u K F E N0 N1 N2 N3 N4) z none (rw_ Γ sg h y g o u (s_Tokens_expect K x1) F E N0 N1 N2 N3 N4) := by
  unfold rw_
  exact CallR.conv (((((((blk_in (blk_in (blk_in (blk_in (blk_in (blk_in (blk_comm (by omega)))))))).trans (blk_in (blk_in (blk_in (blk_in (blk_in (blk_comm (by omega)))))))).trans (blk_in (blk_in (blk_in (blk_in (blk_comm (by omega))))))).trans (blk_in (blk_in (blk_in (blk_comm (by omega)))))).trans (blk_in (blk_in (blk_comm (by omega))))).trans (blk_in (blk_comm (by omega)))).trans (blk_comm (by omega))) (((((((blk_comm (by omega)).trans (blk_in (blk_comm (by omega)))).trans (blk_in (blk_in (blk_comm (by omega))))).trans (blk_in (blk_in (blk_in (blk_comm (by omega)))))).trans (blk_in (blk_in (blk_in (blk_in (blk_comm (by omega))))))).trans (blk_in (blk_in (blk_in (blk_in (blk_in (blk_comm (by omega)))))))).trans (blk_in (blk_in (blk_in (blk_in (blk_in (blk_in (blk_comm (by omega))))))))) (c_Tokens_expect (x1 := x1) hs hsn)
theorem w1_Tokens_breakOff {Γ : G9} {sg : Nat → Nat} {h : AH} {y g o u z : Nat} {K : TK} {F : FM} {E : TE} {N0 : NM} {N1 : NM} {N2 : NM} {N3 : NM} {N4 : NM} (hs : SgOk Γ sg) (hsn : SgNe sg) (geo : y + 4 ≤ o ∧ o + 7 ≤ u) (hN0 : nm_sz N0 ≤ 6) (hN1 : nm_sz N1 ≤ 6) (hN2 : nm_sz N2 ≤ 6) (hN3 : nm_sz N3 ≤ 6) (hN4 : nm_sz N4 ≤ 6) : CallR Γ M_Tokens_breakOff 0 [.ref y] (rw_ Γ sg h y g o u K F E N0 N1 N2 N3 N4) z none (rw_ Γ sg h y g o u (s_Tokens_breakOff K) F E N0 N1 N2 N3 N4) := by
  unfold rw_
  exact CallR.conv (((((((blk_in (blk_in (blk_in (blk_in (blk_in (blk_in (blk_comm (by omega)))))))).trans (blk_in (blk_in (blk_in (blk_in (blk_in (blk_comm (by omega)))))))).trans (blk_in (blk_in (blk_in (blk_in (blk_comm (by omega))))))).trans (blk_in (blk_in (blk_in (blk_comm (by omega)))))).trans (blk_in (blk_in (blk_comm (by omega))))).trans (blk_in (blk_comm (by omega)))).trans (blk_comm (by omega))) (((((((blk_comm (by omega)).trans (blk_in (blk_comm (by omega)))).trans (blk_in (blk_in (blk_comm (by omega))))).trans (blk_in (blk_in (blk_in (blk_comm (by omega)))))).trans (blk_in (blk_in (blk_in (blk_in (blk_comm (by omega))))))).trans (blk_in (blk_in (blk_in (blk_in (blk_in (blk_comm (by omega)))))))).trans (blk_in (blk_in (blk_in (blk_in (blk_in (blk_in (blk_comm (by omega))))))))) (c_Tokens_breakOff hs)
theorem w1_Tokens_brokenAt {Γ : G9} {sg : Nat → Nat} {h : AH} {y g o u z : Nat} {K : TK} {F : FM} {E : TE} {N0 : NM} {N1 : NM} {N2 : NM} {N3 : NM} {N4 : NM} (hs : SgOk Γ sg) (hsn : SgNe sg) (geo : y + 4 ≤ o ∧ o + 7 ≤ u) (hN0 : nm_sz N0 ≤ 6) (hN1 : nm_sz N1 ≤ 6) (hN2 : nm_sz N2 ≤ 6) (hN3 : nm_sz N3 ≤ 6) (hN4 : nm_sz N4 ≤ 6) : CallR Γ M_Tokens_brokenAt 0 [.ref y] (rw_ Γ sg h y g o u K F E N0 N1 N2 N3 N4) z (some (.int (s_Tokens_brokenAt K))) (rw_ Γ sg h y g o u K F E N0 N1 N2 N3 N4) := by
  unfold rw_
  exact CallR.conv (((((((blk_in (blk_in (blk_in (blk_in (blk_in (blk_in (blk_comm (by omega)))))))).trans (blk_in (blk_in (blk_in (blk_in (blk_in (blk_comm (by omega)))))))).trans (blk_in (blk_in (blk_in (blk_in (blk_comm (by omega))))))).trans (blk_in (blk_in (blk_in (blk_comm (by omega)))))).trans (blk_in (blk_in (blk_comm (by omega))))).trans (blk_in (blk_comm (by omega)))).trans (blk_comm (by omega))) (((((((blk_comm (by omega)).trans (blk_in (blk_comm (by omega)))).trans (blk_in (blk_in (blk_comm (by omega))))).trans (blk_in (blk_in (blk_in (blk_comm (by omega)))))).trans (blk_in (blk_in (blk_in (blk_in (blk_comm (by omega))))))).trans (blk_in (blk_in (blk_in (blk_in (blk_in (blk_comm (by omega)))))))).trans (blk_in (blk_in (blk_in (blk_in (blk_in (blk_in (blk_comm (by omega))))))))) (c_Tokens_brokenAt)
theorem w1_Formulas_put {Γ : G9} {sg : Nat → Nat} {h : AH} {y g o u z : Nat} {K : TK} {F : FM} {E : TE} {N0 : NM} {N1 : NM} {N2 : NM} {N3 : NM} {N4 : NM} {x1 : Fin 54} {x2 : Int32} (hs : SgOk Γ sg) (hsn : SgNe sg) (geo : y + 4 ≤ o ∧ o + 7 ≤ u) (hN0 : nm_sz N0 ≤ 6) (hN1 : nm_sz N1 ≤ 6) (hN2 : nm_sz N2 ≤ 6) (hN3 : nm_sz N3 ≤ 6) (hN4 : nm_sz N4 ≤ 6) : CallR Γ M_Formulas_put 0 [.ref (o + 3), .ref (sg x1.val), .int x2] (rw_ Γ sg h y g o u K F E N0 N1 N2 N3 N4) z none (rw_ Γ sg h y g o u K (s_Formulas_put F x1 x2) E N0 N1 N2 N3 N4) := by
  unfold rw_
  exact CallR.conv ((((((blk_in (blk_in (blk_in (blk_in (blk_in (blk_comm (by omega))))))).trans (blk_in (blk_in (blk_in (blk_in (blk_comm (by omega))))))).trans (blk_in (blk_in (blk_in (blk_comm (by omega)))))).trans (blk_in (blk_in (blk_comm (by omega))))).trans (blk_in (blk_comm (by omega)))).trans (blk_comm (by omega))) ((((((blk_comm (by omega)).trans (blk_in (blk_comm (by omega)))).trans (blk_in (blk_in (blk_comm (by omega))))).trans (blk_in (blk_in (blk_in (blk_comm (by omega)))))).trans (blk_in (blk_in (blk_in (blk_in (blk_comm (by omega))))))).trans (blk_in (blk_in (blk_in (blk_in (blk_in (blk_comm (by omega)))))))) (c_Formulas_put (x1 := x1) hs)
theorem w1_Formulas_size {Γ : G9} {sg : Nat → Nat} {h : AH} {y g o u z : Nat} {K : TK} {F : FM} {E : TE} {N0 : NM} {N1 : NM} {N2 : NM} {N3 : NM} {N4 : NM} (hs : SgOk Γ sg) (hsn : SgNe sg) (geo : y + 4 ≤ o ∧ o + 7 ≤ u) (hN0 : nm_sz N0 ≤ 6) (hN1 : nm_sz N1 ≤ 6) (hN2 : nm_sz N2 ≤ 6) (hN3 : nm_sz N3 ≤ 6) (hN4 : nm_sz N4 ≤ 6) : CallR Γ M_Formulas_size 0 [.ref (o + 3)] (rw_ Γ sg h y g o u K F E N0 N1 N2 N3 N4) z (some (.int (s_Formulas_size F))) (rw_ Γ sg h y g o u K F E N0 N1 N2 N3 N4) := by
  unfold rw_
  exact CallR.conv ((((((blk_in (blk_in (blk_in (blk_in (blk_in (blk_comm (by omega))))))).trans (blk_in (blk_in (blk_in (blk_in (blk_comm (by omega))))))).trans (blk_in (blk_in (blk_in (blk_comm (by omega)))))).trans (blk_in (blk_in (blk_comm (by omega))))).trans (blk_in (blk_comm (by omega)))).trans (blk_comm (by omega))) ((((((blk_comm (by omega)).trans (blk_in (blk_comm (by omega)))).trans (blk_in (blk_in (blk_comm (by omega))))).trans (blk_in (blk_in (blk_in (blk_comm (by omega)))))).trans (blk_in (blk_in (blk_in (blk_in (blk_comm (by omega))))))).trans (blk_in (blk_in (blk_in (blk_in (blk_in (blk_comm (by omega)))))))) (c_Formulas_size)
theorem w1_Teacher_goesDeeper {Γ : G9} {sg : Nat → Nat} {h : AH} {y g o u z : Nat} {K : TK} {F : FM} {E : TE} {N0 : NM} {N1 : NM} {N2 : NM} {N3 : NM} {N4 : NM} {x1 : Nat} {vx1 : Int32} (ex1 : vx1 = nI x1) (bx1 : x1 ≤ 8) (hs : SgOk Γ sg) (hsn : SgNe sg) (geo : y + 4 ≤ o ∧ o + 7 ≤ u) (hN0 : nm_sz N0 ≤ 6) (hN1 : nm_sz N1 ≤ 6) (hN2 : nm_sz N2 ≤ 6) (hN3 : nm_sz N3 ≤ 6) (hN4 : nm_sz N4 ≤ 6) : CallR Γ M_Teacher_goesDeeper 1 [.ref u, .int vx1] (rw_ Γ sg h y g o u K F E N0 N1 N2 N3 N4) z (some (.int (s_Teacher_goesDeeper K E x1).1)) (rw_ Γ sg h y g o u (s_Teacher_goesDeeper K E x1).2 F E N0 N1 N2 N3 N4) := by
  subst ex1
  unfold rw_
  exact CallR.conv (((((((((((blk_in (blk_in (blk_in (blk_in (blk_comm (by omega)))))).trans (blk_in (blk_in (blk_in (blk_comm (by omega)))))).trans (blk_in (blk_in (blk_comm (by omega))))).trans (blk_in (blk_comm (by omega)))).trans (blk_comm (by omega))).trans (blk_in (blk_in (blk_in (blk_in (blk_in (blk_in (blk_comm (by omega))))))))).trans (blk_in (blk_in (blk_in (blk_in (blk_in (blk_comm (by omega)))))))).trans (blk_in (blk_in (blk_in (blk_in (blk_comm (by omega))))))).trans (blk_in (blk_in (blk_in (blk_comm (by omega)))))).trans (blk_in (blk_in (blk_comm (by omega))))).trans (blk_in (blk_comm (by omega)))) (((((((((((blk_in (blk_comm (by omega))).trans (blk_comm (by omega))).trans (blk_in (blk_in (blk_comm (by omega))))).trans (blk_in (blk_comm (by omega)))).trans (blk_in (blk_in (blk_in (blk_comm (by omega)))))).trans (blk_in (blk_in (blk_comm (by omega))))).trans (blk_in (blk_in (blk_in (blk_in (blk_comm (by omega))))))).trans (blk_in (blk_in (blk_in (blk_comm (by omega)))))).trans (blk_in (blk_in (blk_in (blk_in (blk_in (blk_comm (by omega)))))))).trans (blk_in (blk_in (blk_in (blk_in (blk_comm (by omega))))))).trans (blk_in (blk_in (blk_in (blk_in (blk_in (blk_in (blk_comm (by omega))))))))) (c_Teacher_goesDeeper (x1 := x1) rfl (by omega) hs (by omega))
theorem w1_Teacher_number {Γ : G9} {sg : Nat → Nat} {h : AH} {y g o u z : Nat} {K : TK} {F : FM} {E : TE} {N0 : NM} {N1 : NM} {N2 : NM} {N3 : NM} {N4 : NM} {x1 : Fin 54} {x2 : Int32} {x3 : Int32} (hs : SgOk Γ sg) (hsn : SgNe sg) (geo : y + 4 ≤ o ∧ o + 7 ≤ u) (hN0 : nm_sz N0 ≤ 6) (hN1 : nm_sz N1 ≤ 6) (hN2 : nm_sz N2 ≤ 6) (hN3 : nm_sz N3 ≤ 6) (hN4 : nm_sz N4 ≤ 6) : CallR Γ M_Teacher_number 2 [.ref u, .ref (sg x1.val), .int x2, .int x3] (rw_ Γ sg h y g o u K F E N0 N1 N2 N3 N4) z (some (.int (s_Teacher_number K E x1 x2 x3).1)) (rw_ Γ sg h y g o u (s_Teacher_number K E x1 x2 x3).2.1 F (s_Teacher_number K E x1 x2 x3).2.2 N0 N1 N2 N3 N4) := by
  unfold rw_
  exact CallR.conv (((((((((((blk_in (blk_in (blk_in (blk_in (blk_comm (by omega)))))).trans (blk_in (blk_in (blk_in (blk_comm (by omega)))))).trans (blk_in (blk_in (blk_comm (by omega))))).trans (blk_in (blk_comm (by omega)))).trans (blk_comm (by omega))).trans (blk_in (blk_in (blk_in (blk_in (blk_in (blk_in (blk_comm (by omega))))))))).trans (blk_in (blk_in (blk_in (blk_in (blk_in (blk_comm (by omega)))))))).trans (blk_in (blk_in (blk_in (blk_in (blk_comm (by omega))))))).trans (blk_in (blk_in (blk_in (blk_comm (by omega)))))).trans (blk_in (blk_in (blk_comm (by omega))))).trans (blk_in (blk_comm (by omega)))) (((((((((((blk_in (blk_comm (by omega))).trans (blk_comm (by omega))).trans (blk_in (blk_in (blk_comm (by omega))))).trans (blk_in (blk_comm (by omega)))).trans (blk_in (blk_in (blk_in (blk_comm (by omega)))))).trans (blk_in (blk_in (blk_comm (by omega))))).trans (blk_in (blk_in (blk_in (blk_in (blk_comm (by omega))))))).trans (blk_in (blk_in (blk_in (blk_comm (by omega)))))).trans (blk_in (blk_in (blk_in (blk_in (blk_in (blk_comm (by omega)))))))).trans (blk_in (blk_in (blk_in (blk_in (blk_comm (by omega))))))).trans (blk_in (blk_in (blk_in (blk_in (blk_in (blk_in (blk_comm (by omega))))))))) (c_Teacher_number (x1 := x1) hs hsn (by omega))
theorem w1_Teacher_oldName_0 {Γ : G9} {sg : Nat → Nat} {h : AH} {y g o u z : Nat} {K : TK} {F : FM} {E : TE} {N0 : NM} {N1 : NM} {N2 : NM} {N3 : NM} {N4 : NM} {x1 : Fin 54} (hs : SgOk Γ sg) (hsn : SgNe sg) (geo : y + 4 ≤ o ∧ o + 7 ≤ u) (hN0 : nm_sz N0 ≤ 6) (hN1 : nm_sz N1 ≤ 6) (hN2 : nm_sz N2 ≤ 6) (hN3 : nm_sz N3 ≤ 6) (hN4 : nm_sz N4 ≤ 6) : CallR Γ M_Teacher_oldName 2 [.ref u, .ref (sg x1.val), .ref (u + 1)] (rw_ Γ sg h y g o u K F E N0 N1 N2 N3 N4) z (some (.int (s_Teacher_oldName K E N0 x1).1)) (rw_ Γ sg h y g o u (s_Teacher_oldName K E N0 x1).2.1 F (s_Teacher_oldName K E N0 x1).2.2 N0 N1 N2 N3 N4) := by
  unfold rw_
  exact CallR.conv (((((((((((((blk_in (blk_in (blk_in (blk_comm (by omega))))).trans (blk_in (blk_in (blk_comm (by omega))))).trans (blk_in (blk_comm (by omega)))).trans (blk_comm (by omega))).trans (blk_in (blk_in (blk_in (blk_in (blk_comm (by omega))))))).trans (blk_in (blk_in (blk_in (blk_comm (by omega)))))).trans (blk_in (blk_in (blk_comm (by omega))))).trans (blk_in (blk_comm (by omega)))).trans (blk_in (blk_in (blk_in (blk_in (blk_in (blk_in (blk_comm (by omega))))))))).trans (blk_in (blk_in (blk_in (blk_in (blk_in (blk_comm (by omega)))))))).trans (blk_in (blk_in (blk_in (blk_in (blk_comm (by omega))))))).trans (blk_in (blk_in (blk_in (blk_comm (by omega)))))).trans (blk_in (blk_in (blk_comm (by omega))))) (((((((((((((blk_in (blk_in (blk_comm (by omega)))).trans (blk_in (blk_comm (by omega)))).trans (blk_comm (by omega))).trans (blk_in (blk_in (blk_in (blk_comm (by omega)))))).trans (blk_in (blk_in (blk_comm (by omega))))).trans (blk_in (blk_comm (by omega)))).trans (blk_in (blk_in (blk_in (blk_in (blk_comm (by omega))))))).trans (blk_in (blk_in (blk_in (blk_comm (by omega)))))).trans (blk_in (blk_in (blk_comm (by omega))))).trans (blk_in (blk_in (blk_in (blk_in (blk_in (blk_comm (by omega)))))))).trans (blk_in (blk_in (blk_in (blk_in (blk_comm (by omega))))))).trans (blk_in (blk_in (blk_in (blk_comm (by omega)))))).trans (blk_in (blk_in (blk_in (blk_in (blk_in (blk_in (blk_comm (by omega))))))))) (c_Teacher_oldName (x1 := x1) hs hsn (by omega) hN0)
theorem w1_Teacher_newName_0 {Γ : G9} {sg : Nat → Nat} {h : AH} {y g o u z : Nat} {K : TK} {F : FM} {E : TE} {N0 : NM} {N1 : NM} {N2 : NM} {N3 : NM} {N4 : NM} {x2 : Int32} (hs : SgOk Γ sg) (hsn : SgNe sg) (geo : y + 4 ≤ o ∧ o + 7 ≤ u) (hN0 : nm_sz N0 ≤ 6) (hN1 : nm_sz N1 ≤ 6) (hN2 : nm_sz N2 ≤ 6) (hN3 : nm_sz N3 ≤ 6) (hN4 : nm_sz N4 ≤ 6) : CallR Γ M_Teacher_newName 2 [.ref u, .ref (u + 1), .int x2] (rw_ Γ sg h y g o u K F E N0 N1 N2 N3 N4) z none (rw_ Γ sg h y g o u (s_Teacher_newName K E N0 x2).1 F (s_Teacher_newName K E N0 x2).2.1 (s_Teacher_newName K E N0 x2).2.2 N1 N2 N3 N4) := by
  unfold rw_
  exact CallR.conv (((((((((((((blk_in (blk_in (blk_in (blk_comm (by omega))))).trans (blk_in (blk_in (blk_comm (by omega))))).trans (blk_in (blk_comm (by omega)))).trans (blk_comm (by omega))).trans (blk_in (blk_in (blk_in (blk_in (blk_comm (by omega))))))).trans (blk_in (blk_in (blk_in (blk_comm (by omega)))))).trans (blk_in (blk_in (blk_comm (by omega))))).trans (blk_in (blk_comm (by omega)))).trans (blk_in (blk_in (blk_in (blk_in (blk_in (blk_in (blk_comm (by omega))))))))).trans (blk_in (blk_in (blk_in (blk_in (blk_in (blk_comm (by omega)))))))).trans (blk_in (blk_in (blk_in (blk_in (blk_comm (by omega))))))).trans (blk_in (blk_in (blk_in (blk_comm (by omega)))))).trans (blk_in (blk_in (blk_comm (by omega))))) (((((((((((((blk_in (blk_in (blk_comm (by omega)))).trans (blk_in (blk_comm (by omega)))).trans (blk_comm (by omega))).trans (blk_in (blk_in (blk_in (blk_comm (by omega)))))).trans (blk_in (blk_in (blk_comm (by omega))))).trans (blk_in (blk_comm (by omega)))).trans (blk_in (blk_in (blk_in (blk_in (blk_comm (by omega))))))).trans (blk_in (blk_in (blk_in (blk_comm (by omega)))))).trans (blk_in (blk_in (blk_comm (by omega))))).trans (blk_in (blk_in (blk_in (blk_in (blk_in (blk_comm (by omega)))))))).trans (blk_in (blk_in (blk_in (blk_in (blk_comm (by omega))))))).trans (blk_in (blk_in (blk_in (blk_comm (by omega)))))).trans (blk_in (blk_in (blk_in (blk_in (blk_in (blk_in (blk_comm (by omega))))))))) (c_Teacher_newName hs hsn (by omega) hN0)
theorem w1_Teacher_oldName_1 {Γ : G9} {sg : Nat → Nat} {h : AH} {y g o u z : Nat} {K : TK} {F : FM} {E : TE} {N0 : NM} {N1 : NM} {N2 : NM} {N3 : NM} {N4 : NM} {x1 : Fin 54} (hs : SgOk Γ sg) (hsn : SgNe sg) (geo : y + 4 ≤ o ∧ o + 7 ≤ u) (hN0 : nm_sz N0 ≤ 6) (hN1 : nm_sz N1 ≤ 6) (hN2 : nm_sz N2 ≤ 6) (hN3 : nm_sz N3 ≤ 6) (hN4 : nm_sz N4 ≤ 6) : CallR Γ M_Teacher_oldName 2 [.ref u, .ref (sg x1.val), .ref (u + 3)] (rw_ Γ sg h y g o u K F E N0 N1 N2 N3 N4) z (some (.int (s_Teacher_oldName K E N1 x1).1)) (rw_ Γ sg h y g o u (s_Teacher_oldName K E N1 x1).2.1 F (s_Teacher_oldName K E N1 x1).2.2 N0 N1 N2 N3 N4) := by
  unfold rw_
  exact CallR.conv ((((((((((((blk_in (blk_in (blk_comm (by omega)))).trans (blk_in (blk_comm (by omega)))).trans (blk_comm (by omega))).trans (blk_in (blk_in (blk_in (blk_in (blk_comm (by omega))))))).trans (blk_in (blk_in (blk_in (blk_comm (by omega)))))).trans (blk_in (blk_in (blk_comm (by omega))))).trans (blk_in (blk_comm (by omega)))).trans (blk_in (blk_in (blk_in (blk_in (blk_in (blk_in (blk_comm (by omega))))))))).trans (blk_in (blk_in (blk_in (blk_in (blk_in (blk_comm (by omega)))))))).trans (blk_in (blk_in (blk_in (blk_in (blk_comm (by omega))))))).trans (blk_in (blk_in (blk_in (blk_comm (by omega)))))).trans (blk_in (blk_in (blk_comm (by omega))))) ((((((((((((blk_in (blk_in (blk_comm (by omega)))).trans (blk_in (blk_comm (by omega)))).trans (blk_comm (by omega))).trans (blk_in (blk_in (blk_in (blk_comm (by omega)))))).trans (blk_in (blk_in (blk_comm (by omega))))).trans (blk_in (blk_comm (by omega)))).trans (blk_in (blk_in (blk_in (blk_in (blk_comm (by omega))))))).trans (blk_in (blk_in (blk_in (blk_comm (by omega)))))).trans (blk_in (blk_in (blk_comm (by omega))))).trans (blk_in (blk_in (blk_in (blk_in (blk_in (blk_comm (by omega)))))))).trans (blk_in (blk_in (blk_in (blk_in (blk_comm (by omega))))))).trans (blk_in (blk_in (blk_in (blk_in (blk_in (blk_in (blk_comm (by omega))))))))) (c_Teacher_oldName (x1 := x1) hs hsn (by omega) hN1)
theorem w1_Teacher_newName_1 {Γ : G9} {sg : Nat → Nat} {h : AH} {y g o u z : Nat} {K : TK} {F : FM} {E : TE} {N0 : NM} {N1 : NM} {N2 : NM} {N3 : NM} {N4 : NM} {x2 : Int32} (hs : SgOk Γ sg) (hsn : SgNe sg) (geo : y + 4 ≤ o ∧ o + 7 ≤ u) (hN0 : nm_sz N0 ≤ 6) (hN1 : nm_sz N1 ≤ 6) (hN2 : nm_sz N2 ≤ 6) (hN3 : nm_sz N3 ≤ 6) (hN4 : nm_sz N4 ≤ 6) : CallR Γ M_Teacher_newName 2 [.ref u, .ref (u + 3), .int x2] (rw_ Γ sg h y g o u K F E N0 N1 N2 N3 N4) z none (rw_ Γ sg h y g o u (s_Teacher_newName K E N1 x2).1 F (s_Teacher_newName K E N1 x2).2.1 N0 (s_Teacher_newName K E N1 x2).2.2 N2 N3 N4) := by
  unfold rw_
  exact CallR.conv ((((((((((((blk_in (blk_in (blk_comm (by omega)))).trans (blk_in (blk_comm (by omega)))).trans (blk_comm (by omega))).trans (blk_in (blk_in (blk_in (blk_in (blk_comm (by omega))))))).trans (blk_in (blk_in (blk_in (blk_comm (by omega)))))).trans (blk_in (blk_in (blk_comm (by omega))))).trans (blk_in (blk_comm (by omega)))).trans (blk_in (blk_in (blk_in (blk_in (blk_in (blk_in (blk_comm (by omega))))))))).trans (blk_in (blk_in (blk_in (blk_in (blk_in (blk_comm (by omega)))))))).trans (blk_in (blk_in (blk_in (blk_in (blk_comm (by omega))))))).trans (blk_in (blk_in (blk_in (blk_comm (by omega)))))).trans (blk_in (blk_in (blk_comm (by omega))))) ((((((((((((blk_in (blk_in (blk_comm (by omega)))).trans (blk_in (blk_comm (by omega)))).trans (blk_comm (by omega))).trans (blk_in (blk_in (blk_in (blk_comm (by omega)))))).trans (blk_in (blk_in (blk_comm (by omega))))).trans (blk_in (blk_comm (by omega)))).trans (blk_in (blk_in (blk_in (blk_in (blk_comm (by omega))))))).trans (blk_in (blk_in (blk_in (blk_comm (by omega)))))).trans (blk_in (blk_in (blk_comm (by omega))))).trans (blk_in (blk_in (blk_in (blk_in (blk_in (blk_comm (by omega)))))))).trans (blk_in (blk_in (blk_in (blk_in (blk_comm (by omega))))))).trans (blk_in (blk_in (blk_in (blk_in (blk_in (blk_in (blk_comm (by omega))))))))) (c_Teacher_newName hs hsn (by omega) hN1)
theorem w1_Teacher_oldName_2 {Γ : G9} {sg : Nat → Nat} {h : AH} {y g o u z : Nat} {K : TK} {F : FM} {E : TE} {N0 : NM} {N1 : NM} {N2 : NM} {N3 : NM} {N4 : NM} {x1 : Fin 54} (hs : SgOk Γ sg) (hsn : SgNe sg) (geo : y + 4 ≤ o ∧ o + 7 ≤ u) (hN0 : nm_sz N0 ≤ 6) (hN1 : nm_sz N1 ≤ 6) (hN2 : nm_sz N2 ≤ 6) (hN3 : nm_sz N3 ≤ 6) (hN4 : nm_sz N4 ≤ 6) : CallR Γ M_Teacher_oldName 2 [.ref u, .ref (sg x1.val), .ref (u + 5)] (rw_ Γ sg h y g o u K F E N0 N1 N2 N3 N4) z (some (.int (s_Teacher_oldName K E N2 x1).1)) (rw_ Γ sg h y g o u (s_Teacher_oldName K E N2 x1).2.1 F (s_Teacher_oldName K E N2 x1).2.2 N0 N1 N2 N3 N4) := by
  unfold rw_
  exact CallR.conv (((((((((((blk_in (blk_comm (by omega))).trans (blk_comm (by omega))).trans (blk_in (blk_in (blk_in (blk_in (blk_comm (by omega))))))).trans (blk_in (blk_in (blk_in (blk_comm (by omega)))))).trans (blk_in (blk_in (blk_comm (by omega))))).trans (blk_in (blk_comm (by omega)))).trans (blk_in (blk_in (blk_in (blk_in (blk_in (blk_in (blk_comm (by omega))))))))).trans (blk_in (blk_in (blk_in (blk_in (blk_in (blk_comm (by omega)))))))).trans (blk_in (blk_in (blk_in (blk_in (blk_comm (by omega))))))).trans (blk_in (blk_in (blk_in (blk_comm (by omega)))))).trans (blk_in (blk_in (blk_comm (by omega))))) (((((((((((blk_in (blk_in (blk_comm (by omega)))).trans (blk_in (blk_comm (by omega)))).trans (blk_comm (by omega))).trans (blk_in (blk_in (blk_in (blk_comm (by omega)))))).trans (blk_in (blk_in (blk_comm (by omega))))).trans (blk_in (blk_comm (by omega)))).trans (blk_in (blk_in (blk_in (blk_in (blk_comm (by omega))))))).trans (blk_in (blk_in (blk_in (blk_comm (by omega)))))).trans (blk_in (blk_in (blk_in (blk_in (blk_in (blk_comm (by omega)))))))).trans (blk_in (blk_in (blk_in (blk_in (blk_comm (by omega))))))).trans (blk_in (blk_in (blk_in (blk_in (blk_in (blk_in (blk_comm (by omega))))))))) (c_Teacher_oldName (x1 := x1) hs hsn (by omega) hN2)
theorem w1_Teacher_newName_2 {Γ : G9} {sg : Nat → Nat} {h : AH} {y g o u z : Nat} {K : TK} {F : FM} {E : TE} {N0 : NM} {N1 : NM} {N2 : NM} {N3 : NM} {N4 : NM} {x2 : Int32} (hs : SgOk Γ sg) (hsn : SgNe sg) (geo : y + 4 ≤ o ∧ o + 7 ≤ u) (hN0 : nm_sz N0 ≤ 6) (hN1 : nm_sz N1 ≤ 6) (hN2 : nm_sz N2 ≤ 6) (hN3 : nm_sz N3 ≤ 6) (hN4 : nm_sz N4 ≤ 6) : CallR Γ M_Teacher_newName 2 [.ref u, .ref (u + 5), .int x2] (rw_ Γ sg h y g o u K F E N0 N1 N2 N3 N4) z none (rw_ Γ sg h y g o u (s_Teacher_newName K E N2 x2).1 F (s_Teacher_newName K E N2 x2).2.1 N0 N1 (s_Teacher_newName K E N2 x2).2.2 N3 N4) := by
  unfold rw_
  exact CallR.conv (((((((((((blk_in (blk_comm (by omega))).trans (blk_comm (by omega))).trans (blk_in (blk_in (blk_in (blk_in (blk_comm (by omega))))))).trans (blk_in (blk_in (blk_in (blk_comm (by omega)))))).trans (blk_in (blk_in (blk_comm (by omega))))).trans (blk_in (blk_comm (by omega)))).trans (blk_in (blk_in (blk_in (blk_in (blk_in (blk_in (blk_comm (by omega))))))))).trans (blk_in (blk_in (blk_in (blk_in (blk_in (blk_comm (by omega)))))))).trans (blk_in (blk_in (blk_in (blk_in (blk_comm (by omega))))))).trans (blk_in (blk_in (blk_in (blk_comm (by omega)))))).trans (blk_in (blk_in (blk_comm (by omega))))) (((((((((((blk_in (blk_in (blk_comm (by omega)))).trans (blk_in (blk_comm (by omega)))).trans (blk_comm (by omega))).trans (blk_in (blk_in (blk_in (blk_comm (by omega)))))).trans (blk_in (blk_in (blk_comm (by omega))))).trans (blk_in (blk_comm (by omega)))).trans (blk_in (blk_in (blk_in (blk_in (blk_comm (by omega))))))).trans (blk_in (blk_in (blk_in (blk_comm (by omega)))))).trans (blk_in (blk_in (blk_in (blk_in (blk_in (blk_comm (by omega)))))))).trans (blk_in (blk_in (blk_in (blk_in (blk_comm (by omega))))))).trans (blk_in (blk_in (blk_in (blk_in (blk_in (blk_in (blk_comm (by omega))))))))) (c_Teacher_newName hs hsn (by omega) hN2)
theorem w1_Teacher_oldName_3 {Γ : G9} {sg : Nat → Nat} {h : AH} {y g o u z : Nat} {K : TK} {F : FM} {E : TE} {N0 : NM} {N1 : NM} {N2 : NM} {N3 : NM} {N4 : NM} {x1 : Fin 54} (hs : SgOk Γ sg) (hsn : SgNe sg) (geo : y + 4 ≤ o ∧ o + 7 ≤ u) (hN0 : nm_sz N0 ≤ 6) (hN1 : nm_sz N1 ≤ 6) (hN2 : nm_sz N2 ≤ 6) (hN3 : nm_sz N3 ≤ 6) (hN4 : nm_sz N4 ≤ 6) : CallR Γ M_Teacher_oldName 2 [.ref u, .ref (sg x1.val), .ref (u + 7)] (rw_ Γ sg h y g o u K F E N0 N1 N2 N3 N4) z (some (.int (s_Teacher_oldName K E N3 x1).1)) (rw_ Γ sg h y g o u (s_Teacher_oldName K E N3 x1).2.1 F (s_Teacher_oldName K E N3 x1).2.2 N0 N1 N2 N3 N4) := by
  unfold rw_
  exact CallR.conv ((((((((((blk_comm (by omega)).trans (blk_in (blk_in (blk_in (blk_in (blk_comm (by omega))))))).trans (blk_in (blk_in (blk_in (blk_comm (by omega)))))).trans (blk_in (blk_in (blk_comm (by omega))))).trans (blk_in (blk_comm (by omega)))).trans (blk_in (blk_in (blk_in (blk_in (blk_in (blk_in (blk_comm (by omega))))))))).trans (blk_in (blk_in (blk_in (blk_in (blk_in (blk_comm (by omega)))))))).trans (blk_in (blk_in (blk_in (blk_in (blk_comm (by omega))))))).trans (blk_in (blk_in (blk_in (blk_comm (by omega)))))).trans (blk_in (blk_in (blk_comm (by omega))))) ((((((((((blk_in (blk_in (blk_comm (by omega)))).trans (blk_in (blk_comm (by omega)))).trans (blk_comm (by omega))).trans (blk_in (blk_in (blk_in (blk_comm (by omega)))))).trans (blk_in (blk_in (blk_comm (by omega))))).trans (blk_in (blk_in (blk_in (blk_in (blk_comm (by omega))))))).trans (blk_in (blk_in (blk_in (blk_comm (by omega)))))).trans (blk_in (blk_in (blk_in (blk_in (blk_in (blk_comm (by omega)))))))).trans (blk_in (blk_in (blk_in (blk_in (blk_comm (by omega))))))).trans (blk_in (blk_in (blk_in (blk_in (blk_in (blk_in (blk_comm (by omega))))))))) (c_Teacher_oldName (x1 := x1) hs hsn (by omega) hN3)
theorem w1_Teacher_newName_3 {Γ : G9} {sg : Nat → Nat} {h : AH} {y g o u z : Nat} {K : TK} {F : FM} {E : TE} {N0 : NM} {N1 : NM} {N2 : NM} {N3 : NM} {N4 : NM} {x2 : Int32} (hs : SgOk Γ sg) (hsn : SgNe sg) (geo : y + 4 ≤ o ∧ o + 7 ≤ u) (hN0 : nm_sz N0 ≤ 6) (hN1 : nm_sz N1 ≤ 6) (hN2 : nm_sz N2 ≤ 6) (hN3 : nm_sz N3 ≤ 6) (hN4 : nm_sz N4 ≤ 6) : CallR Γ M_Teacher_newName 2 [.ref u, .ref (u + 7), .int x2] (rw_ Γ sg h y g o u K F E N0 N1 N2 N3 N4) z none (rw_ Γ sg h y g o u (s_Teacher_newName K E N3 x2).1 F (s_Teacher_newName K E N3 x2).2.1 N0 N1 N2 (s_Teacher_newName K E N3 x2).2.2 N4) := by
  unfold rw_
  exact CallR.conv ((((((((((blk_comm (by omega)).trans (blk_in (blk_in (blk_in (blk_in (blk_comm (by omega))))))).trans (blk_in (blk_in (blk_in (blk_comm (by omega)))))).trans (blk_in (blk_in (blk_comm (by omega))))).trans (blk_in (blk_comm (by omega)))).trans (blk_in (blk_in (blk_in (blk_in (blk_in (blk_in (blk_comm (by omega))))))))).trans (blk_in (blk_in (blk_in (blk_in (blk_in (blk_comm (by omega)))))))).trans (blk_in (blk_in (blk_in (blk_in (blk_comm (by omega))))))).trans (blk_in (blk_in (blk_in (blk_comm (by omega)))))).trans (blk_in (blk_in (blk_comm (by omega))))) ((((((((((blk_in (blk_in (blk_comm (by omega)))).trans (blk_in (blk_comm (by omega)))).trans (blk_comm (by omega))).trans (blk_in (blk_in (blk_in (blk_comm (by omega)))))).trans (blk_in (blk_in (blk_comm (by omega))))).trans (blk_in (blk_in (blk_in (blk_in (blk_comm (by omega))))))).trans (blk_in (blk_in (blk_in (blk_comm (by omega)))))).trans (blk_in (blk_in (blk_in (blk_in (blk_in (blk_comm (by omega)))))))).trans (blk_in (blk_in (blk_in (blk_in (blk_comm (by omega))))))).trans (blk_in (blk_in (blk_in (blk_in (blk_in (blk_in (blk_comm (by omega))))))))) (c_Teacher_newName hs hsn (by omega) hN3)
theorem w1_Teacher_oldName_4 {Γ : G9} {sg : Nat → Nat} {h : AH} {y g o u z : Nat} {K : TK} {F : FM} {E : TE} {N0 : NM} {N1 : NM} {N2 : NM} {N3 : NM} {N4 : NM} {x1 : Fin 54} (hs : SgOk Γ sg) (hsn : SgNe sg) (geo : y + 4 ≤ o ∧ o + 7 ≤ u) (hN0 : nm_sz N0 ≤ 6) (hN1 : nm_sz N1 ≤ 6) (hN2 : nm_sz N2 ≤ 6) (hN3 : nm_sz N3 ≤ 6) (hN4 : nm_sz N4 ≤ 6) : CallR Γ M_Teacher_oldName 2 [.ref u, .ref (sg x1.val), .ref (u + 9)] (rw_ Γ sg h y g o u K F E N0 N1 N2 N3 N4) z (some (.int (s_Teacher_oldName K E N4 x1).1)) (rw_ Γ sg h y g o u (s_Teacher_oldName K E N4 x1).2.1 F (s_Teacher_oldName K E N4 x1).2.2 N0 N1 N2 N3 N4) := by
  unfold rw_
  exact CallR.conv (((((((((blk_in (blk_in (blk_in (blk_in (blk_comm (by omega)))))).trans (blk_in (blk_in (blk_in (blk_comm (by omega)))))).trans (blk_in (blk_in (blk_comm (by omega))))).trans (blk_in (blk_comm (by omega)))).trans (blk_in (blk_in (blk_in (blk_in (blk_in (blk_in (blk_comm (by omega))))))))).trans (blk_in (blk_in (blk_in (blk_in (blk_in (blk_comm (by omega)))))))).trans (blk_in (blk_in (blk_in (blk_in (blk_comm (by omega))))))).trans (blk_in (blk_in (blk_in (blk_comm (by omega)))))).trans (blk_in (blk_in (blk_comm (by omega))))) (((((((((blk_in (blk_in (blk_comm (by omega)))).trans (blk_in (blk_comm (by omega)))).trans (blk_in (blk_in (blk_in (blk_comm (by omega)))))).trans (blk_in (blk_in (blk_comm (by omega))))).trans (blk_in (blk_in (blk_in (blk_in (blk_comm (by omega))))))).trans (blk_in (blk_in (blk_in (blk_comm (by omega)))))).trans (blk_in (blk_in (blk_in (blk_in (blk_in (blk_comm (by omega)))))))).trans (blk_in (blk_in (blk_in (blk_in (blk_comm (by omega))))))).trans (blk_in (blk_in (blk_in (blk_in (blk_in (blk_in (blk_comm (by omega))))))))) (c_Teacher_oldName (x1 := x1) hs hsn (by omega) hN4)
theorem w1_Teacher_newName_4 {Γ : G9} {sg : Nat → Nat} {h : AH} {y g o u z : Nat} {K : TK} {F : FM} {E : TE} {N0 : NM} {N1 : NM} {N2 : NM} {N3 : NM} {N4 : NM} {x2 : Int32} (hs : SgOk Γ sg) (hsn : SgNe sg) (geo : y + 4 ≤ o ∧ o + 7 ≤ u) (hN0 : nm_sz N0 ≤ 6) (hN1 : nm_sz N1 ≤ 6) (hN2 : nm_sz N2 ≤ 6) (hN3 : nm_sz N3 ≤ 6) (hN4 : nm_sz N4 ≤ 6) : CallR Γ M_Teacher_newName 2 [.ref u, .ref (u + 9), .int x2] (rw_ Γ sg h y g o u K F E N0 N1 N2 N3 N4) z none (rw_ Γ sg h y g o u (s_Teacher_newName K E N4 x2).1 F (s_Teacher_newName K E N4 x2).2.1 N0 N1 N2 N3 (s_Teacher_newName K E N4 x2).2.2) := by
  unfold rw_
  exact CallR.conv (((((((((blk_in (blk_in (blk_in (blk_in (blk_comm (by omega)))))).trans (blk_in (blk_in (blk_in (blk_comm (by omega)))))).trans (blk_in (blk_in (blk_comm (by omega))))).trans (blk_in (blk_comm (by omega)))).trans (blk_in (blk_in (blk_in (blk_in (blk_in (blk_in (blk_comm (by omega))))))))).trans (blk_in (blk_in (blk_in (blk_in (blk_in (blk_comm (by omega)))))))).trans (blk_in (blk_in (blk_in (blk_in (blk_comm (by omega))))))).trans (blk_in (blk_in (blk_in (blk_comm (by omega)))))).trans (blk_in (blk_in (blk_comm (by omega))))) (((((((((blk_in (blk_in (blk_comm (by omega)))).trans (blk_in (blk_comm (by omega)))).trans (blk_in (blk_in (blk_in (blk_comm (by omega)))))).trans (blk_in (blk_in (blk_comm (by omega))))).trans (blk_in (blk_in (blk_in (blk_in (blk_comm (by omega))))))).trans (blk_in (blk_in (blk_in (blk_comm (by omega)))))).trans (blk_in (blk_in (blk_in (blk_in (blk_in (blk_comm (by omega)))))))).trans (blk_in (blk_in (blk_in (blk_in (blk_comm (by omega))))))).trans (blk_in (blk_in (blk_in (blk_in (blk_in (blk_in (blk_comm (by omega))))))))) (c_Teacher_newName hs hsn (by omega) hN4)
theorem w2_Orders_note {Γ : G9} {sg : Nat → Nat} {h : AH} {y g o u z : Nat} {K : TK} {F : FM} {E : TE} {N0 : NM} {N1 : NM} {N2 : NM} {N3 : NM} {N4 : NM} {T : TM} {σ : GL} {x1 : Nat} {vx1 : Int32} {x2 : Int32} (ex1 : vx1 = nI x1) (bx1 : x1 < 8) (hs : SgOk Γ sg) (hsn : SgNe sg) (geo : y + 4 ≤ g ∧ g + 12 ≤ o ∧ o + 7 ≤ u) (hN0 : nm_sz N0 ≤ 6) (hN1 : nm_sz N1 ≤ 6) (hN2 : nm_sz N2 ≤ 6) (hN3 : nm_sz N3 ≤ 6) (hN4 : nm_sz N4 ≤ 6) (ho : h o = some (.inr (3, [.ref (o + 1), .ref (o + 3)]))) (hT : T.2 ≤ 20) (hW : WFG σ) : CallR Γ M_Orders_note 1 [.ref o, .int vx1, .int x2] (rw_ Γ sg (blk (blk h g 12 (glC Γ g σ)) (o + 1) 2 (tbC Γ 20 (o + 1) T)) y g o u K F E N0 N1 N2 N3 N4) z none (rw_ Γ sg (blk (blk h g 12 (glC Γ g σ)) (o + 1) 2 (tbC Γ 20 (o + 1) (s_Orders_note T F x1 x2))) y g o u K F E N0 N1 N2 N3 N4) := by
  subst ex1
  unfold rw_
  exact CallR.conv (((((((((((((blk_in (blk_in (blk_in (blk_in (blk_in (blk_comm (by omega))))))).trans (blk_in (blk_in (blk_in (blk_in (blk_comm (by omega))))))).trans (blk_in (blk_in (blk_in (blk_comm (by omega)))))).trans (blk_in (blk_in (blk_comm (by omega))))).trans (blk_in (blk_comm (by omega)))).trans (blk_comm (by omega))).trans (blk_in (blk_in (blk_in (blk_in (blk_in (blk_in (blk_in (blk_comm (by omega)))))))))).trans (blk_in (blk_in (blk_in (blk_in (blk_in (blk_in (blk_comm (by omega))))))))).trans (blk_in (blk_in (blk_in (blk_in (blk_in (blk_comm (by omega)))))))).trans (blk_in (blk_in (blk_in (blk_in (blk_comm (by omega))))))).trans (blk_in (blk_in (blk_in (blk_comm (by omega)))))).trans (blk_in (blk_in (blk_comm (by omega))))).trans (blk_in (blk_comm (by omega)))) (((((((((((((blk_in (blk_comm (by omega))).trans (blk_comm (by omega))).trans (blk_in (blk_in (blk_comm (by omega))))).trans (blk_in (blk_comm (by omega)))).trans (blk_in (blk_in (blk_in (blk_comm (by omega)))))).trans (blk_in (blk_in (blk_comm (by omega))))).trans (blk_in (blk_in (blk_in (blk_in (blk_comm (by omega))))))).trans (blk_in (blk_in (blk_in (blk_comm (by omega)))))).trans (blk_in (blk_in (blk_in (blk_in (blk_in (blk_comm (by omega)))))))).trans (blk_in (blk_in (blk_in (blk_in (blk_comm (by omega))))))).trans (blk_in (blk_in (blk_in (blk_in (blk_in (blk_in (blk_comm (by omega))))))))).trans (blk_in (blk_in (blk_in (blk_in (blk_in (blk_comm (by omega)))))))).trans (blk_in (blk_in (blk_in (blk_in (blk_in (blk_in (blk_in (blk_comm (by omega)))))))))) (c_Orders_note (x1 := x1) rfl (by omega) (by exact ((blk_out (by omega)).trans ((blk_out (by omega)).trans ((blk_out (by omega)).trans ((blk_out (by omega)).trans ((blk_out (by omega)).trans ((blk_out (by omega)).trans ((blk_out (by omega)).trans ((blk_out (by omega)).trans ho))))))))) hT)
theorem w2_Teacher_newOrder {Γ : G9} {sg : Nat → Nat} {h : AH} {y g o u z : Nat} {K : TK} {F : FM} {E : TE} {N0 : NM} {N1 : NM} {N2 : NM} {N3 : NM} {N4 : NM} {T : TM} {σ : GL} {x1 : Int32} (hs : SgOk Γ sg) (hsn : SgNe sg) (geo : y + 4 ≤ g ∧ g + 12 ≤ o ∧ o + 7 ≤ u) (hN0 : nm_sz N0 ≤ 6) (hN1 : nm_sz N1 ≤ 6) (hN2 : nm_sz N2 ≤ 6) (hN3 : nm_sz N3 ≤ 6) (hN4 : nm_sz N4 ≤ 6) (ho : h o = some (.inr (3, [.ref (o + 1), .ref (o + 3)]))) (hT : T.2 ≤ 20) (hW : WFG σ) : CallR Γ M_Teacher_newOrder 2 [.ref u, .int x1] (rw_ Γ sg (blk (blk h g 12 (glC Γ g σ)) (o + 1) 2 (tbC Γ 20 (o + 1) T)) y g o u K F E N0 N1 N2 N3 N4) z none (rw_ Γ sg (blk (blk h g 12 (glC Γ g σ)) (o + 1) 2 (tbC Γ 20 (o + 1) (s_Teacher_newOrder T F K E x1).1)) y g o u K F (s_Teacher_newOrder T F K E x1).2 N0 N1 N2 N3 N4) := by
  unfold rw_
  exact CallR.conv (((((((((((((((((((((blk_in (blk_in (blk_in (blk_in (blk_comm (by omega)))))).trans (blk_in (blk_in (blk_in (blk_comm (by omega)))))).trans (blk_in (blk_in (blk_comm (by omega))))).trans (blk_in (blk_comm (by omega)))).trans (blk_comm (by omega))).trans (blk_in (blk_in (blk_in (blk_in (blk_in (blk_in (blk_comm (by omega))))))))).trans (blk_in (blk_in (blk_in (blk_in (blk_in (blk_comm (by omega)))))))).trans (blk_in (blk_in (blk_in (blk_in (blk_comm (by omega))))))).trans (blk_in (blk_in (blk_in (blk_comm (by omega)))))).trans (blk_in (blk_in (blk_comm (by omega))))).trans (blk_in (blk_comm (by omega)))).trans (blk_in (blk_in (blk_in (blk_in (blk_in (blk_in (blk_comm (by omega))))))))).trans (blk_in (blk_in (blk_in (blk_in (blk_in (blk_comm (by omega)))))))).trans (blk_in (blk_in (blk_in (blk_in (blk_comm (by omega))))))).trans (blk_in (blk_in (blk_in (blk_comm (by omega)))))).trans (blk_in (blk_in (blk_comm (by omega))))).trans (blk_in (blk_in (blk_in (blk_in (blk_in (blk_in (blk_in (blk_comm (by omega)))))))))).trans (blk_in (blk_in (blk_in (blk_in (blk_in (blk_in (blk_comm (by omega))))))))).trans (blk_in (blk_in (blk_in (blk_in (blk_in (blk_comm (by omega)))))))).trans (blk_in (blk_in (blk_in (blk_in (blk_comm (by omega))))))).trans (blk_in (blk_in (blk_in (blk_comm (by omega)))))) (((((((((((((((((((((blk_in (blk_in (blk_in (blk_comm (by omega))))).trans (blk_in (blk_in (blk_comm (by omega))))).trans (blk_in (blk_comm (by omega)))).trans (blk_comm (by omega))).trans (blk_in (blk_in (blk_in (blk_in (blk_comm (by omega))))))).trans (blk_in (blk_in (blk_in (blk_comm (by omega)))))).trans (blk_in (blk_in (blk_comm (by omega))))).trans (blk_in (blk_comm (by omega)))).trans (blk_in (blk_in (blk_in (blk_in (blk_in (blk_comm (by omega)))))))).trans (blk_in (blk_in (blk_in (blk_in (blk_comm (by omega))))))).trans (blk_in (blk_in (blk_in (blk_comm (by omega)))))).trans (blk_in (blk_in (blk_comm (by omega))))).trans (blk_in (blk_in (blk_in (blk_in (blk_in (blk_in (blk_comm (by omega))))))))).trans (blk_in (blk_in (blk_in (blk_in (blk_in (blk_comm (by omega)))))))).trans (blk_in (blk_in (blk_in (blk_in (blk_comm (by omega))))))).trans (blk_in (blk_in (blk_in (blk_comm (by omega)))))).trans (blk_in (blk_in (blk_in (blk_in (blk_in (blk_in (blk_in (blk_comm (by omega)))))))))).trans (blk_in (blk_in (blk_in (blk_in (blk_in (blk_in (blk_comm (by omega))))))))).trans (blk_in (blk_in (blk_in (blk_in (blk_in (blk_comm (by omega)))))))).trans (blk_in (blk_in (blk_in (blk_in (blk_comm (by omega))))))).trans (blk_in (blk_in (blk_in (blk_in (blk_in (blk_in (blk_comm (by omega))))))))) (c_Teacher_newOrder (by exact ((blk_out (by omega)).trans ((blk_out (by omega)).trans ((blk_out (by omega)).trans ((blk_out (by omega)).trans ((blk_out (by omega)).trans ((blk_out (by omega)).trans ho))))))) hT (by omega))
theorem w2_Glacier_addBand {Γ : G9} {sg : Nat → Nat} {h : AH} {y g o u z : Nat} {K : TK} {F : FM} {E : TE} {N0 : NM} {N1 : NM} {N2 : NM} {N3 : NM} {N4 : NM} {T : TM} {σ : GL} {x1 : Int32} {x2 : Int32} (hs : SgOk Γ sg) (hsn : SgNe sg) (geo : y + 4 ≤ g ∧ g + 12 ≤ o ∧ o + 7 ≤ u) (hN0 : nm_sz N0 ≤ 6) (hN1 : nm_sz N1 ≤ 6) (hN2 : nm_sz N2 ≤ 6) (hN3 : nm_sz N3 ≤ 6) (hN4 : nm_sz N4 ≤ 6) (ho : h o = some (.inr (3, [.ref (o + 1), .ref (o + 3)]))) (hT : T.2 ≤ 20) (hW : WFG σ) : CallR Γ M_Glacier_addBand 1 [.ref g, .int x1, .int x2] (rw_ Γ sg (blk (blk h g 12 (glC Γ g σ)) (o + 1) 2 (tbC Γ 20 (o + 1) T)) y g o u K F E N0 N1 N2 N3 N4) z none (rw_ Γ sg (blk (blk h g 12 (glC Γ g (s_Glacier_addBand σ x1 x2))) (o + 1) 2 (tbC Γ 20 (o + 1) T)) y g o u K F E N0 N1 N2 N3 N4) := by
  unfold rw_
  exact CallR.conv (((((((((blk_in (blk_in (blk_in (blk_in (blk_in (blk_in (blk_in (blk_in (blk_comm (by omega)))))))))).trans (blk_in (blk_in (blk_in (blk_in (blk_in (blk_in (blk_in (blk_comm (by omega)))))))))).trans (blk_in (blk_in (blk_in (blk_in (blk_in (blk_in (blk_comm (by omega))))))))).trans (blk_in (blk_in (blk_in (blk_in (blk_in (blk_comm (by omega)))))))).trans (blk_in (blk_in (blk_in (blk_in (blk_comm (by omega))))))).trans (blk_in (blk_in (blk_in (blk_comm (by omega)))))).trans (blk_in (blk_in (blk_comm (by omega))))).trans (blk_in (blk_comm (by omega)))).trans (blk_comm (by omega))) (((((((((blk_comm (by omega)).trans (blk_in (blk_comm (by omega)))).trans (blk_in (blk_in (blk_comm (by omega))))).trans (blk_in (blk_in (blk_in (blk_comm (by omega)))))).trans (blk_in (blk_in (blk_in (blk_in (blk_comm (by omega))))))).trans (blk_in (blk_in (blk_in (blk_in (blk_in (blk_comm (by omega)))))))).trans (blk_in (blk_in (blk_in (blk_in (blk_in (blk_in (blk_comm (by omega))))))))).trans (blk_in (blk_in (blk_in (blk_in (blk_in (blk_in (blk_in (blk_comm (by omega)))))))))).trans (blk_in (blk_in (blk_in (blk_in (blk_in (blk_in (blk_in (blk_in (blk_comm (by omega))))))))))) (c_Glacier_addBand hW)
theorem w2_Glacier_addStake {Γ : G9} {sg : Nat → Nat} {h : AH} {y g o u z : Nat} {K : TK} {F : FM} {E : TE} {N0 : NM} {N1 : NM} {N2 : NM} {N3 : NM} {N4 : NM} {T : TM} {σ : GL} {x1 : Int32} {x2 : Int32} (hs : SgOk Γ sg) (hsn : SgNe sg) (geo : y + 4 ≤ g ∧ g + 12 ≤ o ∧ o + 7 ≤ u) (hN0 : nm_sz N0 ≤ 6) (hN1 : nm_sz N1 ≤ 6) (hN2 : nm_sz N2 ≤ 6) (hN3 : nm_sz N3 ≤ 6) (hN4 : nm_sz N4 ≤ 6) (ho : h o = some (.inr (3, [.ref (o + 1), .ref (o + 3)]))) (hT : T.2 ≤ 20) (hW : WFG σ) : CallR Γ M_Glacier_addStake 1 [.ref g, .int x1, .int x2] (rw_ Γ sg (blk (blk h g 12 (glC Γ g σ)) (o + 1) 2 (tbC Γ 20 (o + 1) T)) y g o u K F E N0 N1 N2 N3 N4) z none (rw_ Γ sg (blk (blk h g 12 (glC Γ g (s_Glacier_addStake σ x1 x2))) (o + 1) 2 (tbC Γ 20 (o + 1) T)) y g o u K F E N0 N1 N2 N3 N4) := by
  unfold rw_
  exact CallR.conv (((((((((blk_in (blk_in (blk_in (blk_in (blk_in (blk_in (blk_in (blk_in (blk_comm (by omega)))))))))).trans (blk_in (blk_in (blk_in (blk_in (blk_in (blk_in (blk_in (blk_comm (by omega)))))))))).trans (blk_in (blk_in (blk_in (blk_in (blk_in (blk_in (blk_comm (by omega))))))))).trans (blk_in (blk_in (blk_in (blk_in (blk_in (blk_comm (by omega)))))))).trans (blk_in (blk_in (blk_in (blk_in (blk_comm (by omega))))))).trans (blk_in (blk_in (blk_in (blk_comm (by omega)))))).trans (blk_in (blk_in (blk_comm (by omega))))).trans (blk_in (blk_comm (by omega)))).trans (blk_comm (by omega))) (((((((((blk_comm (by omega)).trans (blk_in (blk_comm (by omega)))).trans (blk_in (blk_in (blk_comm (by omega))))).trans (blk_in (blk_in (blk_in (blk_comm (by omega)))))).trans (blk_in (blk_in (blk_in (blk_in (blk_comm (by omega))))))).trans (blk_in (blk_in (blk_in (blk_in (blk_in (blk_comm (by omega)))))))).trans (blk_in (blk_in (blk_in (blk_in (blk_in (blk_in (blk_comm (by omega))))))))).trans (blk_in (blk_in (blk_in (blk_in (blk_in (blk_in (blk_in (blk_comm (by omega)))))))))).trans (blk_in (blk_in (blk_in (blk_in (blk_in (blk_in (blk_in (blk_in (blk_comm (by omega))))))))))) (c_Glacier_addStake hW)
theorem w2_Glacier_addCrevasse {Γ : G9} {sg : Nat → Nat} {h : AH} {y g o u z : Nat} {K : TK} {F : FM} {E : TE} {N0 : NM} {N1 : NM} {N2 : NM} {N3 : NM} {N4 : NM} {T : TM} {σ : GL} {x1 : Int32} {x2 : Int32} (hs : SgOk Γ sg) (hsn : SgNe sg) (geo : y + 4 ≤ g ∧ g + 12 ≤ o ∧ o + 7 ≤ u) (hN0 : nm_sz N0 ≤ 6) (hN1 : nm_sz N1 ≤ 6) (hN2 : nm_sz N2 ≤ 6) (hN3 : nm_sz N3 ≤ 6) (hN4 : nm_sz N4 ≤ 6) (ho : h o = some (.inr (3, [.ref (o + 1), .ref (o + 3)]))) (hT : T.2 ≤ 20) (hW : WFG σ) : CallR Γ M_Glacier_addCrevasse 1 [.ref g, .int x1, .int x2] (rw_ Γ sg (blk (blk h g 12 (glC Γ g σ)) (o + 1) 2 (tbC Γ 20 (o + 1) T)) y g o u K F E N0 N1 N2 N3 N4) z none (rw_ Γ sg (blk (blk h g 12 (glC Γ g (s_Glacier_addCrevasse σ x1 x2))) (o + 1) 2 (tbC Γ 20 (o + 1) T)) y g o u K F E N0 N1 N2 N3 N4) := by
  unfold rw_
  exact CallR.conv (((((((((blk_in (blk_in (blk_in (blk_in (blk_in (blk_in (blk_in (blk_in (blk_comm (by omega)))))))))).trans (blk_in (blk_in (blk_in (blk_in (blk_in (blk_in (blk_in (blk_comm (by omega)))))))))).trans (blk_in (blk_in (blk_in (blk_in (blk_in (blk_in (blk_comm (by omega))))))))).trans (blk_in (blk_in (blk_in (blk_in (blk_in (blk_comm (by omega)))))))).trans (blk_in (blk_in (blk_in (blk_in (blk_comm (by omega))))))).trans (blk_in (blk_in (blk_in (blk_comm (by omega)))))).trans (blk_in (blk_in (blk_comm (by omega))))).trans (blk_in (blk_comm (by omega)))).trans (blk_comm (by omega))) (((((((((blk_comm (by omega)).trans (blk_in (blk_comm (by omega)))).trans (blk_in (blk_in (blk_comm (by omega))))).trans (blk_in (blk_in (blk_in (blk_comm (by omega)))))).trans (blk_in (blk_in (blk_in (blk_in (blk_comm (by omega))))))).trans (blk_in (blk_in (blk_in (blk_in (blk_in (blk_comm (by omega)))))))).trans (blk_in (blk_in (blk_in (blk_in (blk_in (blk_in (blk_comm (by omega))))))))).trans (blk_in (blk_in (blk_in (blk_in (blk_in (blk_in (blk_in (blk_comm (by omega)))))))))).trans (blk_in (blk_in (blk_in (blk_in (blk_in (blk_in (blk_in (blk_in (blk_comm (by omega))))))))))) (c_Glacier_addCrevasse hW)
theorem w2_Glacier_addDepot {Γ : G9} {sg : Nat → Nat} {h : AH} {y g o u z : Nat} {K : TK} {F : FM} {E : TE} {N0 : NM} {N1 : NM} {N2 : NM} {N3 : NM} {N4 : NM} {T : TM} {σ : GL} {x1 : Int32} {x2 : Int32} (hs : SgOk Γ sg) (hsn : SgNe sg) (geo : y + 4 ≤ g ∧ g + 12 ≤ o ∧ o + 7 ≤ u) (hN0 : nm_sz N0 ≤ 6) (hN1 : nm_sz N1 ≤ 6) (hN2 : nm_sz N2 ≤ 6) (hN3 : nm_sz N3 ≤ 6) (hN4 : nm_sz N4 ≤ 6) (ho : h o = some (.inr (3, [.ref (o + 1), .ref (o + 3)]))) (hT : T.2 ≤ 20) (hW : WFG σ) : CallR Γ M_Glacier_addDepot 1 [.ref g, .int x1, .int x2] (rw_ Γ sg (blk (blk h g 12 (glC Γ g σ)) (o + 1) 2 (tbC Γ 20 (o + 1) T)) y g o u K F E N0 N1 N2 N3 N4) z none (rw_ Γ sg (blk (blk h g 12 (glC Γ g (s_Glacier_addDepot σ x1 x2))) (o + 1) 2 (tbC Γ 20 (o + 1) T)) y g o u K F E N0 N1 N2 N3 N4) := by
  unfold rw_
  exact CallR.conv (((((((((blk_in (blk_in (blk_in (blk_in (blk_in (blk_in (blk_in (blk_in (blk_comm (by omega)))))))))).trans (blk_in (blk_in (blk_in (blk_in (blk_in (blk_in (blk_in (blk_comm (by omega)))))))))).trans (blk_in (blk_in (blk_in (blk_in (blk_in (blk_in (blk_comm (by omega))))))))).trans (blk_in (blk_in (blk_in (blk_in (blk_in (blk_comm (by omega)))))))).trans (blk_in (blk_in (blk_in (blk_in (blk_comm (by omega))))))).trans (blk_in (blk_in (blk_in (blk_comm (by omega)))))).trans (blk_in (blk_in (blk_comm (by omega))))).trans (blk_in (blk_comm (by omega)))).trans (blk_comm (by omega))) (((((((((blk_comm (by omega)).trans (blk_in (blk_comm (by omega)))).trans (blk_in (blk_in (blk_comm (by omega))))).trans (blk_in (blk_in (blk_in (blk_comm (by omega)))))).trans (blk_in (blk_in (blk_in (blk_in (blk_comm (by omega))))))).trans (blk_in (blk_in (blk_in (blk_in (blk_in (blk_comm (by omega)))))))).trans (blk_in (blk_in (blk_in (blk_in (blk_in (blk_in (blk_comm (by omega))))))))).trans (blk_in (blk_in (blk_in (blk_in (blk_in (blk_in (blk_in (blk_comm (by omega)))))))))).trans (blk_in (blk_in (blk_in (blk_in (blk_in (blk_in (blk_in (blk_in (blk_comm (by omega))))))))))) (c_Glacier_addDepot hW)
theorem w2_Glacier_addTeam {Γ : G9} {sg : Nat → Nat} {h : AH} {y g o u z : Nat} {K : TK} {F : FM} {E : TE} {N0 : NM} {N1 : NM} {N2 : NM} {N3 : NM} {N4 : NM} {T : TM} {σ : GL} {x1 : Int32} {x2 : Int32} {x3 : Int32} (hs : SgOk Γ sg) (hsn : SgNe sg) (geo : y + 4 ≤ g ∧ g + 12 ≤ o ∧ o + 7 ≤ u) (hN0 : nm_sz N0 ≤ 6) (hN1 : nm_sz N1 ≤ 6) (hN2 : nm_sz N2 ≤ 6) (hN3 : nm_sz N3 ≤ 6) (hN4 : nm_sz N4 ≤ 6) (ho : h o = some (.inr (3, [.ref (o + 1), .ref (o + 3)]))) (hT : T.2 ≤ 20) (hW : WFG σ) : CallR Γ M_Glacier_addTeam 1 [.ref g, .int x1, .int x2, .int x3] (rw_ Γ sg (blk (blk h g 12 (glC Γ g σ)) (o + 1) 2 (tbC Γ 20 (o + 1) T)) y g o u K F E N0 N1 N2 N3 N4) z none (rw_ Γ sg (blk (blk h g 12 (glC Γ g (s_Glacier_addTeam σ x1 x2 x3))) (o + 1) 2 (tbC Γ 20 (o + 1) T)) y g o u K F E N0 N1 N2 N3 N4) := by
  unfold rw_
  exact CallR.conv (((((((((blk_in (blk_in (blk_in (blk_in (blk_in (blk_in (blk_in (blk_in (blk_comm (by omega)))))))))).trans (blk_in (blk_in (blk_in (blk_in (blk_in (blk_in (blk_in (blk_comm (by omega)))))))))).trans (blk_in (blk_in (blk_in (blk_in (blk_in (blk_in (blk_comm (by omega))))))))).trans (blk_in (blk_in (blk_in (blk_in (blk_in (blk_comm (by omega)))))))).trans (blk_in (blk_in (blk_in (blk_in (blk_comm (by omega))))))).trans (blk_in (blk_in (blk_in (blk_comm (by omega)))))).trans (blk_in (blk_in (blk_comm (by omega))))).trans (blk_in (blk_comm (by omega)))).trans (blk_comm (by omega))) (((((((((blk_comm (by omega)).trans (blk_in (blk_comm (by omega)))).trans (blk_in (blk_in (blk_comm (by omega))))).trans (blk_in (blk_in (blk_in (blk_comm (by omega)))))).trans (blk_in (blk_in (blk_in (blk_in (blk_comm (by omega))))))).trans (blk_in (blk_in (blk_in (blk_in (blk_in (blk_comm (by omega)))))))).trans (blk_in (blk_in (blk_in (blk_in (blk_in (blk_in (blk_comm (by omega))))))))).trans (blk_in (blk_in (blk_in (blk_in (blk_in (blk_in (blk_in (blk_comm (by omega)))))))))).trans (blk_in (blk_in (blk_in (blk_in (blk_in (blk_in (blk_in (blk_in (blk_comm (by omega))))))))))) (c_Glacier_addTeam hW)
theorem w2_Glacier_changeWarmth {Γ : G9} {sg : Nat → Nat} {h : AH} {y g o u z : Nat} {K : TK} {F : FM} {E : TE} {N0 : NM} {N1 : NM} {N2 : NM} {N3 : NM} {N4 : NM} {T : TM} {σ : GL} {x1 : Int32} {x2 : Int32} (hs : SgOk Γ sg) (hsn : SgNe sg) (geo : y + 4 ≤ g ∧ g + 12 ≤ o ∧ o + 7 ≤ u) (hN0 : nm_sz N0 ≤ 6) (hN1 : nm_sz N1 ≤ 6) (hN2 : nm_sz N2 ≤ 6) (hN3 : nm_sz N3 ≤ 6) (hN4 : nm_sz N4 ≤ 6) (ho : h o = some (.inr (3, [.ref (o + 1), .ref (o + 3)]))) (hT : T.2 ≤ 20) (hW : WFG σ) : CallR Γ M_Glacier_changeWarmth 0 [.ref g, .int x1, .int x2] (rw_ Γ sg (blk (blk h g 12 (glC Γ g σ)) (o + 1) 2 (tbC Γ 20 (o + 1) T)) y g o u K F E N0 N1 N2 N3 N4) z none (rw_ Γ sg (blk (blk h g 12 (glC Γ g (s_Glacier_changeWarmth σ x1 x2))) (o + 1) 2 (tbC Γ 20 (o + 1) T)) y g o u K F E N0 N1 N2 N3 N4) := by
  unfold rw_
  exact CallR.conv (((((((((blk_in (blk_in (blk_in (blk_in (blk_in (blk_in (blk_in (blk_in (blk_comm (by omega)))))))))).trans (blk_in (blk_in (blk_in (blk_in (blk_in (blk_in (blk_in (blk_comm (by omega)))))))))).trans (blk_in (blk_in (blk_in (blk_in (blk_in (blk_in (blk_comm (by omega))))))))).trans (blk_in (blk_in (blk_in (blk_in (blk_in (blk_comm (by omega)))))))).trans (blk_in (blk_in (blk_in (blk_in (blk_comm (by omega))))))).trans (blk_in (blk_in (blk_in (blk_comm (by omega)))))).trans (blk_in (blk_in (blk_comm (by omega))))).trans (blk_in (blk_comm (by omega)))).trans (blk_comm (by omega))) (((((((((blk_comm (by omega)).trans (blk_in (blk_comm (by omega)))).trans (blk_in (blk_in (blk_comm (by omega))))).trans (blk_in (blk_in (blk_in (blk_comm (by omega)))))).trans (blk_in (blk_in (blk_in (blk_in (blk_comm (by omega))))))).trans (blk_in (blk_in (blk_in (blk_in (blk_in (blk_comm (by omega)))))))).trans (blk_in (blk_in (blk_in (blk_in (blk_in (blk_in (blk_comm (by omega))))))))).trans (blk_in (blk_in (blk_in (blk_in (blk_in (blk_in (blk_in (blk_comm (by omega)))))))))).trans (blk_in (blk_in (blk_in (blk_in (blk_in (blk_in (blk_in (blk_in (blk_comm (by omega))))))))))) (c_Glacier_changeWarmth)
theorem w2_Table_rows {Γ : G9} {sg : Nat → Nat} {h : AH} {y g o u z : Nat} {K : TK} {F : FM} {E : TE} {N0 : NM} {N1 : NM} {N2 : NM} {N3 : NM} {N4 : NM} {T : TM} {σ : GL} (hs : SgOk Γ sg) (hsn : SgNe sg) (geo : y + 4 ≤ g ∧ g + 12 ≤ o ∧ o + 7 ≤ u) (hN0 : nm_sz N0 ≤ 6) (hN1 : nm_sz N1 ≤ 6) (hN2 : nm_sz N2 ≤ 6) (hN3 : nm_sz N3 ≤ 6) (hN4 : nm_sz N4 ≤ 6) (ho : h o = some (.inr (3, [.ref (o + 1), .ref (o + 3)]))) (hT : T.2 ≤ 20) (hW : WFG σ) : CallR Γ M_Table_rows 0 [.ref (g + 1)] (rw_ Γ sg (blk (blk h g 12 (glC Γ g σ)) (o + 1) 2 (tbC Γ 20 (o + 1) T)) y g o u K F E N0 N1 N2 N3 N4) z (some (.int (nI (gN σ 0)))) (rw_ Γ sg (blk (blk h g 12 (glC Γ g σ)) (o + 1) 2 (tbC Γ 20 (o + 1) T)) y g o u K F E N0 N1 N2 N3 N4) := c_Table_rows (rw_b geo)
theorem w2_Table_get {Γ : G9} {sg : Nat → Nat} {h : AH} {y g o u z : Nat} {K : TK} {F : FM} {E : TE} {N0 : NM} {N1 : NM} {N2 : NM} {N3 : NM} {N4 : NM} {T : TM} {σ : GL} {row : Int32} {c : Nat} (hs : SgOk Γ sg) (hsn : SgNe sg) (geo : y + 4 ≤ g ∧ g + 12 ≤ o ∧ o + 7 ≤ u) (hN0 : nm_sz N0 ≤ 6) (hN1 : nm_sz N1 ≤ 6) (hN2 : nm_sz N2 ≤ 6) (hN3 : nm_sz N3 ≤ 6) (hN4 : nm_sz N4 ≤ 6) (ho : h o = some (.inr (3, [.ref (o + 1), .ref (o + 3)]))) (hT : T.2 ≤ 20) (hW : WFG σ) (hc : c < 8) : CallR Γ M_Table_get 0 [.ref (g + 1), .int row, .int (nI c)] (rw_ Γ sg (blk (blk h g 12 (glC Γ g σ)) (o + 1) 2 (tbC Γ 20 (o + 1) T)) y g o u K F E N0 N1 N2 N3 N4) z (some (.int (gG σ 0 row c))) (rw_ Γ sg (blk (blk h g 12 (glC Γ g σ)) (o + 1) 2 (tbC Γ 20 (o + 1) T)) y g o u K F E N0 N1 N2 N3 N4) := c_Table_get (cap := 5) (rw_b geo) (by unfold rw_; exact ((blk_out (by omega)).trans ((blk_out (by omega)).trans ((blk_out (by omega)).trans ((blk_out (by omega)).trans ((blk_out (by omega)).trans ((blk_out (by omega)).trans ((blk_out (by omega)).trans ((blk_out (by omega)).trans ((blk_out (by omega)).trans (gl_cel (k := 0) (by decide)))))))))))) (hW 0 (by decide)) (by decide) hc
