/-! the class: trim, mean, what teach makes and takes over -/
theorem cw_c_Tape_cut_c_1 {Γ : G9} {sg : Nat → Nat} {sw : Nat} {h : AH} {c g g2 o o2 z : Nat} {A : TA} {K : TK} {σ : GL} {τ : GL} {T : TM} {F : FM} {U : TM} {G : FM} {P : CP} {x1 : Nat} {vx1 : Int32} (ex1 : vx1 = nI x1) (bx1 : x1 ≤ 2000) (hs : SgOk Γ sg) (hsn : SgNe sg) (hw : SwOk Γ sw) (geo : c + 7 ≤ g ∧ c + 7 ≤ g2 ∧ (g + 12 ≤ g2 ∨ g2 + 12 ≤ g) ∧ g + 12 ≤ o ∧ g + 12 ≤ o2 ∧ g2 + 12 ≤ o ∧ g2 + 12 ≤ o2 ∧ (o + 7 ≤ o2 ∨ o2 + 7 ≤ o)) (hA : ta_sz A ≤ 2000) (ho : h o = some (.inr (3, [.ref (o + 1), .ref (o + 3)]))) (ho2 : h o2 = some (.inr (3, [.ref (o2 + 1), .ref (o2 + 3)]))) (hT : T.2 ≤ 20) (hU : U.2 ≤ 20) (hW : WFG σ) (hV : WFG τ) : CallR Γ M_Tape_cut 0 [.ref (c + 1), .int vx1] (cw_ Γ sg h c g g2 o o2 A K σ τ T F U G P) z none (cw_ Γ sg h c g g2 o o2 (s_Tape_cut A x1) K σ τ T F U G P) := by
  subst ex1
  unfold cw_
  exact CallR.conv ((((((((blk_in (blk_in (blk_in (blk_in (blk_in (blk_in (blk_in (blk_comm (by omega))))))))).trans (blk_in (blk_in (blk_in (blk_in (blk_in (blk_in (blk_comm (by omega))))))))).trans (blk_in (blk_in (blk_in (blk_in (blk_in (blk_comm (by omega)))))))).trans (blk_in (blk_in (blk_in (blk_in (blk_comm (by omega))))))).trans (blk_in (blk_in (blk_in (blk_comm (by omega)))))).trans (blk_in (blk_in (blk_comm (by omega))))).trans (blk_in (blk_comm (by omega)))).trans (blk_comm (by omega))) ((((((((blk_comm (by omega)).trans (blk_in (blk_comm (by omega)))).trans (blk_in (blk_in (blk_comm (by omega))))).trans (blk_in (blk_in (blk_in (blk_comm (by omega)))))).trans (blk_in (blk_in (blk_in (blk_in (blk_comm (by omega))))))).trans (blk_in (blk_in (blk_in (blk_in (blk_in (blk_comm (by omega)))))))).trans (blk_in (blk_in (blk_in (blk_in (blk_in (blk_in (blk_comm (by omega))))))))).trans (blk_in (blk_in (blk_in (blk_in (blk_in (blk_in (blk_in (blk_comm (by omega)))))))))) (c_Tape_cut (x1 := x1) rfl (by omega))
theorem d_Camp_trim_0 : decode M_Camp_trim.2.1 0 = .ok (.iload_n 1, 1) := by decide +kernel
theorem d_Camp_trim_1 : decode M_Camp_trim.2.1 1 = .ok (.ifCond .lt 14, 3) := by decide +kernel
theorem d_Camp_trim_4 : decode M_Camp_trim.2.1 4 = .ok (.iload_n 1, 1) := by decide +kernel
theorem d_Camp_trim_5 : decode M_Camp_trim.2.1 5 = .ok (.aload_n 0, 1) := by decide +kernel
theorem d_Camp_trim_6 : decode M_Camp_trim.2.1 6 = .ok (.getfield 10, 3) := by decide +kernel
theorem d_Camp_trim_9 : decode M_Camp_trim.2.1 9 = .ok (.invokevirtual 47, 3) := by decide +kernel
theorem d_Camp_trim_12 : decode M_Camp_trim.2.1 12 = .ok (.if_icmp .le 13, 3) := by decide +kernel
theorem d_Camp_trim_15 : decode M_Camp_trim.2.1 15 = .ok (.new 62, 3) := by decide +kernel
theorem d_Camp_trim_18 : decode M_Camp_trim.2.1 18 = .ok (.dup, 1) := by decide +kernel
theorem d_Camp_trim_19 : decode M_Camp_trim.2.1 19 = .ok (.ldc 64, 2) := by decide +kernel
theorem d_Camp_trim_21 : decode M_Camp_trim.2.1 21 = .ok (.invokespecial 66, 3) := by decide +kernel
theorem d_Camp_trim_24 : decode M_Camp_trim.2.1 24 = .ok (.athrow, 1) := by decide +kernel
theorem d_Camp_trim_25 : decode M_Camp_trim.2.1 25 = .ok (.aload_n 0, 1) := by decide +kernel
theorem d_Camp_trim_26 : decode M_Camp_trim.2.1 26 = .ok (.getfield 10, 3) := by decide +kernel
theorem d_Camp_trim_29 : decode M_Camp_trim.2.1 29 = .ok (.iload_n 1, 1) := by decide +kernel
theorem d_Camp_trim_30 : decode M_Camp_trim.2.1 30 = .ok (.invokevirtual 67, 3) := by decide +kernel
theorem d_Camp_trim_33 : decode M_Camp_trim.2.1 33 = .ok (.iload_n 1, 1) := by decide +kernel
theorem d_Camp_trim_34 : decode M_Camp_trim.2.1 34 = .ok (.ireturn, 1) := by decide +kernel
def s_Camp_trim (A : TA) (K : TK) (σ : GL) (τ : GL) (T : TM) (F : FM) (U : TM) (G : FM) (P : CP) (x1 : Nat) : Int32 × Int32 × TA := (if (nI x1) ≤ (nI (ta_sz A)) then (0, (nI x1), (s_Tape_cut A x1)) else (2, 0, A))
set_option maxRecDepth 100000 in
set_option maxHeartbeats 800000 in
theorem c_Camp_trim {Γ : G9} {sg : Nat → Nat} {sw : Nat} {ms : Nat → Nat} {h : AH} {c g g2 o o2 z : Nat} {A : TA} {K : TK} {σ : GL} {τ : GL} {T : TM} {F : FM} {U : TM} {G : FM} {P : CP} {x1 : Nat} {vx1 : Int32} (ex1 : vx1 = nI x1) (bx1 : x1 < 2 ^ 31) (hs : SgOk Γ sg) (hsn : SgNe sg) (hw : SwOk Γ sw) (geo : c + 7 ≤ g ∧ c + 7 ≤ g2 ∧ (g + 12 ≤ g2 ∨ g2 + 12 ≤ g) ∧ g + 12 ≤ o ∧ g + 12 ≤ o2 ∧ g2 + 12 ≤ o ∧ g2 + 12 ≤ o2 ∧ (o + 7 ≤ o2 ∨ o2 + 7 ≤ o)) (hA : ta_sz A ≤ 2000) (ho : h o = some (.inr (3, [.ref (o + 1), .ref (o + 3)]))) (ho2 : h o2 = some (.inr (3, [.ref (o2 + 1), .ref (o2 + 3)]))) (hT : T.2 ≤ 20) (hU : U.2 ≤ 20) (hW : WFG σ) (hV : WFG τ) (hms : MsOk Γ ms) (hth : ThOk Γ) : CallT Γ M_Camp_trim 6 4 24 [.ref c, .int vx1] (cw_ Γ sg h c g g2 o o2 A K σ τ T F U G P) z (s_Camp_trim A K σ τ T F U G P x1).1 (some (.int (s_Camp_trim A K σ τ T F U G P x1).2.1)) (cw_ Γ sg h c g g2 o o2 (s_Camp_trim A K σ τ T F U G P x1).2.2 K σ τ T F U G P) := by
  subst ex1
  refine Call.of_go (L := [some (.ref c), some (.int (nI x1))]) (by decide +kernel) rfl (by exact Nat.le_of_ble_eq_true rfl) ?_
  unfold s_Camp_trim
  refine Go.iload_1 d_Camp_trim_0 rfl ?_
  refine Go.if_lt (t := 15) d_Camp_trim_1 (by decide) rfl (fun c1_1 => ?_) (fun c1_1 => ?_)
  · exact absurd c1_1 (nI_pos (n := x1) (by omega))
  · refine Go.iload_1 d_Camp_trim_4 rfl ?_
    refine Go.aload_0 d_Camp_trim_5 rfl ?_
    refine Go.getfield d_Camp_trim_6 rfl f_Camp_10 (cw_at_c hs hsn hw (by omega) hA ho ho2 hT hU hW hV) (by rfl) ?_
    refine Go.cv0r d_Camp_trim_9 rfl l_Camp_47 k_Tape_size_v (cw_at_c_1 hs hsn hw (by omega) hA ho ho2 hT hU hW hV) rfl (cw_c_Tape_size_c_1 hs hsn hw (by omega) hA ho ho2 hT hU hW hV) rfl rfl rfl ?_
    refine Go.icmp_le (t := 25) d_Camp_trim_12 (by decide) rfl (fun c12_2 => ?_) (fun c12_2 => ?_)
    · have hx1 : x1 ≤ ta_sz A := (nI_leI (by omega) (by omega)).mp c12_2
      refine Go.aload_0 d_Camp_trim_25 rfl ?_
      refine Go.getfield d_Camp_trim_26 rfl f_Camp_10 (cw_at_c hs hsn hw (by omega) hA ho ho2 hT hU hW hV) (by rfl) ?_
      refine Go.iload_1 d_Camp_trim_29 rfl ?_
      refine Go.cv1v d_Camp_trim_30 rfl l_Camp_67 k_Tape_cut_v (cw_at_c_1 hs hsn hw (by omega) hA ho ho2 hT hU hW hV) rfl (cw_c_Tape_cut_c_1 (x1 := x1) rfl (by omega) hs hsn hw (by omega) hA ho ho2 hT hU hW hV) rfl rfl rfl ?_
      refine Go.iload_1 d_Camp_trim_33 rfl ?_
      rw [if_pos c12_2]
      exact Go.iret d_Camp_trim_34 rfl rfl ⟨rfl, rfl, by dsimp only, rfl⟩
    · rw [if_neg c12_2]
      exact Go.throwS (names := xnm) (cls := xIA) d_Camp_trim_15 d_Camp_trim_18 d_Camp_trim_19 d_Camp_trim_21 d_Camp_trim_24 x_Camp_k62 x_ini_IllegalArgumentException xw_xIA (by decide +kernel) (by decide +kernel) (hms 64 "the tape has not so many bytes" (by decide)) hth rfl rfl (by decide) rfl rfl rfl (fun z2 hz => ⟨show ¬ (2 : Int32) = 0 by decide, rfl, by dsimp only, hz⟩)
def s_Camp_trimN (A : TA) (K : TK) (σ : GL) (τ : GL) (T : TM) (F : FM) (U : TM) (G : FM) (P : CP) (x1 : Int32) : Int32 × Int32 × TA := (2, 0, A)
set_option maxRecDepth 100000 in
set_option maxHeartbeats 800000 in
theorem c_Camp_trimN {Γ : G9} {sg : Nat → Nat} {sw : Nat} {ms : Nat → Nat} {h : AH} {c g g2 o o2 z : Nat} {A : TA} {K : TK} {σ : GL} {τ : GL} {T : TM} {F : FM} {U : TM} {G : FM} {P : CP} {x1 : Int32} (hs : SgOk Γ sg) (hsn : SgNe sg) (hw : SwOk Γ sw) (geo : c + 7 ≤ g ∧ c + 7 ≤ g2 ∧ (g + 12 ≤ g2 ∨ g2 + 12 ≤ g) ∧ g + 12 ≤ o ∧ g + 12 ≤ o2 ∧ g2 + 12 ≤ o ∧ g2 + 12 ≤ o2 ∧ (o + 7 ≤ o2 ∨ o2 + 7 ≤ o)) (hA : ta_sz A ≤ 2000) (ho : h o = some (.inr (3, [.ref (o + 1), .ref (o + 3)]))) (ho2 : h o2 = some (.inr (3, [.ref (o2 + 1), .ref (o2 + 3)]))) (hT : T.2 ≤ 20) (hU : U.2 ≤ 20) (hW : WFG σ) (hV : WFG τ) (hms : MsOk Γ ms) (hth : ThOk Γ) (hneg : x1 < 0) : CallT Γ M_Camp_trim 6 4 24 [.ref c, .int x1] (cw_ Γ sg h c g g2 o o2 A K σ τ T F U G P) z (s_Camp_trimN A K σ τ T F U G P x1).1 (some (.int (s_Camp_trimN A K σ τ T F U G P x1).2.1)) (cw_ Γ sg h c g g2 o o2 (s_Camp_trimN A K σ τ T F U G P x1).2.2 K σ τ T F U G P) := by
  refine Call.of_go (L := [some (.ref c), some (.int x1)]) (by decide +kernel) rfl (by exact Nat.le_of_ble_eq_true rfl) ?_
  unfold s_Camp_trimN
  refine Go.iload_1 d_Camp_trim_0 rfl ?_
  refine Go.if_lt (t := 15) d_Camp_trim_1 (by decide) rfl (fun c1_1 => ?_) (fun c1_1 => ?_)
  · exact Go.throwS (names := xnm) (cls := xIA) d_Camp_trim_15 d_Camp_trim_18 d_Camp_trim_19 d_Camp_trim_21 d_Camp_trim_24 x_Camp_k62 x_ini_IllegalArgumentException xw_xIA (by decide +kernel) (by decide +kernel) (hms 64 "the tape has not so many bytes" (by decide)) hth rfl rfl (by decide) rfl rfl rfl (fun z2 hz => ⟨show ¬ (2 : Int32) = 0 by decide, rfl, by dsimp only, hz⟩)
  · exact absurd hneg c1_1
theorem cw_tab_sum_g_1 {Γ : G9} {sg : Nat → Nat} {sw : Nat} {h : AH} {c g g2 o o2 z : Nat} {A : TA} {K : TK} {σ : GL} {τ : GL} {T : TM} {F : FM} {U : TM} {G : FM} {P : CP} {cl : Nat} (hs : SgOk Γ sg) (hsn : SgNe sg) (hw : SwOk Γ sw) (geo : c + 7 ≤ g ∧ c + 7 ≤ g2 ∧ (g + 12 ≤ g2 ∨ g2 + 12 ≤ g) ∧ g + 12 ≤ o ∧ g + 12 ≤ o2 ∧ g2 + 12 ≤ o ∧ g2 + 12 ≤ o2 ∧ (o + 7 ≤ o2 ∨ o2 + 7 ≤ o)) (hA : ta_sz A ≤ 2000) (ho : h o = some (.inr (3, [.ref (o + 1), .ref (o + 3)]))) (ho2 : h o2 = some (.inr (3, [.ref (o2 + 1), .ref (o2 + 3)]))) (hT : T.2 ≤ 20) (hU : U.2 ≤ 20) (hW : WFG σ) (hV : WFG τ) (hcl : cl < 8) : CallR Γ M_Table_sum 1 [.ref (g + 1), .int (nI cl)] (cw_ Γ sg h c g g2 o o2 A K σ τ T F U G P) z (some (.int (gSum σ 0 cl))) (cw_ Γ sg h c g g2 o o2 A K σ τ T F U G P) := by
  unfold cw_
  exact CallR.conv ((((((blk_in (blk_in (blk_in (blk_in (blk_in (blk_comm (by omega))))))).trans (blk_in (blk_in (blk_in (blk_in (blk_comm (by omega))))))).trans (blk_in (blk_in (blk_in (blk_comm (by omega)))))).trans (blk_in (blk_in (blk_comm (by omega))))).trans (blk_in (blk_comm (by omega)))).trans (blk_comm (by omega))) ((((((blk_comm (by omega)).trans (blk_in (blk_comm (by omega)))).trans (blk_in (blk_in (blk_comm (by omega))))).trans (blk_in (blk_in (blk_in (blk_comm (by omega)))))).trans (blk_in (blk_in (blk_in (blk_in (blk_comm (by omega))))))).trans (blk_in (blk_in (blk_in (blk_in (blk_in (blk_comm (by omega)))))))) (cG_sum (k := 0) (by decide) (c := cl) rfl (by omega) hW)
theorem d_Camp_mean_0 : decode M_Camp_mean.2.1 0 = .ok (.aload_n 0, 1) := by decide +kernel
theorem d_Camp_mean_1 : decode M_Camp_mean.2.1 1 = .ok (.getfield 26, 3) := by decide +kernel
theorem d_Camp_mean_4 : decode M_Camp_mean.2.1 4 = .ok (.getfield 107, 3) := by decide +kernel
theorem d_Camp_mean_7 : decode M_Camp_mean.2.1 7 = .ok (.invokevirtual 111, 3) := by decide +kernel
theorem d_Camp_mean_10 : decode M_Camp_mean.2.1 10 = .ok (.istore_n 1, 1) := by decide +kernel
theorem d_Camp_mean_11 : decode M_Camp_mean.2.1 11 = .ok (.iload_n 1, 1) := by decide +kernel
theorem d_Camp_mean_12 : decode M_Camp_mean.2.1 12 = .ok (.ifCond .le 21, 3) := by decide +kernel
theorem d_Camp_mean_15 : decode M_Camp_mean.2.1 15 = .ok (.aload_n 0, 1) := by decide +kernel
theorem d_Camp_mean_16 : decode M_Camp_mean.2.1 16 = .ok (.getfield 26, 3) := by decide +kernel
theorem d_Camp_mean_19 : decode M_Camp_mean.2.1 19 = .ok (.getfield 107, 3) := by decide +kernel
theorem d_Camp_mean_22 : decode M_Camp_mean.2.1 22 = .ok (.iconst 1, 1) := by decide +kernel
theorem d_Camp_mean_23 : decode M_Camp_mean.2.1 23 = .ok (.invokevirtual 197, 3) := by decide +kernel
theorem d_Camp_mean_26 : decode M_Camp_mean.2.1 26 = .ok (.i2d, 1) := by decide +kernel
theorem d_Camp_mean_27 : decode M_Camp_mean.2.1 27 = .ok (.iload_n 1, 1) := by decide +kernel
theorem d_Camp_mean_28 : decode M_Camp_mean.2.1 28 = .ok (.i2d, 1) := by decide +kernel
theorem d_Camp_mean_29 : decode M_Camp_mean.2.1 29 = .ok (.ddiv, 1) := by decide +kernel
theorem d_Camp_mean_30 : decode M_Camp_mean.2.1 30 = .ok (.goto 4, 3) := by decide +kernel
theorem d_Camp_mean_33 : decode M_Camp_mean.2.1 33 = .ok (.dconst 0, 1) := by decide +kernel
theorem d_Camp_mean_34 : decode M_Camp_mean.2.1 34 = .ok (.dreturn, 1) := by decide +kernel
def s_Camp_mean (A : TA) (K : TK) (σ : GL) (τ : GL) (T : TM) (F : FM) (U : TM) (G : FM) (P : CP) : UInt64 := (if (nI (gN σ 0)) ≤ 0 then 0 else (FP.ddiv (FP.i2d (gSum σ 0 1)) (FP.i2d (nI (gN σ 0)))))
set_option maxRecDepth 100000 in
set_option maxHeartbeats 800000 in
theorem c_Camp_mean {Γ : G9} {sg : Nat → Nat} {sw : Nat} {h : AH} {c g g2 o o2 z : Nat} {A : TA} {K : TK} {σ : GL} {τ : GL} {T : TM} {F : FM} {U : TM} {G : FM} {P : CP} (hs : SgOk Γ sg) (hsn : SgNe sg) (hw : SwOk Γ sw) (geo : c + 7 ≤ g ∧ c + 7 ≤ g2 ∧ (g + 12 ≤ g2 ∨ g2 + 12 ≤ g) ∧ g + 12 ≤ o ∧ g + 12 ≤ o2 ∧ g2 + 12 ≤ o ∧ g2 + 12 ≤ o2 ∧ (o + 7 ≤ o2 ∨ o2 + 7 ≤ o)) (hA : ta_sz A ≤ 2000) (ho : h o = some (.inr (3, [.ref (o + 1), .ref (o + 3)]))) (ho2 : h o2 = some (.inr (3, [.ref (o2 + 1), .ref (o2 + 3)]))) (hT : T.2 ≤ 20) (hU : U.2 ≤ 20) (hW : WFG σ) (hV : WFG τ) (hnn : ¬ nI (gN σ 0) ≤ 0 → vf_n64 (FP.ddiv (FP.i2d (gSum σ 0 1)) (FP.i2d (nI (gN σ 0))))) : CallR Γ M_Camp_mean 2 [.ref c] (cw_ Γ sg h c g g2 o o2 A K σ τ T F U G P) z (some (.double (s_Camp_mean A K σ τ T F U G P))) (cw_ Γ sg h c g g2 o o2 A K σ τ T F U G P) := by
  refine Call.of_go (L := [some (.ref c), none]) (by decide +kernel) rfl (by exact Nat.le_of_ble_eq_true rfl) ?_
  unfold s_Camp_mean
  refine Go.aload_0 d_Camp_mean_0 rfl ?_
  refine Go.getfield d_Camp_mean_1 rfl f_Camp_26 (cw_at_c hs hsn hw (by omega) hA ho ho2 hT hU hW hV) (by rfl) ?_
  refine Go.getfield d_Camp_mean_4 rfl f_Camp_107 (cw_at_g hs hsn hw (by omega) hA ho ho2 hT hU hW hV) (by rfl) ?_
  refine Go.cv0r d_Camp_mean_7 rfl l_Camp_111 k_Table_rows_v (cw_at_g_1 hs hsn hw (by omega) hA ho ho2 hT hU hW hV) rfl (cw_tab_rows_g_1 hs hsn hw (by omega) hA ho ho2 hT hU hW hV) rfl rfl rfl ?_
  refine Go.istore_1 d_Camp_mean_10 rfl (by rfl) ?_
  refine Go.iload_1 d_Camp_mean_11 rfl ?_
  refine Go.if_le (t := 33) d_Camp_mean_12 (by decide) rfl (fun c12_1 => ?_) (fun c12_1 => ?_)
  · refine Go.dconst0 d_Camp_mean_33 rfl ?_
    rw [if_pos c12_1]
    exact Go.dret d_Camp_mean_34 rfl ⟨rfl, rfl, rfl⟩
  · refine Go.aload_0 d_Camp_mean_15 rfl ?_
    refine Go.getfield d_Camp_mean_16 rfl f_Camp_26 (cw_at_c hs hsn hw (by omega) hA ho ho2 hT hU hW hV) (by rfl) ?_
    refine Go.getfield d_Camp_mean_19 rfl f_Camp_107 (cw_at_g hs hsn hw (by omega) hA ho ho2 hT hU hW hV) (by rfl) ?_
    refine Go.iconst (v := 1) d_Camp_mean_22 rfl (by decide) ?_
    refine Go.cv1r d_Camp_mean_23 rfl l_Camp_197 k_Table_sum_v (cw_at_g_1 hs hsn hw (by omega) hA ho ho2 hT hU hW hV) rfl (cw_tab_sum_g_1 (cl := 1) hs hsn hw (by omega) hA ho ho2 hT hU hW hV (by omega)) rfl rfl rfl ?_
    refine Go.i2d d_Camp_mean_26 rfl ?_
    refine Go.iload_1 d_Camp_mean_27 rfl ?_
    refine Go.i2d d_Camp_mean_28 rfl ?_
    refine Go.ddiv d_Camp_mean_29 rfl (hnn (by assumption)) ?_
    refine Go.goto (t := 34) d_Camp_mean_30 (by decide) ?_
    rw [if_neg c12_1]
    exact Go.dret d_Camp_mean_34 rfl ⟨rfl, rfl, rfl⟩
theorem n9_fs_Names : ∀ j, j < 2 → defaultValue (ty_Names j) = vp_V [.null, .int 0] j := by
  intro j hj
  match j, hj with
  | 0, _ => rfl
  | 1, _ => rfl
  | _ + 2, w => exact absurd w (by omega)
theorem d_Teacher_init_0 : decode M_Teacher_init.2.1 0 = .ok (.aload_n 0, 1) := by decide +kernel
theorem d_Teacher_init_1 : decode M_Teacher_init.2.1 1 = .ok (.invokespecial 3, 3) := by decide +kernel
theorem d_Teacher_init_4 : decode M_Teacher_init.2.1 4 = .ok (.aload_n 0, 1) := by decide +kernel
theorem d_Teacher_init_5 : decode M_Teacher_init.2.1 5 = .ok (.new 9, 3) := by decide +kernel
theorem d_Teacher_init_8 : decode M_Teacher_init.2.1 8 = .ok (.dup, 1) := by decide +kernel
theorem d_Teacher_init_9 : decode M_Teacher_init.2.1 9 = .ok (.invokespecial 11, 3) := by decide +kernel
theorem d_Teacher_init_12 : decode M_Teacher_init.2.1 12 = .ok (.putfield 12, 3) := by decide +kernel
theorem d_Teacher_init_15 : decode M_Teacher_init.2.1 15 = .ok (.aload_n 0, 1) := by decide +kernel
theorem d_Teacher_init_16 : decode M_Teacher_init.2.1 16 = .ok (.new 9, 3) := by decide +kernel
theorem d_Teacher_init_19 : decode M_Teacher_init.2.1 19 = .ok (.dup, 1) := by decide +kernel
theorem d_Teacher_init_20 : decode M_Teacher_init.2.1 20 = .ok (.invokespecial 11, 3) := by decide +kernel
theorem d_Teacher_init_23 : decode M_Teacher_init.2.1 23 = .ok (.putfield 18, 3) := by decide +kernel
theorem d_Teacher_init_26 : decode M_Teacher_init.2.1 26 = .ok (.aload_n 0, 1) := by decide +kernel
theorem d_Teacher_init_27 : decode M_Teacher_init.2.1 27 = .ok (.new 9, 3) := by decide +kernel
theorem d_Teacher_init_30 : decode M_Teacher_init.2.1 30 = .ok (.dup, 1) := by decide +kernel
theorem d_Teacher_init_31 : decode M_Teacher_init.2.1 31 = .ok (.invokespecial 11, 3) := by decide +kernel
theorem d_Teacher_init_34 : decode M_Teacher_init.2.1 34 = .ok (.putfield 21, 3) := by decide +kernel
theorem d_Teacher_init_37 : decode M_Teacher_init.2.1 37 = .ok (.aload_n 0, 1) := by decide +kernel
theorem d_Teacher_init_38 : decode M_Teacher_init.2.1 38 = .ok (.new 9, 3) := by decide +kernel
theorem d_Teacher_init_41 : decode M_Teacher_init.2.1 41 = .ok (.dup, 1) := by decide +kernel
theorem d_Teacher_init_42 : decode M_Teacher_init.2.1 42 = .ok (.invokespecial 11, 3) := by decide +kernel
theorem d_Teacher_init_45 : decode M_Teacher_init.2.1 45 = .ok (.putfield 24, 3) := by decide +kernel
theorem d_Teacher_init_48 : decode M_Teacher_init.2.1 48 = .ok (.aload_n 0, 1) := by decide +kernel
theorem d_Teacher_init_49 : decode M_Teacher_init.2.1 49 = .ok (.new 9, 3) := by decide +kernel
theorem d_Teacher_init_52 : decode M_Teacher_init.2.1 52 = .ok (.dup, 1) := by decide +kernel
theorem d_Teacher_init_53 : decode M_Teacher_init.2.1 53 = .ok (.invokespecial 11, 3) := by decide +kernel
theorem d_Teacher_init_56 : decode M_Teacher_init.2.1 56 = .ok (.putfield 27, 3) := by decide +kernel
theorem d_Teacher_init_59 : decode M_Teacher_init.2.1 59 = .ok (.aload_n 0, 1) := by decide +kernel
theorem d_Teacher_init_60 : decode M_Teacher_init.2.1 60 = .ok (.iconst (-1), 1) := by decide +kernel
theorem d_Teacher_init_61 : decode M_Teacher_init.2.1 61 = .ok (.putfield 30, 3) := by decide +kernel
theorem d_Teacher_init_64 : decode M_Teacher_init.2.1 64 = .ok (.aload_n 0, 1) := by decide +kernel
theorem d_Teacher_init_65 : decode M_Teacher_init.2.1 65 = .ok (.aload_n 1, 1) := by decide +kernel
theorem d_Teacher_init_66 : decode M_Teacher_init.2.1 66 = .ok (.putfield 34, 3) := by decide +kernel
theorem d_Teacher_init_69 : decode M_Teacher_init.2.1 69 = .ok (.aload_n 0, 1) := by decide +kernel
theorem d_Teacher_init_70 : decode M_Teacher_init.2.1 70 = .ok (.aload_n 2, 1) := by decide +kernel
theorem d_Teacher_init_71 : decode M_Teacher_init.2.1 71 = .ok (.putfield 38, 3) := by decide +kernel
theorem d_Teacher_init_74 : decode M_Teacher_init.2.1 74 = .ok (.aload_n 0, 1) := by decide +kernel
theorem d_Teacher_init_75 : decode M_Teacher_init.2.1 75 = .ok (.aload_n 3, 1) := by decide +kernel
theorem d_Teacher_init_76 : decode M_Teacher_init.2.1 76 = .ok (.putfield 42, 3) := by decide +kernel
theorem d_Teacher_init_79 : decode M_Teacher_init.2.1 79 = .ok (.aload_n 0, 1) := by decide +kernel
theorem d_Teacher_init_80 : decode M_Teacher_init.2.1 80 = .ok (.aload_n 3, 1) := by decide +kernel
theorem d_Teacher_init_81 : decode M_Teacher_init.2.1 81 = .ok (.getfield 46, 3) := by decide +kernel
theorem d_Teacher_init_84 : decode M_Teacher_init.2.1 84 = .ok (.putfield 52, 3) := by decide +kernel
theorem d_Teacher_init_87 : decode M_Teacher_init.2.1 87 = .ok (.return_, 1) := by decide +kernel
set_option maxRecDepth 100000 in
set_option maxHeartbeats 800000 in
theorem c_Teacher_init {Γ : G9} {h : AH} {t y g o : Nat} (ho : h o = some (.inr (3, [.ref (o + 1), .ref (o + 3)])) ∧ o < t) (h0 : h t = some (.inr (6, [.null, .null, .null, .null, .null, .null, .null, .null, .null, .int 0, .int 0]))) : Call Γ M_Teacher_init 2 10 40 [.ref t, .ref y, .ref g, .ref o] h (t + 1) (fun v h2 z2 => v = none ∧ h2 = blk h t 11 (fun j => if j < 1 then teC Γ y g o t (0, -1) j else if j - 1 < 2 then nmC Γ (t + 1) new_nm (j - 1) else if j - 1 - 2 < 2 then nmC Γ (t + 3) new_nm (j - 1 - 2) else if j - 1 - 2 - 2 < 2 then nmC Γ (t + 5) new_nm (j - 1 - 2 - 2) else if j - 1 - 2 - 2 - 2 < 2 then nmC Γ (t + 7) new_nm (j - 1 - 2 - 2 - 2) else nmC Γ (t + 9) new_nm (j - 1 - 2 - 2 - 2 - 2)) ∧ z2 = t + 11) noX := by
  refine Call.of_go (L := [some (.ref t), some (.ref y), some (.ref g), some (.ref o)]) (by decide +kernel) rfl (by exact Nat.le_of_ble_eq_true rfl) ?_
  refine Go.heq (ct_start h0) ?_
  refine Go.aload_0 d_Teacher_init_0 rfl ?_
  refine Go.objInit d_Teacher_init_1 rfl l_Teacher_3 q_obj1 q_obj2 (by decide) rfl ?_
  refine Go.aload_0 d_Teacher_init_4 rfl ?_
  refine Go.new (ci := 2) (C1 := 9) (S1 := 38) (fs := [.null, .int 0]) ty_Names d_Teacher_init_5 rfl rfl cw_Names ty_Names_ok (gm_4 (List.mem_of_getElem? (i := 91) rfl) rfl) (gm_4 (List.mem_of_getElem? (i := 92) rfl) rfl) (gm_1 (List.mem_of_getElem? (i := 28) rfl) rfl) n9_fs_Names (by decide) (by decide) ?_
  refine Go.dup d_Teacher_init_8 rfl rfl ?_
  refine Go.callI (C1 := 8) (S1 := 32) (as := []) d_Teacher_init_9 rfl (Or.inr ⟨_, l_Teacher_11⟩) k_Names_init_n rfl rfl (c_Names_init (t := t + 1) hup_at) (by decide) (by decide) (by decide) (by decide) (Nat.le_of_ble_eq_true rfl) (fun E h2 z2 hx _ => hx.elim) (fun v h2 z2 hx _ => ?_)
  obtain ⟨rfl, rfl, rfl⟩ := hx
  refine Go.heq (ct_app (n := 0) (m := 2) (by omega) (by decide)) ?_
  refine Go.putfield d_Teacher_init_12 rfl f_Teacher_12_p (Or.inr ⟨rfl, fun C T N h => by cases h; exact ⟨rfl, rfl⟩⟩) hup_at (by exact Nat.le_of_ble_eq_true rfl) rfl rfl ?_
  refine Go.heq hup_hup ?_
  simp only [List.set_cons_succ, List.set_cons_zero]
  refine Go.aload_0 d_Teacher_init_15 rfl ?_
  refine Go.new (ci := 2) (C1 := 7) (S1 := 30) (fs := [.null, .int 0]) ty_Names d_Teacher_init_16 rfl rfl cw_Names ty_Names_ok (gm_4 (List.mem_of_getElem? (i := 91) rfl) rfl) (gm_4 (List.mem_of_getElem? (i := 92) rfl) rfl) (gm_1 (List.mem_of_getElem? (i := 28) rfl) rfl) n9_fs_Names (by decide) (by decide) ?_
  refine Go.dup d_Teacher_init_19 rfl rfl ?_
  refine Go.callI (C1 := 6) (S1 := 24) (as := []) d_Teacher_init_20 rfl (Or.inr ⟨_, l_Teacher_11⟩) k_Names_init_n rfl rfl (c_Names_init (t := t + 3) hup_at) (by decide) (by decide) (by decide) (by decide) (Nat.le_of_ble_eq_true rfl) (fun E h2 z2 hx _ => hx.elim) (fun v h2 z2 hx _ => ?_)
  obtain ⟨rfl, rfl, rfl⟩ := hx
  refine Go.heq (ct_app (n := 2) (m := 2) (by omega) (by decide)) ?_
  refine Go.putfield d_Teacher_init_23 rfl f_Teacher_18_p (Or.inr ⟨rfl, fun C T N h => by cases h; exact ⟨rfl, rfl⟩⟩) hup_at (by exact Nat.le_of_ble_eq_true rfl) rfl rfl ?_
  refine Go.heq hup_hup ?_
  simp only [List.set_cons_succ, List.set_cons_zero]
  refine Go.aload_0 d_Teacher_init_26 rfl ?_
  refine Go.new (ci := 2) (C1 := 5) (S1 := 22) (fs := [.null, .int 0]) ty_Names d_Teacher_init_27 rfl rfl cw_Names ty_Names_ok (gm_4 (List.mem_of_getElem? (i := 91) rfl) rfl) (gm_4 (List.mem_of_getElem? (i := 92) rfl) rfl) (gm_1 (List.mem_of_getElem? (i := 28) rfl) rfl) n9_fs_Names (by decide) (by decide) ?_
  refine Go.dup d_Teacher_init_30 rfl rfl ?_
  refine Go.callI (C1 := 4) (S1 := 16) (as := []) d_Teacher_init_31 rfl (Or.inr ⟨_, l_Teacher_11⟩) k_Names_init_n rfl rfl (c_Names_init (t := t + 5) hup_at) (by decide) (by decide) (by decide) (by decide) (Nat.le_of_ble_eq_true rfl) (fun E h2 z2 hx _ => hx.elim) (fun v h2 z2 hx _ => ?_)
  obtain ⟨rfl, rfl, rfl⟩ := hx
  refine Go.heq (ct_app (n := 4) (m := 2) (by omega) (by decide)) ?_
  refine Go.putfield d_Teacher_init_34 rfl f_Teacher_21_p (Or.inr ⟨rfl, fun C T N h => by cases h; exact ⟨rfl, rfl⟩⟩) hup_at (by exact Nat.le_of_ble_eq_true rfl) rfl rfl ?_
  refine Go.heq hup_hup ?_
  simp only [List.set_cons_succ, List.set_cons_zero]
  refine Go.aload_0 d_Teacher_init_37 rfl ?_
  refine Go.new (ci := 2) (C1 := 3) (S1 := 14) (fs := [.null, .int 0]) ty_Names d_Teacher_init_38 rfl rfl cw_Names ty_Names_ok (gm_4 (List.mem_of_getElem? (i := 91) rfl) rfl) (gm_4 (List.mem_of_getElem? (i := 92) rfl) rfl) (gm_1 (List.mem_of_getElem? (i := 28) rfl) rfl) n9_fs_Names (by decide) (by decide) ?_
  refine Go.dup d_Teacher_init_41 rfl rfl ?_
  refine Go.callI (C1 := 2) (S1 := 8) (as := []) d_Teacher_init_42 rfl (Or.inr ⟨_, l_Teacher_11⟩) k_Names_init_n rfl rfl (c_Names_init (t := t + 7) hup_at) (by decide) (by decide) (by decide) (by decide) (Nat.le_of_ble_eq_true rfl) (fun E h2 z2 hx _ => hx.elim) (fun v h2 z2 hx _ => ?_)
  obtain ⟨rfl, rfl, rfl⟩ := hx
  refine Go.heq (ct_app (n := 6) (m := 2) (by omega) (by decide)) ?_
  refine Go.putfield d_Teacher_init_45 rfl f_Teacher_24_p (Or.inr ⟨rfl, fun C T N h => by cases h; exact ⟨rfl, rfl⟩⟩) hup_at (by exact Nat.le_of_ble_eq_true rfl) rfl rfl ?_
  refine Go.heq hup_hup ?_
  simp only [List.set_cons_succ, List.set_cons_zero]
  refine Go.aload_0 d_Teacher_init_48 rfl ?_
  refine Go.new (ci := 2) (C1 := 1) (S1 := 6) (fs := [.null, .int 0]) ty_Names d_Teacher_init_49 rfl rfl cw_Names ty_Names_ok (gm_4 (List.mem_of_getElem? (i := 91) rfl) rfl) (gm_4 (List.mem_of_getElem? (i := 92) rfl) rfl) (gm_1 (List.mem_of_getElem? (i := 28) rfl) rfl) n9_fs_Names (by decide) (by decide) ?_
  refine Go.dup d_Teacher_init_52 rfl rfl ?_
  refine Go.callI (C1 := 0) (S1 := 0) (as := []) d_Teacher_init_53 rfl (Or.inr ⟨_, l_Teacher_11⟩) k_Names_init_n rfl rfl (c_Names_init (t := t + 9) hup_at) (by decide) (by decide) (by decide) (by decide) (Nat.le_of_ble_eq_true rfl) (fun E h2 z2 hx _ => hx.elim) (fun v h2 z2 hx _ => ?_)
  obtain ⟨rfl, rfl, rfl⟩ := hx
  refine Go.heq (ct_app (n := 8) (m := 2) (by omega) (by decide)) ?_
  refine Go.putfield d_Teacher_init_56 rfl f_Teacher_27_p (Or.inr ⟨rfl, fun C T N h => by cases h; exact ⟨rfl, rfl⟩⟩) hup_at (by exact Nat.le_of_ble_eq_true rfl) rfl rfl ?_
  refine Go.heq hup_hup ?_
  simp only [List.set_cons_succ, List.set_cons_zero]
  refine Go.aload_0 d_Teacher_init_59 rfl ?_
  refine Go.iconst (v := (-1)) d_Teacher_init_60 rfl (by decide) ?_
  refine Go.putfield d_Teacher_init_61 rfl f_Teacher_30_p (Or.inl (fun C T N h => by cases h; rfl)) hup_at (by exact Nat.le_of_ble_eq_true rfl) rfl rfl ?_
  refine Go.heq hup_hup ?_
  simp only [List.set_cons_succ, List.set_cons_zero]
  refine Go.aload_0 d_Teacher_init_64 rfl ?_
  refine Go.aload_1 d_Teacher_init_65 rfl ?_
  refine Go.putfield d_Teacher_init_66 rfl f_Teacher_34_p (Or.inr ⟨rfl, fun C T N h => by cases h; exact ⟨rfl, rfl⟩⟩) hup_at (by exact Nat.le_of_ble_eq_true rfl) rfl rfl ?_
  refine Go.heq hup_hup ?_
  simp only [List.set_cons_succ, List.set_cons_zero]
  refine Go.aload_0 d_Teacher_init_69 rfl ?_
  refine Go.aload_2 d_Teacher_init_70 rfl ?_
  refine Go.putfield d_Teacher_init_71 rfl f_Teacher_38_p (Or.inr ⟨rfl, fun C T N h => by cases h; exact ⟨rfl, rfl⟩⟩) hup_at (by exact Nat.le_of_ble_eq_true rfl) rfl rfl ?_
  refine Go.heq hup_hup ?_
  simp only [List.set_cons_succ, List.set_cons_zero]
  refine Go.aload_0 d_Teacher_init_74 rfl ?_
  refine Go.aload_3 d_Teacher_init_75 rfl ?_
  refine Go.putfield d_Teacher_init_76 rfl f_Teacher_42_p (Or.inr ⟨rfl, fun C T N h => by cases h; exact ⟨rfl, rfl⟩⟩) hup_at (by exact Nat.le_of_ble_eq_true rfl) rfl rfl ?_
  refine Go.heq hup_hup ?_
  simp only [List.set_cons_succ, List.set_cons_zero]
  refine Go.aload_0 d_Teacher_init_79 rfl ?_
  refine Go.aload_3 d_Teacher_init_80 rfl ?_
  refine Go.getfield d_Teacher_init_81 rfl f_Teacher_46 ((hup_ne (by omega)).trans ((blk_out (Or.inl (by omega))).trans ho.1)) (by rfl) ?_
  refine Go.putfield d_Teacher_init_84 rfl f_Teacher_52_p (Or.inr ⟨rfl, fun C T N h => by cases h; exact ⟨rfl, rfl⟩⟩) hup_at (by exact Nat.le_of_ble_eq_true rfl) rfl rfl ?_
  refine Go.heq hup_hup ?_
  simp only [List.set_cons_succ, List.set_cons_zero]
  refine Go.vret d_Teacher_init_87 rfl ⟨rfl, ?_, rfl⟩
  rw [blk_cons]
  refine blk_ext fun j hj => ?_
  match j, hj with
  | 0, _ => rfl
  | 1, _ => rfl
  | 2, _ => rfl
  | 3, _ => rfl
  | 4, _ => rfl
  | 5, _ => rfl
  | 6, _ => rfl
  | 7, _ => rfl
  | 8, _ => rfl
  | 9, _ => rfl
  | 10, _ => rfl
  | _ + 11, w => exact absurd w (by omega)
