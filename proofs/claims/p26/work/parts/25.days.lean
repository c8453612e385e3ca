/-! GlacierCamp's calls that let days go by; its checksum -/
theorem gt2_of {i : Nat} (h : i = 3) : (2 : Int32) < nI i := by
  subst h
  decide
theorem ngt2_of {i : Nat} (h : i ≤ 2) : ¬ (2 : Int32) < nI i := fun w => by
  have := (nI_ltI (a := 2) (by omega) (by omega)).mp w
  omega
theorem cw_c_Glacier_passDay_g_o {Γ : G9} {sg : Nat → Nat} {sw : Nat} {h : AH} {c g g2 o o2 z : Nat} {A : TA} {K : TK} {σ : GL} {τ : GL} {T : TM} {F : FM} {U : TM} {G : FM} {P : CP} (hs : SgOk Γ sg) (hsn : SgNe sg) (hw : SwOk Γ sw) (geo : c + 7 ≤ g ∧ c + 7 ≤ g2 ∧ (g + 12 ≤ g2 ∨ g2 + 12 ≤ g) ∧ g + 12 ≤ o ∧ g + 12 ≤ o2 ∧ g2 + 12 ≤ o ∧ g2 + 12 ≤ o2 ∧ (o + 7 ≤ o2 ∨ o2 + 7 ≤ o)) (hA : ta_sz A ≤ 2000) (ho : h o = some (.inr (3, [.ref (o + 1), .ref (o + 3)]))) (ho2 : h o2 = some (.inr (3, [.ref (o2 + 1), .ref (o2 + 3)]))) (hT : T.2 ≤ 20) (hU : U.2 ≤ 20) (hW : WFG σ) (hV : WFG τ) : CallR Γ M_Glacier_passDay 5 [.ref g, .ref o] (cw_ Γ sg h c g g2 o o2 A K σ τ T F U G P) z none (cw_ Γ sg h c g g2 o o2 A K (s_Glacier_passDay T σ F).1 τ T (s_Glacier_passDay T σ F).2 U G P) := by
  unfold cw_
  exact CallR.conv (((((((((((blk_in (blk_in (blk_comm (by omega)))).trans (blk_in (blk_comm (by omega)))).trans (blk_comm (by omega))).trans (blk_in (blk_in (blk_in (blk_in (blk_in (blk_comm (by omega)))))))).trans (blk_in (blk_in (blk_in (blk_in (blk_comm (by omega))))))).trans (blk_in (blk_in (blk_in (blk_comm (by omega)))))).trans (blk_in (blk_in (blk_comm (by omega))))).trans (blk_in (blk_comm (by omega)))).trans (blk_in (blk_in (blk_in (blk_in (blk_comm (by omega))))))).trans (blk_in (blk_in (blk_in (blk_comm (by omega)))))).trans (blk_in (blk_in (blk_comm (by omega))))) (((((((((((blk_in (blk_in (blk_comm (by omega)))).trans (blk_in (blk_comm (by omega)))).trans (blk_comm (by omega))).trans (blk_in (blk_in (blk_in (blk_comm (by omega)))))).trans (blk_in (blk_in (blk_comm (by omega))))).trans (blk_in (blk_comm (by omega)))).trans (blk_in (blk_in (blk_in (blk_in (blk_comm (by omega))))))).trans (blk_in (blk_in (blk_in (blk_comm (by omega)))))).trans (blk_in (blk_in (blk_comm (by omega))))).trans (blk_in (blk_in (blk_in (blk_in (blk_comm (by omega))))))).trans (blk_in (blk_in (blk_in (blk_in (blk_in (blk_comm (by omega)))))))) (c_Glacier_passDay (by exact ((blk_out (by omega)).trans ((blk_out (by omega)).trans ((blk_out (by omega)).trans ((blk_out (by omega)).trans ((blk_out (by omega)).trans ((blk_out (by omega)).trans ho))))))) hT hs hsn hw (by omega) hW)
theorem d_Camp_pass_21 : decode M_Camp_pass.2.1 21 = .ok (.iload_n 3, 1) := by decide +kernel
theorem d_Camp_pass_22 : decode M_Camp_pass.2.1 22 = .ok (.iload_n 1, 1) := by decide +kernel
theorem d_Camp_pass_23 : decode M_Camp_pass.2.1 23 = .ok (.if_icmp .ge 20, 3) := by decide +kernel
theorem d_Camp_pass_26 : decode M_Camp_pass.2.1 26 = .ok (.aload_n 0, 1) := by decide +kernel
theorem d_Camp_pass_27 : decode M_Camp_pass.2.1 27 = .ok (.getfield 26, 3) := by decide +kernel
theorem d_Camp_pass_30 : decode M_Camp_pass.2.1 30 = .ok (.aload_n 0, 1) := by decide +kernel
theorem d_Camp_pass_31 : decode M_Camp_pass.2.1 31 = .ok (.getfield 36, 3) := by decide +kernel
theorem d_Camp_pass_34 : decode M_Camp_pass.2.1 34 = .ok (.invokevirtual 200, 3) := by decide +kernel
theorem d_Camp_pass_37 : decode M_Camp_pass.2.1 37 = .ok (.iinc 3 1, 3) := by decide +kernel
theorem d_Camp_pass_40 : decode M_Camp_pass.2.1 40 = .ok (.goto (-19), 3) := by decide +kernel
def l_Camp_pass_21 (A : TA) (K : TK) (τ : GL) (T : TM) (U : TM) (G : FM) (P : CP) (b : Int32) : Nat → Nat → GL → FM → GL × FM
  | 0, _, σ, F => (σ, F)
  | k + 1, i, σ, F => (l_Camp_pass_21 A K τ T U G P b k (i + 1) (s_Glacier_passDay T σ F).1 (s_Glacier_passDay T σ F).2)
set_option maxRecDepth 100000 in
set_option maxHeartbeats 800000 in
theorem l_Camp_pass_21_go {Γ : G9} {sg : Nat → Nat} {sw : Nat} {ms : Nat → Nat} {h : AH} {c g g2 o o2 z : Nat} {n : Nat} {Q : QT} {X : XT} {A : TA} {K : TK} {τ : GL} {T : TM} {U : TM} {G : FM} {P : CP} {b : Int32} (hs : SgOk Γ sg) (hsn : SgNe sg) (hw : SwOk Γ sw) (geo : c + 7 ≤ g ∧ c + 7 ≤ g2 ∧ (g + 12 ≤ g2 ∨ g2 + 12 ≤ g) ∧ g + 12 ≤ o ∧ g + 12 ≤ o2 ∧ g2 + 12 ≤ o ∧ g2 + 12 ≤ o2 ∧ (o + 7 ≤ o2 ∨ o2 + 7 ≤ o)) (hA : ta_sz A ≤ 2000) (ho : h o = some (.inr (3, [.ref (o + 1), .ref (o + 3)]))) (ho2 : h o2 = some (.inr (3, [.ref (o2 + 1), .ref (o2 + 3)]))) (hT : T.2 ≤ 20) (hU : U.2 ≤ 20) (hV : WFG τ) (hms : MsOk Γ ms) (hth : ThOk Γ) (hn20 : n ≤ 60) : ∀ (k i : Nat) (σ : GL) (F : FM), i + k = n → n = n → WFG σ → Go Γ M_Camp_pass 7 0 0 43 [some (.ref c), some (.int (nI n)), some (.int b), some (.int (nI (i + k)))] [] (cw_ Γ sg h c g g2 o o2 A K (l_Camp_pass_21 A K τ T U G P b k i σ F).1 τ T (l_Camp_pass_21 A K τ T U G P b k i σ F).2 U G P) z Q X → Go Γ M_Camp_pass 7 0 0 21 [some (.ref c), some (.int (nI n)), some (.int b), some (.int (nI i))] [] (cw_ Γ sg h c g g2 o o2 A K σ τ T F U G P) z Q X := by
  intro k
  induction k with
  | zero =>
    intro i σ F hi hn hW hk
    refine Go.iload_3 d_Camp_pass_21 rfl ?_
    refine Go.iload_1 d_Camp_pass_22 rfl ?_
    refine Go.icmp_ge (t := 43) d_Camp_pass_23 (by decide) rfl (fun c23_1 => ?_) (fun c23_1 => ?_)
    · exact hk
    · exact absurd (nI_le (by omega) (by omega)) c23_1
  | succ k ih =>
    intro i σ F hi hn hW hk
    unfold l_Camp_pass_21 at hk
    rw [show i + (k + 1) = i + 1 + k by omega] at hk
    refine Go.iload_3 d_Camp_pass_21 rfl ?_
    refine Go.iload_1 d_Camp_pass_22 rfl ?_
    refine Go.icmp_ge (t := 43) d_Camp_pass_23 (by decide) rfl (fun c23_1 => ?_) (fun c23_1 => ?_)
    · exact absurd c23_1 (nI_ge (by omega) (by omega))
    · refine Go.aload_0 d_Camp_pass_26 rfl ?_
      refine Go.getfield d_Camp_pass_27 rfl f_Camp_26 (cw_at_c hs hsn hw (by omega) hA ho ho2 hT hU hW hV) (by rfl) ?_
      refine Go.aload_0 d_Camp_pass_30 rfl ?_
      refine Go.getfield d_Camp_pass_31 rfl f_Camp_36 (cw_at_c hs hsn hw (by omega) hA ho ho2 hT hU hW hV) (by rfl) ?_
      refine Go.cv1v d_Camp_pass_34 rfl l_Camp_200 k_Glacier_passDay_v (cw_at_g hs hsn hw (by omega) hA ho ho2 hT hU hW hV) rfl (cw_c_Glacier_passDay_g_o hs hsn hw (by omega) hA ho ho2 hT hU hW hV) rfl rfl rfl ?_
      refine Go.iinc_3 d_Camp_pass_37 rfl (by rfl) (nI_inc _) ?_
      refine Go.goto (t := 21) d_Camp_pass_40 (by decide) ?_
      exact ih (i + 1) _ _ (by omega) (by first | exact hn | (simp only [gN_gS, gN_gA, gN_gSW, gN_gSD, gN_gSC, gN_Glacier_changeWarmth, gN_Glacier_letFall, gN_l_Glacier_letCross_23, gN_Glacier_letCross, gN_Glacier_tryGo, gN_Glacier_tryProbe, gN_Glacier_takeFood, gN_Glacier_tryDrill, gN_l_Glacier_moveStakes_2, gN_Glacier_moveStakes, gN_l_Glacier_moveBridges_2, gN_Glacier_moveBridges, gN_Glacier_weather, gN_l_Glacier_eat_46, gN_Glacier_eat, gN_l_Glacier_readStakes_2, gN_Glacier_readStakes, gN_l_Glacier_endDay_12, gN_l_Glacier_endDay_42, gN_Glacier_endDay, gN_l_Glacier_beginAnew_37, gN_Orders_carryOut, gN_l_Glacier_passDay_93, gN_l_Glacier_passDay_61, gN_l_Glacier_passDay_37, gN_l_Glacier_passDay_2, gN_Glacier_passDay]; exact hn)) (WFG.of hW (fun j => by simp only [gN_gS, gN_gA, gN_gSW, gN_gSD, gN_gSC, gN_Glacier_changeWarmth, gN_Glacier_letFall, gN_l_Glacier_letCross_23, gN_Glacier_letCross, gN_Glacier_tryGo, gN_Glacier_tryProbe, gN_Glacier_takeFood, gN_Glacier_tryDrill, gN_l_Glacier_moveStakes_2, gN_Glacier_moveStakes, gN_l_Glacier_moveBridges_2, gN_Glacier_moveBridges, gN_Glacier_weather, gN_l_Glacier_eat_46, gN_Glacier_eat, gN_l_Glacier_readStakes_2, gN_Glacier_readStakes, gN_l_Glacier_endDay_12, gN_l_Glacier_endDay_42, gN_Glacier_endDay, gN_l_Glacier_beginAnew_37, gN_Orders_carryOut, gN_l_Glacier_passDay_93, gN_l_Glacier_passDay_61, gN_l_Glacier_passDay_37, gN_l_Glacier_passDay_2, gN_Glacier_passDay])) hk
set_option maxRecDepth 100000 in
set_option maxHeartbeats 800000 in
theorem gN_l_Camp_pass_21 {A : TA} {K : TK} {τ : GL} {T : TM} {U : TM} {G : FM} {P : CP} {b : Int32} (j : Nat) : ∀ (k i : Nat) (σ : GL) (F : FM), gN (l_Camp_pass_21 A K τ T U G P b k i σ F).1 j = gN σ j := by
  intro k
  induction k with
  | zero => intros; rfl
  | succ k ih =>
    intros
    unfold l_Camp_pass_21
    (repeat' split) <;> simp only [gN_gS, gN_gA, gN_gSW, gN_gSD, gN_gSC, gN_Glacier_changeWarmth, gN_Glacier_letFall, gN_l_Glacier_letCross_23, gN_Glacier_letCross, gN_Glacier_tryGo, gN_Glacier_tryProbe, gN_Glacier_takeFood, gN_Glacier_tryDrill, gN_l_Glacier_moveStakes_2, gN_Glacier_moveStakes, gN_l_Glacier_moveBridges_2, gN_Glacier_moveBridges, gN_Glacier_weather, gN_l_Glacier_eat_46, gN_Glacier_eat, gN_l_Glacier_readStakes_2, gN_Glacier_readStakes, gN_l_Glacier_endDay_12, gN_l_Glacier_endDay_42, gN_Glacier_endDay, gN_l_Glacier_beginAnew_37, gN_Orders_carryOut, gN_l_Glacier_passDay_93, gN_l_Glacier_passDay_61, gN_l_Glacier_passDay_37, gN_l_Glacier_passDay_2, gN_Glacier_passDay, ih]
theorem cw_tab_sum_g_9 {Γ : G9} {sg : Nat → Nat} {sw : Nat} {h : AH} {c g g2 o o2 z : Nat} {A : TA} {K : TK} {σ : GL} {τ : GL} {T : TM} {F : FM} {U : TM} {G : FM} {P : CP} {cl : Nat} (hs : SgOk Γ sg) (hsn : SgNe sg) (hw : SwOk Γ sw) (geo : c + 7 ≤ g ∧ c + 7 ≤ g2 ∧ (g + 12 ≤ g2 ∨ g2 + 12 ≤ g) ∧ g + 12 ≤ o ∧ g + 12 ≤ o2 ∧ g2 + 12 ≤ o ∧ g2 + 12 ≤ o2 ∧ (o + 7 ≤ o2 ∨ o2 + 7 ≤ o)) (hA : ta_sz A ≤ 2000) (ho : h o = some (.inr (3, [.ref (o + 1), .ref (o + 3)]))) (ho2 : h o2 = some (.inr (3, [.ref (o2 + 1), .ref (o2 + 3)]))) (hT : T.2 ≤ 20) (hU : U.2 ≤ 20) (hW : WFG σ) (hV : WFG τ) (hcl : cl < 8) : CallR Γ M_Table_sum 1 [.ref (g + 9), .int (nI cl)] (cw_ Γ sg h c g g2 o o2 A K σ τ T F U G P) z (some (.int (gSum σ 4 cl))) (cw_ Γ sg h c g g2 o o2 A K σ τ T F U G P) := by
  unfold cw_
  exact CallR.conv ((((((blk_in (blk_in (blk_in (blk_in (blk_in (blk_comm (by omega))))))).trans (blk_in (blk_in (blk_in (blk_in (blk_comm (by omega))))))).trans (blk_in (blk_in (blk_in (blk_comm (by omega)))))).trans (blk_in (blk_in (blk_comm (by omega))))).trans (blk_in (blk_comm (by omega)))).trans (blk_comm (by omega))) ((((((blk_comm (by omega)).trans (blk_in (blk_comm (by omega)))).trans (blk_in (blk_in (blk_comm (by omega))))).trans (blk_in (blk_in (blk_in (blk_comm (by omega)))))).trans (blk_in (blk_in (blk_in (blk_in (blk_comm (by omega))))))).trans (blk_in (blk_in (blk_in (blk_in (blk_in (blk_comm (by omega)))))))) (cG_sum (k := 4) (by decide) (c := cl) rfl (by omega) hW)
theorem d_Camp_pass_0 : decode M_Camp_pass.2.1 0 = .ok (.iload_n 1, 1) := by decide +kernel
theorem d_Camp_pass_1 : decode M_Camp_pass.2.1 1 = .ok (.iconst 1, 1) := by decide +kernel
theorem d_Camp_pass_2 : decode M_Camp_pass.2.1 2 = .ok (.bipush 60, 2) := by decide +kernel
theorem d_Camp_pass_4 : decode M_Camp_pass.2.1 4 = .ok (.invokestatic 174, 3) := by decide +kernel
theorem d_Camp_pass_7 : decode M_Camp_pass.2.1 7 = .ok (.aload_n 0, 1) := by decide +kernel
theorem d_Camp_pass_8 : decode M_Camp_pass.2.1 8 = .ok (.getfield 26, 3) := by decide +kernel
theorem d_Camp_pass_11 : decode M_Camp_pass.2.1 11 = .ok (.getfield 125, 3) := by decide +kernel
theorem d_Camp_pass_14 : decode M_Camp_pass.2.1 14 = .ok (.iconst 5, 1) := by decide +kernel
theorem d_Camp_pass_15 : decode M_Camp_pass.2.1 15 = .ok (.invokevirtual 197, 3) := by decide +kernel
theorem d_Camp_pass_18 : decode M_Camp_pass.2.1 18 = .ok (.istore_n 2, 1) := by decide +kernel
theorem d_Camp_pass_19 : decode M_Camp_pass.2.1 19 = .ok (.iconst 0, 1) := by decide +kernel
theorem d_Camp_pass_20 : decode M_Camp_pass.2.1 20 = .ok (.istore_n 3, 1) := by decide +kernel
theorem d_Camp_pass_43 : decode M_Camp_pass.2.1 43 = .ok (.aload_n 0, 1) := by decide +kernel
theorem d_Camp_pass_44 : decode M_Camp_pass.2.1 44 = .ok (.getfield 26, 3) := by decide +kernel
theorem d_Camp_pass_47 : decode M_Camp_pass.2.1 47 = .ok (.getfield 125, 3) := by decide +kernel
theorem d_Camp_pass_50 : decode M_Camp_pass.2.1 50 = .ok (.iconst 5, 1) := by decide +kernel
theorem d_Camp_pass_51 : decode M_Camp_pass.2.1 51 = .ok (.invokevirtual 197, 3) := by decide +kernel
theorem d_Camp_pass_54 : decode M_Camp_pass.2.1 54 = .ok (.iload_n 2, 1) := by decide +kernel
theorem d_Camp_pass_55 : decode M_Camp_pass.2.1 55 = .ok (.isub, 1) := by decide +kernel
theorem d_Camp_pass_56 : decode M_Camp_pass.2.1 56 = .ok (.ireturn, 1) := by decide +kernel
def s_Camp_pass (A : TA) (K : TK) (σ : GL) (τ : GL) (T : TM) (F : FM) (U : TM) (G : FM) (P : CP) (x1 : Int32) : Int32 × Int32 × GL × FM := (if (s_Camp_needRange x1 1 60) = 0 then (0, ((gSum (l_Camp_pass_21 A K τ T U G P (gSum σ 4 5) (x1.toNatClampNeg) 0 σ F).1 4 5) - (gSum σ 4 5)), (l_Camp_pass_21 A K τ T U G P (gSum σ 4 5) (x1.toNatClampNeg) 0 σ F).1, (l_Camp_pass_21 A K τ T U G P (gSum σ 4 5) (x1.toNatClampNeg) 0 σ F).2) else ((s_Camp_needRange x1 1 60), 0, σ, F))
set_option maxRecDepth 100000 in
set_option maxHeartbeats 800000 in
theorem c_Camp_pass {Γ : G9} {sg : Nat → Nat} {sw : Nat} {ms : Nat → Nat} {h : AH} {c g g2 o o2 z : Nat} {A : TA} {K : TK} {σ : GL} {τ : GL} {T : TM} {F : FM} {U : TM} {G : FM} {P : CP} {x1 : Int32} (hs : SgOk Γ sg) (hsn : SgNe sg) (hw : SwOk Γ sw) (geo : c + 7 ≤ g ∧ c + 7 ≤ g2 ∧ (g + 12 ≤ g2 ∨ g2 + 12 ≤ g) ∧ g + 12 ≤ o ∧ g + 12 ≤ o2 ∧ g2 + 12 ≤ o ∧ g2 + 12 ≤ o2 ∧ (o + 7 ≤ o2 ∨ o2 + 7 ≤ o)) (hA : ta_sz A ≤ 2000) (ho : h o = some (.inr (3, [.ref (o + 1), .ref (o + 3)]))) (ho2 : h o2 = some (.inr (3, [.ref (o2 + 1), .ref (o2 + 3)]))) (hT : T.2 ≤ 20) (hU : U.2 ≤ 20) (hW : WFG σ) (hV : WFG τ) (hms : MsOk Γ ms) (hth : ThOk Γ) : CallT Γ M_Camp_pass 7 4 24 [.ref c, .int x1] (cw_ Γ sg h c g g2 o o2 A K σ τ T F U G P) z (s_Camp_pass A K σ τ T F U G P x1).1 (some (.int (s_Camp_pass A K σ τ T F U G P x1).2.1)) (cw_ Γ sg h c g g2 o o2 A K (s_Camp_pass A K σ τ T F U G P x1).2.2.1 τ T (s_Camp_pass A K σ τ T F U G P x1).2.2.2 U G P) := by
  refine Call.of_go (L := [some (.ref c), some (.int x1), none, none]) (by decide +kernel) rfl (by exact Nat.le_of_ble_eq_true rfl) ?_
  unfold s_Camp_pass
  refine Go.iload_1 d_Camp_pass_0 rfl ?_
  refine Go.iconst (v := 1) d_Camp_pass_1 rfl (by decide) ?_
  refine Go.bipush (v := 60) d_Camp_pass_2 rfl (by decide) ?_
  refine Go.csT (C1 := 3) (S1 := 18) (as := [.int x1, .int 1, .int 60]) d_Camp_pass_4 rfl l_Camp_174 k_Camp_needRange_s rfl rfl rfl (c_Camp_needRange hms hth) rfl rfl rfl rfl rfl rfl (fun t4_1 z2 hz => ?_) (fun t4_1 => ?_)
  · rw [if_neg t4_1]
    exact ⟨t4_1, rfl, by dsimp only, hz⟩
  have hq_a0 := needRange_ok t4_1
  obtain ⟨a0, ha0, rfl⟩ := nI_of (x := x1) (i_trans1 hq_a0.1)
  have hb_a0 : a0 ≤ 60 := (nI_leI ha0 (b := 60) (by decide)).mp hq_a0.2
  try rw [nI_clamp ha0]
  refine Go.aload_0 d_Camp_pass_7 rfl ?_
  refine Go.getfield d_Camp_pass_8 rfl f_Camp_26 (cw_at_c hs hsn hw (by omega) hA ho ho2 hT hU hW hV) (by rfl) ?_
  refine Go.getfield d_Camp_pass_11 rfl f_Camp_125 (cw_at_g hs hsn hw (by omega) hA ho ho2 hT hU hW hV) (by rfl) ?_
  refine Go.iconst (v := 5) d_Camp_pass_14 rfl (by decide) ?_
  refine Go.cv1r d_Camp_pass_15 rfl l_Camp_197 k_Table_sum_v (cw_at_g_9 hs hsn hw (by omega) hA ho ho2 hT hU hW hV) rfl (cw_tab_sum_g_9 (cl := 5) hs hsn hw (by omega) hA ho ho2 hT hU hW hV (by omega)) rfl rfl rfl ?_
  refine Go.istore_2 d_Camp_pass_18 rfl (by rfl) ?_
  refine Go.iconst (v := 0) d_Camp_pass_19 rfl (by decide) ?_
  refine Go.istore_3 d_Camp_pass_20 rfl (by rfl) ?_
  refine Go.room (C' := 0) (S' := 0) ?_ (Nat.le_refl _) (Nat.zero_le _) (Nat.zero_le _)
  refine l_Camp_pass_21_go (n := (a0)) hs hsn hw geo hA ho ho2 hT hU hV hms hth (by omega) (a0) 0 σ F (by omega) rfl hW ?_
  refine Go.aload_0 d_Camp_pass_43 rfl ?_
  refine Go.getfield d_Camp_pass_44 rfl f_Camp_26 (cw_at_c hs hsn hw (by omega) hA ho ho2 hT hU (WFG.of hW (fun j => by simp only [gN_gS, gN_gA, gN_gSW, gN_gSD, gN_gSC, gN_Glacier_changeWarmth, gN_Glacier_letFall, gN_l_Glacier_letCross_23, gN_Glacier_letCross, gN_Glacier_tryGo, gN_Glacier_tryProbe, gN_Glacier_takeFood, gN_Glacier_tryDrill, gN_l_Glacier_moveStakes_2, gN_Glacier_moveStakes, gN_l_Glacier_moveBridges_2, gN_Glacier_moveBridges, gN_Glacier_weather, gN_l_Glacier_eat_46, gN_Glacier_eat, gN_l_Glacier_readStakes_2, gN_Glacier_readStakes, gN_l_Glacier_endDay_12, gN_l_Glacier_endDay_42, gN_Glacier_endDay, gN_l_Glacier_beginAnew_37, gN_Orders_carryOut, gN_l_Glacier_passDay_93, gN_l_Glacier_passDay_61, gN_l_Glacier_passDay_37, gN_l_Glacier_passDay_2, gN_Glacier_passDay, gN_l_Camp_pass_21])) hV) (by rfl) ?_
  refine Go.getfield d_Camp_pass_47 rfl f_Camp_125 (cw_at_g hs hsn hw (by omega) hA ho ho2 hT hU (WFG.of hW (fun j => by simp only [gN_gS, gN_gA, gN_gSW, gN_gSD, gN_gSC, gN_Glacier_changeWarmth, gN_Glacier_letFall, gN_l_Glacier_letCross_23, gN_Glacier_letCross, gN_Glacier_tryGo, gN_Glacier_tryProbe, gN_Glacier_takeFood, gN_Glacier_tryDrill, gN_l_Glacier_moveStakes_2, gN_Glacier_moveStakes, gN_l_Glacier_moveBridges_2, gN_Glacier_moveBridges, gN_Glacier_weather, gN_l_Glacier_eat_46, gN_Glacier_eat, gN_l_Glacier_readStakes_2, gN_Glacier_readStakes, gN_l_Glacier_endDay_12, gN_l_Glacier_endDay_42, gN_Glacier_endDay, gN_l_Glacier_beginAnew_37, gN_Orders_carryOut, gN_l_Glacier_passDay_93, gN_l_Glacier_passDay_61, gN_l_Glacier_passDay_37, gN_l_Glacier_passDay_2, gN_Glacier_passDay, gN_l_Camp_pass_21])) hV) (by rfl) ?_
  refine Go.iconst (v := 5) d_Camp_pass_50 rfl (by decide) ?_
  refine Go.cv1r d_Camp_pass_51 rfl l_Camp_197 k_Table_sum_v (cw_at_g_9 hs hsn hw (by omega) hA ho ho2 hT hU (WFG.of hW (fun j => by simp only [gN_gS, gN_gA, gN_gSW, gN_gSD, gN_gSC, gN_Glacier_changeWarmth, gN_Glacier_letFall, gN_l_Glacier_letCross_23, gN_Glacier_letCross, gN_Glacier_tryGo, gN_Glacier_tryProbe, gN_Glacier_takeFood, gN_Glacier_tryDrill, gN_l_Glacier_moveStakes_2, gN_Glacier_moveStakes, gN_l_Glacier_moveBridges_2, gN_Glacier_moveBridges, gN_Glacier_weather, gN_l_Glacier_eat_46, gN_Glacier_eat, gN_l_Glacier_readStakes_2, gN_Glacier_readStakes, gN_l_Glacier_endDay_12, gN_l_Glacier_endDay_42, gN_Glacier_endDay, gN_l_Glacier_beginAnew_37, gN_Orders_carryOut, gN_l_Glacier_passDay_93, gN_l_Glacier_passDay_61, gN_l_Glacier_passDay_37, gN_l_Glacier_passDay_2, gN_Glacier_passDay, gN_l_Camp_pass_21])) hV) rfl (cw_tab_sum_g_9 (cl := 5) hs hsn hw (by omega) hA ho ho2 hT hU (WFG.of hW (fun j => by simp only [gN_gS, gN_gA, gN_gSW, gN_gSD, gN_gSC, gN_Glacier_changeWarmth, gN_Glacier_letFall, gN_l_Glacier_letCross_23, gN_Glacier_letCross, gN_Glacier_tryGo, gN_Glacier_tryProbe, gN_Glacier_takeFood, gN_Glacier_tryDrill, gN_l_Glacier_moveStakes_2, gN_Glacier_moveStakes, gN_l_Glacier_moveBridges_2, gN_Glacier_moveBridges, gN_Glacier_weather, gN_l_Glacier_eat_46, gN_Glacier_eat, gN_l_Glacier_readStakes_2, gN_Glacier_readStakes, gN_l_Glacier_endDay_12, gN_l_Glacier_endDay_42, gN_Glacier_endDay, gN_l_Glacier_beginAnew_37, gN_Orders_carryOut, gN_l_Glacier_passDay_93, gN_l_Glacier_passDay_61, gN_l_Glacier_passDay_37, gN_l_Glacier_passDay_2, gN_Glacier_passDay, gN_l_Camp_pass_21])) hV (by omega)) rfl rfl rfl ?_
  refine Go.iload_2 d_Camp_pass_54 rfl ?_
  refine Go.isub d_Camp_pass_55 rfl ?_
  rw [if_pos t4_1]
  exact Go.iret d_Camp_pass_56 rfl rfl ⟨rfl, rfl, by dsimp only, rfl⟩
theorem d_Camp_melt_37 : decode M_Camp_melt.2.1 37 = .ok (.iload 5, 2) := by decide +kernel
theorem d_Camp_melt_39 : decode M_Camp_melt.2.1 39 = .ok (.iload_n 2, 1) := by decide +kernel
theorem d_Camp_melt_40 : decode M_Camp_melt.2.1 40 = .ok (.if_icmp .ge 42, 3) := by decide +kernel
theorem d_Camp_melt_43 : decode M_Camp_melt.2.1 43 = .ok (.iload 4, 2) := by decide +kernel
theorem d_Camp_melt_45 : decode M_Camp_melt.2.1 45 = .ok (.iconst 3, 1) := by decide +kernel
theorem d_Camp_melt_46 : decode M_Camp_melt.2.1 46 = .ok (.iconst 0, 1) := by decide +kernel
theorem d_Camp_melt_47 : decode M_Camp_melt.2.1 47 = .ok (.aload_n 0, 1) := by decide +kernel
theorem d_Camp_melt_48 : decode M_Camp_melt.2.1 48 = .ok (.getfield 26, 3) := by decide +kernel
theorem d_Camp_melt_51 : decode M_Camp_melt.2.1 51 = .ok (.aload_n 0, 1) := by decide +kernel
theorem d_Camp_melt_52 : decode M_Camp_melt.2.1 52 = .ok (.getfield 26, 3) := by decide +kernel
theorem d_Camp_melt_55 : decode M_Camp_melt.2.1 55 = .ok (.invokevirtual 70, 3) := by decide +kernel
theorem d_Camp_melt_58 : decode M_Camp_melt.2.1 58 = .ok (.iload 5, 2) := by decide +kernel
theorem d_Camp_melt_60 : decode M_Camp_melt.2.1 60 = .ok (.iadd, 1) := by decide +kernel
theorem d_Camp_melt_61 : decode M_Camp_melt.2.1 61 = .ok (.bipush 8, 2) := by decide +kernel
theorem d_Camp_melt_63 : decode M_Camp_melt.2.1 63 = .ok (.irem, 1) := by decide +kernel
theorem d_Camp_melt_64 : decode M_Camp_melt.2.1 64 = .ok (.invokevirtual 191, 3) := by decide +kernel
theorem d_Camp_melt_67 : decode M_Camp_melt.2.1 67 = .ok (.iload_n 3, 1) := by decide +kernel
theorem d_Camp_melt_68 : decode M_Camp_melt.2.1 68 = .ok (.isub, 1) := by decide +kernel
theorem d_Camp_melt_69 : decode M_Camp_melt.2.1 69 = .ok (.invokestatic 204, 3) := by decide +kernel
theorem d_Camp_melt_72 : decode M_Camp_melt.2.1 72 = .ok (.imul, 1) := by decide +kernel
theorem d_Camp_melt_73 : decode M_Camp_melt.2.1 73 = .ok (.iadd, 1) := by decide +kernel
theorem d_Camp_melt_74 : decode M_Camp_melt.2.1 74 = .ok (.istore 4, 2) := by decide +kernel
theorem d_Camp_melt_76 : decode M_Camp_melt.2.1 76 = .ok (.iinc 5 1, 3) := by decide +kernel
theorem d_Camp_melt_79 : decode M_Camp_melt.2.1 79 = .ok (.goto (-42), 3) := by decide +kernel
def l_Camp_melt_37 (A : TA) (K : TK) (σ : GL) (τ : GL) (T : TM) (F : FM) (U : TM) (G : FM) (P : CP) (hh : Int32) : Nat → Nat → Int32 → Int32
  | 0, _, v => v
  | k + 1, i, v => (l_Camp_melt_37 A K σ τ T F U G P hh k (i + 1) (v + (3 * (iMax 0 ((s_Glacier_warmthOf σ (((s_Glacier_day σ) + (nI i)) - ((s_Glacier_day σ) + (nI i)) / 8 * 8)) - hh)))))
set_option maxRecDepth 100000 in
set_option maxHeartbeats 800000 in
theorem l_Camp_melt_37_go {Γ : G9} {sg : Nat → Nat} {sw : Nat} {ms : Nat → Nat} {h : AH} {c g g2 o o2 z : Nat} {n : Nat} {Q : QT} {X : XT} {A : TA} {K : TK} {σ : GL} {τ : GL} {T : TM} {F : FM} {U : TM} {G : FM} {P : CP} {hh : Int32} (hs : SgOk Γ sg) (hsn : SgNe sg) (hw : SwOk Γ sw) (geo : c + 7 ≤ g ∧ c + 7 ≤ g2 ∧ (g + 12 ≤ g2 ∨ g2 + 12 ≤ g) ∧ g + 12 ≤ o ∧ g + 12 ≤ o2 ∧ g2 + 12 ≤ o ∧ g2 + 12 ≤ o2 ∧ (o + 7 ≤ o2 ∨ o2 + 7 ≤ o)) (hA : ta_sz A ≤ 2000) (ho : h o = some (.inr (3, [.ref (o + 1), .ref (o + 3)]))) (ho2 : h o2 = some (.inr (3, [.ref (o2 + 1), .ref (o2 + 3)]))) (hT : T.2 ≤ 20) (hU : U.2 ≤ 20) (hW : WFG σ) (hV : WFG τ) (hms : MsOk Γ ms) (hth : ThOk Γ) (hn20 : n ≤ 60) (hn : n = n) : ∀ (k i : Nat) (v : Int32), i + k = n → Go Γ M_Camp_melt 7 0 0 82 [some (.ref c), none, some (.int (nI n)), some (.int hh), some (.int (l_Camp_melt_37 A K σ τ T F U G P hh k i v)), some (.int (nI (i + k)))] [] (cw_ Γ sg h c g g2 o o2 A K σ τ T F U G P) z Q X → Go Γ M_Camp_melt 7 0 0 37 [some (.ref c), none, some (.int (nI n)), some (.int hh), some (.int v), some (.int (nI i))] [] (cw_ Γ sg h c g g2 o o2 A K σ τ T F U G P) z Q X := by
  intro k
  induction k with
  | zero =>
    intro i v hi hk
    refine Go.iload_5 d_Camp_melt_37 rfl ?_
    refine Go.iload_2 d_Camp_melt_39 rfl ?_
    refine Go.icmp_ge (t := 82) d_Camp_melt_40 (by decide) rfl (fun c40_1 => ?_) (fun c40_1 => ?_)
    · exact hk
    · exact absurd (nI_le (by omega) (by omega)) c40_1
  | succ k ih =>
    intro i v hi hk
    unfold l_Camp_melt_37 at hk
    rw [show i + (k + 1) = i + 1 + k by omega] at hk
    refine Go.iload_5 d_Camp_melt_37 rfl ?_
    refine Go.iload_2 d_Camp_melt_39 rfl ?_
    refine Go.icmp_ge (t := 82) d_Camp_melt_40 (by decide) rfl (fun c40_1 => ?_) (fun c40_1 => ?_)
    · exact absurd c40_1 (nI_ge (by omega) (by omega))
    · refine Go.iload_4 d_Camp_melt_43 rfl ?_
      refine Go.iconst (v := 3) d_Camp_melt_45 rfl (by decide) ?_
      refine Go.iconst (v := 0) d_Camp_melt_46 rfl (by decide) ?_
      refine Go.aload_0 d_Camp_melt_47 rfl ?_
      refine Go.getfield d_Camp_melt_48 rfl f_Camp_26 (cw_at_c hs hsn hw (by omega) hA ho ho2 hT hU hW hV) (by rfl) ?_
      refine Go.aload_0 d_Camp_melt_51 rfl ?_
      refine Go.getfield d_Camp_melt_52 rfl f_Camp_26 (cw_at_c hs hsn hw (by omega) hA ho ho2 hT hU hW hV) (by rfl) ?_
      refine Go.cv0r d_Camp_melt_55 rfl l_Camp_70 k_Glacier_day_v (cw_at_g hs hsn hw (by omega) hA ho ho2 hT hU hW hV) rfl (cw_c_Glacier_day_g hs hsn hw (by omega) hA ho ho2 hT hU hW hV) rfl rfl rfl ?_
      refine Go.iload_5 d_Camp_melt_58 rfl ?_
      refine Go.iadd d_Camp_melt_60 rfl ?_
      refine Go.bipush (v := 8) d_Camp_melt_61 rfl (by decide) ?_
      refine Go.irem d_Camp_melt_63 rfl (by decide) ?_
      refine Go.cv1r d_Camp_melt_64 rfl l_Camp_191 k_Glacier_warmthOf_v (cw_at_g hs hsn hw (by omega) hA ho ho2 hT hU hW hV) rfl (cw_c_Glacier_warmthOf_g hs hsn hw (by omega) hA ho ho2 hT hU hW hV) rfl rfl rfl ?_
      refine Go.iload_3 d_Camp_melt_67 rfl ?_
      refine Go.isub d_Camp_melt_68 rfl ?_
      refine Go.imax d_Camp_melt_69 rfl l_Camp_204 (by decide) rfl ?_
      refine Go.imul d_Camp_melt_72 rfl ?_
      refine Go.iadd d_Camp_melt_73 rfl ?_
      refine Go.istore_4 d_Camp_melt_74 rfl (by rfl) ?_
      refine Go.iinc_5 d_Camp_melt_76 rfl (by rfl) (nI_inc _) ?_
      refine Go.goto (t := 37) d_Camp_melt_79 (by decide) ?_
      exact ih (i + 1) _ (by omega) hk
theorem cw_tab_get_g_1 {Γ : G9} {sg : Nat → Nat} {sw : Nat} {h : AH} {c g g2 o o2 z : Nat} {A : TA} {K : TK} {σ : GL} {τ : GL} {T : TM} {F : FM} {U : TM} {G : FM} {P : CP} {row : Int32} {cl : Nat} {ci : Int32} (hs : SgOk Γ sg) (hsn : SgNe sg) (hw : SwOk Γ sw) (geo : c + 7 ≤ g ∧ c + 7 ≤ g2 ∧ (g + 12 ≤ g2 ∨ g2 + 12 ≤ g) ∧ g + 12 ≤ o ∧ g + 12 ≤ o2 ∧ g2 + 12 ≤ o ∧ g2 + 12 ≤ o2 ∧ (o + 7 ≤ o2 ∨ o2 + 7 ≤ o)) (hA : ta_sz A ≤ 2000) (ho : h o = some (.inr (3, [.ref (o + 1), .ref (o + 3)]))) (ho2 : h o2 = some (.inr (3, [.ref (o2 + 1), .ref (o2 + 3)]))) (hT : T.2 ≤ 20) (hU : U.2 ≤ 20) (hW : WFG σ) (hV : WFG τ) (hci : ci = nI cl) (hcl : cl < 8) : CallR Γ M_Table_get 0 [.ref (g + 1), .int row, .int ci] (cw_ Γ sg h c g g2 o o2 A K σ τ T F U G P) z (some (.int (gG σ 0 row cl))) (cw_ Γ sg h c g g2 o o2 A K σ τ T F U G P) := by
  subst hci
  unfold cw_
  exact CallR.conv ((((((blk_in (blk_in (blk_in (blk_in (blk_in (blk_comm (by omega))))))).trans (blk_in (blk_in (blk_in (blk_in (blk_comm (by omega))))))).trans (blk_in (blk_in (blk_in (blk_comm (by omega)))))).trans (blk_in (blk_in (blk_comm (by omega))))).trans (blk_in (blk_comm (by omega)))).trans (blk_comm (by omega))) ((((((blk_comm (by omega)).trans (blk_in (blk_comm (by omega)))).trans (blk_in (blk_in (blk_comm (by omega))))).trans (blk_in (blk_in (blk_in (blk_comm (by omega)))))).trans (blk_in (blk_in (blk_in (blk_in (blk_comm (by omega))))))).trans (blk_in (blk_in (blk_in (blk_in (blk_in (blk_comm (by omega)))))))) (cG_get (k := 0) (by decide) (c := cl) rfl (by omega) hW)
theorem d_Camp_melt_0 : decode M_Camp_melt.2.1 0 = .ok (.aload_n 0, 1) := by decide +kernel
theorem d_Camp_melt_1 : decode M_Camp_melt.2.1 1 = .ok (.getfield 26, 3) := by decide +kernel
theorem d_Camp_melt_4 : decode M_Camp_melt.2.1 4 = .ok (.getfield 107, 3) := by decide +kernel
theorem d_Camp_melt_7 : decode M_Camp_melt.2.1 7 = .ok (.iload_n 1, 1) := by decide +kernel
theorem d_Camp_melt_8 : decode M_Camp_melt.2.1 8 = .ok (.invokestatic 135, 3) := by decide +kernel
theorem d_Camp_melt_11 : decode M_Camp_melt.2.1 11 = .ok (.iload_n 2, 1) := by decide +kernel
theorem d_Camp_melt_12 : decode M_Camp_melt.2.1 12 = .ok (.iconst 1, 1) := by decide +kernel
theorem d_Camp_melt_13 : decode M_Camp_melt.2.1 13 = .ok (.bipush 60, 2) := by decide +kernel
theorem d_Camp_melt_15 : decode M_Camp_melt.2.1 15 = .ok (.invokestatic 174, 3) := by decide +kernel
theorem d_Camp_melt_18 : decode M_Camp_melt.2.1 18 = .ok (.aload_n 0, 1) := by decide +kernel
theorem d_Camp_melt_19 : decode M_Camp_melt.2.1 19 = .ok (.getfield 26, 3) := by decide +kernel
theorem d_Camp_melt_22 : decode M_Camp_melt.2.1 22 = .ok (.getfield 107, 3) := by decide +kernel
theorem d_Camp_melt_25 : decode M_Camp_melt.2.1 25 = .ok (.iload_n 1, 1) := by decide +kernel
theorem d_Camp_melt_26 : decode M_Camp_melt.2.1 26 = .ok (.iconst 0, 1) := by decide +kernel
theorem d_Camp_melt_27 : decode M_Camp_melt.2.1 27 = .ok (.invokevirtual 143, 3) := by decide +kernel
theorem d_Camp_melt_30 : decode M_Camp_melt.2.1 30 = .ok (.istore_n 3, 1) := by decide +kernel
theorem d_Camp_melt_31 : decode M_Camp_melt.2.1 31 = .ok (.iconst 0, 1) := by decide +kernel
theorem d_Camp_melt_32 : decode M_Camp_melt.2.1 32 = .ok (.istore 4, 2) := by decide +kernel
theorem d_Camp_melt_34 : decode M_Camp_melt.2.1 34 = .ok (.iconst 0, 1) := by decide +kernel
theorem d_Camp_melt_35 : decode M_Camp_melt.2.1 35 = .ok (.istore 5, 2) := by decide +kernel
theorem d_Camp_melt_82 : decode M_Camp_melt.2.1 82 = .ok (.iload 4, 2) := by decide +kernel
theorem d_Camp_melt_84 : decode M_Camp_melt.2.1 84 = .ok (.ireturn, 1) := by decide +kernel
def s_Camp_melt (A : TA) (K : TK) (σ : GL) (τ : GL) (T : TM) (F : FM) (U : TM) (G : FM) (P : CP) (x1 : Int32) (x2 : Int32) : Int32 × Int32 := (if (s_Camp_needRow (σ.1 0) x1) = 0 then (if (s_Camp_needRange x2 1 60) = 0 then (0, (l_Camp_melt_37 A K σ τ T F U G P (gG σ 0 x1 0) (x2.toNatClampNeg) 0 0)) else ((s_Camp_needRange x2 1 60), 0)) else ((s_Camp_needRow (σ.1 0) x1), 0))
set_option maxRecDepth 100000 in
set_option maxHeartbeats 800000 in
theorem c_Camp_melt {Γ : G9} {sg : Nat → Nat} {sw : Nat} {ms : Nat → Nat} {h : AH} {c g g2 o o2 z : Nat} {A : TA} {K : TK} {σ : GL} {τ : GL} {T : TM} {F : FM} {U : TM} {G : FM} {P : CP} {x1 : Int32} {x2 : Int32} (hs : SgOk Γ sg) (hsn : SgNe sg) (hw : SwOk Γ sw) (geo : c + 7 ≤ g ∧ c + 7 ≤ g2 ∧ (g + 12 ≤ g2 ∨ g2 + 12 ≤ g) ∧ g + 12 ≤ o ∧ g + 12 ≤ o2 ∧ g2 + 12 ≤ o ∧ g2 + 12 ≤ o2 ∧ (o + 7 ≤ o2 ∨ o2 + 7 ≤ o)) (hA : ta_sz A ≤ 2000) (ho : h o = some (.inr (3, [.ref (o + 1), .ref (o + 3)]))) (ho2 : h o2 = some (.inr (3, [.ref (o2 + 1), .ref (o2 + 3)]))) (hT : T.2 ≤ 20) (hU : U.2 ≤ 20) (hW : WFG σ) (hV : WFG τ) (hms : MsOk Γ ms) (hth : ThOk Γ) : CallT Γ M_Camp_melt 7 4 24 [.ref c, .int x1, .int x2] (cw_ Γ sg h c g g2 o o2 A K σ τ T F U G P) z (s_Camp_melt A K σ τ T F U G P x1 x2).1 (some (.int (s_Camp_melt A K σ τ T F U G P x1 x2).2)) (cw_ Γ sg h c g g2 o o2 A K σ τ T F U G P) := by
  refine Call.of_go (L := [some (.ref c), some (.int x1), some (.int x2), none, none, none]) (by decide +kernel) rfl (by exact Nat.le_of_ble_eq_true rfl) ?_
  unfold s_Camp_melt
  refine Go.aload_0 d_Camp_melt_0 rfl ?_
  refine Go.getfield d_Camp_melt_1 rfl f_Camp_26 (cw_at_c hs hsn hw (by omega) hA ho ho2 hT hU hW hV) (by rfl) ?_
  refine Go.getfield d_Camp_melt_4 rfl f_Camp_107 (cw_at_g hs hsn hw (by omega) hA ho ho2 hT hU hW hV) (by rfl) ?_
  refine Go.iload_1 d_Camp_melt_7 rfl ?_
  refine Go.csT (C1 := 3) (S1 := 18) (as := [.ref (g + 1), .int x1]) d_Camp_melt_8 rfl l_Camp_135 k_Camp_needRow_s rfl rfl rfl (c_Camp_needRow (cw_at_g_1 hs hsn hw (by omega) hA ho ho2 hT hU hW hV) hms hth) rfl rfl rfl rfl rfl rfl (fun t8_1 z2 hz => ?_) (fun t8_1 => ?_)
  · rw [if_neg t8_1]
    exact ⟨t8_1, rfl, by dsimp only, hz⟩
  refine Go.iload_2 d_Camp_melt_11 rfl ?_
  refine Go.iconst (v := 1) d_Camp_melt_12 rfl (by decide) ?_
  refine Go.bipush (v := 60) d_Camp_melt_13 rfl (by decide) ?_
  refine Go.csT (C1 := 2) (S1 := 12) (as := [.int x2, .int 1, .int 60]) d_Camp_melt_15 rfl l_Camp_174 k_Camp_needRange_s rfl rfl rfl (c_Camp_needRange hms hth) rfl rfl rfl rfl rfl rfl (fun t15_2 z2 hz => ?_) (fun t15_2 => ?_)
  · rw [if_pos t8_1, if_neg t15_2]
    exact ⟨t15_2, rfl, by dsimp only, hz⟩
  have hq_a0 := needRange_ok t15_2
  obtain ⟨a0, ha0, rfl⟩ := nI_of (x := x2) (i_trans1 hq_a0.1)
  have hb_a0 : a0 ≤ 60 := (nI_leI ha0 (b := 60) (by decide)).mp hq_a0.2
  try rw [nI_clamp ha0]
  refine Go.aload_0 d_Camp_melt_18 rfl ?_
  refine Go.getfield d_Camp_melt_19 rfl f_Camp_26 (cw_at_c hs hsn hw (by omega) hA ho ho2 hT hU hW hV) (by rfl) ?_
  refine Go.getfield d_Camp_melt_22 rfl f_Camp_107 (cw_at_g hs hsn hw (by omega) hA ho ho2 hT hU hW hV) (by rfl) ?_
  refine Go.iload_1 d_Camp_melt_25 rfl ?_
  refine Go.iconst (v := 0) d_Camp_melt_26 rfl (by decide) ?_
  refine Go.cv2r d_Camp_melt_27 rfl l_Camp_143 k_Table_get_v (cw_at_g_1 hs hsn hw (by omega) hA ho ho2 hT hU hW hV) rfl (cw_tab_get_g_1 (cl := 0) hs hsn hw (by omega) hA ho ho2 hT hU hW hV rfl (by omega)) rfl rfl rfl ?_
  refine Go.istore_3 d_Camp_melt_30 rfl (by rfl) ?_
  refine Go.iconst (v := 0) d_Camp_melt_31 rfl (by decide) ?_
  refine Go.istore_4 d_Camp_melt_32 rfl (by rfl) ?_
  refine Go.iconst (v := 0) d_Camp_melt_34 rfl (by decide) ?_
  refine Go.istore_5 d_Camp_melt_35 rfl (by rfl) ?_
  refine Go.room (C' := 0) (S' := 0) ?_ (Nat.le_refl _) (Nat.zero_le _) (Nat.zero_le _)
  refine Go.fgt [some (.ref c), none, some (.int (nI a0)), some (.int (gG σ 0 x1 0)), some (.int 0), some (.int 0)] (by repeat' (first | exact trivial | refine ⟨rfl, ?_⟩)) ?_
  refine l_Camp_melt_37_go (n := (a0)) hs hsn hw geo hA ho ho2 hT hU hW hV hms hth (by omega) rfl (a0) 0 0 (by omega) ?_
  refine Go.iload_4 d_Camp_melt_82 rfl ?_
  rw [if_pos t8_1, if_pos t15_2]
  exact Go.iret d_Camp_melt_84 rfl rfl ⟨rfl, rfl, by dsimp only, rfl⟩
theorem cw_at_g2 {Γ : G9} {sg : Nat → Nat} {sw : Nat} {h : AH} {c g g2 o o2 : Nat} {A : TA} {K : TK} {σ : GL} {τ : GL} {T : TM} {F : FM} {U : TM} {G : FM} {P : CP} (hs : SgOk Γ sg) (hsn : SgNe sg) (hw : SwOk Γ sw) (geo : c + 7 ≤ g ∧ c + 7 ≤ g2 ∧ (g + 12 ≤ g2 ∨ g2 + 12 ≤ g) ∧ g + 12 ≤ o ∧ g + 12 ≤ o2 ∧ g2 + 12 ≤ o ∧ g2 + 12 ≤ o2 ∧ (o + 7 ≤ o2 ∨ o2 + 7 ≤ o)) (hA : ta_sz A ≤ 2000) (ho : h o = some (.inr (3, [.ref (o + 1), .ref (o + 3)]))) (ho2 : h o2 = some (.inr (3, [.ref (o2 + 1), .ref (o2 + 3)]))) (hT : T.2 ≤ 20) (hU : U.2 ≤ 20) (hW : WFG σ) (hV : WFG τ) : (cw_ Γ sg h c g g2 o o2 A K σ τ T F U G P) g2 = some (.inr (1, glF g2 τ)) := by
  unfold cw_
  exact ((blk_out (by omega)).trans ((blk_out (by omega)).trans ((blk_out (by omega)).trans ((blk_out (by omega)).trans ((blk_out (by omega)).trans (gl_obj))))))
theorem cw_tab_get_g2_3 {Γ : G9} {sg : Nat → Nat} {sw : Nat} {h : AH} {c g g2 o o2 z : Nat} {A : TA} {K : TK} {σ : GL} {τ : GL} {T : TM} {F : FM} {U : TM} {G : FM} {P : CP} {row : Int32} {cl : Nat} {ci : Int32} (hs : SgOk Γ sg) (hsn : SgNe sg) (hw : SwOk Γ sw) (geo : c + 7 ≤ g ∧ c + 7 ≤ g2 ∧ (g + 12 ≤ g2 ∨ g2 + 12 ≤ g) ∧ g + 12 ≤ o ∧ g + 12 ≤ o2 ∧ g2 + 12 ≤ o ∧ g2 + 12 ≤ o2 ∧ (o + 7 ≤ o2 ∨ o2 + 7 ≤ o)) (hA : ta_sz A ≤ 2000) (ho : h o = some (.inr (3, [.ref (o + 1), .ref (o + 3)]))) (ho2 : h o2 = some (.inr (3, [.ref (o2 + 1), .ref (o2 + 3)]))) (hT : T.2 ≤ 20) (hU : U.2 ≤ 20) (hW : WFG σ) (hV : WFG τ) (hci : ci = nI cl) (hcl : cl < 8) : CallR Γ M_Table_get 0 [.ref (g2 + 3), .int row, .int ci] (cw_ Γ sg h c g g2 o o2 A K σ τ T F U G P) z (some (.int (gG τ 1 row cl))) (cw_ Γ sg h c g g2 o o2 A K σ τ T F U G P) := by
  subst hci
  unfold cw_
  exact CallR.conv (((((blk_in (blk_in (blk_in (blk_in (blk_comm (by omega)))))).trans (blk_in (blk_in (blk_in (blk_comm (by omega)))))).trans (blk_in (blk_in (blk_comm (by omega))))).trans (blk_in (blk_comm (by omega)))).trans (blk_comm (by omega))) (((((blk_comm (by omega)).trans (blk_in (blk_comm (by omega)))).trans (blk_in (blk_in (blk_comm (by omega))))).trans (blk_in (blk_in (blk_in (blk_comm (by omega)))))).trans (blk_in (blk_in (blk_in (blk_in (blk_comm (by omega))))))) (cG_get (k := 1) (by decide) (c := cl) rfl (by omega) hV)
theorem cw_at_g2_3 {Γ : G9} {sg : Nat → Nat} {sw : Nat} {h : AH} {c g g2 o o2 : Nat} {A : TA} {K : TK} {σ : GL} {τ : GL} {T : TM} {F : FM} {U : TM} {G : FM} {P : CP} (hs : SgOk Γ sg) (hsn : SgNe sg) (hw : SwOk Γ sw) (geo : c + 7 ≤ g ∧ c + 7 ≤ g2 ∧ (g + 12 ≤ g2 ∨ g2 + 12 ≤ g) ∧ g + 12 ≤ o ∧ g + 12 ≤ o2 ∧ g2 + 12 ≤ o ∧ g2 + 12 ≤ o2 ∧ (o + 7 ≤ o2 ∨ o2 + 7 ≤ o)) (hA : ta_sz A ≤ 2000) (ho : h o = some (.inr (3, [.ref (o + 1), .ref (o + 3)]))) (ho2 : h o2 = some (.inr (3, [.ref (o2 + 1), .ref (o2 + 3)]))) (hT : T.2 ≤ 20) (hU : U.2 ≤ 20) (hW : WFG σ) (hV : WFG τ) : (cw_ Γ sg h c g g2 o o2 A K σ τ T F U G P) (g2 + 3) = some (tabO (g2 + 3) (τ.1 1)) := by
  unfold cw_
  exact ((blk_out (by omega)).trans ((blk_out (by omega)).trans ((blk_out (by omega)).trans ((blk_out (by omega)).trans ((blk_out (by omega)).trans ((gl_tab (k := 1) (by decide))))))))
theorem cw_c_Glacier_passDay_g2_o {Γ : G9} {sg : Nat → Nat} {sw : Nat} {h : AH} {c g g2 o o2 z : Nat} {A : TA} {K : TK} {σ : GL} {τ : GL} {T : TM} {F : FM} {U : TM} {G : FM} {P : CP} (hs : SgOk Γ sg) (hsn : SgNe sg) (hw : SwOk Γ sw) (geo : c + 7 ≤ g ∧ c + 7 ≤ g2 ∧ (g + 12 ≤ g2 ∨ g2 + 12 ≤ g) ∧ g + 12 ≤ o ∧ g + 12 ≤ o2 ∧ g2 + 12 ≤ o ∧ g2 + 12 ≤ o2 ∧ (o + 7 ≤ o2 ∨ o2 + 7 ≤ o)) (hA : ta_sz A ≤ 2000) (ho : h o = some (.inr (3, [.ref (o + 1), .ref (o + 3)]))) (ho2 : h o2 = some (.inr (3, [.ref (o2 + 1), .ref (o2 + 3)]))) (hT : T.2 ≤ 20) (hU : U.2 ≤ 20) (hW : WFG σ) (hV : WFG τ) : CallR Γ M_Glacier_passDay 5 [.ref g2, .ref o] (cw_ Γ sg h c g g2 o o2 A K σ τ T F U G P) z none (cw_ Γ sg h c g g2 o o2 A K σ (s_Glacier_passDay T τ F).1 T (s_Glacier_passDay T τ F).2 U G P) := by
  unfold cw_
  exact CallR.conv ((((((((((blk_in (blk_in (blk_comm (by omega)))).trans (blk_in (blk_comm (by omega)))).trans (blk_comm (by omega))).trans (blk_in (blk_in (blk_in (blk_in (blk_comm (by omega))))))).trans (blk_in (blk_in (blk_in (blk_comm (by omega)))))).trans (blk_in (blk_in (blk_comm (by omega))))).trans (blk_in (blk_comm (by omega)))).trans (blk_in (blk_in (blk_in (blk_in (blk_comm (by omega))))))).trans (blk_in (blk_in (blk_in (blk_comm (by omega)))))).trans (blk_in (blk_in (blk_comm (by omega))))) ((((((((((blk_in (blk_in (blk_comm (by omega)))).trans (blk_in (blk_comm (by omega)))).trans (blk_comm (by omega))).trans (blk_in (blk_in (blk_in (blk_comm (by omega)))))).trans (blk_in (blk_in (blk_comm (by omega))))).trans (blk_in (blk_comm (by omega)))).trans (blk_in (blk_in (blk_in (blk_in (blk_comm (by omega))))))).trans (blk_in (blk_in (blk_in (blk_comm (by omega)))))).trans (blk_in (blk_in (blk_comm (by omega))))).trans (blk_in (blk_in (blk_in (blk_in (blk_comm (by omega))))))) (c_Glacier_passDay (by exact ((blk_out (by omega)).trans ((blk_out (by omega)).trans ((blk_out (by omega)).trans ((blk_out (by omega)).trans ((blk_out (by omega)).trans ((blk_out (by omega)).trans ho))))))) hT hs hsn hw (by omega) hV)
theorem d_Camp_until_24 : decode M_Camp_until.2.1 24 = .ok (.iload_n 2, 1) := by decide +kernel
theorem d_Camp_until_25 : decode M_Camp_until.2.1 25 = .ok (.bipush 99, 2) := by decide +kernel
theorem d_Camp_until_27 : decode M_Camp_until.2.1 27 = .ok (.if_icmp .ge 37, 3) := by decide +kernel
theorem d_Camp_until_64 : decode M_Camp_until.2.1 64 = .ok (.aload_n 0, 1) := by decide +kernel
theorem d_Camp_until_65 : decode M_Camp_until.2.1 65 = .ok (.getfield 30, 3) := by decide +kernel
theorem d_Camp_until_68 : decode M_Camp_until.2.1 68 = .ok (.getfield 116, 3) := by decide +kernel
theorem d_Camp_until_71 : decode M_Camp_until.2.1 71 = .ok (.iload_n 1, 1) := by decide +kernel
theorem d_Camp_until_72 : decode M_Camp_until.2.1 72 = .ok (.iconst 3, 1) := by decide +kernel
theorem d_Camp_until_73 : decode M_Camp_until.2.1 73 = .ok (.invokevirtual 143, 3) := by decide +kernel
theorem d_Camp_until_76 : decode M_Camp_until.2.1 76 = .ok (.ifCond .ne 8, 3) := by decide +kernel
theorem d_Camp_until_79 : decode M_Camp_until.2.1 79 = .ok (.bipush 99, 2) := by decide +kernel
theorem d_Camp_until_81 : decode M_Camp_until.2.1 81 = .ok (.goto 4, 3) := by decide +kernel
theorem d_Camp_until_84 : decode M_Camp_until.2.1 84 = .ok (.iconst (-1), 1) := by decide +kernel
theorem d_Camp_until_85 : decode M_Camp_until.2.1 85 = .ok (.ireturn, 1) := by decide +kernel
theorem d_Camp_until_30 : decode M_Camp_until.2.1 30 = .ok (.aload_n 0, 1) := by decide +kernel
theorem d_Camp_until_31 : decode M_Camp_until.2.1 31 = .ok (.getfield 30, 3) := by decide +kernel
theorem d_Camp_until_34 : decode M_Camp_until.2.1 34 = .ok (.getfield 116, 3) := by decide +kernel
theorem d_Camp_until_37 : decode M_Camp_until.2.1 37 = .ok (.iload_n 1, 1) := by decide +kernel
theorem d_Camp_until_38 : decode M_Camp_until.2.1 38 = .ok (.iconst 3, 1) := by decide +kernel
theorem d_Camp_until_39 : decode M_Camp_until.2.1 39 = .ok (.invokevirtual 143, 3) := by decide +kernel
theorem d_Camp_until_42 : decode M_Camp_until.2.1 42 = .ok (.ifCond .ne 5, 3) := by decide +kernel
theorem d_Camp_until_45 : decode M_Camp_until.2.1 45 = .ok (.iload_n 2, 1) := by decide +kernel
theorem d_Camp_until_46 : decode M_Camp_until.2.1 46 = .ok (.ireturn, 1) := by decide +kernel
theorem d_Camp_until_47 : decode M_Camp_until.2.1 47 = .ok (.aload_n 0, 1) := by decide +kernel
theorem d_Camp_until_48 : decode M_Camp_until.2.1 48 = .ok (.getfield 30, 3) := by decide +kernel
theorem d_Camp_until_51 : decode M_Camp_until.2.1 51 = .ok (.aload_n 0, 1) := by decide +kernel
theorem d_Camp_until_52 : decode M_Camp_until.2.1 52 = .ok (.getfield 36, 3) := by decide +kernel
theorem d_Camp_until_55 : decode M_Camp_until.2.1 55 = .ok (.invokevirtual 200, 3) := by decide +kernel
theorem d_Camp_until_58 : decode M_Camp_until.2.1 58 = .ok (.iinc 2 1, 3) := by decide +kernel
theorem d_Camp_until_61 : decode M_Camp_until.2.1 61 = .ok (.goto (-37), 3) := by decide +kernel
def l_Camp_until_24 (A : TA) (K : TK) (σ : GL) (T : TM) (U : TM) (G : FM) (P : CP) (x1 : Int32) : Nat → Nat → GL → FM → Int32 × Int32 × GL × FM
  | 0, i, τ, F => (if (gG τ 1 x1 3) = 0 then (0, 99, τ, F) else (0, (-1), τ, F))
  | k + 1, i, τ, F => (if (gG τ 1 x1 3) = 0 then (0, (nI i), τ, F) else (l_Camp_until_24 A K σ T U G P x1 k (i + 1) (s_Glacier_passDay T τ F).1 (s_Glacier_passDay T τ F).2))
set_option maxRecDepth 100000 in
set_option maxHeartbeats 800000 in
theorem l_Camp_until_24_go {Γ : G9} {sg : Nat → Nat} {sw : Nat} {ms : Nat → Nat} {h : AH} {c g g2 o o2 z : Nat} {n : Nat} {A : TA} {K : TK} {σ : GL} {T : TM} {U : TM} {G : FM} {P : CP} {x1 : Int32} (hs : SgOk Γ sg) (hsn : SgNe sg) (hw : SwOk Γ sw) (geo : c + 7 ≤ g ∧ c + 7 ≤ g2 ∧ (g + 12 ≤ g2 ∨ g2 + 12 ≤ g) ∧ g + 12 ≤ o ∧ g + 12 ≤ o2 ∧ g2 + 12 ≤ o ∧ g2 + 12 ≤ o2 ∧ (o + 7 ≤ o2 ∨ o2 + 7 ≤ o)) (hA : ta_sz A ≤ 2000) (ho : h o = some (.inr (3, [.ref (o + 1), .ref (o + 3)]))) (ho2 : h o2 = some (.inr (3, [.ref (o2 + 1), .ref (o2 + 3)]))) (hT : T.2 ≤ 20) (hU : U.2 ≤ 20) (hW : WFG σ) (hms : MsOk Γ ms) (hth : ThOk Γ) (hn20 : n ≤ 99) : ∀ (k i : Nat) (τ : GL) (F : FM), i + k = n → 99 = n → WFG τ → Go Γ M_Camp_until 7 0 0 24 [some (.ref c), some (.int x1), some (.int (nI i))] [] (cw_ Γ sg h c g g2 o o2 A K σ τ T F U G P) z (TQ (l_Camp_until_24 A K σ T U G P x1 k i τ F).1 (some (.int (l_Camp_until_24 A K σ T U G P x1 k i τ F).2.1)) (cw_ Γ sg h c g g2 o o2 A K σ (l_Camp_until_24 A K σ T U G P x1 k i τ F).2.2.1 T (l_Camp_until_24 A K σ T U G P x1 k i τ F).2.2.2 U G P) z) (TX (l_Camp_until_24 A K σ T U G P x1 k i τ F).1 (cw_ Γ sg h c g g2 o o2 A K σ (l_Camp_until_24 A K σ T U G P x1 k i τ F).2.2.1 T (l_Camp_until_24 A K σ T U G P x1 k i τ F).2.2.2 U G P) z) := by
  intro k
  induction k with
  | zero =>
    intro i τ F hi hn hV
    unfold l_Camp_until_24
    refine Go.iload_2 d_Camp_until_24 rfl ?_
    refine Go.bipush (v := 99) d_Camp_until_25 rfl (by decide) ?_
    refine Go.icmp_ge (t := 64) d_Camp_until_27 (by decide) rfl (fun c27_1 => ?_) (fun c27_1 => ?_)
    · refine Go.aload_0 d_Camp_until_64 rfl ?_
      refine Go.getfield d_Camp_until_65 rfl f_Camp_30 (cw_at_c hs hsn hw (by omega) hA ho ho2 hT hU hW hV) (by rfl) ?_
      refine Go.getfield d_Camp_until_68 rfl f_Camp_116 (cw_at_g2 hs hsn hw (by omega) hA ho ho2 hT hU hW hV) (by rfl) ?_
      refine Go.iload_1 d_Camp_until_71 rfl ?_
      refine Go.iconst (v := 3) d_Camp_until_72 rfl (by decide) ?_
      refine Go.cv2r d_Camp_until_73 rfl l_Camp_143 k_Table_get_v (cw_at_g2_3 hs hsn hw (by omega) hA ho ho2 hT hU hW hV) rfl (cw_tab_get_g2_3 (cl := 3) hs hsn hw (by omega) hA ho ho2 hT hU hW hV rfl (by omega)) rfl rfl rfl ?_
      refine Go.if_ne (t := 84) d_Camp_until_76 (by decide) rfl (fun c76_2 => ?_) (fun c76_2 => ?_)
      · refine Go.iconst (v := (-1)) d_Camp_until_84 rfl (by decide) ?_
        rw [if_neg c76_2]
        exact Go.iret d_Camp_until_85 rfl rfl ⟨rfl, rfl, by dsimp only, rfl⟩
      · refine Go.bipush (v := 99) d_Camp_until_79 rfl (by decide) ?_
        refine Go.goto (t := 85) d_Camp_until_81 (by decide) ?_
        rw [if_pos c76_2]
        exact Go.iret d_Camp_until_85 rfl rfl ⟨rfl, rfl, by dsimp only, rfl⟩
    · exact absurd (show nI 99 ≤ nI i from nI_le (by omega) (by omega)) c27_1
  | succ k ih =>
    intro i τ F hi hn hV
    unfold l_Camp_until_24
    refine Go.iload_2 d_Camp_until_24 rfl ?_
    refine Go.bipush (v := 99) d_Camp_until_25 rfl (by decide) ?_
    refine Go.icmp_ge (t := 64) d_Camp_until_27 (by decide) rfl (fun c27_1 => ?_) (fun c27_1 => ?_)
    · exact absurd c27_1 (show ¬ nI 99 ≤ nI i from nI_ge (by omega) (by omega))
    · refine Go.aload_0 d_Camp_until_30 rfl ?_
      refine Go.getfield d_Camp_until_31 rfl f_Camp_30 (cw_at_c hs hsn hw (by omega) hA ho ho2 hT hU hW hV) (by rfl) ?_
      refine Go.getfield d_Camp_until_34 rfl f_Camp_116 (cw_at_g2 hs hsn hw (by omega) hA ho ho2 hT hU hW hV) (by rfl) ?_
      refine Go.iload_1 d_Camp_until_37 rfl ?_
      refine Go.iconst (v := 3) d_Camp_until_38 rfl (by decide) ?_
      refine Go.cv2r d_Camp_until_39 rfl l_Camp_143 k_Table_get_v (cw_at_g2_3 hs hsn hw (by omega) hA ho ho2 hT hU hW hV) rfl (cw_tab_get_g2_3 (cl := 3) hs hsn hw (by omega) hA ho ho2 hT hU hW hV rfl (by omega)) rfl rfl rfl ?_
      refine Go.if_ne (t := 47) d_Camp_until_42 (by decide) rfl (fun c42_2 => ?_) (fun c42_2 => ?_)
      · refine Go.aload_0 d_Camp_until_47 rfl ?_
        refine Go.getfield d_Camp_until_48 rfl f_Camp_30 (cw_at_c hs hsn hw (by omega) hA ho ho2 hT hU hW hV) (by rfl) ?_
        refine Go.aload_0 d_Camp_until_51 rfl ?_
        refine Go.getfield d_Camp_until_52 rfl f_Camp_36 (cw_at_c hs hsn hw (by omega) hA ho ho2 hT hU hW hV) (by rfl) ?_
        refine Go.cv1v d_Camp_until_55 rfl l_Camp_200 k_Glacier_passDay_v (cw_at_g2 hs hsn hw (by omega) hA ho ho2 hT hU hW hV) rfl (cw_c_Glacier_passDay_g2_o hs hsn hw (by omega) hA ho ho2 hT hU hW hV) rfl rfl rfl ?_
        refine Go.iinc_2 d_Camp_until_58 rfl (by rfl) (nI_inc _) ?_
        refine Go.goto (t := 24) d_Camp_until_61 (by decide) ?_
        rw [if_neg c42_2]
        exact ih (i + 1) _ _ (by omega) (by first | exact hn | (simp only [gN_gS, gN_gA, gN_gSW, gN_gSD, gN_gSC, gN_Glacier_changeWarmth, gN_Glacier_letFall, gN_l_Glacier_letCross_23, gN_Glacier_letCross, gN_Glacier_tryGo, gN_Glacier_tryProbe, gN_Glacier_takeFood, gN_Glacier_tryDrill, gN_l_Glacier_moveStakes_2, gN_Glacier_moveStakes, gN_l_Glacier_moveBridges_2, gN_Glacier_moveBridges, gN_Glacier_weather, gN_l_Glacier_eat_46, gN_Glacier_eat, gN_l_Glacier_readStakes_2, gN_Glacier_readStakes, gN_l_Glacier_endDay_12, gN_l_Glacier_endDay_42, gN_Glacier_endDay, gN_l_Glacier_beginAnew_37, gN_Orders_carryOut, gN_l_Glacier_passDay_93, gN_l_Glacier_passDay_61, gN_l_Glacier_passDay_37, gN_l_Glacier_passDay_2, gN_Glacier_passDay, gN_l_Camp_pass_21]; exact hn)) (WFG.of hV (fun j => by simp only [gN_gS, gN_gA, gN_gSW, gN_gSD, gN_gSC, gN_Glacier_changeWarmth, gN_Glacier_letFall, gN_l_Glacier_letCross_23, gN_Glacier_letCross, gN_Glacier_tryGo, gN_Glacier_tryProbe, gN_Glacier_takeFood, gN_Glacier_tryDrill, gN_l_Glacier_moveStakes_2, gN_Glacier_moveStakes, gN_l_Glacier_moveBridges_2, gN_Glacier_moveBridges, gN_Glacier_weather, gN_l_Glacier_eat_46, gN_Glacier_eat, gN_l_Glacier_readStakes_2, gN_Glacier_readStakes, gN_l_Glacier_endDay_12, gN_l_Glacier_endDay_42, gN_Glacier_endDay, gN_l_Glacier_beginAnew_37, gN_Orders_carryOut, gN_l_Glacier_passDay_93, gN_l_Glacier_passDay_61, gN_l_Glacier_passDay_37, gN_l_Glacier_passDay_2, gN_Glacier_passDay, gN_l_Camp_pass_21]))
      · refine Go.iload_2 d_Camp_until_45 rfl ?_
        rw [if_pos c42_2]
        exact Go.iret d_Camp_until_46 rfl rfl ⟨rfl, rfl, by dsimp only, rfl⟩
theorem cw_c_Glacier_become_g2_g {Γ : G9} {sg : Nat → Nat} {sw : Nat} {h : AH} {c g g2 o o2 z : Nat} {A : TA} {K : TK} {σ : GL} {τ : GL} {T : TM} {F : FM} {U : TM} {G : FM} {P : CP} (hs : SgOk Γ sg) (hsn : SgNe sg) (hw : SwOk Γ sw) (geo : c + 7 ≤ g ∧ c + 7 ≤ g2 ∧ (g + 12 ≤ g2 ∨ g2 + 12 ≤ g) ∧ g + 12 ≤ o ∧ g + 12 ≤ o2 ∧ g2 + 12 ≤ o ∧ g2 + 12 ≤ o2 ∧ (o + 7 ≤ o2 ∨ o2 + 7 ≤ o)) (hA : ta_sz A ≤ 2000) (ho : h o = some (.inr (3, [.ref (o + 1), .ref (o + 3)]))) (ho2 : h o2 = some (.inr (3, [.ref (o2 + 1), .ref (o2 + 3)]))) (hT : T.2 ≤ 20) (hU : U.2 ≤ 20) (hW : WFG σ) (hV : WFG τ) : CallR Γ M_Glacier_become 1 [.ref g2, .ref g] (cw_ Γ sg h c g g2 o o2 A K σ τ T F U G P) z none (cw_ Γ sg h c g g2 o o2 A K σ (s_Glacier_become σ τ) T F U G P) := by
  unfold cw_
  exact CallR.conv ((((((((((blk_in (blk_in (blk_in (blk_in (blk_comm (by omega)))))).trans (blk_in (blk_in (blk_in (blk_comm (by omega)))))).trans (blk_in (blk_in (blk_comm (by omega))))).trans (blk_in (blk_comm (by omega)))).trans (blk_comm (by omega))).trans (blk_in (blk_in (blk_in (blk_in (blk_in (blk_comm (by omega)))))))).trans (blk_in (blk_in (blk_in (blk_in (blk_comm (by omega))))))).trans (blk_in (blk_in (blk_in (blk_comm (by omega)))))).trans (blk_in (blk_in (blk_comm (by omega))))).trans (blk_in (blk_comm (by omega)))) ((((((((((blk_in (blk_comm (by omega))).trans (blk_comm (by omega))).trans (blk_in (blk_in (blk_comm (by omega))))).trans (blk_in (blk_comm (by omega)))).trans (blk_in (blk_in (blk_in (blk_comm (by omega)))))).trans (blk_in (blk_in (blk_comm (by omega))))).trans (blk_in (blk_in (blk_in (blk_in (blk_comm (by omega))))))).trans (blk_in (blk_in (blk_in (blk_comm (by omega)))))).trans (blk_in (blk_in (blk_in (blk_in (blk_in (blk_comm (by omega)))))))).trans (blk_in (blk_in (blk_in (blk_in (blk_comm (by omega))))))) (c_Glacier_become (by omega))
theorem d_Camp_until_0 : decode M_Camp_until.2.1 0 = .ok (.aload_n 0, 1) := by decide +kernel
theorem d_Camp_until_1 : decode M_Camp_until.2.1 1 = .ok (.getfield 26, 3) := by decide +kernel
theorem d_Camp_until_4 : decode M_Camp_until.2.1 4 = .ok (.getfield 116, 3) := by decide +kernel
theorem d_Camp_until_7 : decode M_Camp_until.2.1 7 = .ok (.iload_n 1, 1) := by decide +kernel
theorem d_Camp_until_8 : decode M_Camp_until.2.1 8 = .ok (.invokestatic 135, 3) := by decide +kernel
theorem d_Camp_until_11 : decode M_Camp_until.2.1 11 = .ok (.aload_n 0, 1) := by decide +kernel
theorem d_Camp_until_12 : decode M_Camp_until.2.1 12 = .ok (.getfield 30, 3) := by decide +kernel
theorem d_Camp_until_15 : decode M_Camp_until.2.1 15 = .ok (.aload_n 0, 1) := by decide +kernel
theorem d_Camp_until_16 : decode M_Camp_until.2.1 16 = .ok (.getfield 26, 3) := by decide +kernel
theorem d_Camp_until_19 : decode M_Camp_until.2.1 19 = .ok (.invokevirtual 207, 3) := by decide +kernel
theorem d_Camp_until_22 : decode M_Camp_until.2.1 22 = .ok (.iconst 0, 1) := by decide +kernel
theorem d_Camp_until_23 : decode M_Camp_until.2.1 23 = .ok (.istore_n 2, 1) := by decide +kernel
def s_Camp_until (A : TA) (K : TK) (σ : GL) (τ : GL) (T : TM) (F : FM) (U : TM) (G : FM) (P : CP) (x1 : Int32) : Int32 × Int32 × GL × FM := (if (s_Camp_needRow (σ.1 1) x1) = 0 then (l_Camp_until_24 A K σ T U G P x1 (99) 0 (s_Glacier_become σ τ) F) else ((s_Camp_needRow (σ.1 1) x1), 0, τ, F))
set_option maxRecDepth 100000 in
set_option maxHeartbeats 800000 in
theorem c_Camp_until {Γ : G9} {sg : Nat → Nat} {sw : Nat} {ms : Nat → Nat} {h : AH} {c g g2 o o2 z : Nat} {A : TA} {K : TK} {σ : GL} {τ : GL} {T : TM} {F : FM} {U : TM} {G : FM} {P : CP} {x1 : Int32} (hs : SgOk Γ sg) (hsn : SgNe sg) (hw : SwOk Γ sw) (geo : c + 7 ≤ g ∧ c + 7 ≤ g2 ∧ (g + 12 ≤ g2 ∨ g2 + 12 ≤ g) ∧ g + 12 ≤ o ∧ g + 12 ≤ o2 ∧ g2 + 12 ≤ o ∧ g2 + 12 ≤ o2 ∧ (o + 7 ≤ o2 ∨ o2 + 7 ≤ o)) (hA : ta_sz A ≤ 2000) (ho : h o = some (.inr (3, [.ref (o + 1), .ref (o + 3)]))) (ho2 : h o2 = some (.inr (3, [.ref (o2 + 1), .ref (o2 + 3)]))) (hT : T.2 ≤ 20) (hU : U.2 ≤ 20) (hW : WFG σ) (hV : WFG τ) (hms : MsOk Γ ms) (hth : ThOk Γ) : CallT Γ M_Camp_until 7 4 24 [.ref c, .int x1] (cw_ Γ sg h c g g2 o o2 A K σ τ T F U G P) z (s_Camp_until A K σ τ T F U G P x1).1 (some (.int (s_Camp_until A K σ τ T F U G P x1).2.1)) (cw_ Γ sg h c g g2 o o2 A K σ (s_Camp_until A K σ τ T F U G P x1).2.2.1 T (s_Camp_until A K σ τ T F U G P x1).2.2.2 U G P) := by
  refine Call.of_go (L := [some (.ref c), some (.int x1), none]) (by decide +kernel) rfl (by exact Nat.le_of_ble_eq_true rfl) ?_
  unfold s_Camp_until
  refine Go.aload_0 d_Camp_until_0 rfl ?_
  refine Go.getfield d_Camp_until_1 rfl f_Camp_26 (cw_at_c hs hsn hw (by omega) hA ho ho2 hT hU hW hV) (by rfl) ?_
  refine Go.getfield d_Camp_until_4 rfl f_Camp_116 (cw_at_g hs hsn hw (by omega) hA ho ho2 hT hU hW hV) (by rfl) ?_
  refine Go.iload_1 d_Camp_until_7 rfl ?_
  refine Go.csT (C1 := 3) (S1 := 18) (as := [.ref (g + 3), .int x1]) d_Camp_until_8 rfl l_Camp_135 k_Camp_needRow_s rfl rfl rfl (c_Camp_needRow (cw_at_g_3 hs hsn hw (by omega) hA ho ho2 hT hU hW hV) hms hth) rfl rfl rfl rfl rfl rfl (fun t8_1 z2 hz => ?_) (fun t8_1 => ?_)
  · rw [if_neg t8_1]
    exact ⟨t8_1, rfl, by dsimp only, hz⟩
  refine Go.aload_0 d_Camp_until_11 rfl ?_
  refine Go.getfield d_Camp_until_12 rfl f_Camp_30 (cw_at_c hs hsn hw (by omega) hA ho ho2 hT hU hW hV) (by rfl) ?_
  refine Go.aload_0 d_Camp_until_15 rfl ?_
  refine Go.getfield d_Camp_until_16 rfl f_Camp_26 (cw_at_c hs hsn hw (by omega) hA ho ho2 hT hU hW hV) (by rfl) ?_
  refine Go.cv1v d_Camp_until_19 rfl l_Camp_207 k_Glacier_become_v (cw_at_g2 hs hsn hw (by omega) hA ho ho2 hT hU hW hV) rfl (cw_c_Glacier_become_g2_g hs hsn hw (by omega) hA ho ho2 hT hU hW hV) rfl rfl rfl ?_
  refine Go.iconst (v := 0) d_Camp_until_22 rfl (by decide) ?_
  refine Go.istore_2 d_Camp_until_23 rfl (by rfl) ?_
  rw [if_pos t8_1]
  refine Go.room (C' := 0) (S' := 0) ?_ (Nat.le_refl _) (Nat.zero_le _) (Nat.zero_le _)
  exact l_Camp_until_24_go (n := (99)) hs hsn hw geo hA ho ho2 hT hU hW hms hth (by decide) (99) 0 (s_Glacier_become σ τ) F (by omega) rfl (wf_Glacier_become hW)
theorem d_Camp_foresee_42 : decode M_Camp_foresee.2.1 42 = .ok (.iload_n 3, 1) := by decide +kernel
theorem d_Camp_foresee_43 : decode M_Camp_foresee.2.1 43 = .ok (.iload_n 1, 1) := by decide +kernel
theorem d_Camp_foresee_44 : decode M_Camp_foresee.2.1 44 = .ok (.if_icmp .ge 20, 3) := by decide +kernel
theorem d_Camp_foresee_47 : decode M_Camp_foresee.2.1 47 = .ok (.aload_n 0, 1) := by decide +kernel
theorem d_Camp_foresee_48 : decode M_Camp_foresee.2.1 48 = .ok (.getfield 30, 3) := by decide +kernel
theorem d_Camp_foresee_51 : decode M_Camp_foresee.2.1 51 = .ok (.aload_n 0, 1) := by decide +kernel
theorem d_Camp_foresee_52 : decode M_Camp_foresee.2.1 52 = .ok (.getfield 36, 3) := by decide +kernel
theorem d_Camp_foresee_55 : decode M_Camp_foresee.2.1 55 = .ok (.invokevirtual 200, 3) := by decide +kernel
theorem d_Camp_foresee_58 : decode M_Camp_foresee.2.1 58 = .ok (.iinc 3 1, 3) := by decide +kernel
theorem d_Camp_foresee_61 : decode M_Camp_foresee.2.1 61 = .ok (.goto (-19), 3) := by decide +kernel
def l_Camp_foresee_42 (A : TA) (K : TK) (σ : GL) (T : TM) (U : TM) (G : FM) (P : CP) (w : Int32) : Nat → Nat → GL → FM → GL × FM
  | 0, _, τ, F => (τ, F)
  | k + 1, i, τ, F => (l_Camp_foresee_42 A K σ T U G P w k (i + 1) (s_Glacier_passDay T τ F).1 (s_Glacier_passDay T τ F).2)
set_option maxRecDepth 100000 in
set_option maxHeartbeats 800000 in
theorem l_Camp_foresee_42_go {Γ : G9} {sg : Nat → Nat} {sw : Nat} {ms : Nat → Nat} {h : AH} {c g g2 o o2 z : Nat} {n : Nat} {Q : QT} {X : XT} {A : TA} {K : TK} {σ : GL} {T : TM} {U : TM} {G : FM} {P : CP} {w : Int32} (hs : SgOk Γ sg) (hsn : SgNe sg) (hw : SwOk Γ sw) (geo : c + 7 ≤ g ∧ c + 7 ≤ g2 ∧ (g + 12 ≤ g2 ∨ g2 + 12 ≤ g) ∧ g + 12 ≤ o ∧ g + 12 ≤ o2 ∧ g2 + 12 ≤ o ∧ g2 + 12 ≤ o2 ∧ (o + 7 ≤ o2 ∨ o2 + 7 ≤ o)) (hA : ta_sz A ≤ 2000) (ho : h o = some (.inr (3, [.ref (o + 1), .ref (o + 3)]))) (ho2 : h o2 = some (.inr (3, [.ref (o2 + 1), .ref (o2 + 3)]))) (hT : T.2 ≤ 20) (hU : U.2 ≤ 20) (hW : WFG σ) (hms : MsOk Γ ms) (hth : ThOk Γ) (hn20 : n ≤ 60) : ∀ (k i : Nat) (τ : GL) (F : FM), i + k = n → n = n → WFG τ → Go Γ M_Camp_foresee 7 0 0 64 [some (.ref c), some (.int (nI n)), some (.int w), some (.int (nI (i + k)))] [] (cw_ Γ sg h c g g2 o o2 A K σ (l_Camp_foresee_42 A K σ T U G P w k i τ F).1 T (l_Camp_foresee_42 A K σ T U G P w k i τ F).2 U G P) z Q X → Go Γ M_Camp_foresee 7 0 0 42 [some (.ref c), some (.int (nI n)), some (.int w), some (.int (nI i))] [] (cw_ Γ sg h c g g2 o o2 A K σ τ T F U G P) z Q X := by
  intro k
  induction k with
  | zero =>
    intro i τ F hi hn hV hk
    refine Go.iload_3 d_Camp_foresee_42 rfl ?_
    refine Go.iload_1 d_Camp_foresee_43 rfl ?_
    refine Go.icmp_ge (t := 64) d_Camp_foresee_44 (by decide) rfl (fun c44_1 => ?_) (fun c44_1 => ?_)
    · exact hk
    · exact absurd (nI_le (by omega) (by omega)) c44_1
  | succ k ih =>
    intro i τ F hi hn hV hk
    unfold l_Camp_foresee_42 at hk
    rw [show i + (k + 1) = i + 1 + k by omega] at hk
    refine Go.iload_3 d_Camp_foresee_42 rfl ?_
    refine Go.iload_1 d_Camp_foresee_43 rfl ?_
    refine Go.icmp_ge (t := 64) d_Camp_foresee_44 (by decide) rfl (fun c44_1 => ?_) (fun c44_1 => ?_)
    · exact absurd c44_1 (nI_ge (by omega) (by omega))
    · refine Go.aload_0 d_Camp_foresee_47 rfl ?_
      refine Go.getfield d_Camp_foresee_48 rfl f_Camp_30 (cw_at_c hs hsn hw (by omega) hA ho ho2 hT hU hW hV) (by rfl) ?_
      refine Go.aload_0 d_Camp_foresee_51 rfl ?_
      refine Go.getfield d_Camp_foresee_52 rfl f_Camp_36 (cw_at_c hs hsn hw (by omega) hA ho ho2 hT hU hW hV) (by rfl) ?_
      refine Go.cv1v d_Camp_foresee_55 rfl l_Camp_200 k_Glacier_passDay_v (cw_at_g2 hs hsn hw (by omega) hA ho ho2 hT hU hW hV) rfl (cw_c_Glacier_passDay_g2_o hs hsn hw (by omega) hA ho ho2 hT hU hW hV) rfl rfl rfl ?_
      refine Go.iinc_3 d_Camp_foresee_58 rfl (by rfl) (nI_inc _) ?_
      refine Go.goto (t := 42) d_Camp_foresee_61 (by decide) ?_
      exact ih (i + 1) _ _ (by omega) (by first | exact hn | (simp only [gN_gS, gN_gA, gN_gSW, gN_gSD, gN_gSC, gN_Glacier_changeWarmth, gN_Glacier_letFall, gN_l_Glacier_letCross_23, gN_Glacier_letCross, gN_Glacier_tryGo, gN_Glacier_tryProbe, gN_Glacier_takeFood, gN_Glacier_tryDrill, gN_l_Glacier_moveStakes_2, gN_Glacier_moveStakes, gN_l_Glacier_moveBridges_2, gN_Glacier_moveBridges, gN_Glacier_weather, gN_l_Glacier_eat_46, gN_Glacier_eat, gN_l_Glacier_readStakes_2, gN_Glacier_readStakes, gN_l_Glacier_endDay_12, gN_l_Glacier_endDay_42, gN_Glacier_endDay, gN_l_Glacier_beginAnew_37, gN_Orders_carryOut, gN_l_Glacier_passDay_93, gN_l_Glacier_passDay_61, gN_l_Glacier_passDay_37, gN_l_Glacier_passDay_2, gN_Glacier_passDay, gN_l_Camp_pass_21]; exact hn)) (WFG.of hV (fun j => by simp only [gN_gS, gN_gA, gN_gSW, gN_gSD, gN_gSC, gN_Glacier_changeWarmth, gN_Glacier_letFall, gN_l_Glacier_letCross_23, gN_Glacier_letCross, gN_Glacier_tryGo, gN_Glacier_tryProbe, gN_Glacier_takeFood, gN_Glacier_tryDrill, gN_l_Glacier_moveStakes_2, gN_Glacier_moveStakes, gN_l_Glacier_moveBridges_2, gN_Glacier_moveBridges, gN_Glacier_weather, gN_l_Glacier_eat_46, gN_Glacier_eat, gN_l_Glacier_readStakes_2, gN_Glacier_readStakes, gN_l_Glacier_endDay_12, gN_l_Glacier_endDay_42, gN_Glacier_endDay, gN_l_Glacier_beginAnew_37, gN_Orders_carryOut, gN_l_Glacier_passDay_93, gN_l_Glacier_passDay_61, gN_l_Glacier_passDay_37, gN_l_Glacier_passDay_2, gN_Glacier_passDay, gN_l_Camp_pass_21])) hk
set_option maxRecDepth 100000 in
set_option maxHeartbeats 800000 in
theorem gN_l_Camp_foresee_42 {A : TA} {K : TK} {σ : GL} {T : TM} {U : TM} {G : FM} {P : CP} {w : Int32} (j : Nat) : ∀ (k i : Nat) (τ : GL) (F : FM), gN (l_Camp_foresee_42 A K σ T U G P w k i τ F).1 j = gN τ j := by
  intro k
  induction k with
  | zero => intros; rfl
  | succ k ih =>
    intros
    unfold l_Camp_foresee_42
    (repeat' split) <;> simp only [gN_gS, gN_gA, gN_gSW, gN_gSD, gN_gSC, gN_Glacier_changeWarmth, gN_Glacier_letFall, gN_l_Glacier_letCross_23, gN_Glacier_letCross, gN_Glacier_tryGo, gN_Glacier_tryProbe, gN_Glacier_takeFood, gN_Glacier_tryDrill, gN_l_Glacier_moveStakes_2, gN_Glacier_moveStakes, gN_l_Glacier_moveBridges_2, gN_Glacier_moveBridges, gN_Glacier_weather, gN_l_Glacier_eat_46, gN_Glacier_eat, gN_l_Glacier_readStakes_2, gN_Glacier_readStakes, gN_l_Glacier_endDay_12, gN_l_Glacier_endDay_42, gN_Glacier_endDay, gN_l_Glacier_beginAnew_37, gN_Orders_carryOut, gN_l_Glacier_passDay_93, gN_l_Glacier_passDay_61, gN_l_Glacier_passDay_37, gN_l_Glacier_passDay_2, gN_Glacier_passDay, gN_l_Camp_pass_21, ih]
theorem cw_c_Glacier_total_g2 {Γ : G9} {sg : Nat → Nat} {sw : Nat} {h : AH} {c g g2 o o2 z : Nat} {A : TA} {K : TK} {σ : GL} {τ : GL} {T : TM} {F : FM} {U : TM} {G : FM} {P : CP} {x1 : Int32} (hs : SgOk Γ sg) (hsn : SgNe sg) (hw : SwOk Γ sw) (geo : c + 7 ≤ g ∧ c + 7 ≤ g2 ∧ (g + 12 ≤ g2 ∨ g2 + 12 ≤ g) ∧ g + 12 ≤ o ∧ g + 12 ≤ o2 ∧ g2 + 12 ≤ o ∧ g2 + 12 ≤ o2 ∧ (o + 7 ≤ o2 ∨ o2 + 7 ≤ o)) (hA : ta_sz A ≤ 2000) (ho : h o = some (.inr (3, [.ref (o + 1), .ref (o + 3)]))) (ho2 : h o2 = some (.inr (3, [.ref (o2 + 1), .ref (o2 + 3)]))) (hT : T.2 ≤ 20) (hU : U.2 ≤ 20) (hW : WFG σ) (hV : WFG τ) : CallR Γ M_Glacier_total 2 [.ref g2, .int x1] (cw_ Γ sg h c g g2 o o2 A K σ τ T F U G P) z (some (.int (s_Glacier_total τ x1))) (cw_ Γ sg h c g g2 o o2 A K σ τ T F U G P) := by
  unfold cw_
  exact CallR.conv (((((blk_in (blk_in (blk_in (blk_in (blk_comm (by omega)))))).trans (blk_in (blk_in (blk_in (blk_comm (by omega)))))).trans (blk_in (blk_in (blk_comm (by omega))))).trans (blk_in (blk_comm (by omega)))).trans (blk_comm (by omega))) (((((blk_comm (by omega)).trans (blk_in (blk_comm (by omega)))).trans (blk_in (blk_in (blk_comm (by omega))))).trans (blk_in (blk_in (blk_in (blk_comm (by omega)))))).trans (blk_in (blk_in (blk_in (blk_in (blk_comm (by omega))))))) (c_Glacier_total hV)
theorem d_Camp_foresee_0 : decode M_Camp_foresee.2.1 0 = .ok (.iload_n 1, 1) := by decide +kernel
theorem d_Camp_foresee_1 : decode M_Camp_foresee.2.1 1 = .ok (.iconst 1, 1) := by decide +kernel
theorem d_Camp_foresee_2 : decode M_Camp_foresee.2.1 2 = .ok (.bipush 60, 2) := by decide +kernel
theorem d_Camp_foresee_4 : decode M_Camp_foresee.2.1 4 = .ok (.invokestatic 174, 3) := by decide +kernel
theorem d_Camp_foresee_7 : decode M_Camp_foresee.2.1 7 = .ok (.iload_n 2, 1) := by decide +kernel
theorem d_Camp_foresee_8 : decode M_Camp_foresee.2.1 8 = .ok (.bipush 7, 2) := by decide +kernel
theorem d_Camp_foresee_10 : decode M_Camp_foresee.2.1 10 = .ok (.if_icmp .lt 9, 3) := by decide +kernel
theorem d_Camp_foresee_13 : decode M_Camp_foresee.2.1 13 = .ok (.iload_n 2, 1) := by decide +kernel
theorem d_Camp_foresee_14 : decode M_Camp_foresee.2.1 14 = .ok (.bipush 12, 2) := by decide +kernel
theorem d_Camp_foresee_16 : decode M_Camp_foresee.2.1 16 = .ok (.if_icmp .le 13, 3) := by decide +kernel
theorem d_Camp_foresee_19 : decode M_Camp_foresee.2.1 19 = .ok (.new 153, 3) := by decide +kernel
theorem d_Camp_foresee_22 : decode M_Camp_foresee.2.1 22 = .ok (.dup, 1) := by decide +kernel
theorem d_Camp_foresee_23 : decode M_Camp_foresee.2.1 23 = .ok (.ldc 211, 2) := by decide +kernel
theorem d_Camp_foresee_25 : decode M_Camp_foresee.2.1 25 = .ok (.invokespecial 157, 3) := by decide +kernel
theorem d_Camp_foresee_28 : decode M_Camp_foresee.2.1 28 = .ok (.athrow, 1) := by decide +kernel
theorem d_Camp_foresee_29 : decode M_Camp_foresee.2.1 29 = .ok (.aload_n 0, 1) := by decide +kernel
theorem d_Camp_foresee_30 : decode M_Camp_foresee.2.1 30 = .ok (.getfield 30, 3) := by decide +kernel
theorem d_Camp_foresee_33 : decode M_Camp_foresee.2.1 33 = .ok (.aload_n 0, 1) := by decide +kernel
theorem d_Camp_foresee_34 : decode M_Camp_foresee.2.1 34 = .ok (.getfield 26, 3) := by decide +kernel
theorem d_Camp_foresee_37 : decode M_Camp_foresee.2.1 37 = .ok (.invokevirtual 207, 3) := by decide +kernel
theorem d_Camp_foresee_40 : decode M_Camp_foresee.2.1 40 = .ok (.iconst 0, 1) := by decide +kernel
theorem d_Camp_foresee_41 : decode M_Camp_foresee.2.1 41 = .ok (.istore_n 3, 1) := by decide +kernel
theorem d_Camp_foresee_64 : decode M_Camp_foresee.2.1 64 = .ok (.aload_n 0, 1) := by decide +kernel
theorem d_Camp_foresee_65 : decode M_Camp_foresee.2.1 65 = .ok (.getfield 30, 3) := by decide +kernel
theorem d_Camp_foresee_68 : decode M_Camp_foresee.2.1 68 = .ok (.iload_n 2, 1) := by decide +kernel
theorem d_Camp_foresee_69 : decode M_Camp_foresee.2.1 69 = .ok (.invokevirtual 132, 3) := by decide +kernel
theorem d_Camp_foresee_72 : decode M_Camp_foresee.2.1 72 = .ok (.ireturn, 1) := by decide +kernel
def s_Camp_foresee (A : TA) (K : TK) (σ : GL) (τ : GL) (T : TM) (F : FM) (U : TM) (G : FM) (P : CP) (x1 : Int32) (x2 : Int32) : Int32 × Int32 × GL × FM := (if (s_Camp_needRange x1 1 60) = 0 then (if x2 < 7 then (1, 0, τ, F) else (if x2 ≤ 12 then (0, (s_Glacier_total (l_Camp_foresee_42 A K σ T U G P x2 (x1.toNatClampNeg) 0 (s_Glacier_become σ τ) F).1 x2), (l_Camp_foresee_42 A K σ T U G P x2 (x1.toNatClampNeg) 0 (s_Glacier_become σ τ) F).1, (l_Camp_foresee_42 A K σ T U G P x2 (x1.toNatClampNeg) 0 (s_Glacier_become σ τ) F).2) else (1, 0, τ, F))) else ((s_Camp_needRange x1 1 60), 0, τ, F))
set_option maxRecDepth 100000 in
set_option maxHeartbeats 800000 in
theorem c_Camp_foresee {Γ : G9} {sg : Nat → Nat} {sw : Nat} {ms : Nat → Nat} {h : AH} {c g g2 o o2 z : Nat} {A : TA} {K : TK} {σ : GL} {τ : GL} {T : TM} {F : FM} {U : TM} {G : FM} {P : CP} {x1 : Int32} {x2 : Int32} (hs : SgOk Γ sg) (hsn : SgNe sg) (hw : SwOk Γ sw) (geo : c + 7 ≤ g ∧ c + 7 ≤ g2 ∧ (g + 12 ≤ g2 ∨ g2 + 12 ≤ g) ∧ g + 12 ≤ o ∧ g + 12 ≤ o2 ∧ g2 + 12 ≤ o ∧ g2 + 12 ≤ o2 ∧ (o + 7 ≤ o2 ∨ o2 + 7 ≤ o)) (hA : ta_sz A ≤ 2000) (ho : h o = some (.inr (3, [.ref (o + 1), .ref (o + 3)]))) (ho2 : h o2 = some (.inr (3, [.ref (o2 + 1), .ref (o2 + 3)]))) (hT : T.2 ≤ 20) (hU : U.2 ≤ 20) (hW : WFG σ) (hV : WFG τ) (hms : MsOk Γ ms) (hth : ThOk Γ) : CallT Γ M_Camp_foresee 7 4 24 [.ref c, .int x1, .int x2] (cw_ Γ sg h c g g2 o o2 A K σ τ T F U G P) z (s_Camp_foresee A K σ τ T F U G P x1 x2).1 (some (.int (s_Camp_foresee A K σ τ T F U G P x1 x2).2.1)) (cw_ Γ sg h c g g2 o o2 A K σ (s_Camp_foresee A K σ τ T F U G P x1 x2).2.2.1 T (s_Camp_foresee A K σ τ T F U G P x1 x2).2.2.2 U G P) := by
  refine Call.of_go (L := [some (.ref c), some (.int x1), some (.int x2), none]) (by decide +kernel) rfl (by exact Nat.le_of_ble_eq_true rfl) ?_
  unfold s_Camp_foresee
  refine Go.iload_1 d_Camp_foresee_0 rfl ?_
  refine Go.iconst (v := 1) d_Camp_foresee_1 rfl (by decide) ?_
  refine Go.bipush (v := 60) d_Camp_foresee_2 rfl (by decide) ?_
  refine Go.csT (C1 := 3) (S1 := 18) (as := [.int x1, .int 1, .int 60]) d_Camp_foresee_4 rfl l_Camp_174 k_Camp_needRange_s rfl rfl rfl (c_Camp_needRange hms hth) rfl rfl rfl rfl rfl rfl (fun t4_1 z2 hz => ?_) (fun t4_1 => ?_)
  · rw [if_neg t4_1]
    exact ⟨t4_1, rfl, by dsimp only, hz⟩
  have hq_a0 := needRange_ok t4_1
  obtain ⟨a0, ha0, rfl⟩ := nI_of (x := x1) (i_trans1 hq_a0.1)
  have hb_a0 : a0 ≤ 60 := (nI_leI ha0 (b := 60) (by decide)).mp hq_a0.2
  try rw [nI_clamp ha0]
  refine Go.iload_2 d_Camp_foresee_7 rfl ?_
  refine Go.bipush (v := 7) d_Camp_foresee_8 rfl (by decide) ?_
  refine Go.icmp_lt (t := 19) d_Camp_foresee_10 (by decide) rfl (fun c10_2 => ?_) (fun c10_2 => ?_)
  · rw [if_pos t4_1, if_pos c10_2]
    exact Go.throwS (names := xnm) (cls := xIO) d_Camp_foresee_19 d_Camp_foresee_22 d_Camp_foresee_23 d_Camp_foresee_25 d_Camp_foresee_28 x_Camp_k153 x_ini_IndexOutOfBoundsException xw_xIO (by decide +kernel) (by decide +kernel) (hms 211 "this is not foreseen" (by decide)) hth rfl rfl (by decide) rfl rfl rfl (fun z2 hz => ⟨show ¬ (1 : Int32) = 0 by decide, rfl, by dsimp only, hz⟩)
  · refine Go.iload_2 d_Camp_foresee_13 rfl ?_
    refine Go.bipush (v := 12) d_Camp_foresee_14 rfl (by decide) ?_
    refine Go.icmp_le (t := 29) d_Camp_foresee_16 (by decide) rfl (fun c16_3 => ?_) (fun c16_3 => ?_)
    · refine Go.aload_0 d_Camp_foresee_29 rfl ?_
      refine Go.getfield d_Camp_foresee_30 rfl f_Camp_30 (cw_at_c hs hsn hw (by omega) hA ho ho2 hT hU hW hV) (by rfl) ?_
      refine Go.aload_0 d_Camp_foresee_33 rfl ?_
      refine Go.getfield d_Camp_foresee_34 rfl f_Camp_26 (cw_at_c hs hsn hw (by omega) hA ho ho2 hT hU hW hV) (by rfl) ?_
      refine Go.cv1v d_Camp_foresee_37 rfl l_Camp_207 k_Glacier_become_v (cw_at_g2 hs hsn hw (by omega) hA ho ho2 hT hU hW hV) rfl (cw_c_Glacier_become_g2_g hs hsn hw (by omega) hA ho ho2 hT hU hW hV) rfl rfl rfl ?_
      refine Go.iconst (v := 0) d_Camp_foresee_40 rfl (by decide) ?_
      refine Go.istore_3 d_Camp_foresee_41 rfl (by rfl) ?_
      refine Go.room (C' := 0) (S' := 0) ?_ (Nat.le_refl _) (Nat.zero_le _) (Nat.zero_le _)
      refine l_Camp_foresee_42_go (n := (a0)) hs hsn hw geo hA ho ho2 hT hU hW hms hth (by omega) (a0) 0 (s_Glacier_become σ τ) F (by omega) rfl (wf_Glacier_become hW) ?_
      refine Go.aload_0 d_Camp_foresee_64 rfl ?_
      refine Go.getfield d_Camp_foresee_65 rfl f_Camp_30 (cw_at_c hs hsn hw (by omega) hA ho ho2 hT hU hW (WFG.of (wf_Glacier_become (σ := τ) (τ := σ) hW) (fun j => by simp only [gN_gS, gN_gA, gN_gSW, gN_gSD, gN_gSC, gN_Glacier_changeWarmth, gN_Glacier_letFall, gN_l_Glacier_letCross_23, gN_Glacier_letCross, gN_Glacier_tryGo, gN_Glacier_tryProbe, gN_Glacier_takeFood, gN_Glacier_tryDrill, gN_l_Glacier_moveStakes_2, gN_Glacier_moveStakes, gN_l_Glacier_moveBridges_2, gN_Glacier_moveBridges, gN_Glacier_weather, gN_l_Glacier_eat_46, gN_Glacier_eat, gN_l_Glacier_readStakes_2, gN_Glacier_readStakes, gN_l_Glacier_endDay_12, gN_l_Glacier_endDay_42, gN_Glacier_endDay, gN_l_Glacier_beginAnew_37, gN_Orders_carryOut, gN_l_Glacier_passDay_93, gN_l_Glacier_passDay_61, gN_l_Glacier_passDay_37, gN_l_Glacier_passDay_2, gN_Glacier_passDay, gN_l_Camp_pass_21, gN_l_Camp_foresee_42]))) (by rfl) ?_
      refine Go.iload_2 d_Camp_foresee_68 rfl ?_
      refine Go.cv1r d_Camp_foresee_69 rfl l_Camp_132 k_Glacier_total_v (cw_at_g2 hs hsn hw (by omega) hA ho ho2 hT hU hW (WFG.of (wf_Glacier_become (σ := τ) (τ := σ) hW) (fun j => by simp only [gN_gS, gN_gA, gN_gSW, gN_gSD, gN_gSC, gN_Glacier_changeWarmth, gN_Glacier_letFall, gN_l_Glacier_letCross_23, gN_Glacier_letCross, gN_Glacier_tryGo, gN_Glacier_tryProbe, gN_Glacier_takeFood, gN_Glacier_tryDrill, gN_l_Glacier_moveStakes_2, gN_Glacier_moveStakes, gN_l_Glacier_moveBridges_2, gN_Glacier_moveBridges, gN_Glacier_weather, gN_l_Glacier_eat_46, gN_Glacier_eat, gN_l_Glacier_readStakes_2, gN_Glacier_readStakes, gN_l_Glacier_endDay_12, gN_l_Glacier_endDay_42, gN_Glacier_endDay, gN_l_Glacier_beginAnew_37, gN_Orders_carryOut, gN_l_Glacier_passDay_93, gN_l_Glacier_passDay_61, gN_l_Glacier_passDay_37, gN_l_Glacier_passDay_2, gN_Glacier_passDay, gN_l_Camp_pass_21, gN_l_Camp_foresee_42]))) rfl (cw_c_Glacier_total_g2 hs hsn hw (by omega) hA ho ho2 hT hU hW (WFG.of (wf_Glacier_become (σ := τ) (τ := σ) hW) (fun j => by simp only [gN_gS, gN_gA, gN_gSW, gN_gSD, gN_gSC, gN_Glacier_changeWarmth, gN_Glacier_letFall, gN_l_Glacier_letCross_23, gN_Glacier_letCross, gN_Glacier_tryGo, gN_Glacier_tryProbe, gN_Glacier_takeFood, gN_Glacier_tryDrill, gN_l_Glacier_moveStakes_2, gN_Glacier_moveStakes, gN_l_Glacier_moveBridges_2, gN_Glacier_moveBridges, gN_Glacier_weather, gN_l_Glacier_eat_46, gN_Glacier_eat, gN_l_Glacier_readStakes_2, gN_Glacier_readStakes, gN_l_Glacier_endDay_12, gN_l_Glacier_endDay_42, gN_Glacier_endDay, gN_l_Glacier_beginAnew_37, gN_Orders_carryOut, gN_l_Glacier_passDay_93, gN_l_Glacier_passDay_61, gN_l_Glacier_passDay_37, gN_l_Glacier_passDay_2, gN_Glacier_passDay, gN_l_Camp_pass_21, gN_l_Camp_foresee_42]))) rfl rfl rfl ?_
      rw [if_pos t4_1, if_neg c10_2, if_pos c16_3]
      exact Go.iret d_Camp_foresee_72 rfl rfl ⟨rfl, rfl, by dsimp only, rfl⟩
    · rw [if_pos t4_1, if_neg c10_2, if_neg c16_3]
      exact Go.throwS (names := xnm) (cls := xIO) d_Camp_foresee_19 d_Camp_foresee_22 d_Camp_foresee_23 d_Camp_foresee_25 d_Camp_foresee_28 x_Camp_k153 x_ini_IndexOutOfBoundsException xw_xIO (by decide +kernel) (by decide +kernel) (hms 211 "this is not foreseen" (by decide)) hth rfl rfl (by decide) rfl rfl rfl (fun z2 hz => ⟨show ¬ (1 : Int32) = 0 by decide, rfl, by dsimp only, hz⟩)
theorem cw_tab_get_g2_9 {Γ : G9} {sg : Nat → Nat} {sw : Nat} {h : AH} {c g g2 o o2 z : Nat} {A : TA} {K : TK} {σ : GL} {τ : GL} {T : TM} {F : FM} {U : TM} {G : FM} {P : CP} {row : Int32} {cl : Nat} {ci : Int32} (hs : SgOk Γ sg) (hsn : SgNe sg) (hw : SwOk Γ sw) (geo : c + 7 ≤ g ∧ c + 7 ≤ g2 ∧ (g + 12 ≤ g2 ∨ g2 + 12 ≤ g) ∧ g + 12 ≤ o ∧ g + 12 ≤ o2 ∧ g2 + 12 ≤ o ∧ g2 + 12 ≤ o2 ∧ (o + 7 ≤ o2 ∨ o2 + 7 ≤ o)) (hA : ta_sz A ≤ 2000) (ho : h o = some (.inr (3, [.ref (o + 1), .ref (o + 3)]))) (ho2 : h o2 = some (.inr (3, [.ref (o2 + 1), .ref (o2 + 3)]))) (hT : T.2 ≤ 20) (hU : U.2 ≤ 20) (hW : WFG σ) (hV : WFG τ) (hci : ci = nI cl) (hcl : cl < 8) : CallR Γ M_Table_get 0 [.ref (g2 + 9), .int row, .int ci] (cw_ Γ sg h c g g2 o o2 A K σ τ T F U G P) z (some (.int (gG τ 4 row cl))) (cw_ Γ sg h c g g2 o o2 A K σ τ T F U G P) := by
  subst hci
  unfold cw_
  exact CallR.conv (((((blk_in (blk_in (blk_in (blk_in (blk_comm (by omega)))))).trans (blk_in (blk_in (blk_in (blk_comm (by omega)))))).trans (blk_in (blk_in (blk_comm (by omega))))).trans (blk_in (blk_comm (by omega)))).trans (blk_comm (by omega))) (((((blk_comm (by omega)).trans (blk_in (blk_comm (by omega)))).trans (blk_in (blk_in (blk_comm (by omega))))).trans (blk_in (blk_in (blk_in (blk_comm (by omega)))))).trans (blk_in (blk_in (blk_in (blk_in (blk_comm (by omega))))))) (cG_get (k := 4) (by decide) (c := cl) rfl (by omega) hV)
theorem cw_at_g2_9 {Γ : G9} {sg : Nat → Nat} {sw : Nat} {h : AH} {c g g2 o o2 : Nat} {A : TA} {K : TK} {σ : GL} {τ : GL} {T : TM} {F : FM} {U : TM} {G : FM} {P : CP} (hs : SgOk Γ sg) (hsn : SgNe sg) (hw : SwOk Γ sw) (geo : c + 7 ≤ g ∧ c + 7 ≤ g2 ∧ (g + 12 ≤ g2 ∨ g2 + 12 ≤ g) ∧ g + 12 ≤ o ∧ g + 12 ≤ o2 ∧ g2 + 12 ≤ o ∧ g2 + 12 ≤ o2 ∧ (o + 7 ≤ o2 ∨ o2 + 7 ≤ o)) (hA : ta_sz A ≤ 2000) (ho : h o = some (.inr (3, [.ref (o + 1), .ref (o + 3)]))) (ho2 : h o2 = some (.inr (3, [.ref (o2 + 1), .ref (o2 + 3)]))) (hT : T.2 ≤ 20) (hU : U.2 ≤ 20) (hW : WFG σ) (hV : WFG τ) : (cw_ Γ sg h c g g2 o o2 A K σ τ T F U G P) (g2 + 9) = some (tabO (g2 + 9) (τ.1 4)) := by
  unfold cw_
  exact ((blk_out (by omega)).trans ((blk_out (by omega)).trans ((blk_out (by omega)).trans ((blk_out (by omega)).trans ((blk_out (by omega)).trans ((gl_tab (k := 4) (by decide))))))))
theorem cw_c_Glacier_tryGo_g2 {Γ : G9} {sg : Nat → Nat} {sw : Nat} {h : AH} {c g g2 o o2 z : Nat} {A : TA} {K : TK} {σ : GL} {τ : GL} {T : TM} {F : FM} {U : TM} {G : FM} {P : CP} {x1 : Int32} {x2 : Int32} (hs : SgOk Γ sg) (hsn : SgNe sg) (hw : SwOk Γ sw) (geo : c + 7 ≤ g ∧ c + 7 ≤ g2 ∧ (g + 12 ≤ g2 ∨ g2 + 12 ≤ g) ∧ g + 12 ≤ o ∧ g + 12 ≤ o2 ∧ g2 + 12 ≤ o ∧ g2 + 12 ≤ o2 ∧ (o + 7 ≤ o2 ∨ o2 + 7 ≤ o)) (hA : ta_sz A ≤ 2000) (ho : h o = some (.inr (3, [.ref (o + 1), .ref (o + 3)]))) (ho2 : h o2 = some (.inr (3, [.ref (o2 + 1), .ref (o2 + 3)]))) (hT : T.2 ≤ 20) (hU : U.2 ≤ 20) (hW : WFG σ) (hV : WFG τ) : CallR Γ M_Glacier_tryGo 3 [.ref g2, .int x1, .int x2] (cw_ Γ sg h c g g2 o o2 A K σ τ T F U G P) z (some (.int (s_Glacier_tryGo τ x1 x2).1)) (cw_ Γ sg h c g g2 o o2 A K σ (s_Glacier_tryGo τ x1 x2).2 T F U G P) := by
  unfold cw_
  exact CallR.conv (((((blk_in (blk_in (blk_in (blk_in (blk_comm (by omega)))))).trans (blk_in (blk_in (blk_in (blk_comm (by omega)))))).trans (blk_in (blk_in (blk_comm (by omega))))).trans (blk_in (blk_comm (by omega)))).trans (blk_comm (by omega))) (((((blk_comm (by omega)).trans (blk_in (blk_comm (by omega)))).trans (blk_in (blk_in (blk_comm (by omega))))).trans (blk_in (blk_in (blk_in (blk_comm (by omega)))))).trans (blk_in (blk_in (blk_in (blk_in (blk_comm (by omega))))))) (c_Glacier_tryGo hV)
theorem cw_c_Glacier_isHere_g {Γ : G9} {sg : Nat → Nat} {sw : Nat} {h : AH} {c g g2 o o2 z : Nat} {A : TA} {K : TK} {σ : GL} {τ : GL} {T : TM} {F : FM} {U : TM} {G : FM} {P : CP} {x1 : Int32} (hs : SgOk Γ sg) (hsn : SgNe sg) (hw : SwOk Γ sw) (geo : c + 7 ≤ g ∧ c + 7 ≤ g2 ∧ (g + 12 ≤ g2 ∨ g2 + 12 ≤ g) ∧ g + 12 ≤ o ∧ g + 12 ≤ o2 ∧ g2 + 12 ≤ o ∧ g2 + 12 ≤ o2 ∧ (o + 7 ≤ o2 ∨ o2 + 7 ≤ o)) (hA : ta_sz A ≤ 2000) (ho : h o = some (.inr (3, [.ref (o + 1), .ref (o + 3)]))) (ho2 : h o2 = some (.inr (3, [.ref (o2 + 1), .ref (o2 + 3)]))) (hT : T.2 ≤ 20) (hU : U.2 ≤ 20) (hW : WFG σ) (hV : WFG τ) : CallR Γ M_Glacier_isHere 1 [.ref g, .int x1] (cw_ Γ sg h c g g2 o o2 A K σ τ T F U G P) z (some (.int (s_Glacier_isHere σ x1))) (cw_ Γ sg h c g g2 o o2 A K σ τ T F U G P) := by
  unfold cw_
  exact CallR.conv ((((((blk_in (blk_in (blk_in (blk_in (blk_in (blk_comm (by omega))))))).trans (blk_in (blk_in (blk_in (blk_in (blk_comm (by omega))))))).trans (blk_in (blk_in (blk_in (blk_comm (by omega)))))).trans (blk_in (blk_in (blk_comm (by omega))))).trans (blk_in (blk_comm (by omega)))).trans (blk_comm (by omega))) ((((((blk_comm (by omega)).trans (blk_in (blk_comm (by omega)))).trans (blk_in (blk_in (blk_comm (by omega))))).trans (blk_in (blk_in (blk_in (blk_comm (by omega)))))).trans (blk_in (blk_in (blk_in (blk_in (blk_comm (by omega))))))).trans (blk_in (blk_in (blk_in (blk_in (blk_in (blk_comm (by omega)))))))) (c_Glacier_isHere hW)
theorem d_Camp_digest_6 : decode M_Camp_digest.2.1 6 = .ok (.iload_n 3, 1) := by decide +kernel
theorem d_Camp_digest_7 : decode M_Camp_digest.2.1 7 = .ok (.bipush 15, 2) := by decide +kernel
theorem d_Camp_digest_9 : decode M_Camp_digest.2.1 9 = .ok (.if_icmp .ge 22, 3) := by decide +kernel
theorem d_Camp_digest_12 : decode M_Camp_digest.2.1 12 = .ok (.lload_n 1, 1) := by decide +kernel
theorem d_Camp_digest_13 : decode M_Camp_digest.2.1 13 = .ok (.ldc2_w 227, 3) := by decide +kernel
theorem d_Camp_digest_16 : decode M_Camp_digest.2.1 16 = .ok (.lmul, 1) := by decide +kernel
theorem d_Camp_digest_17 : decode M_Camp_digest.2.1 17 = .ok (.aload_n 0, 1) := by decide +kernel
theorem d_Camp_digest_18 : decode M_Camp_digest.2.1 18 = .ok (.iload_n 3, 1) := by decide +kernel
theorem d_Camp_digest_19 : decode M_Camp_digest.2.1 19 = .ok (.invokevirtual 103, 3) := by decide +kernel
theorem d_Camp_digest_22 : decode M_Camp_digest.2.1 22 = .ok (.i2l, 1) := by decide +kernel
theorem d_Camp_digest_23 : decode M_Camp_digest.2.1 23 = .ok (.ladd, 1) := by decide +kernel
theorem d_Camp_digest_24 : decode M_Camp_digest.2.1 24 = .ok (.lstore_n 1, 1) := by decide +kernel
theorem d_Camp_digest_25 : decode M_Camp_digest.2.1 25 = .ok (.iinc 3 1, 3) := by decide +kernel
theorem d_Camp_digest_28 : decode M_Camp_digest.2.1 28 = .ok (.goto (-22), 3) := by decide +kernel
def l_Camp_digest_6 (A : TA) (K : TK) (σ : GL) (τ : GL) (T : TM) (F : FM) (U : TM) (G : FM) (P : CP) : Nat → Nat → Int64 → Int64
  | 0, _, d => d
  | k + 1, i, d => (l_Camp_digest_6 A K σ τ T F U G P k (i + 1) ((d * 31) + (s_Camp_counted A K σ τ T F U G P (nI i)).toInt64))
set_option maxRecDepth 100000 in
set_option maxHeartbeats 800000 in
theorem l_Camp_digest_6_go {Γ : G9} {sg : Nat → Nat} {sw : Nat} {h : AH} {c g g2 o o2 z : Nat} {n : Nat} {Q : QT} {X : XT} {A : TA} {K : TK} {σ : GL} {τ : GL} {T : TM} {F : FM} {U : TM} {G : FM} {P : CP} (hs : SgOk Γ sg) (hsn : SgNe sg) (hw : SwOk Γ sw) (geo : c + 7 ≤ g ∧ c + 7 ≤ g2 ∧ (g + 12 ≤ g2 ∨ g2 + 12 ≤ g) ∧ g + 12 ≤ o ∧ g + 12 ≤ o2 ∧ g2 + 12 ≤ o ∧ g2 + 12 ≤ o2 ∧ (o + 7 ≤ o2 ∨ o2 + 7 ≤ o)) (hA : ta_sz A ≤ 2000) (ho : h o = some (.inr (3, [.ref (o + 1), .ref (o + 3)]))) (ho2 : h o2 = some (.inr (3, [.ref (o2 + 1), .ref (o2 + 3)]))) (hT : T.2 ≤ 20) (hU : U.2 ≤ 20) (hW : WFG σ) (hV : WFG τ) (hn20 : n ≤ 20) (hn : 15 = n) : ∀ (k i : Nat) (d : Int64), i + k = n → Go Γ M_Camp_digest 4 0 0 31 [some (.ref c), some (.long (l_Camp_digest_6 A K σ τ T F U G P k i d)), none, some (.int (nI (i + k))), none] [] (cw_ Γ sg h c g g2 o o2 A K σ τ T F U G P) z Q X → Go Γ M_Camp_digest 4 0 0 6 [some (.ref c), some (.long d), none, some (.int (nI i)), none] [] (cw_ Γ sg h c g g2 o o2 A K σ τ T F U G P) z Q X := by
  intro k
  induction k with
  | zero =>
    intro i d hi hk
    refine Go.iload_3 d_Camp_digest_6 rfl ?_
    refine Go.bipush (v := 15) d_Camp_digest_7 rfl (by decide) ?_
    refine Go.icmp_ge (t := 31) d_Camp_digest_9 (by decide) rfl (fun c9_1 => ?_) (fun c9_1 => ?_)
    · exact hk
    · exact absurd (show nI 15 ≤ nI i from nI_le (by omega) (by omega)) c9_1
  | succ k ih =>
    intro i d hi hk
    unfold l_Camp_digest_6 at hk
    rw [show i + (k + 1) = i + 1 + k by omega] at hk
    refine Go.iload_3 d_Camp_digest_6 rfl ?_
    refine Go.bipush (v := 15) d_Camp_digest_7 rfl (by decide) ?_
    refine Go.icmp_ge (t := 31) d_Camp_digest_9 (by decide) rfl (fun c9_1 => ?_) (fun c9_1 => ?_)
    · exact absurd c9_1 (show ¬ nI 15 ≤ nI i from nI_ge (by omega) (by omega))
    · refine Go.lload_1 d_Camp_digest_12 rfl ?_
      refine Go.ldc2 (v := 31) d_Camp_digest_13 rfl x_Camp_227 ?_
      refine Go.lmul d_Camp_digest_16 rfl ?_
      refine Go.aload_0 d_Camp_digest_17 rfl ?_
      refine Go.iload_3 d_Camp_digest_18 rfl ?_
      refine Go.cv1r d_Camp_digest_19 rfl l_Camp_103 k_Camp_counted_v (cw_at_c hs hsn hw (by omega) hA ho ho2 hT hU hW hV) rfl (c_Camp_counted hs hsn hw (by omega) hA ho ho2 hT hU hW hV) rfl rfl rfl ?_
      refine Go.i2l d_Camp_digest_22 rfl ?_
      refine Go.ladd d_Camp_digest_23 rfl ?_
      refine Go.lstore_1 d_Camp_digest_24 rfl (by rfl) ?_
      refine Go.iinc_3 d_Camp_digest_25 rfl (by rfl) (nI_inc _) ?_
      refine Go.goto (t := 6) d_Camp_digest_28 (by decide) ?_
      exact ih (i + 1) _ (by omega) hk
theorem d_Camp_digest_50 : decode M_Camp_digest.2.1 50 = .ok (.iload 4, 2) := by decide +kernel
theorem d_Camp_digest_52 : decode M_Camp_digest.2.1 52 = .ok (.bipush 6, 2) := by decide +kernel
theorem d_Camp_digest_54 : decode M_Camp_digest.2.1 54 = .ok (.if_icmp .ge 27, 3) := by decide +kernel
theorem d_Camp_digest_57 : decode M_Camp_digest.2.1 57 = .ok (.lload_n 1, 1) := by decide +kernel
theorem d_Camp_digest_58 : decode M_Camp_digest.2.1 58 = .ok (.ldc2_w 227, 3) := by decide +kernel
theorem d_Camp_digest_61 : decode M_Camp_digest.2.1 61 = .ok (.lmul, 1) := by decide +kernel
theorem d_Camp_digest_62 : decode M_Camp_digest.2.1 62 = .ok (.aload_n 0, 1) := by decide +kernel
theorem d_Camp_digest_63 : decode M_Camp_digest.2.1 63 = .ok (.getfield 26, 3) := by decide +kernel
theorem d_Camp_digest_66 : decode M_Camp_digest.2.1 66 = .ok (.iload_n 3, 1) := by decide +kernel
theorem d_Camp_digest_67 : decode M_Camp_digest.2.1 67 = .ok (.iload 4, 2) := by decide +kernel
theorem d_Camp_digest_69 : decode M_Camp_digest.2.1 69 = .ok (.invokevirtual 139, 3) := by decide +kernel
theorem d_Camp_digest_72 : decode M_Camp_digest.2.1 72 = .ok (.i2l, 1) := by decide +kernel
theorem d_Camp_digest_73 : decode M_Camp_digest.2.1 73 = .ok (.ladd, 1) := by decide +kernel
theorem d_Camp_digest_74 : decode M_Camp_digest.2.1 74 = .ok (.lstore_n 1, 1) := by decide +kernel
theorem d_Camp_digest_75 : decode M_Camp_digest.2.1 75 = .ok (.iinc 4 1, 3) := by decide +kernel
theorem d_Camp_digest_78 : decode M_Camp_digest.2.1 78 = .ok (.goto (-28), 3) := by decide +kernel
def l_Camp_digest_50 (A : TA) (K : TK) (σ : GL) (τ : GL) (T : TM) (F : FM) (U : TM) (G : FM) (P : CP) (r : Int32) : Nat → Nat → Int64 → Int64
  | 0, _, d => d
  | k + 1, i, d => (l_Camp_digest_50 A K σ τ T F U G P r k (i + 1) ((d * 31) + (s_Glacier_bandFact σ r i).toInt64))
set_option maxRecDepth 100000 in
set_option maxHeartbeats 800000 in
theorem l_Camp_digest_50_go {Γ : G9} {sg : Nat → Nat} {sw : Nat} {h : AH} {c g g2 o o2 z : Nat} {n : Nat} {Q : QT} {X : XT} {A : TA} {K : TK} {σ : GL} {τ : GL} {T : TM} {F : FM} {U : TM} {G : FM} {P : CP} {r : Int32} (hs : SgOk Γ sg) (hsn : SgNe sg) (hw : SwOk Γ sw) (geo : c + 7 ≤ g ∧ c + 7 ≤ g2 ∧ (g + 12 ≤ g2 ∨ g2 + 12 ≤ g) ∧ g + 12 ≤ o ∧ g + 12 ≤ o2 ∧ g2 + 12 ≤ o ∧ g2 + 12 ≤ o2 ∧ (o + 7 ≤ o2 ∨ o2 + 7 ≤ o)) (hA : ta_sz A ≤ 2000) (ho : h o = some (.inr (3, [.ref (o + 1), .ref (o + 3)]))) (ho2 : h o2 = some (.inr (3, [.ref (o2 + 1), .ref (o2 + 3)]))) (hT : T.2 ≤ 20) (hU : U.2 ≤ 20) (hW : WFG σ) (hV : WFG τ) (hn20 : n ≤ 20) (hn : 6 = n) : ∀ (k i : Nat) (d : Int64), i + k = n → Go Γ M_Camp_digest 4 0 0 81 [some (.ref c), some (.long (l_Camp_digest_50 A K σ τ T F U G P r k i d)), none, some (.int r), some (.int (nI (i + k)))] [] (cw_ Γ sg h c g g2 o o2 A K σ τ T F U G P) z Q X → Go Γ M_Camp_digest 4 0 0 50 [some (.ref c), some (.long d), none, some (.int r), some (.int (nI i))] [] (cw_ Γ sg h c g g2 o o2 A K σ τ T F U G P) z Q X := by
  intro k
  induction k with
  | zero =>
    intro i d hi hk
    refine Go.iload_4 d_Camp_digest_50 rfl ?_
    refine Go.bipush (v := 6) d_Camp_digest_52 rfl (by decide) ?_
    refine Go.icmp_ge (t := 81) d_Camp_digest_54 (by decide) rfl (fun c54_1 => ?_) (fun c54_1 => ?_)
    · exact hk
    · exact absurd (show nI 6 ≤ nI i from nI_le (by omega) (by omega)) c54_1
  | succ k ih =>
    intro i d hi hk
    unfold l_Camp_digest_50 at hk
    rw [show i + (k + 1) = i + 1 + k by omega] at hk
    refine Go.iload_4 d_Camp_digest_50 rfl ?_
    refine Go.bipush (v := 6) d_Camp_digest_52 rfl (by decide) ?_
    refine Go.icmp_ge (t := 81) d_Camp_digest_54 (by decide) rfl (fun c54_1 => ?_) (fun c54_1 => ?_)
    · exact absurd c54_1 (show ¬ nI 6 ≤ nI i from nI_ge (by omega) (by omega))
    · refine Go.lload_1 d_Camp_digest_57 rfl ?_
      refine Go.ldc2 (v := 31) d_Camp_digest_58 rfl x_Camp_227 ?_
      refine Go.lmul d_Camp_digest_61 rfl ?_
      refine Go.aload_0 d_Camp_digest_62 rfl ?_
      refine Go.getfield d_Camp_digest_63 rfl f_Camp_26 (cw_at_c hs hsn hw (by omega) hA ho ho2 hT hU hW hV) (by rfl) ?_
      refine Go.iload_3 d_Camp_digest_66 rfl ?_
      refine Go.iload_4 d_Camp_digest_67 rfl ?_
      refine Go.cv2r d_Camp_digest_69 rfl l_Camp_139 k_Glacier_bandFact_v (cw_at_g hs hsn hw (by omega) hA ho ho2 hT hU hW hV) rfl (cw_c_Glacier_bandFact_g (x2 := i) rfl (by omega) hs hsn hw (by omega) hA ho ho2 hT hU hW hV) rfl rfl rfl ?_
      refine Go.i2l d_Camp_digest_72 rfl ?_
      refine Go.ladd d_Camp_digest_73 rfl ?_
      refine Go.lstore_1 d_Camp_digest_74 rfl (by rfl) ?_
      refine Go.iinc_4 d_Camp_digest_75 rfl (by rfl) (nI_inc _) ?_
      refine Go.goto (t := 50) d_Camp_digest_78 (by decide) ?_
      exact ih (i + 1) _ (by omega) hk
theorem d_Camp_digest_33 : decode M_Camp_digest.2.1 33 = .ok (.iload_n 3, 1) := by decide +kernel
theorem d_Camp_digest_34 : decode M_Camp_digest.2.1 34 = .ok (.aload_n 0, 1) := by decide +kernel
theorem d_Camp_digest_35 : decode M_Camp_digest.2.1 35 = .ok (.getfield 26, 3) := by decide +kernel
theorem d_Camp_digest_38 : decode M_Camp_digest.2.1 38 = .ok (.getfield 107, 3) := by decide +kernel
theorem d_Camp_digest_41 : decode M_Camp_digest.2.1 41 = .ok (.invokevirtual 111, 3) := by decide +kernel
theorem d_Camp_digest_44 : decode M_Camp_digest.2.1 44 = .ok (.if_icmp .ge 43, 3) := by decide +kernel
theorem d_Camp_digest_47 : decode M_Camp_digest.2.1 47 = .ok (.iconst 0, 1) := by decide +kernel
theorem d_Camp_digest_48 : decode M_Camp_digest.2.1 48 = .ok (.istore 4, 2) := by decide +kernel
theorem d_Camp_digest_81 : decode M_Camp_digest.2.1 81 = .ok (.iinc 3 1, 3) := by decide +kernel
theorem d_Camp_digest_84 : decode M_Camp_digest.2.1 84 = .ok (.goto (-51), 3) := by decide +kernel
def l_Camp_digest_33 (A : TA) (K : TK) (σ : GL) (τ : GL) (T : TM) (F : FM) (U : TM) (G : FM) (P : CP) : Nat → Nat → Int64 → Int64
  | 0, _, d => d
  | k + 1, i, d => (l_Camp_digest_33 A K σ τ T F U G P k (i + 1) (l_Camp_digest_50 A K σ τ T F U G P (nI i) (6) 0 d))
set_option maxRecDepth 100000 in
set_option maxHeartbeats 800000 in
theorem l_Camp_digest_33_go {Γ : G9} {sg : Nat → Nat} {sw : Nat} {h : AH} {c g g2 o o2 z : Nat} {n : Nat} {Q : QT} {X : XT} {A : TA} {K : TK} {σ : GL} {τ : GL} {T : TM} {F : FM} {U : TM} {G : FM} {P : CP} (hs : SgOk Γ sg) (hsn : SgNe sg) (hw : SwOk Γ sw) (geo : c + 7 ≤ g ∧ c + 7 ≤ g2 ∧ (g + 12 ≤ g2 ∨ g2 + 12 ≤ g) ∧ g + 12 ≤ o ∧ g + 12 ≤ o2 ∧ g2 + 12 ≤ o ∧ g2 + 12 ≤ o2 ∧ (o + 7 ≤ o2 ∨ o2 + 7 ≤ o)) (hA : ta_sz A ≤ 2000) (ho : h o = some (.inr (3, [.ref (o + 1), .ref (o + 3)]))) (ho2 : h o2 = some (.inr (3, [.ref (o2 + 1), .ref (o2 + 3)]))) (hT : T.2 ≤ 20) (hU : U.2 ≤ 20) (hW : WFG σ) (hV : WFG τ) (hn20 : n ≤ 20) (hn : gN σ 0 = n) : ∀ (k i : Nat) (d : Int64), i + k = n → Go Γ M_Camp_digest 4 0 0 87 [some (.ref c), some (.long (l_Camp_digest_33 A K σ τ T F U G P k i d)), none, some (.int (nI (i + k))), none] [] (cw_ Γ sg h c g g2 o o2 A K σ τ T F U G P) z Q X → Go Γ M_Camp_digest 4 0 0 33 [some (.ref c), some (.long d), none, some (.int (nI i)), none] [] (cw_ Γ sg h c g g2 o o2 A K σ τ T F U G P) z Q X := by
  intro k
  induction k with
  | zero =>
    intro i d hi hk
    refine Go.iload_3 d_Camp_digest_33 rfl ?_
    refine Go.aload_0 d_Camp_digest_34 rfl ?_
    refine Go.getfield d_Camp_digest_35 rfl f_Camp_26 (cw_at_c hs hsn hw (by omega) hA ho ho2 hT hU hW hV) (by rfl) ?_
    refine Go.getfield d_Camp_digest_38 rfl f_Camp_107 (cw_at_g hs hsn hw (by omega) hA ho ho2 hT hU hW hV) (by rfl) ?_
    refine Go.cv0r d_Camp_digest_41 rfl l_Camp_111 k_Table_rows_v (cw_at_g_1 hs hsn hw (by omega) hA ho ho2 hT hU hW hV) rfl (cw_tab_rows_g_1 hs hsn hw (by omega) hA ho ho2 hT hU hW hV) rfl rfl rfl ?_
    refine Go.icmp_ge (t := 87) d_Camp_digest_44 (by decide) rfl (fun c44_1 => ?_) (fun c44_1 => ?_)
    · exact hk
    · exact absurd (nI_le (by omega) (by omega)) c44_1
  | succ k ih =>
    intro i d hi hk
    unfold l_Camp_digest_33 at hk
    rw [show i + (k + 1) = i + 1 + k by omega] at hk
    refine Go.iload_3 d_Camp_digest_33 rfl ?_
    refine Go.aload_0 d_Camp_digest_34 rfl ?_
    refine Go.getfield d_Camp_digest_35 rfl f_Camp_26 (cw_at_c hs hsn hw (by omega) hA ho ho2 hT hU hW hV) (by rfl) ?_
    refine Go.getfield d_Camp_digest_38 rfl f_Camp_107 (cw_at_g hs hsn hw (by omega) hA ho ho2 hT hU hW hV) (by rfl) ?_
    refine Go.cv0r d_Camp_digest_41 rfl l_Camp_111 k_Table_rows_v (cw_at_g_1 hs hsn hw (by omega) hA ho ho2 hT hU hW hV) rfl (cw_tab_rows_g_1 hs hsn hw (by omega) hA ho ho2 hT hU hW hV) rfl rfl rfl ?_
    refine Go.icmp_ge (t := 87) d_Camp_digest_44 (by decide) rfl (fun c44_1 => ?_) (fun c44_1 => ?_)
    · exact absurd c44_1 (nI_ge (by omega) (by omega))
    · refine Go.iconst (v := 0) d_Camp_digest_47 rfl (by decide) ?_
      refine Go.istore_4 d_Camp_digest_48 rfl (by rfl) ?_
      refine l_Camp_digest_50_go (n := (6)) hs hsn hw geo hA ho ho2 hT hU hW hV (by decide) rfl (6) 0 d (by omega) ?_
      refine Go.iinc_3 d_Camp_digest_81 rfl (by rfl) (nI_inc _) ?_
      refine Go.goto (t := 33) d_Camp_digest_84 (by decide) ?_
      refine Go.fgt [some (.ref c), some (.long (l_Camp_digest_50 A K σ τ T F U G P (nI i) (6) 0 d)), none, some (.int (nI (i + 1))), none] (by repeat' (first | exact trivial | refine ⟨rfl, ?_⟩)) ?_
      exact ih (i + 1) _ (by omega) hk
theorem d_Camp_digest_120 : decode M_Camp_digest.2.1 120 = .ok (.iload 4, 2) := by decide +kernel
theorem d_Camp_digest_122 : decode M_Camp_digest.2.1 122 = .ok (.bipush 6, 2) := by decide +kernel
theorem d_Camp_digest_124 : decode M_Camp_digest.2.1 124 = .ok (.if_icmp .ge 27, 3) := by decide +kernel
theorem d_Camp_digest_127 : decode M_Camp_digest.2.1 127 = .ok (.lload_n 1, 1) := by decide +kernel
theorem d_Camp_digest_128 : decode M_Camp_digest.2.1 128 = .ok (.ldc2_w 227, 3) := by decide +kernel
theorem d_Camp_digest_131 : decode M_Camp_digest.2.1 131 = .ok (.lmul, 1) := by decide +kernel
theorem d_Camp_digest_132 : decode M_Camp_digest.2.1 132 = .ok (.aload_n 0, 1) := by decide +kernel
theorem d_Camp_digest_133 : decode M_Camp_digest.2.1 133 = .ok (.getfield 26, 3) := by decide +kernel
theorem d_Camp_digest_136 : decode M_Camp_digest.2.1 136 = .ok (.iload_n 3, 1) := by decide +kernel
theorem d_Camp_digest_137 : decode M_Camp_digest.2.1 137 = .ok (.iload 4, 2) := by decide +kernel
theorem d_Camp_digest_139 : decode M_Camp_digest.2.1 139 = .ok (.invokevirtual 146, 3) := by decide +kernel
theorem d_Camp_digest_142 : decode M_Camp_digest.2.1 142 = .ok (.i2l, 1) := by decide +kernel
theorem d_Camp_digest_143 : decode M_Camp_digest.2.1 143 = .ok (.ladd, 1) := by decide +kernel
theorem d_Camp_digest_144 : decode M_Camp_digest.2.1 144 = .ok (.lstore_n 1, 1) := by decide +kernel
theorem d_Camp_digest_145 : decode M_Camp_digest.2.1 145 = .ok (.iinc 4 1, 3) := by decide +kernel
theorem d_Camp_digest_148 : decode M_Camp_digest.2.1 148 = .ok (.goto (-28), 3) := by decide +kernel
def l_Camp_digest_120 (A : TA) (K : TK) (σ : GL) (τ : GL) (T : TM) (F : FM) (U : TM) (G : FM) (P : CP) (r : Int32) : Nat → Nat → Int64 → Int64
  | 0, _, d => d
  | k + 1, i, d => (l_Camp_digest_120 A K σ τ T F U G P r k (i + 1) ((d * 31) + (s_Glacier_crevasseFact σ r i).toInt64))
set_option maxRecDepth 100000 in
set_option maxHeartbeats 800000 in
theorem l_Camp_digest_120_go {Γ : G9} {sg : Nat → Nat} {sw : Nat} {h : AH} {c g g2 o o2 z : Nat} {n : Nat} {Q : QT} {X : XT} {A : TA} {K : TK} {σ : GL} {τ : GL} {T : TM} {F : FM} {U : TM} {G : FM} {P : CP} {r : Int32} (hs : SgOk Γ sg) (hsn : SgNe sg) (hw : SwOk Γ sw) (geo : c + 7 ≤ g ∧ c + 7 ≤ g2 ∧ (g + 12 ≤ g2 ∨ g2 + 12 ≤ g) ∧ g + 12 ≤ o ∧ g + 12 ≤ o2 ∧ g2 + 12 ≤ o ∧ g2 + 12 ≤ o2 ∧ (o + 7 ≤ o2 ∨ o2 + 7 ≤ o)) (hA : ta_sz A ≤ 2000) (ho : h o = some (.inr (3, [.ref (o + 1), .ref (o + 3)]))) (ho2 : h o2 = some (.inr (3, [.ref (o2 + 1), .ref (o2 + 3)]))) (hT : T.2 ≤ 20) (hU : U.2 ≤ 20) (hW : WFG σ) (hV : WFG τ) (hn20 : n ≤ 20) (hn : 6 = n) : ∀ (k i : Nat) (d : Int64), i + k = n → Go Γ M_Camp_digest 4 0 0 151 [some (.ref c), some (.long (l_Camp_digest_120 A K σ τ T F U G P r k i d)), none, some (.int r), some (.int (nI (i + k)))] [] (cw_ Γ sg h c g g2 o o2 A K σ τ T F U G P) z Q X → Go Γ M_Camp_digest 4 0 0 120 [some (.ref c), some (.long d), none, some (.int r), some (.int (nI i))] [] (cw_ Γ sg h c g g2 o o2 A K σ τ T F U G P) z Q X := by
  intro k
  induction k with
  | zero =>
    intro i d hi hk
    refine Go.iload_4 d_Camp_digest_120 rfl ?_
    refine Go.bipush (v := 6) d_Camp_digest_122 rfl (by decide) ?_
    refine Go.icmp_ge (t := 151) d_Camp_digest_124 (by decide) rfl (fun c124_1 => ?_) (fun c124_1 => ?_)
    · exact hk
    · exact absurd (show nI 6 ≤ nI i from nI_le (by omega) (by omega)) c124_1
  | succ k ih =>
    intro i d hi hk
    unfold l_Camp_digest_120 at hk
    rw [show i + (k + 1) = i + 1 + k by omega] at hk
    refine Go.iload_4 d_Camp_digest_120 rfl ?_
    refine Go.bipush (v := 6) d_Camp_digest_122 rfl (by decide) ?_
    refine Go.icmp_ge (t := 151) d_Camp_digest_124 (by decide) rfl (fun c124_1 => ?_) (fun c124_1 => ?_)
    · exact absurd c124_1 (show ¬ nI 6 ≤ nI i from nI_ge (by omega) (by omega))
    · refine Go.lload_1 d_Camp_digest_127 rfl ?_
      refine Go.ldc2 (v := 31) d_Camp_digest_128 rfl x_Camp_227 ?_
      refine Go.lmul d_Camp_digest_131 rfl ?_
      refine Go.aload_0 d_Camp_digest_132 rfl ?_
      refine Go.getfield d_Camp_digest_133 rfl f_Camp_26 (cw_at_c hs hsn hw (by omega) hA ho ho2 hT hU hW hV) (by rfl) ?_
      refine Go.iload_3 d_Camp_digest_136 rfl ?_
      refine Go.iload_4 d_Camp_digest_137 rfl ?_
      refine Go.cv2r d_Camp_digest_139 rfl l_Camp_146 k_Glacier_crevasseFact_v (cw_at_g hs hsn hw (by omega) hA ho ho2 hT hU hW hV) rfl (cw_c_Glacier_crevasseFact_g (x2 := i) rfl (by omega) hs hsn hw (by omega) hA ho ho2 hT hU hW hV) rfl rfl rfl ?_
      refine Go.i2l d_Camp_digest_142 rfl ?_
      refine Go.ladd d_Camp_digest_143 rfl ?_
      refine Go.lstore_1 d_Camp_digest_144 rfl (by rfl) ?_
      refine Go.iinc_4 d_Camp_digest_145 rfl (by rfl) (nI_inc _) ?_
      refine Go.goto (t := 120) d_Camp_digest_148 (by decide) ?_
      exact ih (i + 1) _ (by omega) hk
theorem d_Camp_digest_103 : decode M_Camp_digest.2.1 103 = .ok (.iload_n 3, 1) := by decide +kernel
theorem d_Camp_digest_104 : decode M_Camp_digest.2.1 104 = .ok (.aload_n 0, 1) := by decide +kernel
theorem d_Camp_digest_105 : decode M_Camp_digest.2.1 105 = .ok (.getfield 26, 3) := by decide +kernel
theorem d_Camp_digest_108 : decode M_Camp_digest.2.1 108 = .ok (.getfield 119, 3) := by decide +kernel
theorem d_Camp_digest_111 : decode M_Camp_digest.2.1 111 = .ok (.invokevirtual 111, 3) := by decide +kernel
theorem d_Camp_digest_114 : decode M_Camp_digest.2.1 114 = .ok (.if_icmp .ge 43, 3) := by decide +kernel
theorem d_Camp_digest_117 : decode M_Camp_digest.2.1 117 = .ok (.iconst 0, 1) := by decide +kernel
theorem d_Camp_digest_118 : decode M_Camp_digest.2.1 118 = .ok (.istore 4, 2) := by decide +kernel
theorem d_Camp_digest_151 : decode M_Camp_digest.2.1 151 = .ok (.iinc 3 1, 3) := by decide +kernel
theorem d_Camp_digest_154 : decode M_Camp_digest.2.1 154 = .ok (.goto (-51), 3) := by decide +kernel
def l_Camp_digest_103 (A : TA) (K : TK) (σ : GL) (τ : GL) (T : TM) (F : FM) (U : TM) (G : FM) (P : CP) : Nat → Nat → Int64 → Int64
  | 0, _, d => d
  | k + 1, i, d => (l_Camp_digest_103 A K σ τ T F U G P k (i + 1) (l_Camp_digest_120 A K σ τ T F U G P (nI i) (6) 0 d))
set_option maxRecDepth 100000 in
set_option maxHeartbeats 800000 in
theorem l_Camp_digest_103_go {Γ : G9} {sg : Nat → Nat} {sw : Nat} {h : AH} {c g g2 o o2 z : Nat} {n : Nat} {Q : QT} {X : XT} {A : TA} {K : TK} {σ : GL} {τ : GL} {T : TM} {F : FM} {U : TM} {G : FM} {P : CP} (hs : SgOk Γ sg) (hsn : SgNe sg) (hw : SwOk Γ sw) (geo : c + 7 ≤ g ∧ c + 7 ≤ g2 ∧ (g + 12 ≤ g2 ∨ g2 + 12 ≤ g) ∧ g + 12 ≤ o ∧ g + 12 ≤ o2 ∧ g2 + 12 ≤ o ∧ g2 + 12 ≤ o2 ∧ (o + 7 ≤ o2 ∨ o2 + 7 ≤ o)) (hA : ta_sz A ≤ 2000) (ho : h o = some (.inr (3, [.ref (o + 1), .ref (o + 3)]))) (ho2 : h o2 = some (.inr (3, [.ref (o2 + 1), .ref (o2 + 3)]))) (hT : T.2 ≤ 20) (hU : U.2 ≤ 20) (hW : WFG σ) (hV : WFG τ) (hn20 : n ≤ 20) (hn : gN σ 2 = n) : ∀ (k i : Nat) (d : Int64), i + k = n → Go Γ M_Camp_digest 4 0 0 157 [some (.ref c), some (.long (l_Camp_digest_103 A K σ τ T F U G P k i d)), none, some (.int (nI (i + k))), none] [] (cw_ Γ sg h c g g2 o o2 A K σ τ T F U G P) z Q X → Go Γ M_Camp_digest 4 0 0 103 [some (.ref c), some (.long d), none, some (.int (nI i)), none] [] (cw_ Γ sg h c g g2 o o2 A K σ τ T F U G P) z Q X := by
  intro k
  induction k with
  | zero =>
    intro i d hi hk
    refine Go.iload_3 d_Camp_digest_103 rfl ?_
    refine Go.aload_0 d_Camp_digest_104 rfl ?_
    refine Go.getfield d_Camp_digest_105 rfl f_Camp_26 (cw_at_c hs hsn hw (by omega) hA ho ho2 hT hU hW hV) (by rfl) ?_
    refine Go.getfield d_Camp_digest_108 rfl f_Camp_119 (cw_at_g hs hsn hw (by omega) hA ho ho2 hT hU hW hV) (by rfl) ?_
    refine Go.cv0r d_Camp_digest_111 rfl l_Camp_111 k_Table_rows_v (cw_at_g_5 hs hsn hw (by omega) hA ho ho2 hT hU hW hV) rfl (cw_tab_rows_g_5 hs hsn hw (by omega) hA ho ho2 hT hU hW hV) rfl rfl rfl ?_
    refine Go.icmp_ge (t := 157) d_Camp_digest_114 (by decide) rfl (fun c114_1 => ?_) (fun c114_1 => ?_)
    · exact hk
    · exact absurd (nI_le (by omega) (by omega)) c114_1
  | succ k ih =>
    intro i d hi hk
    unfold l_Camp_digest_103 at hk
    rw [show i + (k + 1) = i + 1 + k by omega] at hk
    refine Go.iload_3 d_Camp_digest_103 rfl ?_
    refine Go.aload_0 d_Camp_digest_104 rfl ?_
    refine Go.getfield d_Camp_digest_105 rfl f_Camp_26 (cw_at_c hs hsn hw (by omega) hA ho ho2 hT hU hW hV) (by rfl) ?_
    refine Go.getfield d_Camp_digest_108 rfl f_Camp_119 (cw_at_g hs hsn hw (by omega) hA ho ho2 hT hU hW hV) (by rfl) ?_
    refine Go.cv0r d_Camp_digest_111 rfl l_Camp_111 k_Table_rows_v (cw_at_g_5 hs hsn hw (by omega) hA ho ho2 hT hU hW hV) rfl (cw_tab_rows_g_5 hs hsn hw (by omega) hA ho ho2 hT hU hW hV) rfl rfl rfl ?_
    refine Go.icmp_ge (t := 157) d_Camp_digest_114 (by decide) rfl (fun c114_1 => ?_) (fun c114_1 => ?_)
    · exact absurd c114_1 (nI_ge (by omega) (by omega))
    · refine Go.iconst (v := 0) d_Camp_digest_117 rfl (by decide) ?_
      refine Go.istore_4 d_Camp_digest_118 rfl (by rfl) ?_
      refine l_Camp_digest_120_go (n := (6)) hs hsn hw geo hA ho ho2 hT hU hW hV (by decide) rfl (6) 0 d (by omega) ?_
      refine Go.iinc_3 d_Camp_digest_151 rfl (by rfl) (nI_inc _) ?_
      refine Go.goto (t := 103) d_Camp_digest_154 (by decide) ?_
      refine Go.fgt [some (.ref c), some (.long (l_Camp_digest_120 A K σ τ T F U G P (nI i) (6) 0 d)), none, some (.int (nI (i + 1))), none] (by repeat' (first | exact trivial | refine ⟨rfl, ?_⟩)) ?_
      exact ih (i + 1) _ (by omega) hk
theorem cw_at_g_4 {Γ : G9} {sg : Nat → Nat} {sw : Nat} {h : AH} {c g g2 o o2 : Nat} {A : TA} {K : TK} {σ : GL} {τ : GL} {T : TM} {F : FM} {U : TM} {G : FM} {P : CP} (hs : SgOk Γ sg) (hsn : SgNe sg) (hw : SwOk Γ sw) (geo : c + 7 ≤ g ∧ c + 7 ≤ g2 ∧ (g + 12 ≤ g2 ∨ g2 + 12 ≤ g) ∧ g + 12 ≤ o ∧ g + 12 ≤ o2 ∧ g2 + 12 ≤ o ∧ g2 + 12 ≤ o2 ∧ (o + 7 ≤ o2 ∨ o2 + 7 ≤ o)) (hA : ta_sz A ≤ 2000) (ho : h o = some (.inr (3, [.ref (o + 1), .ref (o + 3)]))) (ho2 : h o2 = some (.inr (3, [.ref (o2 + 1), .ref (o2 + 3)]))) (hT : T.2 ≤ 20) (hU : U.2 ≤ 20) (hW : WFG σ) (hV : WFG τ) : (cw_ Γ sg h c g g2 o o2 A K σ τ T F U G P) (g + 4) = some (aI Γ (capG 1 * 8) (σ.1 1).1) := by
  unfold cw_
  exact ((blk_out (by omega)).trans ((blk_out (by omega)).trans ((blk_out (by omega)).trans ((blk_out (by omega)).trans ((blk_out (by omega)).trans ((blk_out (by omega)).trans ((gl_cel (k := 1) (by decide)))))))))
theorem cw_at_g_8 {Γ : G9} {sg : Nat → Nat} {sw : Nat} {h : AH} {c g g2 o o2 : Nat} {A : TA} {K : TK} {σ : GL} {τ : GL} {T : TM} {F : FM} {U : TM} {G : FM} {P : CP} (hs : SgOk Γ sg) (hsn : SgNe sg) (hw : SwOk Γ sw) (geo : c + 7 ≤ g ∧ c + 7 ≤ g2 ∧ (g + 12 ≤ g2 ∨ g2 + 12 ≤ g) ∧ g + 12 ≤ o ∧ g + 12 ≤ o2 ∧ g2 + 12 ≤ o ∧ g2 + 12 ≤ o2 ∧ (o + 7 ≤ o2 ∨ o2 + 7 ≤ o)) (hA : ta_sz A ≤ 2000) (ho : h o = some (.inr (3, [.ref (o + 1), .ref (o + 3)]))) (ho2 : h o2 = some (.inr (3, [.ref (o2 + 1), .ref (o2 + 3)]))) (hT : T.2 ≤ 20) (hU : U.2 ≤ 20) (hW : WFG σ) (hV : WFG τ) : (cw_ Γ sg h c g g2 o o2 A K σ τ T F U G P) (g + 8) = some (aI Γ (capG 3 * 8) (σ.1 3).1) := by
  unfold cw_
  exact ((blk_out (by omega)).trans ((blk_out (by omega)).trans ((blk_out (by omega)).trans ((blk_out (by omega)).trans ((blk_out (by omega)).trans ((blk_out (by omega)).trans ((gl_cel (k := 3) (by decide)))))))))
theorem cw_at_g_10 {Γ : G9} {sg : Nat → Nat} {sw : Nat} {h : AH} {c g g2 o o2 : Nat} {A : TA} {K : TK} {σ : GL} {τ : GL} {T : TM} {F : FM} {U : TM} {G : FM} {P : CP} (hs : SgOk Γ sg) (hsn : SgNe sg) (hw : SwOk Γ sw) (geo : c + 7 ≤ g ∧ c + 7 ≤ g2 ∧ (g + 12 ≤ g2 ∨ g2 + 12 ≤ g) ∧ g + 12 ≤ o ∧ g + 12 ≤ o2 ∧ g2 + 12 ≤ o ∧ g2 + 12 ≤ o2 ∧ (o + 7 ≤ o2 ∨ o2 + 7 ≤ o)) (hA : ta_sz A ≤ 2000) (ho : h o = some (.inr (3, [.ref (o + 1), .ref (o + 3)]))) (ho2 : h o2 = some (.inr (3, [.ref (o2 + 1), .ref (o2 + 3)]))) (hT : T.2 ≤ 20) (hU : U.2 ≤ 20) (hW : WFG σ) (hV : WFG τ) : (cw_ Γ sg h c g g2 o o2 A K σ τ T F U G P) (g + 10) = some (aI Γ (capG 4 * 8) (σ.1 4).1) := by
  unfold cw_
  exact ((blk_out (by omega)).trans ((blk_out (by omega)).trans ((blk_out (by omega)).trans ((blk_out (by omega)).trans ((blk_out (by omega)).trans ((blk_out (by omega)).trans ((gl_cel (k := 4) (by decide)))))))))
theorem d_Camp_digest_0 : decode M_Camp_digest.2.1 0 = .ok (.ldc2_w 225, 3) := by decide +kernel
theorem d_Camp_digest_3 : decode M_Camp_digest.2.1 3 = .ok (.lstore_n 1, 1) := by decide +kernel
theorem d_Camp_digest_4 : decode M_Camp_digest.2.1 4 = .ok (.iconst 0, 1) := by decide +kernel
theorem d_Camp_digest_5 : decode M_Camp_digest.2.1 5 = .ok (.istore_n 3, 1) := by decide +kernel
theorem d_Camp_digest_31 : decode M_Camp_digest.2.1 31 = .ok (.iconst 0, 1) := by decide +kernel
theorem d_Camp_digest_32 : decode M_Camp_digest.2.1 32 = .ok (.istore_n 3, 1) := by decide +kernel
theorem d_Camp_digest_87 : decode M_Camp_digest.2.1 87 = .ok (.aload_n 0, 1) := by decide +kernel
theorem d_Camp_digest_88 : decode M_Camp_digest.2.1 88 = .ok (.getfield 26, 3) := by decide +kernel
theorem d_Camp_digest_91 : decode M_Camp_digest.2.1 91 = .ok (.getfield 116, 3) := by decide +kernel
theorem d_Camp_digest_94 : decode M_Camp_digest.2.1 94 = .ok (.bipush 6, 2) := by decide +kernel
theorem d_Camp_digest_96 : decode M_Camp_digest.2.1 96 = .ok (.lload_n 1, 1) := by decide +kernel
theorem d_Camp_digest_97 : decode M_Camp_digest.2.1 97 = .ok (.invokestatic 229, 3) := by decide +kernel
theorem d_Camp_digest_100 : decode M_Camp_digest.2.1 100 = .ok (.lstore_n 1, 1) := by decide +kernel
theorem d_Camp_digest_101 : decode M_Camp_digest.2.1 101 = .ok (.iconst 0, 1) := by decide +kernel
theorem d_Camp_digest_102 : decode M_Camp_digest.2.1 102 = .ok (.istore_n 3, 1) := by decide +kernel
theorem d_Camp_digest_157 : decode M_Camp_digest.2.1 157 = .ok (.aload_n 0, 1) := by decide +kernel
theorem d_Camp_digest_158 : decode M_Camp_digest.2.1 158 = .ok (.getfield 26, 3) := by decide +kernel
theorem d_Camp_digest_161 : decode M_Camp_digest.2.1 161 = .ok (.getfield 122, 3) := by decide +kernel
theorem d_Camp_digest_164 : decode M_Camp_digest.2.1 164 = .ok (.iconst 2, 1) := by decide +kernel
theorem d_Camp_digest_165 : decode M_Camp_digest.2.1 165 = .ok (.lload_n 1, 1) := by decide +kernel
theorem d_Camp_digest_166 : decode M_Camp_digest.2.1 166 = .ok (.invokestatic 229, 3) := by decide +kernel
theorem d_Camp_digest_169 : decode M_Camp_digest.2.1 169 = .ok (.lstore_n 1, 1) := by decide +kernel
theorem d_Camp_digest_170 : decode M_Camp_digest.2.1 170 = .ok (.aload_n 0, 1) := by decide +kernel
theorem d_Camp_digest_171 : decode M_Camp_digest.2.1 171 = .ok (.getfield 26, 3) := by decide +kernel
theorem d_Camp_digest_174 : decode M_Camp_digest.2.1 174 = .ok (.getfield 125, 3) := by decide +kernel
theorem d_Camp_digest_177 : decode M_Camp_digest.2.1 177 = .ok (.bipush 8, 2) := by decide +kernel
theorem d_Camp_digest_179 : decode M_Camp_digest.2.1 179 = .ok (.lload_n 1, 1) := by decide +kernel
theorem d_Camp_digest_180 : decode M_Camp_digest.2.1 180 = .ok (.invokestatic 229, 3) := by decide +kernel
theorem d_Camp_digest_183 : decode M_Camp_digest.2.1 183 = .ok (.lreturn, 1) := by decide +kernel
def s_Camp_digest (A : TA) (K : TK) (σ : GL) (τ : GL) (T : TM) (F : FM) (U : TM) (G : FM) (P : CP) : Int64 := (s_Camp_digestOf (σ.1 4) 8 (s_Camp_digestOf (σ.1 3) 2 (l_Camp_digest_103 A K σ τ T F U G P (gN σ 2) 0 (s_Camp_digestOf (σ.1 1) 6 (l_Camp_digest_33 A K σ τ T F U G P (gN σ 0) 0 (l_Camp_digest_6 A K σ τ T F U G P (15) 0 907))))))
set_option maxRecDepth 100000 in
set_option maxHeartbeats 800000 in
theorem c_Camp_digest {Γ : G9} {sg : Nat → Nat} {sw : Nat} {h : AH} {c g g2 o o2 z : Nat} {A : TA} {K : TK} {σ : GL} {τ : GL} {T : TM} {F : FM} {U : TM} {G : FM} {P : CP} (hs : SgOk Γ sg) (hsn : SgNe sg) (hw : SwOk Γ sw) (geo : c + 7 ≤ g ∧ c + 7 ≤ g2 ∧ (g + 12 ≤ g2 ∨ g2 + 12 ≤ g) ∧ g + 12 ≤ o ∧ g + 12 ≤ o2 ∧ g2 + 12 ≤ o ∧ g2 + 12 ≤ o2 ∧ (o + 7 ≤ o2 ∨ o2 + 7 ≤ o)) (hA : ta_sz A ≤ 2000) (ho : h o = some (.inr (3, [.ref (o + 1), .ref (o + 3)]))) (ho2 : h o2 = some (.inr (3, [.ref (o2 + 1), .ref (o2 + 3)]))) (hT : T.2 ≤ 20) (hU : U.2 ≤ 20) (hW : WFG σ) (hV : WFG τ) : CallR Γ M_Camp_digest 4 [.ref c] (cw_ Γ sg h c g g2 o o2 A K σ τ T F U G P) z (some (.long (s_Camp_digest A K σ τ T F U G P))) (cw_ Γ sg h c g g2 o o2 A K σ τ T F U G P) := by
  refine Call.of_go (L := [some (.ref c), none, none, none, none]) (by decide +kernel) rfl (by exact Nat.le_of_ble_eq_true rfl) ?_
  unfold s_Camp_digest
  refine Go.ldc2 (v := 907) d_Camp_digest_0 rfl x_Camp_225 ?_
  refine Go.lstore_1 d_Camp_digest_3 rfl (by rfl) ?_
  refine Go.iconst (v := 0) d_Camp_digest_4 rfl (by decide) ?_
  refine Go.istore_3 d_Camp_digest_5 rfl (by rfl) ?_
  refine l_Camp_digest_6_go (n := (15)) hs hsn hw geo hA ho ho2 hT hU hW hV (by decide) rfl (15) 0 907 (by omega) ?_
  refine Go.iconst (v := 0) d_Camp_digest_31 rfl (by decide) ?_
  refine Go.istore_3 d_Camp_digest_32 rfl (by rfl) ?_
  refine l_Camp_digest_33_go (n := (gN σ 0)) hs hsn hw geo hA ho ho2 hT hU hW hV (by have := WFG.le (σ := σ) hW (k := 0) (by decide); omega) rfl (gN σ 0) 0 (l_Camp_digest_6 A K σ τ T F U G P (15) 0 907) (by omega) ?_
  refine Go.aload_0 d_Camp_digest_87 rfl ?_
  refine Go.getfield d_Camp_digest_88 rfl f_Camp_26 (cw_at_c hs hsn hw (by omega) hA ho ho2 hT hU hW hV) (by rfl) ?_
  refine Go.getfield d_Camp_digest_91 rfl f_Camp_116 (cw_at_g hs hsn hw (by omega) hA ho ho2 hT hU hW hV) (by rfl) ?_
  refine Go.bipush (v := 6) d_Camp_digest_94 rfl (by decide) ?_
  refine Go.lload_1 d_Camp_digest_96 rfl ?_
  refine Go.cs3r d_Camp_digest_97 rfl l_Camp_229 k_Camp_digestOf_s rfl (c_Camp_digestOf (x1 := 6) rfl (by decide) (cw_at_g_3 hs hsn hw (by omega) hA ho ho2 hT hU hW hV) (cw_at_g_4 hs hsn hw (by omega) hA ho ho2 hT hU hW hV) (hW 1 (by decide)) (by decide)) rfl rfl rfl ?_
  refine Go.lstore_1 d_Camp_digest_100 rfl (by rfl) ?_
  refine Go.iconst (v := 0) d_Camp_digest_101 rfl (by decide) ?_
  refine Go.istore_3 d_Camp_digest_102 rfl (by rfl) ?_
  refine l_Camp_digest_103_go (n := (gN σ 2)) hs hsn hw geo hA ho ho2 hT hU hW hV (by have := WFG.le (σ := σ) hW (k := 2) (by decide); omega) rfl (gN σ 2) 0 (s_Camp_digestOf (σ.1 1) 6 (l_Camp_digest_33 A K σ τ T F U G P (gN σ 0) 0 (l_Camp_digest_6 A K σ τ T F U G P (15) 0 907))) (by omega) ?_
  refine Go.aload_0 d_Camp_digest_157 rfl ?_
  refine Go.getfield d_Camp_digest_158 rfl f_Camp_26 (cw_at_c hs hsn hw (by omega) hA ho ho2 hT hU hW hV) (by rfl) ?_
  refine Go.getfield d_Camp_digest_161 rfl f_Camp_122 (cw_at_g hs hsn hw (by omega) hA ho ho2 hT hU hW hV) (by rfl) ?_
  refine Go.iconst (v := 2) d_Camp_digest_164 rfl (by decide) ?_
  refine Go.lload_1 d_Camp_digest_165 rfl ?_
  refine Go.cs3r d_Camp_digest_166 rfl l_Camp_229 k_Camp_digestOf_s rfl (c_Camp_digestOf (x1 := 2) rfl (by decide) (cw_at_g_7 hs hsn hw (by omega) hA ho ho2 hT hU hW hV) (cw_at_g_8 hs hsn hw (by omega) hA ho ho2 hT hU hW hV) (hW 3 (by decide)) (by decide)) rfl rfl rfl ?_
  refine Go.lstore_1 d_Camp_digest_169 rfl (by rfl) ?_
  refine Go.aload_0 d_Camp_digest_170 rfl ?_
  refine Go.getfield d_Camp_digest_171 rfl f_Camp_26 (cw_at_c hs hsn hw (by omega) hA ho ho2 hT hU hW hV) (by rfl) ?_
  refine Go.getfield d_Camp_digest_174 rfl f_Camp_125 (cw_at_g hs hsn hw (by omega) hA ho ho2 hT hU hW hV) (by rfl) ?_
  refine Go.bipush (v := 8) d_Camp_digest_177 rfl (by decide) ?_
  refine Go.lload_1 d_Camp_digest_179 rfl ?_
  refine Go.cs3r d_Camp_digest_180 rfl l_Camp_229 k_Camp_digestOf_s rfl (c_Camp_digestOf (x1 := 8) rfl (by decide) (cw_at_g_9 hs hsn hw (by omega) hA ho ho2 hT hU hW hV) (cw_at_g_10 hs hsn hw (by omega) hA ho ho2 hT hU hW hV) (hW 4 (by decide)) (by decide)) rfl rfl rfl ?_
  exact Go.lret d_Camp_digest_183 rfl ⟨rfl, by dsimp only, rfl⟩
