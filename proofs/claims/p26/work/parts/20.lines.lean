/-! Teacher: lines and lists -/
theorem note_le {T : TM} {F : FM} {c : Nat} {v : Int32} (h : T.2 ≤ 20) : (s_Orders_note T F c v).2 ≤ 20 := by
  unfold s_Orders_note
  rw [tsI_rows]
  exact h
theorem add_le {T : TM} {F : FM} {v : Int32} (h : T.2 ≤ 20) : (s_Orders_add T F v).2.2 ≤ 20 := by
  unfold s_Orders_add
  split
  · show (tsI _ _ _ _).2 ≤ 20
    rw [tsI_rows]
    exact tadd_le h
  · show (tsI _ _ _ _).2 ≤ 20
    rw [tsI_rows]
    exact tadd_le h
theorem newOrder_le {T : TM} {F : FM} {K : TK} {E : TE} {v : Int32} (h : T.2 ≤ 20) : (s_Teacher_newOrder T F K E v).1.2 ≤ 20 := by
  unfold s_Teacher_newOrder
  split <;> exact add_le h
theorem d_Teacher_readBand_0 : decode M_Teacher_readBand.2.1 0 = .ok (.aload_n 0, 1) := by decide +kernel
theorem d_Teacher_readBand_1 : decode M_Teacher_readBand.2.1 1 = .ok (.getfield 38, 3) := by decide +kernel
theorem d_Teacher_readBand_4 : decode M_Teacher_readBand.2.1 4 = .ok (.getfield 128, 3) := by decide +kernel
theorem d_Teacher_readBand_7 : decode M_Teacher_readBand.2.1 7 = .ok (.invokevirtual 133, 3) := by decide +kernel
theorem d_Teacher_readBand_10 : decode M_Teacher_readBand.2.1 10 = .ok (.iconst 1, 1) := by decide +kernel
theorem d_Teacher_readBand_11 : decode M_Teacher_readBand.2.1 11 = .ok (.isub, 1) := by decide +kernel
theorem d_Teacher_readBand_12 : decode M_Teacher_readBand.2.1 12 = .ok (.istore_n 1, 1) := by decide +kernel
theorem d_Teacher_readBand_13 : decode M_Teacher_readBand.2.1 13 = .ok (.iload_n 1, 1) := by decide +kernel
theorem d_Teacher_readBand_14 : decode M_Teacher_readBand.2.1 14 = .ok (.ifCond .ge 7, 3) := by decide +kernel
theorem d_Teacher_readBand_17 : decode M_Teacher_readBand.2.1 17 = .ok (.iconst 0, 1) := by decide +kernel
theorem d_Teacher_readBand_18 : decode M_Teacher_readBand.2.1 18 = .ok (.goto 17, 3) := by decide +kernel
theorem d_Teacher_readBand_21 : decode M_Teacher_readBand.2.1 21 = .ok (.aload_n 0, 1) := by decide +kernel
theorem d_Teacher_readBand_22 : decode M_Teacher_readBand.2.1 22 = .ok (.getfield 38, 3) := by decide +kernel
theorem d_Teacher_readBand_25 : decode M_Teacher_readBand.2.1 25 = .ok (.getfield 128, 3) := by decide +kernel
theorem d_Teacher_readBand_28 : decode M_Teacher_readBand.2.1 28 = .ok (.iload_n 1, 1) := by decide +kernel
theorem d_Teacher_readBand_29 : decode M_Teacher_readBand.2.1 29 = .ok (.iconst 0, 1) := by decide +kernel
theorem d_Teacher_readBand_30 : decode M_Teacher_readBand.2.1 30 = .ok (.invokevirtual 138, 3) := by decide +kernel
theorem d_Teacher_readBand_33 : decode M_Teacher_readBand.2.1 33 = .ok (.iconst 1, 1) := by decide +kernel
theorem d_Teacher_readBand_34 : decode M_Teacher_readBand.2.1 34 = .ok (.iadd, 1) := by decide +kernel
theorem d_Teacher_readBand_35 : decode M_Teacher_readBand.2.1 35 = .ok (.istore_n 2, 1) := by decide +kernel
theorem d_Teacher_readBand_36 : decode M_Teacher_readBand.2.1 36 = .ok (.aload_n 0, 1) := by decide +kernel
theorem d_Teacher_readBand_37 : decode M_Teacher_readBand.2.1 37 = .ok (.aload_n 0, 1) := by decide +kernel
theorem d_Teacher_readBand_38 : decode M_Teacher_readBand.2.1 38 = .ok (.getfield 12, 3) := by decide +kernel
theorem d_Teacher_readBand_41 : decode M_Teacher_readBand.2.1 41 = .ok (.iconst 5, 1) := by decide +kernel
theorem d_Teacher_readBand_42 : decode M_Teacher_readBand.2.1 42 = .ok (.invokevirtual 142, 3) := by decide +kernel
theorem d_Teacher_readBand_45 : decode M_Teacher_readBand.2.1 45 = .ok (.aload_n 0, 1) := by decide +kernel
theorem d_Teacher_readBand_46 : decode M_Teacher_readBand.2.1 46 = .ok (.getstatic 146, 3) := by decide +kernel
theorem d_Teacher_readBand_49 : decode M_Teacher_readBand.2.1 49 = .ok (.iload_n 2, 1) := by decide +kernel
theorem d_Teacher_readBand_50 : decode M_Teacher_readBand.2.1 50 = .ok (.bipush 20, 2) := by decide +kernel
theorem d_Teacher_readBand_52 : decode M_Teacher_readBand.2.1 52 = .ok (.invokevirtual 149, 3) := by decide +kernel
theorem d_Teacher_readBand_55 : decode M_Teacher_readBand.2.1 55 = .ok (.istore_n 3, 1) := by decide +kernel
theorem d_Teacher_readBand_56 : decode M_Teacher_readBand.2.1 56 = .ok (.aload_n 0, 1) := by decide +kernel
theorem d_Teacher_readBand_57 : decode M_Teacher_readBand.2.1 57 = .ok (.getfield 38, 3) := by decide +kernel
theorem d_Teacher_readBand_60 : decode M_Teacher_readBand.2.1 60 = .ok (.iload_n 3, 1) := by decide +kernel
theorem d_Teacher_readBand_61 : decode M_Teacher_readBand.2.1 61 = .ok (.aload_n 0, 1) := by decide +kernel
theorem d_Teacher_readBand_62 : decode M_Teacher_readBand.2.1 62 = .ok (.getstatic 153, 3) := by decide +kernel
theorem d_Teacher_readBand_65 : decode M_Teacher_readBand.2.1 65 = .ok (.iconst 0, 1) := by decide +kernel
theorem d_Teacher_readBand_66 : decode M_Teacher_readBand.2.1 66 = .ok (.sipush 300, 3) := by decide +kernel
theorem d_Teacher_readBand_69 : decode M_Teacher_readBand.2.1 69 = .ok (.invokevirtual 149, 3) := by decide +kernel
theorem d_Teacher_readBand_72 : decode M_Teacher_readBand.2.1 72 = .ok (.invokevirtual 156, 3) := by decide +kernel
theorem d_Teacher_readBand_75 : decode M_Teacher_readBand.2.1 75 = .ok (.return_, 1) := by decide +kernel
def s_Teacher_readBand (K : TK) (F : FM) (E : TE) (N0 : NM) (N1 : NM) (N2 : NM) (N3 : NM) (N4 : NM) (T : TM) (σ : GL) : TK × TE × NM × GL := (if 0 ≤ ((nI (gN σ 0)) - 1) then ((s_Teacher_number (s_Teacher_number (s_Teacher_newName K E N0 5).1 (s_Teacher_newName K E N0 5).2.1 (1 : Fin 54) ((gG σ 0 ((nI (gN σ 0)) - 1) 0) + 1) 20).2.1 (s_Teacher_number (s_Teacher_newName K E N0 5).1 (s_Teacher_newName K E N0 5).2.1 (1 : Fin 54) ((gG σ 0 ((nI (gN σ 0)) - 1) 0) + 1) 20).2.2 (2 : Fin 54) 0 300).2.1, (s_Teacher_number (s_Teacher_number (s_Teacher_newName K E N0 5).1 (s_Teacher_newName K E N0 5).2.1 (1 : Fin 54) ((gG σ 0 ((nI (gN σ 0)) - 1) 0) + 1) 20).2.1 (s_Teacher_number (s_Teacher_newName K E N0 5).1 (s_Teacher_newName K E N0 5).2.1 (1 : Fin 54) ((gG σ 0 ((nI (gN σ 0)) - 1) 0) + 1) 20).2.2 (2 : Fin 54) 0 300).2.2, (s_Teacher_newName K E N0 5).2.2, (s_Glacier_addBand σ (s_Teacher_number (s_Teacher_newName K E N0 5).1 (s_Teacher_newName K E N0 5).2.1 (1 : Fin 54) ((gG σ 0 ((nI (gN σ 0)) - 1) 0) + 1) 20).1 (s_Teacher_number (s_Teacher_number (s_Teacher_newName K E N0 5).1 (s_Teacher_newName K E N0 5).2.1 (1 : Fin 54) ((gG σ 0 ((nI (gN σ 0)) - 1) 0) + 1) 20).2.1 (s_Teacher_number (s_Teacher_newName K E N0 5).1 (s_Teacher_newName K E N0 5).2.1 (1 : Fin 54) ((gG σ 0 ((nI (gN σ 0)) - 1) 0) + 1) 20).2.2 (2 : Fin 54) 0 300).1)) else ((s_Teacher_number (s_Teacher_number (s_Teacher_newName K E N0 5).1 (s_Teacher_newName K E N0 5).2.1 (1 : Fin 54) 0 20).2.1 (s_Teacher_number (s_Teacher_newName K E N0 5).1 (s_Teacher_newName K E N0 5).2.1 (1 : Fin 54) 0 20).2.2 (2 : Fin 54) 0 300).2.1, (s_Teacher_number (s_Teacher_number (s_Teacher_newName K E N0 5).1 (s_Teacher_newName K E N0 5).2.1 (1 : Fin 54) 0 20).2.1 (s_Teacher_number (s_Teacher_newName K E N0 5).1 (s_Teacher_newName K E N0 5).2.1 (1 : Fin 54) 0 20).2.2 (2 : Fin 54) 0 300).2.2, (s_Teacher_newName K E N0 5).2.2, (s_Glacier_addBand σ (s_Teacher_number (s_Teacher_newName K E N0 5).1 (s_Teacher_newName K E N0 5).2.1 (1 : Fin 54) 0 20).1 (s_Teacher_number (s_Teacher_number (s_Teacher_newName K E N0 5).1 (s_Teacher_newName K E N0 5).2.1 (1 : Fin 54) 0 20).2.1 (s_Teacher_number (s_Teacher_newName K E N0 5).1 (s_Teacher_newName K E N0 5).2.1 (1 : Fin 54) 0 20).2.2 (2 : Fin 54) 0 300).1)))
set_option maxRecDepth 100000 in
set_option maxHeartbeats 800000 in
theorem c_Teacher_readBand {Γ : G9} {sg : Nat → Nat} {sw : Nat} {h : AH} {y g o u z : Nat} {K : TK} {F : FM} {E : TE} {N0 : NM} {N1 : NM} {N2 : NM} {N3 : NM} {N4 : NM} {T : TM} {σ : GL} (hs : SgOk Γ sg) (hsn : SgNe sg) (hw : SwOk Γ sw) (geo : y + 4 ≤ g ∧ g + 12 ≤ o ∧ o + 7 ≤ u) (hN0 : nm_sz N0 ≤ 6) (hN1 : nm_sz N1 ≤ 6) (hN2 : nm_sz N2 ≤ 6) (hN3 : nm_sz N3 ≤ 6) (hN4 : nm_sz N4 ≤ 6) (ho : h o = some (.inr (3, [.ref (o + 1), .ref (o + 3)]))) (hT : T.2 ≤ 20) (hW : WFG σ) : CallR Γ M_Teacher_readBand 3 [.ref u] (rw_ Γ sg (blk (blk h g 12 (glC Γ g σ)) (o + 1) 2 (tbC Γ 20 (o + 1) T)) y g o u K F E N0 N1 N2 N3 N4) z none (rw_ Γ sg (blk (blk h g 12 (glC Γ g (s_Teacher_readBand K F E N0 N1 N2 N3 N4 T σ).2.2.2)) (o + 1) 2 (tbC Γ 20 (o + 1) T)) y g o u (s_Teacher_readBand K F E N0 N1 N2 N3 N4 T σ).1 F (s_Teacher_readBand K F E N0 N1 N2 N3 N4 T σ).2.1 (s_Teacher_readBand K F E N0 N1 N2 N3 N4 T σ).2.2.1 N1 N2 N3 N4) := by
  refine Call.of_go (L := [some (.ref u), none, none, none]) (by decide +kernel) rfl (by exact Nat.le_of_ble_eq_true rfl) ?_
  unfold s_Teacher_readBand
  refine Go.aload_0 d_Teacher_readBand_0 rfl ?_
  refine Go.getfield d_Teacher_readBand_1 rfl f_Teacher_38 (rw_u (by omega)) (by rfl) ?_
  refine Go.getfield d_Teacher_readBand_4 rfl f_Teacher_128 (rw_g geo) (by rfl) ?_
  refine Go.cv0r d_Teacher_readBand_7 rfl l_Teacher_133 k_Table_rows_v (rw_b geo) rfl (w2_Table_rows hs hsn (by omega) hN0 hN1 hN2 hN3 hN4 ho hT hW) (Nat.ble_eq_true_of_le (by omega)) rfl rfl ?_
  refine Go.iconst (v := 1) d_Teacher_readBand_10 rfl (by decide) ?_
  refine Go.isub d_Teacher_readBand_11 rfl ?_
  refine Go.istore_1 d_Teacher_readBand_12 rfl (by rfl) ?_
  refine Go.iload_1 d_Teacher_readBand_13 rfl ?_
  refine Go.if_ge (t := 21) d_Teacher_readBand_14 (by decide) rfl (fun c14_1 => ?_) (fun c14_1 => ?_)
  · refine Go.aload_0 d_Teacher_readBand_21 rfl ?_
    refine Go.getfield d_Teacher_readBand_22 rfl f_Teacher_38 (rw_u (by omega)) (by rfl) ?_
    refine Go.getfield d_Teacher_readBand_25 rfl f_Teacher_128 (rw_g geo) (by rfl) ?_
    refine Go.iload_1 d_Teacher_readBand_28 rfl ?_
    refine Go.iconst (v := 0) d_Teacher_readBand_29 rfl (by decide) ?_
    refine Go.cv2r d_Teacher_readBand_30 rfl l_Teacher_138 k_Table_get_v (rw_b geo) rfl (w2_Table_get (c := 0) hs hsn (by omega) hN0 hN1 hN2 hN3 hN4 ho hT hW (by omega)) (Nat.ble_eq_true_of_le (by omega)) rfl rfl ?_
    refine Go.iconst (v := 1) d_Teacher_readBand_33 rfl (by decide) ?_
    refine Go.iadd d_Teacher_readBand_34 rfl ?_
    refine Go.istore_2 d_Teacher_readBand_35 rfl (by rfl) ?_
    refine Go.aload_0 d_Teacher_readBand_36 rfl ?_
    refine Go.aload_0 d_Teacher_readBand_37 rfl ?_
    refine Go.getfield d_Teacher_readBand_38 rfl f_Teacher_12 (rw_u (by omega)) (by rfl) ?_
    refine Go.iconst (v := 5) d_Teacher_readBand_41 rfl (by decide) ?_
    refine Go.cv2v d_Teacher_readBand_42 rfl l_Teacher_142 k_Teacher_newName_v (rw_u (by omega)) rfl (w1_Teacher_newName_0 hs hsn (by omega) hN0 hN1 hN2 hN3 hN4) (Nat.ble_eq_true_of_le (by omega)) rfl rfl ?_
    refine Go.aload_0 d_Teacher_readBand_45 rfl ?_
    refine Go.gets d_Teacher_readBand_46 rfl x_Teacher_146 (hs.z (i := 1) rfl) ?_
    refine Go.iload_2 d_Teacher_readBand_49 rfl ?_
    refine Go.bipush (v := 20) d_Teacher_readBand_50 rfl (by decide) ?_
    refine Go.cv3r d_Teacher_readBand_52 rfl l_Teacher_149 k_Teacher_number_v (rw_u (by omega)) rfl (w1_Teacher_number (x1 := (1 : Fin 54)) hs hsn (by omega) (newName_le hN0) hN1 hN2 hN3 hN4) (Nat.ble_eq_true_of_le (by omega)) rfl rfl ?_
    refine Go.istore_3 d_Teacher_readBand_55 rfl (by rfl) ?_
    refine Go.aload_0 d_Teacher_readBand_56 rfl ?_
    refine Go.getfield d_Teacher_readBand_57 rfl f_Teacher_38 (rw_u (by omega)) (by rfl) ?_
    refine Go.iload_3 d_Teacher_readBand_60 rfl ?_
    refine Go.aload_0 d_Teacher_readBand_61 rfl ?_
    refine Go.gets d_Teacher_readBand_62 rfl x_Teacher_153 (hs.z (i := 2) rfl) ?_
    refine Go.iconst (v := 0) d_Teacher_readBand_65 rfl (by decide) ?_
    refine Go.sipush (v := 300) d_Teacher_readBand_66 rfl (by decide) ?_
    refine Go.cv3r d_Teacher_readBand_69 rfl l_Teacher_149 k_Teacher_number_v (rw_u (by omega)) rfl (w1_Teacher_number (x1 := (2 : Fin 54)) hs hsn (by omega) (newName_le hN0) hN1 hN2 hN3 hN4) (Nat.ble_eq_true_of_le (by omega)) rfl rfl ?_
    refine Go.cv2v d_Teacher_readBand_72 rfl l_Teacher_156 k_Glacier_addBand_v (rw_g geo) rfl (w2_Glacier_addBand hs hsn (by omega) (newName_le hN0) hN1 hN2 hN3 hN4 ho hT hW) (Nat.ble_eq_true_of_le (by omega)) rfl rfl ?_
    rw [if_pos c14_1]
    exact Go.vret d_Teacher_readBand_75 rfl ⟨rfl, by dsimp only; done, rfl⟩
  · refine Go.iconst (v := 0) d_Teacher_readBand_17 rfl (by decide) ?_
    refine Go.goto (t := 35) d_Teacher_readBand_18 (by decide) ?_
    refine Go.istore_2 d_Teacher_readBand_35 rfl (by rfl) ?_
    refine Go.aload_0 d_Teacher_readBand_36 rfl ?_
    refine Go.aload_0 d_Teacher_readBand_37 rfl ?_
    refine Go.getfield d_Teacher_readBand_38 rfl f_Teacher_12 (rw_u (by omega)) (by rfl) ?_
    refine Go.iconst (v := 5) d_Teacher_readBand_41 rfl (by decide) ?_
    refine Go.cv2v d_Teacher_readBand_42 rfl l_Teacher_142 k_Teacher_newName_v (rw_u (by omega)) rfl (w1_Teacher_newName_0 hs hsn (by omega) hN0 hN1 hN2 hN3 hN4) (Nat.ble_eq_true_of_le (by omega)) rfl rfl ?_
    refine Go.aload_0 d_Teacher_readBand_45 rfl ?_
    refine Go.gets d_Teacher_readBand_46 rfl x_Teacher_146 (hs.z (i := 1) rfl) ?_
    refine Go.iload_2 d_Teacher_readBand_49 rfl ?_
    refine Go.bipush (v := 20) d_Teacher_readBand_50 rfl (by decide) ?_
    refine Go.cv3r d_Teacher_readBand_52 rfl l_Teacher_149 k_Teacher_number_v (rw_u (by omega)) rfl (w1_Teacher_number (x1 := (1 : Fin 54)) hs hsn (by omega) (newName_le hN0) hN1 hN2 hN3 hN4) (Nat.ble_eq_true_of_le (by omega)) rfl rfl ?_
    refine Go.istore_3 d_Teacher_readBand_55 rfl (by rfl) ?_
    refine Go.aload_0 d_Teacher_readBand_56 rfl ?_
    refine Go.getfield d_Teacher_readBand_57 rfl f_Teacher_38 (rw_u (by omega)) (by rfl) ?_
    refine Go.iload_3 d_Teacher_readBand_60 rfl ?_
    refine Go.aload_0 d_Teacher_readBand_61 rfl ?_
    refine Go.gets d_Teacher_readBand_62 rfl x_Teacher_153 (hs.z (i := 2) rfl) ?_
    refine Go.iconst (v := 0) d_Teacher_readBand_65 rfl (by decide) ?_
    refine Go.sipush (v := 300) d_Teacher_readBand_66 rfl (by decide) ?_
    refine Go.cv3r d_Teacher_readBand_69 rfl l_Teacher_149 k_Teacher_number_v (rw_u (by omega)) rfl (w1_Teacher_number (x1 := (2 : Fin 54)) hs hsn (by omega) (newName_le hN0) hN1 hN2 hN3 hN4) (Nat.ble_eq_true_of_le (by omega)) rfl rfl ?_
    refine Go.cv2v d_Teacher_readBand_72 rfl l_Teacher_156 k_Glacier_addBand_v (rw_g geo) rfl (w2_Glacier_addBand hs hsn (by omega) (newName_le hN0) hN1 hN2 hN3 hN4 ho hT hW) (Nat.ble_eq_true_of_le (by omega)) rfl rfl ?_
    rw [if_neg c14_1]
    exact Go.vret d_Teacher_readBand_75 rfl ⟨rfl, by dsimp only; done, rfl⟩
set_option maxHeartbeats 400000 in
theorem wfN0_Teacher_readBand {K : TK} {F : FM} {E : TE} {N0 : NM} {N1 : NM} {N2 : NM} {N3 : NM} {N4 : NM} {T : TM} {σ : GL} (h : nm_sz N0 ≤ 6) : nm_sz (s_Teacher_readBand K F E N0 N1 N2 N3 N4 T σ).2.2.1 ≤ 6 := by
  unfold s_Teacher_readBand
  (repeat' split) <;> (try dsimp only) <;> exact newName_le h
set_option maxHeartbeats 400000 in
theorem wfσ_Teacher_readBand {K : TK} {F : FM} {E : TE} {N0 : NM} {N1 : NM} {N2 : NM} {N3 : NM} {N4 : NM} {T : TM} {σ : GL} (h : WFG σ) : WFG (s_Teacher_readBand K F E N0 N1 N2 N3 N4 T σ).2.2.2 := by
  unfold s_Teacher_readBand
  (repeat' split) <;> (try dsimp only) <;> exact wf_Glacier_addBand h
theorem d_Teacher_readStake_0 : decode M_Teacher_readStake.2.1 0 = .ok (.aload_n 0, 1) := by decide +kernel
theorem d_Teacher_readStake_1 : decode M_Teacher_readStake.2.1 1 = .ok (.aload_n 0, 1) := by decide +kernel
theorem d_Teacher_readStake_2 : decode M_Teacher_readStake.2.1 2 = .ok (.getfield 18, 3) := by decide +kernel
theorem d_Teacher_readStake_5 : decode M_Teacher_readStake.2.1 5 = .ok (.bipush 6, 2) := by decide +kernel
theorem d_Teacher_readStake_7 : decode M_Teacher_readStake.2.1 7 = .ok (.invokevirtual 142, 3) := by decide +kernel
theorem d_Teacher_readStake_10 : decode M_Teacher_readStake.2.1 10 = .ok (.aload_n 0, 1) := by decide +kernel
theorem d_Teacher_readStake_11 : decode M_Teacher_readStake.2.1 11 = .ok (.getstatic 160, 3) := by decide +kernel
theorem d_Teacher_readStake_14 : decode M_Teacher_readStake.2.1 14 = .ok (.aload_n 0, 1) := by decide +kernel
theorem d_Teacher_readStake_15 : decode M_Teacher_readStake.2.1 15 = .ok (.getfield 12, 3) := by decide +kernel
theorem d_Teacher_readStake_18 : decode M_Teacher_readStake.2.1 18 = .ok (.invokevirtual 163, 3) := by decide +kernel
theorem d_Teacher_readStake_21 : decode M_Teacher_readStake.2.1 21 = .ok (.istore_n 1, 1) := by decide +kernel
theorem d_Teacher_readStake_22 : decode M_Teacher_readStake.2.1 22 = .ok (.aload_n 0, 1) := by decide +kernel
theorem d_Teacher_readStake_23 : decode M_Teacher_readStake.2.1 23 = .ok (.getfield 38, 3) := by decide +kernel
theorem d_Teacher_readStake_26 : decode M_Teacher_readStake.2.1 26 = .ok (.iload_n 1, 1) := by decide +kernel
theorem d_Teacher_readStake_27 : decode M_Teacher_readStake.2.1 27 = .ok (.aload_n 0, 1) := by decide +kernel
theorem d_Teacher_readStake_28 : decode M_Teacher_readStake.2.1 28 = .ok (.getstatic 167, 3) := by decide +kernel
theorem d_Teacher_readStake_31 : decode M_Teacher_readStake.2.1 31 = .ok (.iconst 1, 1) := by decide +kernel
theorem d_Teacher_readStake_32 : decode M_Teacher_readStake.2.1 32 = .ok (.sipush 200, 3) := by decide +kernel
theorem d_Teacher_readStake_35 : decode M_Teacher_readStake.2.1 35 = .ok (.invokevirtual 149, 3) := by decide +kernel
theorem d_Teacher_readStake_38 : decode M_Teacher_readStake.2.1 38 = .ok (.invokevirtual 170, 3) := by decide +kernel
theorem d_Teacher_readStake_41 : decode M_Teacher_readStake.2.1 41 = .ok (.return_, 1) := by decide +kernel
def s_Teacher_readStake (K : TK) (F : FM) (E : TE) (N0 : NM) (N1 : NM) (N2 : NM) (N3 : NM) (N4 : NM) (T : TM) (σ : GL) : TK × TE × NM × GL := ((s_Teacher_number (s_Teacher_oldName (s_Teacher_newName K E N1 6).1 (s_Teacher_newName K E N1 6).2.1 N0 (4 : Fin 54)).2.1 (s_Teacher_oldName (s_Teacher_newName K E N1 6).1 (s_Teacher_newName K E N1 6).2.1 N0 (4 : Fin 54)).2.2 (5 : Fin 54) 1 200).2.1, (s_Teacher_number (s_Teacher_oldName (s_Teacher_newName K E N1 6).1 (s_Teacher_newName K E N1 6).2.1 N0 (4 : Fin 54)).2.1 (s_Teacher_oldName (s_Teacher_newName K E N1 6).1 (s_Teacher_newName K E N1 6).2.1 N0 (4 : Fin 54)).2.2 (5 : Fin 54) 1 200).2.2, (s_Teacher_newName K E N1 6).2.2, (s_Glacier_addStake σ (s_Teacher_oldName (s_Teacher_newName K E N1 6).1 (s_Teacher_newName K E N1 6).2.1 N0 (4 : Fin 54)).1 (s_Teacher_number (s_Teacher_oldName (s_Teacher_newName K E N1 6).1 (s_Teacher_newName K E N1 6).2.1 N0 (4 : Fin 54)).2.1 (s_Teacher_oldName (s_Teacher_newName K E N1 6).1 (s_Teacher_newName K E N1 6).2.1 N0 (4 : Fin 54)).2.2 (5 : Fin 54) 1 200).1))
set_option maxRecDepth 100000 in
set_option maxHeartbeats 800000 in
theorem c_Teacher_readStake {Γ : G9} {sg : Nat → Nat} {sw : Nat} {h : AH} {y g o u z : Nat} {K : TK} {F : FM} {E : TE} {N0 : NM} {N1 : NM} {N2 : NM} {N3 : NM} {N4 : NM} {T : TM} {σ : GL} (hs : SgOk Γ sg) (hsn : SgNe sg) (hw : SwOk Γ sw) (geo : y + 4 ≤ g ∧ g + 12 ≤ o ∧ o + 7 ≤ u) (hN0 : nm_sz N0 ≤ 6) (hN1 : nm_sz N1 ≤ 6) (hN2 : nm_sz N2 ≤ 6) (hN3 : nm_sz N3 ≤ 6) (hN4 : nm_sz N4 ≤ 6) (ho : h o = some (.inr (3, [.ref (o + 1), .ref (o + 3)]))) (hT : T.2 ≤ 20) (hW : WFG σ) : CallR Γ M_Teacher_readStake 3 [.ref u] (rw_ Γ sg (blk (blk h g 12 (glC Γ g σ)) (o + 1) 2 (tbC Γ 20 (o + 1) T)) y g o u K F E N0 N1 N2 N3 N4) z none (rw_ Γ sg (blk (blk h g 12 (glC Γ g (s_Teacher_readStake K F E N0 N1 N2 N3 N4 T σ).2.2.2)) (o + 1) 2 (tbC Γ 20 (o + 1) T)) y g o u (s_Teacher_readStake K F E N0 N1 N2 N3 N4 T σ).1 F (s_Teacher_readStake K F E N0 N1 N2 N3 N4 T σ).2.1 N0 (s_Teacher_readStake K F E N0 N1 N2 N3 N4 T σ).2.2.1 N2 N3 N4) := by
  refine Call.of_go (L := [some (.ref u), none]) (by decide +kernel) rfl (by exact Nat.le_of_ble_eq_true rfl) ?_
  unfold s_Teacher_readStake
  refine Go.aload_0 d_Teacher_readStake_0 rfl ?_
  refine Go.aload_0 d_Teacher_readStake_1 rfl ?_
  refine Go.getfield d_Teacher_readStake_2 rfl f_Teacher_18 (rw_u (by omega)) (by rfl) ?_
  refine Go.bipush (v := 6) d_Teacher_readStake_5 rfl (by decide) ?_
  refine Go.cv2v d_Teacher_readStake_7 rfl l_Teacher_142 k_Teacher_newName_v (rw_u (by omega)) rfl (w1_Teacher_newName_1 hs hsn (by omega) hN0 hN1 hN2 hN3 hN4) (Nat.ble_eq_true_of_le (by omega)) rfl rfl ?_
  refine Go.aload_0 d_Teacher_readStake_10 rfl ?_
  refine Go.gets d_Teacher_readStake_11 rfl x_Teacher_160 (hs.z (i := 4) rfl) ?_
  refine Go.aload_0 d_Teacher_readStake_14 rfl ?_
  refine Go.getfield d_Teacher_readStake_15 rfl f_Teacher_12 (rw_u (by omega)) (by rfl) ?_
  refine Go.cv2r d_Teacher_readStake_18 rfl l_Teacher_163 k_Teacher_oldName_v (rw_u (by omega)) rfl (w1_Teacher_oldName_0 (x1 := (4 : Fin 54)) hs hsn (by omega) hN0 (newName_le hN1) hN2 hN3 hN4) (Nat.ble_eq_true_of_le (by omega)) rfl rfl ?_
  refine Go.istore_1 d_Teacher_readStake_21 rfl (by rfl) ?_
  refine Go.aload_0 d_Teacher_readStake_22 rfl ?_
  refine Go.getfield d_Teacher_readStake_23 rfl f_Teacher_38 (rw_u (by omega)) (by rfl) ?_
  refine Go.iload_1 d_Teacher_readStake_26 rfl ?_
  refine Go.aload_0 d_Teacher_readStake_27 rfl ?_
  refine Go.gets d_Teacher_readStake_28 rfl x_Teacher_167 (hs.z (i := 5) rfl) ?_
  refine Go.iconst (v := 1) d_Teacher_readStake_31 rfl (by decide) ?_
  refine Go.sipush (v := 200) d_Teacher_readStake_32 rfl (by decide) ?_
  refine Go.cv3r d_Teacher_readStake_35 rfl l_Teacher_149 k_Teacher_number_v (rw_u (by omega)) rfl (w1_Teacher_number (x1 := (5 : Fin 54)) hs hsn (by omega) hN0 (newName_le hN1) hN2 hN3 hN4) (Nat.ble_eq_true_of_le (by omega)) rfl rfl ?_
  refine Go.cv2v d_Teacher_readStake_38 rfl l_Teacher_170 k_Glacier_addStake_v (rw_g geo) rfl (w2_Glacier_addStake hs hsn (by omega) hN0 (newName_le hN1) hN2 hN3 hN4 ho hT hW) (Nat.ble_eq_true_of_le (by omega)) rfl rfl ?_
  exact Go.vret d_Teacher_readStake_41 rfl ⟨rfl, by dsimp only; done, rfl⟩
set_option maxHeartbeats 400000 in
theorem wfN1_Teacher_readStake {K : TK} {F : FM} {E : TE} {N0 : NM} {N1 : NM} {N2 : NM} {N3 : NM} {N4 : NM} {T : TM} {σ : GL} (h : nm_sz N1 ≤ 6) : nm_sz (s_Teacher_readStake K F E N0 N1 N2 N3 N4 T σ).2.2.1 ≤ 6 := by
  unfold s_Teacher_readStake
  (repeat' split) <;> (try dsimp only) <;> exact newName_le h
set_option maxHeartbeats 400000 in
theorem wfσ_Teacher_readStake {K : TK} {F : FM} {E : TE} {N0 : NM} {N1 : NM} {N2 : NM} {N3 : NM} {N4 : NM} {T : TM} {σ : GL} (h : WFG σ) : WFG (s_Teacher_readStake K F E N0 N1 N2 N3 N4 T σ).2.2.2 := by
  unfold s_Teacher_readStake
  (repeat' split) <;> (try dsimp only) <;> exact wf_Glacier_addStake h
theorem d_Teacher_readCrevasse_0 : decode M_Teacher_readCrevasse.2.1 0 = .ok (.aload_n 0, 1) := by decide +kernel
theorem d_Teacher_readCrevasse_1 : decode M_Teacher_readCrevasse.2.1 1 = .ok (.aload_n 0, 1) := by decide +kernel
theorem d_Teacher_readCrevasse_2 : decode M_Teacher_readCrevasse.2.1 2 = .ok (.getfield 21, 3) := by decide +kernel
theorem d_Teacher_readCrevasse_5 : decode M_Teacher_readCrevasse.2.1 5 = .ok (.iconst 4, 1) := by decide +kernel
theorem d_Teacher_readCrevasse_6 : decode M_Teacher_readCrevasse.2.1 6 = .ok (.invokevirtual 142, 3) := by decide +kernel
theorem d_Teacher_readCrevasse_9 : decode M_Teacher_readCrevasse.2.1 9 = .ok (.aload_n 0, 1) := by decide +kernel
theorem d_Teacher_readCrevasse_10 : decode M_Teacher_readCrevasse.2.1 10 = .ok (.getstatic 173, 3) := by decide +kernel
theorem d_Teacher_readCrevasse_13 : decode M_Teacher_readCrevasse.2.1 13 = .ok (.aload_n 0, 1) := by decide +kernel
theorem d_Teacher_readCrevasse_14 : decode M_Teacher_readCrevasse.2.1 14 = .ok (.getfield 12, 3) := by decide +kernel
theorem d_Teacher_readCrevasse_17 : decode M_Teacher_readCrevasse.2.1 17 = .ok (.invokevirtual 163, 3) := by decide +kernel
theorem d_Teacher_readCrevasse_20 : decode M_Teacher_readCrevasse.2.1 20 = .ok (.istore_n 1, 1) := by decide +kernel
theorem d_Teacher_readCrevasse_21 : decode M_Teacher_readCrevasse.2.1 21 = .ok (.aload_n 0, 1) := by decide +kernel
theorem d_Teacher_readCrevasse_22 : decode M_Teacher_readCrevasse.2.1 22 = .ok (.getfield 38, 3) := by decide +kernel
theorem d_Teacher_readCrevasse_25 : decode M_Teacher_readCrevasse.2.1 25 = .ok (.iload_n 1, 1) := by decide +kernel
theorem d_Teacher_readCrevasse_26 : decode M_Teacher_readCrevasse.2.1 26 = .ok (.aload_n 0, 1) := by decide +kernel
theorem d_Teacher_readCrevasse_27 : decode M_Teacher_readCrevasse.2.1 27 = .ok (.getstatic 176, 3) := by decide +kernel
theorem d_Teacher_readCrevasse_30 : decode M_Teacher_readCrevasse.2.1 30 = .ok (.iconst 0, 1) := by decide +kernel
theorem d_Teacher_readCrevasse_31 : decode M_Teacher_readCrevasse.2.1 31 = .ok (.bipush 99, 2) := by decide +kernel
theorem d_Teacher_readCrevasse_33 : decode M_Teacher_readCrevasse.2.1 33 = .ok (.invokevirtual 149, 3) := by decide +kernel
theorem d_Teacher_readCrevasse_36 : decode M_Teacher_readCrevasse.2.1 36 = .ok (.invokevirtual 179, 3) := by decide +kernel
theorem d_Teacher_readCrevasse_39 : decode M_Teacher_readCrevasse.2.1 39 = .ok (.return_, 1) := by decide +kernel
def s_Teacher_readCrevasse (K : TK) (F : FM) (E : TE) (N0 : NM) (N1 : NM) (N2 : NM) (N3 : NM) (N4 : NM) (T : TM) (σ : GL) : TK × TE × NM × GL := ((s_Teacher_number (s_Teacher_oldName (s_Teacher_newName K E N2 4).1 (s_Teacher_newName K E N2 4).2.1 N0 (7 : Fin 54)).2.1 (s_Teacher_oldName (s_Teacher_newName K E N2 4).1 (s_Teacher_newName K E N2 4).2.1 N0 (7 : Fin 54)).2.2 (8 : Fin 54) 0 99).2.1, (s_Teacher_number (s_Teacher_oldName (s_Teacher_newName K E N2 4).1 (s_Teacher_newName K E N2 4).2.1 N0 (7 : Fin 54)).2.1 (s_Teacher_oldName (s_Teacher_newName K E N2 4).1 (s_Teacher_newName K E N2 4).2.1 N0 (7 : Fin 54)).2.2 (8 : Fin 54) 0 99).2.2, (s_Teacher_newName K E N2 4).2.2, (s_Glacier_addCrevasse σ (s_Teacher_oldName (s_Teacher_newName K E N2 4).1 (s_Teacher_newName K E N2 4).2.1 N0 (7 : Fin 54)).1 (s_Teacher_number (s_Teacher_oldName (s_Teacher_newName K E N2 4).1 (s_Teacher_newName K E N2 4).2.1 N0 (7 : Fin 54)).2.1 (s_Teacher_oldName (s_Teacher_newName K E N2 4).1 (s_Teacher_newName K E N2 4).2.1 N0 (7 : Fin 54)).2.2 (8 : Fin 54) 0 99).1))
set_option maxRecDepth 100000 in
set_option maxHeartbeats 800000 in
theorem c_Teacher_readCrevasse {Γ : G9} {sg : Nat → Nat} {sw : Nat} {h : AH} {y g o u z : Nat} {K : TK} {F : FM} {E : TE} {N0 : NM} {N1 : NM} {N2 : NM} {N3 : NM} {N4 : NM} {T : TM} {σ : GL} (hs : SgOk Γ sg) (hsn : SgNe sg) (hw : SwOk Γ sw) (geo : y + 4 ≤ g ∧ g + 12 ≤ o ∧ o + 7 ≤ u) (hN0 : nm_sz N0 ≤ 6) (hN1 : nm_sz N1 ≤ 6) (hN2 : nm_sz N2 ≤ 6) (hN3 : nm_sz N3 ≤ 6) (hN4 : nm_sz N4 ≤ 6) (ho : h o = some (.inr (3, [.ref (o + 1), .ref (o + 3)]))) (hT : T.2 ≤ 20) (hW : WFG σ) : CallR Γ M_Teacher_readCrevasse 3 [.ref u] (rw_ Γ sg (blk (blk h g 12 (glC Γ g σ)) (o + 1) 2 (tbC Γ 20 (o + 1) T)) y g o u K F E N0 N1 N2 N3 N4) z none (rw_ Γ sg (blk (blk h g 12 (glC Γ g (s_Teacher_readCrevasse K F E N0 N1 N2 N3 N4 T σ).2.2.2)) (o + 1) 2 (tbC Γ 20 (o + 1) T)) y g o u (s_Teacher_readCrevasse K F E N0 N1 N2 N3 N4 T σ).1 F (s_Teacher_readCrevasse K F E N0 N1 N2 N3 N4 T σ).2.1 N0 N1 (s_Teacher_readCrevasse K F E N0 N1 N2 N3 N4 T σ).2.2.1 N3 N4) := by
  refine Call.of_go (L := [some (.ref u), none]) (by decide +kernel) rfl (by exact Nat.le_of_ble_eq_true rfl) ?_
  unfold s_Teacher_readCrevasse
  refine Go.aload_0 d_Teacher_readCrevasse_0 rfl ?_
  refine Go.aload_0 d_Teacher_readCrevasse_1 rfl ?_
  refine Go.getfield d_Teacher_readCrevasse_2 rfl f_Teacher_21 (rw_u (by omega)) (by rfl) ?_
  refine Go.iconst (v := 4) d_Teacher_readCrevasse_5 rfl (by decide) ?_
  refine Go.cv2v d_Teacher_readCrevasse_6 rfl l_Teacher_142 k_Teacher_newName_v (rw_u (by omega)) rfl (w1_Teacher_newName_2 hs hsn (by omega) hN0 hN1 hN2 hN3 hN4) (Nat.ble_eq_true_of_le (by omega)) rfl rfl ?_
  refine Go.aload_0 d_Teacher_readCrevasse_9 rfl ?_
  refine Go.gets d_Teacher_readCrevasse_10 rfl x_Teacher_173 (hs.z (i := 7) rfl) ?_
  refine Go.aload_0 d_Teacher_readCrevasse_13 rfl ?_
  refine Go.getfield d_Teacher_readCrevasse_14 rfl f_Teacher_12 (rw_u (by omega)) (by rfl) ?_
  refine Go.cv2r d_Teacher_readCrevasse_17 rfl l_Teacher_163 k_Teacher_oldName_v (rw_u (by omega)) rfl (w1_Teacher_oldName_0 (x1 := (7 : Fin 54)) hs hsn (by omega) hN0 hN1 (newName_le hN2) hN3 hN4) (Nat.ble_eq_true_of_le (by omega)) rfl rfl ?_
  refine Go.istore_1 d_Teacher_readCrevasse_20 rfl (by rfl) ?_
  refine Go.aload_0 d_Teacher_readCrevasse_21 rfl ?_
  refine Go.getfield d_Teacher_readCrevasse_22 rfl f_Teacher_38 (rw_u (by omega)) (by rfl) ?_
  refine Go.iload_1 d_Teacher_readCrevasse_25 rfl ?_
  refine Go.aload_0 d_Teacher_readCrevasse_26 rfl ?_
  refine Go.gets d_Teacher_readCrevasse_27 rfl x_Teacher_176 (hs.z (i := 8) rfl) ?_
  refine Go.iconst (v := 0) d_Teacher_readCrevasse_30 rfl (by decide) ?_
  refine Go.bipush (v := 99) d_Teacher_readCrevasse_31 rfl (by decide) ?_
  refine Go.cv3r d_Teacher_readCrevasse_33 rfl l_Teacher_149 k_Teacher_number_v (rw_u (by omega)) rfl (w1_Teacher_number (x1 := (8 : Fin 54)) hs hsn (by omega) hN0 hN1 (newName_le hN2) hN3 hN4) (Nat.ble_eq_true_of_le (by omega)) rfl rfl ?_
  refine Go.cv2v d_Teacher_readCrevasse_36 rfl l_Teacher_179 k_Glacier_addCrevasse_v (rw_g geo) rfl (w2_Glacier_addCrevasse hs hsn (by omega) hN0 hN1 (newName_le hN2) hN3 hN4 ho hT hW) (Nat.ble_eq_true_of_le (by omega)) rfl rfl ?_
  exact Go.vret d_Teacher_readCrevasse_39 rfl ⟨rfl, by dsimp only; done, rfl⟩
set_option maxHeartbeats 400000 in
theorem wfN2_Teacher_readCrevasse {K : TK} {F : FM} {E : TE} {N0 : NM} {N1 : NM} {N2 : NM} {N3 : NM} {N4 : NM} {T : TM} {σ : GL} (h : nm_sz N2 ≤ 6) : nm_sz (s_Teacher_readCrevasse K F E N0 N1 N2 N3 N4 T σ).2.2.1 ≤ 6 := by
  unfold s_Teacher_readCrevasse
  (repeat' split) <;> (try dsimp only) <;> exact newName_le h
set_option maxHeartbeats 400000 in
theorem wfσ_Teacher_readCrevasse {K : TK} {F : FM} {E : TE} {N0 : NM} {N1 : NM} {N2 : NM} {N3 : NM} {N4 : NM} {T : TM} {σ : GL} (h : WFG σ) : WFG (s_Teacher_readCrevasse K F E N0 N1 N2 N3 N4 T σ).2.2.2 := by
  unfold s_Teacher_readCrevasse
  (repeat' split) <;> (try dsimp only) <;> exact wf_Glacier_addCrevasse h
theorem d_Teacher_readDepot_0 : decode M_Teacher_readDepot.2.1 0 = .ok (.aload_n 0, 1) := by decide +kernel
theorem d_Teacher_readDepot_1 : decode M_Teacher_readDepot.2.1 1 = .ok (.aload_n 0, 1) := by decide +kernel
theorem d_Teacher_readDepot_2 : decode M_Teacher_readDepot.2.1 2 = .ok (.getfield 24, 3) := by decide +kernel
theorem d_Teacher_readDepot_5 : decode M_Teacher_readDepot.2.1 5 = .ok (.iconst 4, 1) := by decide +kernel
theorem d_Teacher_readDepot_6 : decode M_Teacher_readDepot.2.1 6 = .ok (.invokevirtual 142, 3) := by decide +kernel
theorem d_Teacher_readDepot_9 : decode M_Teacher_readDepot.2.1 9 = .ok (.aload_n 0, 1) := by decide +kernel
theorem d_Teacher_readDepot_10 : decode M_Teacher_readDepot.2.1 10 = .ok (.getstatic 160, 3) := by decide +kernel
theorem d_Teacher_readDepot_13 : decode M_Teacher_readDepot.2.1 13 = .ok (.aload_n 0, 1) := by decide +kernel
theorem d_Teacher_readDepot_14 : decode M_Teacher_readDepot.2.1 14 = .ok (.getfield 12, 3) := by decide +kernel
theorem d_Teacher_readDepot_17 : decode M_Teacher_readDepot.2.1 17 = .ok (.invokevirtual 163, 3) := by decide +kernel
theorem d_Teacher_readDepot_20 : decode M_Teacher_readDepot.2.1 20 = .ok (.istore_n 1, 1) := by decide +kernel
theorem d_Teacher_readDepot_21 : decode M_Teacher_readDepot.2.1 21 = .ok (.aload_n 0, 1) := by decide +kernel
theorem d_Teacher_readDepot_22 : decode M_Teacher_readDepot.2.1 22 = .ok (.getfield 38, 3) := by decide +kernel
theorem d_Teacher_readDepot_25 : decode M_Teacher_readDepot.2.1 25 = .ok (.iload_n 1, 1) := by decide +kernel
theorem d_Teacher_readDepot_26 : decode M_Teacher_readDepot.2.1 26 = .ok (.aload_n 0, 1) := by decide +kernel
theorem d_Teacher_readDepot_27 : decode M_Teacher_readDepot.2.1 27 = .ok (.getstatic 182, 3) := by decide +kernel
theorem d_Teacher_readDepot_30 : decode M_Teacher_readDepot.2.1 30 = .ok (.iconst 0, 1) := by decide +kernel
theorem d_Teacher_readDepot_31 : decode M_Teacher_readDepot.2.1 31 = .ok (.bipush 99, 2) := by decide +kernel
theorem d_Teacher_readDepot_33 : decode M_Teacher_readDepot.2.1 33 = .ok (.invokevirtual 149, 3) := by decide +kernel
theorem d_Teacher_readDepot_36 : decode M_Teacher_readDepot.2.1 36 = .ok (.invokevirtual 185, 3) := by decide +kernel
theorem d_Teacher_readDepot_39 : decode M_Teacher_readDepot.2.1 39 = .ok (.return_, 1) := by decide +kernel
def s_Teacher_readDepot (K : TK) (F : FM) (E : TE) (N0 : NM) (N1 : NM) (N2 : NM) (N3 : NM) (N4 : NM) (T : TM) (σ : GL) : TK × TE × NM × GL := ((s_Teacher_number (s_Teacher_oldName (s_Teacher_newName K E N3 4).1 (s_Teacher_newName K E N3 4).2.1 N0 (4 : Fin 54)).2.1 (s_Teacher_oldName (s_Teacher_newName K E N3 4).1 (s_Teacher_newName K E N3 4).2.1 N0 (4 : Fin 54)).2.2 (10 : Fin 54) 0 99).2.1, (s_Teacher_number (s_Teacher_oldName (s_Teacher_newName K E N3 4).1 (s_Teacher_newName K E N3 4).2.1 N0 (4 : Fin 54)).2.1 (s_Teacher_oldName (s_Teacher_newName K E N3 4).1 (s_Teacher_newName K E N3 4).2.1 N0 (4 : Fin 54)).2.2 (10 : Fin 54) 0 99).2.2, (s_Teacher_newName K E N3 4).2.2, (s_Glacier_addDepot σ (s_Teacher_oldName (s_Teacher_newName K E N3 4).1 (s_Teacher_newName K E N3 4).2.1 N0 (4 : Fin 54)).1 (s_Teacher_number (s_Teacher_oldName (s_Teacher_newName K E N3 4).1 (s_Teacher_newName K E N3 4).2.1 N0 (4 : Fin 54)).2.1 (s_Teacher_oldName (s_Teacher_newName K E N3 4).1 (s_Teacher_newName K E N3 4).2.1 N0 (4 : Fin 54)).2.2 (10 : Fin 54) 0 99).1))
set_option maxRecDepth 100000 in
set_option maxHeartbeats 800000 in
theorem c_Teacher_readDepot {Γ : G9} {sg : Nat → Nat} {sw : Nat} {h : AH} {y g o u z : Nat} {K : TK} {F : FM} {E : TE} {N0 : NM} {N1 : NM} {N2 : NM} {N3 : NM} {N4 : NM} {T : TM} {σ : GL} (hs : SgOk Γ sg) (hsn : SgNe sg) (hw : SwOk Γ sw) (geo : y + 4 ≤ g ∧ g + 12 ≤ o ∧ o + 7 ≤ u) (hN0 : nm_sz N0 ≤ 6) (hN1 : nm_sz N1 ≤ 6) (hN2 : nm_sz N2 ≤ 6) (hN3 : nm_sz N3 ≤ 6) (hN4 : nm_sz N4 ≤ 6) (ho : h o = some (.inr (3, [.ref (o + 1), .ref (o + 3)]))) (hT : T.2 ≤ 20) (hW : WFG σ) : CallR Γ M_Teacher_readDepot 3 [.ref u] (rw_ Γ sg (blk (blk h g 12 (glC Γ g σ)) (o + 1) 2 (tbC Γ 20 (o + 1) T)) y g o u K F E N0 N1 N2 N3 N4) z none (rw_ Γ sg (blk (blk h g 12 (glC Γ g (s_Teacher_readDepot K F E N0 N1 N2 N3 N4 T σ).2.2.2)) (o + 1) 2 (tbC Γ 20 (o + 1) T)) y g o u (s_Teacher_readDepot K F E N0 N1 N2 N3 N4 T σ).1 F (s_Teacher_readDepot K F E N0 N1 N2 N3 N4 T σ).2.1 N0 N1 N2 (s_Teacher_readDepot K F E N0 N1 N2 N3 N4 T σ).2.2.1 N4) := by
  refine Call.of_go (L := [some (.ref u), none]) (by decide +kernel) rfl (by exact Nat.le_of_ble_eq_true rfl) ?_
  unfold s_Teacher_readDepot
  refine Go.aload_0 d_Teacher_readDepot_0 rfl ?_
  refine Go.aload_0 d_Teacher_readDepot_1 rfl ?_
  refine Go.getfield d_Teacher_readDepot_2 rfl f_Teacher_24 (rw_u (by omega)) (by rfl) ?_
  refine Go.iconst (v := 4) d_Teacher_readDepot_5 rfl (by decide) ?_
  refine Go.cv2v d_Teacher_readDepot_6 rfl l_Teacher_142 k_Teacher_newName_v (rw_u (by omega)) rfl (w1_Teacher_newName_3 hs hsn (by omega) hN0 hN1 hN2 hN3 hN4) (Nat.ble_eq_true_of_le (by omega)) rfl rfl ?_
  refine Go.aload_0 d_Teacher_readDepot_9 rfl ?_
  refine Go.gets d_Teacher_readDepot_10 rfl x_Teacher_160 (hs.z (i := 4) rfl) ?_
  refine Go.aload_0 d_Teacher_readDepot_13 rfl ?_
  refine Go.getfield d_Teacher_readDepot_14 rfl f_Teacher_12 (rw_u (by omega)) (by rfl) ?_
  refine Go.cv2r d_Teacher_readDepot_17 rfl l_Teacher_163 k_Teacher_oldName_v (rw_u (by omega)) rfl (w1_Teacher_oldName_0 (x1 := (4 : Fin 54)) hs hsn (by omega) hN0 hN1 hN2 (newName_le hN3) hN4) (Nat.ble_eq_true_of_le (by omega)) rfl rfl ?_
  refine Go.istore_1 d_Teacher_readDepot_20 rfl (by rfl) ?_
  refine Go.aload_0 d_Teacher_readDepot_21 rfl ?_
  refine Go.getfield d_Teacher_readDepot_22 rfl f_Teacher_38 (rw_u (by omega)) (by rfl) ?_
  refine Go.iload_1 d_Teacher_readDepot_25 rfl ?_
  refine Go.aload_0 d_Teacher_readDepot_26 rfl ?_
  refine Go.gets d_Teacher_readDepot_27 rfl x_Teacher_182 (hs.z (i := 10) rfl) ?_
  refine Go.iconst (v := 0) d_Teacher_readDepot_30 rfl (by decide) ?_
  refine Go.bipush (v := 99) d_Teacher_readDepot_31 rfl (by decide) ?_
  refine Go.cv3r d_Teacher_readDepot_33 rfl l_Teacher_149 k_Teacher_number_v (rw_u (by omega)) rfl (w1_Teacher_number (x1 := (10 : Fin 54)) hs hsn (by omega) hN0 hN1 hN2 (newName_le hN3) hN4) (Nat.ble_eq_true_of_le (by omega)) rfl rfl ?_
  refine Go.cv2v d_Teacher_readDepot_36 rfl l_Teacher_185 k_Glacier_addDepot_v (rw_g geo) rfl (w2_Glacier_addDepot hs hsn (by omega) hN0 hN1 hN2 (newName_le hN3) hN4 ho hT hW) (Nat.ble_eq_true_of_le (by omega)) rfl rfl ?_
  exact Go.vret d_Teacher_readDepot_39 rfl ⟨rfl, by dsimp only; done, rfl⟩
set_option maxHeartbeats 400000 in
theorem wfN3_Teacher_readDepot {K : TK} {F : FM} {E : TE} {N0 : NM} {N1 : NM} {N2 : NM} {N3 : NM} {N4 : NM} {T : TM} {σ : GL} (h : nm_sz N3 ≤ 6) : nm_sz (s_Teacher_readDepot K F E N0 N1 N2 N3 N4 T σ).2.2.1 ≤ 6 := by
  unfold s_Teacher_readDepot
  (repeat' split) <;> (try dsimp only) <;> exact newName_le h
set_option maxHeartbeats 400000 in
theorem wfσ_Teacher_readDepot {K : TK} {F : FM} {E : TE} {N0 : NM} {N1 : NM} {N2 : NM} {N3 : NM} {N4 : NM} {T : TM} {σ : GL} (h : WFG σ) : WFG (s_Teacher_readDepot K F E N0 N1 N2 N3 N4 T σ).2.2.2 := by
  unfold s_Teacher_readDepot
  (repeat' split) <;> (try dsimp only) <;> exact wf_Glacier_addDepot h
theorem d_Teacher_readTeam_0 : decode M_Teacher_readTeam.2.1 0 = .ok (.aload_n 0, 1) := by decide +kernel
theorem d_Teacher_readTeam_1 : decode M_Teacher_readTeam.2.1 1 = .ok (.aload_n 0, 1) := by decide +kernel
theorem d_Teacher_readTeam_2 : decode M_Teacher_readTeam.2.1 2 = .ok (.getfield 27, 3) := by decide +kernel
theorem d_Teacher_readTeam_5 : decode M_Teacher_readTeam.2.1 5 = .ok (.iconst 4, 1) := by decide +kernel
theorem d_Teacher_readTeam_6 : decode M_Teacher_readTeam.2.1 6 = .ok (.invokevirtual 142, 3) := by decide +kernel
theorem d_Teacher_readTeam_9 : decode M_Teacher_readTeam.2.1 9 = .ok (.aload_n 0, 1) := by decide +kernel
theorem d_Teacher_readTeam_10 : decode M_Teacher_readTeam.2.1 10 = .ok (.getstatic 160, 3) := by decide +kernel
theorem d_Teacher_readTeam_13 : decode M_Teacher_readTeam.2.1 13 = .ok (.aload_n 0, 1) := by decide +kernel
theorem d_Teacher_readTeam_14 : decode M_Teacher_readTeam.2.1 14 = .ok (.getfield 12, 3) := by decide +kernel
theorem d_Teacher_readTeam_17 : decode M_Teacher_readTeam.2.1 17 = .ok (.invokevirtual 163, 3) := by decide +kernel
theorem d_Teacher_readTeam_20 : decode M_Teacher_readTeam.2.1 20 = .ok (.istore_n 1, 1) := by decide +kernel
theorem d_Teacher_readTeam_21 : decode M_Teacher_readTeam.2.1 21 = .ok (.aload_n 0, 1) := by decide +kernel
theorem d_Teacher_readTeam_22 : decode M_Teacher_readTeam.2.1 22 = .ok (.getstatic 188, 3) := by decide +kernel
theorem d_Teacher_readTeam_25 : decode M_Teacher_readTeam.2.1 25 = .ok (.iconst 2, 1) := by decide +kernel
theorem d_Teacher_readTeam_26 : decode M_Teacher_readTeam.2.1 26 = .ok (.bipush 6, 2) := by decide +kernel
theorem d_Teacher_readTeam_28 : decode M_Teacher_readTeam.2.1 28 = .ok (.invokevirtual 149, 3) := by decide +kernel
theorem d_Teacher_readTeam_31 : decode M_Teacher_readTeam.2.1 31 = .ok (.istore_n 2, 1) := by decide +kernel
theorem d_Teacher_readTeam_32 : decode M_Teacher_readTeam.2.1 32 = .ok (.aload_n 0, 1) := by decide +kernel
theorem d_Teacher_readTeam_33 : decode M_Teacher_readTeam.2.1 33 = .ok (.getfield 38, 3) := by decide +kernel
theorem d_Teacher_readTeam_36 : decode M_Teacher_readTeam.2.1 36 = .ok (.iload_n 1, 1) := by decide +kernel
theorem d_Teacher_readTeam_37 : decode M_Teacher_readTeam.2.1 37 = .ok (.iload_n 2, 1) := by decide +kernel
theorem d_Teacher_readTeam_38 : decode M_Teacher_readTeam.2.1 38 = .ok (.aload_n 0, 1) := by decide +kernel
theorem d_Teacher_readTeam_39 : decode M_Teacher_readTeam.2.1 39 = .ok (.getstatic 182, 3) := by decide +kernel
theorem d_Teacher_readTeam_42 : decode M_Teacher_readTeam.2.1 42 = .ok (.iconst 0, 1) := by decide +kernel
theorem d_Teacher_readTeam_43 : decode M_Teacher_readTeam.2.1 43 = .ok (.bipush 40, 2) := by decide +kernel
theorem d_Teacher_readTeam_45 : decode M_Teacher_readTeam.2.1 45 = .ok (.invokevirtual 149, 3) := by decide +kernel
theorem d_Teacher_readTeam_48 : decode M_Teacher_readTeam.2.1 48 = .ok (.invokevirtual 191, 3) := by decide +kernel
theorem d_Teacher_readTeam_51 : decode M_Teacher_readTeam.2.1 51 = .ok (.return_, 1) := by decide +kernel
def s_Teacher_readTeam (K : TK) (F : FM) (E : TE) (N0 : NM) (N1 : NM) (N2 : NM) (N3 : NM) (N4 : NM) (T : TM) (σ : GL) : TK × TE × NM × GL := ((s_Teacher_number (s_Teacher_number (s_Teacher_oldName (s_Teacher_newName K E N4 4).1 (s_Teacher_newName K E N4 4).2.1 N0 (4 : Fin 54)).2.1 (s_Teacher_oldName (s_Teacher_newName K E N4 4).1 (s_Teacher_newName K E N4 4).2.1 N0 (4 : Fin 54)).2.2 (12 : Fin 54) 2 6).2.1 (s_Teacher_number (s_Teacher_oldName (s_Teacher_newName K E N4 4).1 (s_Teacher_newName K E N4 4).2.1 N0 (4 : Fin 54)).2.1 (s_Teacher_oldName (s_Teacher_newName K E N4 4).1 (s_Teacher_newName K E N4 4).2.1 N0 (4 : Fin 54)).2.2 (12 : Fin 54) 2 6).2.2 (10 : Fin 54) 0 40).2.1, (s_Teacher_number (s_Teacher_number (s_Teacher_oldName (s_Teacher_newName K E N4 4).1 (s_Teacher_newName K E N4 4).2.1 N0 (4 : Fin 54)).2.1 (s_Teacher_oldName (s_Teacher_newName K E N4 4).1 (s_Teacher_newName K E N4 4).2.1 N0 (4 : Fin 54)).2.2 (12 : Fin 54) 2 6).2.1 (s_Teacher_number (s_Teacher_oldName (s_Teacher_newName K E N4 4).1 (s_Teacher_newName K E N4 4).2.1 N0 (4 : Fin 54)).2.1 (s_Teacher_oldName (s_Teacher_newName K E N4 4).1 (s_Teacher_newName K E N4 4).2.1 N0 (4 : Fin 54)).2.2 (12 : Fin 54) 2 6).2.2 (10 : Fin 54) 0 40).2.2, (s_Teacher_newName K E N4 4).2.2, (s_Glacier_addTeam σ (s_Teacher_oldName (s_Teacher_newName K E N4 4).1 (s_Teacher_newName K E N4 4).2.1 N0 (4 : Fin 54)).1 (s_Teacher_number (s_Teacher_oldName (s_Teacher_newName K E N4 4).1 (s_Teacher_newName K E N4 4).2.1 N0 (4 : Fin 54)).2.1 (s_Teacher_oldName (s_Teacher_newName K E N4 4).1 (s_Teacher_newName K E N4 4).2.1 N0 (4 : Fin 54)).2.2 (12 : Fin 54) 2 6).1 (s_Teacher_number (s_Teacher_number (s_Teacher_oldName (s_Teacher_newName K E N4 4).1 (s_Teacher_newName K E N4 4).2.1 N0 (4 : Fin 54)).2.1 (s_Teacher_oldName (s_Teacher_newName K E N4 4).1 (s_Teacher_newName K E N4 4).2.1 N0 (4 : Fin 54)).2.2 (12 : Fin 54) 2 6).2.1 (s_Teacher_number (s_Teacher_oldName (s_Teacher_newName K E N4 4).1 (s_Teacher_newName K E N4 4).2.1 N0 (4 : Fin 54)).2.1 (s_Teacher_oldName (s_Teacher_newName K E N4 4).1 (s_Teacher_newName K E N4 4).2.1 N0 (4 : Fin 54)).2.2 (12 : Fin 54) 2 6).2.2 (10 : Fin 54) 0 40).1))
set_option maxRecDepth 100000 in
set_option maxHeartbeats 800000 in
theorem c_Teacher_readTeam {Γ : G9} {sg : Nat → Nat} {sw : Nat} {h : AH} {y g o u z : Nat} {K : TK} {F : FM} {E : TE} {N0 : NM} {N1 : NM} {N2 : NM} {N3 : NM} {N4 : NM} {T : TM} {σ : GL} (hs : SgOk Γ sg) (hsn : SgNe sg) (hw : SwOk Γ sw) (geo : y + 4 ≤ g ∧ g + 12 ≤ o ∧ o + 7 ≤ u) (hN0 : nm_sz N0 ≤ 6) (hN1 : nm_sz N1 ≤ 6) (hN2 : nm_sz N2 ≤ 6) (hN3 : nm_sz N3 ≤ 6) (hN4 : nm_sz N4 ≤ 6) (ho : h o = some (.inr (3, [.ref (o + 1), .ref (o + 3)]))) (hT : T.2 ≤ 20) (hW : WFG σ) : CallR Γ M_Teacher_readTeam 3 [.ref u] (rw_ Γ sg (blk (blk h g 12 (glC Γ g σ)) (o + 1) 2 (tbC Γ 20 (o + 1) T)) y g o u K F E N0 N1 N2 N3 N4) z none (rw_ Γ sg (blk (blk h g 12 (glC Γ g (s_Teacher_readTeam K F E N0 N1 N2 N3 N4 T σ).2.2.2)) (o + 1) 2 (tbC Γ 20 (o + 1) T)) y g o u (s_Teacher_readTeam K F E N0 N1 N2 N3 N4 T σ).1 F (s_Teacher_readTeam K F E N0 N1 N2 N3 N4 T σ).2.1 N0 N1 N2 N3 (s_Teacher_readTeam K F E N0 N1 N2 N3 N4 T σ).2.2.1) := by
  refine Call.of_go (L := [some (.ref u), none, none]) (by decide +kernel) rfl (by exact Nat.le_of_ble_eq_true rfl) ?_
  unfold s_Teacher_readTeam
  refine Go.aload_0 d_Teacher_readTeam_0 rfl ?_
  refine Go.aload_0 d_Teacher_readTeam_1 rfl ?_
  refine Go.getfield d_Teacher_readTeam_2 rfl f_Teacher_27 (rw_u (by omega)) (by rfl) ?_
  refine Go.iconst (v := 4) d_Teacher_readTeam_5 rfl (by decide) ?_
  refine Go.cv2v d_Teacher_readTeam_6 rfl l_Teacher_142 k_Teacher_newName_v (rw_u (by omega)) rfl (w1_Teacher_newName_4 hs hsn (by omega) hN0 hN1 hN2 hN3 hN4) (Nat.ble_eq_true_of_le (by omega)) rfl rfl ?_
  refine Go.aload_0 d_Teacher_readTeam_9 rfl ?_
  refine Go.gets d_Teacher_readTeam_10 rfl x_Teacher_160 (hs.z (i := 4) rfl) ?_
  refine Go.aload_0 d_Teacher_readTeam_13 rfl ?_
  refine Go.getfield d_Teacher_readTeam_14 rfl f_Teacher_12 (rw_u (by omega)) (by rfl) ?_
  refine Go.cv2r d_Teacher_readTeam_17 rfl l_Teacher_163 k_Teacher_oldName_v (rw_u (by omega)) rfl (w1_Teacher_oldName_0 (x1 := (4 : Fin 54)) hs hsn (by omega) hN0 hN1 hN2 hN3 (newName_le hN4)) (Nat.ble_eq_true_of_le (by omega)) rfl rfl ?_
  refine Go.istore_1 d_Teacher_readTeam_20 rfl (by rfl) ?_
  refine Go.aload_0 d_Teacher_readTeam_21 rfl ?_
  refine Go.gets d_Teacher_readTeam_22 rfl x_Teacher_188 (hs.z (i := 12) rfl) ?_
  refine Go.iconst (v := 2) d_Teacher_readTeam_25 rfl (by decide) ?_
  refine Go.bipush (v := 6) d_Teacher_readTeam_26 rfl (by decide) ?_
  refine Go.cv3r d_Teacher_readTeam_28 rfl l_Teacher_149 k_Teacher_number_v (rw_u (by omega)) rfl (w1_Teacher_number (x1 := (12 : Fin 54)) hs hsn (by omega) hN0 hN1 hN2 hN3 (newName_le hN4)) (Nat.ble_eq_true_of_le (by omega)) rfl rfl ?_
  refine Go.istore_2 d_Teacher_readTeam_31 rfl (by rfl) ?_
  refine Go.aload_0 d_Teacher_readTeam_32 rfl ?_
  refine Go.getfield d_Teacher_readTeam_33 rfl f_Teacher_38 (rw_u (by omega)) (by rfl) ?_
  refine Go.iload_1 d_Teacher_readTeam_36 rfl ?_
  refine Go.iload_2 d_Teacher_readTeam_37 rfl ?_
  refine Go.aload_0 d_Teacher_readTeam_38 rfl ?_
  refine Go.gets d_Teacher_readTeam_39 rfl x_Teacher_182 (hs.z (i := 10) rfl) ?_
  refine Go.iconst (v := 0) d_Teacher_readTeam_42 rfl (by decide) ?_
  refine Go.bipush (v := 40) d_Teacher_readTeam_43 rfl (by decide) ?_
  refine Go.cv3r d_Teacher_readTeam_45 rfl l_Teacher_149 k_Teacher_number_v (rw_u (by omega)) rfl (w1_Teacher_number (x1 := (10 : Fin 54)) hs hsn (by omega) hN0 hN1 hN2 hN3 (newName_le hN4)) (Nat.ble_eq_true_of_le (by omega)) rfl rfl ?_
  refine Go.cv3v d_Teacher_readTeam_48 rfl l_Teacher_191 k_Glacier_addTeam_v (rw_g geo) rfl (w2_Glacier_addTeam hs hsn (by omega) hN0 hN1 hN2 hN3 (newName_le hN4) ho hT hW) (Nat.ble_eq_true_of_le (by omega)) rfl rfl ?_
  exact Go.vret d_Teacher_readTeam_51 rfl ⟨rfl, by dsimp only; done, rfl⟩
set_option maxHeartbeats 400000 in
theorem wfN4_Teacher_readTeam {K : TK} {F : FM} {E : TE} {N0 : NM} {N1 : NM} {N2 : NM} {N3 : NM} {N4 : NM} {T : TM} {σ : GL} (h : nm_sz N4 ≤ 6) : nm_sz (s_Teacher_readTeam K F E N0 N1 N2 N3 N4 T σ).2.2.1 ≤ 6 := by
  unfold s_Teacher_readTeam
  (repeat' split) <;> (try dsimp only) <;> exact newName_le h
set_option maxHeartbeats 400000 in
theorem wfσ_Teacher_readTeam {K : TK} {F : FM} {E : TE} {N0 : NM} {N1 : NM} {N2 : NM} {N3 : NM} {N4 : NM} {T : TM} {σ : GL} (h : WFG σ) : WFG (s_Teacher_readTeam K F E N0 N1 N2 N3 N4 T σ).2.2.2 := by
  unfold s_Teacher_readTeam
  (repeat' split) <;> (try dsimp only) <;> exact wf_Glacier_addTeam h
theorem d_Teacher_readDay_0 : decode M_Teacher_readDay.2.1 0 = .ok (.aload_n 0, 1) := by decide +kernel
theorem d_Teacher_readDay_1 : decode M_Teacher_readDay.2.1 1 = .ok (.getstatic 195, 3) := by decide +kernel
theorem d_Teacher_readDay_4 : decode M_Teacher_readDay.2.1 4 = .ok (.iconst 0, 1) := by decide +kernel
theorem d_Teacher_readDay_5 : decode M_Teacher_readDay.2.1 5 = .ok (.bipush 7, 2) := by decide +kernel
theorem d_Teacher_readDay_7 : decode M_Teacher_readDay.2.1 7 = .ok (.invokevirtual 149, 3) := by decide +kernel
theorem d_Teacher_readDay_10 : decode M_Teacher_readDay.2.1 10 = .ok (.istore_n 1, 1) := by decide +kernel
theorem d_Teacher_readDay_11 : decode M_Teacher_readDay.2.1 11 = .ok (.aload_n 0, 1) := by decide +kernel
theorem d_Teacher_readDay_12 : decode M_Teacher_readDay.2.1 12 = .ok (.getfield 38, 3) := by decide +kernel
theorem d_Teacher_readDay_15 : decode M_Teacher_readDay.2.1 15 = .ok (.iload_n 1, 1) := by decide +kernel
theorem d_Teacher_readDay_16 : decode M_Teacher_readDay.2.1 16 = .ok (.aload_n 0, 1) := by decide +kernel
theorem d_Teacher_readDay_17 : decode M_Teacher_readDay.2.1 17 = .ok (.getstatic 198, 3) := by decide +kernel
theorem d_Teacher_readDay_20 : decode M_Teacher_readDay.2.1 20 = .ok (.iconst 0, 1) := by decide +kernel
theorem d_Teacher_readDay_21 : decode M_Teacher_readDay.2.1 21 = .ok (.bipush 30, 2) := by decide +kernel
theorem d_Teacher_readDay_23 : decode M_Teacher_readDay.2.1 23 = .ok (.invokevirtual 149, 3) := by decide +kernel
theorem d_Teacher_readDay_26 : decode M_Teacher_readDay.2.1 26 = .ok (.invokevirtual 201, 3) := by decide +kernel
theorem d_Teacher_readDay_29 : decode M_Teacher_readDay.2.1 29 = .ok (.return_, 1) := by decide +kernel
def s_Teacher_readDay (K : TK) (F : FM) (E : TE) (N0 : NM) (N1 : NM) (N2 : NM) (N3 : NM) (N4 : NM) (T : TM) (σ : GL) : TK × TE × GL := ((s_Teacher_number (s_Teacher_number K E (13 : Fin 54) 0 7).2.1 (s_Teacher_number K E (13 : Fin 54) 0 7).2.2 (14 : Fin 54) 0 30).2.1, (s_Teacher_number (s_Teacher_number K E (13 : Fin 54) 0 7).2.1 (s_Teacher_number K E (13 : Fin 54) 0 7).2.2 (14 : Fin 54) 0 30).2.2, (s_Glacier_changeWarmth σ (s_Teacher_number K E (13 : Fin 54) 0 7).1 (s_Teacher_number (s_Teacher_number K E (13 : Fin 54) 0 7).2.1 (s_Teacher_number K E (13 : Fin 54) 0 7).2.2 (14 : Fin 54) 0 30).1))
set_option maxRecDepth 100000 in
set_option maxHeartbeats 800000 in
theorem c_Teacher_readDay {Γ : G9} {sg : Nat → Nat} {sw : Nat} {h : AH} {y g o u z : Nat} {K : TK} {F : FM} {E : TE} {N0 : NM} {N1 : NM} {N2 : NM} {N3 : NM} {N4 : NM} {T : TM} {σ : GL} (hs : SgOk Γ sg) (hsn : SgNe sg) (hw : SwOk Γ sw) (geo : y + 4 ≤ g ∧ g + 12 ≤ o ∧ o + 7 ≤ u) (hN0 : nm_sz N0 ≤ 6) (hN1 : nm_sz N1 ≤ 6) (hN2 : nm_sz N2 ≤ 6) (hN3 : nm_sz N3 ≤ 6) (hN4 : nm_sz N4 ≤ 6) (ho : h o = some (.inr (3, [.ref (o + 1), .ref (o + 3)]))) (hT : T.2 ≤ 20) (hW : WFG σ) : CallR Γ M_Teacher_readDay 3 [.ref u] (rw_ Γ sg (blk (blk h g 12 (glC Γ g σ)) (o + 1) 2 (tbC Γ 20 (o + 1) T)) y g o u K F E N0 N1 N2 N3 N4) z none (rw_ Γ sg (blk (blk h g 12 (glC Γ g (s_Teacher_readDay K F E N0 N1 N2 N3 N4 T σ).2.2)) (o + 1) 2 (tbC Γ 20 (o + 1) T)) y g o u (s_Teacher_readDay K F E N0 N1 N2 N3 N4 T σ).1 F (s_Teacher_readDay K F E N0 N1 N2 N3 N4 T σ).2.1 N0 N1 N2 N3 N4) := by
  refine Call.of_go (L := [some (.ref u), none]) (by decide +kernel) rfl (by exact Nat.le_of_ble_eq_true rfl) ?_
  unfold s_Teacher_readDay
  refine Go.aload_0 d_Teacher_readDay_0 rfl ?_
  refine Go.gets d_Teacher_readDay_1 rfl x_Teacher_195 (hs.z (i := 13) rfl) ?_
  refine Go.iconst (v := 0) d_Teacher_readDay_4 rfl (by decide) ?_
  refine Go.bipush (v := 7) d_Teacher_readDay_5 rfl (by decide) ?_
  refine Go.cv3r d_Teacher_readDay_7 rfl l_Teacher_149 k_Teacher_number_v (rw_u (by omega)) rfl (w1_Teacher_number (x1 := (13 : Fin 54)) hs hsn (by omega) hN0 hN1 hN2 hN3 hN4) (Nat.ble_eq_true_of_le (by omega)) rfl rfl ?_
  refine Go.istore_1 d_Teacher_readDay_10 rfl (by rfl) ?_
  refine Go.aload_0 d_Teacher_readDay_11 rfl ?_
  refine Go.getfield d_Teacher_readDay_12 rfl f_Teacher_38 (rw_u (by omega)) (by rfl) ?_
  refine Go.iload_1 d_Teacher_readDay_15 rfl ?_
  refine Go.aload_0 d_Teacher_readDay_16 rfl ?_
  refine Go.gets d_Teacher_readDay_17 rfl x_Teacher_198 (hs.z (i := 14) rfl) ?_
  refine Go.iconst (v := 0) d_Teacher_readDay_20 rfl (by decide) ?_
  refine Go.bipush (v := 30) d_Teacher_readDay_21 rfl (by decide) ?_
  refine Go.cv3r d_Teacher_readDay_23 rfl l_Teacher_149 k_Teacher_number_v (rw_u (by omega)) rfl (w1_Teacher_number (x1 := (14 : Fin 54)) hs hsn (by omega) hN0 hN1 hN2 hN3 hN4) (Nat.ble_eq_true_of_le (by omega)) rfl rfl ?_
  refine Go.cv2v d_Teacher_readDay_26 rfl l_Teacher_201 k_Glacier_changeWarmth_v (rw_g geo) rfl (w2_Glacier_changeWarmth hs hsn (by omega) hN0 hN1 hN2 hN3 hN4 ho hT hW) (Nat.ble_eq_true_of_le (by omega)) rfl rfl ?_
  exact Go.vret d_Teacher_readDay_29 rfl ⟨rfl, by dsimp only; done, rfl⟩
set_option maxHeartbeats 400000 in
theorem wfσ_Teacher_readDay {K : TK} {F : FM} {E : TE} {N0 : NM} {N1 : NM} {N2 : NM} {N3 : NM} {N4 : NM} {T : TM} {σ : GL} (h : WFG σ) : WFG (s_Teacher_readDay K F E N0 N1 N2 N3 N4 T σ).2.2 := by
  unfold s_Teacher_readDay
  (repeat' split) <;> (try dsimp only) <;> exact WFG.of h (fun j => gN_Glacier_changeWarmth j)
theorem d_Teacher_readGo_0 : decode M_Teacher_readGo.2.1 0 = .ok (.aload_n 0, 1) := by decide +kernel
theorem d_Teacher_readGo_1 : decode M_Teacher_readGo.2.1 1 = .ok (.iload_n 1, 1) := by decide +kernel
theorem d_Teacher_readGo_2 : decode M_Teacher_readGo.2.1 2 = .ok (.invokevirtual 204, 3) := by decide +kernel
theorem d_Teacher_readGo_5 : decode M_Teacher_readGo.2.1 5 = .ok (.aload_n 0, 1) := by decide +kernel
theorem d_Teacher_readGo_6 : decode M_Teacher_readGo.2.1 6 = .ok (.getfield 42, 3) := by decide +kernel
theorem d_Teacher_readGo_9 : decode M_Teacher_readGo.2.1 9 = .ok (.iconst 1, 1) := by decide +kernel
theorem d_Teacher_readGo_10 : decode M_Teacher_readGo.2.1 10 = .ok (.aload_n 0, 1) := by decide +kernel
theorem d_Teacher_readGo_11 : decode M_Teacher_readGo.2.1 11 = .ok (.aload_n 0, 1) := by decide +kernel
theorem d_Teacher_readGo_12 : decode M_Teacher_readGo.2.1 12 = .ok (.getfield 34, 3) := by decide +kernel
theorem d_Teacher_readGo_15 : decode M_Teacher_readGo.2.1 15 = .ok (.invokevirtual 62, 3) := by decide +kernel
theorem d_Teacher_readGo_18 : decode M_Teacher_readGo.2.1 18 = .ok (.aload_n 0, 1) := by decide +kernel
theorem d_Teacher_readGo_19 : decode M_Teacher_readGo.2.1 19 = .ok (.getfield 27, 3) := by decide +kernel
theorem d_Teacher_readGo_22 : decode M_Teacher_readGo.2.1 22 = .ok (.invokevirtual 163, 3) := by decide +kernel
theorem d_Teacher_readGo_25 : decode M_Teacher_readGo.2.1 25 = .ok (.invokevirtual 207, 3) := by decide +kernel
theorem d_Teacher_readGo_28 : decode M_Teacher_readGo.2.1 28 = .ok (.return_, 1) := by decide +kernel
def s_Teacher_readGo (K : TK) (F : FM) (E : TE) (N0 : NM) (N1 : NM) (N2 : NM) (N3 : NM) (N4 : NM) (T : TM) (σ : GL) (x1 : Int32) : TK × TE × TM := ((s_Teacher_oldName K (s_Teacher_newOrder T F K E x1).2 N4 (s_Tokens_sign K)).2.1, (s_Teacher_oldName K (s_Teacher_newOrder T F K E x1).2 N4 (s_Tokens_sign K)).2.2, (s_Orders_note (s_Teacher_newOrder T F K E x1).1 F 1 (s_Teacher_oldName K (s_Teacher_newOrder T F K E x1).2 N4 (s_Tokens_sign K)).1))
set_option maxRecDepth 100000 in
set_option maxHeartbeats 800000 in
theorem c_Teacher_readGo {Γ : G9} {sg : Nat → Nat} {sw : Nat} {h : AH} {y g o u z : Nat} {K : TK} {F : FM} {E : TE} {N0 : NM} {N1 : NM} {N2 : NM} {N3 : NM} {N4 : NM} {T : TM} {σ : GL} {x1 : Int32} (hs : SgOk Γ sg) (hsn : SgNe sg) (hw : SwOk Γ sw) (geo : y + 4 ≤ g ∧ g + 12 ≤ o ∧ o + 7 ≤ u) (hN0 : nm_sz N0 ≤ 6) (hN1 : nm_sz N1 ≤ 6) (hN2 : nm_sz N2 ≤ 6) (hN3 : nm_sz N3 ≤ 6) (hN4 : nm_sz N4 ≤ 6) (ho : h o = some (.inr (3, [.ref (o + 1), .ref (o + 3)]))) (hT : T.2 ≤ 20) (hW : WFG σ) : CallR Γ M_Teacher_readGo 3 [.ref u, .int x1] (rw_ Γ sg (blk (blk h g 12 (glC Γ g σ)) (o + 1) 2 (tbC Γ 20 (o + 1) T)) y g o u K F E N0 N1 N2 N3 N4) z none (rw_ Γ sg (blk (blk h g 12 (glC Γ g σ)) (o + 1) 2 (tbC Γ 20 (o + 1) (s_Teacher_readGo K F E N0 N1 N2 N3 N4 T σ x1).2.2)) y g o u (s_Teacher_readGo K F E N0 N1 N2 N3 N4 T σ x1).1 F (s_Teacher_readGo K F E N0 N1 N2 N3 N4 T σ x1).2.1 N0 N1 N2 N3 N4) := by
  refine Call.of_go (L := [some (.ref u), some (.int x1)]) (by decide +kernel) rfl (by exact Nat.le_of_ble_eq_true rfl) ?_
  unfold s_Teacher_readGo
  refine Go.aload_0 d_Teacher_readGo_0 rfl ?_
  refine Go.iload_1 d_Teacher_readGo_1 rfl ?_
  refine Go.cv1v d_Teacher_readGo_2 rfl l_Teacher_204 k_Teacher_newOrder_v (rw_u (by omega)) rfl (w2_Teacher_newOrder hs hsn (by omega) hN0 hN1 hN2 hN3 hN4 ho hT hW) (Nat.ble_eq_true_of_le (by omega)) rfl rfl ?_
  refine Go.aload_0 d_Teacher_readGo_5 rfl ?_
  refine Go.getfield d_Teacher_readGo_6 rfl f_Teacher_42 (rw_u (by omega)) (by rfl) ?_
  refine Go.iconst (v := 1) d_Teacher_readGo_9 rfl (by decide) ?_
  refine Go.aload_0 d_Teacher_readGo_10 rfl ?_
  refine Go.aload_0 d_Teacher_readGo_11 rfl ?_
  refine Go.getfield d_Teacher_readGo_12 rfl f_Teacher_34 (rw_u (by omega)) (by rfl) ?_
  refine Go.cv0r d_Teacher_readGo_15 rfl l_Teacher_62 k_Tokens_sign_v (rw_y (by omega)) rfl (w1_Tokens_sign hs hsn (by omega) hN0 hN1 hN2 hN3 hN4) (Nat.ble_eq_true_of_le (by omega)) rfl rfl ?_
  refine Go.aload_0 d_Teacher_readGo_18 rfl ?_
  refine Go.getfield d_Teacher_readGo_19 rfl f_Teacher_27 (rw_u (by omega)) (by rfl) ?_
  refine Go.cv2r d_Teacher_readGo_22 rfl l_Teacher_163 k_Teacher_oldName_v (rw_u (by omega)) rfl (w1_Teacher_oldName_4 (x1 := (s_Tokens_sign K)) hs hsn (by omega) hN0 hN1 hN2 hN3 hN4) (Nat.ble_eq_true_of_le (by omega)) rfl rfl ?_
  refine Go.cv2v d_Teacher_readGo_25 rfl l_Teacher_207 k_Orders_note_v (rw_o geo ho) rfl (w2_Orders_note (x1 := 1) rfl (by omega) hs hsn (by omega) hN0 hN1 hN2 hN3 hN4 ho (newOrder_le hT) hW) (Nat.ble_eq_true_of_le (by omega)) rfl rfl ?_
  exact Go.vret d_Teacher_readGo_28 rfl ⟨rfl, by dsimp only; done, rfl⟩
set_option maxHeartbeats 400000 in
theorem wfT_Teacher_readGo {K : TK} {F : FM} {E : TE} {N0 : NM} {N1 : NM} {N2 : NM} {N3 : NM} {N4 : NM} {T : TM} {σ : GL} {x1 : Int32} (h : T.2 ≤ 20) : (s_Teacher_readGo K F E N0 N1 N2 N3 N4 T σ x1).2.2.2 ≤ 20 := by
  unfold s_Teacher_readGo
  (repeat' split) <;> (try dsimp only) <;> (repeat' (first | refine note_le ?_ | refine newOrder_le ?_)) <;> exact h
theorem d_Teacher_readProbe_0 : decode M_Teacher_readProbe.2.1 0 = .ok (.aload_n 0, 1) := by decide +kernel
theorem d_Teacher_readProbe_1 : decode M_Teacher_readProbe.2.1 1 = .ok (.iconst 2, 1) := by decide +kernel
theorem d_Teacher_readProbe_2 : decode M_Teacher_readProbe.2.1 2 = .ok (.invokevirtual 204, 3) := by decide +kernel
theorem d_Teacher_readProbe_5 : decode M_Teacher_readProbe.2.1 5 = .ok (.aload_n 0, 1) := by decide +kernel
theorem d_Teacher_readProbe_6 : decode M_Teacher_readProbe.2.1 6 = .ok (.getfield 42, 3) := by decide +kernel
theorem d_Teacher_readProbe_9 : decode M_Teacher_readProbe.2.1 9 = .ok (.iconst 2, 1) := by decide +kernel
theorem d_Teacher_readProbe_10 : decode M_Teacher_readProbe.2.1 10 = .ok (.aload_n 0, 1) := by decide +kernel
theorem d_Teacher_readProbe_11 : decode M_Teacher_readProbe.2.1 11 = .ok (.getstatic 210, 3) := by decide +kernel
theorem d_Teacher_readProbe_14 : decode M_Teacher_readProbe.2.1 14 = .ok (.aload_n 0, 1) := by decide +kernel
theorem d_Teacher_readProbe_15 : decode M_Teacher_readProbe.2.1 15 = .ok (.getfield 21, 3) := by decide +kernel
theorem d_Teacher_readProbe_18 : decode M_Teacher_readProbe.2.1 18 = .ok (.invokevirtual 163, 3) := by decide +kernel
theorem d_Teacher_readProbe_21 : decode M_Teacher_readProbe.2.1 21 = .ok (.invokevirtual 207, 3) := by decide +kernel
theorem d_Teacher_readProbe_24 : decode M_Teacher_readProbe.2.1 24 = .ok (.aload_n 0, 1) := by decide +kernel
theorem d_Teacher_readProbe_25 : decode M_Teacher_readProbe.2.1 25 = .ok (.getfield 42, 3) := by decide +kernel
theorem d_Teacher_readProbe_28 : decode M_Teacher_readProbe.2.1 28 = .ok (.iconst 1, 1) := by decide +kernel
theorem d_Teacher_readProbe_29 : decode M_Teacher_readProbe.2.1 29 = .ok (.aload_n 0, 1) := by decide +kernel
theorem d_Teacher_readProbe_30 : decode M_Teacher_readProbe.2.1 30 = .ok (.getstatic 213, 3) := by decide +kernel
theorem d_Teacher_readProbe_33 : decode M_Teacher_readProbe.2.1 33 = .ok (.aload_n 0, 1) := by decide +kernel
theorem d_Teacher_readProbe_34 : decode M_Teacher_readProbe.2.1 34 = .ok (.getfield 27, 3) := by decide +kernel
theorem d_Teacher_readProbe_37 : decode M_Teacher_readProbe.2.1 37 = .ok (.invokevirtual 163, 3) := by decide +kernel
theorem d_Teacher_readProbe_40 : decode M_Teacher_readProbe.2.1 40 = .ok (.invokevirtual 207, 3) := by decide +kernel
theorem d_Teacher_readProbe_43 : decode M_Teacher_readProbe.2.1 43 = .ok (.return_, 1) := by decide +kernel
def s_Teacher_readProbe (K : TK) (F : FM) (E : TE) (N0 : NM) (N1 : NM) (N2 : NM) (N3 : NM) (N4 : NM) (T : TM) (σ : GL) : TK × TE × TM := ((s_Teacher_oldName (s_Teacher_oldName K (s_Teacher_newOrder T F K E 2).2 N2 (17 : Fin 54)).2.1 (s_Teacher_oldName K (s_Teacher_newOrder T F K E 2).2 N2 (17 : Fin 54)).2.2 N4 (18 : Fin 54)).2.1, (s_Teacher_oldName (s_Teacher_oldName K (s_Teacher_newOrder T F K E 2).2 N2 (17 : Fin 54)).2.1 (s_Teacher_oldName K (s_Teacher_newOrder T F K E 2).2 N2 (17 : Fin 54)).2.2 N4 (18 : Fin 54)).2.2, (s_Orders_note (s_Orders_note (s_Teacher_newOrder T F K E 2).1 F 2 (s_Teacher_oldName K (s_Teacher_newOrder T F K E 2).2 N2 (17 : Fin 54)).1) F 1 (s_Teacher_oldName (s_Teacher_oldName K (s_Teacher_newOrder T F K E 2).2 N2 (17 : Fin 54)).2.1 (s_Teacher_oldName K (s_Teacher_newOrder T F K E 2).2 N2 (17 : Fin 54)).2.2 N4 (18 : Fin 54)).1))
set_option maxRecDepth 100000 in
set_option maxHeartbeats 800000 in
theorem c_Teacher_readProbe {Γ : G9} {sg : Nat → Nat} {sw : Nat} {h : AH} {y g o u z : Nat} {K : TK} {F : FM} {E : TE} {N0 : NM} {N1 : NM} {N2 : NM} {N3 : NM} {N4 : NM} {T : TM} {σ : GL} (hs : SgOk Γ sg) (hsn : SgNe sg) (hw : SwOk Γ sw) (geo : y + 4 ≤ g ∧ g + 12 ≤ o ∧ o + 7 ≤ u) (hN0 : nm_sz N0 ≤ 6) (hN1 : nm_sz N1 ≤ 6) (hN2 : nm_sz N2 ≤ 6) (hN3 : nm_sz N3 ≤ 6) (hN4 : nm_sz N4 ≤ 6) (ho : h o = some (.inr (3, [.ref (o + 1), .ref (o + 3)]))) (hT : T.2 ≤ 20) (hW : WFG σ) : CallR Γ M_Teacher_readProbe 3 [.ref u] (rw_ Γ sg (blk (blk h g 12 (glC Γ g σ)) (o + 1) 2 (tbC Γ 20 (o + 1) T)) y g o u K F E N0 N1 N2 N3 N4) z none (rw_ Γ sg (blk (blk h g 12 (glC Γ g σ)) (o + 1) 2 (tbC Γ 20 (o + 1) (s_Teacher_readProbe K F E N0 N1 N2 N3 N4 T σ).2.2)) y g o u (s_Teacher_readProbe K F E N0 N1 N2 N3 N4 T σ).1 F (s_Teacher_readProbe K F E N0 N1 N2 N3 N4 T σ).2.1 N0 N1 N2 N3 N4) := by
  refine Call.of_go (L := [some (.ref u)]) (by decide +kernel) rfl (by exact Nat.le_of_ble_eq_true rfl) ?_
  unfold s_Teacher_readProbe
  refine Go.aload_0 d_Teacher_readProbe_0 rfl ?_
  refine Go.iconst (v := 2) d_Teacher_readProbe_1 rfl (by decide) ?_
  refine Go.cv1v d_Teacher_readProbe_2 rfl l_Teacher_204 k_Teacher_newOrder_v (rw_u (by omega)) rfl (w2_Teacher_newOrder hs hsn (by omega) hN0 hN1 hN2 hN3 hN4 ho hT hW) (Nat.ble_eq_true_of_le (by omega)) rfl rfl ?_
  refine Go.aload_0 d_Teacher_readProbe_5 rfl ?_
  refine Go.getfield d_Teacher_readProbe_6 rfl f_Teacher_42 (rw_u (by omega)) (by rfl) ?_
  refine Go.iconst (v := 2) d_Teacher_readProbe_9 rfl (by decide) ?_
  refine Go.aload_0 d_Teacher_readProbe_10 rfl ?_
  refine Go.gets d_Teacher_readProbe_11 rfl x_Teacher_210 (hs.z (i := 17) rfl) ?_
  refine Go.aload_0 d_Teacher_readProbe_14 rfl ?_
  refine Go.getfield d_Teacher_readProbe_15 rfl f_Teacher_21 (rw_u (by omega)) (by rfl) ?_
  refine Go.cv2r d_Teacher_readProbe_18 rfl l_Teacher_163 k_Teacher_oldName_v (rw_u (by omega)) rfl (w1_Teacher_oldName_2 (x1 := (17 : Fin 54)) hs hsn (by omega) hN0 hN1 hN2 hN3 hN4) (Nat.ble_eq_true_of_le (by omega)) rfl rfl ?_
  refine Go.cv2v d_Teacher_readProbe_21 rfl l_Teacher_207 k_Orders_note_v (rw_o geo ho) rfl (w2_Orders_note (x1 := 2) rfl (by omega) hs hsn (by omega) hN0 hN1 hN2 hN3 hN4 ho (newOrder_le hT) hW) (Nat.ble_eq_true_of_le (by omega)) rfl rfl ?_
  refine Go.aload_0 d_Teacher_readProbe_24 rfl ?_
  refine Go.getfield d_Teacher_readProbe_25 rfl f_Teacher_42 (rw_u (by omega)) (by rfl) ?_
  refine Go.iconst (v := 1) d_Teacher_readProbe_28 rfl (by decide) ?_
  refine Go.aload_0 d_Teacher_readProbe_29 rfl ?_
  refine Go.gets d_Teacher_readProbe_30 rfl x_Teacher_213 (hs.z (i := 18) rfl) ?_
  refine Go.aload_0 d_Teacher_readProbe_33 rfl ?_
  refine Go.getfield d_Teacher_readProbe_34 rfl f_Teacher_27 (rw_u (by omega)) (by rfl) ?_
  refine Go.cv2r d_Teacher_readProbe_37 rfl l_Teacher_163 k_Teacher_oldName_v (rw_u (by omega)) rfl (w1_Teacher_oldName_4 (x1 := (18 : Fin 54)) hs hsn (by omega) hN0 hN1 hN2 hN3 hN4) (Nat.ble_eq_true_of_le (by omega)) rfl rfl ?_
  refine Go.cv2v d_Teacher_readProbe_40 rfl l_Teacher_207 k_Orders_note_v (rw_o geo ho) rfl (w2_Orders_note (x1 := 1) rfl (by omega) hs hsn (by omega) hN0 hN1 hN2 hN3 hN4 ho (note_le (newOrder_le hT)) hW) (Nat.ble_eq_true_of_le (by omega)) rfl rfl ?_
  exact Go.vret d_Teacher_readProbe_43 rfl ⟨rfl, by dsimp only; done, rfl⟩
set_option maxHeartbeats 400000 in
theorem wfT_Teacher_readProbe {K : TK} {F : FM} {E : TE} {N0 : NM} {N1 : NM} {N2 : NM} {N3 : NM} {N4 : NM} {T : TM} {σ : GL} (h : T.2 ≤ 20) : (s_Teacher_readProbe K F E N0 N1 N2 N3 N4 T σ).2.2.2 ≤ 20 := by
  unfold s_Teacher_readProbe
  (repeat' split) <;> (try dsimp only) <;> (repeat' (first | refine note_le ?_ | refine newOrder_le ?_)) <;> exact h
theorem d_Teacher_readFill_0 : decode M_Teacher_readFill.2.1 0 = .ok (.aload_n 0, 1) := by decide +kernel
theorem d_Teacher_readFill_1 : decode M_Teacher_readFill.2.1 1 = .ok (.iconst 3, 1) := by decide +kernel
theorem d_Teacher_readFill_2 : decode M_Teacher_readFill.2.1 2 = .ok (.invokevirtual 204, 3) := by decide +kernel
theorem d_Teacher_readFill_5 : decode M_Teacher_readFill.2.1 5 = .ok (.aload_n 0, 1) := by decide +kernel
theorem d_Teacher_readFill_6 : decode M_Teacher_readFill.2.1 6 = .ok (.getfield 42, 3) := by decide +kernel
theorem d_Teacher_readFill_9 : decode M_Teacher_readFill.2.1 9 = .ok (.iconst 1, 1) := by decide +kernel
theorem d_Teacher_readFill_10 : decode M_Teacher_readFill.2.1 10 = .ok (.aload_n 0, 1) := by decide +kernel
theorem d_Teacher_readFill_11 : decode M_Teacher_readFill.2.1 11 = .ok (.getstatic 216, 3) := by decide +kernel
theorem d_Teacher_readFill_14 : decode M_Teacher_readFill.2.1 14 = .ok (.aload_n 0, 1) := by decide +kernel
theorem d_Teacher_readFill_15 : decode M_Teacher_readFill.2.1 15 = .ok (.getfield 27, 3) := by decide +kernel
theorem d_Teacher_readFill_18 : decode M_Teacher_readFill.2.1 18 = .ok (.invokevirtual 163, 3) := by decide +kernel
theorem d_Teacher_readFill_21 : decode M_Teacher_readFill.2.1 21 = .ok (.invokevirtual 207, 3) := by decide +kernel
theorem d_Teacher_readFill_24 : decode M_Teacher_readFill.2.1 24 = .ok (.aload_n 0, 1) := by decide +kernel
theorem d_Teacher_readFill_25 : decode M_Teacher_readFill.2.1 25 = .ok (.getfield 34, 3) := by decide +kernel
theorem d_Teacher_readFill_28 : decode M_Teacher_readFill.2.1 28 = .ok (.getstatic 219, 3) := by decide +kernel
theorem d_Teacher_readFill_31 : decode M_Teacher_readFill.2.1 31 = .ok (.invokevirtual 124, 3) := by decide +kernel
theorem d_Teacher_readFill_34 : decode M_Teacher_readFill.2.1 34 = .ok (.aload_n 0, 1) := by decide +kernel
theorem d_Teacher_readFill_35 : decode M_Teacher_readFill.2.1 35 = .ok (.getfield 42, 3) := by decide +kernel
theorem d_Teacher_readFill_38 : decode M_Teacher_readFill.2.1 38 = .ok (.iconst 3, 1) := by decide +kernel
theorem d_Teacher_readFill_39 : decode M_Teacher_readFill.2.1 39 = .ok (.aload_n 0, 1) := by decide +kernel
theorem d_Teacher_readFill_40 : decode M_Teacher_readFill.2.1 40 = .ok (.getfield 52, 3) := by decide +kernel
theorem d_Teacher_readFill_43 : decode M_Teacher_readFill.2.1 43 = .ok (.invokevirtual 222, 3) := by decide +kernel
theorem d_Teacher_readFill_46 : decode M_Teacher_readFill.2.1 46 = .ok (.invokevirtual 207, 3) := by decide +kernel
theorem d_Teacher_readFill_49 : decode M_Teacher_readFill.2.1 49 = .ok (.aload_n 0, 1) := by decide +kernel
theorem d_Teacher_readFill_50 : decode M_Teacher_readFill.2.1 50 = .ok (.iconst 0, 1) := by decide +kernel
theorem d_Teacher_readFill_51 : decode M_Teacher_readFill.2.1 51 = .ok (.invokevirtual 227, 3) := by decide +kernel
theorem d_Teacher_readFill_54 : decode M_Teacher_readFill.2.1 54 = .ok (.aload_n 0, 1) := by decide +kernel
theorem d_Teacher_readFill_55 : decode M_Teacher_readFill.2.1 55 = .ok (.getfield 42, 3) := by decide +kernel
theorem d_Teacher_readFill_58 : decode M_Teacher_readFill.2.1 58 = .ok (.iconst 4, 1) := by decide +kernel
theorem d_Teacher_readFill_59 : decode M_Teacher_readFill.2.1 59 = .ok (.aload_n 0, 1) := by decide +kernel
theorem d_Teacher_readFill_60 : decode M_Teacher_readFill.2.1 60 = .ok (.getfield 52, 3) := by decide +kernel
theorem d_Teacher_readFill_63 : decode M_Teacher_readFill.2.1 63 = .ok (.invokevirtual 222, 3) := by decide +kernel
theorem d_Teacher_readFill_66 : decode M_Teacher_readFill.2.1 66 = .ok (.invokevirtual 207, 3) := by decide +kernel
theorem d_Teacher_readFill_69 : decode M_Teacher_readFill.2.1 69 = .ok (.return_, 1) := by decide +kernel
def s_Teacher_readFill (K : TK) (F : FM) (E : TE) (N0 : NM) (N1 : NM) (N2 : NM) (N3 : NM) (N4 : NM) (T : TM) (σ : GL) : TK × FM × TE × TM := ((rd_ N0 N1 N2 N3 N4 64 3 0 0 ((s_Tokens_expect (s_Teacher_oldName K (s_Teacher_newOrder T F K E 3).2 N4 (19 : Fin 54)).2.1 (20 : Fin 54)), F, (s_Teacher_oldName K (s_Teacher_newOrder T F K E 3).2 N4 (19 : Fin 54)).2.2)).1, (rd_ N0 N1 N2 N3 N4 64 3 0 0 ((s_Tokens_expect (s_Teacher_oldName K (s_Teacher_newOrder T F K E 3).2 N4 (19 : Fin 54)).2.1 (20 : Fin 54)), F, (s_Teacher_oldName K (s_Teacher_newOrder T F K E 3).2 N4 (19 : Fin 54)).2.2)).2.1, (rd_ N0 N1 N2 N3 N4 64 3 0 0 ((s_Tokens_expect (s_Teacher_oldName K (s_Teacher_newOrder T F K E 3).2 N4 (19 : Fin 54)).2.1 (20 : Fin 54)), F, (s_Teacher_oldName K (s_Teacher_newOrder T F K E 3).2 N4 (19 : Fin 54)).2.2)).2.2, (s_Orders_note (s_Orders_note (s_Orders_note (s_Teacher_newOrder T F K E 3).1 F 1 (s_Teacher_oldName K (s_Teacher_newOrder T F K E 3).2 N4 (19 : Fin 54)).1) F 3 (s_Formulas_size F)) (rd_ N0 N1 N2 N3 N4 64 3 0 0 ((s_Tokens_expect (s_Teacher_oldName K (s_Teacher_newOrder T F K E 3).2 N4 (19 : Fin 54)).2.1 (20 : Fin 54)), F, (s_Teacher_oldName K (s_Teacher_newOrder T F K E 3).2 N4 (19 : Fin 54)).2.2)).2.1 4 (s_Formulas_size (rd_ N0 N1 N2 N3 N4 64 3 0 0 ((s_Tokens_expect (s_Teacher_oldName K (s_Teacher_newOrder T F K E 3).2 N4 (19 : Fin 54)).2.1 (20 : Fin 54)), F, (s_Teacher_oldName K (s_Teacher_newOrder T F K E 3).2 N4 (19 : Fin 54)).2.2)).2.1)))
set_option maxRecDepth 100000 in
set_option maxHeartbeats 800000 in
theorem c_Teacher_readFill {Γ : G9} {sg : Nat → Nat} {sw : Nat} {h : AH} {y g o u z : Nat} {K : TK} {F : FM} {E : TE} {N0 : NM} {N1 : NM} {N2 : NM} {N3 : NM} {N4 : NM} {T : TM} {σ : GL} (hs : SgOk Γ sg) (hsn : SgNe sg) (hw : SwOk Γ sw) (geo : y + 4 ≤ g ∧ g + 12 ≤ o ∧ o + 7 ≤ u) (hN0 : nm_sz N0 ≤ 6) (hN1 : nm_sz N1 ≤ 6) (hN2 : nm_sz N2 ≤ 6) (hN3 : nm_sz N3 ≤ 6) (hN4 : nm_sz N4 ≤ 6) (ho : h o = some (.inr (3, [.ref (o + 1), .ref (o + 3)]))) (hT : T.2 ≤ 20) (hW : WFG σ) : CallR Γ M_Teacher_readFill 71 [.ref u] (rw_ Γ sg (blk (blk h g 12 (glC Γ g σ)) (o + 1) 2 (tbC Γ 20 (o + 1) T)) y g o u K F E N0 N1 N2 N3 N4) z none (rw_ Γ sg (blk (blk h g 12 (glC Γ g σ)) (o + 1) 2 (tbC Γ 20 (o + 1) (s_Teacher_readFill K F E N0 N1 N2 N3 N4 T σ).2.2.2)) y g o u (s_Teacher_readFill K F E N0 N1 N2 N3 N4 T σ).1 (s_Teacher_readFill K F E N0 N1 N2 N3 N4 T σ).2.1 (s_Teacher_readFill K F E N0 N1 N2 N3 N4 T σ).2.2.1 N0 N1 N2 N3 N4) := by
  refine Call.of_go (L := [some (.ref u)]) (by decide +kernel) rfl (by exact Nat.le_of_ble_eq_true rfl) ?_
  unfold s_Teacher_readFill
  refine Go.aload_0 d_Teacher_readFill_0 rfl ?_
  refine Go.iconst (v := 3) d_Teacher_readFill_1 rfl (by decide) ?_
  refine Go.cv1v d_Teacher_readFill_2 rfl l_Teacher_204 k_Teacher_newOrder_v (rw_u (by omega)) rfl (w2_Teacher_newOrder hs hsn (by omega) hN0 hN1 hN2 hN3 hN4 ho hT hW) (Nat.ble_eq_true_of_le (by omega)) rfl rfl ?_
  refine Go.aload_0 d_Teacher_readFill_5 rfl ?_
  refine Go.getfield d_Teacher_readFill_6 rfl f_Teacher_42 (rw_u (by omega)) (by rfl) ?_
  refine Go.iconst (v := 1) d_Teacher_readFill_9 rfl (by decide) ?_
  refine Go.aload_0 d_Teacher_readFill_10 rfl ?_
  refine Go.gets d_Teacher_readFill_11 rfl x_Teacher_216 (hs.z (i := 19) rfl) ?_
  refine Go.aload_0 d_Teacher_readFill_14 rfl ?_
  refine Go.getfield d_Teacher_readFill_15 rfl f_Teacher_27 (rw_u (by omega)) (by rfl) ?_
  refine Go.cv2r d_Teacher_readFill_18 rfl l_Teacher_163 k_Teacher_oldName_v (rw_u (by omega)) rfl (w1_Teacher_oldName_4 (x1 := (19 : Fin 54)) hs hsn (by omega) hN0 hN1 hN2 hN3 hN4) (Nat.ble_eq_true_of_le (by omega)) rfl rfl ?_
  refine Go.cv2v d_Teacher_readFill_21 rfl l_Teacher_207 k_Orders_note_v (rw_o geo ho) rfl (w2_Orders_note (x1 := 1) rfl (by omega) hs hsn (by omega) hN0 hN1 hN2 hN3 hN4 ho (newOrder_le hT) hW) (Nat.ble_eq_true_of_le (by omega)) rfl rfl ?_
  refine Go.aload_0 d_Teacher_readFill_24 rfl ?_
  refine Go.getfield d_Teacher_readFill_25 rfl f_Teacher_34 (rw_u (by omega)) (by rfl) ?_
  refine Go.gets d_Teacher_readFill_28 rfl x_Teacher_219 (hs.z (i := 20) rfl) ?_
  refine Go.cv1v d_Teacher_readFill_31 rfl l_Teacher_124 k_Tokens_expect_v (rw_y (by omega)) rfl (w1_Tokens_expect (x1 := (20 : Fin 54)) hs hsn (by omega) hN0 hN1 hN2 hN3 hN4) (Nat.ble_eq_true_of_le (by omega)) rfl rfl ?_
  refine Go.aload_0 d_Teacher_readFill_34 rfl ?_
  refine Go.getfield d_Teacher_readFill_35 rfl f_Teacher_42 (rw_u (by omega)) (by rfl) ?_
  refine Go.iconst (v := 3) d_Teacher_readFill_38 rfl (by decide) ?_
  refine Go.aload_0 d_Teacher_readFill_39 rfl ?_
  refine Go.getfield d_Teacher_readFill_40 rfl f_Teacher_52 (rw_u (by omega)) (by rfl) ?_
  refine Go.cv0r d_Teacher_readFill_43 rfl l_Teacher_222 k_Formulas_size_v (rw_f (by omega)) rfl (w1_Formulas_size hs hsn (by omega) hN0 hN1 hN2 hN3 hN4) (Nat.ble_eq_true_of_le (by omega)) rfl rfl ?_
  refine Go.cv2v d_Teacher_readFill_46 rfl l_Teacher_207 k_Orders_note_v (rw_o geo ho) rfl (w2_Orders_note (x1 := 3) rfl (by omega) hs hsn (by omega) hN0 hN1 hN2 hN3 hN4 ho (note_le (newOrder_le hT)) hW) (Nat.ble_eq_true_of_le (by omega)) rfl rfl ?_
  refine Go.aload_0 d_Teacher_readFill_49 rfl ?_
  refine Go.iconst (v := 0) d_Teacher_readFill_50 rfl (by decide) ?_
  refine Go.cv1v d_Teacher_readFill_51 rfl l_Teacher_227 k_Teacher_readSum_v (rw_u (by omega)) rfl ((rd_go hs hsn hw (show y + 4 ≤ o ∧ o + 7 ≤ u by omega) hN0 hN1 hN2 hN3 hN4 64).2.2.2.1 0 _ _ _ (by omega) (by omega)) (Nat.ble_eq_true_of_le (by omega)) rfl rfl ?_
  refine Go.aload_0 d_Teacher_readFill_54 rfl ?_
  refine Go.getfield d_Teacher_readFill_55 rfl f_Teacher_42 (rw_u (by omega)) (by rfl) ?_
  refine Go.iconst (v := 4) d_Teacher_readFill_58 rfl (by decide) ?_
  refine Go.aload_0 d_Teacher_readFill_59 rfl ?_
  refine Go.getfield d_Teacher_readFill_60 rfl f_Teacher_52 (rw_u (by omega)) (by rfl) ?_
  refine Go.cv0r d_Teacher_readFill_63 rfl l_Teacher_222 k_Formulas_size_v (rw_f (by omega)) rfl (w1_Formulas_size hs hsn (by omega) hN0 hN1 hN2 hN3 hN4) (Nat.ble_eq_true_of_le (by omega)) rfl rfl ?_
  refine Go.cv2v d_Teacher_readFill_66 rfl l_Teacher_207 k_Orders_note_v (rw_o geo ho) rfl (w2_Orders_note (x1 := 4) rfl (by omega) hs hsn (by omega) hN0 hN1 hN2 hN3 hN4 ho (note_le (note_le (newOrder_le hT))) hW) (Nat.ble_eq_true_of_le (by omega)) rfl rfl ?_
  exact Go.vret d_Teacher_readFill_69 rfl ⟨rfl, by dsimp only; done, rfl⟩
set_option maxHeartbeats 400000 in
theorem wfT_Teacher_readFill {K : TK} {F : FM} {E : TE} {N0 : NM} {N1 : NM} {N2 : NM} {N3 : NM} {N4 : NM} {T : TM} {σ : GL} (h : T.2 ≤ 20) : (s_Teacher_readFill K F E N0 N1 N2 N3 N4 T σ).2.2.2.2 ≤ 20 := by
  unfold s_Teacher_readFill
  (repeat' split) <;> (try dsimp only) <;> (repeat' (first | refine note_le ?_ | refine newOrder_le ?_)) <;> exact h
theorem d_Teacher_readDrill_0 : decode M_Teacher_readDrill.2.1 0 = .ok (.aload_n 0, 1) := by decide +kernel
theorem d_Teacher_readDrill_1 : decode M_Teacher_readDrill.2.1 1 = .ok (.iconst 4, 1) := by decide +kernel
theorem d_Teacher_readDrill_2 : decode M_Teacher_readDrill.2.1 2 = .ok (.invokevirtual 204, 3) := by decide +kernel
theorem d_Teacher_readDrill_5 : decode M_Teacher_readDrill.2.1 5 = .ok (.aload_n 0, 1) := by decide +kernel
theorem d_Teacher_readDrill_6 : decode M_Teacher_readDrill.2.1 6 = .ok (.getfield 42, 3) := by decide +kernel
theorem d_Teacher_readDrill_9 : decode M_Teacher_readDrill.2.1 9 = .ok (.iconst 2, 1) := by decide +kernel
theorem d_Teacher_readDrill_10 : decode M_Teacher_readDrill.2.1 10 = .ok (.aload_n 0, 1) := by decide +kernel
theorem d_Teacher_readDrill_11 : decode M_Teacher_readDrill.2.1 11 = .ok (.getstatic 230, 3) := by decide +kernel
theorem d_Teacher_readDrill_14 : decode M_Teacher_readDrill.2.1 14 = .ok (.aload_n 0, 1) := by decide +kernel
theorem d_Teacher_readDrill_15 : decode M_Teacher_readDrill.2.1 15 = .ok (.getfield 18, 3) := by decide +kernel
theorem d_Teacher_readDrill_18 : decode M_Teacher_readDrill.2.1 18 = .ok (.invokevirtual 163, 3) := by decide +kernel
theorem d_Teacher_readDrill_21 : decode M_Teacher_readDrill.2.1 21 = .ok (.invokevirtual 207, 3) := by decide +kernel
theorem d_Teacher_readDrill_24 : decode M_Teacher_readDrill.2.1 24 = .ok (.return_, 1) := by decide +kernel
def s_Teacher_readDrill (K : TK) (F : FM) (E : TE) (N0 : NM) (N1 : NM) (N2 : NM) (N3 : NM) (N4 : NM) (T : TM) (σ : GL) : TK × TE × TM := ((s_Teacher_oldName K (s_Teacher_newOrder T F K E 4).2 N1 (21 : Fin 54)).2.1, (s_Teacher_oldName K (s_Teacher_newOrder T F K E 4).2 N1 (21 : Fin 54)).2.2, (s_Orders_note (s_Teacher_newOrder T F K E 4).1 F 2 (s_Teacher_oldName K (s_Teacher_newOrder T F K E 4).2 N1 (21 : Fin 54)).1))
set_option maxRecDepth 100000 in
set_option maxHeartbeats 800000 in
theorem c_Teacher_readDrill {Γ : G9} {sg : Nat → Nat} {sw : Nat} {h : AH} {y g o u z : Nat} {K : TK} {F : FM} {E : TE} {N0 : NM} {N1 : NM} {N2 : NM} {N3 : NM} {N4 : NM} {T : TM} {σ : GL} (hs : SgOk Γ sg) (hsn : SgNe sg) (hw : SwOk Γ sw) (geo : y + 4 ≤ g ∧ g + 12 ≤ o ∧ o + 7 ≤ u) (hN0 : nm_sz N0 ≤ 6) (hN1 : nm_sz N1 ≤ 6) (hN2 : nm_sz N2 ≤ 6) (hN3 : nm_sz N3 ≤ 6) (hN4 : nm_sz N4 ≤ 6) (ho : h o = some (.inr (3, [.ref (o + 1), .ref (o + 3)]))) (hT : T.2 ≤ 20) (hW : WFG σ) : CallR Γ M_Teacher_readDrill 3 [.ref u] (rw_ Γ sg (blk (blk h g 12 (glC Γ g σ)) (o + 1) 2 (tbC Γ 20 (o + 1) T)) y g o u K F E N0 N1 N2 N3 N4) z none (rw_ Γ sg (blk (blk h g 12 (glC Γ g σ)) (o + 1) 2 (tbC Γ 20 (o + 1) (s_Teacher_readDrill K F E N0 N1 N2 N3 N4 T σ).2.2)) y g o u (s_Teacher_readDrill K F E N0 N1 N2 N3 N4 T σ).1 F (s_Teacher_readDrill K F E N0 N1 N2 N3 N4 T σ).2.1 N0 N1 N2 N3 N4) := by
  refine Call.of_go (L := [some (.ref u)]) (by decide +kernel) rfl (by exact Nat.le_of_ble_eq_true rfl) ?_
  unfold s_Teacher_readDrill
  refine Go.aload_0 d_Teacher_readDrill_0 rfl ?_
  refine Go.iconst (v := 4) d_Teacher_readDrill_1 rfl (by decide) ?_
  refine Go.cv1v d_Teacher_readDrill_2 rfl l_Teacher_204 k_Teacher_newOrder_v (rw_u (by omega)) rfl (w2_Teacher_newOrder hs hsn (by omega) hN0 hN1 hN2 hN3 hN4 ho hT hW) (Nat.ble_eq_true_of_le (by omega)) rfl rfl ?_
  refine Go.aload_0 d_Teacher_readDrill_5 rfl ?_
  refine Go.getfield d_Teacher_readDrill_6 rfl f_Teacher_42 (rw_u (by omega)) (by rfl) ?_
  refine Go.iconst (v := 2) d_Teacher_readDrill_9 rfl (by decide) ?_
  refine Go.aload_0 d_Teacher_readDrill_10 rfl ?_
  refine Go.gets d_Teacher_readDrill_11 rfl x_Teacher_230 (hs.z (i := 21) rfl) ?_
  refine Go.aload_0 d_Teacher_readDrill_14 rfl ?_
  refine Go.getfield d_Teacher_readDrill_15 rfl f_Teacher_18 (rw_u (by omega)) (by rfl) ?_
  refine Go.cv2r d_Teacher_readDrill_18 rfl l_Teacher_163 k_Teacher_oldName_v (rw_u (by omega)) rfl (w1_Teacher_oldName_1 (x1 := (21 : Fin 54)) hs hsn (by omega) hN0 hN1 hN2 hN3 hN4) (Nat.ble_eq_true_of_le (by omega)) rfl rfl ?_
  refine Go.cv2v d_Teacher_readDrill_21 rfl l_Teacher_207 k_Orders_note_v (rw_o geo ho) rfl (w2_Orders_note (x1 := 2) rfl (by omega) hs hsn (by omega) hN0 hN1 hN2 hN3 hN4 ho (newOrder_le hT) hW) (Nat.ble_eq_true_of_le (by omega)) rfl rfl ?_
  exact Go.vret d_Teacher_readDrill_24 rfl ⟨rfl, by dsimp only; done, rfl⟩
set_option maxHeartbeats 400000 in
theorem wfT_Teacher_readDrill {K : TK} {F : FM} {E : TE} {N0 : NM} {N1 : NM} {N2 : NM} {N3 : NM} {N4 : NM} {T : TM} {σ : GL} (h : T.2 ≤ 20) : (s_Teacher_readDrill K F E N0 N1 N2 N3 N4 T σ).2.2.2 ≤ 20 := by
  unfold s_Teacher_readDrill
  (repeat' split) <;> (try dsimp only) <;> (repeat' (first | refine note_le ?_ | refine newOrder_le ?_)) <;> exact h
theorem d_Teacher_readWhen_0 : decode M_Teacher_readWhen.2.1 0 = .ok (.aload_n 0, 1) := by decide +kernel
theorem d_Teacher_readWhen_1 : decode M_Teacher_readWhen.2.1 1 = .ok (.getfield 34, 3) := by decide +kernel
theorem d_Teacher_readWhen_4 : decode M_Teacher_readWhen.2.1 4 = .ok (.getstatic 112, 3) := by decide +kernel
theorem d_Teacher_readWhen_7 : decode M_Teacher_readWhen.2.1 7 = .ok (.invokevirtual 124, 3) := by decide +kernel
theorem d_Teacher_readWhen_10 : decode M_Teacher_readWhen.2.1 10 = .ok (.aload_n 0, 1) := by decide +kernel
theorem d_Teacher_readWhen_11 : decode M_Teacher_readWhen.2.1 11 = .ok (.getfield 42, 3) := by decide +kernel
theorem d_Teacher_readWhen_14 : decode M_Teacher_readWhen.2.1 14 = .ok (.iconst 5, 1) := by decide +kernel
theorem d_Teacher_readWhen_15 : decode M_Teacher_readWhen.2.1 15 = .ok (.aload_n 0, 1) := by decide +kernel
theorem d_Teacher_readWhen_16 : decode M_Teacher_readWhen.2.1 16 = .ok (.getfield 52, 3) := by decide +kernel
theorem d_Teacher_readWhen_19 : decode M_Teacher_readWhen.2.1 19 = .ok (.invokevirtual 222, 3) := by decide +kernel
theorem d_Teacher_readWhen_22 : decode M_Teacher_readWhen.2.1 22 = .ok (.invokevirtual 207, 3) := by decide +kernel
theorem d_Teacher_readWhen_25 : decode M_Teacher_readWhen.2.1 25 = .ok (.aload_n 0, 1) := by decide +kernel
theorem d_Teacher_readWhen_26 : decode M_Teacher_readWhen.2.1 26 = .ok (.iconst 0, 1) := by decide +kernel
theorem d_Teacher_readWhen_27 : decode M_Teacher_readWhen.2.1 27 = .ok (.invokevirtual 233, 3) := by decide +kernel
theorem d_Teacher_readWhen_30 : decode M_Teacher_readWhen.2.1 30 = .ok (.aload_n 0, 1) := by decide +kernel
theorem d_Teacher_readWhen_31 : decode M_Teacher_readWhen.2.1 31 = .ok (.getfield 42, 3) := by decide +kernel
theorem d_Teacher_readWhen_34 : decode M_Teacher_readWhen.2.1 34 = .ok (.bipush 6, 2) := by decide +kernel
theorem d_Teacher_readWhen_36 : decode M_Teacher_readWhen.2.1 36 = .ok (.aload_n 0, 1) := by decide +kernel
theorem d_Teacher_readWhen_37 : decode M_Teacher_readWhen.2.1 37 = .ok (.getfield 52, 3) := by decide +kernel
theorem d_Teacher_readWhen_40 : decode M_Teacher_readWhen.2.1 40 = .ok (.invokevirtual 222, 3) := by decide +kernel
theorem d_Teacher_readWhen_43 : decode M_Teacher_readWhen.2.1 43 = .ok (.invokevirtual 207, 3) := by decide +kernel
theorem d_Teacher_readWhen_46 : decode M_Teacher_readWhen.2.1 46 = .ok (.return_, 1) := by decide +kernel
def s_Teacher_readWhen (K : TK) (F : FM) (E : TE) (N0 : NM) (N1 : NM) (N2 : NM) (N3 : NM) (N4 : NM) (T : TM) (σ : GL) : TK × FM × TE × TM := ((rd_ N0 N1 N2 N3 N4 64 0 0 0 ((s_Tokens_expect K (22 : Fin 54)), F, E)).1, (rd_ N0 N1 N2 N3 N4 64 0 0 0 ((s_Tokens_expect K (22 : Fin 54)), F, E)).2.1, (rd_ N0 N1 N2 N3 N4 64 0 0 0 ((s_Tokens_expect K (22 : Fin 54)), F, E)).2.2, (s_Orders_note (s_Orders_note T F 5 (s_Formulas_size F)) (rd_ N0 N1 N2 N3 N4 64 0 0 0 ((s_Tokens_expect K (22 : Fin 54)), F, E)).2.1 6 (s_Formulas_size (rd_ N0 N1 N2 N3 N4 64 0 0 0 ((s_Tokens_expect K (22 : Fin 54)), F, E)).2.1)))
set_option maxRecDepth 100000 in
set_option maxHeartbeats 800000 in
theorem c_Teacher_readWhen {Γ : G9} {sg : Nat → Nat} {sw : Nat} {h : AH} {y g o u z : Nat} {K : TK} {F : FM} {E : TE} {N0 : NM} {N1 : NM} {N2 : NM} {N3 : NM} {N4 : NM} {T : TM} {σ : GL} (hs : SgOk Γ sg) (hsn : SgNe sg) (hw : SwOk Γ sw) (geo : y + 4 ≤ g ∧ g + 12 ≤ o ∧ o + 7 ≤ u) (hN0 : nm_sz N0 ≤ 6) (hN1 : nm_sz N1 ≤ 6) (hN2 : nm_sz N2 ≤ 6) (hN3 : nm_sz N3 ≤ 6) (hN4 : nm_sz N4 ≤ 6) (ho : h o = some (.inr (3, [.ref (o + 1), .ref (o + 3)]))) (hT : T.2 ≤ 20) (hW : WFG σ) : CallR Γ M_Teacher_readWhen 71 [.ref u] (rw_ Γ sg (blk (blk h g 12 (glC Γ g σ)) (o + 1) 2 (tbC Γ 20 (o + 1) T)) y g o u K F E N0 N1 N2 N3 N4) z none (rw_ Γ sg (blk (blk h g 12 (glC Γ g σ)) (o + 1) 2 (tbC Γ 20 (o + 1) (s_Teacher_readWhen K F E N0 N1 N2 N3 N4 T σ).2.2.2)) y g o u (s_Teacher_readWhen K F E N0 N1 N2 N3 N4 T σ).1 (s_Teacher_readWhen K F E N0 N1 N2 N3 N4 T σ).2.1 (s_Teacher_readWhen K F E N0 N1 N2 N3 N4 T σ).2.2.1 N0 N1 N2 N3 N4) := by
  refine Call.of_go (L := [some (.ref u)]) (by decide +kernel) rfl (by exact Nat.le_of_ble_eq_true rfl) ?_
  unfold s_Teacher_readWhen
  refine Go.aload_0 d_Teacher_readWhen_0 rfl ?_
  refine Go.getfield d_Teacher_readWhen_1 rfl f_Teacher_34 (rw_u (by omega)) (by rfl) ?_
  refine Go.gets d_Teacher_readWhen_4 rfl x_Teacher_112 (hs.z (i := 22) rfl) ?_
  refine Go.cv1v d_Teacher_readWhen_7 rfl l_Teacher_124 k_Tokens_expect_v (rw_y (by omega)) rfl (w1_Tokens_expect (x1 := (22 : Fin 54)) hs hsn (by omega) hN0 hN1 hN2 hN3 hN4) (Nat.ble_eq_true_of_le (by omega)) rfl rfl ?_
  refine Go.aload_0 d_Teacher_readWhen_10 rfl ?_
  refine Go.getfield d_Teacher_readWhen_11 rfl f_Teacher_42 (rw_u (by omega)) (by rfl) ?_
  refine Go.iconst (v := 5) d_Teacher_readWhen_14 rfl (by decide) ?_
  refine Go.aload_0 d_Teacher_readWhen_15 rfl ?_
  refine Go.getfield d_Teacher_readWhen_16 rfl f_Teacher_52 (rw_u (by omega)) (by rfl) ?_
  refine Go.cv0r d_Teacher_readWhen_19 rfl l_Teacher_222 k_Formulas_size_v (rw_f (by omega)) rfl (w1_Formulas_size hs hsn (by omega) hN0 hN1 hN2 hN3 hN4) (Nat.ble_eq_true_of_le (by omega)) rfl rfl ?_
  refine Go.cv2v d_Teacher_readWhen_22 rfl l_Teacher_207 k_Orders_note_v (rw_o geo ho) rfl (w2_Orders_note (x1 := 5) rfl (by omega) hs hsn (by omega) hN0 hN1 hN2 hN3 hN4 ho hT hW) (Nat.ble_eq_true_of_le (by omega)) rfl rfl ?_
  refine Go.aload_0 d_Teacher_readWhen_25 rfl ?_
  refine Go.iconst (v := 0) d_Teacher_readWhen_26 rfl (by decide) ?_
  refine Go.cv1v d_Teacher_readWhen_27 rfl l_Teacher_233 k_Teacher_readTest_v (rw_u (by omega)) rfl ((rd_go hs hsn hw (show y + 4 ≤ o ∧ o + 7 ≤ u by omega) hN0 hN1 hN2 hN3 hN4 64).1 0 _ _ _ (by omega) (by omega)) (Nat.ble_eq_true_of_le (by omega)) rfl rfl ?_
  refine Go.aload_0 d_Teacher_readWhen_30 rfl ?_
  refine Go.getfield d_Teacher_readWhen_31 rfl f_Teacher_42 (rw_u (by omega)) (by rfl) ?_
  refine Go.bipush (v := 6) d_Teacher_readWhen_34 rfl (by decide) ?_
  refine Go.aload_0 d_Teacher_readWhen_36 rfl ?_
  refine Go.getfield d_Teacher_readWhen_37 rfl f_Teacher_52 (rw_u (by omega)) (by rfl) ?_
  refine Go.cv0r d_Teacher_readWhen_40 rfl l_Teacher_222 k_Formulas_size_v (rw_f (by omega)) rfl (w1_Formulas_size hs hsn (by omega) hN0 hN1 hN2 hN3 hN4) (Nat.ble_eq_true_of_le (by omega)) rfl rfl ?_
  refine Go.cv2v d_Teacher_readWhen_43 rfl l_Teacher_207 k_Orders_note_v (rw_o geo ho) rfl (w2_Orders_note (x1 := 6) rfl (by omega) hs hsn (by omega) hN0 hN1 hN2 hN3 hN4 ho (note_le hT) hW) (Nat.ble_eq_true_of_le (by omega)) rfl rfl ?_
  exact Go.vret d_Teacher_readWhen_46 rfl ⟨rfl, by dsimp only; done, rfl⟩
set_option maxHeartbeats 400000 in
theorem wfT_Teacher_readWhen {K : TK} {F : FM} {E : TE} {N0 : NM} {N1 : NM} {N2 : NM} {N3 : NM} {N4 : NM} {T : TM} {σ : GL} (h : T.2 ≤ 20) : (s_Teacher_readWhen K F E N0 N1 N2 N3 N4 T σ).2.2.2.2 ≤ 20 := by
  unfold s_Teacher_readWhen
  (repeat' split) <;> (try dsimp only) <;> (repeat' (first | refine note_le ?_ | refine newOrder_le ?_)) <;> exact h
theorem d_Teacher_readList_2 : decode M_Teacher_readList.2.1 2 = .ok (.iload_n 1, 1) := by decide +kernel
theorem d_Teacher_readList_3 : decode M_Teacher_readList.2.1 3 = .ok (.sipush 400, 3) := by decide +kernel
theorem d_Teacher_readList_6 : decode M_Teacher_readList.2.1 6 = .ok (.if_icmp .ge 233, 3) := by decide +kernel
theorem d_Teacher_readList_239 : decode M_Teacher_readList.2.1 239 = .ok (.return_, 1) := by decide +kernel
theorem d_Teacher_readList_9 : decode M_Teacher_readList.2.1 9 = .ok (.aload_n 0, 1) := by decide +kernel
theorem d_Teacher_readList_10 : decode M_Teacher_readList.2.1 10 = .ok (.getfield 34, 3) := by decide +kernel
theorem d_Teacher_readList_13 : decode M_Teacher_readList.2.1 13 = .ok (.invokevirtual 62, 3) := by decide +kernel
theorem d_Teacher_readList_16 : decode M_Teacher_readList.2.1 16 = .ok (.getstatic 66, 3) := by decide +kernel
theorem d_Teacher_readList_19 : decode M_Teacher_readList.2.1 19 = .ok (.if_acmp .eq 220, 3) := by decide +kernel
theorem d_Teacher_readList_22 : decode M_Teacher_readList.2.1 22 = .ok (.aload_n 0, 1) := by decide +kernel
theorem d_Teacher_readList_23 : decode M_Teacher_readList.2.1 23 = .ok (.getfield 34, 3) := by decide +kernel
theorem d_Teacher_readList_26 : decode M_Teacher_readList.2.1 26 = .ok (.invokevirtual 53, 3) := by decide +kernel
theorem d_Teacher_readList_29 : decode M_Teacher_readList.2.1 29 = .ok (.ifCond .ge 210, 3) := by decide +kernel
theorem d_Teacher_readList_32 : decode M_Teacher_readList.2.1 32 = .ok (.getstatic 72, 3) := by decide +kernel
theorem d_Teacher_readList_35 : decode M_Teacher_readList.2.1 35 = .ok (.aload_n 0, 1) := by decide +kernel
theorem d_Teacher_readList_36 : decode M_Teacher_readList.2.1 36 = .ok (.getfield 34, 3) := by decide +kernel
theorem d_Teacher_readList_39 : decode M_Teacher_readList.2.1 39 = .ok (.invokevirtual 62, 3) := by decide +kernel
theorem d_Teacher_readList_42 : decode M_Teacher_readList.2.1 42 = .ok (.invokevirtual 78, 3) := by decide +kernel
theorem d_Teacher_readList_45 : decode M_Teacher_readList.2.1 45 = .ok (.iaload, 1) := by decide +kernel
theorem d_Teacher_readList_46 : decode M_Teacher_readList.2.1 46 = .ok (.tableswitch 170 1 11 #[58, 65, 72, 79, 86, 93, 100, 112, 124, 135, 159], 58) := by decide +kernel
theorem d_Teacher_readList_104 : decode M_Teacher_readList.2.1 104 = .ok (.aload_n 0, 1) := by decide +kernel
theorem d_Teacher_readList_105 : decode M_Teacher_readList.2.1 105 = .ok (.invokevirtual 81, 3) := by decide +kernel
theorem d_Teacher_readList_108 : decode M_Teacher_readList.2.1 108 = .ok (.goto 115, 3) := by decide +kernel
theorem d_Teacher_readList_111 : decode M_Teacher_readList.2.1 111 = .ok (.aload_n 0, 1) := by decide +kernel
theorem d_Teacher_readList_112 : decode M_Teacher_readList.2.1 112 = .ok (.invokevirtual 84, 3) := by decide +kernel
theorem d_Teacher_readList_115 : decode M_Teacher_readList.2.1 115 = .ok (.goto 108, 3) := by decide +kernel
theorem d_Teacher_readList_118 : decode M_Teacher_readList.2.1 118 = .ok (.aload_n 0, 1) := by decide +kernel
theorem d_Teacher_readList_119 : decode M_Teacher_readList.2.1 119 = .ok (.invokevirtual 87, 3) := by decide +kernel
theorem d_Teacher_readList_122 : decode M_Teacher_readList.2.1 122 = .ok (.goto 101, 3) := by decide +kernel
theorem d_Teacher_readList_125 : decode M_Teacher_readList.2.1 125 = .ok (.aload_n 0, 1) := by decide +kernel
theorem d_Teacher_readList_126 : decode M_Teacher_readList.2.1 126 = .ok (.invokevirtual 90, 3) := by decide +kernel
theorem d_Teacher_readList_129 : decode M_Teacher_readList.2.1 129 = .ok (.goto 94, 3) := by decide +kernel
theorem d_Teacher_readList_132 : decode M_Teacher_readList.2.1 132 = .ok (.aload_n 0, 1) := by decide +kernel
theorem d_Teacher_readList_133 : decode M_Teacher_readList.2.1 133 = .ok (.invokevirtual 93, 3) := by decide +kernel
theorem d_Teacher_readList_136 : decode M_Teacher_readList.2.1 136 = .ok (.goto 87, 3) := by decide +kernel
theorem d_Teacher_readList_139 : decode M_Teacher_readList.2.1 139 = .ok (.aload_n 0, 1) := by decide +kernel
theorem d_Teacher_readList_140 : decode M_Teacher_readList.2.1 140 = .ok (.invokevirtual 96, 3) := by decide +kernel
theorem d_Teacher_readList_143 : decode M_Teacher_readList.2.1 143 = .ok (.goto 80, 3) := by decide +kernel
theorem d_Teacher_readList_146 : decode M_Teacher_readList.2.1 146 = .ok (.aload_n 0, 1) := by decide +kernel
theorem d_Teacher_readList_147 : decode M_Teacher_readList.2.1 147 = .ok (.iconst 0, 1) := by decide +kernel
theorem d_Teacher_readList_148 : decode M_Teacher_readList.2.1 148 = .ok (.invokevirtual 99, 3) := by decide +kernel
theorem d_Teacher_readList_151 : decode M_Teacher_readList.2.1 151 = .ok (.aload_n 0, 1) := by decide +kernel
theorem d_Teacher_readList_152 : decode M_Teacher_readList.2.1 152 = .ok (.invokevirtual 103, 3) := by decide +kernel
theorem d_Teacher_readList_155 : decode M_Teacher_readList.2.1 155 = .ok (.goto 68, 3) := by decide +kernel
theorem d_Teacher_readList_158 : decode M_Teacher_readList.2.1 158 = .ok (.aload_n 0, 1) := by decide +kernel
theorem d_Teacher_readList_159 : decode M_Teacher_readList.2.1 159 = .ok (.iconst 1, 1) := by decide +kernel
theorem d_Teacher_readList_160 : decode M_Teacher_readList.2.1 160 = .ok (.invokevirtual 99, 3) := by decide +kernel
theorem d_Teacher_readList_163 : decode M_Teacher_readList.2.1 163 = .ok (.aload_n 0, 1) := by decide +kernel
theorem d_Teacher_readList_164 : decode M_Teacher_readList.2.1 164 = .ok (.invokevirtual 103, 3) := by decide +kernel
theorem d_Teacher_readList_167 : decode M_Teacher_readList.2.1 167 = .ok (.goto 56, 3) := by decide +kernel
theorem d_Teacher_readList_170 : decode M_Teacher_readList.2.1 170 = .ok (.aload_n 0, 1) := by decide +kernel
theorem d_Teacher_readList_171 : decode M_Teacher_readList.2.1 171 = .ok (.invokevirtual 106, 3) := by decide +kernel
theorem d_Teacher_readList_174 : decode M_Teacher_readList.2.1 174 = .ok (.aload_n 0, 1) := by decide +kernel
theorem d_Teacher_readList_175 : decode M_Teacher_readList.2.1 175 = .ok (.invokevirtual 103, 3) := by decide +kernel
theorem d_Teacher_readList_178 : decode M_Teacher_readList.2.1 178 = .ok (.goto 45, 3) := by decide +kernel
theorem d_Teacher_readList_181 : decode M_Teacher_readList.2.1 181 = .ok (.aload_n 0, 1) := by decide +kernel
theorem d_Teacher_readList_182 : decode M_Teacher_readList.2.1 182 = .ok (.invokevirtual 109, 3) := by decide +kernel
theorem d_Teacher_readList_185 : decode M_Teacher_readList.2.1 185 = .ok (.aload_n 0, 1) := by decide +kernel
theorem d_Teacher_readList_186 : decode M_Teacher_readList.2.1 186 = .ok (.getfield 34, 3) := by decide +kernel
theorem d_Teacher_readList_189 : decode M_Teacher_readList.2.1 189 = .ok (.invokevirtual 62, 3) := by decide +kernel
theorem d_Teacher_readList_192 : decode M_Teacher_readList.2.1 192 = .ok (.getstatic 112, 3) := by decide +kernel
theorem d_Teacher_readList_195 : decode M_Teacher_readList.2.1 195 = .ok (.if_acmp .ne 28, 3) := by decide +kernel
theorem d_Teacher_readList_198 : decode M_Teacher_readList.2.1 198 = .ok (.aload_n 0, 1) := by decide +kernel
theorem d_Teacher_readList_199 : decode M_Teacher_readList.2.1 199 = .ok (.invokevirtual 103, 3) := by decide +kernel
theorem d_Teacher_readList_202 : decode M_Teacher_readList.2.1 202 = .ok (.goto 21, 3) := by decide +kernel
theorem d_Teacher_readList_205 : decode M_Teacher_readList.2.1 205 = .ok (.aload_n 0, 1) := by decide +kernel
theorem d_Teacher_readList_206 : decode M_Teacher_readList.2.1 206 = .ok (.invokevirtual 115, 3) := by decide +kernel
theorem d_Teacher_readList_209 : decode M_Teacher_readList.2.1 209 = .ok (.aload_n 0, 1) := by decide +kernel
theorem d_Teacher_readList_210 : decode M_Teacher_readList.2.1 210 = .ok (.invokevirtual 103, 3) := by decide +kernel
theorem d_Teacher_readList_213 : decode M_Teacher_readList.2.1 213 = .ok (.goto 10, 3) := by decide +kernel
theorem d_Teacher_readList_216 : decode M_Teacher_readList.2.1 216 = .ok (.aload_n 0, 1) := by decide +kernel
theorem d_Teacher_readList_217 : decode M_Teacher_readList.2.1 217 = .ok (.getfield 34, 3) := by decide +kernel
theorem d_Teacher_readList_220 : decode M_Teacher_readList.2.1 220 = .ok (.invokevirtual 118, 3) := by decide +kernel
theorem d_Teacher_readList_223 : decode M_Teacher_readList.2.1 223 = .ok (.aload_n 0, 1) := by decide +kernel
theorem d_Teacher_readList_224 : decode M_Teacher_readList.2.1 224 = .ok (.getfield 34, 3) := by decide +kernel
theorem d_Teacher_readList_227 : decode M_Teacher_readList.2.1 227 = .ok (.getstatic 121, 3) := by decide +kernel
theorem d_Teacher_readList_230 : decode M_Teacher_readList.2.1 230 = .ok (.invokevirtual 124, 3) := by decide +kernel
theorem d_Teacher_readList_233 : decode M_Teacher_readList.2.1 233 = .ok (.iinc 1 1, 3) := by decide +kernel
theorem d_Teacher_readList_236 : decode M_Teacher_readList.2.1 236 = .ok (.goto (-234), 3) := by decide +kernel
def l_Teacher_readList_2 : Nat → Nat → TK → FM → TE → NM → NM → NM → NM → NM → TM → GL → TK × FM × TE × NM × NM × NM × NM × NM × TM × GL
  | 0, i, K, F, E, N0, N1, N2, N3, N4, T, σ => (K, F, E, N0, N1, N2, N3, N4, T, σ)
  | k + 1, i, K, F, E, N0, N1, N2, N3, N4, T, σ => (if (s_Tokens_sign K).val = 52 then (K, F, E, N0, N1, N2, N3, N4, T, σ) else (if 0 ≤ (s_Tokens_brokenAt K) then (K, F, E, N0, N1, N2, N3, N4, T, σ) else (if (swf (s_Tokens_sign K).val) = 1 then (l_Teacher_readList_2 k (i + 1) (s_Tokens_expect (s_Teacher_readBand K F E N0 N1 N2 N3 N4 T σ).1 (39 : Fin 54)) F (s_Teacher_readBand K F E N0 N1 N2 N3 N4 T σ).2.1 (s_Teacher_readBand K F E N0 N1 N2 N3 N4 T σ).2.2.1 N1 N2 N3 N4 T (s_Teacher_readBand K F E N0 N1 N2 N3 N4 T σ).2.2.2) else (if (swf (s_Tokens_sign K).val) = 2 then (l_Teacher_readList_2 k (i + 1) (s_Tokens_expect (s_Teacher_readStake K F E N0 N1 N2 N3 N4 T σ).1 (39 : Fin 54)) F (s_Teacher_readStake K F E N0 N1 N2 N3 N4 T σ).2.1 N0 (s_Teacher_readStake K F E N0 N1 N2 N3 N4 T σ).2.2.1 N2 N3 N4 T (s_Teacher_readStake K F E N0 N1 N2 N3 N4 T σ).2.2.2) else (if (swf (s_Tokens_sign K).val) = 3 then (l_Teacher_readList_2 k (i + 1) (s_Tokens_expect (s_Teacher_readCrevasse K F E N0 N1 N2 N3 N4 T σ).1 (39 : Fin 54)) F (s_Teacher_readCrevasse K F E N0 N1 N2 N3 N4 T σ).2.1 N0 N1 (s_Teacher_readCrevasse K F E N0 N1 N2 N3 N4 T σ).2.2.1 N3 N4 T (s_Teacher_readCrevasse K F E N0 N1 N2 N3 N4 T σ).2.2.2) else (if (swf (s_Tokens_sign K).val) = 4 then (l_Teacher_readList_2 k (i + 1) (s_Tokens_expect (s_Teacher_readDepot K F E N0 N1 N2 N3 N4 T σ).1 (39 : Fin 54)) F (s_Teacher_readDepot K F E N0 N1 N2 N3 N4 T σ).2.1 N0 N1 N2 (s_Teacher_readDepot K F E N0 N1 N2 N3 N4 T σ).2.2.1 N4 T (s_Teacher_readDepot K F E N0 N1 N2 N3 N4 T σ).2.2.2) else (if (swf (s_Tokens_sign K).val) = 5 then (l_Teacher_readList_2 k (i + 1) (s_Tokens_expect (s_Teacher_readTeam K F E N0 N1 N2 N3 N4 T σ).1 (39 : Fin 54)) F (s_Teacher_readTeam K F E N0 N1 N2 N3 N4 T σ).2.1 N0 N1 N2 N3 (s_Teacher_readTeam K F E N0 N1 N2 N3 N4 T σ).2.2.1 T (s_Teacher_readTeam K F E N0 N1 N2 N3 N4 T σ).2.2.2) else (if (swf (s_Tokens_sign K).val) = 6 then (l_Teacher_readList_2 k (i + 1) (s_Tokens_expect (s_Teacher_readDay K F E N0 N1 N2 N3 N4 T σ).1 (39 : Fin 54)) F (s_Teacher_readDay K F E N0 N1 N2 N3 N4 T σ).2.1 N0 N1 N2 N3 N4 T (s_Teacher_readDay K F E N0 N1 N2 N3 N4 T σ).2.2) else (if (swf (s_Tokens_sign K).val) = 7 then (l_Teacher_readList_2 k (i + 1) (s_Tokens_expect (s_Teacher_readWhen (s_Teacher_readGo K F E N0 N1 N2 N3 N4 T σ 0).1 F (s_Teacher_readGo K F E N0 N1 N2 N3 N4 T σ 0).2.1 N0 N1 N2 N3 N4 (s_Teacher_readGo K F E N0 N1 N2 N3 N4 T σ 0).2.2 σ).1 (39 : Fin 54)) (s_Teacher_readWhen (s_Teacher_readGo K F E N0 N1 N2 N3 N4 T σ 0).1 F (s_Teacher_readGo K F E N0 N1 N2 N3 N4 T σ 0).2.1 N0 N1 N2 N3 N4 (s_Teacher_readGo K F E N0 N1 N2 N3 N4 T σ 0).2.2 σ).2.1 (s_Teacher_readWhen (s_Teacher_readGo K F E N0 N1 N2 N3 N4 T σ 0).1 F (s_Teacher_readGo K F E N0 N1 N2 N3 N4 T σ 0).2.1 N0 N1 N2 N3 N4 (s_Teacher_readGo K F E N0 N1 N2 N3 N4 T σ 0).2.2 σ).2.2.1 N0 N1 N2 N3 N4 (s_Teacher_readWhen (s_Teacher_readGo K F E N0 N1 N2 N3 N4 T σ 0).1 F (s_Teacher_readGo K F E N0 N1 N2 N3 N4 T σ 0).2.1 N0 N1 N2 N3 N4 (s_Teacher_readGo K F E N0 N1 N2 N3 N4 T σ 0).2.2 σ).2.2.2 σ) else (if (swf (s_Tokens_sign K).val) = 8 then (l_Teacher_readList_2 k (i + 1) (s_Tokens_expect (s_Teacher_readWhen (s_Teacher_readGo K F E N0 N1 N2 N3 N4 T σ 1).1 F (s_Teacher_readGo K F E N0 N1 N2 N3 N4 T σ 1).2.1 N0 N1 N2 N3 N4 (s_Teacher_readGo K F E N0 N1 N2 N3 N4 T σ 1).2.2 σ).1 (39 : Fin 54)) (s_Teacher_readWhen (s_Teacher_readGo K F E N0 N1 N2 N3 N4 T σ 1).1 F (s_Teacher_readGo K F E N0 N1 N2 N3 N4 T σ 1).2.1 N0 N1 N2 N3 N4 (s_Teacher_readGo K F E N0 N1 N2 N3 N4 T σ 1).2.2 σ).2.1 (s_Teacher_readWhen (s_Teacher_readGo K F E N0 N1 N2 N3 N4 T σ 1).1 F (s_Teacher_readGo K F E N0 N1 N2 N3 N4 T σ 1).2.1 N0 N1 N2 N3 N4 (s_Teacher_readGo K F E N0 N1 N2 N3 N4 T σ 1).2.2 σ).2.2.1 N0 N1 N2 N3 N4 (s_Teacher_readWhen (s_Teacher_readGo K F E N0 N1 N2 N3 N4 T σ 1).1 F (s_Teacher_readGo K F E N0 N1 N2 N3 N4 T σ 1).2.1 N0 N1 N2 N3 N4 (s_Teacher_readGo K F E N0 N1 N2 N3 N4 T σ 1).2.2 σ).2.2.2 σ) else (if (swf (s_Tokens_sign K).val) = 9 then (l_Teacher_readList_2 k (i + 1) (s_Tokens_expect (s_Teacher_readWhen (s_Teacher_readProbe K F E N0 N1 N2 N3 N4 T σ).1 F (s_Teacher_readProbe K F E N0 N1 N2 N3 N4 T σ).2.1 N0 N1 N2 N3 N4 (s_Teacher_readProbe K F E N0 N1 N2 N3 N4 T σ).2.2 σ).1 (39 : Fin 54)) (s_Teacher_readWhen (s_Teacher_readProbe K F E N0 N1 N2 N3 N4 T σ).1 F (s_Teacher_readProbe K F E N0 N1 N2 N3 N4 T σ).2.1 N0 N1 N2 N3 N4 (s_Teacher_readProbe K F E N0 N1 N2 N3 N4 T σ).2.2 σ).2.1 (s_Teacher_readWhen (s_Teacher_readProbe K F E N0 N1 N2 N3 N4 T σ).1 F (s_Teacher_readProbe K F E N0 N1 N2 N3 N4 T σ).2.1 N0 N1 N2 N3 N4 (s_Teacher_readProbe K F E N0 N1 N2 N3 N4 T σ).2.2 σ).2.2.1 N0 N1 N2 N3 N4 (s_Teacher_readWhen (s_Teacher_readProbe K F E N0 N1 N2 N3 N4 T σ).1 F (s_Teacher_readProbe K F E N0 N1 N2 N3 N4 T σ).2.1 N0 N1 N2 N3 N4 (s_Teacher_readProbe K F E N0 N1 N2 N3 N4 T σ).2.2 σ).2.2.2 σ) else (if (swf (s_Tokens_sign K).val) = 10 then (if (s_Tokens_sign (s_Teacher_readFill K F E N0 N1 N2 N3 N4 T σ).1).val = 22 then (l_Teacher_readList_2 k (i + 1) (s_Tokens_expect (s_Teacher_readWhen (s_Teacher_readFill K F E N0 N1 N2 N3 N4 T σ).1 (s_Teacher_readFill K F E N0 N1 N2 N3 N4 T σ).2.1 (s_Teacher_readFill K F E N0 N1 N2 N3 N4 T σ).2.2.1 N0 N1 N2 N3 N4 (s_Teacher_readFill K F E N0 N1 N2 N3 N4 T σ).2.2.2 σ).1 (39 : Fin 54)) (s_Teacher_readWhen (s_Teacher_readFill K F E N0 N1 N2 N3 N4 T σ).1 (s_Teacher_readFill K F E N0 N1 N2 N3 N4 T σ).2.1 (s_Teacher_readFill K F E N0 N1 N2 N3 N4 T σ).2.2.1 N0 N1 N2 N3 N4 (s_Teacher_readFill K F E N0 N1 N2 N3 N4 T σ).2.2.2 σ).2.1 (s_Teacher_readWhen (s_Teacher_readFill K F E N0 N1 N2 N3 N4 T σ).1 (s_Teacher_readFill K F E N0 N1 N2 N3 N4 T σ).2.1 (s_Teacher_readFill K F E N0 N1 N2 N3 N4 T σ).2.2.1 N0 N1 N2 N3 N4 (s_Teacher_readFill K F E N0 N1 N2 N3 N4 T σ).2.2.2 σ).2.2.1 N0 N1 N2 N3 N4 (s_Teacher_readWhen (s_Teacher_readFill K F E N0 N1 N2 N3 N4 T σ).1 (s_Teacher_readFill K F E N0 N1 N2 N3 N4 T σ).2.1 (s_Teacher_readFill K F E N0 N1 N2 N3 N4 T σ).2.2.1 N0 N1 N2 N3 N4 (s_Teacher_readFill K F E N0 N1 N2 N3 N4 T σ).2.2.2 σ).2.2.2 σ) else (l_Teacher_readList_2 k (i + 1) (s_Tokens_expect (s_Teacher_readFill K F E N0 N1 N2 N3 N4 T σ).1 (39 : Fin 54)) (s_Teacher_readFill K F E N0 N1 N2 N3 N4 T σ).2.1 (s_Teacher_readFill K F E N0 N1 N2 N3 N4 T σ).2.2.1 N0 N1 N2 N3 N4 (s_Teacher_readFill K F E N0 N1 N2 N3 N4 T σ).2.2.2 σ)) else (if (swf (s_Tokens_sign K).val) = 11 then (l_Teacher_readList_2 k (i + 1) (s_Tokens_expect (s_Teacher_readWhen (s_Teacher_readDrill K F E N0 N1 N2 N3 N4 T σ).1 F (s_Teacher_readDrill K F E N0 N1 N2 N3 N4 T σ).2.1 N0 N1 N2 N3 N4 (s_Teacher_readDrill K F E N0 N1 N2 N3 N4 T σ).2.2 σ).1 (39 : Fin 54)) (s_Teacher_readWhen (s_Teacher_readDrill K F E N0 N1 N2 N3 N4 T σ).1 F (s_Teacher_readDrill K F E N0 N1 N2 N3 N4 T σ).2.1 N0 N1 N2 N3 N4 (s_Teacher_readDrill K F E N0 N1 N2 N3 N4 T σ).2.2 σ).2.1 (s_Teacher_readWhen (s_Teacher_readDrill K F E N0 N1 N2 N3 N4 T σ).1 F (s_Teacher_readDrill K F E N0 N1 N2 N3 N4 T σ).2.1 N0 N1 N2 N3 N4 (s_Teacher_readDrill K F E N0 N1 N2 N3 N4 T σ).2.2 σ).2.2.1 N0 N1 N2 N3 N4 (s_Teacher_readWhen (s_Teacher_readDrill K F E N0 N1 N2 N3 N4 T σ).1 F (s_Teacher_readDrill K F E N0 N1 N2 N3 N4 T σ).2.1 N0 N1 N2 N3 N4 (s_Teacher_readDrill K F E N0 N1 N2 N3 N4 T σ).2.2 σ).2.2.2 σ) else (l_Teacher_readList_2 k (i + 1) (s_Tokens_expect (s_Tokens_breakOff K) (39 : Fin 54)) F E N0 N1 N2 N3 N4 T σ))))))))))))))
set_option maxRecDepth 100000 in
set_option maxHeartbeats 800000 in
theorem l_Teacher_readList_2_go {Γ : G9} {sg : Nat → Nat} {sw : Nat} {h : AH} {y g o u z : Nat} {n : Nat} (hs : SgOk Γ sg) (hsn : SgNe sg) (hw : SwOk Γ sw) (geo : y + 4 ≤ g ∧ g + 12 ≤ o ∧ o + 7 ≤ u) (ho : h o = some (.inr (3, [.ref (o + 1), .ref (o + 3)]))) (hn20 : n ≤ 400) : ∀ (k i : Nat) (K : TK) (F : FM) (E : TE) (N0 : NM) (N1 : NM) (N2 : NM) (N3 : NM) (N4 : NM) (T : TM) (σ : GL), i + k = n → 400 = n → nm_sz N0 ≤ 6 → nm_sz N1 ≤ 6 → nm_sz N2 ≤ 6 → nm_sz N3 ≤ 6 → nm_sz N4 ≤ 6 → T.2 ≤ 20 → WFG σ → Go Γ M_Teacher_readList 72 0 0 2 [some (.ref u), some (.int (nI i))] [] (rw_ Γ sg (blk (blk h g 12 (glC Γ g σ)) (o + 1) 2 (tbC Γ 20 (o + 1) T)) y g o u K F E N0 N1 N2 N3 N4) z (RQ none (rw_ Γ sg (blk (blk h g 12 (glC Γ g (l_Teacher_readList_2 k i K F E N0 N1 N2 N3 N4 T σ).2.2.2.2.2.2.2.2.2)) (o + 1) 2 (tbC Γ 20 (o + 1) (l_Teacher_readList_2 k i K F E N0 N1 N2 N3 N4 T σ).2.2.2.2.2.2.2.2.1)) y g o u (l_Teacher_readList_2 k i K F E N0 N1 N2 N3 N4 T σ).1 (l_Teacher_readList_2 k i K F E N0 N1 N2 N3 N4 T σ).2.1 (l_Teacher_readList_2 k i K F E N0 N1 N2 N3 N4 T σ).2.2.1 (l_Teacher_readList_2 k i K F E N0 N1 N2 N3 N4 T σ).2.2.2.1 (l_Teacher_readList_2 k i K F E N0 N1 N2 N3 N4 T σ).2.2.2.2.1 (l_Teacher_readList_2 k i K F E N0 N1 N2 N3 N4 T σ).2.2.2.2.2.1 (l_Teacher_readList_2 k i K F E N0 N1 N2 N3 N4 T σ).2.2.2.2.2.2.1 (l_Teacher_readList_2 k i K F E N0 N1 N2 N3 N4 T σ).2.2.2.2.2.2.2.1) z) noX := by
  intro k
  induction k with
  | zero =>
    intro i K F E N0 N1 N2 N3 N4 T σ hi hn hN0 hN1 hN2 hN3 hN4 hT hW
    unfold l_Teacher_readList_2
    refine Go.iload_1 d_Teacher_readList_2 rfl ?_
    refine Go.sipush (v := 400) d_Teacher_readList_3 rfl (by decide) ?_
    refine Go.icmp_ge (t := 239) d_Teacher_readList_6 (by decide) rfl (fun c6_1 => ?_) (fun c6_1 => ?_)
    · exact Go.vret d_Teacher_readList_239 rfl ⟨rfl, by dsimp only; done, rfl⟩
    · exact absurd (show nI 400 ≤ nI i from nI_le (by omega) (by omega)) c6_1
  | succ k ih =>
    intro i K F E N0 N1 N2 N3 N4 T σ hi hn hN0 hN1 hN2 hN3 hN4 hT hW
    unfold l_Teacher_readList_2
    refine Go.iload_1 d_Teacher_readList_2 rfl ?_
    refine Go.sipush (v := 400) d_Teacher_readList_3 rfl (by decide) ?_
    refine Go.icmp_ge (t := 239) d_Teacher_readList_6 (by decide) rfl (fun c6_1 => ?_) (fun c6_1 => ?_)
    · exact absurd c6_1 (show ¬ nI 400 ≤ nI i from nI_ge (by omega) (by omega))
    · refine Go.aload_0 d_Teacher_readList_9 rfl ?_
      refine Go.getfield d_Teacher_readList_10 rfl f_Teacher_34 (rw_u (by omega)) (by rfl) ?_
      refine Go.cv0r d_Teacher_readList_13 rfl l_Teacher_62 k_Tokens_sign_v (rw_y (by omega)) rfl (w1_Tokens_sign hs hsn (by omega) hN0 hN1 hN2 hN3 hN4) (Nat.ble_eq_true_of_le (by omega)) rfl rfl ?_
      refine Go.gets d_Teacher_readList_16 rfl x_Teacher_66 (hs.z (i := 52) rfl) ?_
      refine Go.acmp_eq (t := 239) d_Teacher_readList_19 (by decide) rfl (fun c19_2 => ?_) (fun c19_2 => ?_)
      · have c19_2 := hsn _ _ ((s_Tokens_sign K)).isLt (by decide) c19_2
        rw [if_pos c19_2]
        exact Go.vret d_Teacher_readList_239 rfl ⟨rfl, by dsimp only; done, rfl⟩
      · have c19_2 : ¬ (s_Tokens_sign K).val = 52 := fun w => c19_2 (by rw [w])
        refine Go.aload_0 d_Teacher_readList_22 rfl ?_
        refine Go.getfield d_Teacher_readList_23 rfl f_Teacher_34 (rw_u (by omega)) (by rfl) ?_
        refine Go.cv0r d_Teacher_readList_26 rfl l_Teacher_53 k_Tokens_brokenAt_v (rw_y (by omega)) rfl (w1_Tokens_brokenAt hs hsn (by omega) hN0 hN1 hN2 hN3 hN4) (Nat.ble_eq_true_of_le (by omega)) rfl rfl ?_
        refine Go.if_ge (t := 239) d_Teacher_readList_29 (by decide) rfl (fun c29_3 => ?_) (fun c29_3 => ?_)
        · rw [if_neg c19_2, if_pos c29_3]
          exact Go.vret d_Teacher_readList_239 rfl ⟨rfl, by dsimp only; done, rfl⟩
        · refine Go.gets d_Teacher_readList_32 rfl x_Teacher_72 hw.1 ?_
          refine Go.aload_0 d_Teacher_readList_35 rfl ?_
          refine Go.getfield d_Teacher_readList_36 rfl f_Teacher_34 (rw_u (by omega)) (by rfl) ?_
          refine Go.cv0r d_Teacher_readList_39 rfl l_Teacher_62 k_Tokens_sign_v (rw_y (by omega)) rfl (w1_Tokens_sign hs hsn (by omega) hN0 hN1 hN2 hN3 hN4) (Nat.ble_eq_true_of_le (by omega)) rfl rfl ?_
          refine Go.ordinal (i := (s_Tokens_sign K).val) d_Teacher_readList_42 rfl x_Teacher_78 hs ((s_Tokens_sign K)).isLt (Nat.ble_eq_true_of_le (by omega)) rfl ?_
          refine Go.ialoadS d_Teacher_readList_45 rfl hw.2 (vp_in_nI (by omega) (by omega)) ?_
          rw [nI_clamp (show (s_Tokens_sign K).val < 2 ^ 31 by omega)]
          by_cases w46_4 : (swf (s_Tokens_sign K).val) = 1
          · refine Go.tsw (t := 104) d_Teacher_readList_46 (by rw [w46_4]; rfl) ?_
            refine Go.aload_0 d_Teacher_readList_104 rfl ?_
            refine Go.cv0v d_Teacher_readList_105 rfl l_Teacher_81 k_Teacher_readBand_v (rw_u (by omega)) rfl (c_Teacher_readBand hs hsn hw (by omega) hN0 hN1 hN2 hN3 hN4 ho hT hW) (Nat.ble_eq_true_of_le (by omega)) rfl rfl ?_
            refine Go.goto (t := 223) d_Teacher_readList_108 (by decide) ?_
            refine Go.aload_0 d_Teacher_readList_223 rfl ?_
            refine Go.getfield d_Teacher_readList_224 rfl f_Teacher_34 (rw_u (by omega)) (by rfl) ?_
            refine Go.gets d_Teacher_readList_227 rfl x_Teacher_121 (hs.z (i := 39) rfl) ?_
            refine Go.cv1v d_Teacher_readList_230 rfl l_Teacher_124 k_Tokens_expect_v (rw_y (by omega)) rfl (w1_Tokens_expect (x1 := (39 : Fin 54)) hs hsn (by omega) (wfN0_Teacher_readBand hN0) hN1 hN2 hN3 hN4) (Nat.ble_eq_true_of_le (by omega)) rfl rfl ?_
            refine Go.iinc_1 d_Teacher_readList_233 rfl (by rfl) (nI_inc _) ?_
            refine Go.goto (t := 2) d_Teacher_readList_236 (by decide) ?_
            rw [if_neg c19_2, if_neg c29_3, if_pos w46_4]
            exact ih (i + 1) _ _ _ _ _ _ _ _ _ _ (by omega) (by first | exact hn | (simp only []; exact hn)) (wfN0_Teacher_readBand hN0) hN1 hN2 hN3 hN4 hT (wfσ_Teacher_readBand hW)
          by_cases w46_5 : (swf (s_Tokens_sign K).val) = 2
          · refine Go.tsw (t := 111) d_Teacher_readList_46 (by rw [w46_5]; rfl) ?_
            refine Go.aload_0 d_Teacher_readList_111 rfl ?_
            refine Go.cv0v d_Teacher_readList_112 rfl l_Teacher_84 k_Teacher_readStake_v (rw_u (by omega)) rfl (c_Teacher_readStake hs hsn hw (by omega) hN0 hN1 hN2 hN3 hN4 ho hT hW) (Nat.ble_eq_true_of_le (by omega)) rfl rfl ?_
            refine Go.goto (t := 223) d_Teacher_readList_115 (by decide) ?_
            refine Go.aload_0 d_Teacher_readList_223 rfl ?_
            refine Go.getfield d_Teacher_readList_224 rfl f_Teacher_34 (rw_u (by omega)) (by rfl) ?_
            refine Go.gets d_Teacher_readList_227 rfl x_Teacher_121 (hs.z (i := 39) rfl) ?_
            refine Go.cv1v d_Teacher_readList_230 rfl l_Teacher_124 k_Tokens_expect_v (rw_y (by omega)) rfl (w1_Tokens_expect (x1 := (39 : Fin 54)) hs hsn (by omega) hN0 (wfN1_Teacher_readStake hN1) hN2 hN3 hN4) (Nat.ble_eq_true_of_le (by omega)) rfl rfl ?_
            refine Go.iinc_1 d_Teacher_readList_233 rfl (by rfl) (nI_inc _) ?_
            refine Go.goto (t := 2) d_Teacher_readList_236 (by decide) ?_
            rw [if_neg c19_2, if_neg c29_3, if_neg w46_4, if_pos w46_5]
            exact ih (i + 1) _ _ _ _ _ _ _ _ _ _ (by omega) (by first | exact hn | (simp only []; exact hn)) hN0 (wfN1_Teacher_readStake hN1) hN2 hN3 hN4 hT (wfσ_Teacher_readStake hW)
          by_cases w46_6 : (swf (s_Tokens_sign K).val) = 3
          · refine Go.tsw (t := 118) d_Teacher_readList_46 (by rw [w46_6]; rfl) ?_
            refine Go.aload_0 d_Teacher_readList_118 rfl ?_
            refine Go.cv0v d_Teacher_readList_119 rfl l_Teacher_87 k_Teacher_readCrevasse_v (rw_u (by omega)) rfl (c_Teacher_readCrevasse hs hsn hw (by omega) hN0 hN1 hN2 hN3 hN4 ho hT hW) (Nat.ble_eq_true_of_le (by omega)) rfl rfl ?_
            refine Go.goto (t := 223) d_Teacher_readList_122 (by decide) ?_
            refine Go.aload_0 d_Teacher_readList_223 rfl ?_
            refine Go.getfield d_Teacher_readList_224 rfl f_Teacher_34 (rw_u (by omega)) (by rfl) ?_
            refine Go.gets d_Teacher_readList_227 rfl x_Teacher_121 (hs.z (i := 39) rfl) ?_
            refine Go.cv1v d_Teacher_readList_230 rfl l_Teacher_124 k_Tokens_expect_v (rw_y (by omega)) rfl (w1_Tokens_expect (x1 := (39 : Fin 54)) hs hsn (by omega) hN0 hN1 (wfN2_Teacher_readCrevasse hN2) hN3 hN4) (Nat.ble_eq_true_of_le (by omega)) rfl rfl ?_
            refine Go.iinc_1 d_Teacher_readList_233 rfl (by rfl) (nI_inc _) ?_
            refine Go.goto (t := 2) d_Teacher_readList_236 (by decide) ?_
            rw [if_neg c19_2, if_neg c29_3, if_neg w46_4, if_neg w46_5, if_pos w46_6]
            exact ih (i + 1) _ _ _ _ _ _ _ _ _ _ (by omega) (by first | exact hn | (simp only []; exact hn)) hN0 hN1 (wfN2_Teacher_readCrevasse hN2) hN3 hN4 hT (wfσ_Teacher_readCrevasse hW)
          by_cases w46_7 : (swf (s_Tokens_sign K).val) = 4
          · refine Go.tsw (t := 125) d_Teacher_readList_46 (by rw [w46_7]; rfl) ?_
            refine Go.aload_0 d_Teacher_readList_125 rfl ?_
            refine Go.cv0v d_Teacher_readList_126 rfl l_Teacher_90 k_Teacher_readDepot_v (rw_u (by omega)) rfl (c_Teacher_readDepot hs hsn hw (by omega) hN0 hN1 hN2 hN3 hN4 ho hT hW) (Nat.ble_eq_true_of_le (by omega)) rfl rfl ?_
            refine Go.goto (t := 223) d_Teacher_readList_129 (by decide) ?_
            refine Go.aload_0 d_Teacher_readList_223 rfl ?_
            refine Go.getfield d_Teacher_readList_224 rfl f_Teacher_34 (rw_u (by omega)) (by rfl) ?_
            refine Go.gets d_Teacher_readList_227 rfl x_Teacher_121 (hs.z (i := 39) rfl) ?_
            refine Go.cv1v d_Teacher_readList_230 rfl l_Teacher_124 k_Tokens_expect_v (rw_y (by omega)) rfl (w1_Tokens_expect (x1 := (39 : Fin 54)) hs hsn (by omega) hN0 hN1 hN2 (wfN3_Teacher_readDepot hN3) hN4) (Nat.ble_eq_true_of_le (by omega)) rfl rfl ?_
            refine Go.iinc_1 d_Teacher_readList_233 rfl (by rfl) (nI_inc _) ?_
            refine Go.goto (t := 2) d_Teacher_readList_236 (by decide) ?_
            rw [if_neg c19_2, if_neg c29_3, if_neg w46_4, if_neg w46_5, if_neg w46_6, if_pos w46_7]
            exact ih (i + 1) _ _ _ _ _ _ _ _ _ _ (by omega) (by first | exact hn | (simp only []; exact hn)) hN0 hN1 hN2 (wfN3_Teacher_readDepot hN3) hN4 hT (wfσ_Teacher_readDepot hW)
          by_cases w46_8 : (swf (s_Tokens_sign K).val) = 5
          · refine Go.tsw (t := 132) d_Teacher_readList_46 (by rw [w46_8]; rfl) ?_
            refine Go.aload_0 d_Teacher_readList_132 rfl ?_
            refine Go.cv0v d_Teacher_readList_133 rfl l_Teacher_93 k_Teacher_readTeam_v (rw_u (by omega)) rfl (c_Teacher_readTeam hs hsn hw (by omega) hN0 hN1 hN2 hN3 hN4 ho hT hW) (Nat.ble_eq_true_of_le (by omega)) rfl rfl ?_
            refine Go.goto (t := 223) d_Teacher_readList_136 (by decide) ?_
            refine Go.aload_0 d_Teacher_readList_223 rfl ?_
            refine Go.getfield d_Teacher_readList_224 rfl f_Teacher_34 (rw_u (by omega)) (by rfl) ?_
            refine Go.gets d_Teacher_readList_227 rfl x_Teacher_121 (hs.z (i := 39) rfl) ?_
            refine Go.cv1v d_Teacher_readList_230 rfl l_Teacher_124 k_Tokens_expect_v (rw_y (by omega)) rfl (w1_Tokens_expect (x1 := (39 : Fin 54)) hs hsn (by omega) hN0 hN1 hN2 hN3 (wfN4_Teacher_readTeam hN4)) (Nat.ble_eq_true_of_le (by omega)) rfl rfl ?_
            refine Go.iinc_1 d_Teacher_readList_233 rfl (by rfl) (nI_inc _) ?_
            refine Go.goto (t := 2) d_Teacher_readList_236 (by decide) ?_
            rw [if_neg c19_2, if_neg c29_3, if_neg w46_4, if_neg w46_5, if_neg w46_6, if_neg w46_7, if_pos w46_8]
            exact ih (i + 1) _ _ _ _ _ _ _ _ _ _ (by omega) (by first | exact hn | (simp only []; exact hn)) hN0 hN1 hN2 hN3 (wfN4_Teacher_readTeam hN4) hT (wfσ_Teacher_readTeam hW)
          by_cases w46_9 : (swf (s_Tokens_sign K).val) = 6
          · refine Go.tsw (t := 139) d_Teacher_readList_46 (by rw [w46_9]; rfl) ?_
            refine Go.aload_0 d_Teacher_readList_139 rfl ?_
            refine Go.cv0v d_Teacher_readList_140 rfl l_Teacher_96 k_Teacher_readDay_v (rw_u (by omega)) rfl (c_Teacher_readDay hs hsn hw (by omega) hN0 hN1 hN2 hN3 hN4 ho hT hW) (Nat.ble_eq_true_of_le (by omega)) rfl rfl ?_
            refine Go.goto (t := 223) d_Teacher_readList_143 (by decide) ?_
            refine Go.aload_0 d_Teacher_readList_223 rfl ?_
            refine Go.getfield d_Teacher_readList_224 rfl f_Teacher_34 (rw_u (by omega)) (by rfl) ?_
            refine Go.gets d_Teacher_readList_227 rfl x_Teacher_121 (hs.z (i := 39) rfl) ?_
            refine Go.cv1v d_Teacher_readList_230 rfl l_Teacher_124 k_Tokens_expect_v (rw_y (by omega)) rfl (w1_Tokens_expect (x1 := (39 : Fin 54)) hs hsn (by omega) hN0 hN1 hN2 hN3 hN4) (Nat.ble_eq_true_of_le (by omega)) rfl rfl ?_
            refine Go.iinc_1 d_Teacher_readList_233 rfl (by rfl) (nI_inc _) ?_
            refine Go.goto (t := 2) d_Teacher_readList_236 (by decide) ?_
            rw [if_neg c19_2, if_neg c29_3, if_neg w46_4, if_neg w46_5, if_neg w46_6, if_neg w46_7, if_neg w46_8, if_pos w46_9]
            exact ih (i + 1) _ _ _ _ _ _ _ _ _ _ (by omega) (by first | exact hn | (simp only []; exact hn)) hN0 hN1 hN2 hN3 hN4 hT (wfσ_Teacher_readDay hW)
          by_cases w46_10 : (swf (s_Tokens_sign K).val) = 7
          · refine Go.tsw (t := 146) d_Teacher_readList_46 (by rw [w46_10]; rfl) ?_
            refine Go.aload_0 d_Teacher_readList_146 rfl ?_
            refine Go.iconst (v := 0) d_Teacher_readList_147 rfl (by decide) ?_
            refine Go.cv1v d_Teacher_readList_148 rfl l_Teacher_99 k_Teacher_readGo_v (rw_u (by omega)) rfl (c_Teacher_readGo hs hsn hw (by omega) hN0 hN1 hN2 hN3 hN4 ho hT hW) (Nat.ble_eq_true_of_le (by omega)) rfl rfl ?_
            refine Go.aload_0 d_Teacher_readList_151 rfl ?_
            refine Go.cv0v d_Teacher_readList_152 rfl l_Teacher_103 k_Teacher_readWhen_v (rw_u (by omega)) rfl (c_Teacher_readWhen hs hsn hw (by omega) hN0 hN1 hN2 hN3 hN4 ho (wfT_Teacher_readGo hT) hW) (Nat.ble_eq_true_of_le (by omega)) rfl rfl ?_
            refine Go.goto (t := 223) d_Teacher_readList_155 (by decide) ?_
            refine Go.aload_0 d_Teacher_readList_223 rfl ?_
            refine Go.getfield d_Teacher_readList_224 rfl f_Teacher_34 (rw_u (by omega)) (by rfl) ?_
            refine Go.gets d_Teacher_readList_227 rfl x_Teacher_121 (hs.z (i := 39) rfl) ?_
            refine Go.cv1v d_Teacher_readList_230 rfl l_Teacher_124 k_Tokens_expect_v (rw_y (by omega)) rfl (w1_Tokens_expect (x1 := (39 : Fin 54)) hs hsn (by omega) hN0 hN1 hN2 hN3 hN4) (Nat.ble_eq_true_of_le (by omega)) rfl rfl ?_
            refine Go.iinc_1 d_Teacher_readList_233 rfl (by rfl) (nI_inc _) ?_
            refine Go.goto (t := 2) d_Teacher_readList_236 (by decide) ?_
            rw [if_neg c19_2, if_neg c29_3, if_neg w46_4, if_neg w46_5, if_neg w46_6, if_neg w46_7, if_neg w46_8, if_neg w46_9, if_pos w46_10]
            exact ih (i + 1) _ _ _ _ _ _ _ _ _ _ (by omega) (by first | exact hn | (simp only []; exact hn)) hN0 hN1 hN2 hN3 hN4 (wfT_Teacher_readWhen (wfT_Teacher_readGo hT)) hW
          by_cases w46_11 : (swf (s_Tokens_sign K).val) = 8
          · refine Go.tsw (t := 158) d_Teacher_readList_46 (by rw [w46_11]; rfl) ?_
            refine Go.aload_0 d_Teacher_readList_158 rfl ?_
            refine Go.iconst (v := 1) d_Teacher_readList_159 rfl (by decide) ?_
            refine Go.cv1v d_Teacher_readList_160 rfl l_Teacher_99 k_Teacher_readGo_v (rw_u (by omega)) rfl (c_Teacher_readGo hs hsn hw (by omega) hN0 hN1 hN2 hN3 hN4 ho hT hW) (Nat.ble_eq_true_of_le (by omega)) rfl rfl ?_
            refine Go.aload_0 d_Teacher_readList_163 rfl ?_
            refine Go.cv0v d_Teacher_readList_164 rfl l_Teacher_103 k_Teacher_readWhen_v (rw_u (by omega)) rfl (c_Teacher_readWhen hs hsn hw (by omega) hN0 hN1 hN2 hN3 hN4 ho (wfT_Teacher_readGo hT) hW) (Nat.ble_eq_true_of_le (by omega)) rfl rfl ?_
            refine Go.goto (t := 223) d_Teacher_readList_167 (by decide) ?_
            refine Go.aload_0 d_Teacher_readList_223 rfl ?_
            refine Go.getfield d_Teacher_readList_224 rfl f_Teacher_34 (rw_u (by omega)) (by rfl) ?_
            refine Go.gets d_Teacher_readList_227 rfl x_Teacher_121 (hs.z (i := 39) rfl) ?_
            refine Go.cv1v d_Teacher_readList_230 rfl l_Teacher_124 k_Tokens_expect_v (rw_y (by omega)) rfl (w1_Tokens_expect (x1 := (39 : Fin 54)) hs hsn (by omega) hN0 hN1 hN2 hN3 hN4) (Nat.ble_eq_true_of_le (by omega)) rfl rfl ?_
            refine Go.iinc_1 d_Teacher_readList_233 rfl (by rfl) (nI_inc _) ?_
            refine Go.goto (t := 2) d_Teacher_readList_236 (by decide) ?_
            rw [if_neg c19_2, if_neg c29_3, if_neg w46_4, if_neg w46_5, if_neg w46_6, if_neg w46_7, if_neg w46_8, if_neg w46_9, if_neg w46_10, if_pos w46_11]
            exact ih (i + 1) _ _ _ _ _ _ _ _ _ _ (by omega) (by first | exact hn | (simp only []; exact hn)) hN0 hN1 hN2 hN3 hN4 (wfT_Teacher_readWhen (wfT_Teacher_readGo hT)) hW
          by_cases w46_12 : (swf (s_Tokens_sign K).val) = 9
          · refine Go.tsw (t := 170) d_Teacher_readList_46 (by rw [w46_12]; rfl) ?_
            refine Go.aload_0 d_Teacher_readList_170 rfl ?_
            refine Go.cv0v d_Teacher_readList_171 rfl l_Teacher_106 k_Teacher_readProbe_v (rw_u (by omega)) rfl (c_Teacher_readProbe hs hsn hw (by omega) hN0 hN1 hN2 hN3 hN4 ho hT hW) (Nat.ble_eq_true_of_le (by omega)) rfl rfl ?_
            refine Go.aload_0 d_Teacher_readList_174 rfl ?_
            refine Go.cv0v d_Teacher_readList_175 rfl l_Teacher_103 k_Teacher_readWhen_v (rw_u (by omega)) rfl (c_Teacher_readWhen hs hsn hw (by omega) hN0 hN1 hN2 hN3 hN4 ho (wfT_Teacher_readProbe hT) hW) (Nat.ble_eq_true_of_le (by omega)) rfl rfl ?_
            refine Go.goto (t := 223) d_Teacher_readList_178 (by decide) ?_
            refine Go.aload_0 d_Teacher_readList_223 rfl ?_
            refine Go.getfield d_Teacher_readList_224 rfl f_Teacher_34 (rw_u (by omega)) (by rfl) ?_
            refine Go.gets d_Teacher_readList_227 rfl x_Teacher_121 (hs.z (i := 39) rfl) ?_
            refine Go.cv1v d_Teacher_readList_230 rfl l_Teacher_124 k_Tokens_expect_v (rw_y (by omega)) rfl (w1_Tokens_expect (x1 := (39 : Fin 54)) hs hsn (by omega) hN0 hN1 hN2 hN3 hN4) (Nat.ble_eq_true_of_le (by omega)) rfl rfl ?_
            refine Go.iinc_1 d_Teacher_readList_233 rfl (by rfl) (nI_inc _) ?_
            refine Go.goto (t := 2) d_Teacher_readList_236 (by decide) ?_
            rw [if_neg c19_2, if_neg c29_3, if_neg w46_4, if_neg w46_5, if_neg w46_6, if_neg w46_7, if_neg w46_8, if_neg w46_9, if_neg w46_10, if_neg w46_11, if_pos w46_12]
            exact ih (i + 1) _ _ _ _ _ _ _ _ _ _ (by omega) (by first | exact hn | (simp only []; exact hn)) hN0 hN1 hN2 hN3 hN4 (wfT_Teacher_readWhen (wfT_Teacher_readProbe hT)) hW
          by_cases w46_13 : (swf (s_Tokens_sign K).val) = 10
          · refine Go.tsw (t := 181) d_Teacher_readList_46 (by rw [w46_13]; rfl) ?_
            refine Go.aload_0 d_Teacher_readList_181 rfl ?_
            refine Go.cv0v d_Teacher_readList_182 rfl l_Teacher_109 k_Teacher_readFill_v (rw_u (by omega)) rfl (c_Teacher_readFill hs hsn hw (by omega) hN0 hN1 hN2 hN3 hN4 ho hT hW) (Nat.ble_eq_true_of_le (by omega)) rfl rfl ?_
            refine Go.aload_0 d_Teacher_readList_185 rfl ?_
            refine Go.getfield d_Teacher_readList_186 rfl f_Teacher_34 (rw_u (by omega)) (by rfl) ?_
            refine Go.cv0r d_Teacher_readList_189 rfl l_Teacher_62 k_Tokens_sign_v (rw_y (by omega)) rfl (w1_Tokens_sign hs hsn (by omega) hN0 hN1 hN2 hN3 hN4) (Nat.ble_eq_true_of_le (by omega)) rfl rfl ?_
            refine Go.gets d_Teacher_readList_192 rfl x_Teacher_112 (hs.z (i := 22) rfl) ?_
            refine Go.acmp_ne (t := 223) d_Teacher_readList_195 (by decide) rfl (fun c195_14 => ?_) (fun c195_14 => ?_)
            · have c195_14 : ¬ (s_Tokens_sign (s_Teacher_readFill K F E N0 N1 N2 N3 N4 T σ).1).val = 22 := fun w => c195_14 (by rw [w])
              refine Go.aload_0 d_Teacher_readList_223 rfl ?_
              refine Go.getfield d_Teacher_readList_224 rfl f_Teacher_34 (rw_u (by omega)) (by rfl) ?_
              refine Go.gets d_Teacher_readList_227 rfl x_Teacher_121 (hs.z (i := 39) rfl) ?_
              refine Go.cv1v d_Teacher_readList_230 rfl l_Teacher_124 k_Tokens_expect_v (rw_y (by omega)) rfl (w1_Tokens_expect (x1 := (39 : Fin 54)) hs hsn (by omega) hN0 hN1 hN2 hN3 hN4) (Nat.ble_eq_true_of_le (by omega)) rfl rfl ?_
              refine Go.iinc_1 d_Teacher_readList_233 rfl (by rfl) (nI_inc _) ?_
              refine Go.goto (t := 2) d_Teacher_readList_236 (by decide) ?_
              rw [if_neg c19_2, if_neg c29_3, if_neg w46_4, if_neg w46_5, if_neg w46_6, if_neg w46_7, if_neg w46_8, if_neg w46_9, if_neg w46_10, if_neg w46_11, if_neg w46_12, if_pos w46_13, if_neg c195_14]
              exact ih (i + 1) _ _ _ _ _ _ _ _ _ _ (by omega) (by first | exact hn | (simp only []; exact hn)) hN0 hN1 hN2 hN3 hN4 (wfT_Teacher_readFill hT) hW
            · have c195_14 := hsn _ _ ((s_Tokens_sign (s_Teacher_readFill K F E N0 N1 N2 N3 N4 T σ).1)).isLt (by decide) c195_14
              refine Go.aload_0 d_Teacher_readList_198 rfl ?_
              refine Go.cv0v d_Teacher_readList_199 rfl l_Teacher_103 k_Teacher_readWhen_v (rw_u (by omega)) rfl (c_Teacher_readWhen hs hsn hw (by omega) hN0 hN1 hN2 hN3 hN4 ho (wfT_Teacher_readFill hT) hW) (Nat.ble_eq_true_of_le (by omega)) rfl rfl ?_
              refine Go.goto (t := 223) d_Teacher_readList_202 (by decide) ?_
              refine Go.aload_0 d_Teacher_readList_223 rfl ?_
              refine Go.getfield d_Teacher_readList_224 rfl f_Teacher_34 (rw_u (by omega)) (by rfl) ?_
              refine Go.gets d_Teacher_readList_227 rfl x_Teacher_121 (hs.z (i := 39) rfl) ?_
              refine Go.cv1v d_Teacher_readList_230 rfl l_Teacher_124 k_Tokens_expect_v (rw_y (by omega)) rfl (w1_Tokens_expect (x1 := (39 : Fin 54)) hs hsn (by omega) hN0 hN1 hN2 hN3 hN4) (Nat.ble_eq_true_of_le (by omega)) rfl rfl ?_
              refine Go.iinc_1 d_Teacher_readList_233 rfl (by rfl) (nI_inc _) ?_
              refine Go.goto (t := 2) d_Teacher_readList_236 (by decide) ?_
              rw [if_neg c19_2, if_neg c29_3, if_neg w46_4, if_neg w46_5, if_neg w46_6, if_neg w46_7, if_neg w46_8, if_neg w46_9, if_neg w46_10, if_neg w46_11, if_neg w46_12, if_pos w46_13, if_pos c195_14]
              exact ih (i + 1) _ _ _ _ _ _ _ _ _ _ (by omega) (by first | exact hn | (simp only []; exact hn)) hN0 hN1 hN2 hN3 hN4 (wfT_Teacher_readWhen (wfT_Teacher_readFill hT)) hW
          by_cases w46_15 : (swf (s_Tokens_sign K).val) = 11
          · refine Go.tsw (t := 205) d_Teacher_readList_46 (by rw [w46_15]; rfl) ?_
            refine Go.aload_0 d_Teacher_readList_205 rfl ?_
            refine Go.cv0v d_Teacher_readList_206 rfl l_Teacher_115 k_Teacher_readDrill_v (rw_u (by omega)) rfl (c_Teacher_readDrill hs hsn hw (by omega) hN0 hN1 hN2 hN3 hN4 ho hT hW) (Nat.ble_eq_true_of_le (by omega)) rfl rfl ?_
            refine Go.aload_0 d_Teacher_readList_209 rfl ?_
            refine Go.cv0v d_Teacher_readList_210 rfl l_Teacher_103 k_Teacher_readWhen_v (rw_u (by omega)) rfl (c_Teacher_readWhen hs hsn hw (by omega) hN0 hN1 hN2 hN3 hN4 ho (wfT_Teacher_readDrill hT) hW) (Nat.ble_eq_true_of_le (by omega)) rfl rfl ?_
            refine Go.goto (t := 223) d_Teacher_readList_213 (by decide) ?_
            refine Go.aload_0 d_Teacher_readList_223 rfl ?_
            refine Go.getfield d_Teacher_readList_224 rfl f_Teacher_34 (rw_u (by omega)) (by rfl) ?_
            refine Go.gets d_Teacher_readList_227 rfl x_Teacher_121 (hs.z (i := 39) rfl) ?_
            refine Go.cv1v d_Teacher_readList_230 rfl l_Teacher_124 k_Tokens_expect_v (rw_y (by omega)) rfl (w1_Tokens_expect (x1 := (39 : Fin 54)) hs hsn (by omega) hN0 hN1 hN2 hN3 hN4) (Nat.ble_eq_true_of_le (by omega)) rfl rfl ?_
            refine Go.iinc_1 d_Teacher_readList_233 rfl (by rfl) (nI_inc _) ?_
            refine Go.goto (t := 2) d_Teacher_readList_236 (by decide) ?_
            rw [if_neg c19_2, if_neg c29_3, if_neg w46_4, if_neg w46_5, if_neg w46_6, if_neg w46_7, if_neg w46_8, if_neg w46_9, if_neg w46_10, if_neg w46_11, if_neg w46_12, if_neg w46_13, if_pos w46_15]
            exact ih (i + 1) _ _ _ _ _ _ _ _ _ _ (by omega) (by first | exact hn | (simp only []; exact hn)) hN0 hN1 hN2 hN3 hN4 (wfT_Teacher_readWhen (wfT_Teacher_readDrill hT)) hW
          refine Go.tsw (t := 216) d_Teacher_readList_46 (tsw_out fun n hn => by
                      match n, hn with
                      | 0, _ => exact fun w => w46_4 (i32_eq w)
                      | 1, _ => exact fun w => w46_5 (i32_eq w)
                      | 2, _ => exact fun w => w46_6 (i32_eq w)
                      | 3, _ => exact fun w => w46_7 (i32_eq w)
                      | 4, _ => exact fun w => w46_8 (i32_eq w)
                      | 5, _ => exact fun w => w46_9 (i32_eq w)
                      | 6, _ => exact fun w => w46_10 (i32_eq w)
                      | 7, _ => exact fun w => w46_11 (i32_eq w)
                      | 8, _ => exact fun w => w46_12 (i32_eq w)
                      | 9, _ => exact fun w => w46_13 (i32_eq w)
                      | 10, _ => exact fun w => w46_15 (i32_eq w)
                      | _ + 11, w => exact absurd w (by simp)) ?_
          refine Go.aload_0 d_Teacher_readList_216 rfl ?_
          refine Go.getfield d_Teacher_readList_217 rfl f_Teacher_34 (rw_u (by omega)) (by rfl) ?_
          refine Go.cv0v d_Teacher_readList_220 rfl l_Teacher_118 k_Tokens_breakOff_v (rw_y (by omega)) rfl (w1_Tokens_breakOff hs hsn (by omega) hN0 hN1 hN2 hN3 hN4) (Nat.ble_eq_true_of_le (by omega)) rfl rfl ?_
          refine Go.aload_0 d_Teacher_readList_223 rfl ?_
          refine Go.getfield d_Teacher_readList_224 rfl f_Teacher_34 (rw_u (by omega)) (by rfl) ?_
          refine Go.gets d_Teacher_readList_227 rfl x_Teacher_121 (hs.z (i := 39) rfl) ?_
          refine Go.cv1v d_Teacher_readList_230 rfl l_Teacher_124 k_Tokens_expect_v (rw_y (by omega)) rfl (w1_Tokens_expect (x1 := (39 : Fin 54)) hs hsn (by omega) hN0 hN1 hN2 hN3 hN4) (Nat.ble_eq_true_of_le (by omega)) rfl rfl ?_
          refine Go.iinc_1 d_Teacher_readList_233 rfl (by rfl) (nI_inc _) ?_
          refine Go.goto (t := 2) d_Teacher_readList_236 (by decide) ?_
          rw [if_neg c19_2, if_neg c29_3, if_neg w46_4, if_neg w46_5, if_neg w46_6, if_neg w46_7, if_neg w46_8, if_neg w46_9, if_neg w46_10, if_neg w46_11, if_neg w46_12, if_neg w46_13, if_neg w46_15]
          exact ih (i + 1) _ _ _ _ _ _ _ _ _ _ (by omega) (by first | exact hn | (simp only []; exact hn)) hN0 hN1 hN2 hN3 hN4 hT hW
theorem d_Teacher_readList_0 : decode M_Teacher_readList.2.1 0 = .ok (.iconst 0, 1) := by decide +kernel
theorem d_Teacher_readList_1 : decode M_Teacher_readList.2.1 1 = .ok (.istore_n 1, 1) := by decide +kernel
def s_Teacher_readList (K : TK) (F : FM) (E : TE) (N0 : NM) (N1 : NM) (N2 : NM) (N3 : NM) (N4 : NM) (T : TM) (σ : GL) : TK × FM × TE × NM × NM × NM × NM × NM × TM × GL := (l_Teacher_readList_2 (400) 0 K F E N0 N1 N2 N3 N4 T σ)
set_option maxRecDepth 100000 in
set_option maxHeartbeats 800000 in
theorem c_Teacher_readList {Γ : G9} {sg : Nat → Nat} {sw : Nat} {h : AH} {y g o u z : Nat} {K : TK} {F : FM} {E : TE} {N0 : NM} {N1 : NM} {N2 : NM} {N3 : NM} {N4 : NM} {T : TM} {σ : GL} (hs : SgOk Γ sg) (hsn : SgNe sg) (hw : SwOk Γ sw) (geo : y + 4 ≤ g ∧ g + 12 ≤ o ∧ o + 7 ≤ u) (hN0 : nm_sz N0 ≤ 6) (hN1 : nm_sz N1 ≤ 6) (hN2 : nm_sz N2 ≤ 6) (hN3 : nm_sz N3 ≤ 6) (hN4 : nm_sz N4 ≤ 6) (ho : h o = some (.inr (3, [.ref (o + 1), .ref (o + 3)]))) (hT : T.2 ≤ 20) (hW : WFG σ) : CallR Γ M_Teacher_readList 72 [.ref u] (rw_ Γ sg (blk (blk h g 12 (glC Γ g σ)) (o + 1) 2 (tbC Γ 20 (o + 1) T)) y g o u K F E N0 N1 N2 N3 N4) z none (rw_ Γ sg (blk (blk h g 12 (glC Γ g (s_Teacher_readList K F E N0 N1 N2 N3 N4 T σ).2.2.2.2.2.2.2.2.2)) (o + 1) 2 (tbC Γ 20 (o + 1) (s_Teacher_readList K F E N0 N1 N2 N3 N4 T σ).2.2.2.2.2.2.2.2.1)) y g o u (s_Teacher_readList K F E N0 N1 N2 N3 N4 T σ).1 (s_Teacher_readList K F E N0 N1 N2 N3 N4 T σ).2.1 (s_Teacher_readList K F E N0 N1 N2 N3 N4 T σ).2.2.1 (s_Teacher_readList K F E N0 N1 N2 N3 N4 T σ).2.2.2.1 (s_Teacher_readList K F E N0 N1 N2 N3 N4 T σ).2.2.2.2.1 (s_Teacher_readList K F E N0 N1 N2 N3 N4 T σ).2.2.2.2.2.1 (s_Teacher_readList K F E N0 N1 N2 N3 N4 T σ).2.2.2.2.2.2.1 (s_Teacher_readList K F E N0 N1 N2 N3 N4 T σ).2.2.2.2.2.2.2.1) := by
  refine Call.of_go (L := [some (.ref u), none]) (by decide +kernel) rfl (by exact Nat.le_of_ble_eq_true rfl) ?_
  unfold s_Teacher_readList
  refine Go.iconst (v := 0) d_Teacher_readList_0 rfl (by decide) ?_
  refine Go.istore_1 d_Teacher_readList_1 rfl (by rfl) ?_
  exact l_Teacher_readList_2_go (n := (400)) hs hsn hw geo ho (by decide) (400) 0 K F E N0 N1 N2 N3 N4 T σ (by omega) rfl hN0 hN1 hN2 hN3 hN4 hT hW
