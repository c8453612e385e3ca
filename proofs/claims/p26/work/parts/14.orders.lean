/-! Orders, and what a day does -/
def tbC (Γ : G9) (cap t : Nat) (T : TM) : Nat → Option va_E
  | 0 => some (tabO t T)
  | 1 => some (aI Γ (cap * 8) T.1)
  | _ => none
section TbBlk
variable {Γ : G9} {h : AH} {t cap z : Nat} {T : TM}
theorem tb_g0 : blk h t 2 (tbC Γ cap t T) t = some (tabO t T) := blk_at0 (by decide)
theorem tb_g1 : blk h t 2 (tbC Γ cap t T) (t + 1) = some (aI Γ (cap * 8) T.1) := blk_at (k := 1) (by decide)
theorem tb_a {f : Nat → Int32} : hup (blk h t 2 (tbC Γ cap t T)) (t + 1) (aI Γ (cap * 8) f) = blk h t 2 (tbC Γ cap t (f, T.2)) := by
  rw [blk_hup (by decide)]
  refine blk_ext fun j hj => ?_
  match j, hj with
  | 0, _ => rfl
  | 1, _ => rfl
  | _ + 2, w => exact absurd w (by omega)
theorem tb_o {U : TM} (hU : U.1 = T.1) : hup (blk h t 2 (tbC Γ cap t T)) t (tabO t U) = blk h t 2 (tbC Γ cap t U) := by
  rw [blk_hup0 (by decide)]
  refine blk_ext fun j hj => ?_
  match j, hj with
  | 0, _ => rfl
  | 1, _ => show some (aI Γ (cap * 8) T.1) = some (aI Γ (cap * 8) U.1); rw [hU]
  | _ + 2, w => exact absurd w (by omega)
theorem tsI_eta {row : Int32} {c : Nat} {v : Int32} : ((tsI T row c v).1, T.2) = tsI T row c v := by
  have := tsI_rows (T := T) (row := row) (c := c) (v := v)
  rw [← this]
theorem tadd_le {k : Nat} (hT : T.2 ≤ k) : (taddT k T).2 ≤ k := by
  unfold taddT
  split
  · show T.2 + 1 ≤ k
    omega
  · exact hT
theorem cT_rows : CallR Γ M_Table_rows 0 [.ref t] (blk h t 2 (tbC Γ cap t T)) z (some (.int (nI T.2))) (blk h t 2 (tbC Γ cap t T)) := c_Table_rows tb_g0
theorem cT_get {row : Int32} {c : Nat} (hw : T.2 ≤ cap) (hcap : cap ≤ 20) (hc : c < 8) : CallR Γ M_Table_get 0 [.ref t, .int row, .int (nI c)] (blk h t 2 (tbC Γ cap t T)) z (some (.int (tgI T row c))) (blk h t 2 (tbC Γ cap t T)) := c_Table_get tb_g0 tb_g1 hw hcap hc
theorem cT_set {row v : Int32} {c : Nat} (hw : T.2 ≤ cap) (hcap : cap ≤ 20) (hc : c < 8) : CallR Γ M_Table_set 0 [.ref t, .int row, .int (nI c), .int v] (blk h t 2 (tbC Γ cap t T)) z none (blk h t 2 (tbC Γ cap t (tsI T row c v))) := by
  have := c_Table_set (Γ := Γ) (z := z) (row := row) (v := v) (c := c) (tb_g0 (h := h) (cap := cap) (T := T) (t := t)) tb_g1 hw hcap hc
  rw [tb_a, tsI_eta] at this
  exact this
theorem cT_clear : CallR Γ M_Table_clear 0 [.ref t] (blk h t 2 (tbC Γ cap t T)) z none (blk h t 2 (tbC Γ cap t (T.1, 0))) := by
  have := c_Table_clear (Γ := Γ) (z := z) (tb_g0 (Γ := Γ) (h := h) (cap := cap) (T := T) (t := t))
  rw [tb_o (show ((T.1, 0) : TM).1 = T.1 from rfl)] at this
  exact this
theorem cT_addRow (hw : T.2 ≤ cap) (hcap : cap ≤ 20) (hc1 : 1 ≤ cap) : CallR Γ M_Table_addRow 0 [.ref t] (blk h t 2 (tbC Γ cap t T)) z (some (.int (taddR cap T))) (blk h t 2 (tbC Γ cap t (taddT cap T))) := by
  have := c_Table_addRow (Γ := Γ) (z := z) (tb_g0 (h := h) (cap := cap) (T := T) (t := t)) tb_g1 hw hcap hc1
  rw [tb_a, tb_o (show (taddT cap T).1 = ((taddT cap T).1, T.2).1 from rfl)] at this
  exact this
end TbBlk
theorem d_Orders_size_0 : decode M_Orders_size.2.1 0 = .ok (.aload_n 0, 1) := by decide +kernel
theorem d_Orders_size_1 : decode M_Orders_size.2.1 1 = .ok (.getfield 14, 3) := by decide +kernel
theorem d_Orders_size_4 : decode M_Orders_size.2.1 4 = .ok (.invokevirtual 27, 3) := by decide +kernel
theorem d_Orders_size_7 : decode M_Orders_size.2.1 7 = .ok (.ireturn, 1) := by decide +kernel
def s_Orders_size (T : TM) (F : FM) : Int32 := (nI (T).2)
set_option maxRecDepth 100000 in
set_option maxHeartbeats 4000000 in
theorem c_Orders_size {Γ : G9} {sg : Nat → Nat} {h : AH} {o z : Nat} {T : TM} {F : FM} (ho : h o = some (.inr (3, [.ref (o + 1), .ref (o + 3)]))) (hT : T.2 ≤ 20) : CallR Γ M_Orders_size 1 [.ref o] (blk (blk h (o + 1) 2 (tbC Γ 20 (o + 1) T)) (o + 3) 4 (fmC Γ sg (o + 3) F)) z (some (.int (s_Orders_size T F))) (blk (blk h (o + 1) 2 (tbC Γ 20 (o + 1) T)) (o + 3) 4 (fmC Γ sg (o + 3) F)) := by
  refine Call.of_go (L := [some (.ref o)]) (by decide +kernel) rfl (by exact Nat.le_of_ble_eq_true rfl) ?_
  unfold s_Orders_size
  refine Go.aload_0 d_Orders_size_0 rfl ?_
  refine Go.getfield d_Orders_size_1 rfl f_Orders_14 ((blk_out (by omega)).trans ((blk_out (by omega)).trans ho)) (by rfl) ?_
  refine Go.heq (blk_comm (by omega)) ?_
  refine Go.cv0r d_Orders_size_4 rfl l_Orders_27 k_Table_rows_v (tb_g0) rfl cT_rows rfl rfl rfl ?_
  refine Go.heq (blk_comm (by omega)) ?_
  exact Go.iret d_Orders_size_7 rfl rfl ⟨rfl, rfl, rfl⟩
theorem d_Orders_clear_0 : decode M_Orders_clear.2.1 0 = .ok (.aload_n 0, 1) := by decide +kernel
theorem d_Orders_clear_1 : decode M_Orders_clear.2.1 1 = .ok (.getfield 14, 3) := by decide +kernel
theorem d_Orders_clear_4 : decode M_Orders_clear.2.1 4 = .ok (.invokevirtual 31, 3) := by decide +kernel
theorem d_Orders_clear_7 : decode M_Orders_clear.2.1 7 = .ok (.aload_n 0, 1) := by decide +kernel
theorem d_Orders_clear_8 : decode M_Orders_clear.2.1 8 = .ok (.getfield 23, 3) := by decide +kernel
theorem d_Orders_clear_11 : decode M_Orders_clear.2.1 11 = .ok (.invokevirtual 34, 3) := by decide +kernel
theorem d_Orders_clear_14 : decode M_Orders_clear.2.1 14 = .ok (.return_, 1) := by decide +kernel
def s_Orders_clear (T : TM) (F : FM) : TM × FM := (((T).1, 0), (s_Formulas_clear F))
set_option maxRecDepth 100000 in
set_option maxHeartbeats 4000000 in
theorem c_Orders_clear {Γ : G9} {sg : Nat → Nat} {h : AH} {o z : Nat} {T : TM} {F : FM} (ho : h o = some (.inr (3, [.ref (o + 1), .ref (o + 3)]))) (hT : T.2 ≤ 20) : CallR Γ M_Orders_clear 1 [.ref o] (blk (blk h (o + 1) 2 (tbC Γ 20 (o + 1) T)) (o + 3) 4 (fmC Γ sg (o + 3) F)) z none (blk (blk h (o + 1) 2 (tbC Γ 20 (o + 1) (s_Orders_clear T F).1)) (o + 3) 4 (fmC Γ sg (o + 3) (s_Orders_clear T F).2)) := by
  refine Call.of_go (L := [some (.ref o)]) (by decide +kernel) rfl (by exact Nat.le_of_ble_eq_true rfl) ?_
  unfold s_Orders_clear
  refine Go.aload_0 d_Orders_clear_0 rfl ?_
  refine Go.getfield d_Orders_clear_1 rfl f_Orders_14 ((blk_out (by omega)).trans ((blk_out (by omega)).trans ho)) (by rfl) ?_
  refine Go.heq (blk_comm (by omega)) ?_
  refine Go.cv0v d_Orders_clear_4 rfl l_Orders_31 k_Table_clear_v (tb_g0) rfl cT_clear rfl rfl rfl ?_
  refine Go.heq (blk_comm (by omega)) ?_
  refine Go.aload_0 d_Orders_clear_7 rfl ?_
  refine Go.getfield d_Orders_clear_8 rfl f_Orders_23 ((blk_out (by omega)).trans ((blk_out (by omega)).trans ho)) (by rfl) ?_
  refine Go.cv0v d_Orders_clear_11 rfl l_Orders_34 k_Formulas_clear_v (fm_g0) rfl (c_Formulas_clear) rfl rfl rfl ?_
  exact Go.vret d_Orders_clear_14 rfl ⟨rfl, rfl, rfl⟩
theorem d_Orders_add_0 : decode M_Orders_add.2.1 0 = .ok (.aload_n 0, 1) := by decide +kernel
theorem d_Orders_add_1 : decode M_Orders_add.2.1 1 = .ok (.getfield 14, 3) := by decide +kernel
theorem d_Orders_add_4 : decode M_Orders_add.2.1 4 = .ok (.invokevirtual 35, 3) := by decide +kernel
theorem d_Orders_add_7 : decode M_Orders_add.2.1 7 = .ok (.istore_n 2, 1) := by decide +kernel
theorem d_Orders_add_8 : decode M_Orders_add.2.1 8 = .ok (.aload_n 0, 1) := by decide +kernel
theorem d_Orders_add_9 : decode M_Orders_add.2.1 9 = .ok (.getfield 14, 3) := by decide +kernel
theorem d_Orders_add_12 : decode M_Orders_add.2.1 12 = .ok (.iload_n 2, 1) := by decide +kernel
theorem d_Orders_add_13 : decode M_Orders_add.2.1 13 = .ok (.iconst 0, 1) := by decide +kernel
theorem d_Orders_add_14 : decode M_Orders_add.2.1 14 = .ok (.iload_n 1, 1) := by decide +kernel
theorem d_Orders_add_15 : decode M_Orders_add.2.1 15 = .ok (.invokevirtual 38, 3) := by decide +kernel
theorem d_Orders_add_18 : decode M_Orders_add.2.1 18 = .ok (.iload_n 2, 1) := by decide +kernel
theorem d_Orders_add_19 : decode M_Orders_add.2.1 19 = .ok (.ifCond .lt 7, 3) := by decide +kernel
theorem d_Orders_add_22 : decode M_Orders_add.2.1 22 = .ok (.iconst 1, 1) := by decide +kernel
theorem d_Orders_add_23 : decode M_Orders_add.2.1 23 = .ok (.goto 4, 3) := by decide +kernel
theorem d_Orders_add_26 : decode M_Orders_add.2.1 26 = .ok (.iconst 0, 1) := by decide +kernel
theorem d_Orders_add_27 : decode M_Orders_add.2.1 27 = .ok (.ireturn, 1) := by decide +kernel
def s_Orders_add (T : TM) (F : FM) (x1 : Int32) : Int32 × TM := (if (taddR 20 T) < 0 then (0, (tsI (taddT 20 T) (taddR 20 T) 0 x1)) else (1, (tsI (taddT 20 T) (taddR 20 T) 0 x1)))
set_option maxRecDepth 100000 in
set_option maxHeartbeats 4000000 in
theorem c_Orders_add {Γ : G9} {sg : Nat → Nat} {h : AH} {o z : Nat} {T : TM} {F : FM} {x1 : Int32} (ho : h o = some (.inr (3, [.ref (o + 1), .ref (o + 3)]))) (hT : T.2 ≤ 20) : CallR Γ M_Orders_add 1 [.ref o, .int x1] (blk (blk h (o + 1) 2 (tbC Γ 20 (o + 1) T)) (o + 3) 4 (fmC Γ sg (o + 3) F)) z (some (.int (s_Orders_add T F x1).1)) (blk (blk h (o + 1) 2 (tbC Γ 20 (o + 1) (s_Orders_add T F x1).2)) (o + 3) 4 (fmC Γ sg (o + 3) F)) := by
  refine Call.of_go (L := [some (.ref o), some (.int x1), none]) (by decide +kernel) rfl (by exact Nat.le_of_ble_eq_true rfl) ?_
  unfold s_Orders_add
  refine Go.aload_0 d_Orders_add_0 rfl ?_
  refine Go.getfield d_Orders_add_1 rfl f_Orders_14 ((blk_out (by omega)).trans ((blk_out (by omega)).trans ho)) (by rfl) ?_
  refine Go.heq (blk_comm (by omega)) ?_
  refine Go.cv0r d_Orders_add_4 rfl l_Orders_35 k_Table_addRow_v (tb_g0) rfl (cT_addRow (cap := 20) hT (by decide) (by decide)) rfl rfl rfl ?_
  refine Go.heq (blk_comm (by omega)) ?_
  refine Go.istore_2 d_Orders_add_7 rfl (by rfl) ?_
  refine Go.aload_0 d_Orders_add_8 rfl ?_
  refine Go.getfield d_Orders_add_9 rfl f_Orders_14 ((blk_out (by omega)).trans ((blk_out (by omega)).trans ho)) (by rfl) ?_
  refine Go.iload_2 d_Orders_add_12 rfl ?_
  refine Go.iconst (v := 0) d_Orders_add_13 rfl (by decide) ?_
  refine Go.iload_1 d_Orders_add_14 rfl ?_
  refine Go.heq (blk_comm (by omega)) ?_
  refine Go.cv3v d_Orders_add_15 rfl l_Orders_38 k_Table_set_v (tb_g0) rfl (cT_set (cap := 20) (c := 0) (by first | exact tadd_le hT | exact tsI_rows.trans_le hT | (simp only [tsI_rows]; first | exact tadd_le hT | omega)) (by decide) (by omega)) rfl rfl rfl ?_
  refine Go.heq (blk_comm (by omega)) ?_
  refine Go.iload_2 d_Orders_add_18 rfl ?_
  refine Go.if_lt (t := 26) d_Orders_add_19 (by decide) rfl (fun c19_1 => ?_) (fun c19_1 => ?_)
  · refine Go.iconst (v := 0) d_Orders_add_26 rfl (by decide) ?_
    rw [if_pos c19_1]
    exact Go.iret d_Orders_add_27 rfl rfl ⟨rfl, rfl, rfl⟩
  · refine Go.iconst (v := 1) d_Orders_add_22 rfl (by decide) ?_
    refine Go.goto (t := 27) d_Orders_add_23 (by decide) ?_
    rw [if_neg c19_1]
    exact Go.iret d_Orders_add_27 rfl rfl ⟨rfl, rfl, rfl⟩
set_option maxRecDepth 100000 in
set_option maxHeartbeats 4000000 in
theorem s_Orders_add_01 (T : TM) (F : FM) (x1 : Int32) : (s_Orders_add T F x1).1 = 0 ∨ (s_Orders_add T F x1).1 = 1 := by
  unfold s_Orders_add
  (repeat' split) <;> first | exact Or.inl rfl | exact Or.inr rfl
theorem d_Orders_note_0 : decode M_Orders_note.2.1 0 = .ok (.aload_n 0, 1) := by decide +kernel
theorem d_Orders_note_1 : decode M_Orders_note.2.1 1 = .ok (.getfield 14, 3) := by decide +kernel
theorem d_Orders_note_4 : decode M_Orders_note.2.1 4 = .ok (.aload_n 0, 1) := by decide +kernel
theorem d_Orders_note_5 : decode M_Orders_note.2.1 5 = .ok (.getfield 14, 3) := by decide +kernel
theorem d_Orders_note_8 : decode M_Orders_note.2.1 8 = .ok (.invokevirtual 27, 3) := by decide +kernel
theorem d_Orders_note_11 : decode M_Orders_note.2.1 11 = .ok (.iconst 1, 1) := by decide +kernel
theorem d_Orders_note_12 : decode M_Orders_note.2.1 12 = .ok (.isub, 1) := by decide +kernel
theorem d_Orders_note_13 : decode M_Orders_note.2.1 13 = .ok (.iload_n 1, 1) := by decide +kernel
theorem d_Orders_note_14 : decode M_Orders_note.2.1 14 = .ok (.iload_n 2, 1) := by decide +kernel
theorem d_Orders_note_15 : decode M_Orders_note.2.1 15 = .ok (.invokevirtual 38, 3) := by decide +kernel
theorem d_Orders_note_18 : decode M_Orders_note.2.1 18 = .ok (.return_, 1) := by decide +kernel
def s_Orders_note (T : TM) (F : FM) (x1 : Nat) (x2 : Int32) : TM := (tsI T ((nI (T).2) - 1) x1 x2)
set_option maxRecDepth 100000 in
set_option maxHeartbeats 4000000 in
theorem c_Orders_note {Γ : G9} {sg : Nat → Nat} {h : AH} {o z : Nat} {T : TM} {F : FM} {x1 : Nat} {vx1 : Int32} {x2 : Int32} (ex1 : vx1 = nI x1) (bx1 : x1 < 8) (ho : h o = some (.inr (3, [.ref (o + 1), .ref (o + 3)]))) (hT : T.2 ≤ 20) : CallR Γ M_Orders_note 1 [.ref o, .int vx1, .int x2] (blk (blk h (o + 1) 2 (tbC Γ 20 (o + 1) T)) (o + 3) 4 (fmC Γ sg (o + 3) F)) z none (blk (blk h (o + 1) 2 (tbC Γ 20 (o + 1) (s_Orders_note T F x1 x2))) (o + 3) 4 (fmC Γ sg (o + 3) F)) := by
  subst ex1
  refine Call.of_go (L := [some (.ref o), some (.int (nI x1)), some (.int x2)]) (by decide +kernel) rfl (by exact Nat.le_of_ble_eq_true rfl) ?_
  unfold s_Orders_note
  refine Go.aload_0 d_Orders_note_0 rfl ?_
  refine Go.getfield d_Orders_note_1 rfl f_Orders_14 ((blk_out (by omega)).trans ((blk_out (by omega)).trans ho)) (by rfl) ?_
  refine Go.aload_0 d_Orders_note_4 rfl ?_
  refine Go.getfield d_Orders_note_5 rfl f_Orders_14 ((blk_out (by omega)).trans ((blk_out (by omega)).trans ho)) (by rfl) ?_
  refine Go.heq (blk_comm (by omega)) ?_
  refine Go.cv0r d_Orders_note_8 rfl l_Orders_27 k_Table_rows_v (tb_g0) rfl cT_rows rfl rfl rfl ?_
  refine Go.heq (blk_comm (by omega)) ?_
  refine Go.iconst (v := 1) d_Orders_note_11 rfl (by decide) ?_
  refine Go.isub d_Orders_note_12 rfl ?_
  refine Go.iload_1 d_Orders_note_13 rfl ?_
  refine Go.iload_2 d_Orders_note_14 rfl ?_
  refine Go.heq (blk_comm (by omega)) ?_
  refine Go.cv3v d_Orders_note_15 rfl l_Orders_38 k_Table_set_v (tb_g0) rfl (cT_set (cap := 20) (c := x1) hT (by decide) (by omega)) rfl rfl rfl ?_
  refine Go.heq (blk_comm (by omega)) ?_
  exact Go.vret d_Orders_note_18 rfl ⟨rfl, rfl, rfl⟩
theorem d_Orders_carryOut_0 : decode M_Orders_carryOut.2.1 0 = .ok (.aload_n 0, 1) := by decide +kernel
theorem d_Orders_carryOut_1 : decode M_Orders_carryOut.2.1 1 = .ok (.getfield 14, 3) := by decide +kernel
theorem d_Orders_carryOut_4 : decode M_Orders_carryOut.2.1 4 = .ok (.iload_n 1, 1) := by decide +kernel
theorem d_Orders_carryOut_5 : decode M_Orders_carryOut.2.1 5 = .ok (.iconst 5, 1) := by decide +kernel
theorem d_Orders_carryOut_6 : decode M_Orders_carryOut.2.1 6 = .ok (.invokevirtual 42, 3) := by decide +kernel
theorem d_Orders_carryOut_9 : decode M_Orders_carryOut.2.1 9 = .ok (.istore_n 3, 1) := by decide +kernel
theorem d_Orders_carryOut_10 : decode M_Orders_carryOut.2.1 10 = .ok (.aload_n 0, 1) := by decide +kernel
theorem d_Orders_carryOut_11 : decode M_Orders_carryOut.2.1 11 = .ok (.getfield 14, 3) := by decide +kernel
theorem d_Orders_carryOut_14 : decode M_Orders_carryOut.2.1 14 = .ok (.iload_n 1, 1) := by decide +kernel
theorem d_Orders_carryOut_15 : decode M_Orders_carryOut.2.1 15 = .ok (.bipush 6, 2) := by decide +kernel
theorem d_Orders_carryOut_17 : decode M_Orders_carryOut.2.1 17 = .ok (.invokevirtual 42, 3) := by decide +kernel
theorem d_Orders_carryOut_20 : decode M_Orders_carryOut.2.1 20 = .ok (.istore 4, 2) := by decide +kernel
theorem d_Orders_carryOut_22 : decode M_Orders_carryOut.2.1 22 = .ok (.iload_n 3, 1) := by decide +kernel
theorem d_Orders_carryOut_23 : decode M_Orders_carryOut.2.1 23 = .ok (.iload 4, 2) := by decide +kernel
theorem d_Orders_carryOut_25 : decode M_Orders_carryOut.2.1 25 = .ok (.if_icmp .ge 19, 3) := by decide +kernel
theorem d_Orders_carryOut_28 : decode M_Orders_carryOut.2.1 28 = .ok (.aload_n 0, 1) := by decide +kernel
theorem d_Orders_carryOut_29 : decode M_Orders_carryOut.2.1 29 = .ok (.getfield 23, 3) := by decide +kernel
theorem d_Orders_carryOut_32 : decode M_Orders_carryOut.2.1 32 = .ok (.iload_n 3, 1) := by decide +kernel
theorem d_Orders_carryOut_33 : decode M_Orders_carryOut.2.1 33 = .ok (.iload 4, 2) := by decide +kernel
theorem d_Orders_carryOut_35 : decode M_Orders_carryOut.2.1 35 = .ok (.aload_n 2, 1) := by decide +kernel
theorem d_Orders_carryOut_36 : decode M_Orders_carryOut.2.1 36 = .ok (.invokevirtual 46, 3) := by decide +kernel
theorem d_Orders_carryOut_39 : decode M_Orders_carryOut.2.1 39 = .ok (.ifCond .ne 5, 3) := by decide +kernel
theorem d_Orders_carryOut_42 : decode M_Orders_carryOut.2.1 42 = .ok (.iconst 0, 1) := by decide +kernel
theorem d_Orders_carryOut_43 : decode M_Orders_carryOut.2.1 43 = .ok (.ireturn, 1) := by decide +kernel
theorem d_Orders_carryOut_44 : decode M_Orders_carryOut.2.1 44 = .ok (.aload_n 0, 1) := by decide +kernel
theorem d_Orders_carryOut_45 : decode M_Orders_carryOut.2.1 45 = .ok (.getfield 14, 3) := by decide +kernel
theorem d_Orders_carryOut_48 : decode M_Orders_carryOut.2.1 48 = .ok (.iload_n 1, 1) := by decide +kernel
theorem d_Orders_carryOut_49 : decode M_Orders_carryOut.2.1 49 = .ok (.iconst 1, 1) := by decide +kernel
theorem d_Orders_carryOut_50 : decode M_Orders_carryOut.2.1 50 = .ok (.invokevirtual 42, 3) := by decide +kernel
theorem d_Orders_carryOut_53 : decode M_Orders_carryOut.2.1 53 = .ok (.istore 5, 2) := by decide +kernel
theorem d_Orders_carryOut_55 : decode M_Orders_carryOut.2.1 55 = .ok (.aload_n 0, 1) := by decide +kernel
theorem d_Orders_carryOut_56 : decode M_Orders_carryOut.2.1 56 = .ok (.getfield 14, 3) := by decide +kernel
theorem d_Orders_carryOut_59 : decode M_Orders_carryOut.2.1 59 = .ok (.iload_n 1, 1) := by decide +kernel
theorem d_Orders_carryOut_60 : decode M_Orders_carryOut.2.1 60 = .ok (.iconst 2, 1) := by decide +kernel
theorem d_Orders_carryOut_61 : decode M_Orders_carryOut.2.1 61 = .ok (.invokevirtual 42, 3) := by decide +kernel
theorem d_Orders_carryOut_64 : decode M_Orders_carryOut.2.1 64 = .ok (.istore 6, 2) := by decide +kernel
theorem d_Orders_carryOut_66 : decode M_Orders_carryOut.2.1 66 = .ok (.aload_n 0, 1) := by decide +kernel
theorem d_Orders_carryOut_67 : decode M_Orders_carryOut.2.1 67 = .ok (.getfield 14, 3) := by decide +kernel
theorem d_Orders_carryOut_70 : decode M_Orders_carryOut.2.1 70 = .ok (.iload_n 1, 1) := by decide +kernel
theorem d_Orders_carryOut_71 : decode M_Orders_carryOut.2.1 71 = .ok (.iconst 0, 1) := by decide +kernel
theorem d_Orders_carryOut_72 : decode M_Orders_carryOut.2.1 72 = .ok (.invokevirtual 42, 3) := by decide +kernel
theorem d_Orders_carryOut_75 : decode M_Orders_carryOut.2.1 75 = .ok (.tableswitch 99 0 3 #[29, 37, 45, 54], 29) := by decide +kernel
theorem d_Orders_carryOut_104 : decode M_Orders_carryOut.2.1 104 = .ok (.aload_n 2, 1) := by decide +kernel
theorem d_Orders_carryOut_105 : decode M_Orders_carryOut.2.1 105 = .ok (.iload 5, 2) := by decide +kernel
theorem d_Orders_carryOut_107 : decode M_Orders_carryOut.2.1 107 = .ok (.iconst 1, 1) := by decide +kernel
theorem d_Orders_carryOut_108 : decode M_Orders_carryOut.2.1 108 = .ok (.invokevirtual 50, 3) := by decide +kernel
theorem d_Orders_carryOut_111 : decode M_Orders_carryOut.2.1 111 = .ok (.ireturn, 1) := by decide +kernel
theorem d_Orders_carryOut_112 : decode M_Orders_carryOut.2.1 112 = .ok (.aload_n 2, 1) := by decide +kernel
theorem d_Orders_carryOut_113 : decode M_Orders_carryOut.2.1 113 = .ok (.iload 5, 2) := by decide +kernel
theorem d_Orders_carryOut_115 : decode M_Orders_carryOut.2.1 115 = .ok (.iconst 0, 1) := by decide +kernel
theorem d_Orders_carryOut_116 : decode M_Orders_carryOut.2.1 116 = .ok (.invokevirtual 50, 3) := by decide +kernel
theorem d_Orders_carryOut_119 : decode M_Orders_carryOut.2.1 119 = .ok (.ireturn, 1) := by decide +kernel
theorem d_Orders_carryOut_120 : decode M_Orders_carryOut.2.1 120 = .ok (.aload_n 2, 1) := by decide +kernel
theorem d_Orders_carryOut_121 : decode M_Orders_carryOut.2.1 121 = .ok (.iload 5, 2) := by decide +kernel
theorem d_Orders_carryOut_123 : decode M_Orders_carryOut.2.1 123 = .ok (.iload 6, 2) := by decide +kernel
theorem d_Orders_carryOut_125 : decode M_Orders_carryOut.2.1 125 = .ok (.invokevirtual 56, 3) := by decide +kernel
theorem d_Orders_carryOut_128 : decode M_Orders_carryOut.2.1 128 = .ok (.ireturn, 1) := by decide +kernel
theorem d_Orders_carryOut_129 : decode M_Orders_carryOut.2.1 129 = .ok (.aload_n 0, 1) := by decide +kernel
theorem d_Orders_carryOut_130 : decode M_Orders_carryOut.2.1 130 = .ok (.getfield 23, 3) := by decide +kernel
theorem d_Orders_carryOut_133 : decode M_Orders_carryOut.2.1 133 = .ok (.aload_n 0, 1) := by decide +kernel
theorem d_Orders_carryOut_134 : decode M_Orders_carryOut.2.1 134 = .ok (.getfield 14, 3) := by decide +kernel
theorem d_Orders_carryOut_137 : decode M_Orders_carryOut.2.1 137 = .ok (.iload_n 1, 1) := by decide +kernel
theorem d_Orders_carryOut_138 : decode M_Orders_carryOut.2.1 138 = .ok (.iconst 3, 1) := by decide +kernel
theorem d_Orders_carryOut_139 : decode M_Orders_carryOut.2.1 139 = .ok (.invokevirtual 42, 3) := by decide +kernel
theorem d_Orders_carryOut_142 : decode M_Orders_carryOut.2.1 142 = .ok (.aload_n 0, 1) := by decide +kernel
theorem d_Orders_carryOut_143 : decode M_Orders_carryOut.2.1 143 = .ok (.getfield 14, 3) := by decide +kernel
theorem d_Orders_carryOut_146 : decode M_Orders_carryOut.2.1 146 = .ok (.iload_n 1, 1) := by decide +kernel
theorem d_Orders_carryOut_147 : decode M_Orders_carryOut.2.1 147 = .ok (.iconst 4, 1) := by decide +kernel
theorem d_Orders_carryOut_148 : decode M_Orders_carryOut.2.1 148 = .ok (.invokevirtual 42, 3) := by decide +kernel
theorem d_Orders_carryOut_151 : decode M_Orders_carryOut.2.1 151 = .ok (.aload_n 2, 1) := by decide +kernel
theorem d_Orders_carryOut_152 : decode M_Orders_carryOut.2.1 152 = .ok (.invokevirtual 46, 3) := by decide +kernel
theorem d_Orders_carryOut_155 : decode M_Orders_carryOut.2.1 155 = .ok (.istore 7, 2) := by decide +kernel
theorem d_Orders_carryOut_157 : decode M_Orders_carryOut.2.1 157 = .ok (.aload_n 2, 1) := by decide +kernel
theorem d_Orders_carryOut_158 : decode M_Orders_carryOut.2.1 158 = .ok (.iload 5, 2) := by decide +kernel
theorem d_Orders_carryOut_160 : decode M_Orders_carryOut.2.1 160 = .ok (.iload 7, 2) := by decide +kernel
theorem d_Orders_carryOut_162 : decode M_Orders_carryOut.2.1 162 = .ok (.invokevirtual 60, 3) := by decide +kernel
theorem d_Orders_carryOut_165 : decode M_Orders_carryOut.2.1 165 = .ok (.ifCond .le 7, 3) := by decide +kernel
theorem d_Orders_carryOut_168 : decode M_Orders_carryOut.2.1 168 = .ok (.iconst 1, 1) := by decide +kernel
theorem d_Orders_carryOut_169 : decode M_Orders_carryOut.2.1 169 = .ok (.goto 4, 3) := by decide +kernel
theorem d_Orders_carryOut_172 : decode M_Orders_carryOut.2.1 172 = .ok (.iconst 0, 1) := by decide +kernel
theorem d_Orders_carryOut_173 : decode M_Orders_carryOut.2.1 173 = .ok (.ireturn, 1) := by decide +kernel
theorem d_Orders_carryOut_174 : decode M_Orders_carryOut.2.1 174 = .ok (.aload_n 2, 1) := by decide +kernel
theorem d_Orders_carryOut_175 : decode M_Orders_carryOut.2.1 175 = .ok (.iload 6, 2) := by decide +kernel
theorem d_Orders_carryOut_177 : decode M_Orders_carryOut.2.1 177 = .ok (.invokevirtual 63, 3) := by decide +kernel
theorem d_Orders_carryOut_180 : decode M_Orders_carryOut.2.1 180 = .ok (.ireturn, 1) := by decide +kernel
def s_Orders_carryOut (T : TM) (σ : GL) (F : FM) (x1 : Int32) : Int32 × GL × FM := (if (tgI T x1 6) ≤ (tgI T x1 5) then (if (tgI T x1 0) = 0 then ((s_Glacier_tryGo σ (tgI T x1 1) 1).1, (s_Glacier_tryGo σ (tgI T x1 1) 1).2, F) else (if (tgI T x1 0) = 1 then ((s_Glacier_tryGo σ (tgI T x1 1) 0).1, (s_Glacier_tryGo σ (tgI T x1 1) 0).2, F) else (if (tgI T x1 0) = 2 then ((s_Glacier_tryProbe σ (tgI T x1 1) (tgI T x1 2)).1, (s_Glacier_tryProbe σ (tgI T x1 1) (tgI T x1 2)).2, F) else (if (tgI T x1 0) = 3 then (if (s_Glacier_takeFood σ (tgI T x1 1) (s_Formulas_worth σ F (tgI T x1 3) (tgI T x1 4)).1).1 ≤ 0 then (0, (s_Glacier_takeFood σ (tgI T x1 1) (s_Formulas_worth σ F (tgI T x1 3) (tgI T x1 4)).1).2, (s_Formulas_worth σ F (tgI T x1 3) (tgI T x1 4)).2) else (1, (s_Glacier_takeFood σ (tgI T x1 1) (s_Formulas_worth σ F (tgI T x1 3) (tgI T x1 4)).1).2, (s_Formulas_worth σ F (tgI T x1 3) (tgI T x1 4)).2)) else ((s_Glacier_tryDrill σ (tgI T x1 2)).1, (s_Glacier_tryDrill σ (tgI T x1 2)).2, F))))) else (if (s_Formulas_worth σ F (tgI T x1 5) (tgI T x1 6)).1 = 0 then (0, σ, (s_Formulas_worth σ F (tgI T x1 5) (tgI T x1 6)).2) else (if (tgI T x1 0) = 0 then ((s_Glacier_tryGo σ (tgI T x1 1) 1).1, (s_Glacier_tryGo σ (tgI T x1 1) 1).2, (s_Formulas_worth σ F (tgI T x1 5) (tgI T x1 6)).2) else (if (tgI T x1 0) = 1 then ((s_Glacier_tryGo σ (tgI T x1 1) 0).1, (s_Glacier_tryGo σ (tgI T x1 1) 0).2, (s_Formulas_worth σ F (tgI T x1 5) (tgI T x1 6)).2) else (if (tgI T x1 0) = 2 then ((s_Glacier_tryProbe σ (tgI T x1 1) (tgI T x1 2)).1, (s_Glacier_tryProbe σ (tgI T x1 1) (tgI T x1 2)).2, (s_Formulas_worth σ F (tgI T x1 5) (tgI T x1 6)).2) else (if (tgI T x1 0) = 3 then (if (s_Glacier_takeFood σ (tgI T x1 1) (s_Formulas_worth σ (s_Formulas_worth σ F (tgI T x1 5) (tgI T x1 6)).2 (tgI T x1 3) (tgI T x1 4)).1).1 ≤ 0 then (0, (s_Glacier_takeFood σ (tgI T x1 1) (s_Formulas_worth σ (s_Formulas_worth σ F (tgI T x1 5) (tgI T x1 6)).2 (tgI T x1 3) (tgI T x1 4)).1).2, (s_Formulas_worth σ (s_Formulas_worth σ F (tgI T x1 5) (tgI T x1 6)).2 (tgI T x1 3) (tgI T x1 4)).2) else (1, (s_Glacier_takeFood σ (tgI T x1 1) (s_Formulas_worth σ (s_Formulas_worth σ F (tgI T x1 5) (tgI T x1 6)).2 (tgI T x1 3) (tgI T x1 4)).1).2, (s_Formulas_worth σ (s_Formulas_worth σ F (tgI T x1 5) (tgI T x1 6)).2 (tgI T x1 3) (tgI T x1 4)).2)) else ((s_Glacier_tryDrill σ (tgI T x1 2)).1, (s_Glacier_tryDrill σ (tgI T x1 2)).2, (s_Formulas_worth σ F (tgI T x1 5) (tgI T x1 6)).2)))))))
set_option maxRecDepth 100000 in
set_option maxHeartbeats 4000000 in
theorem c_Orders_carryOut {Γ : G9} {sg : Nat → Nat} {sw : Nat} {h : AH} {o g z : Nat} {T : TM} {σ : GL} {F : FM} {x1 : Int32} (ho : h o = some (.inr (3, [.ref (o + 1), .ref (o + 3)]))) (hT : T.2 ≤ 20) (hs : SgOk Γ sg) (hsn : SgNe sg) (hw : SwOk Γ sw) (geo : o + 7 ≤ g ∨ g + 12 ≤ o) (hW : WFG σ) : CallR Γ M_Orders_carryOut 4 [.ref o, .int x1, .ref g] (blk (blk (blk h (o + 1) 2 (tbC Γ 20 (o + 1) T)) g 12 (glC Γ g σ)) (o + 3) 4 (fmC Γ sg (o + 3) F)) z (some (.int (s_Orders_carryOut T σ F x1).1)) (blk (blk (blk h (o + 1) 2 (tbC Γ 20 (o + 1) T)) g 12 (glC Γ g (s_Orders_carryOut T σ F x1).2.1)) (o + 3) 4 (fmC Γ sg (o + 3) (s_Orders_carryOut T σ F x1).2.2)) := by
  refine Call.of_go (L := [some (.ref o), some (.int x1), some (.ref g), none, none, none, none, none]) (by decide +kernel) rfl (by exact Nat.le_of_ble_eq_true rfl) ?_
  unfold s_Orders_carryOut
  refine Go.aload_0 d_Orders_carryOut_0 rfl ?_
  refine Go.getfield d_Orders_carryOut_1 rfl f_Orders_14 ((blk_out (by omega)).trans ((blk_out (by omega)).trans ((blk_out (by omega)).trans ho))) (by rfl) ?_
  refine Go.iload_1 d_Orders_carryOut_4 rfl ?_
  refine Go.iconst (v := 5) d_Orders_carryOut_5 rfl (by decide) ?_
  refine Go.heq ((blk_in (blk_comm (by omega))).trans (blk_comm (by omega))) ?_
  refine Go.cv2r d_Orders_carryOut_6 rfl l_Orders_42 k_Table_get_v (tb_g0) rfl (cT_get (cap := 20) (c := 5) hT (by decide) (by omega)) rfl rfl rfl ?_
  refine Go.heq ((blk_comm (by omega)).trans (blk_in (blk_comm (by omega)))) ?_
  refine Go.istore_3 d_Orders_carryOut_9 rfl (by rfl) ?_
  refine Go.aload_0 d_Orders_carryOut_10 rfl ?_
  refine Go.getfield d_Orders_carryOut_11 rfl f_Orders_14 ((blk_out (by omega)).trans ((blk_out (by omega)).trans ((blk_out (by omega)).trans ho))) (by rfl) ?_
  refine Go.iload_1 d_Orders_carryOut_14 rfl ?_
  refine Go.bipush (v := 6) d_Orders_carryOut_15 rfl (by decide) ?_
  refine Go.heq ((blk_in (blk_comm (by omega))).trans (blk_comm (by omega))) ?_
  refine Go.cv2r d_Orders_carryOut_17 rfl l_Orders_42 k_Table_get_v (tb_g0) rfl (cT_get (cap := 20) (c := 6) hT (by decide) (by omega)) rfl rfl rfl ?_
  refine Go.heq ((blk_comm (by omega)).trans (blk_in (blk_comm (by omega)))) ?_
  refine Go.istore_4 d_Orders_carryOut_20 rfl (by rfl) ?_
  refine Go.iload_3 d_Orders_carryOut_22 rfl ?_
  refine Go.iload_4 d_Orders_carryOut_23 rfl ?_
  refine Go.icmp_ge (t := 44) d_Orders_carryOut_25 (by decide) rfl (fun c25_1 => ?_) (fun c25_1 => ?_)
  · refine Go.aload_0 d_Orders_carryOut_44 rfl ?_
    refine Go.getfield d_Orders_carryOut_45 rfl f_Orders_14 ((blk_out (by omega)).trans ((blk_out (by omega)).trans ((blk_out (by omega)).trans ho))) (by rfl) ?_
    refine Go.iload_1 d_Orders_carryOut_48 rfl ?_
    refine Go.iconst (v := 1) d_Orders_carryOut_49 rfl (by decide) ?_
    refine Go.heq ((blk_in (blk_comm (by omega))).trans (blk_comm (by omega))) ?_
    refine Go.cv2r d_Orders_carryOut_50 rfl l_Orders_42 k_Table_get_v (tb_g0) rfl (cT_get (cap := 20) (c := 1) hT (by decide) (by omega)) rfl rfl rfl ?_
    refine Go.heq ((blk_comm (by omega)).trans (blk_in (blk_comm (by omega)))) ?_
    refine Go.istore_5 d_Orders_carryOut_53 rfl (by rfl) ?_
    refine Go.aload_0 d_Orders_carryOut_55 rfl ?_
    refine Go.getfield d_Orders_carryOut_56 rfl f_Orders_14 ((blk_out (by omega)).trans ((blk_out (by omega)).trans ((blk_out (by omega)).trans ho))) (by rfl) ?_
    refine Go.iload_1 d_Orders_carryOut_59 rfl ?_
    refine Go.iconst (v := 2) d_Orders_carryOut_60 rfl (by decide) ?_
    refine Go.heq ((blk_in (blk_comm (by omega))).trans (blk_comm (by omega))) ?_
    refine Go.cv2r d_Orders_carryOut_61 rfl l_Orders_42 k_Table_get_v (tb_g0) rfl (cT_get (cap := 20) (c := 2) hT (by decide) (by omega)) rfl rfl rfl ?_
    refine Go.heq ((blk_comm (by omega)).trans (blk_in (blk_comm (by omega)))) ?_
    refine Go.istore_6 d_Orders_carryOut_64 rfl (by rfl) ?_
    refine Go.aload_0 d_Orders_carryOut_66 rfl ?_
    refine Go.getfield d_Orders_carryOut_67 rfl f_Orders_14 ((blk_out (by omega)).trans ((blk_out (by omega)).trans ((blk_out (by omega)).trans ho))) (by rfl) ?_
    refine Go.iload_1 d_Orders_carryOut_70 rfl ?_
    refine Go.iconst (v := 0) d_Orders_carryOut_71 rfl (by decide) ?_
    refine Go.heq ((blk_in (blk_comm (by omega))).trans (blk_comm (by omega))) ?_
    refine Go.cv2r d_Orders_carryOut_72 rfl l_Orders_42 k_Table_get_v (tb_g0) rfl (cT_get (cap := 20) (c := 0) hT (by decide) (by omega)) rfl rfl rfl ?_
    refine Go.heq ((blk_comm (by omega)).trans (blk_in (blk_comm (by omega)))) ?_
    by_cases w75_2 : (tgI T x1 0) = 0
    · refine Go.tsw (t := 104) d_Orders_carryOut_75 (by rw [w75_2]; rfl) ?_
      refine Go.aload_2 d_Orders_carryOut_104 rfl ?_
      refine Go.iload_5 d_Orders_carryOut_105 rfl ?_
      refine Go.iconst (v := 1) d_Orders_carryOut_107 rfl (by decide) ?_
      refine Go.heq (blk_comm (by omega)) ?_
      refine Go.cv2r d_Orders_carryOut_108 rfl l_Orders_50 k_Glacier_tryGo_v (gl_g0) rfl (c_Glacier_tryGo hW) rfl rfl rfl ?_
      refine Go.heq (blk_comm (by omega)) ?_
      rw [if_pos c25_1, if_pos w75_2]
      exact Go.iret d_Orders_carryOut_111 rfl (nb (s_Glacier_tryGo_01 ..)) ⟨rfl, rfl, rfl⟩
    by_cases w75_3 : (tgI T x1 0) = 1
    · refine Go.tsw (t := 112) d_Orders_carryOut_75 (by rw [w75_3]; rfl) ?_
      refine Go.aload_2 d_Orders_carryOut_112 rfl ?_
      refine Go.iload_5 d_Orders_carryOut_113 rfl ?_
      refine Go.iconst (v := 0) d_Orders_carryOut_115 rfl (by decide) ?_
      refine Go.heq (blk_comm (by omega)) ?_
      refine Go.cv2r d_Orders_carryOut_116 rfl l_Orders_50 k_Glacier_tryGo_v (gl_g0) rfl (c_Glacier_tryGo hW) rfl rfl rfl ?_
      refine Go.heq (blk_comm (by omega)) ?_
      rw [if_pos c25_1, if_neg w75_2, if_pos w75_3]
      exact Go.iret d_Orders_carryOut_119 rfl (nb (s_Glacier_tryGo_01 ..)) ⟨rfl, rfl, rfl⟩
    by_cases w75_4 : (tgI T x1 0) = 2
    · refine Go.tsw (t := 120) d_Orders_carryOut_75 (by rw [w75_4]; rfl) ?_
      refine Go.aload_2 d_Orders_carryOut_120 rfl ?_
      refine Go.iload_5 d_Orders_carryOut_121 rfl ?_
      refine Go.iload_6 d_Orders_carryOut_123 rfl ?_
      refine Go.heq (blk_comm (by omega)) ?_
      refine Go.cv2r d_Orders_carryOut_125 rfl l_Orders_56 k_Glacier_tryProbe_v (gl_g0) rfl (c_Glacier_tryProbe hW) rfl rfl rfl ?_
      refine Go.heq (blk_comm (by omega)) ?_
      rw [if_pos c25_1, if_neg w75_2, if_neg w75_3, if_pos w75_4]
      exact Go.iret d_Orders_carryOut_128 rfl (nb (s_Glacier_tryProbe_01 ..)) ⟨rfl, rfl, rfl⟩
    by_cases w75_5 : (tgI T x1 0) = 3
    · refine Go.tsw (t := 129) d_Orders_carryOut_75 (by rw [w75_5]; rfl) ?_
      refine Go.aload_0 d_Orders_carryOut_129 rfl ?_
      refine Go.getfield d_Orders_carryOut_130 rfl f_Orders_23 ((blk_out (by omega)).trans ((blk_out (by omega)).trans ((blk_out (by omega)).trans ho))) (by rfl) ?_
      refine Go.aload_0 d_Orders_carryOut_133 rfl ?_
      refine Go.getfield d_Orders_carryOut_134 rfl f_Orders_14 ((blk_out (by omega)).trans ((blk_out (by omega)).trans ((blk_out (by omega)).trans ho))) (by rfl) ?_
      refine Go.iload_1 d_Orders_carryOut_137 rfl ?_
      refine Go.iconst (v := 3) d_Orders_carryOut_138 rfl (by decide) ?_
      refine Go.heq ((blk_in (blk_comm (by omega))).trans (blk_comm (by omega))) ?_
      refine Go.cv2r d_Orders_carryOut_139 rfl l_Orders_42 k_Table_get_v (tb_g0) rfl (cT_get (cap := 20) (c := 3) hT (by decide) (by omega)) rfl rfl rfl ?_
      refine Go.heq ((blk_comm (by omega)).trans (blk_in (blk_comm (by omega)))) ?_
      refine Go.aload_0 d_Orders_carryOut_142 rfl ?_
      refine Go.getfield d_Orders_carryOut_143 rfl f_Orders_14 ((blk_out (by omega)).trans ((blk_out (by omega)).trans ((blk_out (by omega)).trans ho))) (by rfl) ?_
      refine Go.iload_1 d_Orders_carryOut_146 rfl ?_
      refine Go.iconst (v := 4) d_Orders_carryOut_147 rfl (by decide) ?_
      refine Go.heq ((blk_in (blk_comm (by omega))).trans (blk_comm (by omega))) ?_
      refine Go.cv2r d_Orders_carryOut_148 rfl l_Orders_42 k_Table_get_v (tb_g0) rfl (cT_get (cap := 20) (c := 4) hT (by decide) (by omega)) rfl rfl rfl ?_
      refine Go.heq ((blk_comm (by omega)).trans (blk_in (blk_comm (by omega)))) ?_
      refine Go.aload_2 d_Orders_carryOut_151 rfl ?_
      refine Go.cv3r d_Orders_carryOut_152 rfl l_Orders_46 k_Formulas_worth_v (fm_g0) rfl (c_Formulas_worth hs hsn hw (by omega) hW) rfl rfl rfl ?_
      refine Go.istore_7 d_Orders_carryOut_155 rfl (by rfl) ?_
      refine Go.aload_2 d_Orders_carryOut_157 rfl ?_
      refine Go.iload_5 d_Orders_carryOut_158 rfl ?_
      refine Go.iload_7 d_Orders_carryOut_160 rfl ?_
      refine Go.heq (blk_comm (by omega)) ?_
      refine Go.cv2r d_Orders_carryOut_162 rfl l_Orders_60 k_Glacier_takeFood_v (gl_g0) rfl (c_Glacier_takeFood hW) rfl rfl rfl ?_
      refine Go.heq (blk_comm (by omega)) ?_
      refine Go.if_le (t := 172) d_Orders_carryOut_165 (by decide) rfl (fun c165_6 => ?_) (fun c165_6 => ?_)
      · refine Go.iconst (v := 0) d_Orders_carryOut_172 rfl (by decide) ?_
        rw [if_pos c25_1, if_neg w75_2, if_neg w75_3, if_neg w75_4, if_pos w75_5, if_pos c165_6]
        exact Go.iret d_Orders_carryOut_173 rfl rfl ⟨rfl, rfl, rfl⟩
      · refine Go.iconst (v := 1) d_Orders_carryOut_168 rfl (by decide) ?_
        refine Go.goto (t := 173) d_Orders_carryOut_169 (by decide) ?_
        rw [if_pos c25_1, if_neg w75_2, if_neg w75_3, if_neg w75_4, if_pos w75_5, if_neg c165_6]
        exact Go.iret d_Orders_carryOut_173 rfl rfl ⟨rfl, rfl, rfl⟩
    refine Go.tsw (t := 174) d_Orders_carryOut_75 (tsw_out fun n hn => by
          match n, hn with
          | 0, _ => exact fun w => w75_2 (i32_eq w)
          | 1, _ => exact fun w => w75_3 (i32_eq w)
          | 2, _ => exact fun w => w75_4 (i32_eq w)
          | 3, _ => exact fun w => w75_5 (i32_eq w)
          | _ + 4, w => exact absurd w (by simp)) ?_
    refine Go.aload_2 d_Orders_carryOut_174 rfl ?_
    refine Go.iload_6 d_Orders_carryOut_175 rfl ?_
    refine Go.heq (blk_comm (by omega)) ?_
    refine Go.cv1r d_Orders_carryOut_177 rfl l_Orders_63 k_Glacier_tryDrill_v (gl_g0) rfl (c_Glacier_tryDrill hW) rfl rfl rfl ?_
    refine Go.heq (blk_comm (by omega)) ?_
    rw [if_pos c25_1, if_neg w75_2, if_neg w75_3, if_neg w75_4, if_neg w75_5]
    exact Go.iret d_Orders_carryOut_180 rfl (nb (s_Glacier_tryDrill_01 ..)) ⟨rfl, rfl, rfl⟩
  · refine Go.aload_0 d_Orders_carryOut_28 rfl ?_
    refine Go.getfield d_Orders_carryOut_29 rfl f_Orders_23 ((blk_out (by omega)).trans ((blk_out (by omega)).trans ((blk_out (by omega)).trans ho))) (by rfl) ?_
    refine Go.iload_3 d_Orders_carryOut_32 rfl ?_
    refine Go.iload_4 d_Orders_carryOut_33 rfl ?_
    refine Go.aload_2 d_Orders_carryOut_35 rfl ?_
    refine Go.cv3r d_Orders_carryOut_36 rfl l_Orders_46 k_Formulas_worth_v (fm_g0) rfl (c_Formulas_worth hs hsn hw (by omega) hW) rfl rfl rfl ?_
    refine Go.if_ne (t := 44) d_Orders_carryOut_39 (by decide) rfl (fun c39_7 => ?_) (fun c39_7 => ?_)
    · refine Go.aload_0 d_Orders_carryOut_44 rfl ?_
      refine Go.getfield d_Orders_carryOut_45 rfl f_Orders_14 ((blk_out (by omega)).trans ((blk_out (by omega)).trans ((blk_out (by omega)).trans ho))) (by rfl) ?_
      refine Go.iload_1 d_Orders_carryOut_48 rfl ?_
      refine Go.iconst (v := 1) d_Orders_carryOut_49 rfl (by decide) ?_
      refine Go.heq ((blk_in (blk_comm (by omega))).trans (blk_comm (by omega))) ?_
      refine Go.cv2r d_Orders_carryOut_50 rfl l_Orders_42 k_Table_get_v (tb_g0) rfl (cT_get (cap := 20) (c := 1) hT (by decide) (by omega)) rfl rfl rfl ?_
      refine Go.heq ((blk_comm (by omega)).trans (blk_in (blk_comm (by omega)))) ?_
      refine Go.istore_5 d_Orders_carryOut_53 rfl (by rfl) ?_
      refine Go.aload_0 d_Orders_carryOut_55 rfl ?_
      refine Go.getfield d_Orders_carryOut_56 rfl f_Orders_14 ((blk_out (by omega)).trans ((blk_out (by omega)).trans ((blk_out (by omega)).trans ho))) (by rfl) ?_
      refine Go.iload_1 d_Orders_carryOut_59 rfl ?_
      refine Go.iconst (v := 2) d_Orders_carryOut_60 rfl (by decide) ?_
      refine Go.heq ((blk_in (blk_comm (by omega))).trans (blk_comm (by omega))) ?_
      refine Go.cv2r d_Orders_carryOut_61 rfl l_Orders_42 k_Table_get_v (tb_g0) rfl (cT_get (cap := 20) (c := 2) hT (by decide) (by omega)) rfl rfl rfl ?_
      refine Go.heq ((blk_comm (by omega)).trans (blk_in (blk_comm (by omega)))) ?_
      refine Go.istore_6 d_Orders_carryOut_64 rfl (by rfl) ?_
      refine Go.aload_0 d_Orders_carryOut_66 rfl ?_
      refine Go.getfield d_Orders_carryOut_67 rfl f_Orders_14 ((blk_out (by omega)).trans ((blk_out (by omega)).trans ((blk_out (by omega)).trans ho))) (by rfl) ?_
      refine Go.iload_1 d_Orders_carryOut_70 rfl ?_
      refine Go.iconst (v := 0) d_Orders_carryOut_71 rfl (by decide) ?_
      refine Go.heq ((blk_in (blk_comm (by omega))).trans (blk_comm (by omega))) ?_
      refine Go.cv2r d_Orders_carryOut_72 rfl l_Orders_42 k_Table_get_v (tb_g0) rfl (cT_get (cap := 20) (c := 0) hT (by decide) (by omega)) rfl rfl rfl ?_
      refine Go.heq ((blk_comm (by omega)).trans (blk_in (blk_comm (by omega)))) ?_
      by_cases w75_8 : (tgI T x1 0) = 0
      · refine Go.tsw (t := 104) d_Orders_carryOut_75 (by rw [w75_8]; rfl) ?_
        refine Go.aload_2 d_Orders_carryOut_104 rfl ?_
        refine Go.iload_5 d_Orders_carryOut_105 rfl ?_
        refine Go.iconst (v := 1) d_Orders_carryOut_107 rfl (by decide) ?_
        refine Go.heq (blk_comm (by omega)) ?_
        refine Go.cv2r d_Orders_carryOut_108 rfl l_Orders_50 k_Glacier_tryGo_v (gl_g0) rfl (c_Glacier_tryGo hW) rfl rfl rfl ?_
        refine Go.heq (blk_comm (by omega)) ?_
        rw [if_neg c25_1, if_neg c39_7, if_pos w75_8]
        exact Go.iret d_Orders_carryOut_111 rfl (nb (s_Glacier_tryGo_01 ..)) ⟨rfl, rfl, rfl⟩
      by_cases w75_9 : (tgI T x1 0) = 1
      · refine Go.tsw (t := 112) d_Orders_carryOut_75 (by rw [w75_9]; rfl) ?_
        refine Go.aload_2 d_Orders_carryOut_112 rfl ?_
        refine Go.iload_5 d_Orders_carryOut_113 rfl ?_
        refine Go.iconst (v := 0) d_Orders_carryOut_115 rfl (by decide) ?_
        refine Go.heq (blk_comm (by omega)) ?_
        refine Go.cv2r d_Orders_carryOut_116 rfl l_Orders_50 k_Glacier_tryGo_v (gl_g0) rfl (c_Glacier_tryGo hW) rfl rfl rfl ?_
        refine Go.heq (blk_comm (by omega)) ?_
        rw [if_neg c25_1, if_neg c39_7, if_neg w75_8, if_pos w75_9]
        exact Go.iret d_Orders_carryOut_119 rfl (nb (s_Glacier_tryGo_01 ..)) ⟨rfl, rfl, rfl⟩
      by_cases w75_10 : (tgI T x1 0) = 2
      · refine Go.tsw (t := 120) d_Orders_carryOut_75 (by rw [w75_10]; rfl) ?_
        refine Go.aload_2 d_Orders_carryOut_120 rfl ?_
        refine Go.iload_5 d_Orders_carryOut_121 rfl ?_
        refine Go.iload_6 d_Orders_carryOut_123 rfl ?_
        refine Go.heq (blk_comm (by omega)) ?_
        refine Go.cv2r d_Orders_carryOut_125 rfl l_Orders_56 k_Glacier_tryProbe_v (gl_g0) rfl (c_Glacier_tryProbe hW) rfl rfl rfl ?_
        refine Go.heq (blk_comm (by omega)) ?_
        rw [if_neg c25_1, if_neg c39_7, if_neg w75_8, if_neg w75_9, if_pos w75_10]
        exact Go.iret d_Orders_carryOut_128 rfl (nb (s_Glacier_tryProbe_01 ..)) ⟨rfl, rfl, rfl⟩
      by_cases w75_11 : (tgI T x1 0) = 3
      · refine Go.tsw (t := 129) d_Orders_carryOut_75 (by rw [w75_11]; rfl) ?_
        refine Go.aload_0 d_Orders_carryOut_129 rfl ?_
        refine Go.getfield d_Orders_carryOut_130 rfl f_Orders_23 ((blk_out (by omega)).trans ((blk_out (by omega)).trans ((blk_out (by omega)).trans ho))) (by rfl) ?_
        refine Go.aload_0 d_Orders_carryOut_133 rfl ?_
        refine Go.getfield d_Orders_carryOut_134 rfl f_Orders_14 ((blk_out (by omega)).trans ((blk_out (by omega)).trans ((blk_out (by omega)).trans ho))) (by rfl) ?_
        refine Go.iload_1 d_Orders_carryOut_137 rfl ?_
        refine Go.iconst (v := 3) d_Orders_carryOut_138 rfl (by decide) ?_
        refine Go.heq ((blk_in (blk_comm (by omega))).trans (blk_comm (by omega))) ?_
        refine Go.cv2r d_Orders_carryOut_139 rfl l_Orders_42 k_Table_get_v (tb_g0) rfl (cT_get (cap := 20) (c := 3) hT (by decide) (by omega)) rfl rfl rfl ?_
        refine Go.heq ((blk_comm (by omega)).trans (blk_in (blk_comm (by omega)))) ?_
        refine Go.aload_0 d_Orders_carryOut_142 rfl ?_
        refine Go.getfield d_Orders_carryOut_143 rfl f_Orders_14 ((blk_out (by omega)).trans ((blk_out (by omega)).trans ((blk_out (by omega)).trans ho))) (by rfl) ?_
        refine Go.iload_1 d_Orders_carryOut_146 rfl ?_
        refine Go.iconst (v := 4) d_Orders_carryOut_147 rfl (by decide) ?_
        refine Go.heq ((blk_in (blk_comm (by omega))).trans (blk_comm (by omega))) ?_
        refine Go.cv2r d_Orders_carryOut_148 rfl l_Orders_42 k_Table_get_v (tb_g0) rfl (cT_get (cap := 20) (c := 4) hT (by decide) (by omega)) rfl rfl rfl ?_
        refine Go.heq ((blk_comm (by omega)).trans (blk_in (blk_comm (by omega)))) ?_
        refine Go.aload_2 d_Orders_carryOut_151 rfl ?_
        refine Go.cv3r d_Orders_carryOut_152 rfl l_Orders_46 k_Formulas_worth_v (fm_g0) rfl (c_Formulas_worth hs hsn hw (by omega) hW) rfl rfl rfl ?_
        refine Go.istore_7 d_Orders_carryOut_155 rfl (by rfl) ?_
        refine Go.aload_2 d_Orders_carryOut_157 rfl ?_
        refine Go.iload_5 d_Orders_carryOut_158 rfl ?_
        refine Go.iload_7 d_Orders_carryOut_160 rfl ?_
        refine Go.heq (blk_comm (by omega)) ?_
        refine Go.cv2r d_Orders_carryOut_162 rfl l_Orders_60 k_Glacier_takeFood_v (gl_g0) rfl (c_Glacier_takeFood hW) rfl rfl rfl ?_
        refine Go.heq (blk_comm (by omega)) ?_
        refine Go.if_le (t := 172) d_Orders_carryOut_165 (by decide) rfl (fun c165_12 => ?_) (fun c165_12 => ?_)
        · refine Go.iconst (v := 0) d_Orders_carryOut_172 rfl (by decide) ?_
          rw [if_neg c25_1, if_neg c39_7, if_neg w75_8, if_neg w75_9, if_neg w75_10, if_pos w75_11, if_pos c165_12]
          exact Go.iret d_Orders_carryOut_173 rfl rfl ⟨rfl, rfl, rfl⟩
        · refine Go.iconst (v := 1) d_Orders_carryOut_168 rfl (by decide) ?_
          refine Go.goto (t := 173) d_Orders_carryOut_169 (by decide) ?_
          rw [if_neg c25_1, if_neg c39_7, if_neg w75_8, if_neg w75_9, if_neg w75_10, if_pos w75_11, if_neg c165_12]
          exact Go.iret d_Orders_carryOut_173 rfl rfl ⟨rfl, rfl, rfl⟩
      refine Go.tsw (t := 174) d_Orders_carryOut_75 (tsw_out fun n hn => by
              match n, hn with
              | 0, _ => exact fun w => w75_8 (i32_eq w)
              | 1, _ => exact fun w => w75_9 (i32_eq w)
              | 2, _ => exact fun w => w75_10 (i32_eq w)
              | 3, _ => exact fun w => w75_11 (i32_eq w)
              | _ + 4, w => exact absurd w (by simp)) ?_
      refine Go.aload_2 d_Orders_carryOut_174 rfl ?_
      refine Go.iload_6 d_Orders_carryOut_175 rfl ?_
      refine Go.heq (blk_comm (by omega)) ?_
      refine Go.cv1r d_Orders_carryOut_177 rfl l_Orders_63 k_Glacier_tryDrill_v (gl_g0) rfl (c_Glacier_tryDrill hW) rfl rfl rfl ?_
      refine Go.heq (blk_comm (by omega)) ?_
      rw [if_neg c25_1, if_neg c39_7, if_neg w75_8, if_neg w75_9, if_neg w75_10, if_neg w75_11]
      exact Go.iret d_Orders_carryOut_180 rfl (nb (s_Glacier_tryDrill_01 ..)) ⟨rfl, rfl, rfl⟩
    · refine Go.iconst (v := 0) d_Orders_carryOut_42 rfl (by decide) ?_
      rw [if_neg c25_1, if_pos c39_7]
      exact Go.iret d_Orders_carryOut_43 rfl rfl ⟨rfl, rfl, rfl⟩
set_option maxRecDepth 100000 in
set_option maxHeartbeats 4000000 in
theorem gN_Orders_carryOut {T : TM} {σ : GL} {F : FM} {x1 : Int32} (j : Nat) : gN (s_Orders_carryOut T σ F x1).2.1 j = gN σ j := by
  unfold s_Orders_carryOut
  (repeat' split) <;> simp only [gN_gS, gN_gA, gN_gSW, gN_gSD, gN_gSC, gN_Glacier_changeWarmth, gN_Glacier_letFall, gN_l_Glacier_letCross_23, gN_Glacier_letCross, gN_Glacier_tryGo, gN_Glacier_tryProbe, gN_Glacier_takeFood, gN_Glacier_tryDrill, gN_l_Glacier_moveStakes_2, gN_Glacier_moveStakes, gN_l_Glacier_moveBridges_2, gN_Glacier_moveBridges, gN_Glacier_weather, gN_l_Glacier_eat_46, gN_Glacier_eat, gN_l_Glacier_readStakes_2, gN_Glacier_readStakes, gN_l_Glacier_endDay_12, gN_l_Glacier_endDay_42, gN_Glacier_endDay, gN_l_Glacier_beginAnew_37]
theorem d_Glacier_passDay_93 : decode M_Glacier_passDay.2.1 93 = .ok (.iload_n 2, 1) := by decide +kernel
theorem d_Glacier_passDay_94 : decode M_Glacier_passDay.2.1 94 = .ok (.aload_n 0, 1) := by decide +kernel
theorem d_Glacier_passDay_95 : decode M_Glacier_passDay.2.1 95 = .ok (.getfield 29, 3) := by decide +kernel
theorem d_Glacier_passDay_98 : decode M_Glacier_passDay.2.1 98 = .ok (.invokevirtual 68, 3) := by decide +kernel
theorem d_Glacier_passDay_101 : decode M_Glacier_passDay.2.1 101 = .ok (.if_icmp .ge 22, 3) := by decide +kernel
theorem d_Glacier_passDay_104 : decode M_Glacier_passDay.2.1 104 = .ok (.aload_n 0, 1) := by decide +kernel
theorem d_Glacier_passDay_105 : decode M_Glacier_passDay.2.1 105 = .ok (.iload_n 2, 1) := by decide +kernel
theorem d_Glacier_passDay_106 : decode M_Glacier_passDay.2.1 106 = .ok (.invokevirtual 133, 3) := by decide +kernel
theorem d_Glacier_passDay_109 : decode M_Glacier_passDay.2.1 109 = .ok (.ifCond .eq 8, 3) := by decide +kernel
theorem d_Glacier_passDay_112 : decode M_Glacier_passDay.2.1 112 = .ok (.aload_n 0, 1) := by decide +kernel
theorem d_Glacier_passDay_113 : decode M_Glacier_passDay.2.1 113 = .ok (.iload_n 2, 1) := by decide +kernel
theorem d_Glacier_passDay_114 : decode M_Glacier_passDay.2.1 114 = .ok (.invokevirtual 154, 3) := by decide +kernel
theorem d_Glacier_passDay_117 : decode M_Glacier_passDay.2.1 117 = .ok (.iinc 2 1, 3) := by decide +kernel
theorem d_Glacier_passDay_120 : decode M_Glacier_passDay.2.1 120 = .ok (.goto (-27), 3) := by decide +kernel
def l_Glacier_passDay_93 (T : TM) (F : FM) : Nat → Nat → GL → GL
  | 0, _, σ => σ
  | k + 1, i, σ => (if (s_Glacier_isHere σ (nI i)) = 0 then (l_Glacier_passDay_93 T F k (i + 1) σ) else (l_Glacier_passDay_93 T F k (i + 1) (s_Glacier_readStakes σ (nI i))))
set_option maxRecDepth 100000 in
set_option maxHeartbeats 4000000 in
theorem l_Glacier_passDay_93_go {Γ : G9} {sg : Nat → Nat} {sw : Nat} {h : AH} {o g z : Nat} {n : Nat} {Q : QT} {X : XT} {T : TM} {F : FM} (ho : h o = some (.inr (3, [.ref (o + 1), .ref (o + 3)]))) (hT : T.2 ≤ 20) (hs : SgOk Γ sg) (hsn : SgNe sg) (hw : SwOk Γ sw) (geo : o + 7 ≤ g ∨ g + 12 ≤ o) (hn20 : n ≤ 20) : ∀ (k i : Nat) (σ : GL), i + k = n → gN σ 4 = n → WFG σ → Go Γ M_Glacier_passDay 5 0 0 123 [some (.ref g), some (.ref o), some (.int (nI (i + k)))] [] (blk (blk (blk h (o + 1) 2 (tbC Γ 20 (o + 1) T)) g 12 (glC Γ g (l_Glacier_passDay_93 T F k i σ))) (o + 3) 4 (fmC Γ sg (o + 3) F)) z Q X → Go Γ M_Glacier_passDay 5 0 0 93 [some (.ref g), some (.ref o), some (.int (nI i))] [] (blk (blk (blk h (o + 1) 2 (tbC Γ 20 (o + 1) T)) g 12 (glC Γ g σ)) (o + 3) 4 (fmC Γ sg (o + 3) F)) z Q X := by
  intro k
  induction k with
  | zero =>
    intro i σ hi hn hW hk
    refine Go.iload_2 d_Glacier_passDay_93 rfl ?_
    refine Go.aload_0 d_Glacier_passDay_94 rfl ?_
    refine Go.getfield d_Glacier_passDay_95 rfl f_Glacier_29 ((blk_out (by omega)).trans (gl_obj)) (by rfl) ?_
    refine Go.heq (blk_comm (by omega)) ?_
    refine Go.cv0r d_Glacier_passDay_98 rfl l_Glacier_68 k_Table_rows_v (gl_tab (k := 4) (by decide)) rfl (cG_rows (k := 4) (by decide)) rfl rfl rfl ?_
    refine Go.heq (blk_comm (by omega)) ?_
    refine Go.icmp_ge (t := 123) d_Glacier_passDay_101 (by decide) rfl (fun c101_1 => ?_) (fun c101_1 => ?_)
    · exact hk
    · exact absurd (nI_le (by omega) (by omega)) c101_1
  | succ k ih =>
    intro i σ hi hn hW hk
    unfold l_Glacier_passDay_93 at hk
    rw [show i + (k + 1) = i + 1 + k by omega] at hk
    refine Go.iload_2 d_Glacier_passDay_93 rfl ?_
    refine Go.aload_0 d_Glacier_passDay_94 rfl ?_
    refine Go.getfield d_Glacier_passDay_95 rfl f_Glacier_29 ((blk_out (by omega)).trans (gl_obj)) (by rfl) ?_
    refine Go.heq (blk_comm (by omega)) ?_
    refine Go.cv0r d_Glacier_passDay_98 rfl l_Glacier_68 k_Table_rows_v (gl_tab (k := 4) (by decide)) rfl (cG_rows (k := 4) (by decide)) rfl rfl rfl ?_
    refine Go.heq (blk_comm (by omega)) ?_
    refine Go.icmp_ge (t := 123) d_Glacier_passDay_101 (by decide) rfl (fun c101_1 => ?_) (fun c101_1 => ?_)
    · exact absurd c101_1 (nI_ge (by omega) (by omega))
    · refine Go.aload_0 d_Glacier_passDay_104 rfl ?_
      refine Go.iload_2 d_Glacier_passDay_105 rfl ?_
      refine Go.heq (blk_comm (by omega)) ?_
      refine Go.cv1r d_Glacier_passDay_106 rfl l_Glacier_133 k_Glacier_isHere_v (gl_g0) rfl (c_Glacier_isHere hW) rfl rfl rfl ?_
      refine Go.heq (blk_comm (by omega)) ?_
      refine Go.if_eq (t := 117) d_Glacier_passDay_109 (by decide) rfl (fun c109_2 => ?_) (fun c109_2 => ?_)
      · refine Go.iinc_2 d_Glacier_passDay_117 rfl (by rfl) (nI_inc _) ?_
        refine Go.goto (t := 93) d_Glacier_passDay_120 (by decide) ?_
        rw [if_pos c109_2] at hk
        exact ih (i + 1) _ (by omega) (by first | exact hn | (simp only [gN_gS, gN_gA, gN_gSW, gN_gSD, gN_gSC, gN_Glacier_changeWarmth, gN_Glacier_letFall, gN_l_Glacier_letCross_23, gN_Glacier_letCross, gN_Glacier_tryGo, gN_Glacier_tryProbe, gN_Glacier_takeFood, gN_Glacier_tryDrill, gN_l_Glacier_moveStakes_2, gN_Glacier_moveStakes, gN_l_Glacier_moveBridges_2, gN_Glacier_moveBridges, gN_Glacier_weather, gN_l_Glacier_eat_46, gN_Glacier_eat, gN_l_Glacier_readStakes_2, gN_Glacier_readStakes, gN_l_Glacier_endDay_12, gN_l_Glacier_endDay_42, gN_Glacier_endDay, gN_l_Glacier_beginAnew_37, gN_Orders_carryOut]; exact hn)) hW hk
      · refine Go.aload_0 d_Glacier_passDay_112 rfl ?_
        refine Go.iload_2 d_Glacier_passDay_113 rfl ?_
        refine Go.heq (blk_comm (by omega)) ?_
        refine Go.cv1v d_Glacier_passDay_114 rfl l_Glacier_154 k_Glacier_readStakes_v (gl_g0) rfl (c_Glacier_readStakes hW) rfl rfl rfl ?_
        refine Go.heq (blk_comm (by omega)) ?_
        refine Go.iinc_2 d_Glacier_passDay_117 rfl (by rfl) (nI_inc _) ?_
        refine Go.goto (t := 93) d_Glacier_passDay_120 (by decide) ?_
        rw [if_neg c109_2] at hk
        exact ih (i + 1) _ (by omega) (by first | exact hn | (simp only [gN_gS, gN_gA, gN_gSW, gN_gSD, gN_gSC, gN_Glacier_changeWarmth, gN_Glacier_letFall, gN_l_Glacier_letCross_23, gN_Glacier_letCross, gN_Glacier_tryGo, gN_Glacier_tryProbe, gN_Glacier_takeFood, gN_Glacier_tryDrill, gN_l_Glacier_moveStakes_2, gN_Glacier_moveStakes, gN_l_Glacier_moveBridges_2, gN_Glacier_moveBridges, gN_Glacier_weather, gN_l_Glacier_eat_46, gN_Glacier_eat, gN_l_Glacier_readStakes_2, gN_Glacier_readStakes, gN_l_Glacier_endDay_12, gN_l_Glacier_endDay_42, gN_Glacier_endDay, gN_l_Glacier_beginAnew_37, gN_Orders_carryOut]; exact hn)) (WFG.of hW (fun j => by simp only [gN_gS, gN_gA, gN_gSW, gN_gSD, gN_gSC, gN_Glacier_changeWarmth, gN_Glacier_letFall, gN_l_Glacier_letCross_23, gN_Glacier_letCross, gN_Glacier_tryGo, gN_Glacier_tryProbe, gN_Glacier_takeFood, gN_Glacier_tryDrill, gN_l_Glacier_moveStakes_2, gN_Glacier_moveStakes, gN_l_Glacier_moveBridges_2, gN_Glacier_moveBridges, gN_Glacier_weather, gN_l_Glacier_eat_46, gN_Glacier_eat, gN_l_Glacier_readStakes_2, gN_Glacier_readStakes, gN_l_Glacier_endDay_12, gN_l_Glacier_endDay_42, gN_Glacier_endDay, gN_l_Glacier_beginAnew_37, gN_Orders_carryOut])) hk
set_option maxRecDepth 100000 in
set_option maxHeartbeats 4000000 in
theorem gN_l_Glacier_passDay_93 {T : TM} {F : FM} (j : Nat) : ∀ (k i : Nat) (σ : GL), gN (l_Glacier_passDay_93 T F k i σ) j = gN σ j := by
  intro k
  induction k with
  | zero => intros; rfl
  | succ k ih =>
    intros
    unfold l_Glacier_passDay_93
    (repeat' split) <;> simp only [gN_gS, gN_gA, gN_gSW, gN_gSD, gN_gSC, gN_Glacier_changeWarmth, gN_Glacier_letFall, gN_l_Glacier_letCross_23, gN_Glacier_letCross, gN_Glacier_tryGo, gN_Glacier_tryProbe, gN_Glacier_takeFood, gN_Glacier_tryDrill, gN_l_Glacier_moveStakes_2, gN_Glacier_moveStakes, gN_l_Glacier_moveBridges_2, gN_Glacier_moveBridges, gN_Glacier_weather, gN_l_Glacier_eat_46, gN_Glacier_eat, gN_l_Glacier_readStakes_2, gN_Glacier_readStakes, gN_l_Glacier_endDay_12, gN_l_Glacier_endDay_42, gN_Glacier_endDay, gN_l_Glacier_beginAnew_37, gN_Orders_carryOut, ih]
theorem d_Glacier_passDay_61 : decode M_Glacier_passDay.2.1 61 = .ok (.iload_n 2, 1) := by decide +kernel
theorem d_Glacier_passDay_62 : decode M_Glacier_passDay.2.1 62 = .ok (.aload_n 0, 1) := by decide +kernel
theorem d_Glacier_passDay_63 : decode M_Glacier_passDay.2.1 63 = .ok (.getfield 29, 3) := by decide +kernel
theorem d_Glacier_passDay_66 : decode M_Glacier_passDay.2.1 66 = .ok (.invokevirtual 68, 3) := by decide +kernel
theorem d_Glacier_passDay_69 : decode M_Glacier_passDay.2.1 69 = .ok (.if_icmp .ge 22, 3) := by decide +kernel
theorem d_Glacier_passDay_72 : decode M_Glacier_passDay.2.1 72 = .ok (.aload_n 0, 1) := by decide +kernel
theorem d_Glacier_passDay_73 : decode M_Glacier_passDay.2.1 73 = .ok (.iload_n 2, 1) := by decide +kernel
theorem d_Glacier_passDay_74 : decode M_Glacier_passDay.2.1 74 = .ok (.invokevirtual 133, 3) := by decide +kernel
theorem d_Glacier_passDay_77 : decode M_Glacier_passDay.2.1 77 = .ok (.ifCond .eq 8, 3) := by decide +kernel
theorem d_Glacier_passDay_80 : decode M_Glacier_passDay.2.1 80 = .ok (.aload_n 0, 1) := by decide +kernel
theorem d_Glacier_passDay_81 : decode M_Glacier_passDay.2.1 81 = .ok (.iload_n 2, 1) := by decide +kernel
theorem d_Glacier_passDay_82 : decode M_Glacier_passDay.2.1 82 = .ok (.invokevirtual 151, 3) := by decide +kernel
theorem d_Glacier_passDay_85 : decode M_Glacier_passDay.2.1 85 = .ok (.iinc 2 1, 3) := by decide +kernel
theorem d_Glacier_passDay_88 : decode M_Glacier_passDay.2.1 88 = .ok (.goto (-27), 3) := by decide +kernel
def l_Glacier_passDay_61 (T : TM) (F : FM) : Nat → Nat → GL → GL
  | 0, _, σ => σ
  | k + 1, i, σ => (if (s_Glacier_isHere σ (nI i)) = 0 then (l_Glacier_passDay_61 T F k (i + 1) σ) else (l_Glacier_passDay_61 T F k (i + 1) (s_Glacier_eat σ (nI i))))
set_option maxRecDepth 100000 in
set_option maxHeartbeats 4000000 in
theorem l_Glacier_passDay_61_go {Γ : G9} {sg : Nat → Nat} {sw : Nat} {h : AH} {o g z : Nat} {n : Nat} {Q : QT} {X : XT} {T : TM} {F : FM} (ho : h o = some (.inr (3, [.ref (o + 1), .ref (o + 3)]))) (hT : T.2 ≤ 20) (hs : SgOk Γ sg) (hsn : SgNe sg) (hw : SwOk Γ sw) (geo : o + 7 ≤ g ∨ g + 12 ≤ o) (hn20 : n ≤ 20) : ∀ (k i : Nat) (σ : GL), i + k = n → gN σ 4 = n → WFG σ → Go Γ M_Glacier_passDay 5 0 0 91 [some (.ref g), some (.ref o), some (.int (nI (i + k)))] [] (blk (blk (blk h (o + 1) 2 (tbC Γ 20 (o + 1) T)) g 12 (glC Γ g (l_Glacier_passDay_61 T F k i σ))) (o + 3) 4 (fmC Γ sg (o + 3) F)) z Q X → Go Γ M_Glacier_passDay 5 0 0 61 [some (.ref g), some (.ref o), some (.int (nI i))] [] (blk (blk (blk h (o + 1) 2 (tbC Γ 20 (o + 1) T)) g 12 (glC Γ g σ)) (o + 3) 4 (fmC Γ sg (o + 3) F)) z Q X := by
  intro k
  induction k with
  | zero =>
    intro i σ hi hn hW hk
    refine Go.iload_2 d_Glacier_passDay_61 rfl ?_
    refine Go.aload_0 d_Glacier_passDay_62 rfl ?_
    refine Go.getfield d_Glacier_passDay_63 rfl f_Glacier_29 ((blk_out (by omega)).trans (gl_obj)) (by rfl) ?_
    refine Go.heq (blk_comm (by omega)) ?_
    refine Go.cv0r d_Glacier_passDay_66 rfl l_Glacier_68 k_Table_rows_v (gl_tab (k := 4) (by decide)) rfl (cG_rows (k := 4) (by decide)) rfl rfl rfl ?_
    refine Go.heq (blk_comm (by omega)) ?_
    refine Go.icmp_ge (t := 91) d_Glacier_passDay_69 (by decide) rfl (fun c69_1 => ?_) (fun c69_1 => ?_)
    · exact hk
    · exact absurd (nI_le (by omega) (by omega)) c69_1
  | succ k ih =>
    intro i σ hi hn hW hk
    unfold l_Glacier_passDay_61 at hk
    rw [show i + (k + 1) = i + 1 + k by omega] at hk
    refine Go.iload_2 d_Glacier_passDay_61 rfl ?_
    refine Go.aload_0 d_Glacier_passDay_62 rfl ?_
    refine Go.getfield d_Glacier_passDay_63 rfl f_Glacier_29 ((blk_out (by omega)).trans (gl_obj)) (by rfl) ?_
    refine Go.heq (blk_comm (by omega)) ?_
    refine Go.cv0r d_Glacier_passDay_66 rfl l_Glacier_68 k_Table_rows_v (gl_tab (k := 4) (by decide)) rfl (cG_rows (k := 4) (by decide)) rfl rfl rfl ?_
    refine Go.heq (blk_comm (by omega)) ?_
    refine Go.icmp_ge (t := 91) d_Glacier_passDay_69 (by decide) rfl (fun c69_1 => ?_) (fun c69_1 => ?_)
    · exact absurd c69_1 (nI_ge (by omega) (by omega))
    · refine Go.aload_0 d_Glacier_passDay_72 rfl ?_
      refine Go.iload_2 d_Glacier_passDay_73 rfl ?_
      refine Go.heq (blk_comm (by omega)) ?_
      refine Go.cv1r d_Glacier_passDay_74 rfl l_Glacier_133 k_Glacier_isHere_v (gl_g0) rfl (c_Glacier_isHere hW) rfl rfl rfl ?_
      refine Go.heq (blk_comm (by omega)) ?_
      refine Go.if_eq (t := 85) d_Glacier_passDay_77 (by decide) rfl (fun c77_2 => ?_) (fun c77_2 => ?_)
      · refine Go.iinc_2 d_Glacier_passDay_85 rfl (by rfl) (nI_inc _) ?_
        refine Go.goto (t := 61) d_Glacier_passDay_88 (by decide) ?_
        rw [if_pos c77_2] at hk
        exact ih (i + 1) _ (by omega) (by first | exact hn | (simp only [gN_gS, gN_gA, gN_gSW, gN_gSD, gN_gSC, gN_Glacier_changeWarmth, gN_Glacier_letFall, gN_l_Glacier_letCross_23, gN_Glacier_letCross, gN_Glacier_tryGo, gN_Glacier_tryProbe, gN_Glacier_takeFood, gN_Glacier_tryDrill, gN_l_Glacier_moveStakes_2, gN_Glacier_moveStakes, gN_l_Glacier_moveBridges_2, gN_Glacier_moveBridges, gN_Glacier_weather, gN_l_Glacier_eat_46, gN_Glacier_eat, gN_l_Glacier_readStakes_2, gN_Glacier_readStakes, gN_l_Glacier_endDay_12, gN_l_Glacier_endDay_42, gN_Glacier_endDay, gN_l_Glacier_beginAnew_37, gN_Orders_carryOut, gN_l_Glacier_passDay_93]; exact hn)) hW hk
      · refine Go.aload_0 d_Glacier_passDay_80 rfl ?_
        refine Go.iload_2 d_Glacier_passDay_81 rfl ?_
        refine Go.heq (blk_comm (by omega)) ?_
        refine Go.cv1v d_Glacier_passDay_82 rfl l_Glacier_151 k_Glacier_eat_v (gl_g0) rfl (c_Glacier_eat hW) rfl rfl rfl ?_
        refine Go.heq (blk_comm (by omega)) ?_
        refine Go.iinc_2 d_Glacier_passDay_85 rfl (by rfl) (nI_inc _) ?_
        refine Go.goto (t := 61) d_Glacier_passDay_88 (by decide) ?_
        rw [if_neg c77_2] at hk
        exact ih (i + 1) _ (by omega) (by first | exact hn | (simp only [gN_gS, gN_gA, gN_gSW, gN_gSD, gN_gSC, gN_Glacier_changeWarmth, gN_Glacier_letFall, gN_l_Glacier_letCross_23, gN_Glacier_letCross, gN_Glacier_tryGo, gN_Glacier_tryProbe, gN_Glacier_takeFood, gN_Glacier_tryDrill, gN_l_Glacier_moveStakes_2, gN_Glacier_moveStakes, gN_l_Glacier_moveBridges_2, gN_Glacier_moveBridges, gN_Glacier_weather, gN_l_Glacier_eat_46, gN_Glacier_eat, gN_l_Glacier_readStakes_2, gN_Glacier_readStakes, gN_l_Glacier_endDay_12, gN_l_Glacier_endDay_42, gN_Glacier_endDay, gN_l_Glacier_beginAnew_37, gN_Orders_carryOut, gN_l_Glacier_passDay_93]; exact hn)) (WFG.of hW (fun j => by simp only [gN_gS, gN_gA, gN_gSW, gN_gSD, gN_gSC, gN_Glacier_changeWarmth, gN_Glacier_letFall, gN_l_Glacier_letCross_23, gN_Glacier_letCross, gN_Glacier_tryGo, gN_Glacier_tryProbe, gN_Glacier_takeFood, gN_Glacier_tryDrill, gN_l_Glacier_moveStakes_2, gN_Glacier_moveStakes, gN_l_Glacier_moveBridges_2, gN_Glacier_moveBridges, gN_Glacier_weather, gN_l_Glacier_eat_46, gN_Glacier_eat, gN_l_Glacier_readStakes_2, gN_Glacier_readStakes, gN_l_Glacier_endDay_12, gN_l_Glacier_endDay_42, gN_Glacier_endDay, gN_l_Glacier_beginAnew_37, gN_Orders_carryOut, gN_l_Glacier_passDay_93])) hk
set_option maxRecDepth 100000 in
set_option maxHeartbeats 4000000 in
theorem gN_l_Glacier_passDay_61 {T : TM} {F : FM} (j : Nat) : ∀ (k i : Nat) (σ : GL), gN (l_Glacier_passDay_61 T F k i σ) j = gN σ j := by
  intro k
  induction k with
  | zero => intros; rfl
  | succ k ih =>
    intros
    unfold l_Glacier_passDay_61
    (repeat' split) <;> simp only [gN_gS, gN_gA, gN_gSW, gN_gSD, gN_gSC, gN_Glacier_changeWarmth, gN_Glacier_letFall, gN_l_Glacier_letCross_23, gN_Glacier_letCross, gN_Glacier_tryGo, gN_Glacier_tryProbe, gN_Glacier_takeFood, gN_Glacier_tryDrill, gN_l_Glacier_moveStakes_2, gN_Glacier_moveStakes, gN_l_Glacier_moveBridges_2, gN_Glacier_moveBridges, gN_Glacier_weather, gN_l_Glacier_eat_46, gN_Glacier_eat, gN_l_Glacier_readStakes_2, gN_Glacier_readStakes, gN_l_Glacier_endDay_12, gN_l_Glacier_endDay_42, gN_Glacier_endDay, gN_l_Glacier_beginAnew_37, gN_Orders_carryOut, gN_l_Glacier_passDay_93, ih]
theorem d_Glacier_passDay_37 : decode M_Glacier_passDay.2.1 37 = .ok (.iload_n 2, 1) := by decide +kernel
theorem d_Glacier_passDay_38 : decode M_Glacier_passDay.2.1 38 = .ok (.aload_n 0, 1) := by decide +kernel
theorem d_Glacier_passDay_39 : decode M_Glacier_passDay.2.1 39 = .ok (.getfield 14, 3) := by decide +kernel
theorem d_Glacier_passDay_42 : decode M_Glacier_passDay.2.1 42 = .ok (.invokevirtual 68, 3) := by decide +kernel
theorem d_Glacier_passDay_45 : decode M_Glacier_passDay.2.1 45 = .ok (.if_icmp .ge 14, 3) := by decide +kernel
theorem d_Glacier_passDay_48 : decode M_Glacier_passDay.2.1 48 = .ok (.aload_n 0, 1) := by decide +kernel
theorem d_Glacier_passDay_49 : decode M_Glacier_passDay.2.1 49 = .ok (.iload_n 2, 1) := by decide +kernel
theorem d_Glacier_passDay_50 : decode M_Glacier_passDay.2.1 50 = .ok (.invokevirtual 148, 3) := by decide +kernel
theorem d_Glacier_passDay_53 : decode M_Glacier_passDay.2.1 53 = .ok (.iinc 2 1, 3) := by decide +kernel
theorem d_Glacier_passDay_56 : decode M_Glacier_passDay.2.1 56 = .ok (.goto (-19), 3) := by decide +kernel
def l_Glacier_passDay_37 (T : TM) (F : FM) : Nat → Nat → GL → GL
  | 0, _, σ => σ
  | k + 1, i, σ => (l_Glacier_passDay_37 T F k (i + 1) (s_Glacier_weather σ (nI i)))
set_option maxRecDepth 100000 in
set_option maxHeartbeats 4000000 in
theorem l_Glacier_passDay_37_go {Γ : G9} {sg : Nat → Nat} {sw : Nat} {h : AH} {o g z : Nat} {n : Nat} {Q : QT} {X : XT} {T : TM} {F : FM} (ho : h o = some (.inr (3, [.ref (o + 1), .ref (o + 3)]))) (hT : T.2 ≤ 20) (hs : SgOk Γ sg) (hsn : SgNe sg) (hw : SwOk Γ sw) (geo : o + 7 ≤ g ∨ g + 12 ≤ o) (hn20 : n ≤ 20) : ∀ (k i : Nat) (σ : GL), i + k = n → gN σ 0 = n → WFG σ → Go Γ M_Glacier_passDay 5 0 0 59 [some (.ref g), some (.ref o), some (.int (nI (i + k)))] [] (blk (blk (blk h (o + 1) 2 (tbC Γ 20 (o + 1) T)) g 12 (glC Γ g (l_Glacier_passDay_37 T F k i σ))) (o + 3) 4 (fmC Γ sg (o + 3) F)) z Q X → Go Γ M_Glacier_passDay 5 0 0 37 [some (.ref g), some (.ref o), some (.int (nI i))] [] (blk (blk (blk h (o + 1) 2 (tbC Γ 20 (o + 1) T)) g 12 (glC Γ g σ)) (o + 3) 4 (fmC Γ sg (o + 3) F)) z Q X := by
  intro k
  induction k with
  | zero =>
    intro i σ hi hn hW hk
    refine Go.iload_2 d_Glacier_passDay_37 rfl ?_
    refine Go.aload_0 d_Glacier_passDay_38 rfl ?_
    refine Go.getfield d_Glacier_passDay_39 rfl f_Glacier_14 ((blk_out (by omega)).trans (gl_obj)) (by rfl) ?_
    refine Go.heq (blk_comm (by omega)) ?_
    refine Go.cv0r d_Glacier_passDay_42 rfl l_Glacier_68 k_Table_rows_v (gl_tab (k := 0) (by decide)) rfl (cG_rows (k := 0) (by decide)) rfl rfl rfl ?_
    refine Go.heq (blk_comm (by omega)) ?_
    refine Go.icmp_ge (t := 59) d_Glacier_passDay_45 (by decide) rfl (fun c45_1 => ?_) (fun c45_1 => ?_)
    · exact hk
    · exact absurd (nI_le (by omega) (by omega)) c45_1
  | succ k ih =>
    intro i σ hi hn hW hk
    unfold l_Glacier_passDay_37 at hk
    rw [show i + (k + 1) = i + 1 + k by omega] at hk
    refine Go.iload_2 d_Glacier_passDay_37 rfl ?_
    refine Go.aload_0 d_Glacier_passDay_38 rfl ?_
    refine Go.getfield d_Glacier_passDay_39 rfl f_Glacier_14 ((blk_out (by omega)).trans (gl_obj)) (by rfl) ?_
    refine Go.heq (blk_comm (by omega)) ?_
    refine Go.cv0r d_Glacier_passDay_42 rfl l_Glacier_68 k_Table_rows_v (gl_tab (k := 0) (by decide)) rfl (cG_rows (k := 0) (by decide)) rfl rfl rfl ?_
    refine Go.heq (blk_comm (by omega)) ?_
    refine Go.icmp_ge (t := 59) d_Glacier_passDay_45 (by decide) rfl (fun c45_1 => ?_) (fun c45_1 => ?_)
    · exact absurd c45_1 (nI_ge (by omega) (by omega))
    · refine Go.aload_0 d_Glacier_passDay_48 rfl ?_
      refine Go.iload_2 d_Glacier_passDay_49 rfl ?_
      refine Go.heq (blk_comm (by omega)) ?_
      refine Go.cv1v d_Glacier_passDay_50 rfl l_Glacier_148 k_Glacier_weather_v (gl_g0) rfl (c_Glacier_weather hW) rfl rfl rfl ?_
      refine Go.heq (blk_comm (by omega)) ?_
      refine Go.iinc_2 d_Glacier_passDay_53 rfl (by rfl) (nI_inc _) ?_
      refine Go.goto (t := 37) d_Glacier_passDay_56 (by decide) ?_
      exact ih (i + 1) _ (by omega) (by first | exact hn | (simp only [gN_gS, gN_gA, gN_gSW, gN_gSD, gN_gSC, gN_Glacier_changeWarmth, gN_Glacier_letFall, gN_l_Glacier_letCross_23, gN_Glacier_letCross, gN_Glacier_tryGo, gN_Glacier_tryProbe, gN_Glacier_takeFood, gN_Glacier_tryDrill, gN_l_Glacier_moveStakes_2, gN_Glacier_moveStakes, gN_l_Glacier_moveBridges_2, gN_Glacier_moveBridges, gN_Glacier_weather, gN_l_Glacier_eat_46, gN_Glacier_eat, gN_l_Glacier_readStakes_2, gN_Glacier_readStakes, gN_l_Glacier_endDay_12, gN_l_Glacier_endDay_42, gN_Glacier_endDay, gN_l_Glacier_beginAnew_37, gN_Orders_carryOut, gN_l_Glacier_passDay_93, gN_l_Glacier_passDay_61]; exact hn)) (WFG.of hW (fun j => by simp only [gN_gS, gN_gA, gN_gSW, gN_gSD, gN_gSC, gN_Glacier_changeWarmth, gN_Glacier_letFall, gN_l_Glacier_letCross_23, gN_Glacier_letCross, gN_Glacier_tryGo, gN_Glacier_tryProbe, gN_Glacier_takeFood, gN_Glacier_tryDrill, gN_l_Glacier_moveStakes_2, gN_Glacier_moveStakes, gN_l_Glacier_moveBridges_2, gN_Glacier_moveBridges, gN_Glacier_weather, gN_l_Glacier_eat_46, gN_Glacier_eat, gN_l_Glacier_readStakes_2, gN_Glacier_readStakes, gN_l_Glacier_endDay_12, gN_l_Glacier_endDay_42, gN_Glacier_endDay, gN_l_Glacier_beginAnew_37, gN_Orders_carryOut, gN_l_Glacier_passDay_93, gN_l_Glacier_passDay_61])) hk
set_option maxRecDepth 100000 in
set_option maxHeartbeats 4000000 in
theorem gN_l_Glacier_passDay_37 {T : TM} {F : FM} (j : Nat) : ∀ (k i : Nat) (σ : GL), gN (l_Glacier_passDay_37 T F k i σ) j = gN σ j := by
  intro k
  induction k with
  | zero => intros; rfl
  | succ k ih =>
    intros
    unfold l_Glacier_passDay_37
    (repeat' split) <;> simp only [gN_gS, gN_gA, gN_gSW, gN_gSD, gN_gSC, gN_Glacier_changeWarmth, gN_Glacier_letFall, gN_l_Glacier_letCross_23, gN_Glacier_letCross, gN_Glacier_tryGo, gN_Glacier_tryProbe, gN_Glacier_takeFood, gN_Glacier_tryDrill, gN_l_Glacier_moveStakes_2, gN_Glacier_moveStakes, gN_l_Glacier_moveBridges_2, gN_Glacier_moveBridges, gN_Glacier_weather, gN_l_Glacier_eat_46, gN_Glacier_eat, gN_l_Glacier_readStakes_2, gN_Glacier_readStakes, gN_l_Glacier_endDay_12, gN_l_Glacier_endDay_42, gN_Glacier_endDay, gN_l_Glacier_beginAnew_37, gN_Orders_carryOut, gN_l_Glacier_passDay_93, gN_l_Glacier_passDay_61, ih]
theorem d_Glacier_passDay_2 : decode M_Glacier_passDay.2.1 2 = .ok (.iload_n 2, 1) := by decide +kernel
theorem d_Glacier_passDay_3 : decode M_Glacier_passDay.2.1 3 = .ok (.aload_n 1, 1) := by decide +kernel
theorem d_Glacier_passDay_4 : decode M_Glacier_passDay.2.1 4 = .ok (.invokevirtual 139, 3) := by decide +kernel
theorem d_Glacier_passDay_7 : decode M_Glacier_passDay.2.1 7 = .ok (.if_icmp .ge 28, 3) := by decide +kernel
theorem d_Glacier_passDay_10 : decode M_Glacier_passDay.2.1 10 = .ok (.aload_n 1, 1) := by decide +kernel
theorem d_Glacier_passDay_11 : decode M_Glacier_passDay.2.1 11 = .ok (.iload_n 2, 1) := by decide +kernel
theorem d_Glacier_passDay_12 : decode M_Glacier_passDay.2.1 12 = .ok (.aload_n 0, 1) := by decide +kernel
theorem d_Glacier_passDay_13 : decode M_Glacier_passDay.2.1 13 = .ok (.invokevirtual 144, 3) := by decide +kernel
theorem d_Glacier_passDay_16 : decode M_Glacier_passDay.2.1 16 = .ok (.ifCond .eq 13, 3) := by decide +kernel
theorem d_Glacier_passDay_19 : decode M_Glacier_passDay.2.1 19 = .ok (.aload_n 0, 1) := by decide +kernel
theorem d_Glacier_passDay_20 : decode M_Glacier_passDay.2.1 20 = .ok (.dup, 1) := by decide +kernel
theorem d_Glacier_passDay_21 : decode M_Glacier_passDay.2.1 21 = .ok (.getfield 46, 3) := by decide +kernel
theorem d_Glacier_passDay_24 : decode M_Glacier_passDay.2.1 24 = .ok (.iconst 1, 1) := by decide +kernel
theorem d_Glacier_passDay_25 : decode M_Glacier_passDay.2.1 25 = .ok (.iadd, 1) := by decide +kernel
theorem d_Glacier_passDay_26 : decode M_Glacier_passDay.2.1 26 = .ok (.putfield 46, 3) := by decide +kernel
theorem d_Glacier_passDay_29 : decode M_Glacier_passDay.2.1 29 = .ok (.iinc 2 1, 3) := by decide +kernel
theorem d_Glacier_passDay_32 : decode M_Glacier_passDay.2.1 32 = .ok (.goto (-30), 3) := by decide +kernel
def l_Glacier_passDay_2 (T : TM) : Nat → Nat → GL → FM → GL × FM
  | 0, _, σ, F => (σ, F)
  | k + 1, i, σ, F => (if (s_Orders_carryOut T σ F (nI i)).1 = 0 then (l_Glacier_passDay_2 T k (i + 1) (s_Orders_carryOut T σ F (nI i)).2.1 (s_Orders_carryOut T σ F (nI i)).2.2) else (l_Glacier_passDay_2 T k (i + 1) (gSC (s_Orders_carryOut T σ F (nI i)).2.1 ((gC (s_Orders_carryOut T σ F (nI i)).2.1) + 1)) (s_Orders_carryOut T σ F (nI i)).2.2))
set_option maxRecDepth 100000 in
set_option maxHeartbeats 4000000 in
theorem l_Glacier_passDay_2_go {Γ : G9} {sg : Nat → Nat} {sw : Nat} {h : AH} {o g z : Nat} {n : Nat} {Q : QT} {X : XT} {T : TM} (ho : h o = some (.inr (3, [.ref (o + 1), .ref (o + 3)]))) (hT : T.2 ≤ 20) (hs : SgOk Γ sg) (hsn : SgNe sg) (hw : SwOk Γ sw) (geo : o + 7 ≤ g ∨ g + 12 ≤ o) (hn20 : n ≤ 20) : ∀ (k i : Nat) (σ : GL) (F : FM), i + k = n → T.2 = n → WFG σ → Go Γ M_Glacier_passDay 5 0 0 35 [some (.ref g), some (.ref o), some (.int (nI (i + k)))] [] (blk (blk (blk h (o + 1) 2 (tbC Γ 20 (o + 1) T)) g 12 (glC Γ g (l_Glacier_passDay_2 T k i σ F).1)) (o + 3) 4 (fmC Γ sg (o + 3) (l_Glacier_passDay_2 T k i σ F).2)) z Q X → Go Γ M_Glacier_passDay 5 0 0 2 [some (.ref g), some (.ref o), some (.int (nI i))] [] (blk (blk (blk h (o + 1) 2 (tbC Γ 20 (o + 1) T)) g 12 (glC Γ g σ)) (o + 3) 4 (fmC Γ sg (o + 3) F)) z Q X := by
  intro k
  induction k with
  | zero =>
    intro i σ F hi hn hW hk
    refine Go.iload_2 d_Glacier_passDay_2 rfl ?_
    refine Go.aload_1 d_Glacier_passDay_3 rfl ?_
    refine Go.heq (blk_in (blk_comm (by omega))) ?_
    refine Go.cv0r d_Glacier_passDay_4 rfl l_Glacier_139 k_Orders_size_v ((blk_out (by omega)).trans ((blk_out (by omega)).trans ((blk_out (by omega)).trans ho))) rfl (c_Orders_size (by exact ((blk_out (by omega)).trans ho)) hT) rfl rfl rfl ?_
    refine Go.heq (blk_in (blk_comm (by omega))) ?_
    refine Go.icmp_ge (t := 35) d_Glacier_passDay_7 (by decide) rfl (fun c7_1 => ?_) (fun c7_1 => ?_)
    · exact hk
    · exact absurd (nI_le (by omega) (by omega)) c7_1
  | succ k ih =>
    intro i σ F hi hn hW hk
    unfold l_Glacier_passDay_2 at hk
    rw [show i + (k + 1) = i + 1 + k by omega] at hk
    refine Go.iload_2 d_Glacier_passDay_2 rfl ?_
    refine Go.aload_1 d_Glacier_passDay_3 rfl ?_
    refine Go.heq (blk_in (blk_comm (by omega))) ?_
    refine Go.cv0r d_Glacier_passDay_4 rfl l_Glacier_139 k_Orders_size_v ((blk_out (by omega)).trans ((blk_out (by omega)).trans ((blk_out (by omega)).trans ho))) rfl (c_Orders_size (by exact ((blk_out (by omega)).trans ho)) hT) rfl rfl rfl ?_
    refine Go.heq (blk_in (blk_comm (by omega))) ?_
    refine Go.icmp_ge (t := 35) d_Glacier_passDay_7 (by decide) rfl (fun c7_1 => ?_) (fun c7_1 => ?_)
    · exact absurd c7_1 (nI_ge (by omega) (by omega))
    · refine Go.aload_1 d_Glacier_passDay_10 rfl ?_
      refine Go.iload_2 d_Glacier_passDay_11 rfl ?_
      refine Go.aload_0 d_Glacier_passDay_12 rfl ?_
      refine Go.cv2r d_Glacier_passDay_13 rfl l_Glacier_144 k_Orders_carryOut_v ((blk_out (by omega)).trans ((blk_out (by omega)).trans ((blk_out (by omega)).trans ho))) rfl (c_Orders_carryOut ho hT hs hsn hw (by omega) hW) rfl rfl rfl ?_
      refine Go.if_eq (t := 29) d_Glacier_passDay_16 (by decide) rfl (fun c16_2 => ?_) (fun c16_2 => ?_)
      · refine Go.iinc_2 d_Glacier_passDay_29 rfl (by rfl) (nI_inc _) ?_
        refine Go.goto (t := 2) d_Glacier_passDay_32 (by decide) ?_
        rw [if_pos c16_2] at hk
        exact ih (i + 1) _ _ (by omega) (by first | exact hn | (simp only [gN_gS, gN_gA, gN_gSW, gN_gSD, gN_gSC, gN_Glacier_changeWarmth, gN_Glacier_letFall, gN_l_Glacier_letCross_23, gN_Glacier_letCross, gN_Glacier_tryGo, gN_Glacier_tryProbe, gN_Glacier_takeFood, gN_Glacier_tryDrill, gN_l_Glacier_moveStakes_2, gN_Glacier_moveStakes, gN_l_Glacier_moveBridges_2, gN_Glacier_moveBridges, gN_Glacier_weather, gN_l_Glacier_eat_46, gN_Glacier_eat, gN_l_Glacier_readStakes_2, gN_Glacier_readStakes, gN_l_Glacier_endDay_12, gN_l_Glacier_endDay_42, gN_Glacier_endDay, gN_l_Glacier_beginAnew_37, gN_Orders_carryOut, gN_l_Glacier_passDay_93, gN_l_Glacier_passDay_61, gN_l_Glacier_passDay_37]; exact hn)) (WFG.of hW (fun j => by simp only [gN_gS, gN_gA, gN_gSW, gN_gSD, gN_gSC, gN_Glacier_changeWarmth, gN_Glacier_letFall, gN_l_Glacier_letCross_23, gN_Glacier_letCross, gN_Glacier_tryGo, gN_Glacier_tryProbe, gN_Glacier_takeFood, gN_Glacier_tryDrill, gN_l_Glacier_moveStakes_2, gN_Glacier_moveStakes, gN_l_Glacier_moveBridges_2, gN_Glacier_moveBridges, gN_Glacier_weather, gN_l_Glacier_eat_46, gN_Glacier_eat, gN_l_Glacier_readStakes_2, gN_Glacier_readStakes, gN_l_Glacier_endDay_12, gN_l_Glacier_endDay_42, gN_Glacier_endDay, gN_l_Glacier_beginAnew_37, gN_Orders_carryOut, gN_l_Glacier_passDay_93, gN_l_Glacier_passDay_61, gN_l_Glacier_passDay_37])) hk
      · refine Go.aload_0 d_Glacier_passDay_19 rfl ?_
        refine Go.dup d_Glacier_passDay_20 rfl rfl ?_
        refine Go.getfield d_Glacier_passDay_21 rfl f_Glacier_46 ((blk_out (by omega)).trans (gl_obj)) (by rfl) ?_
        refine Go.iconst (v := 1) d_Glacier_passDay_24 rfl (by decide) ?_
        refine Go.iadd d_Glacier_passDay_25 rfl ?_
        refine Go.putfield d_Glacier_passDay_26 rfl f_Glacier_46_p (Or.inl (fun C T N h => by cases h; rfl)) ((blk_out (by omega)).trans (gl_obj)) (by exact Nat.le_of_ble_eq_true rfl) rfl rfl ?_
        refine Go.heq ((hup_blk (by omega)).trans (blk_in gl_putC)) ?_
        refine Go.iinc_2 d_Glacier_passDay_29 rfl (by rfl) (nI_inc _) ?_
        refine Go.goto (t := 2) d_Glacier_passDay_32 (by decide) ?_
        rw [if_neg c16_2] at hk
        exact ih (i + 1) _ _ (by omega) (by first | exact hn | (simp only [gN_gS, gN_gA, gN_gSW, gN_gSD, gN_gSC, gN_Glacier_changeWarmth, gN_Glacier_letFall, gN_l_Glacier_letCross_23, gN_Glacier_letCross, gN_Glacier_tryGo, gN_Glacier_tryProbe, gN_Glacier_takeFood, gN_Glacier_tryDrill, gN_l_Glacier_moveStakes_2, gN_Glacier_moveStakes, gN_l_Glacier_moveBridges_2, gN_Glacier_moveBridges, gN_Glacier_weather, gN_l_Glacier_eat_46, gN_Glacier_eat, gN_l_Glacier_readStakes_2, gN_Glacier_readStakes, gN_l_Glacier_endDay_12, gN_l_Glacier_endDay_42, gN_Glacier_endDay, gN_l_Glacier_beginAnew_37, gN_Orders_carryOut, gN_l_Glacier_passDay_93, gN_l_Glacier_passDay_61, gN_l_Glacier_passDay_37]; exact hn)) (WFG.of hW (fun j => by simp only [gN_gS, gN_gA, gN_gSW, gN_gSD, gN_gSC, gN_Glacier_changeWarmth, gN_Glacier_letFall, gN_l_Glacier_letCross_23, gN_Glacier_letCross, gN_Glacier_tryGo, gN_Glacier_tryProbe, gN_Glacier_takeFood, gN_Glacier_tryDrill, gN_l_Glacier_moveStakes_2, gN_Glacier_moveStakes, gN_l_Glacier_moveBridges_2, gN_Glacier_moveBridges, gN_Glacier_weather, gN_l_Glacier_eat_46, gN_Glacier_eat, gN_l_Glacier_readStakes_2, gN_Glacier_readStakes, gN_l_Glacier_endDay_12, gN_l_Glacier_endDay_42, gN_Glacier_endDay, gN_l_Glacier_beginAnew_37, gN_Orders_carryOut, gN_l_Glacier_passDay_93, gN_l_Glacier_passDay_61, gN_l_Glacier_passDay_37])) hk
set_option maxRecDepth 100000 in
set_option maxHeartbeats 4000000 in
theorem gN_l_Glacier_passDay_2 {T : TM} (j : Nat) : ∀ (k i : Nat) (σ : GL) (F : FM), gN (l_Glacier_passDay_2 T k i σ F).1 j = gN σ j := by
  intro k
  induction k with
  | zero => intros; rfl
  | succ k ih =>
    intros
    unfold l_Glacier_passDay_2
    (repeat' split) <;> simp only [gN_gS, gN_gA, gN_gSW, gN_gSD, gN_gSC, gN_Glacier_changeWarmth, gN_Glacier_letFall, gN_l_Glacier_letCross_23, gN_Glacier_letCross, gN_Glacier_tryGo, gN_Glacier_tryProbe, gN_Glacier_takeFood, gN_Glacier_tryDrill, gN_l_Glacier_moveStakes_2, gN_Glacier_moveStakes, gN_l_Glacier_moveBridges_2, gN_Glacier_moveBridges, gN_Glacier_weather, gN_l_Glacier_eat_46, gN_Glacier_eat, gN_l_Glacier_readStakes_2, gN_Glacier_readStakes, gN_l_Glacier_endDay_12, gN_l_Glacier_endDay_42, gN_Glacier_endDay, gN_l_Glacier_beginAnew_37, gN_Orders_carryOut, gN_l_Glacier_passDay_93, gN_l_Glacier_passDay_61, gN_l_Glacier_passDay_37, ih]
theorem d_Glacier_passDay_0 : decode M_Glacier_passDay.2.1 0 = .ok (.iconst 0, 1) := by decide +kernel
theorem d_Glacier_passDay_1 : decode M_Glacier_passDay.2.1 1 = .ok (.istore_n 2, 1) := by decide +kernel
theorem d_Glacier_passDay_35 : decode M_Glacier_passDay.2.1 35 = .ok (.iconst 0, 1) := by decide +kernel
theorem d_Glacier_passDay_36 : decode M_Glacier_passDay.2.1 36 = .ok (.istore_n 2, 1) := by decide +kernel
theorem d_Glacier_passDay_59 : decode M_Glacier_passDay.2.1 59 = .ok (.iconst 0, 1) := by decide +kernel
theorem d_Glacier_passDay_60 : decode M_Glacier_passDay.2.1 60 = .ok (.istore_n 2, 1) := by decide +kernel
theorem d_Glacier_passDay_91 : decode M_Glacier_passDay.2.1 91 = .ok (.iconst 0, 1) := by decide +kernel
theorem d_Glacier_passDay_92 : decode M_Glacier_passDay.2.1 92 = .ok (.istore_n 2, 1) := by decide +kernel
theorem d_Glacier_passDay_123 : decode M_Glacier_passDay.2.1 123 = .ok (.aload_n 0, 1) := by decide +kernel
theorem d_Glacier_passDay_124 : decode M_Glacier_passDay.2.1 124 = .ok (.invokevirtual 157, 3) := by decide +kernel
theorem d_Glacier_passDay_127 : decode M_Glacier_passDay.2.1 127 = .ok (.return_, 1) := by decide +kernel
def s_Glacier_passDay (T : TM) (σ : GL) (F : FM) : GL × FM := ((s_Glacier_endDay (l_Glacier_passDay_93 T (l_Glacier_passDay_2 T (T.2) 0 σ F).2 (gN (l_Glacier_passDay_61 T (l_Glacier_passDay_2 T (T.2) 0 σ F).2 (gN (l_Glacier_passDay_37 T (l_Glacier_passDay_2 T (T.2) 0 σ F).2 (gN (l_Glacier_passDay_2 T (T.2) 0 σ F).1 0) 0 (l_Glacier_passDay_2 T (T.2) 0 σ F).1) 4) 0 (l_Glacier_passDay_37 T (l_Glacier_passDay_2 T (T.2) 0 σ F).2 (gN (l_Glacier_passDay_2 T (T.2) 0 σ F).1 0) 0 (l_Glacier_passDay_2 T (T.2) 0 σ F).1)) 4) 0 (l_Glacier_passDay_61 T (l_Glacier_passDay_2 T (T.2) 0 σ F).2 (gN (l_Glacier_passDay_37 T (l_Glacier_passDay_2 T (T.2) 0 σ F).2 (gN (l_Glacier_passDay_2 T (T.2) 0 σ F).1 0) 0 (l_Glacier_passDay_2 T (T.2) 0 σ F).1) 4) 0 (l_Glacier_passDay_37 T (l_Glacier_passDay_2 T (T.2) 0 σ F).2 (gN (l_Glacier_passDay_2 T (T.2) 0 σ F).1 0) 0 (l_Glacier_passDay_2 T (T.2) 0 σ F).1)))), (l_Glacier_passDay_2 T (T.2) 0 σ F).2)
set_option maxRecDepth 100000 in
set_option maxHeartbeats 4000000 in
theorem c_Glacier_passDay {Γ : G9} {sg : Nat → Nat} {sw : Nat} {h : AH} {o g z : Nat} {T : TM} {σ : GL} {F : FM} (ho : h o = some (.inr (3, [.ref (o + 1), .ref (o + 3)]))) (hT : T.2 ≤ 20) (hs : SgOk Γ sg) (hsn : SgNe sg) (hw : SwOk Γ sw) (geo : o + 7 ≤ g ∨ g + 12 ≤ o) (hW : WFG σ) : CallR Γ M_Glacier_passDay 5 [.ref g, .ref o] (blk (blk (blk h (o + 1) 2 (tbC Γ 20 (o + 1) T)) g 12 (glC Γ g σ)) (o + 3) 4 (fmC Γ sg (o + 3) F)) z none (blk (blk (blk h (o + 1) 2 (tbC Γ 20 (o + 1) T)) g 12 (glC Γ g (s_Glacier_passDay T σ F).1)) (o + 3) 4 (fmC Γ sg (o + 3) (s_Glacier_passDay T σ F).2)) := by
  refine Call.of_go (L := [some (.ref g), some (.ref o), none]) (by decide +kernel) rfl (by exact Nat.le_of_ble_eq_true rfl) ?_
  unfold s_Glacier_passDay
  refine Go.iconst (v := 0) d_Glacier_passDay_0 rfl (by decide) ?_
  refine Go.istore_2 d_Glacier_passDay_1 rfl (by rfl) ?_
  refine l_Glacier_passDay_2_go (n := (T.2)) ho hT hs hsn hw geo (Nat.le_trans hT (by decide)) (T.2) 0 σ F (by omega) rfl hW ?_
  refine Go.iconst (v := 0) d_Glacier_passDay_35 rfl (by decide) ?_
  refine Go.istore_2 d_Glacier_passDay_36 rfl (by rfl) ?_
  refine l_Glacier_passDay_37_go (n := (gN (l_Glacier_passDay_2 T (T.2) 0 σ F).1 0)) ho hT hs hsn hw geo (by have := WFG.le (σ := (l_Glacier_passDay_2 T (T.2) 0 σ F).1) (WFG.of hW (fun j => by simp only [gN_gS, gN_gA, gN_gSW, gN_gSD, gN_gSC, gN_Glacier_changeWarmth, gN_Glacier_letFall, gN_l_Glacier_letCross_23, gN_Glacier_letCross, gN_Glacier_tryGo, gN_Glacier_tryProbe, gN_Glacier_takeFood, gN_Glacier_tryDrill, gN_l_Glacier_moveStakes_2, gN_Glacier_moveStakes, gN_l_Glacier_moveBridges_2, gN_Glacier_moveBridges, gN_Glacier_weather, gN_l_Glacier_eat_46, gN_Glacier_eat, gN_l_Glacier_readStakes_2, gN_Glacier_readStakes, gN_l_Glacier_endDay_12, gN_l_Glacier_endDay_42, gN_Glacier_endDay, gN_l_Glacier_beginAnew_37, gN_Orders_carryOut, gN_l_Glacier_passDay_93, gN_l_Glacier_passDay_61, gN_l_Glacier_passDay_37, gN_l_Glacier_passDay_2])) (k := 0) (by decide); omega) (gN (l_Glacier_passDay_2 T (T.2) 0 σ F).1 0) 0 (l_Glacier_passDay_2 T (T.2) 0 σ F).1 (by omega) rfl (WFG.of hW (fun j => by simp only [gN_gS, gN_gA, gN_gSW, gN_gSD, gN_gSC, gN_Glacier_changeWarmth, gN_Glacier_letFall, gN_l_Glacier_letCross_23, gN_Glacier_letCross, gN_Glacier_tryGo, gN_Glacier_tryProbe, gN_Glacier_takeFood, gN_Glacier_tryDrill, gN_l_Glacier_moveStakes_2, gN_Glacier_moveStakes, gN_l_Glacier_moveBridges_2, gN_Glacier_moveBridges, gN_Glacier_weather, gN_l_Glacier_eat_46, gN_Glacier_eat, gN_l_Glacier_readStakes_2, gN_Glacier_readStakes, gN_l_Glacier_endDay_12, gN_l_Glacier_endDay_42, gN_Glacier_endDay, gN_l_Glacier_beginAnew_37, gN_Orders_carryOut, gN_l_Glacier_passDay_93, gN_l_Glacier_passDay_61, gN_l_Glacier_passDay_37, gN_l_Glacier_passDay_2])) ?_
  refine Go.iconst (v := 0) d_Glacier_passDay_59 rfl (by decide) ?_
  refine Go.istore_2 d_Glacier_passDay_60 rfl (by rfl) ?_
  refine l_Glacier_passDay_61_go (n := (gN (l_Glacier_passDay_37 T (l_Glacier_passDay_2 T (T.2) 0 σ F).2 (gN (l_Glacier_passDay_2 T (T.2) 0 σ F).1 0) 0 (l_Glacier_passDay_2 T (T.2) 0 σ F).1) 4)) ho hT hs hsn hw geo (by have := WFG.le (σ := (l_Glacier_passDay_37 T (l_Glacier_passDay_2 T (T.2) 0 σ F).2 (gN (l_Glacier_passDay_2 T (T.2) 0 σ F).1 0) 0 (l_Glacier_passDay_2 T (T.2) 0 σ F).1)) (WFG.of hW (fun j => by simp only [gN_gS, gN_gA, gN_gSW, gN_gSD, gN_gSC, gN_Glacier_changeWarmth, gN_Glacier_letFall, gN_l_Glacier_letCross_23, gN_Glacier_letCross, gN_Glacier_tryGo, gN_Glacier_tryProbe, gN_Glacier_takeFood, gN_Glacier_tryDrill, gN_l_Glacier_moveStakes_2, gN_Glacier_moveStakes, gN_l_Glacier_moveBridges_2, gN_Glacier_moveBridges, gN_Glacier_weather, gN_l_Glacier_eat_46, gN_Glacier_eat, gN_l_Glacier_readStakes_2, gN_Glacier_readStakes, gN_l_Glacier_endDay_12, gN_l_Glacier_endDay_42, gN_Glacier_endDay, gN_l_Glacier_beginAnew_37, gN_Orders_carryOut, gN_l_Glacier_passDay_93, gN_l_Glacier_passDay_61, gN_l_Glacier_passDay_37, gN_l_Glacier_passDay_2])) (k := 4) (by decide); omega) (gN (l_Glacier_passDay_37 T (l_Glacier_passDay_2 T (T.2) 0 σ F).2 (gN (l_Glacier_passDay_2 T (T.2) 0 σ F).1 0) 0 (l_Glacier_passDay_2 T (T.2) 0 σ F).1) 4) 0 (l_Glacier_passDay_37 T (l_Glacier_passDay_2 T (T.2) 0 σ F).2 (gN (l_Glacier_passDay_2 T (T.2) 0 σ F).1 0) 0 (l_Glacier_passDay_2 T (T.2) 0 σ F).1) (by omega) rfl (WFG.of hW (fun j => by simp only [gN_gS, gN_gA, gN_gSW, gN_gSD, gN_gSC, gN_Glacier_changeWarmth, gN_Glacier_letFall, gN_l_Glacier_letCross_23, gN_Glacier_letCross, gN_Glacier_tryGo, gN_Glacier_tryProbe, gN_Glacier_takeFood, gN_Glacier_tryDrill, gN_l_Glacier_moveStakes_2, gN_Glacier_moveStakes, gN_l_Glacier_moveBridges_2, gN_Glacier_moveBridges, gN_Glacier_weather, gN_l_Glacier_eat_46, gN_Glacier_eat, gN_l_Glacier_readStakes_2, gN_Glacier_readStakes, gN_l_Glacier_endDay_12, gN_l_Glacier_endDay_42, gN_Glacier_endDay, gN_l_Glacier_beginAnew_37, gN_Orders_carryOut, gN_l_Glacier_passDay_93, gN_l_Glacier_passDay_61, gN_l_Glacier_passDay_37, gN_l_Glacier_passDay_2])) ?_
  refine Go.iconst (v := 0) d_Glacier_passDay_91 rfl (by decide) ?_
  refine Go.istore_2 d_Glacier_passDay_92 rfl (by rfl) ?_
  refine l_Glacier_passDay_93_go (n := (gN (l_Glacier_passDay_61 T (l_Glacier_passDay_2 T (T.2) 0 σ F).2 (gN (l_Glacier_passDay_37 T (l_Glacier_passDay_2 T (T.2) 0 σ F).2 (gN (l_Glacier_passDay_2 T (T.2) 0 σ F).1 0) 0 (l_Glacier_passDay_2 T (T.2) 0 σ F).1) 4) 0 (l_Glacier_passDay_37 T (l_Glacier_passDay_2 T (T.2) 0 σ F).2 (gN (l_Glacier_passDay_2 T (T.2) 0 σ F).1 0) 0 (l_Glacier_passDay_2 T (T.2) 0 σ F).1)) 4)) ho hT hs hsn hw geo (by have := WFG.le (σ := (l_Glacier_passDay_61 T (l_Glacier_passDay_2 T (T.2) 0 σ F).2 (gN (l_Glacier_passDay_37 T (l_Glacier_passDay_2 T (T.2) 0 σ F).2 (gN (l_Glacier_passDay_2 T (T.2) 0 σ F).1 0) 0 (l_Glacier_passDay_2 T (T.2) 0 σ F).1) 4) 0 (l_Glacier_passDay_37 T (l_Glacier_passDay_2 T (T.2) 0 σ F).2 (gN (l_Glacier_passDay_2 T (T.2) 0 σ F).1 0) 0 (l_Glacier_passDay_2 T (T.2) 0 σ F).1))) (WFG.of hW (fun j => by simp only [gN_gS, gN_gA, gN_gSW, gN_gSD, gN_gSC, gN_Glacier_changeWarmth, gN_Glacier_letFall, gN_l_Glacier_letCross_23, gN_Glacier_letCross, gN_Glacier_tryGo, gN_Glacier_tryProbe, gN_Glacier_takeFood, gN_Glacier_tryDrill, gN_l_Glacier_moveStakes_2, gN_Glacier_moveStakes, gN_l_Glacier_moveBridges_2, gN_Glacier_moveBridges, gN_Glacier_weather, gN_l_Glacier_eat_46, gN_Glacier_eat, gN_l_Glacier_readStakes_2, gN_Glacier_readStakes, gN_l_Glacier_endDay_12, gN_l_Glacier_endDay_42, gN_Glacier_endDay, gN_l_Glacier_beginAnew_37, gN_Orders_carryOut, gN_l_Glacier_passDay_93, gN_l_Glacier_passDay_61, gN_l_Glacier_passDay_37, gN_l_Glacier_passDay_2])) (k := 4) (by decide); omega) (gN (l_Glacier_passDay_61 T (l_Glacier_passDay_2 T (T.2) 0 σ F).2 (gN (l_Glacier_passDay_37 T (l_Glacier_passDay_2 T (T.2) 0 σ F).2 (gN (l_Glacier_passDay_2 T (T.2) 0 σ F).1 0) 0 (l_Glacier_passDay_2 T (T.2) 0 σ F).1) 4) 0 (l_Glacier_passDay_37 T (l_Glacier_passDay_2 T (T.2) 0 σ F).2 (gN (l_Glacier_passDay_2 T (T.2) 0 σ F).1 0) 0 (l_Glacier_passDay_2 T (T.2) 0 σ F).1)) 4) 0 (l_Glacier_passDay_61 T (l_Glacier_passDay_2 T (T.2) 0 σ F).2 (gN (l_Glacier_passDay_37 T (l_Glacier_passDay_2 T (T.2) 0 σ F).2 (gN (l_Glacier_passDay_2 T (T.2) 0 σ F).1 0) 0 (l_Glacier_passDay_2 T (T.2) 0 σ F).1) 4) 0 (l_Glacier_passDay_37 T (l_Glacier_passDay_2 T (T.2) 0 σ F).2 (gN (l_Glacier_passDay_2 T (T.2) 0 σ F).1 0) 0 (l_Glacier_passDay_2 T (T.2) 0 σ F).1)) (by omega) rfl (WFG.of hW (fun j => by simp only [gN_gS, gN_gA, gN_gSW, gN_gSD, gN_gSC, gN_Glacier_changeWarmth, gN_Glacier_letFall, gN_l_Glacier_letCross_23, gN_Glacier_letCross, gN_Glacier_tryGo, gN_Glacier_tryProbe, gN_Glacier_takeFood, gN_Glacier_tryDrill, gN_l_Glacier_moveStakes_2, gN_Glacier_moveStakes, gN_l_Glacier_moveBridges_2, gN_Glacier_moveBridges, gN_Glacier_weather, gN_l_Glacier_eat_46, gN_Glacier_eat, gN_l_Glacier_readStakes_2, gN_Glacier_readStakes, gN_l_Glacier_endDay_12, gN_l_Glacier_endDay_42, gN_Glacier_endDay, gN_l_Glacier_beginAnew_37, gN_Orders_carryOut, gN_l_Glacier_passDay_93, gN_l_Glacier_passDay_61, gN_l_Glacier_passDay_37, gN_l_Glacier_passDay_2])) ?_
  refine Go.aload_0 d_Glacier_passDay_123 rfl ?_
  refine Go.heq (blk_comm (by omega)) ?_
  refine Go.cv0v d_Glacier_passDay_124 rfl l_Glacier_157 k_Glacier_endDay_v (gl_g0) rfl (c_Glacier_endDay (WFG.of hW (fun j => by simp only [gN_gS, gN_gA, gN_gSW, gN_gSD, gN_gSC, gN_Glacier_changeWarmth, gN_Glacier_letFall, gN_l_Glacier_letCross_23, gN_Glacier_letCross, gN_Glacier_tryGo, gN_Glacier_tryProbe, gN_Glacier_takeFood, gN_Glacier_tryDrill, gN_l_Glacier_moveStakes_2, gN_Glacier_moveStakes, gN_l_Glacier_moveBridges_2, gN_Glacier_moveBridges, gN_Glacier_weather, gN_l_Glacier_eat_46, gN_Glacier_eat, gN_l_Glacier_readStakes_2, gN_Glacier_readStakes, gN_l_Glacier_endDay_12, gN_l_Glacier_endDay_42, gN_Glacier_endDay, gN_l_Glacier_beginAnew_37, gN_Orders_carryOut, gN_l_Glacier_passDay_93, gN_l_Glacier_passDay_61, gN_l_Glacier_passDay_37, gN_l_Glacier_passDay_2]))) rfl rfl rfl ?_
  refine Go.heq (blk_comm (by omega)) ?_
  exact Go.vret d_Glacier_passDay_127 rfl ⟨rfl, rfl, rfl⟩
set_option maxRecDepth 100000 in
set_option maxHeartbeats 4000000 in
theorem gN_Glacier_passDay {T : TM} {σ : GL} {F : FM} (j : Nat) : gN (s_Glacier_passDay T σ F).1 j = gN σ j := by
  unfold s_Glacier_passDay
  (repeat' split) <;> simp only [gN_gS, gN_gA, gN_gSW, gN_gSD, gN_gSC, gN_Glacier_changeWarmth, gN_Glacier_letFall, gN_l_Glacier_letCross_23, gN_Glacier_letCross, gN_Glacier_tryGo, gN_Glacier_tryProbe, gN_Glacier_takeFood, gN_Glacier_tryDrill, gN_l_Glacier_moveStakes_2, gN_Glacier_moveStakes, gN_l_Glacier_moveBridges_2, gN_Glacier_moveBridges, gN_Glacier_weather, gN_l_Glacier_eat_46, gN_Glacier_eat, gN_l_Glacier_readStakes_2, gN_Glacier_readStakes, gN_l_Glacier_endDay_12, gN_l_Glacier_endDay_42, gN_Glacier_endDay, gN_l_Glacier_beginAnew_37, gN_Orders_carryOut, gN_l_Glacier_passDay_93, gN_l_Glacier_passDay_61, gN_l_Glacier_passDay_37, gN_l_Glacier_passDay_2]
