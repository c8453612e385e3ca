/-! the class: what is new -/
def new_ta : TA := (fun _ => 0, 0)
def new_nm : NM := (fun _ => 0, 0)
def new_fm : FM := (fun _ => none, fun _ => 0, fun _ => 0, 0, 0)
def new_tk : TK := (fun _ => none, fun _ => 0, fun _ => 0, 0, 0, 52, 0, 0, -1)
def new_tm : TM := (fun _ => 0, 0)
def new_glz : GL := (fun _ => (fun _ => 0, 0), fun _ => 0, 0, 0)
def new_gl : GL := s_Glacier_beginAnew new_glz 0
theorem d_Tape_init_0 : decode M_Tape_init.2.1 0 = .ok (.aload_n 0, 1) := by decide +kernel
theorem d_Tape_init_1 : decode M_Tape_init.2.1 1 = .ok (.invokespecial 3, 3) := by decide +kernel
theorem d_Tape_init_4 : decode M_Tape_init.2.1 4 = .ok (.aload_n 0, 1) := by decide +kernel
theorem d_Tape_init_5 : decode M_Tape_init.2.1 5 = .ok (.sipush 2000, 3) := by decide +kernel
theorem d_Tape_init_8 : decode M_Tape_init.2.1 8 = .ok (.newarray .byte, 2) := by decide +kernel
theorem d_Tape_init_10 : decode M_Tape_init.2.1 10 = .ok (.putfield 9, 3) := by decide +kernel
theorem d_Tape_init_13 : decode M_Tape_init.2.1 13 = .ok (.return_, 1) := by decide +kernel
set_option maxRecDepth 100000 in
set_option maxHeartbeats 800000 in
theorem c_Tape_init {Γ : G9} {h : AH} {t : Nat} (h0 : h t = some (.inr (5, [.null, .int 0]))) : Call Γ M_Tape_init 1 1 2000 [.ref t] h (t + 1) (fun v h2 z2 => v = none ∧ h2 = blk h t 2 (taC Γ t new_ta) ∧ z2 = t + 2) noX := by
  refine Call.of_go (L := [some (.ref t)]) (by decide +kernel) rfl (by exact Nat.le_of_ble_eq_true rfl) ?_
  refine Go.heq (ct_start h0) ?_
  refine Go.aload_0 d_Tape_init_0 rfl ?_
  refine Go.objInit d_Tape_init_1 rfl l_Tape_3 q_obj1 q_obj2 (by decide) rfl ?_
  refine Go.aload_0 d_Tape_init_4 rfl ?_
  refine Go.sipush (v := 2000) d_Tape_init_5 rfl (by decide) ?_
  refine Go.newB (C1 := 0) (S1 := 0) (N := 2000) d_Tape_init_8 rfl rfl (by decide) (by decide) (by decide) ?_
  refine Go.heq (ct_push (n := 0) (by omega)) ?_
  refine Go.putfield d_Tape_init_10 rfl f_Tape_9_p (Or.inr ⟨rfl, fun C T N h => by cases h; exact ⟨rfl, rfl⟩⟩) hup_at (by exact Nat.le_of_ble_eq_true rfl) rfl rfl ?_
  refine Go.heq hup_hup ?_
  simp only [List.set_cons_succ, List.set_cons_zero]
  refine Go.vret d_Tape_init_13 rfl ⟨rfl, ?_, rfl⟩
  rw [blk_cons]
  refine blk_ext fun j hj => ?_
  match j, hj with
  | 0, _ => rfl
  | 1, _ => rfl
  | _ + 2, w => exact absurd w (by omega)
theorem d_Names_init_0 : decode M_Names_init.2.1 0 = .ok (.aload_n 0, 1) := by decide +kernel
theorem d_Names_init_1 : decode M_Names_init.2.1 1 = .ok (.invokespecial 3, 3) := by decide +kernel
theorem d_Names_init_4 : decode M_Names_init.2.1 4 = .ok (.aload_n 0, 1) := by decide +kernel
theorem d_Names_init_5 : decode M_Names_init.2.1 5 = .ok (.bipush 6, 2) := by decide +kernel
theorem d_Names_init_7 : decode M_Names_init.2.1 7 = .ok (.newarray .long, 2) := by decide +kernel
theorem d_Names_init_9 : decode M_Names_init.2.1 9 = .ok (.putfield 9, 3) := by decide +kernel
theorem d_Names_init_12 : decode M_Names_init.2.1 12 = .ok (.return_, 1) := by decide +kernel
set_option maxRecDepth 100000 in
set_option maxHeartbeats 800000 in
theorem c_Names_init {Γ : G9} {h : AH} {t : Nat} (h0 : h t = some (.inr (2, [.null, .int 0]))) : Call Γ M_Names_init 1 1 6 [.ref t] h (t + 1) (fun v h2 z2 => v = none ∧ h2 = blk h t 2 (nmC Γ t new_nm) ∧ z2 = t + 2) noX := by
  refine Call.of_go (L := [some (.ref t)]) (by decide +kernel) rfl (by exact Nat.le_of_ble_eq_true rfl) ?_
  refine Go.heq (ct_start h0) ?_
  refine Go.aload_0 d_Names_init_0 rfl ?_
  refine Go.objInit d_Names_init_1 rfl l_Names_3 q_obj1 q_obj2 (by decide) rfl ?_
  refine Go.aload_0 d_Names_init_4 rfl ?_
  refine Go.bipush (v := 6) d_Names_init_5 rfl (by decide) ?_
  refine Go.newJ (C1 := 0) (S1 := 0) (N := 6) d_Names_init_7 rfl rfl (by decide) (by decide) (by decide) ?_
  refine Go.heq (ct_push (n := 0) (by omega)) ?_
  refine Go.putfield d_Names_init_9 rfl f_Names_9_p (Or.inr ⟨rfl, fun C T N h => by cases h; exact ⟨rfl, rfl⟩⟩) hup_at (by exact Nat.le_of_ble_eq_true rfl) rfl rfl ?_
  refine Go.heq hup_hup ?_
  simp only [List.set_cons_succ, List.set_cons_zero]
  refine Go.vret d_Names_init_12 rfl ⟨rfl, ?_, rfl⟩
  rw [blk_cons]
  refine blk_ext fun j hj => ?_
  match j, hj with
  | 0, _ => rfl
  | 1, _ => rfl
  | _ + 2, w => exact absurd w (by omega)
theorem d_Formulas_init_0 : decode M_Formulas_init.2.1 0 = .ok (.aload_n 0, 1) := by decide +kernel
theorem d_Formulas_init_1 : decode M_Formulas_init.2.1 1 = .ok (.invokespecial 3, 3) := by decide +kernel
theorem d_Formulas_init_4 : decode M_Formulas_init.2.1 4 = .ok (.aload_n 0, 1) := by decide +kernel
theorem d_Formulas_init_5 : decode M_Formulas_init.2.1 5 = .ok (.sipush 800, 3) := by decide +kernel
theorem d_Formulas_init_8 : decode M_Formulas_init.2.1 8 = .ok (.anewarray 11, 3) := by decide +kernel
theorem d_Formulas_init_11 : decode M_Formulas_init.2.1 11 = .ok (.putfield 13, 3) := by decide +kernel
theorem d_Formulas_init_14 : decode M_Formulas_init.2.1 14 = .ok (.aload_n 0, 1) := by decide +kernel
theorem d_Formulas_init_15 : decode M_Formulas_init.2.1 15 = .ok (.sipush 800, 3) := by decide +kernel
theorem d_Formulas_init_18 : decode M_Formulas_init.2.1 18 = .ok (.newarray .int, 2) := by decide +kernel
theorem d_Formulas_init_20 : decode M_Formulas_init.2.1 20 = .ok (.putfield 17, 3) := by decide +kernel
theorem d_Formulas_init_23 : decode M_Formulas_init.2.1 23 = .ok (.aload_n 0, 1) := by decide +kernel
theorem d_Formulas_init_24 : decode M_Formulas_init.2.1 24 = .ok (.sipush 800, 3) := by decide +kernel
theorem d_Formulas_init_27 : decode M_Formulas_init.2.1 27 = .ok (.newarray .int, 2) := by decide +kernel
theorem d_Formulas_init_29 : decode M_Formulas_init.2.1 29 = .ok (.putfield 21, 3) := by decide +kernel
theorem d_Formulas_init_32 : decode M_Formulas_init.2.1 32 = .ok (.return_, 1) := by decide +kernel
set_option maxRecDepth 100000 in
set_option maxHeartbeats 800000 in
theorem c_Formulas_init {Γ : G9} {sg : Nat → Nat} {h : AH} {t : Nat} (hao : AoOk Γ) (h0 : h t = some (.inr (0, [.null, .null, .null, .int 0, .int 0]))) : Call Γ M_Formulas_init 1 3 2400 [.ref t] h (t + 1) (fun v h2 z2 => v = none ∧ h2 = blk h t 4 (fmC Γ sg t new_fm) ∧ z2 = t + 4) noX := by
  refine Call.of_go (L := [some (.ref t)]) (by decide +kernel) rfl (by exact Nat.le_of_ble_eq_true rfl) ?_
  refine Go.heq (ct_start h0) ?_
  refine Go.aload_0 d_Formulas_init_0 rfl ?_
  refine Go.objInit d_Formulas_init_1 rfl l_Formulas_3 q_obj1 q_obj2 (by decide) rfl ?_
  refine Go.aload_0 d_Formulas_init_4 rfl ?_
  refine Go.sipush (v := 800) d_Formulas_init_5 rfl (by decide) ?_
  refine Go.anewS (C1 := 2) (S1 := 1600) (N := 800) d_Formulas_init_8 rfl (gm_1 (List.mem_of_getElem? (i := 165) rfl) rfl) hao rfl (by decide) (by decide) (by decide) ?_
  refine Go.heq (ct_push (n := 0) (by omega)) ?_
  refine Go.putfield d_Formulas_init_11 rfl f_Formulas_13_p (Or.inr ⟨rfl, fun C T N h => by cases h; exact ⟨rfl, rfl⟩⟩) hup_at (by exact Nat.le_of_ble_eq_true rfl) rfl rfl ?_
  refine Go.heq hup_hup ?_
  simp only [List.set_cons_succ, List.set_cons_zero]
  refine Go.aload_0 d_Formulas_init_14 rfl ?_
  refine Go.sipush (v := 800) d_Formulas_init_15 rfl (by decide) ?_
  refine Go.newI (C1 := 1) (S1 := 800) (N := 800) d_Formulas_init_18 rfl rfl (by decide) (by decide) (by decide) ?_
  refine Go.heq (ct_push (n := 1) (by omega)) ?_
  refine Go.putfield d_Formulas_init_20 rfl f_Formulas_17_p (Or.inr ⟨rfl, fun C T N h => by cases h; exact ⟨rfl, rfl⟩⟩) hup_at (by exact Nat.le_of_ble_eq_true rfl) rfl rfl ?_
  refine Go.heq hup_hup ?_
  simp only [List.set_cons_succ, List.set_cons_zero]
  refine Go.aload_0 d_Formulas_init_23 rfl ?_
  refine Go.sipush (v := 800) d_Formulas_init_24 rfl (by decide) ?_
  refine Go.newI (C1 := 0) (S1 := 0) (N := 800) d_Formulas_init_27 rfl rfl (by decide) (by decide) (by decide) ?_
  refine Go.heq (ct_push (n := 2) (by omega)) ?_
  refine Go.putfield d_Formulas_init_29 rfl f_Formulas_21_p (Or.inr ⟨rfl, fun C T N h => by cases h; exact ⟨rfl, rfl⟩⟩) hup_at (by exact Nat.le_of_ble_eq_true rfl) rfl rfl ?_
  refine Go.heq hup_hup ?_
  simp only [List.set_cons_succ, List.set_cons_zero]
  refine Go.vret d_Formulas_init_32 rfl ⟨rfl, ?_, rfl⟩
  rw [blk_cons]
  refine blk_ext fun j hj => ?_
  match j, hj with
  | 0, _ => rfl
  | 1, _ => rfl
  | 2, _ => rfl
  | 3, _ => rfl
  | _ + 4, w => exact absurd w (by omega)
theorem d_Tokens_init_0 : decode M_Tokens_init.2.1 0 = .ok (.aload_n 0, 1) := by decide +kernel
theorem d_Tokens_init_1 : decode M_Tokens_init.2.1 1 = .ok (.invokespecial 3, 3) := by decide +kernel
theorem d_Tokens_init_4 : decode M_Tokens_init.2.1 4 = .ok (.aload_n 0, 1) := by decide +kernel
theorem d_Tokens_init_5 : decode M_Tokens_init.2.1 5 = .ok (.sipush 401, 3) := by decide +kernel
theorem d_Tokens_init_8 : decode M_Tokens_init.2.1 8 = .ok (.anewarray 9, 3) := by decide +kernel
theorem d_Tokens_init_11 : decode M_Tokens_init.2.1 11 = .ok (.putfield 11, 3) := by decide +kernel
theorem d_Tokens_init_14 : decode M_Tokens_init.2.1 14 = .ok (.aload_n 0, 1) := by decide +kernel
theorem d_Tokens_init_15 : decode M_Tokens_init.2.1 15 = .ok (.sipush 401, 3) := by decide +kernel
theorem d_Tokens_init_18 : decode M_Tokens_init.2.1 18 = .ok (.newarray .int, 2) := by decide +kernel
theorem d_Tokens_init_20 : decode M_Tokens_init.2.1 20 = .ok (.putfield 17, 3) := by decide +kernel
theorem d_Tokens_init_23 : decode M_Tokens_init.2.1 23 = .ok (.aload_n 0, 1) := by decide +kernel
theorem d_Tokens_init_24 : decode M_Tokens_init.2.1 24 = .ok (.sipush 401, 3) := by decide +kernel
theorem d_Tokens_init_27 : decode M_Tokens_init.2.1 27 = .ok (.newarray .long, 2) := by decide +kernel
theorem d_Tokens_init_29 : decode M_Tokens_init.2.1 29 = .ok (.putfield 21, 3) := by decide +kernel
theorem d_Tokens_init_32 : decode M_Tokens_init.2.1 32 = .ok (.aload_n 0, 1) := by decide +kernel
theorem d_Tokens_init_33 : decode M_Tokens_init.2.1 33 = .ok (.getstatic 25, 3) := by decide +kernel
theorem d_Tokens_init_36 : decode M_Tokens_init.2.1 36 = .ok (.putfield 29, 3) := by decide +kernel
theorem d_Tokens_init_39 : decode M_Tokens_init.2.1 39 = .ok (.aload_n 0, 1) := by decide +kernel
theorem d_Tokens_init_40 : decode M_Tokens_init.2.1 40 = .ok (.iconst (-1), 1) := by decide +kernel
theorem d_Tokens_init_41 : decode M_Tokens_init.2.1 41 = .ok (.putfield 32, 3) := by decide +kernel
theorem d_Tokens_init_44 : decode M_Tokens_init.2.1 44 = .ok (.return_, 1) := by decide +kernel
set_option maxRecDepth 100000 in
set_option maxHeartbeats 800000 in
theorem c_Tokens_init {Γ : G9} {sg : Nat → Nat} {h : AH} {t : Nat} (hs : SgOk Γ sg) (hao : AoOk Γ) (h0 : h t = some (.inr (7, [.null, .null, .null, .int 0, .int 0, .null, .int 0, .long 0, .int 0]))) : Call Γ M_Tokens_init 1 3 1203 [.ref t] h (t + 1) (fun v h2 z2 => v = none ∧ h2 = blk h t 4 (tkC Γ sg t new_tk) ∧ z2 = t + 4) noX := by
  refine Call.of_go (L := [some (.ref t)]) (by decide +kernel) rfl (by exact Nat.le_of_ble_eq_true rfl) ?_
  refine Go.heq (ct_start h0) ?_
  refine Go.aload_0 d_Tokens_init_0 rfl ?_
  refine Go.objInit d_Tokens_init_1 rfl l_Tokens_3 q_obj1 q_obj2 (by decide) rfl ?_
  refine Go.aload_0 d_Tokens_init_4 rfl ?_
  refine Go.sipush (v := 401) d_Tokens_init_5 rfl (by decide) ?_
  refine Go.anewS (C1 := 2) (S1 := 802) (N := 401) d_Tokens_init_8 rfl (gm_1 (List.mem_of_getElem? (i := 59) rfl) rfl) hao rfl (by decide) (by decide) (by decide) ?_
  refine Go.heq (ct_push (n := 0) (by omega)) ?_
  refine Go.putfield d_Tokens_init_11 rfl f_Tokens_11_p (Or.inr ⟨rfl, fun C T N h => by cases h; exact ⟨rfl, rfl⟩⟩) hup_at (by exact Nat.le_of_ble_eq_true rfl) rfl rfl ?_
  refine Go.heq hup_hup ?_
  simp only [List.set_cons_succ, List.set_cons_zero]
  refine Go.aload_0 d_Tokens_init_14 rfl ?_
  refine Go.sipush (v := 401) d_Tokens_init_15 rfl (by decide) ?_
  refine Go.newI (C1 := 1) (S1 := 401) (N := 401) d_Tokens_init_18 rfl rfl (by decide) (by decide) (by decide) ?_
  refine Go.heq (ct_push (n := 1) (by omega)) ?_
  refine Go.putfield d_Tokens_init_20 rfl f_Tokens_17_p (Or.inr ⟨rfl, fun C T N h => by cases h; exact ⟨rfl, rfl⟩⟩) hup_at (by exact Nat.le_of_ble_eq_true rfl) rfl rfl ?_
  refine Go.heq hup_hup ?_
  simp only [List.set_cons_succ, List.set_cons_zero]
  refine Go.aload_0 d_Tokens_init_23 rfl ?_
  refine Go.sipush (v := 401) d_Tokens_init_24 rfl (by decide) ?_
  refine Go.newJ (C1 := 0) (S1 := 0) (N := 401) d_Tokens_init_27 rfl rfl (by decide) (by decide) (by decide) ?_
  refine Go.heq (ct_push (n := 2) (by omega)) ?_
  refine Go.putfield d_Tokens_init_29 rfl f_Tokens_21_p (Or.inr ⟨rfl, fun C T N h => by cases h; exact ⟨rfl, rfl⟩⟩) hup_at (by exact Nat.le_of_ble_eq_true rfl) rfl rfl ?_
  refine Go.heq hup_hup ?_
  simp only [List.set_cons_succ, List.set_cons_zero]
  refine Go.aload_0 d_Tokens_init_32 rfl ?_
  refine Go.gets d_Tokens_init_33 rfl x_Tokens_25 (hs.z (i := 52) rfl) ?_
  refine Go.putfield d_Tokens_init_36 rfl f_Tokens_29_p (Or.inl (fun C T N h => by cases h; rfl)) hup_at (by exact Nat.le_of_ble_eq_true rfl) rfl rfl ?_
  refine Go.heq hup_hup ?_
  simp only [List.set_cons_succ, List.set_cons_zero]
  refine Go.aload_0 d_Tokens_init_39 rfl ?_
  refine Go.iconst (v := (-1)) d_Tokens_init_40 rfl (by decide) ?_
  refine Go.putfield d_Tokens_init_41 rfl f_Tokens_32_p (Or.inl (fun C T N h => by cases h; rfl)) hup_at (by exact Nat.le_of_ble_eq_true rfl) rfl rfl ?_
  refine Go.heq hup_hup ?_
  simp only [List.set_cons_succ, List.set_cons_zero]
  refine Go.vret d_Tokens_init_44 rfl ⟨rfl, ?_, rfl⟩
  rw [blk_cons]
  refine blk_ext fun j hj => ?_
  match j, hj with
  | 0, _ => rfl
  | 1, _ => rfl
  | 2, _ => rfl
  | 3, _ => rfl
  | _ + 4, w => exact absurd w (by omega)
set_option maxRecDepth 100000 in
set_option maxHeartbeats 800000 in
theorem c_Table_new {Γ : G9} {h : AH} {t cap : Nat} {v : Int32} (h0 : h t = some (.inr (4, [.null, .int 0]))) (ev : v = nI cap) (hc1 : 1 ≤ cap) (hcap : cap ≤ 20) : Call Γ M_Table_init 1 1 (cap * 8) [.ref t, .int v] h (t + 1) (fun v h2 z2 => v = none ∧ h2 = blk h t 2 (tbC Γ cap t new_tm) ∧ z2 = t + 2) noX := by
  subst ev
  have hc := c_Table_init (Γ := Γ) (z := t + 1) h0 (by omega) hc1 hcap
  have e : hup (hup h (t + 1) (aI Γ (cap * 8) (fun _ => 0))) t (.inr (ci_Table, [.ref (t + 1), .int 0])) = blk h t 2 (tbC Γ cap t new_tm) := by
    funext x
    unfold hup blk
    by_cases h1 : x = t
    · subst h1
      rw [if_pos rfl, if_pos ⟨by omega, by omega⟩, Nat.sub_self]
      rfl
    · by_cases h2 : x = t + 1
      · subst h2
        rw [if_neg h1, if_pos rfl, if_pos ⟨by omega, by omega⟩, show t + 1 - t = 1 by omega]
        rfl
      · rw [if_neg h1, if_neg h2, if_neg (by omega)]
  rw [e] at hc
  exact hc
theorem n9_fs_Table : ∀ j, j < 2 → defaultValue (ty_Table j) = vp_V [.null, .int 0] j := by
  intro j hj
  match j, hj with
  | 0, _ => rfl
  | 1, _ => rfl
  | _ + 2, w => exact absurd w (by omega)
theorem d_Glacier_init_0 : decode M_Glacier_init.2.1 0 = .ok (.aload_n 0, 1) := by decide +kernel
theorem d_Glacier_init_1 : decode M_Glacier_init.2.1 1 = .ok (.invokespecial 3, 3) := by decide +kernel
theorem d_Glacier_init_4 : decode M_Glacier_init.2.1 4 = .ok (.aload_n 0, 1) := by decide +kernel
theorem d_Glacier_init_5 : decode M_Glacier_init.2.1 5 = .ok (.new 9, 3) := by decide +kernel
theorem d_Glacier_init_8 : decode M_Glacier_init.2.1 8 = .ok (.dup, 1) := by decide +kernel
theorem d_Glacier_init_9 : decode M_Glacier_init.2.1 9 = .ok (.iconst 5, 1) := by decide +kernel
theorem d_Glacier_init_10 : decode M_Glacier_init.2.1 10 = .ok (.invokespecial 11, 3) := by decide +kernel
theorem d_Glacier_init_13 : decode M_Glacier_init.2.1 13 = .ok (.putfield 14, 3) := by decide +kernel
theorem d_Glacier_init_16 : decode M_Glacier_init.2.1 16 = .ok (.aload_n 0, 1) := by decide +kernel
theorem d_Glacier_init_17 : decode M_Glacier_init.2.1 17 = .ok (.new 9, 3) := by decide +kernel
theorem d_Glacier_init_20 : decode M_Glacier_init.2.1 20 = .ok (.dup, 1) := by decide +kernel
theorem d_Glacier_init_21 : decode M_Glacier_init.2.1 21 = .ok (.bipush 6, 2) := by decide +kernel
theorem d_Glacier_init_23 : decode M_Glacier_init.2.1 23 = .ok (.invokespecial 11, 3) := by decide +kernel
theorem d_Glacier_init_26 : decode M_Glacier_init.2.1 26 = .ok (.putfield 20, 3) := by decide +kernel
theorem d_Glacier_init_29 : decode M_Glacier_init.2.1 29 = .ok (.aload_n 0, 1) := by decide +kernel
theorem d_Glacier_init_30 : decode M_Glacier_init.2.1 30 = .ok (.new 9, 3) := by decide +kernel
theorem d_Glacier_init_33 : decode M_Glacier_init.2.1 33 = .ok (.dup, 1) := by decide +kernel
theorem d_Glacier_init_34 : decode M_Glacier_init.2.1 34 = .ok (.iconst 4, 1) := by decide +kernel
theorem d_Glacier_init_35 : decode M_Glacier_init.2.1 35 = .ok (.invokespecial 11, 3) := by decide +kernel
theorem d_Glacier_init_38 : decode M_Glacier_init.2.1 38 = .ok (.putfield 23, 3) := by decide +kernel
theorem d_Glacier_init_41 : decode M_Glacier_init.2.1 41 = .ok (.aload_n 0, 1) := by decide +kernel
theorem d_Glacier_init_42 : decode M_Glacier_init.2.1 42 = .ok (.new 9, 3) := by decide +kernel
theorem d_Glacier_init_45 : decode M_Glacier_init.2.1 45 = .ok (.dup, 1) := by decide +kernel
theorem d_Glacier_init_46 : decode M_Glacier_init.2.1 46 = .ok (.iconst 4, 1) := by decide +kernel
theorem d_Glacier_init_47 : decode M_Glacier_init.2.1 47 = .ok (.invokespecial 11, 3) := by decide +kernel
theorem d_Glacier_init_50 : decode M_Glacier_init.2.1 50 = .ok (.putfield 26, 3) := by decide +kernel
theorem d_Glacier_init_53 : decode M_Glacier_init.2.1 53 = .ok (.aload_n 0, 1) := by decide +kernel
theorem d_Glacier_init_54 : decode M_Glacier_init.2.1 54 = .ok (.new 9, 3) := by decide +kernel
theorem d_Glacier_init_57 : decode M_Glacier_init.2.1 57 = .ok (.dup, 1) := by decide +kernel
theorem d_Glacier_init_58 : decode M_Glacier_init.2.1 58 = .ok (.iconst 4, 1) := by decide +kernel
theorem d_Glacier_init_59 : decode M_Glacier_init.2.1 59 = .ok (.invokespecial 11, 3) := by decide +kernel
theorem d_Glacier_init_62 : decode M_Glacier_init.2.1 62 = .ok (.putfield 29, 3) := by decide +kernel
theorem d_Glacier_init_65 : decode M_Glacier_init.2.1 65 = .ok (.aload_n 0, 1) := by decide +kernel
theorem d_Glacier_init_66 : decode M_Glacier_init.2.1 66 = .ok (.bipush 8, 2) := by decide +kernel
theorem d_Glacier_init_68 : decode M_Glacier_init.2.1 68 = .ok (.newarray .int, 2) := by decide +kernel
theorem d_Glacier_init_70 : decode M_Glacier_init.2.1 70 = .ok (.putfield 32, 3) := by decide +kernel
theorem d_Glacier_init_73 : decode M_Glacier_init.2.1 73 = .ok (.aload_n 0, 1) := by decide +kernel
theorem d_Glacier_init_74 : decode M_Glacier_init.2.1 74 = .ok (.iconst 0, 1) := by decide +kernel
theorem d_Glacier_init_75 : decode M_Glacier_init.2.1 75 = .ok (.invokevirtual 36, 3) := by decide +kernel
theorem d_Glacier_init_78 : decode M_Glacier_init.2.1 78 = .ok (.return_, 1) := by decide +kernel
set_option maxRecDepth 100000 in
set_option maxHeartbeats 800000 in
theorem c_Glacier_init {Γ : G9} {h : AH} {t : Nat} (h0 : h t = some (.inr (1, [.null, .null, .null, .null, .null, .null, .int 0, .int 0]))) : Call Γ M_Glacier_init 2 11 202 [.ref t] h (t + 1) (fun v h2 z2 => v = none ∧ h2 = blk h t 12 (glC Γ t new_gl) ∧ z2 = t + 12) noX := by
  refine Call.of_go (L := [some (.ref t)]) (by decide +kernel) rfl (by exact Nat.le_of_ble_eq_true rfl) ?_
  refine Go.heq (ct_start h0) ?_
  refine Go.aload_0 d_Glacier_init_0 rfl ?_
  refine Go.objInit d_Glacier_init_1 rfl l_Glacier_3 q_obj1 q_obj2 (by decide) rfl ?_
  refine Go.aload_0 d_Glacier_init_4 rfl ?_
  refine Go.new (ci := 4) (C1 := 10) (S1 := 200) (fs := [.null, .int 0]) ty_Table d_Glacier_init_5 rfl rfl cw_Table ty_Table_ok (gm_1 (List.mem_of_getElem? (i := 99) rfl) rfl) (gm_1 (List.mem_of_getElem? (i := 100) rfl) rfl) (gm_1 (List.mem_of_getElem? (i := 7) rfl) rfl) n9_fs_Table (by decide) (by decide) ?_
  refine Go.dup d_Glacier_init_8 rfl rfl ?_
  refine Go.iconst (v := 5) d_Glacier_init_9 rfl (by decide) ?_
  refine Go.callI (C1 := 9) (S1 := 160) (as := [.int 5]) d_Glacier_init_10 rfl (Or.inl l_Glacier_11) k_Table_init_n rfl rfl (c_Table_new (t := t + 1) (cap := 5) hup_at rfl (by decide) (by decide)) (by decide) (by decide) (by decide) (by decide) (Nat.le_of_ble_eq_true rfl) (fun E h2 z2 hx _ => hx.elim) (fun v h2 z2 hx _ => ?_)
  obtain ⟨rfl, rfl, rfl⟩ := hx
  refine Go.heq (ct_app (n := 0) (m := 2) (by omega) (by decide)) ?_
  refine Go.putfield d_Glacier_init_13 rfl f_Glacier_14_p (Or.inr ⟨rfl, fun C T N h => by cases h; exact ⟨rfl, rfl⟩⟩) hup_at (by exact Nat.le_of_ble_eq_true rfl) rfl rfl ?_
  refine Go.heq hup_hup ?_
  simp only [List.set_cons_succ, List.set_cons_zero]
  refine Go.aload_0 d_Glacier_init_16 rfl ?_
  refine Go.new (ci := 4) (C1 := 8) (S1 := 158) (fs := [.null, .int 0]) ty_Table d_Glacier_init_17 rfl rfl cw_Table ty_Table_ok (gm_1 (List.mem_of_getElem? (i := 99) rfl) rfl) (gm_1 (List.mem_of_getElem? (i := 100) rfl) rfl) (gm_1 (List.mem_of_getElem? (i := 7) rfl) rfl) n9_fs_Table (by decide) (by decide) ?_
  refine Go.dup d_Glacier_init_20 rfl rfl ?_
  refine Go.bipush (v := 6) d_Glacier_init_21 rfl (by decide) ?_
  refine Go.callI (C1 := 7) (S1 := 110) (as := [.int 6]) d_Glacier_init_23 rfl (Or.inl l_Glacier_11) k_Table_init_n rfl rfl (c_Table_new (t := t + 3) (cap := 6) hup_at rfl (by decide) (by decide)) (by decide) (by decide) (by decide) (by decide) (Nat.le_of_ble_eq_true rfl) (fun E h2 z2 hx _ => hx.elim) (fun v h2 z2 hx _ => ?_)
  obtain ⟨rfl, rfl, rfl⟩ := hx
  refine Go.heq (ct_app (n := 2) (m := 2) (by omega) (by decide)) ?_
  refine Go.putfield d_Glacier_init_26 rfl f_Glacier_20_p (Or.inr ⟨rfl, fun C T N h => by cases h; exact ⟨rfl, rfl⟩⟩) hup_at (by exact Nat.le_of_ble_eq_true rfl) rfl rfl ?_
  refine Go.heq hup_hup ?_
  simp only [List.set_cons_succ, List.set_cons_zero]
  refine Go.aload_0 d_Glacier_init_29 rfl ?_
  refine Go.new (ci := 4) (C1 := 6) (S1 := 108) (fs := [.null, .int 0]) ty_Table d_Glacier_init_30 rfl rfl cw_Table ty_Table_ok (gm_1 (List.mem_of_getElem? (i := 99) rfl) rfl) (gm_1 (List.mem_of_getElem? (i := 100) rfl) rfl) (gm_1 (List.mem_of_getElem? (i := 7) rfl) rfl) n9_fs_Table (by decide) (by decide) ?_
  refine Go.dup d_Glacier_init_33 rfl rfl ?_
  refine Go.iconst (v := 4) d_Glacier_init_34 rfl (by decide) ?_
  refine Go.callI (C1 := 5) (S1 := 76) (as := [.int 4]) d_Glacier_init_35 rfl (Or.inl l_Glacier_11) k_Table_init_n rfl rfl (c_Table_new (t := t + 5) (cap := 4) hup_at rfl (by decide) (by decide)) (by decide) (by decide) (by decide) (by decide) (Nat.le_of_ble_eq_true rfl) (fun E h2 z2 hx _ => hx.elim) (fun v h2 z2 hx _ => ?_)
  obtain ⟨rfl, rfl, rfl⟩ := hx
  refine Go.heq (ct_app (n := 4) (m := 2) (by omega) (by decide)) ?_
  refine Go.putfield d_Glacier_init_38 rfl f_Glacier_23_p (Or.inr ⟨rfl, fun C T N h => by cases h; exact ⟨rfl, rfl⟩⟩) hup_at (by exact Nat.le_of_ble_eq_true rfl) rfl rfl ?_
  refine Go.heq hup_hup ?_
  simp only [List.set_cons_succ, List.set_cons_zero]
  refine Go.aload_0 d_Glacier_init_41 rfl ?_
  refine Go.new (ci := 4) (C1 := 4) (S1 := 74) (fs := [.null, .int 0]) ty_Table d_Glacier_init_42 rfl rfl cw_Table ty_Table_ok (gm_1 (List.mem_of_getElem? (i := 99) rfl) rfl) (gm_1 (List.mem_of_getElem? (i := 100) rfl) rfl) (gm_1 (List.mem_of_getElem? (i := 7) rfl) rfl) n9_fs_Table (by decide) (by decide) ?_
  refine Go.dup d_Glacier_init_45 rfl rfl ?_
  refine Go.iconst (v := 4) d_Glacier_init_46 rfl (by decide) ?_
  refine Go.callI (C1 := 3) (S1 := 42) (as := [.int 4]) d_Glacier_init_47 rfl (Or.inl l_Glacier_11) k_Table_init_n rfl rfl (c_Table_new (t := t + 7) (cap := 4) hup_at rfl (by decide) (by decide)) (by decide) (by decide) (by decide) (by decide) (Nat.le_of_ble_eq_true rfl) (fun E h2 z2 hx _ => hx.elim) (fun v h2 z2 hx _ => ?_)
  obtain ⟨rfl, rfl, rfl⟩ := hx
  refine Go.heq (ct_app (n := 6) (m := 2) (by omega) (by decide)) ?_
  refine Go.putfield d_Glacier_init_50 rfl f_Glacier_26_p (Or.inr ⟨rfl, fun C T N h => by cases h; exact ⟨rfl, rfl⟩⟩) hup_at (by exact Nat.le_of_ble_eq_true rfl) rfl rfl ?_
  refine Go.heq hup_hup ?_
  simp only [List.set_cons_succ, List.set_cons_zero]
  refine Go.aload_0 d_Glacier_init_53 rfl ?_
  refine Go.new (ci := 4) (C1 := 2) (S1 := 40) (fs := [.null, .int 0]) ty_Table d_Glacier_init_54 rfl rfl cw_Table ty_Table_ok (gm_1 (List.mem_of_getElem? (i := 99) rfl) rfl) (gm_1 (List.mem_of_getElem? (i := 100) rfl) rfl) (gm_1 (List.mem_of_getElem? (i := 7) rfl) rfl) n9_fs_Table (by decide) (by decide) ?_
  refine Go.dup d_Glacier_init_57 rfl rfl ?_
  refine Go.iconst (v := 4) d_Glacier_init_58 rfl (by decide) ?_
  refine Go.callI (C1 := 1) (S1 := 8) (as := [.int 4]) d_Glacier_init_59 rfl (Or.inl l_Glacier_11) k_Table_init_n rfl rfl (c_Table_new (t := t + 9) (cap := 4) hup_at rfl (by decide) (by decide)) (by decide) (by decide) (by decide) (by decide) (Nat.le_of_ble_eq_true rfl) (fun E h2 z2 hx _ => hx.elim) (fun v h2 z2 hx _ => ?_)
  obtain ⟨rfl, rfl, rfl⟩ := hx
  refine Go.heq (ct_app (n := 8) (m := 2) (by omega) (by decide)) ?_
  refine Go.putfield d_Glacier_init_62 rfl f_Glacier_29_p (Or.inr ⟨rfl, fun C T N h => by cases h; exact ⟨rfl, rfl⟩⟩) hup_at (by exact Nat.le_of_ble_eq_true rfl) rfl rfl ?_
  refine Go.heq hup_hup ?_
  simp only [List.set_cons_succ, List.set_cons_zero]
  refine Go.aload_0 d_Glacier_init_65 rfl ?_
  refine Go.bipush (v := 8) d_Glacier_init_66 rfl (by decide) ?_
  refine Go.newI (C1 := 0) (S1 := 0) (N := 8) d_Glacier_init_68 rfl rfl (by decide) (by decide) (by decide) ?_
  refine Go.heq (ct_push (n := 10) (by omega)) ?_
  refine Go.putfield d_Glacier_init_70 rfl f_Glacier_32_p (Or.inr ⟨rfl, fun C T N h => by cases h; exact ⟨rfl, rfl⟩⟩) hup_at (by exact Nat.le_of_ble_eq_true rfl) rfl rfl ?_
  refine Go.heq hup_hup ?_
  simp only [List.set_cons_succ, List.set_cons_zero]
  refine Go.aload_0 d_Glacier_init_73 rfl ?_
  refine Go.iconst (v := 0) d_Glacier_init_74 rfl (by decide) ?_
  refine Go.heq (h' := blk h t 12 (glC Γ t new_glz)) (by
    rw [blk_cons]
    refine blk_ext fun j hj => ?_
    match j, hj with
    | 0, _ => rfl
    | 1, _ => rfl
    | 2, _ => rfl
    | 3, _ => rfl
    | 4, _ => rfl
    | 5, _ => rfl
    | 6, _ => rfl
    | 7, _ => rfl
    | 8, _ => rfl
    | 9, _ => rfl
    | 10, _ => rfl
    | 11, _ => rfl
    | _ + 12, w => exact absurd w (by omega)) ?_
  refine Go.cv1v d_Glacier_init_75 rfl l_Glacier_36 k_Glacier_beginAnew_v (blk_at0 (by decide)) rfl c_Glacier_beginAnew rfl rfl rfl ?_
  exact Go.vret d_Glacier_init_78 rfl ⟨rfl, rfl, rfl⟩
theorem n9_fs_Formulas : ∀ j, j < 5 → defaultValue (ty_Formulas j) = vp_V [.null, .null, .null, .int 0, .int 0] j := by
  intro j hj
  match j, hj with
  | 0, _ => rfl
  | 1, _ => rfl
  | 2, _ => rfl
  | 3, _ => rfl
  | 4, _ => rfl
  | _ + 5, w => exact absurd w (by omega)
theorem d_Orders_init_0 : decode M_Orders_init.2.1 0 = .ok (.aload_n 0, 1) := by decide +kernel
theorem d_Orders_init_1 : decode M_Orders_init.2.1 1 = .ok (.invokespecial 3, 3) := by decide +kernel
theorem d_Orders_init_4 : decode M_Orders_init.2.1 4 = .ok (.aload_n 0, 1) := by decide +kernel
theorem d_Orders_init_5 : decode M_Orders_init.2.1 5 = .ok (.new 9, 3) := by decide +kernel
theorem d_Orders_init_8 : decode M_Orders_init.2.1 8 = .ok (.dup, 1) := by decide +kernel
theorem d_Orders_init_9 : decode M_Orders_init.2.1 9 = .ok (.bipush 20, 2) := by decide +kernel
theorem d_Orders_init_11 : decode M_Orders_init.2.1 11 = .ok (.invokespecial 11, 3) := by decide +kernel
theorem d_Orders_init_14 : decode M_Orders_init.2.1 14 = .ok (.putfield 14, 3) := by decide +kernel
theorem d_Orders_init_17 : decode M_Orders_init.2.1 17 = .ok (.aload_n 0, 1) := by decide +kernel
theorem d_Orders_init_18 : decode M_Orders_init.2.1 18 = .ok (.new 20, 3) := by decide +kernel
theorem d_Orders_init_21 : decode M_Orders_init.2.1 21 = .ok (.dup, 1) := by decide +kernel
theorem d_Orders_init_22 : decode M_Orders_init.2.1 22 = .ok (.invokespecial 22, 3) := by decide +kernel
theorem d_Orders_init_25 : decode M_Orders_init.2.1 25 = .ok (.putfield 23, 3) := by decide +kernel
theorem d_Orders_init_28 : decode M_Orders_init.2.1 28 = .ok (.return_, 1) := by decide +kernel
set_option maxRecDepth 100000 in
set_option maxHeartbeats 800000 in
theorem c_Orders_init {Γ : G9} {sg : Nat → Nat} {h : AH} {t : Nat} (hao : AoOk Γ) (h0 : h t = some (.inr (3, [.null, .null]))) : Call Γ M_Orders_init 2 6 2567 [.ref t] h (t + 1) (fun v h2 z2 => v = none ∧ h2 = blk h t 7 (fun j => if j = 0 then some (.inr (3, [.ref (t + 1), .ref (t + 3)])) else if j - 1 < 2 then tbC Γ 20 (t + 1) new_tm (j - 1) else fmC Γ sg (t + 3) new_fm (j - 1 - 2)) ∧ z2 = t + 7) noX := by
  refine Call.of_go (L := [some (.ref t)]) (by decide +kernel) rfl (by exact Nat.le_of_ble_eq_true rfl) ?_
  refine Go.heq (ct_start h0) ?_
  refine Go.aload_0 d_Orders_init_0 rfl ?_
  refine Go.objInit d_Orders_init_1 rfl l_Orders_3 q_obj1 q_obj2 (by decide) rfl ?_
  refine Go.aload_0 d_Orders_init_4 rfl ?_
  refine Go.new (ci := 4) (C1 := 5) (S1 := 2565) (fs := [.null, .int 0]) ty_Table d_Orders_init_5 rfl rfl cw_Table ty_Table_ok (gm_1 (List.mem_of_getElem? (i := 157) rfl) rfl) (gm_1 (List.mem_of_getElem? (i := 100) rfl) rfl) (gm_1 (List.mem_of_getElem? (i := 7) rfl) rfl) n9_fs_Table (by decide) (by decide) ?_
  refine Go.dup d_Orders_init_8 rfl rfl ?_
  refine Go.bipush (v := 20) d_Orders_init_9 rfl (by decide) ?_
  refine Go.callI (C1 := 4) (S1 := 2405) (as := [.int 20]) d_Orders_init_11 rfl (Or.inl l_Orders_11) k_Table_init_n rfl rfl (c_Table_new (t := t + 1) (cap := 20) hup_at rfl (by decide) (by decide)) (by decide) (by decide) (by decide) (by decide) (Nat.le_of_ble_eq_true rfl) (fun E h2 z2 hx _ => hx.elim) (fun v h2 z2 hx _ => ?_)
  obtain ⟨rfl, rfl, rfl⟩ := hx
  refine Go.heq (ct_app (n := 0) (m := 2) (by omega) (by decide)) ?_
  refine Go.putfield d_Orders_init_14 rfl f_Orders_14_p (Or.inr ⟨rfl, fun C T N h => by cases h; exact ⟨rfl, rfl⟩⟩) hup_at (by exact Nat.le_of_ble_eq_true rfl) rfl rfl ?_
  refine Go.heq hup_hup ?_
  simp only [List.set_cons_succ, List.set_cons_zero]
  refine Go.aload_0 d_Orders_init_17 rfl ?_
  refine Go.new (ci := 0) (C1 := 3) (S1 := 2400) (fs := [.null, .null, .null, .int 0, .int 0]) ty_Formulas d_Orders_init_18 rfl rfl cw_Formulas ty_Formulas_ok (gm_1 (List.mem_of_getElem? (i := 159) rfl) rfl) (gm_1 (List.mem_of_getElem? (i := 160) rfl) rfl) (gm_1 (List.mem_of_getElem? (i := 9) rfl) rfl) n9_fs_Formulas (by decide) (by decide) ?_
  refine Go.dup d_Orders_init_21 rfl rfl ?_
  refine Go.callI (C1 := 0) (S1 := 0) (as := []) d_Orders_init_22 rfl (Or.inr ⟨_, l_Orders_22⟩) k_Formulas_init_n rfl rfl (c_Formulas_init (sg := sg) (t := t + 3) hao hup_at) (by decide) (by decide) (by decide) (by decide) (Nat.le_of_ble_eq_true rfl) (fun E h2 z2 hx _ => hx.elim) (fun v h2 z2 hx _ => ?_)
  obtain ⟨rfl, rfl, rfl⟩ := hx
  refine Go.heq (ct_app (n := 2) (m := 4) (by omega) (by decide)) ?_
  refine Go.putfield d_Orders_init_25 rfl f_Orders_23_p (Or.inr ⟨rfl, fun C T N h => by cases h; exact ⟨rfl, rfl⟩⟩) hup_at (by exact Nat.le_of_ble_eq_true rfl) rfl rfl ?_
  refine Go.heq hup_hup ?_
  simp only [List.set_cons_succ, List.set_cons_zero]
  refine Go.vret d_Orders_init_28 rfl ⟨rfl, ?_, rfl⟩
  rw [blk_cons]
  refine blk_ext fun j hj => ?_
  match j, hj with
  | 0, _ => rfl
  | 1, _ => rfl
  | 2, _ => rfl
  | 3, _ => rfl
  | 4, _ => rfl
  | 5, _ => rfl
  | 6, _ => rfl
  | _ + 7, w => exact absurd w (by omega)
def newOr (Γ : G9) (sg : Nat → Nat) (t : Nat) : Nat → Option va_E := fun j => if j = 0 then some (.inr (3, [.ref (t + 1), .ref (t + 3)])) else if j - 1 < 2 then tbC Γ 20 (t + 1) new_tm (j - 1) else fmC Γ sg (t + 3) new_fm (j - 1 - 2)
theorem n9_fs_Tape : ∀ j, j < 2 → defaultValue (ty_Tape j) = vp_V [.null, .int 0] j := by
  intro j hj
  match j, hj with
  | 0, _ => rfl
  | 1, _ => rfl
  | _ + 2, w => exact absurd w (by omega)
theorem n9_fs_Tokens : ∀ j, j < 9 → defaultValue (ty_Tokens j) = vp_V [.null, .null, .null, .int 0, .int 0, .null, .int 0, .long 0, .int 0] j := by
  intro j hj
  match j, hj with
  | 0, _ => rfl
  | 1, _ => rfl
  | 2, _ => rfl
  | 3, _ => rfl
  | 4, _ => rfl
  | 5, _ => rfl
  | 6, _ => rfl
  | 7, _ => rfl
  | 8, _ => rfl
  | _ + 9, w => exact absurd w (by omega)
theorem n9_fs_Glacier : ∀ j, j < 8 → defaultValue (ty_Glacier j) = vp_V [.null, .null, .null, .null, .null, .null, .int 0, .int 0] j := by
  intro j hj
  match j, hj with
  | 0, _ => rfl
  | 1, _ => rfl
  | 2, _ => rfl
  | 3, _ => rfl
  | 4, _ => rfl
  | 5, _ => rfl
  | 6, _ => rfl
  | 7, _ => rfl
  | _ + 8, w => exact absurd w (by omega)
theorem n9_fs_Orders : ∀ j, j < 2 → defaultValue (ty_Orders j) = vp_V [.null, .null] j := by
  intro j hj
  match j, hj with
  | 0, _ => rfl
  | 1, _ => rfl
  | _ + 2, w => exact absurd w (by omega)
theorem d_Camp_init_0 : decode M_Camp_init.2.1 0 = .ok (.aload_n 0, 1) := by decide +kernel
theorem d_Camp_init_1 : decode M_Camp_init.2.1 1 = .ok (.invokespecial 1, 3) := by decide +kernel
theorem d_Camp_init_4 : decode M_Camp_init.2.1 4 = .ok (.aload_n 0, 1) := by decide +kernel
theorem d_Camp_init_5 : decode M_Camp_init.2.1 5 = .ok (.new 7, 3) := by decide +kernel
theorem d_Camp_init_8 : decode M_Camp_init.2.1 8 = .ok (.dup, 1) := by decide +kernel
theorem d_Camp_init_9 : decode M_Camp_init.2.1 9 = .ok (.invokespecial 9, 3) := by decide +kernel
theorem d_Camp_init_12 : decode M_Camp_init.2.1 12 = .ok (.putfield 10, 3) := by decide +kernel
theorem d_Camp_init_15 : decode M_Camp_init.2.1 15 = .ok (.aload_n 0, 1) := by decide +kernel
theorem d_Camp_init_16 : decode M_Camp_init.2.1 16 = .ok (.new 16, 3) := by decide +kernel
theorem d_Camp_init_19 : decode M_Camp_init.2.1 19 = .ok (.dup, 1) := by decide +kernel
theorem d_Camp_init_20 : decode M_Camp_init.2.1 20 = .ok (.invokespecial 18, 3) := by decide +kernel
theorem d_Camp_init_23 : decode M_Camp_init.2.1 23 = .ok (.putfield 19, 3) := by decide +kernel
theorem d_Camp_init_26 : decode M_Camp_init.2.1 26 = .ok (.aload_n 0, 1) := by decide +kernel
theorem d_Camp_init_27 : decode M_Camp_init.2.1 27 = .ok (.new 23, 3) := by decide +kernel
theorem d_Camp_init_30 : decode M_Camp_init.2.1 30 = .ok (.dup, 1) := by decide +kernel
theorem d_Camp_init_31 : decode M_Camp_init.2.1 31 = .ok (.invokespecial 25, 3) := by decide +kernel
theorem d_Camp_init_34 : decode M_Camp_init.2.1 34 = .ok (.putfield 26, 3) := by decide +kernel
theorem d_Camp_init_37 : decode M_Camp_init.2.1 37 = .ok (.aload_n 0, 1) := by decide +kernel
theorem d_Camp_init_38 : decode M_Camp_init.2.1 38 = .ok (.new 23, 3) := by decide +kernel
theorem d_Camp_init_41 : decode M_Camp_init.2.1 41 = .ok (.dup, 1) := by decide +kernel
theorem d_Camp_init_42 : decode M_Camp_init.2.1 42 = .ok (.invokespecial 25, 3) := by decide +kernel
theorem d_Camp_init_45 : decode M_Camp_init.2.1 45 = .ok (.putfield 30, 3) := by decide +kernel
theorem d_Camp_init_48 : decode M_Camp_init.2.1 48 = .ok (.aload_n 0, 1) := by decide +kernel
theorem d_Camp_init_49 : decode M_Camp_init.2.1 49 = .ok (.new 33, 3) := by decide +kernel
theorem d_Camp_init_52 : decode M_Camp_init.2.1 52 = .ok (.dup, 1) := by decide +kernel
theorem d_Camp_init_53 : decode M_Camp_init.2.1 53 = .ok (.invokespecial 35, 3) := by decide +kernel
theorem d_Camp_init_56 : decode M_Camp_init.2.1 56 = .ok (.putfield 36, 3) := by decide +kernel
theorem d_Camp_init_59 : decode M_Camp_init.2.1 59 = .ok (.aload_n 0, 1) := by decide +kernel
theorem d_Camp_init_60 : decode M_Camp_init.2.1 60 = .ok (.new 33, 3) := by decide +kernel
theorem d_Camp_init_63 : decode M_Camp_init.2.1 63 = .ok (.dup, 1) := by decide +kernel
theorem d_Camp_init_64 : decode M_Camp_init.2.1 64 = .ok (.invokespecial 35, 3) := by decide +kernel
theorem d_Camp_init_67 : decode M_Camp_init.2.1 67 = .ok (.putfield 40, 3) := by decide +kernel
theorem d_Camp_init_70 : decode M_Camp_init.2.1 70 = .ok (.aload_n 0, 1) := by decide +kernel
theorem d_Camp_init_71 : decode M_Camp_init.2.1 71 = .ok (.iconst (-1), 1) := by decide +kernel
theorem d_Camp_init_72 : decode M_Camp_init.2.1 72 = .ok (.putfield 43, 3) := by decide +kernel
theorem d_Camp_init_75 : decode M_Camp_init.2.1 75 = .ok (.return_, 1) := by decide +kernel
set_option maxRecDepth 100000 in
set_option maxHeartbeats 800000 in
theorem c_Camp_init {Γ : G9} {sg : Nat → Nat} {h : AH} {t : Nat} (hs : SgOk Γ sg) (hao : AoOk Γ) (h0 : h t = some (.inr (8, [.null, .null, .null, .null, .null, .null, .int 0]))) : Call Γ M_Camp_init 3 44 8772 [.ref t] h (t + 1) (fun v h2 z2 => v = none ∧ h2 = blk h t 45 (fun j => if j = 0 then some (.inr (8, [.ref (t + 1), .ref (t + 3), .ref (t + 7), .ref (t + 19), .ref (t + 31), .ref (t + 38), .int (-1)])) else if j - 1 < 37 then (if j - 1 < 30 then (if j - 1 < 18 then (if j - 1 < 6 then (if j - 1 < 2 then taC Γ (t + 1) new_ta (j - 1) else tkC Γ sg (t + 3) new_tk (j - 1 - 2)) else glC Γ (t + 7) new_gl (j - 1 - 6)) else glC Γ (t + 19) new_gl (j - 1 - 18)) else newOr Γ sg (t + 31) (j - 1 - 30)) else newOr Γ sg (t + 38) (j - 1 - 37)) ∧ z2 = t + 45) noX := by
  refine Call.of_go (L := [some (.ref t)]) (by decide +kernel) rfl (by exact Nat.le_of_ble_eq_true rfl) ?_
  refine Go.heq (ct_start h0) ?_
  refine Go.aload_0 d_Camp_init_0 rfl ?_
  refine Go.objInit d_Camp_init_1 rfl l_Camp_1 q_obj1 q_obj2 (by decide) rfl ?_
  refine Go.aload_0 d_Camp_init_4 rfl ?_
  refine Go.new (ci := 5) (C1 := 43) (S1 := 8770) (fs := [.null, .int 0]) ty_Tape d_Camp_init_5 rfl rfl cw_Tape ty_Tape_ok (gm_1 (List.mem_of_getElem? (i := 39) rfl) rfl) (gm_1 (List.mem_of_getElem? (i := 40) rfl) rfl) (gm_1 (List.mem_of_getElem? (i := 2) rfl) rfl) n9_fs_Tape (by decide) (by decide) ?_
  refine Go.dup d_Camp_init_8 rfl rfl ?_
  refine Go.callI (C1 := 42) (S1 := 6770) (as := []) d_Camp_init_9 rfl (Or.inr ⟨_, l_Camp_9⟩) k_Tape_init_n rfl rfl (c_Tape_init (t := t + 1) hup_at) (by decide) (by decide) (by decide) (by decide) (Nat.le_of_ble_eq_true rfl) (fun E h2 z2 hx _ => hx.elim) (fun v h2 z2 hx _ => ?_)
  obtain ⟨rfl, rfl, rfl⟩ := hx
  refine Go.heq (ct_app (n := 0) (m := 2) (by omega) (by decide)) ?_
  refine Go.putfield d_Camp_init_12 rfl f_Camp_10_p (Or.inr ⟨rfl, fun C T N h => by cases h; exact ⟨rfl, rfl⟩⟩) hup_at (by exact Nat.le_of_ble_eq_true rfl) rfl rfl ?_
  refine Go.heq hup_hup ?_
  simp only [List.set_cons_succ, List.set_cons_zero]
  refine Go.aload_0 d_Camp_init_15 rfl ?_
  refine Go.new (ci := 7) (C1 := 41) (S1 := 6761) (fs := [.null, .null, .null, .int 0, .int 0, .null, .int 0, .long 0, .int 0]) ty_Tokens d_Camp_init_16 rfl rfl cw_Tokens ty_Tokens_ok (gm_1 (List.mem_of_getElem? (i := 53) rfl) rfl) (gm_1 (List.mem_of_getElem? (i := 54) rfl) rfl) (gm_1 (List.mem_of_getElem? (i := 3) rfl) rfl) n9_fs_Tokens (by decide) (by decide) ?_
  refine Go.dup d_Camp_init_19 rfl rfl ?_
  refine Go.callI (C1 := 38) (S1 := 5558) (as := []) d_Camp_init_20 rfl (Or.inr ⟨_, l_Camp_18⟩) k_Tokens_init_n rfl rfl (c_Tokens_init (sg := sg) (t := t + 3) hs hao hup_at) (by decide) (by decide) (by decide) (by decide) (Nat.le_of_ble_eq_true rfl) (fun E h2 z2 hx _ => hx.elim) (fun v h2 z2 hx _ => ?_)
  obtain ⟨rfl, rfl, rfl⟩ := hx
  refine Go.heq (ct_app (n := 2) (m := 4) (by omega) (by decide)) ?_
  refine Go.putfield d_Camp_init_23 rfl f_Camp_19_p (Or.inr ⟨rfl, fun C T N h => by cases h; exact ⟨rfl, rfl⟩⟩) hup_at (by exact Nat.le_of_ble_eq_true rfl) rfl rfl ?_
  refine Go.heq hup_hup ?_
  simp only [List.set_cons_succ, List.set_cons_zero]
  refine Go.aload_0 d_Camp_init_26 rfl ?_
  refine Go.new (ci := 1) (C1 := 37) (S1 := 5550) (fs := [.null, .null, .null, .null, .null, .null, .int 0, .int 0]) ty_Glacier d_Camp_init_27 rfl rfl cw_Glacier ty_Glacier_ok (gm_1 (List.mem_of_getElem? (i := 93) rfl) rfl) (gm_1 (List.mem_of_getElem? (i := 94) rfl) rfl) (gm_1 (List.mem_of_getElem? (i := 6) rfl) rfl) n9_fs_Glacier (by decide) (by decide) ?_
  refine Go.dup d_Camp_init_30 rfl rfl ?_
  refine Go.callI (C1 := 26) (S1 := 5348) (as := []) d_Camp_init_31 rfl (Or.inl l_Camp_25) k_Glacier_init_n rfl rfl (c_Glacier_init (t := t + 7) hup_at) (by decide) (by decide) (by decide) (by decide) (Nat.le_of_ble_eq_true rfl) (fun E h2 z2 hx _ => hx.elim) (fun v h2 z2 hx _ => ?_)
  obtain ⟨rfl, rfl, rfl⟩ := hx
  refine Go.heq (ct_app (n := 6) (m := 12) (by omega) (by decide)) ?_
  refine Go.putfield d_Camp_init_34 rfl f_Camp_26_p (Or.inl (fun C T N h => by cases h; rfl)) hup_at (by exact Nat.le_of_ble_eq_true rfl) rfl rfl ?_
  refine Go.heq hup_hup ?_
  simp only [List.set_cons_succ, List.set_cons_zero]
  refine Go.aload_0 d_Camp_init_37 rfl ?_
  refine Go.new (ci := 1) (C1 := 25) (S1 := 5340) (fs := [.null, .null, .null, .null, .null, .null, .int 0, .int 0]) ty_Glacier d_Camp_init_38 rfl rfl cw_Glacier ty_Glacier_ok (gm_1 (List.mem_of_getElem? (i := 93) rfl) rfl) (gm_1 (List.mem_of_getElem? (i := 94) rfl) rfl) (gm_1 (List.mem_of_getElem? (i := 6) rfl) rfl) n9_fs_Glacier (by decide) (by decide) ?_
  refine Go.dup d_Camp_init_41 rfl rfl ?_
  refine Go.callI (C1 := 14) (S1 := 5138) (as := []) d_Camp_init_42 rfl (Or.inl l_Camp_25) k_Glacier_init_n rfl rfl (c_Glacier_init (t := t + 19) hup_at) (by decide) (by decide) (by decide) (by decide) (Nat.le_of_ble_eq_true rfl) (fun E h2 z2 hx _ => hx.elim) (fun v h2 z2 hx _ => ?_)
  obtain ⟨rfl, rfl, rfl⟩ := hx
  refine Go.heq (ct_app (n := 18) (m := 12) (by omega) (by decide)) ?_
  refine Go.putfield d_Camp_init_45 rfl f_Camp_30_p (Or.inl (fun C T N h => by cases h; rfl)) hup_at (by exact Nat.le_of_ble_eq_true rfl) rfl rfl ?_
  refine Go.heq hup_hup ?_
  simp only [List.set_cons_succ, List.set_cons_zero]
  refine Go.aload_0 d_Camp_init_48 rfl ?_
  refine Go.new (ci := 3) (C1 := 13) (S1 := 5136) (fs := [.null, .null]) ty_Orders d_Camp_init_49 rfl rfl cw_Orders ty_Orders_ok (gm_1 (List.mem_of_getElem? (i := 151) rfl) rfl) (gm_1 (List.mem_of_getElem? (i := 152) rfl) rfl) (gm_1 (List.mem_of_getElem? (i := 8) rfl) rfl) n9_fs_Orders (by decide) (by decide) ?_
  refine Go.dup d_Camp_init_52 rfl rfl ?_
  refine Go.callI (C1 := 7) (S1 := 2569) (as := []) d_Camp_init_53 rfl (Or.inr ⟨_, l_Camp_35⟩) k_Orders_init_n rfl rfl (c_Orders_init (sg := sg) (t := t + 31) hao hup_at) (by decide) (by decide) (by decide) (by decide) (Nat.le_of_ble_eq_true rfl) (fun E h2 z2 hx _ => hx.elim) (fun v h2 z2 hx _ => ?_)
  obtain ⟨rfl, rfl, rfl⟩ := hx
  refine Go.heq (ct_app (n := 30) (m := 7) (by omega) (by decide)) ?_
  refine Go.putfield d_Camp_init_56 rfl f_Camp_36_p (Or.inl (fun C T N h => by cases h; rfl)) hup_at (by exact Nat.le_of_ble_eq_true rfl) rfl rfl ?_
  refine Go.heq hup_hup ?_
  simp only [List.set_cons_succ, List.set_cons_zero]
  refine Go.aload_0 d_Camp_init_59 rfl ?_
  refine Go.new (ci := 3) (C1 := 6) (S1 := 2567) (fs := [.null, .null]) ty_Orders d_Camp_init_60 rfl rfl cw_Orders ty_Orders_ok (gm_1 (List.mem_of_getElem? (i := 151) rfl) rfl) (gm_1 (List.mem_of_getElem? (i := 152) rfl) rfl) (gm_1 (List.mem_of_getElem? (i := 8) rfl) rfl) n9_fs_Orders (by decide) (by decide) ?_
  refine Go.dup d_Camp_init_63 rfl rfl ?_
  refine Go.callI (C1 := 0) (S1 := 0) (as := []) d_Camp_init_64 rfl (Or.inr ⟨_, l_Camp_35⟩) k_Orders_init_n rfl rfl (c_Orders_init (sg := sg) (t := t + 38) hao hup_at) (by decide) (by decide) (by decide) (by decide) (Nat.le_of_ble_eq_true rfl) (fun E h2 z2 hx _ => hx.elim) (fun v h2 z2 hx _ => ?_)
  obtain ⟨rfl, rfl, rfl⟩ := hx
  refine Go.heq (ct_app (n := 37) (m := 7) (by omega) (by decide)) ?_
  refine Go.putfield d_Camp_init_67 rfl f_Camp_40_p (Or.inl (fun C T N h => by cases h; rfl)) hup_at (by exact Nat.le_of_ble_eq_true rfl) rfl rfl ?_
  refine Go.heq hup_hup ?_
  simp only [List.set_cons_succ, List.set_cons_zero]
  refine Go.aload_0 d_Camp_init_70 rfl ?_
  refine Go.iconst (v := (-1)) d_Camp_init_71 rfl (by decide) ?_
  refine Go.putfield d_Camp_init_72 rfl f_Camp_43_p (Or.inl (fun C T N h => by cases h; rfl)) hup_at (by exact Nat.le_of_ble_eq_true rfl) rfl rfl ?_
  refine Go.heq hup_hup ?_
  simp only [List.set_cons_succ, List.set_cons_zero]
  refine Go.vret d_Camp_init_75 rfl ⟨rfl, ?_, rfl⟩
  rw [blk_cons]
  refine blk_ext fun j hj => ?_
  match j, hj with
  | 0, _ => rfl
  | 1, _ => rfl
  | 2, _ => rfl
  | 3, _ => rfl
  | 4, _ => rfl
  | 5, _ => rfl
  | 6, _ => rfl
  | 7, _ => rfl
  | 8, _ => rfl
  | 9, _ => rfl
  | 10, _ => rfl
  | 11, _ => rfl
  | 12, _ => rfl
  | 13, _ => rfl
  | 14, _ => rfl
  | 15, _ => rfl
  | 16, _ => rfl
  | 17, _ => rfl
  | 18, _ => rfl
  | 19, _ => rfl
  | 20, _ => rfl
  | 21, _ => rfl
  | 22, _ => rfl
  | 23, _ => rfl
  | 24, _ => rfl
  | 25, _ => rfl
  | 26, _ => rfl
  | 27, _ => rfl
  | 28, _ => rfl
  | 29, _ => rfl
  | 30, _ => rfl
  | 31, _ => rfl
  | 32, _ => rfl
  | 33, _ => rfl
  | 34, _ => rfl
  | 35, _ => rfl
  | 36, _ => rfl
  | 37, _ => rfl
  | 38, _ => rfl
  | 39, _ => rfl
  | 40, _ => rfl
  | 41, _ => rfl
  | 42, _ => rfl
  | 43, _ => rfl
  | 44, _ => rfl
  | _ + 45, w => exact absurd w (by omega)
