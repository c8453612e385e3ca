/-! Table: rows of eight numbers -/
abbrev TM : Type := (Nat → Int32) × Nat
def tgI (T : TM) (row : Int32) (c : Nat) : Int32 := if 0 ≤ row ∧ row < nI T.2 then T.1 (8 * row.toNatClampNeg + c) else 0
def tsI (T : TM) (row : Int32) (c : Nat) (v : Int32) : TM := if 0 ≤ row ∧ row < nI T.2 then (upd T.1 (8 * row.toNatClampNeg + c) v, T.2) else T
theorem i_le {x y : Int32} (h : ¬ x < y) : y ≤ x := by
  rw [Int32.le_iff_toInt_le]; rw [Int32.lt_iff_toInt_lt] at h; omega
theorem i_lt {x y : Int32} (h : ¬ x ≤ y) : y < x := by
  rw [Int32.lt_iff_toInt_lt]; rw [Int32.le_iff_toInt_le] at h; omega
theorem i_nlt {x y : Int32} (h : y ≤ x) : ¬ x < y := by
  rw [Int32.le_iff_toInt_le] at h; rw [Int32.lt_iff_toInt_lt]; omega
theorem i_nle {x y : Int32} (h : y < x) : ¬ x ≤ y := by
  rw [Int32.lt_iff_toInt_lt] at h; rw [Int32.le_iff_toInt_le]; omega
theorem tgI_lo {T : TM} {row : Int32} {c : Nat} (h : row < 0) : tgI T row c = 0 := if_neg (fun w => i_nlt w.1 h)
theorem tgI_hi {T : TM} {row : Int32} {c : Nat} (h : nI T.2 ≤ row) : tgI T row c = 0 := if_neg (fun w => i_nlt h w.2)
theorem tsI_lo {T : TM} {row v : Int32} {c : Nat} (h : row < 0) : tsI T row c v = T := if_neg (fun w => i_nlt w.1 h)
theorem tsI_hi {T : TM} {row v : Int32} {c : Nat} (h : nI T.2 ≤ row) : tsI T row c v = T := if_neg (fun w => i_nlt h w.2)
theorem tix {row : Int32} {r cap c : Nat} (h0 : ¬ row < 0) (h1 : ¬ nI r ≤ row) (hr : r ≤ cap) (hcap : cap ≤ 20) (hc : c < 8) : ∃ j, j < r ∧ row = nI j ∧ row * 8 + nI c = nI (8 * j + c) ∧ 8 * j + c < cap * 8 ∧ row.toNatClampNeg = j := by
  obtain ⟨j, hj, rfl⟩ := nI_of h0
  have hjr : j < r := by
    rcases Nat.lt_or_ge j r with h | h
    · exact h
    · exact absurd ((nI_leI (by omega) hj).mpr h) h1
  refine ⟨j, hjr, rfl, ?_, by omega, nI_clamp hj⟩
  rw [nI8, pk_mul, nI_add, Nat.mul_comm]
theorem tgI_at {T : TM} {c j : Nat} (hj : j < T.2) (hT : T.2 < 2 ^ 31) : tgI T (nI j) c = T.1 (8 * j + c) := by
  unfold tgI
  rw [if_pos ⟨nI_pos' (by omega), (nI_ltI (by omega) hT).mpr hj⟩, nI_clamp (by omega)]
theorem tsI_at {T : TM} {c j : Nat} {v : Int32} (hj : j < T.2) (hT : T.2 < 2 ^ 31) : tsI T (nI j) c v = (upd T.1 (8 * j + c) v, T.2) := by
  unfold tsI
  rw [if_pos ⟨nI_pos' (by omega), (nI_ltI (by omega) hT).mpr hj⟩, nI_clamp (by omega)]
theorem tsI_rows {T : TM} {row v : Int32} {c : Nat} : (tsI T row c v).2 = T.2 := by
  unfold tsI
  split <;> rfl
theorem has_t {row r : Int32} (h0 : ¬ row < 0) (h1 : ¬ r ≤ row) : (if 0 ≤ row ∧ row < r then (1 : Int32) else 0) = 1 := if_pos ⟨i_le h0, i_lt h1⟩
theorem has_f1 {row r : Int32} (h0 : row < 0) : (if 0 ≤ row ∧ row < r then (1 : Int32) else 0) = 0 := if_neg (fun w => i_nlt w.1 h0)
theorem has_f2 {row r : Int32} (h0 : r ≤ row) : (if 0 ≤ row ∧ row < r then (1 : Int32) else 0) = 0 := if_neg (fun w => i_nlt h0 w.2)
def tabO (t : Nat) (T : TM) : va_E := .inr (ci_Table, [.ref (t + 1), .int (nI T.2)])
theorem d_Table_rows_0 : decode M_Table_rows.2.1 0 = .ok (.aload_n 0, 1) := by decide +kernel
theorem d_Table_rows_1 : decode M_Table_rows.2.1 1 = .ok (.getfield 15, 3) := by decide +kernel
theorem d_Table_rows_4 : decode M_Table_rows.2.1 4 = .ok (.ireturn, 1) := by decide +kernel
set_option maxRecDepth 100000 in
set_option maxHeartbeats 4000000 in
theorem c_Table_rows {Γ : G9} {h : AH} {z t : Nat} {T : TM} (hT : h t = some (tabO t T)) : CallR Γ M_Table_rows 0 [.ref t] h z (some (.int (nI T.2))) h := by
  refine Call.of_go (L := [some (.ref t)]) (by decide +kernel) rfl (by exact Nat.le_of_ble_eq_true rfl) ?_
  refine Go.aload_0 d_Table_rows_0 rfl ?_
  refine Go.getfield d_Table_rows_1 rfl f_Table_15 (by assumption) (by rfl) ?_
  refine Go.iret d_Table_rows_4 rfl rfl ⟨rfl, rfl, rfl⟩
theorem d_Table_has_0 : decode M_Table_has.2.1 0 = .ok (.iload_n 1, 1) := by decide +kernel
theorem d_Table_has_1 : decode M_Table_has.2.1 1 = .ok (.ifCond .lt 15, 3) := by decide +kernel
theorem d_Table_has_4 : decode M_Table_has.2.1 4 = .ok (.iload_n 1, 1) := by decide +kernel
theorem d_Table_has_5 : decode M_Table_has.2.1 5 = .ok (.aload_n 0, 1) := by decide +kernel
theorem d_Table_has_6 : decode M_Table_has.2.1 6 = .ok (.getfield 15, 3) := by decide +kernel
theorem d_Table_has_9 : decode M_Table_has.2.1 9 = .ok (.if_icmp .ge 7, 3) := by decide +kernel
theorem d_Table_has_12 : decode M_Table_has.2.1 12 = .ok (.iconst 1, 1) := by decide +kernel
theorem d_Table_has_13 : decode M_Table_has.2.1 13 = .ok (.goto 4, 3) := by decide +kernel
theorem d_Table_has_16 : decode M_Table_has.2.1 16 = .ok (.iconst 0, 1) := by decide +kernel
theorem d_Table_has_17 : decode M_Table_has.2.1 17 = .ok (.ireturn, 1) := by decide +kernel
set_option maxRecDepth 100000 in
set_option maxHeartbeats 4000000 in
theorem c_Table_has {Γ : G9} {h : AH} {z t : Nat} {T : TM} {row : Int32} (hT : h t = some (tabO t T)) : CallR Γ M_Table_has 0 [.ref t, .int row] h z (some (.int (if 0 ≤ row ∧ row < nI T.2 then 1 else 0))) h := by
  refine Call.of_go (L := [some (.ref t), some (.int row)]) (by decide +kernel) rfl (by exact Nat.le_of_ble_eq_true rfl) ?_
  refine Go.iload_1 d_Table_has_0 rfl ?_
  refine Go.if_lt (t := 16) d_Table_has_1 (by decide) rfl (fun c1 => ?_) (fun c1 => ?_)
  · refine Go.iconst (v := 0) d_Table_has_16 rfl (by decide) ?_
    refine Go.iret d_Table_has_17 rfl rfl ⟨by first | rw [has_t c1 c9] | rw [has_f1 c1] | rw [has_f2 c9], rfl, rfl⟩
  · refine Go.iload_1 d_Table_has_4 rfl ?_
    refine Go.aload_0 d_Table_has_5 rfl ?_
    refine Go.getfield d_Table_has_6 rfl f_Table_15 (by assumption) (by rfl) ?_
    refine Go.icmp_ge (t := 16) d_Table_has_9 (by decide) rfl (fun c9 => ?_) (fun c9 => ?_)
    · refine Go.iconst (v := 0) d_Table_has_16 rfl (by decide) ?_
      refine Go.iret d_Table_has_17 rfl rfl ⟨by first | rw [has_t c1 c9] | rw [has_f1 c1] | rw [has_f2 c9], rfl, rfl⟩
    · refine Go.iconst (v := 1) d_Table_has_12 rfl (by decide) ?_
      refine Go.goto (t := 17) d_Table_has_13 (by decide) ?_
      refine Go.iret d_Table_has_17 rfl rfl ⟨by first | rw [has_t c1 c9] | rw [has_f1 c1] | rw [has_f2 c9], rfl, rfl⟩
theorem d_Table_get_0 : decode M_Table_get.2.1 0 = .ok (.iload_n 1, 1) := by decide +kernel
theorem d_Table_get_1 : decode M_Table_get.2.1 1 = .ok (.bipush 8, 2) := by decide +kernel
theorem d_Table_get_3 : decode M_Table_get.2.1 3 = .ok (.imul, 1) := by decide +kernel
theorem d_Table_get_4 : decode M_Table_get.2.1 4 = .ok (.iload_n 2, 1) := by decide +kernel
theorem d_Table_get_5 : decode M_Table_get.2.1 5 = .ok (.iadd, 1) := by decide +kernel
theorem d_Table_get_6 : decode M_Table_get.2.1 6 = .ok (.istore_n 3, 1) := by decide +kernel
theorem d_Table_get_7 : decode M_Table_get.2.1 7 = .ok (.iload_n 1, 1) := by decide +kernel
theorem d_Table_get_8 : decode M_Table_get.2.1 8 = .ok (.ifCond .lt 33, 3) := by decide +kernel
theorem d_Table_get_11 : decode M_Table_get.2.1 11 = .ok (.iload_n 1, 1) := by decide +kernel
theorem d_Table_get_12 : decode M_Table_get.2.1 12 = .ok (.aload_n 0, 1) := by decide +kernel
theorem d_Table_get_13 : decode M_Table_get.2.1 13 = .ok (.getfield 15, 3) := by decide +kernel
theorem d_Table_get_16 : decode M_Table_get.2.1 16 = .ok (.if_icmp .ge 25, 3) := by decide +kernel
theorem d_Table_get_19 : decode M_Table_get.2.1 19 = .ok (.iload_n 3, 1) := by decide +kernel
theorem d_Table_get_20 : decode M_Table_get.2.1 20 = .ok (.ifCond .lt 21, 3) := by decide +kernel
theorem d_Table_get_23 : decode M_Table_get.2.1 23 = .ok (.iload_n 3, 1) := by decide +kernel
theorem d_Table_get_24 : decode M_Table_get.2.1 24 = .ok (.aload_n 0, 1) := by decide +kernel
theorem d_Table_get_25 : decode M_Table_get.2.1 25 = .ok (.getfield 11, 3) := by decide +kernel
theorem d_Table_get_28 : decode M_Table_get.2.1 28 = .ok (.arraylength, 1) := by decide +kernel
theorem d_Table_get_29 : decode M_Table_get.2.1 29 = .ok (.if_icmp .ge 12, 3) := by decide +kernel
theorem d_Table_get_32 : decode M_Table_get.2.1 32 = .ok (.aload_n 0, 1) := by decide +kernel
theorem d_Table_get_33 : decode M_Table_get.2.1 33 = .ok (.getfield 11, 3) := by decide +kernel
theorem d_Table_get_36 : decode M_Table_get.2.1 36 = .ok (.iload_n 3, 1) := by decide +kernel
theorem d_Table_get_37 : decode M_Table_get.2.1 37 = .ok (.iaload, 1) := by decide +kernel
theorem d_Table_get_38 : decode M_Table_get.2.1 38 = .ok (.goto 4, 3) := by decide +kernel
theorem d_Table_get_41 : decode M_Table_get.2.1 41 = .ok (.iconst 0, 1) := by decide +kernel
theorem d_Table_get_42 : decode M_Table_get.2.1 42 = .ok (.ireturn, 1) := by decide +kernel
set_option maxRecDepth 100000 in
set_option maxHeartbeats 4000000 in
theorem c_Table_get {Γ : G9} {h : AH} {z t cap : Nat} {T : TM} {row : Int32} {c : Nat} (hT : h t = some (tabO t T)) (hA : h (t + 1) = some (aI Γ (cap * 8) T.1)) (hw : T.2 ≤ cap) (hcap : cap ≤ 20) (hc : c < 8) : CallR Γ M_Table_get 0 [.ref t, .int row, .int (nI c)] h z (some (.int (tgI T row c))) h := by
  refine Call.of_go (L := [some (.ref t), some (.int row), some (.int (nI c)), none]) (by decide +kernel) rfl (by exact Nat.le_of_ble_eq_true rfl) ?_
  refine Go.iload_1 d_Table_get_0 rfl ?_
  refine Go.bipush (v := 8) d_Table_get_1 rfl (by decide) ?_
  refine Go.imul d_Table_get_3 rfl ?_
  refine Go.iload_2 d_Table_get_4 rfl ?_
  refine Go.iadd d_Table_get_5 rfl ?_
  refine Go.istore_3 d_Table_get_6 rfl (by rfl) ?_
  refine Go.iload_1 d_Table_get_7 rfl ?_
  refine Go.if_lt (t := 41) d_Table_get_8 (by decide) rfl (fun c8 => ?_) (fun c8 => ?_)
  · refine Go.iconst (v := 0) d_Table_get_41 rfl (by decide) ?_
    refine Go.iret d_Table_get_42 rfl rfl ⟨by first | rw [tgI_at hj (by omega)] | rw [tgI_lo c8] | rw [tgI_hi c16], rfl, rfl⟩
  · refine Go.iload_1 d_Table_get_11 rfl ?_
    refine Go.aload_0 d_Table_get_12 rfl ?_
    refine Go.getfield d_Table_get_13 rfl f_Table_15 (by assumption) (by rfl) ?_
    refine Go.icmp_ge (t := 41) d_Table_get_16 (by decide) rfl (fun c16 => ?_) (fun c16 => ?_)
    · refine Go.iconst (v := 0) d_Table_get_41 rfl (by decide) ?_
      refine Go.iret d_Table_get_42 rfl rfl ⟨by first | rw [tgI_at hj (by omega)] | rw [tgI_lo c8] | rw [tgI_hi c16], rfl, rfl⟩
    · obtain ⟨j, hj, rfl, hi, hlt, hcl⟩ := tix c8 c16 hw hcap hc
      rw [hi]
      refine Go.iload_3 d_Table_get_19 rfl ?_
      refine Go.if_lt (t := 41) d_Table_get_20 (by decide) rfl (fun c20 => ?_) (fun c20 => ?_)
      · exact absurd c20 (nI_pos (by omega))
      · refine Go.iload_3 d_Table_get_23 rfl ?_
        refine Go.aload_0 d_Table_get_24 rfl ?_
        refine Go.getfield d_Table_get_25 rfl f_Table_11 (by assumption) (by rfl) ?_
        refine Go.alen (n := nI _) d_Table_get_28 rfl (by assumption) (by rfl) rfl ?_
        refine Go.icmp_ge (t := 41) d_Table_get_29 (by decide) rfl (fun c29 => ?_) (fun c29 => ?_)
        · exact absurd c29 (nI_ge hlt (by omega))
        · refine Go.aload_0 d_Table_get_32 rfl ?_
          refine Go.getfield d_Table_get_33 rfl f_Table_11 (by assumption) (by rfl) ?_
          refine Go.iload_3 d_Table_get_36 rfl ?_
          refine Go.iaload d_Table_get_37 rfl (by assumption) (vp_in_nI hlt (by omega)) ?_
          rw [nI_clamp (show 8 * j + c < 2 ^ 31 by omega)]
          refine Go.goto (t := 42) d_Table_get_38 (by decide) ?_
          refine Go.iret d_Table_get_42 rfl rfl ⟨by first | rw [tgI_at hj (by omega)] | rw [tgI_lo c8] | rw [tgI_hi c16], rfl, rfl⟩
theorem d_Table_set_0 : decode M_Table_set.2.1 0 = .ok (.iload_n 1, 1) := by decide +kernel
theorem d_Table_set_1 : decode M_Table_set.2.1 1 = .ok (.bipush 8, 2) := by decide +kernel
theorem d_Table_set_3 : decode M_Table_set.2.1 3 = .ok (.imul, 1) := by decide +kernel
theorem d_Table_set_4 : decode M_Table_set.2.1 4 = .ok (.iload_n 2, 1) := by decide +kernel
theorem d_Table_set_5 : decode M_Table_set.2.1 5 = .ok (.iadd, 1) := by decide +kernel
theorem d_Table_set_6 : decode M_Table_set.2.1 6 = .ok (.istore 4, 2) := by decide +kernel
theorem d_Table_set_8 : decode M_Table_set.2.1 8 = .ok (.iload_n 1, 1) := by decide +kernel
theorem d_Table_set_9 : decode M_Table_set.2.1 9 = .ok (.ifCond .lt 34, 3) := by decide +kernel
theorem d_Table_set_12 : decode M_Table_set.2.1 12 = .ok (.iload_n 1, 1) := by decide +kernel
theorem d_Table_set_13 : decode M_Table_set.2.1 13 = .ok (.aload_n 0, 1) := by decide +kernel
theorem d_Table_set_14 : decode M_Table_set.2.1 14 = .ok (.getfield 15, 3) := by decide +kernel
theorem d_Table_set_17 : decode M_Table_set.2.1 17 = .ok (.if_icmp .ge 26, 3) := by decide +kernel
theorem d_Table_set_20 : decode M_Table_set.2.1 20 = .ok (.iload 4, 2) := by decide +kernel
theorem d_Table_set_22 : decode M_Table_set.2.1 22 = .ok (.ifCond .lt 21, 3) := by decide +kernel
theorem d_Table_set_25 : decode M_Table_set.2.1 25 = .ok (.iload 4, 2) := by decide +kernel
theorem d_Table_set_27 : decode M_Table_set.2.1 27 = .ok (.aload_n 0, 1) := by decide +kernel
theorem d_Table_set_28 : decode M_Table_set.2.1 28 = .ok (.getfield 11, 3) := by decide +kernel
theorem d_Table_set_31 : decode M_Table_set.2.1 31 = .ok (.arraylength, 1) := by decide +kernel
theorem d_Table_set_32 : decode M_Table_set.2.1 32 = .ok (.if_icmp .ge 11, 3) := by decide +kernel
theorem d_Table_set_35 : decode M_Table_set.2.1 35 = .ok (.aload_n 0, 1) := by decide +kernel
theorem d_Table_set_36 : decode M_Table_set.2.1 36 = .ok (.getfield 11, 3) := by decide +kernel
theorem d_Table_set_39 : decode M_Table_set.2.1 39 = .ok (.iload 4, 2) := by decide +kernel
theorem d_Table_set_41 : decode M_Table_set.2.1 41 = .ok (.iload_n 3, 1) := by decide +kernel
theorem d_Table_set_42 : decode M_Table_set.2.1 42 = .ok (.iastore, 1) := by decide +kernel
theorem d_Table_set_43 : decode M_Table_set.2.1 43 = .ok (.return_, 1) := by decide +kernel
set_option maxRecDepth 100000 in
set_option maxHeartbeats 4000000 in
theorem c_Table_set {Γ : G9} {h : AH} {z t cap : Nat} {T : TM} {row v : Int32} {c : Nat} (hT : h t = some (tabO t T)) (hA : h (t + 1) = some (aI Γ (cap * 8) T.1)) (hw : T.2 ≤ cap) (hcap : cap ≤ 20) (hc : c < 8) : CallR Γ M_Table_set 0 [.ref t, .int row, .int (nI c), .int v] h z none (hup h (t + 1) (aI Γ (cap * 8) (tsI T row c v).1)) := by
  refine Call.of_go (L := [some (.ref t), some (.int row), some (.int (nI c)), some (.int v), none]) (by decide +kernel) rfl (by exact Nat.le_of_ble_eq_true rfl) ?_
  refine Go.iload_1 d_Table_set_0 rfl ?_
  refine Go.bipush (v := 8) d_Table_set_1 rfl (by decide) ?_
  refine Go.imul d_Table_set_3 rfl ?_
  refine Go.iload_2 d_Table_set_4 rfl ?_
  refine Go.iadd d_Table_set_5 rfl ?_
  refine Go.istore_4 d_Table_set_6 rfl (by rfl) ?_
  refine Go.iload_1 d_Table_set_8 rfl ?_
  refine Go.if_lt (t := 43) d_Table_set_9 (by decide) rfl (fun c9 => ?_) (fun c9 => ?_)
  · refine Go.vret d_Table_set_43 rfl ⟨rfl, by first | rw [tsI_at hj (by omega)] | rw [tsI_lo c9, hup_self hA] | rw [tsI_hi c17, hup_self hA], rfl⟩
  · refine Go.iload_1 d_Table_set_12 rfl ?_
    refine Go.aload_0 d_Table_set_13 rfl ?_
    refine Go.getfield d_Table_set_14 rfl f_Table_15 (by assumption) (by rfl) ?_
    refine Go.icmp_ge (t := 43) d_Table_set_17 (by decide) rfl (fun c17 => ?_) (fun c17 => ?_)
    · refine Go.vret d_Table_set_43 rfl ⟨rfl, by first | rw [tsI_at hj (by omega)] | rw [tsI_lo c9, hup_self hA] | rw [tsI_hi c17, hup_self hA], rfl⟩
    · obtain ⟨j, hj, rfl, hi, hlt, hcl⟩ := tix c9 c17 hw hcap hc
      rw [hi]
      refine Go.iload_4 d_Table_set_20 rfl ?_
      refine Go.if_lt (t := 43) d_Table_set_22 (by decide) rfl (fun c22 => ?_) (fun c22 => ?_)
      · exact absurd c22 (nI_pos (by omega))
      · refine Go.iload_4 d_Table_set_25 rfl ?_
        refine Go.aload_0 d_Table_set_27 rfl ?_
        refine Go.getfield d_Table_set_28 rfl f_Table_11 (by assumption) (by rfl) ?_
        refine Go.alen (n := nI _) d_Table_set_31 rfl (by assumption) (by rfl) rfl ?_
        refine Go.icmp_ge (t := 43) d_Table_set_32 (by decide) rfl (fun c32 => ?_) (fun c32 => ?_)
        · exact absurd c32 (nI_ge hlt (by omega))
        · refine Go.aload_0 d_Table_set_35 rfl ?_
          refine Go.getfield d_Table_set_36 rfl f_Table_11 (by assumption) (by rfl) ?_
          refine Go.iload_4 d_Table_set_39 rfl ?_
          refine Go.iload_3 d_Table_set_41 rfl ?_
          refine Go.iastore d_Table_set_42 rfl (by assumption) (vp_in_nI hlt (by omega)) ?_
          rw [nI_clamp (show 8 * j + c < 2 ^ 31 by omega)]
          refine Go.vret d_Table_set_43 rfl ⟨rfl, by first | rw [tsI_at hj (by omega)] | rw [tsI_lo c9, hup_self hA] | rw [tsI_hi c17, hup_self hA], rfl⟩
theorem d_Table_add_0 : decode M_Table_add.2.1 0 = .ok (.iload_n 1, 1) := by decide +kernel
theorem d_Table_add_1 : decode M_Table_add.2.1 1 = .ok (.bipush 8, 2) := by decide +kernel
theorem d_Table_add_3 : decode M_Table_add.2.1 3 = .ok (.imul, 1) := by decide +kernel
theorem d_Table_add_4 : decode M_Table_add.2.1 4 = .ok (.iload_n 2, 1) := by decide +kernel
theorem d_Table_add_5 : decode M_Table_add.2.1 5 = .ok (.iadd, 1) := by decide +kernel
theorem d_Table_add_6 : decode M_Table_add.2.1 6 = .ok (.istore 4, 2) := by decide +kernel
theorem d_Table_add_8 : decode M_Table_add.2.1 8 = .ok (.iload_n 1, 1) := by decide +kernel
theorem d_Table_add_9 : decode M_Table_add.2.1 9 = .ok (.ifCond .lt 37, 3) := by decide +kernel
theorem d_Table_add_12 : decode M_Table_add.2.1 12 = .ok (.iload_n 1, 1) := by decide +kernel
theorem d_Table_add_13 : decode M_Table_add.2.1 13 = .ok (.aload_n 0, 1) := by decide +kernel
theorem d_Table_add_14 : decode M_Table_add.2.1 14 = .ok (.getfield 15, 3) := by decide +kernel
theorem d_Table_add_17 : decode M_Table_add.2.1 17 = .ok (.if_icmp .ge 29, 3) := by decide +kernel
theorem d_Table_add_20 : decode M_Table_add.2.1 20 = .ok (.iload 4, 2) := by decide +kernel
theorem d_Table_add_22 : decode M_Table_add.2.1 22 = .ok (.ifCond .lt 24, 3) := by decide +kernel
theorem d_Table_add_25 : decode M_Table_add.2.1 25 = .ok (.iload 4, 2) := by decide +kernel
theorem d_Table_add_27 : decode M_Table_add.2.1 27 = .ok (.aload_n 0, 1) := by decide +kernel
theorem d_Table_add_28 : decode M_Table_add.2.1 28 = .ok (.getfield 11, 3) := by decide +kernel
theorem d_Table_add_31 : decode M_Table_add.2.1 31 = .ok (.arraylength, 1) := by decide +kernel
theorem d_Table_add_32 : decode M_Table_add.2.1 32 = .ok (.if_icmp .ge 14, 3) := by decide +kernel
theorem d_Table_add_35 : decode M_Table_add.2.1 35 = .ok (.aload_n 0, 1) := by decide +kernel
theorem d_Table_add_36 : decode M_Table_add.2.1 36 = .ok (.getfield 11, 3) := by decide +kernel
theorem d_Table_add_39 : decode M_Table_add.2.1 39 = .ok (.iload 4, 2) := by decide +kernel
theorem d_Table_add_41 : decode M_Table_add.2.1 41 = .ok (.dup2, 1) := by decide +kernel
theorem d_Table_add_42 : decode M_Table_add.2.1 42 = .ok (.iaload, 1) := by decide +kernel
theorem d_Table_add_43 : decode M_Table_add.2.1 43 = .ok (.iload_n 3, 1) := by decide +kernel
theorem d_Table_add_44 : decode M_Table_add.2.1 44 = .ok (.iadd, 1) := by decide +kernel
theorem d_Table_add_45 : decode M_Table_add.2.1 45 = .ok (.iastore, 1) := by decide +kernel
theorem d_Table_add_46 : decode M_Table_add.2.1 46 = .ok (.return_, 1) := by decide +kernel
set_option maxRecDepth 100000 in
set_option maxHeartbeats 4000000 in
theorem c_Table_add {Γ : G9} {h : AH} {z t cap : Nat} {T : TM} {row v : Int32} {c : Nat} (hT : h t = some (tabO t T)) (hA : h (t + 1) = some (aI Γ (cap * 8) T.1)) (hw : T.2 ≤ cap) (hcap : cap ≤ 20) (hc : c < 8) : CallR Γ M_Table_add 0 [.ref t, .int row, .int (nI c), .int v] h z none (hup h (t + 1) (aI Γ (cap * 8) (tsI T row c (tgI T row c + v)).1)) := by
  refine Call.of_go (L := [some (.ref t), some (.int row), some (.int (nI c)), some (.int v), none]) (by decide +kernel) rfl (by exact Nat.le_of_ble_eq_true rfl) ?_
  refine Go.iload_1 d_Table_add_0 rfl ?_
  refine Go.bipush (v := 8) d_Table_add_1 rfl (by decide) ?_
  refine Go.imul d_Table_add_3 rfl ?_
  refine Go.iload_2 d_Table_add_4 rfl ?_
  refine Go.iadd d_Table_add_5 rfl ?_
  refine Go.istore_4 d_Table_add_6 rfl (by rfl) ?_
  refine Go.iload_1 d_Table_add_8 rfl ?_
  refine Go.if_lt (t := 46) d_Table_add_9 (by decide) rfl (fun c9 => ?_) (fun c9 => ?_)
  · refine Go.vret d_Table_add_46 rfl ⟨rfl, by first | rw [tsI_at hj (by omega), tgI_at hj (by omega)] | rw [tsI_lo c9, hup_self hA] | rw [tsI_hi c17, hup_self hA], rfl⟩
  · refine Go.iload_1 d_Table_add_12 rfl ?_
    refine Go.aload_0 d_Table_add_13 rfl ?_
    refine Go.getfield d_Table_add_14 rfl f_Table_15 (by assumption) (by rfl) ?_
    refine Go.icmp_ge (t := 46) d_Table_add_17 (by decide) rfl (fun c17 => ?_) (fun c17 => ?_)
    · refine Go.vret d_Table_add_46 rfl ⟨rfl, by first | rw [tsI_at hj (by omega), tgI_at hj (by omega)] | rw [tsI_lo c9, hup_self hA] | rw [tsI_hi c17, hup_self hA], rfl⟩
    · obtain ⟨j, hj, rfl, hi, hlt, hcl⟩ := tix c9 c17 hw hcap hc
      rw [hi]
      refine Go.iload_4 d_Table_add_20 rfl ?_
      refine Go.if_lt (t := 46) d_Table_add_22 (by decide) rfl (fun c22 => ?_) (fun c22 => ?_)
      · exact absurd c22 (nI_pos (by omega))
      · refine Go.iload_4 d_Table_add_25 rfl ?_
        refine Go.aload_0 d_Table_add_27 rfl ?_
        refine Go.getfield d_Table_add_28 rfl f_Table_11 (by assumption) (by rfl) ?_
        refine Go.alen (n := nI _) d_Table_add_31 rfl (by assumption) (by rfl) rfl ?_
        refine Go.icmp_ge (t := 46) d_Table_add_32 (by decide) rfl (fun c32 => ?_) (fun c32 => ?_)
        · exact absurd c32 (nI_ge hlt (by omega))
        · refine Go.aload_0 d_Table_add_35 rfl ?_
          refine Go.getfield d_Table_add_36 rfl f_Table_11 (by assumption) (by rfl) ?_
          refine Go.iload_4 d_Table_add_39 rfl ?_
          refine Go.dup2 d_Table_add_41 rfl rfl rfl ?_
          refine Go.iaload d_Table_add_42 rfl (by assumption) (vp_in_nI hlt (by omega)) ?_
          rw [nI_clamp (show 8 * j + c < 2 ^ 31 by omega)]
          refine Go.iload_3 d_Table_add_43 rfl ?_
          refine Go.iadd d_Table_add_44 rfl ?_
          refine Go.iastore d_Table_add_45 rfl (by assumption) (vp_in_nI hlt (by omega)) ?_
          rw [nI_clamp (show 8 * j + c < 2 ^ 31 by omega)]
          refine Go.vret d_Table_add_46 rfl ⟨rfl, by first | rw [tsI_at hj (by omega), tgI_at hj (by omega)] | rw [tsI_lo c9, hup_self hA] | rw [tsI_hi c17, hup_self hA], rfl⟩
theorem d_Table_clear_0 : decode M_Table_clear.2.1 0 = .ok (.aload_n 0, 1) := by decide +kernel
theorem d_Table_clear_1 : decode M_Table_clear.2.1 1 = .ok (.iconst 0, 1) := by decide +kernel
theorem d_Table_clear_2 : decode M_Table_clear.2.1 2 = .ok (.putfield 15, 3) := by decide +kernel
theorem d_Table_clear_5 : decode M_Table_clear.2.1 5 = .ok (.return_, 1) := by decide +kernel
set_option maxRecDepth 100000 in
set_option maxHeartbeats 4000000 in
theorem c_Table_clear {Γ : G9} {h : AH} {z t : Nat} {T : TM} (hT : h t = some (tabO t T)) : CallR Γ M_Table_clear 0 [.ref t] h z none (hup h t (tabO t (T.1, 0))) := by
  refine Call.of_go (L := [some (.ref t)]) (by decide +kernel) rfl (by exact Nat.le_of_ble_eq_true rfl) ?_
  refine Go.aload_0 d_Table_clear_0 rfl ?_
  refine Go.iconst (v := 0) d_Table_clear_1 rfl (by decide) ?_
  refine Go.putfield d_Table_clear_2 rfl f_Table_15_p (Or.inl (fun C T N h => by cases h; rfl)) (by assumption) (by exact Nat.le_of_ble_eq_true rfl) rfl rfl ?_
  simp only [List.set_cons_succ, List.set_cons_zero]
  refine Go.vret d_Table_clear_5 rfl ⟨rfl, rfl, rfl⟩
def tsumF (T : TM) (c : Nat) : Nat → Nat → Int32 → Int32
  | 0, _, acc => acc
  | k + 1, i, acc => tsumF T c k (i + 1) (acc + T.1 (8 * i + c))
def tmatF (T : TM) (c1 : Nat) (v1 : Int32) (c2 : Nat) (v2 : Int32) : Nat → Nat → Int32 → Int32
  | 0, _, acc => acc
  | k + 1, i, acc => tmatF T c1 v1 c2 v2 k (i + 1) (if T.1 (8 * i + c1) = v1 ∧ T.1 (8 * i + c2) = v2 then acc + 1 else acc)
theorem d_Table_sum_4 : decode M_Table_sum.2.1 4 = .ok (.iload_n 3, 1) := by decide +kernel
theorem d_Table_sum_5 : decode M_Table_sum.2.1 5 = .ok (.aload_n 0, 1) := by decide +kernel
theorem d_Table_sum_6 : decode M_Table_sum.2.1 6 = .ok (.getfield 15, 3) := by decide +kernel
theorem d_Table_sum_9 : decode M_Table_sum.2.1 9 = .ok (.if_icmp .ge 18, 3) := by decide +kernel
theorem d_Table_sum_27 : decode M_Table_sum.2.1 27 = .ok (.iload_n 2, 1) := by decide +kernel
theorem d_Table_sum_28 : decode M_Table_sum.2.1 28 = .ok (.ireturn, 1) := by decide +kernel
theorem d_Table_sum_12 : decode M_Table_sum.2.1 12 = .ok (.iload_n 2, 1) := by decide +kernel
theorem d_Table_sum_13 : decode M_Table_sum.2.1 13 = .ok (.aload_n 0, 1) := by decide +kernel
theorem d_Table_sum_14 : decode M_Table_sum.2.1 14 = .ok (.iload_n 3, 1) := by decide +kernel
theorem d_Table_sum_15 : decode M_Table_sum.2.1 15 = .ok (.iload_n 1, 1) := by decide +kernel
theorem d_Table_sum_16 : decode M_Table_sum.2.1 16 = .ok (.invokevirtual 19, 3) := by decide +kernel
theorem d_Table_sum_19 : decode M_Table_sum.2.1 19 = .ok (.iadd, 1) := by decide +kernel
theorem d_Table_sum_20 : decode M_Table_sum.2.1 20 = .ok (.istore_n 2, 1) := by decide +kernel
theorem d_Table_sum_21 : decode M_Table_sum.2.1 21 = .ok (.iinc 3 1, 3) := by decide +kernel
theorem d_Table_sum_24 : decode M_Table_sum.2.1 24 = .ok (.goto (-20), 3) := by decide +kernel
set_option maxRecDepth 100000 in
set_option maxHeartbeats 4000000 in
theorem l_Table_sum {Γ : G9} {h : AH} {z t cap : Nat} {T : TM} {c : Nat} (hT : h t = some (tabO t T)) (hA : h (t + 1) = some (aI Γ (cap * 8) T.1)) (hw : T.2 ≤ cap) (hcap : cap ≤ 20) (hc : c < 8) : ∀ (k i : Nat) (acc : Int32), i + k = T.2 → Go Γ M_Table_sum 1 0 0 4 [some (.ref t), some (.int (nI c)), some (.int acc), some (.int (nI i))] [] h z (RQ (some (.int (tsumF T c k i acc))) h z) noX := by
  intro k
  induction k with
  | zero =>
    intro i acc hi
    refine Go.iload_3 d_Table_sum_4 rfl ?_
    refine Go.aload_0 d_Table_sum_5 rfl ?_
    refine Go.getfield d_Table_sum_6 rfl f_Table_15 (by assumption) (by rfl) ?_
    refine Go.icmp_ge (t := 27) d_Table_sum_9 (by decide) rfl (fun c9 => ?_) (fun c9 => ?_)
    · refine Go.iload_2 d_Table_sum_27 rfl ?_
      refine Go.iret d_Table_sum_28 rfl rfl ⟨rfl, rfl, rfl⟩
    · exact absurd (nI_le (by omega) (by omega)) c9
  | succ k ih =>
    intro i acc hi
    refine Go.iload_3 d_Table_sum_4 rfl ?_
    refine Go.aload_0 d_Table_sum_5 rfl ?_
    refine Go.getfield d_Table_sum_6 rfl f_Table_15 (by assumption) (by rfl) ?_
    refine Go.icmp_ge (t := 27) d_Table_sum_9 (by decide) rfl (fun c9 => ?_) (fun c9 => ?_)
    · exact absurd c9 (nI_ge (by omega) (by omega))
    · refine Go.iload_2 d_Table_sum_12 rfl ?_
      refine Go.aload_0 d_Table_sum_13 rfl ?_
      refine Go.iload_3 d_Table_sum_14 rfl ?_
      refine Go.iload_1 d_Table_sum_15 rfl ?_
      refine Go.cv2r d_Table_sum_16 rfl l_Table_19 k_Table_get_v (by assumption) rfl (c_Table_get hT hA hw hcap hc) rfl rfl rfl ?_
      rw [tgI_at (show i < T.2 by omega) (by omega)]
      refine Go.iadd d_Table_sum_19 rfl ?_
      refine Go.istore_2 d_Table_sum_20 rfl (by rfl) ?_
      refine Go.iinc_3 d_Table_sum_21 rfl (by rfl) (nI_inc i) ?_
      refine Go.goto (t := 4) d_Table_sum_24 (by decide) ?_
      exact ih (i + 1) _ (by omega)
theorem d_Table_sum_0 : decode M_Table_sum.2.1 0 = .ok (.iconst 0, 1) := by decide +kernel
theorem d_Table_sum_1 : decode M_Table_sum.2.1 1 = .ok (.istore_n 2, 1) := by decide +kernel
theorem d_Table_sum_2 : decode M_Table_sum.2.1 2 = .ok (.iconst 0, 1) := by decide +kernel
theorem d_Table_sum_3 : decode M_Table_sum.2.1 3 = .ok (.istore_n 3, 1) := by decide +kernel
set_option maxRecDepth 100000 in
set_option maxHeartbeats 4000000 in
theorem c_Table_sum {Γ : G9} {h : AH} {z t cap : Nat} {T : TM} {c : Nat} (hT : h t = some (tabO t T)) (hA : h (t + 1) = some (aI Γ (cap * 8) T.1)) (hw : T.2 ≤ cap) (hcap : cap ≤ 20) (hc : c < 8) : CallR Γ M_Table_sum 1 [.ref t, .int (nI c)] h z (some (.int (tsumF T c T.2 0 0))) h := by
  refine Call.of_go (L := [some (.ref t), some (.int (nI c)), none, none]) (by decide +kernel) rfl (by exact Nat.le_of_ble_eq_true rfl) ?_
  refine Go.iconst (v := 0) d_Table_sum_0 rfl (by decide) ?_
  refine Go.istore_2 d_Table_sum_1 rfl (by rfl) ?_
  refine Go.iconst (v := 0) d_Table_sum_2 rfl (by decide) ?_
  refine Go.istore_3 d_Table_sum_3 rfl (by rfl) ?_
  exact l_Table_sum hT hA hw hcap hc T.2 0 0 (by omega)
theorem d_Table_matches_6 : decode M_Table_matches.2.1 6 = .ok (.iload 6, 2) := by decide +kernel
theorem d_Table_matches_8 : decode M_Table_matches.2.1 8 = .ok (.aload_n 0, 1) := by decide +kernel
theorem d_Table_matches_9 : decode M_Table_matches.2.1 9 = .ok (.getfield 15, 3) := by decide +kernel
theorem d_Table_matches_12 : decode M_Table_matches.2.1 12 = .ok (.if_icmp .ge 35, 3) := by decide +kernel
theorem d_Table_matches_47 : decode M_Table_matches.2.1 47 = .ok (.iload 5, 2) := by decide +kernel
theorem d_Table_matches_49 : decode M_Table_matches.2.1 49 = .ok (.ireturn, 1) := by decide +kernel
theorem d_Table_matches_15 : decode M_Table_matches.2.1 15 = .ok (.aload_n 0, 1) := by decide +kernel
theorem d_Table_matches_16 : decode M_Table_matches.2.1 16 = .ok (.iload 6, 2) := by decide +kernel
theorem d_Table_matches_18 : decode M_Table_matches.2.1 18 = .ok (.iload_n 1, 1) := by decide +kernel
theorem d_Table_matches_19 : decode M_Table_matches.2.1 19 = .ok (.invokevirtual 19, 3) := by decide +kernel
theorem d_Table_matches_22 : decode M_Table_matches.2.1 22 = .ok (.iload_n 2, 1) := by decide +kernel
theorem d_Table_matches_23 : decode M_Table_matches.2.1 23 = .ok (.if_icmp .ne 18, 3) := by decide +kernel
theorem d_Table_matches_26 : decode M_Table_matches.2.1 26 = .ok (.aload_n 0, 1) := by decide +kernel
theorem d_Table_matches_27 : decode M_Table_matches.2.1 27 = .ok (.iload 6, 2) := by decide +kernel
theorem d_Table_matches_29 : decode M_Table_matches.2.1 29 = .ok (.iload_n 3, 1) := by decide +kernel
theorem d_Table_matches_30 : decode M_Table_matches.2.1 30 = .ok (.invokevirtual 19, 3) := by decide +kernel
theorem d_Table_matches_33 : decode M_Table_matches.2.1 33 = .ok (.iload 4, 2) := by decide +kernel
theorem d_Table_matches_35 : decode M_Table_matches.2.1 35 = .ok (.if_icmp .ne 6, 3) := by decide +kernel
theorem d_Table_matches_38 : decode M_Table_matches.2.1 38 = .ok (.iinc 5 1, 3) := by decide +kernel
theorem d_Table_matches_41 : decode M_Table_matches.2.1 41 = .ok (.iinc 6 1, 3) := by decide +kernel
theorem d_Table_matches_44 : decode M_Table_matches.2.1 44 = .ok (.goto (-38), 3) := by decide +kernel
theorem mat_t {P Q : Prop} [Decidable P] [Decidable Q] {x y : Int32} (h1 : P) (h2 : Q) : (if P ∧ Q then x else y) = x := if_pos ⟨h1, h2⟩
theorem mat_f1 {P Q : Prop} [Decidable P] [Decidable Q] {x y : Int32} (h1 : ¬ P) : (if P ∧ Q then x else y) = y := if_neg (fun w => h1 w.1)
theorem mat_f2 {P Q : Prop} [Decidable P] [Decidable Q] {x y : Int32} (h2 : ¬ Q) : (if P ∧ Q then x else y) = y := if_neg (fun w => h2 w.2)
set_option maxRecDepth 100000 in
set_option maxHeartbeats 4000000 in
theorem l_Table_matches {Γ : G9} {h : AH} {z t cap : Nat} {T : TM} {c c2 : Nat} {v v2 : Int32} (hT : h t = some (tabO t T)) (hA : h (t + 1) = some (aI Γ (cap * 8) T.1)) (hw : T.2 ≤ cap) (hcap : cap ≤ 20) (hc : c < 8) (hc2 : c2 < 8) : ∀ (k i : Nat) (acc : Int32), i + k = T.2 → Go Γ M_Table_matches 1 0 0 6 [some (.ref t), some (.int (nI c)), some (.int v), some (.int (nI c2)), some (.int v2), some (.int acc), some (.int (nI i))] [] h z (RQ (some (.int (tmatF T c v c2 v2 k i acc))) h z) noX := by
  intro k
  induction k with
  | zero =>
    intro i acc hi
    refine Go.iload_6 d_Table_matches_6 rfl ?_
    refine Go.aload_0 d_Table_matches_8 rfl ?_
    refine Go.getfield d_Table_matches_9 rfl f_Table_15 (by assumption) (by rfl) ?_
    refine Go.icmp_ge (t := 47) d_Table_matches_12 (by decide) rfl (fun c12 => ?_) (fun c12 => ?_)
    · refine Go.iload_5 d_Table_matches_47 rfl ?_
      refine Go.iret d_Table_matches_49 rfl rfl ⟨rfl, rfl, rfl⟩
    · exact absurd (nI_le (by omega) (by omega)) c12
  | succ k ih =>
    intro i acc hi
    unfold tmatF
    refine Go.iload_6 d_Table_matches_6 rfl ?_
    refine Go.aload_0 d_Table_matches_8 rfl ?_
    refine Go.getfield d_Table_matches_9 rfl f_Table_15 (by assumption) (by rfl) ?_
    refine Go.icmp_ge (t := 47) d_Table_matches_12 (by decide) rfl (fun c12 => ?_) (fun c12 => ?_)
    · exact absurd c12 (nI_ge (by omega) (by omega))
    · refine Go.aload_0 d_Table_matches_15 rfl ?_
      refine Go.iload_6 d_Table_matches_16 rfl ?_
      refine Go.iload_1 d_Table_matches_18 rfl ?_
      refine Go.cv2r d_Table_matches_19 rfl l_Table_19 k_Table_get_v (by assumption) rfl (c_Table_get hT hA hw hcap hc) rfl rfl rfl ?_
      rw [tgI_at (show i < T.2 by omega) (by omega)]
      refine Go.iload_2 d_Table_matches_22 rfl ?_
      refine Go.icmp_ne (t := 41) d_Table_matches_23 (by decide) rfl (fun c23 => ?_) (fun c23 => ?_)
      · refine Go.iinc_6 d_Table_matches_41 rfl (by rfl) (nI_inc i) ?_
        refine Go.goto (t := 6) d_Table_matches_44 (by decide) ?_
        first | (rw [mat_f1 c23]; exact ih (i + 1) _ (by omega)) | (rw [mat_f2 c35]; exact ih (i + 1) _ (by omega)) | (rw [mat_t c23 c35]; exact ih (i + 1) _ (by omega))
      · refine Go.aload_0 d_Table_matches_26 rfl ?_
        refine Go.iload_6 d_Table_matches_27 rfl ?_
        refine Go.iload_3 d_Table_matches_29 rfl ?_
        refine Go.cv2r d_Table_matches_30 rfl l_Table_19 k_Table_get_v (by assumption) rfl (c_Table_get hT hA hw hcap hc2) rfl rfl rfl ?_
        rw [tgI_at (show i < T.2 by omega) (by omega)]
        refine Go.iload_4 d_Table_matches_33 rfl ?_
        refine Go.icmp_ne (t := 41) d_Table_matches_35 (by decide) rfl (fun c35 => ?_) (fun c35 => ?_)
        · refine Go.iinc_6 d_Table_matches_41 rfl (by rfl) (nI_inc i) ?_
          refine Go.goto (t := 6) d_Table_matches_44 (by decide) ?_
          first | (rw [mat_f1 c23]; exact ih (i + 1) _ (by omega)) | (rw [mat_f2 c35]; exact ih (i + 1) _ (by omega)) | (rw [mat_t c23 c35]; exact ih (i + 1) _ (by omega))
        · refine Go.iinc_5 d_Table_matches_38 rfl (by rfl) rfl ?_
          refine Go.iinc_6 d_Table_matches_41 rfl (by rfl) (nI_inc i) ?_
          refine Go.goto (t := 6) d_Table_matches_44 (by decide) ?_
          first | (rw [mat_f1 c23]; exact ih (i + 1) _ (by omega)) | (rw [mat_f2 c35]; exact ih (i + 1) _ (by omega)) | (rw [mat_t c23 c35]; exact ih (i + 1) _ (by omega))
theorem d_Table_matches_0 : decode M_Table_matches.2.1 0 = .ok (.iconst 0, 1) := by decide +kernel
theorem d_Table_matches_1 : decode M_Table_matches.2.1 1 = .ok (.istore 5, 2) := by decide +kernel
theorem d_Table_matches_3 : decode M_Table_matches.2.1 3 = .ok (.iconst 0, 1) := by decide +kernel
theorem d_Table_matches_4 : decode M_Table_matches.2.1 4 = .ok (.istore 6, 2) := by decide +kernel
set_option maxRecDepth 100000 in
set_option maxHeartbeats 4000000 in
theorem c_Table_matches {Γ : G9} {h : AH} {z t cap : Nat} {T : TM} {c c2 : Nat} {v v2 : Int32} (hT : h t = some (tabO t T)) (hA : h (t + 1) = some (aI Γ (cap * 8) T.1)) (hw : T.2 ≤ cap) (hcap : cap ≤ 20) (hc : c < 8) (hc2 : c2 < 8) : CallR Γ M_Table_matches 1 [.ref t, .int (nI c), .int v, .int (nI c2), .int v2] h z (some (.int (tmatF T c v c2 v2 T.2 0 0))) h := by
  refine Call.of_go (L := [some (.ref t), some (.int (nI c)), some (.int v), some (.int (nI c2)), some (.int v2), none, none]) (by decide +kernel) rfl (by exact Nat.le_of_ble_eq_true rfl) ?_
  refine Go.iconst (v := 0) d_Table_matches_0 rfl (by decide) ?_
  refine Go.istore_5 d_Table_matches_1 rfl (by rfl) ?_
  refine Go.iconst (v := 0) d_Table_matches_3 rfl (by decide) ?_
  refine Go.istore_6 d_Table_matches_4 rfl (by rfl) ?_
  exact l_Table_matches hT hA hw hcap hc hc2 T.2 0 0 (by omega)
theorem arr_ext {cI : ClassId} {n : Nat} {f f' : Nat → Value} (h : ∀ j, j < n → f j = f' j) : arrV cI n f = arrV cI n f' := by
  unfold arrV
  have e : (fun j : Fin n => f j.val) = fun j : Fin n => f' j.val := funext fun j => h j.val j.isLt
  rw [e]
/-- an array beyond its end doesn't matter -/
theorem Rp.arr {Γ : G9} {h h' : AH} {H : Heap} (hR : Rp Γ h H) (he : ∀ (a : Nat) (e : va_E), h' a = some e → ∃ e0, h a = some e0 ∧ (e = e0 ∨ ∃ (cA : ClassId) (n : Nat) (f f' : Nat → Int32), e0 = .inl (cA, n, .inl f) ∧ e = .inl (cA, n, .inl f') ∧ ∀ j, j < n → f j = f' j)) : Rp Γ h' H := by
  intro a e ha
  obtain ⟨e0, h0, h1⟩ := he a e ha
  have h2 := hR a e0 h0
  rcases h1 with rfl | ⟨cA, n, f, f', rfl, rfl, hff⟩
  · exact h2
  · refine ⟨h2.1, ?_⟩
    have h3 : H[a]? = some (vp_cell cA (n, .inl f)) := h2.2
    show H[a]? = some (vp_cell cA (n, .inl f'))
    rw [h3, vp_cell_i, vp_cell_i]
    congr 1
    exact arr_ext fun j hj => by rw [hff j hj]
theorem Go.arr {Γ : G9} {M : MI} {d C S pc : Nat} {L : List (Option Value)} {st : List Value} {h : AH} {z : Nat} {Q : QT} {X : XT} {a n : Nat} {f : Nat → Int32} (f' : Nat → Int32) {cA : ClassId} (hf : ∀ j, j < n → f j = f' j) (k : Go Γ M d C S pc L st (hup h a (.inl (cA, n, .inl f'))) z Q X) : Go Γ M d C S pc L st (hup h a (.inl (cA, n, .inl f))) z Q X := by
  intro p e R s m args below meth c H locs cells slots ls Z hc
  refine k _ _ _ _ _ _ _ _ _ _ _ _ _ _ _ ⟨hc.1, hc.2.1, ⟨hc.2.2.1.1, hc.2.2.1.2.1, hc.2.2.1.2.2.1.arr ?_, hc.2.2.1.2.2.2⟩, hc.2.2.2⟩
  intro b e hb
  unfold hup at hb ⊢
  by_cases hba : b = a
  · rw [if_pos hba] at hb
    cases hb
    exact ⟨_, if_pos hba, Or.inr ⟨cA, n, f, f', rfl, rfl, hf⟩⟩
  · rw [if_neg hba] at hb
    exact ⟨e, by rw [if_neg hba]; exact hb, Or.inl rfl⟩
/-- the first i places of f, the others of g -/
def mixF (f g : Nat → Int32) (i : Nat) : Nat → Int32 := fun j => if j < i then f j else g j
theorem mixF_0 (f g : Nat → Int32) : mixF f g 0 = g := by funext j; simp [mixF]
theorem mixF_s (f g : Nat → Int32) (i : Nat) : upd (mixF f g i) i (f i) = mixF f g (i + 1) := by
  funext j
  unfold mixF upd
  by_cases h1 : j = i
  · subst h1; rw [if_pos rfl, if_pos (by omega)]
  · rw [if_neg h1]
    dsimp only
    by_cases h2 : j < i
    · rw [if_pos h2, if_pos (by omega)]
    · rw [if_neg h2, if_neg (by omega)]
theorem mixF_in {f g : Nat → Int32} {i j : Nat} (h : j < i) : mixF f g i j = f j := if_pos h
theorem d_Table_become_2 : decode M_Table_become.2.1 2 = .ok (.iload_n 2, 1) := by decide +kernel
theorem d_Table_become_3 : decode M_Table_become.2.1 3 = .ok (.aload_n 0, 1) := by decide +kernel
theorem d_Table_become_4 : decode M_Table_become.2.1 4 = .ok (.getfield 11, 3) := by decide +kernel
theorem d_Table_become_7 : decode M_Table_become.2.1 7 = .ok (.arraylength, 1) := by decide +kernel
theorem d_Table_become_8 : decode M_Table_become.2.1 8 = .ok (.if_icmp .ge 30, 3) := by decide +kernel
theorem d_Table_become_38 : decode M_Table_become.2.1 38 = .ok (.aload_n 0, 1) := by decide +kernel
theorem d_Table_become_39 : decode M_Table_become.2.1 39 = .ok (.aload_n 1, 1) := by decide +kernel
theorem d_Table_become_40 : decode M_Table_become.2.1 40 = .ok (.getfield 15, 3) := by decide +kernel
theorem d_Table_become_43 : decode M_Table_become.2.1 43 = .ok (.putfield 15, 3) := by decide +kernel
theorem d_Table_become_46 : decode M_Table_become.2.1 46 = .ok (.return_, 1) := by decide +kernel
theorem d_Table_become_11 : decode M_Table_become.2.1 11 = .ok (.iload_n 2, 1) := by decide +kernel
theorem d_Table_become_12 : decode M_Table_become.2.1 12 = .ok (.aload_n 1, 1) := by decide +kernel
theorem d_Table_become_13 : decode M_Table_become.2.1 13 = .ok (.getfield 11, 3) := by decide +kernel
theorem d_Table_become_16 : decode M_Table_become.2.1 16 = .ok (.arraylength, 1) := by decide +kernel
theorem d_Table_become_17 : decode M_Table_become.2.1 17 = .ok (.if_icmp .ge 21, 3) := by decide +kernel
theorem d_Table_become_20 : decode M_Table_become.2.1 20 = .ok (.aload_n 0, 1) := by decide +kernel
theorem d_Table_become_21 : decode M_Table_become.2.1 21 = .ok (.getfield 11, 3) := by decide +kernel
theorem d_Table_become_24 : decode M_Table_become.2.1 24 = .ok (.iload_n 2, 1) := by decide +kernel
theorem d_Table_become_25 : decode M_Table_become.2.1 25 = .ok (.aload_n 1, 1) := by decide +kernel
theorem d_Table_become_26 : decode M_Table_become.2.1 26 = .ok (.getfield 11, 3) := by decide +kernel
theorem d_Table_become_29 : decode M_Table_become.2.1 29 = .ok (.iload_n 2, 1) := by decide +kernel
theorem d_Table_become_30 : decode M_Table_become.2.1 30 = .ok (.iaload, 1) := by decide +kernel
theorem d_Table_become_31 : decode M_Table_become.2.1 31 = .ok (.iastore, 1) := by decide +kernel
theorem d_Table_become_32 : decode M_Table_become.2.1 32 = .ok (.iinc 2 1, 3) := by decide +kernel
theorem d_Table_become_35 : decode M_Table_become.2.1 35 = .ok (.goto (-33), 3) := by decide +kernel
set_option maxRecDepth 100000 in
set_option maxHeartbeats 4000000 in
theorem l_Table_become {Γ : G9} {h : AH} {z t u cap : Nat} {T U : TM} (hT : h t = some (tabO t T)) (hA : h (t + 1) = some (aI Γ (cap * 8) T.1)) (hU : h u = some (tabO u U)) (hB : h (u + 1) = some (aI Γ (cap * 8) U.1)) (hcap : cap ≤ 20) (hd : u + 1 < t ∨ t + 1 < u) : ∀ (k i : Nat), i + k = cap * 8 → Go Γ M_Table_become 0 0 0 2 [some (.ref t), some (.ref u), some (.int (nI i))] [] (hup h (t + 1) (aI Γ (cap * 8) (mixF U.1 T.1 i))) z (RQ none (hup (hup h (t + 1) (aI Γ (cap * 8) U.1)) t (tabO t U)) z) noX := by
  intro k
  induction k with
  | zero =>
    intro i hi
    refine Go.iload_2 d_Table_become_2 rfl ?_
    refine Go.aload_0 d_Table_become_3 rfl ?_
    refine Go.getfield d_Table_become_4 rfl f_Table_11 (by rw [hup_ne (by omega)]; exact hT) (by rfl) ?_
    refine Go.alen (n := nI _) d_Table_become_7 rfl (hup_at) (by rfl) rfl ?_
    refine Go.icmp_ge (t := 38) d_Table_become_8 (by decide) rfl (fun c8 => ?_) (fun c8 => ?_)
    · refine Go.arr U.1 (fun j hj => mixF_in (by omega)) ?_
      refine Go.aload_0 d_Table_become_38 rfl ?_
      refine Go.aload_1 d_Table_become_39 rfl ?_
      refine Go.getfield d_Table_become_40 rfl f_Table_15 (by rw [hup_ne (by omega)]; exact hU) (by rfl) ?_
      refine Go.putfield d_Table_become_43 rfl f_Table_15_p (Or.inl (fun C T N h => by cases h; rfl)) (by rw [hup_ne (by omega)]; exact hT) (by exact Nat.le_of_ble_eq_true rfl) rfl rfl ?_
      simp only [List.set_cons_succ, List.set_cons_zero]
      refine Go.vret d_Table_become_46 rfl ⟨rfl, rfl, rfl⟩
    · exact absurd (nI_le (by omega) (by omega)) c8
  | succ k ih =>
    intro i hi
    refine Go.iload_2 d_Table_become_2 rfl ?_
    refine Go.aload_0 d_Table_become_3 rfl ?_
    refine Go.getfield d_Table_become_4 rfl f_Table_11 (by rw [hup_ne (by omega)]; exact hT) (by rfl) ?_
    refine Go.alen (n := nI _) d_Table_become_7 rfl (hup_at) (by rfl) rfl ?_
    refine Go.icmp_ge (t := 38) d_Table_become_8 (by decide) rfl (fun c8 => ?_) (fun c8 => ?_)
    · exact absurd c8 (nI_ge (by omega) (by omega))
    · refine Go.iload_2 d_Table_become_11 rfl ?_
      refine Go.aload_1 d_Table_become_12 rfl ?_
      refine Go.getfield d_Table_become_13 rfl f_Table_11 (by rw [hup_ne (by omega)]; exact hU) (by rfl) ?_
      refine Go.alen (n := nI _) d_Table_become_16 rfl (by rw [hup_ne (by omega)]; exact hB) (by rfl) rfl ?_
      refine Go.icmp_ge (t := 38) d_Table_become_17 (by decide) rfl (fun c17 => ?_) (fun c17 => ?_)
      · exact absurd c17 (nI_ge (by omega) (by omega))
      · refine Go.aload_0 d_Table_become_20 rfl ?_
        refine Go.getfield d_Table_become_21 rfl f_Table_11 (by rw [hup_ne (by omega)]; exact hT) (by rfl) ?_
        refine Go.iload_2 d_Table_become_24 rfl ?_
        refine Go.aload_1 d_Table_become_25 rfl ?_
        refine Go.getfield d_Table_become_26 rfl f_Table_11 (by rw [hup_ne (by omega)]; exact hU) (by rfl) ?_
        refine Go.iload_2 d_Table_become_29 rfl ?_
        refine Go.iaload d_Table_become_30 rfl (by rw [hup_ne (by omega)]; exact hB) (vp_in_nI (by omega) (by omega)) ?_
        rw [nI_clamp (show i < 2 ^ 31 by omega)]
        refine Go.iastore d_Table_become_31 rfl (hup_at) (vp_in_nI (by omega) (by omega)) ?_
        rw [nI_clamp (show i < 2 ^ 31 by omega), hup_hup, mixF_s]
        refine Go.iinc_2 d_Table_become_32 rfl (by rfl) (nI_inc i) ?_
        refine Go.goto (t := 2) d_Table_become_35 (by decide) ?_
        exact ih (i + 1) (by omega)
theorem d_Table_become_0 : decode M_Table_become.2.1 0 = .ok (.iconst 0, 1) := by decide +kernel
theorem d_Table_become_1 : decode M_Table_become.2.1 1 = .ok (.istore_n 2, 1) := by decide +kernel
set_option maxRecDepth 100000 in
set_option maxHeartbeats 4000000 in
theorem c_Table_become {Γ : G9} {h : AH} {z t u cap : Nat} {T U : TM} (hT : h t = some (tabO t T)) (hA : h (t + 1) = some (aI Γ (cap * 8) T.1)) (hU : h u = some (tabO u U)) (hB : h (u + 1) = some (aI Γ (cap * 8) U.1)) (hcap : cap ≤ 20) (hd : u + 1 < t ∨ t + 1 < u) : CallR Γ M_Table_become 0 [.ref t, .ref u] h z none (hup (hup h (t + 1) (aI Γ (cap * 8) U.1)) t (tabO t U)) := by
  refine Call.of_go (L := [some (.ref t), some (.ref u), none]) (by decide +kernel) rfl (by exact Nat.le_of_ble_eq_true rfl) ?_
  refine Go.iconst (v := 0) d_Table_become_0 rfl (by decide) ?_
  refine Go.istore_2 d_Table_become_1 rfl (by rfl) ?_
  have h0 := l_Table_become hT hA hU hB hcap hd (z := z) (cap * 8) 0 (by omega)
  rw [mixF_0, hup_self hA] at h0
  exact h0
def zeroF (f : Nat → Int32) (a i : Nat) : Nat → Int32 := fun j => if a ≤ j ∧ j < i then 0 else f j
theorem zeroF_0 (f : Nat → Int32) (a : Nat) : zeroF f a a = f := by
  funext j
  unfold zeroF
  rw [if_neg (by omega)]
theorem zeroF_s (f : Nat → Int32) {a i : Nat} (h : a ≤ i) : upd (zeroF f a i) i 0 = zeroF f a (i + 1) := by
  funext j
  unfold zeroF upd
  by_cases h1 : j = i
  · subst h1; rw [if_pos rfl, if_pos ⟨h, by omega⟩]
  · rw [if_neg h1]
    dsimp only
    by_cases h2 : a ≤ j ∧ j < i
    · rw [if_pos h2, if_pos ⟨h2.1, by omega⟩]
    · rw [if_neg h2, if_neg (by omega)]
/-- a table with a new row of zeros, if there is room -/
def taddT (cap : Nat) (T : TM) : TM := if T.2 < cap then (zeroF T.1 (T.2 * 8) (T.2 * 8 + 8), T.2 + 1) else T
def taddR (cap : Nat) (T : TM) : Int32 := if T.2 < cap then nI T.2 else -1
theorem Go.newI {Γ : G9} {M : MI} {d C S pc q : Nat} {L : List (Option Value)} {st : List Value} {h : AH} {z : Nat} {Q : QT} {X : XT} {C1 S1 N : Nat} {n : Int32} (hd : decode M.2.1 pc = .ok (.newarray .int, 2)) (hq : pc + 2 = q) (hn : n = nI N) (hN : N < 2 ^ 20) (hC : C1 + 1 ≤ C) (hS : S1 + N ≤ S) (kk : Go Γ M d C1 S1 q L (.ref z :: st) (hup h z (aI Γ N (fun _ => 0))) (z + 1) Q X) : Go Γ M d C S pc L (.int n :: st) h z Q X := by
  subst hn
  exact Go.newarr (t := 0) (N := N) (a0 := (N, .inl (fun _ => 0))) hd hq q_arr_int rfl (fun c => by intro h; cases h) (fun _ => rfl) (nI_pos (by omega)) (nI_clamp (by omega)) (by show N * 4 ≤ 536870912; omega) hC hS kk
theorem Go.newJ {Γ : G9} {M : MI} {d C S pc q : Nat} {L : List (Option Value)} {st : List Value} {h : AH} {z : Nat} {Q : QT} {X : XT} {C1 S1 N : Nat} {n : Int32} (hd : decode M.2.1 pc = .ok (.newarray .long, 2)) (hq : pc + 2 = q) (hn : n = nI N) (hN : N < 2 ^ 20) (hC : C1 + 1 ≤ C) (hS : S1 + N ≤ S) (kk : Go Γ M d C1 S1 q L (.ref z :: st) (hup h z (aJ Γ N (fun _ => 0))) (z + 1) Q X) : Go Γ M d C S pc L (.int n :: st) h z Q X := by
  subst hn
  exact Go.newarr (t := 1) (N := N) (a0 := (N, .inr (.inl (fun _ => 0)))) hd hq q_arr_long rfl (fun c => by intro h; cases h) (fun _ => rfl) (nI_pos (by omega)) (nI_clamp (by omega)) (by show N * 8 ≤ 536870912; omega) hC hS kk
theorem Go.newB {Γ : G9} {M : MI} {d C S pc q : Nat} {L : List (Option Value)} {st : List Value} {h : AH} {z : Nat} {Q : QT} {X : XT} {C1 S1 N : Nat} {n : Int32} (hd : decode M.2.1 pc = .ok (.newarray .byte, 2)) (hq : pc + 2 = q) (hn : n = nI N) (hN : N < 2 ^ 20) (hC : C1 + 1 ≤ C) (hS : S1 + N ≤ S) (kk : Go Γ M d C1 S1 q L (.ref z :: st) (hup h z (aB Γ N (fun _ => 0))) (z + 1) Q X) : Go Γ M d C S pc L (.int n :: st) h z Q X := by
  subst hn
  exact Go.newarr (t := 2) (N := N) (a0 := (N, .inl (fun _ => 0))) hd hq q_arr_byte rfl (fun c => by intro h; cases h) (fun _ => rfl) (nI_pos (by omega)) (nI_clamp (by omega)) (by show N * 1 ≤ 536870912; omega) hC hS kk
theorem d_Table_addRow_28 : decode M_Table_addRow.2.1 28 = .ok (.iload_n 2, 1) := by decide +kernel
theorem d_Table_addRow_29 : decode M_Table_addRow.2.1 29 = .ok (.iload_n 1, 1) := by decide +kernel
theorem d_Table_addRow_30 : decode M_Table_addRow.2.1 30 = .ok (.bipush 8, 2) := by decide +kernel
theorem d_Table_addRow_32 : decode M_Table_addRow.2.1 32 = .ok (.iadd, 1) := by decide +kernel
theorem d_Table_addRow_33 : decode M_Table_addRow.2.1 33 = .ok (.if_icmp .ge 25, 3) := by decide +kernel
theorem d_Table_addRow_58 : decode M_Table_addRow.2.1 58 = .ok (.aload_n 0, 1) := by decide +kernel
theorem d_Table_addRow_59 : decode M_Table_addRow.2.1 59 = .ok (.dup, 1) := by decide +kernel
theorem d_Table_addRow_60 : decode M_Table_addRow.2.1 60 = .ok (.getfield 15, 3) := by decide +kernel
theorem d_Table_addRow_63 : decode M_Table_addRow.2.1 63 = .ok (.iconst 1, 1) := by decide +kernel
theorem d_Table_addRow_64 : decode M_Table_addRow.2.1 64 = .ok (.iadd, 1) := by decide +kernel
theorem d_Table_addRow_65 : decode M_Table_addRow.2.1 65 = .ok (.putfield 15, 3) := by decide +kernel
theorem d_Table_addRow_68 : decode M_Table_addRow.2.1 68 = .ok (.aload_n 0, 1) := by decide +kernel
theorem d_Table_addRow_69 : decode M_Table_addRow.2.1 69 = .ok (.getfield 15, 3) := by decide +kernel
theorem d_Table_addRow_72 : decode M_Table_addRow.2.1 72 = .ok (.iconst 1, 1) := by decide +kernel
theorem d_Table_addRow_73 : decode M_Table_addRow.2.1 73 = .ok (.isub, 1) := by decide +kernel
theorem d_Table_addRow_74 : decode M_Table_addRow.2.1 74 = .ok (.ireturn, 1) := by decide +kernel
theorem d_Table_addRow_36 : decode M_Table_addRow.2.1 36 = .ok (.iload_n 2, 1) := by decide +kernel
theorem d_Table_addRow_37 : decode M_Table_addRow.2.1 37 = .ok (.aload_n 0, 1) := by decide +kernel
theorem d_Table_addRow_38 : decode M_Table_addRow.2.1 38 = .ok (.getfield 11, 3) := by decide +kernel
theorem d_Table_addRow_41 : decode M_Table_addRow.2.1 41 = .ok (.arraylength, 1) := by decide +kernel
theorem d_Table_addRow_42 : decode M_Table_addRow.2.1 42 = .ok (.if_icmp .ge 16, 3) := by decide +kernel
theorem d_Table_addRow_45 : decode M_Table_addRow.2.1 45 = .ok (.aload_n 0, 1) := by decide +kernel
theorem d_Table_addRow_46 : decode M_Table_addRow.2.1 46 = .ok (.getfield 11, 3) := by decide +kernel
theorem d_Table_addRow_49 : decode M_Table_addRow.2.1 49 = .ok (.iload_n 2, 1) := by decide +kernel
theorem d_Table_addRow_50 : decode M_Table_addRow.2.1 50 = .ok (.iconst 0, 1) := by decide +kernel
theorem d_Table_addRow_51 : decode M_Table_addRow.2.1 51 = .ok (.iastore, 1) := by decide +kernel
theorem d_Table_addRow_52 : decode M_Table_addRow.2.1 52 = .ok (.iinc 2 1, 3) := by decide +kernel
theorem d_Table_addRow_55 : decode M_Table_addRow.2.1 55 = .ok (.goto (-27), 3) := by decide +kernel
set_option maxRecDepth 100000 in
set_option maxHeartbeats 4000000 in
theorem l_Table_addRow {Γ : G9} {h : AH} {z t cap : Nat} {T : TM} (hT : h t = some (tabO t T)) (hA : h (t + 1) = some (aI Γ (cap * 8) T.1)) (hw : T.2 ≤ cap) (hcap : cap ≤ 20) (hr : T.2 < cap) : ∀ (k i : Nat), T.2 * 8 ≤ i → i + k = T.2 * 8 + 8 → Go Γ M_Table_addRow 0 0 0 28 [some (.ref t), some (.int (nI (T.2 * 8))), some (.int (nI i))] [] (hup h (t + 1) (aI Γ (cap * 8) (zeroF T.1 (T.2 * 8) i))) z (RQ (some (.int (nI T.2))) (hup (hup h (t + 1) (aI Γ (cap * 8) (zeroF T.1 (T.2 * 8) (T.2 * 8 + 8)))) t (tabO t (zeroF T.1 (T.2 * 8) (T.2 * 8 + 8), T.2 + 1))) z) noX := by
  intro k
  induction k with
  | zero =>
    intro i hl hi
    refine Go.iload_2 d_Table_addRow_28 rfl ?_
    refine Go.iload_1 d_Table_addRow_29 rfl ?_
    refine Go.bipush (v := 8) d_Table_addRow_30 rfl (by decide) ?_
    refine Go.iadd d_Table_addRow_32 rfl ?_
    rw [nI8, nI_add]
    refine Go.icmp_ge (t := 58) d_Table_addRow_33 (by decide) rfl (fun c33 => ?_) (fun c33 => ?_)
    · obtain rfl : i = T.2 * 8 + 8 := by omega
      refine Go.aload_0 d_Table_addRow_58 rfl ?_
      refine Go.dup d_Table_addRow_59 rfl rfl ?_
      refine Go.getfield d_Table_addRow_60 rfl f_Table_15 (by rw [hup_ne (by omega)]; exact hT) (by rfl) ?_
      refine Go.iconst (v := 1) d_Table_addRow_63 rfl (by decide) ?_
      refine Go.iadd d_Table_addRow_64 rfl ?_
      rw [nI_1]
      refine Go.putfield d_Table_addRow_65 rfl f_Table_15_p (Or.inl (fun C T N h => by cases h; rfl)) (by rw [hup_ne (by omega)]; exact hT) (by exact Nat.le_of_ble_eq_true rfl) rfl rfl ?_
      simp only [List.set_cons_succ, List.set_cons_zero]
      refine Go.aload_0 d_Table_addRow_68 rfl ?_
      refine Go.getfield d_Table_addRow_69 rfl f_Table_15 (hup_at) (by rfl) ?_
      refine Go.iconst (v := 1) d_Table_addRow_72 rfl (by decide) ?_
      refine Go.isub d_Table_addRow_73 rfl ?_
      rw [nI_pred]
      refine Go.iret d_Table_addRow_74 rfl rfl ⟨rfl, rfl, rfl⟩
    · exact absurd (nI_le (by omega) (by omega)) c33
  | succ k ih =>
    intro i hl hi
    refine Go.iload_2 d_Table_addRow_28 rfl ?_
    refine Go.iload_1 d_Table_addRow_29 rfl ?_
    refine Go.bipush (v := 8) d_Table_addRow_30 rfl (by decide) ?_
    refine Go.iadd d_Table_addRow_32 rfl ?_
    rw [nI8, nI_add]
    refine Go.icmp_ge (t := 58) d_Table_addRow_33 (by decide) rfl (fun c33 => ?_) (fun c33 => ?_)
    · exact absurd c33 (nI_ge (by omega) (by omega))
    · refine Go.iload_2 d_Table_addRow_36 rfl ?_
      refine Go.aload_0 d_Table_addRow_37 rfl ?_
      refine Go.getfield d_Table_addRow_38 rfl f_Table_11 (by rw [hup_ne (by omega)]; exact hT) (by rfl) ?_
      refine Go.alen (n := nI _) d_Table_addRow_41 rfl (hup_at) (by rfl) rfl ?_
      refine Go.icmp_ge (t := 58) d_Table_addRow_42 (by decide) rfl (fun c42 => ?_) (fun c42 => ?_)
      · exact absurd c42 (nI_ge (by omega) (by omega))
      · refine Go.aload_0 d_Table_addRow_45 rfl ?_
        refine Go.getfield d_Table_addRow_46 rfl f_Table_11 (by rw [hup_ne (by omega)]; exact hT) (by rfl) ?_
        refine Go.iload_2 d_Table_addRow_49 rfl ?_
        refine Go.iconst (v := 0) d_Table_addRow_50 rfl (by decide) ?_
        refine Go.iastore d_Table_addRow_51 rfl (hup_at) (vp_in_nI (by omega) (by omega)) ?_
        rw [nI_clamp (show i < 2 ^ 31 by omega), hup_hup, zeroF_s _ (by omega)]
        refine Go.iinc_2 d_Table_addRow_52 rfl (by rfl) (nI_inc i) ?_
        refine Go.goto (t := 28) d_Table_addRow_55 (by decide) ?_
        exact ih (i + 1) (by omega) (by omega)
theorem d_Table_addRow_0 : decode M_Table_addRow.2.1 0 = .ok (.aload_n 0, 1) := by decide +kernel
theorem d_Table_addRow_1 : decode M_Table_addRow.2.1 1 = .ok (.getfield 15, 3) := by decide +kernel
theorem d_Table_addRow_4 : decode M_Table_addRow.2.1 4 = .ok (.bipush 8, 2) := by decide +kernel
theorem d_Table_addRow_6 : decode M_Table_addRow.2.1 6 = .ok (.imul, 1) := by decide +kernel
theorem d_Table_addRow_7 : decode M_Table_addRow.2.1 7 = .ok (.istore_n 1, 1) := by decide +kernel
theorem d_Table_addRow_8 : decode M_Table_addRow.2.1 8 = .ok (.iload_n 1, 1) := by decide +kernel
theorem d_Table_addRow_9 : decode M_Table_addRow.2.1 9 = .ok (.ifCond .lt 15, 3) := by decide +kernel
theorem d_Table_addRow_12 : decode M_Table_addRow.2.1 12 = .ok (.iload_n 1, 1) := by decide +kernel
theorem d_Table_addRow_13 : decode M_Table_addRow.2.1 13 = .ok (.aload_n 0, 1) := by decide +kernel
theorem d_Table_addRow_14 : decode M_Table_addRow.2.1 14 = .ok (.getfield 11, 3) := by decide +kernel
theorem d_Table_addRow_17 : decode M_Table_addRow.2.1 17 = .ok (.arraylength, 1) := by decide +kernel
theorem d_Table_addRow_18 : decode M_Table_addRow.2.1 18 = .ok (.bipush 8, 2) := by decide +kernel
theorem d_Table_addRow_20 : decode M_Table_addRow.2.1 20 = .ok (.isub, 1) := by decide +kernel
theorem d_Table_addRow_21 : decode M_Table_addRow.2.1 21 = .ok (.if_icmp .le 5, 3) := by decide +kernel
theorem d_Table_addRow_24 : decode M_Table_addRow.2.1 24 = .ok (.iconst (-1), 1) := by decide +kernel
theorem d_Table_addRow_25 : decode M_Table_addRow.2.1 25 = .ok (.ireturn, 1) := by decide +kernel
theorem d_Table_addRow_26 : decode M_Table_addRow.2.1 26 = .ok (.iload_n 1, 1) := by decide +kernel
theorem d_Table_addRow_27 : decode M_Table_addRow.2.1 27 = .ok (.istore_n 2, 1) := by decide +kernel
set_option maxRecDepth 100000 in
set_option maxHeartbeats 4000000 in
theorem c_Table_addRow {Γ : G9} {h : AH} {z t cap : Nat} {T : TM} (hT : h t = some (tabO t T)) (hA : h (t + 1) = some (aI Γ (cap * 8) T.1)) (hw : T.2 ≤ cap) (hcap : cap ≤ 20) (hc1 : 1 ≤ cap) : CallR Γ M_Table_addRow 0 [.ref t] h z (some (.int (taddR cap T))) (hup (hup h (t + 1) (aI Γ (cap * 8) (taddT cap T).1)) t (tabO t (taddT cap T))) := by
  refine Call.of_go (L := [some (.ref t), none, none]) (by decide +kernel) rfl (by exact Nat.le_of_ble_eq_true rfl) ?_
  refine Go.aload_0 d_Table_addRow_0 rfl ?_
  refine Go.getfield d_Table_addRow_1 rfl f_Table_15 (by assumption) (by rfl) ?_
  refine Go.bipush (v := 8) d_Table_addRow_4 rfl (by decide) ?_
  refine Go.imul d_Table_addRow_6 rfl ?_
  rw [nI8, pk_mul]
  refine Go.istore_1 d_Table_addRow_7 rfl (by rfl) ?_
  refine Go.iload_1 d_Table_addRow_8 rfl ?_
  refine Go.if_lt (t := 24) d_Table_addRow_9 (by decide) rfl (fun c9 => ?_) (fun c9 => ?_)
  · exact absurd c9 (nI_pos (by omega))
  · refine Go.iload_1 d_Table_addRow_12 rfl ?_
    refine Go.aload_0 d_Table_addRow_13 rfl ?_
    refine Go.getfield d_Table_addRow_14 rfl f_Table_11 (by assumption) (by rfl) ?_
    refine Go.alen (n := nI _) d_Table_addRow_17 rfl (by assumption) (by rfl) rfl ?_
    refine Go.bipush (v := 8) d_Table_addRow_18 rfl (by decide) ?_
    refine Go.isub d_Table_addRow_20 rfl ?_
    rw [nI8, pk_sub (show 8 ≤ cap * 8 by omega)]
    refine Go.icmp_le (t := 26) d_Table_addRow_21 (by decide) rfl (fun c21 => ?_) (fun c21 => ?_)
    · have hr : T.2 < cap := by have := (nI_leI (by omega) (by omega)).mp c21; omega
      refine Go.iload_1 d_Table_addRow_26 rfl ?_
      refine Go.istore_2 d_Table_addRow_27 rfl (by rfl) ?_
      have h0 := l_Table_addRow hT hA hw hcap hr (z := z) 8 (T.2 * 8) (by omega) (by omega)
      rw [zeroF_0, hup_self hA] at h0
      unfold taddR taddT
      rw [if_pos hr, if_pos hr]
      exact h0
    · have hr : ¬ T.2 < cap := fun w => c21 ((nI_leI (by omega) (by omega)).mpr (by omega))
      refine Go.iconst (v := (-1)) d_Table_addRow_24 rfl (by decide) ?_
      refine Go.iret d_Table_addRow_25 rfl rfl ⟨by unfold taddR; rw [if_neg hr], by unfold taddT; rw [if_neg hr, hup_self hA, hup_self hT], rfl⟩
theorem d_Table_init_0 : decode M_Table_init.2.1 0 = .ok (.aload_n 0, 1) := by decide +kernel
theorem d_Table_init_1 : decode M_Table_init.2.1 1 = .ok (.invokespecial 3, 3) := by decide +kernel
theorem d_Table_init_4 : decode M_Table_init.2.1 4 = .ok (.aload_n 0, 1) := by decide +kernel
theorem d_Table_init_5 : decode M_Table_init.2.1 5 = .ok (.iload_n 1, 1) := by decide +kernel
theorem d_Table_init_6 : decode M_Table_init.2.1 6 = .ok (.ifCond .le 16, 3) := by decide +kernel
theorem d_Table_init_9 : decode M_Table_init.2.1 9 = .ok (.iload_n 1, 1) := by decide +kernel
theorem d_Table_init_10 : decode M_Table_init.2.1 10 = .ok (.bipush 20, 2) := by decide +kernel
theorem d_Table_init_12 : decode M_Table_init.2.1 12 = .ok (.if_icmp .gt 10, 3) := by decide +kernel
theorem d_Table_init_15 : decode M_Table_init.2.1 15 = .ok (.iload_n 1, 1) := by decide +kernel
theorem d_Table_init_16 : decode M_Table_init.2.1 16 = .ok (.bipush 8, 2) := by decide +kernel
theorem d_Table_init_18 : decode M_Table_init.2.1 18 = .ok (.imul, 1) := by decide +kernel
theorem d_Table_init_19 : decode M_Table_init.2.1 19 = .ok (.goto 4, 3) := by decide +kernel
theorem d_Table_init_23 : decode M_Table_init.2.1 23 = .ok (.newarray .int, 2) := by decide +kernel
theorem d_Table_init_25 : decode M_Table_init.2.1 25 = .ok (.putfield 11, 3) := by decide +kernel
theorem d_Table_init_28 : decode M_Table_init.2.1 28 = .ok (.return_, 1) := by decide +kernel
set_option maxRecDepth 100000 in
set_option maxHeartbeats 4000000 in
theorem c_Table_init {Γ : G9} {h : AH} {z t cap : Nat} (h0 : h t = some (.inr (ci_Table, [.null, .int 0]))) (ht : t < z) (hc1 : 1 ≤ cap) (hcap : cap ≤ 20) : Call Γ M_Table_init 1 1 (cap * 8) [.ref t, .int (nI cap)] h z (fun v h2 z2 => v = none ∧ h2 = hup (hup h z (aI Γ (cap * 8) (fun _ => 0))) t (.inr (ci_Table, [.ref z, .int 0])) ∧ z2 = z + 1) noX := by
  refine Call.of_go (L := [some (.ref t), some (.int (nI cap))]) (by decide +kernel) rfl (by exact Nat.le_of_ble_eq_true rfl) ?_
  refine Go.aload_0 d_Table_init_0 rfl ?_
  refine Go.objInit d_Table_init_1 rfl l_Table_3 q_obj1 q_obj2 (by decide) rfl ?_
  refine Go.aload_0 d_Table_init_4 rfl ?_
  refine Go.iload_1 d_Table_init_5 rfl ?_
  refine Go.if_le (t := 22) d_Table_init_6 (by decide) rfl (fun c6 => ?_) (fun c6 => ?_)
  · exact absurd c6 (nI_nle (by omega) (by omega))
  · refine Go.iload_1 d_Table_init_9 rfl ?_
    refine Go.bipush (v := 20) d_Table_init_10 rfl (by decide) ?_
    refine Go.icmp_gt (t := 22) d_Table_init_12 (by decide) rfl (fun c12 => ?_) (fun c12 => ?_)
    · exact absurd c12 (i_nlt ((nI_leI (b := 20) (by omega) (by omega)).mpr hcap))
    · refine Go.iload_1 d_Table_init_15 rfl ?_
      refine Go.bipush (v := 8) d_Table_init_16 rfl (by decide) ?_
      refine Go.imul d_Table_init_18 rfl ?_
      rw [nI8, pk_mul]
      refine Go.goto (t := 23) d_Table_init_19 (by decide) ?_
      refine Go.newI (C1 := 0) (S1 := 0) d_Table_init_23 rfl rfl (by omega) (by omega) (by omega) ?_
      refine Go.putfield d_Table_init_25 rfl f_Table_11_p (Or.inr ⟨rfl, fun C T N h => by cases h; exact ⟨rfl, rfl⟩⟩) (by rw [hup_ne (by omega)]; exact h0) (by exact Nat.le_of_ble_eq_true rfl) rfl rfl ?_
      simp only [List.set_cons_succ, List.set_cons_zero]
      refine Go.vret d_Table_init_28 rfl ⟨rfl, rfl, rfl⟩
