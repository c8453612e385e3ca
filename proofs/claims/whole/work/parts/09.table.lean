/-! Table: rows of eight numbers -/
abbrev TM : Type := (Nat → Int32) × Nat
def tgI (T : TM) (row : Int32) (c : Nat) : Int32 := if 0 ≤ row ∧ row < nI T.2 then T.1 (8 * row.toNatClampNeg + c) else 0
def tsI (T : TM) (row : Int32) (c : Nat) (v : Int32) : TM := if 0 ≤ row ∧ row < nI T.2 then (upd T.1 (8 * row.toNatClampNeg + c) v, T.2) else T
theorem i_le {x y : Int32} (h : ¬ x < y) : y ≤ x := by
  rw [Int32.le_iff_toInt_le]; rw [Int32.lt_iff_toInt_lt] at h; omega
theorem i_lt {x y : Int32} (h : ¬ x ≤ y) : y < x := by
  rw [Int32.lt_iff_toInt_lt]; rw [Int32.le_iff_toInt_le] at h; omega
theorem i_nlt {x y : Int32} (h : y ≤ x) : ¬ x < y := by
  rw [Int32.le_iff_toInt_le] at h; rw [Int32.lt_iff_toInt_lt]; omega
theorem i_nle {x y : Int32} (h : y < x) : ¬ x ≤ y := by
  rw [Int32.lt_iff_toInt_lt] at h; rw [Int32.le_iff_toInt_le]; omega
theorem tgI_lo {T : TM} {row : Int32} {c : Nat} (h : row < 0) : tgI T row c = 0 := if_neg (fun w => i_nlt w.1 h)
theorem tgI_hi {T : TM} {row : Int32} {c : Nat} (h : nI T.2 ≤ row) : tgI T row c = 0 := if_neg (fun w => i_nlt h w.2)
theorem tsI_lo {T : TM} {row v : Int32} {c : Nat} (h : row < 0) : tsI T row c v = T := if_neg (fun w => i_nlt w.1 h)
theorem tsI_hi {T : TM} {row v : Int32} {c : Nat} (h : nI T.2 ≤ row) : tsI T row c v = T := if_neg (fun w => i_nlt h w.2)
theorem tix {row : Int32} {r cap c : Nat} (h0 : ¬ row < 0) (h1 : ¬ nI r ≤ row) (hr : r ≤ cap) (hcap : cap ≤ 20) (hc : c < 8) : ∃ j, j < r ∧ row = nI j ∧ row * 8 + nI c = nI (8 * j + c) ∧ 8 * j + c < cap * 8 ∧ row.toNatClampNeg = j := by
  obtain ⟨j, hj, rfl⟩ := nI_of h0
  have hjr : j < r := by
    rcases Nat.lt_or_ge j r with h | h
    · exact h
    · exact absurd ((nI_leI (by omega) hj).mpr h) h1
  refine ⟨j, hjr, rfl, ?_, by omega, nI_clamp hj⟩
  rw [nI8, pk_mul, nI_add, Nat.mul_comm]
theorem tgI_at {T : TM} {c j : Nat} (hj : j < T.2) (hT : T.2 < 2 ^ 31) : tgI T (nI j) c = T.1 (8 * j + c) := by
  unfold tgI
  rw [if_pos ⟨nI_pos' (by omega), (nI_ltI (by omega) hT).mpr hj⟩, nI_clamp (by omega)]
theorem tsI_at {T : TM} {c j : Nat} {v : Int32} (hj : j < T.2) (hT : T.2 < 2 ^ 31) : tsI T (nI j) c v = (upd T.1 (8 * j + c) v, T.2) := by
  unfold tsI
  rw [if_pos ⟨nI_pos' (by omega), (nI_ltI (by omega) hT).mpr hj⟩, nI_clamp (by omega)]
theorem tsI_rows {T : TM} {row v : Int32} {c : Nat} : (tsI T row c v).2 = T.2 := by
  unfold tsI
  split <;> rfl
def tabO (t : Nat) (T : TM) : va_E := .inr (ci_Table, [.ref (t + 1), .int (nI T.2)])
theorem d_Table_rows_0 : decode M_Table_rows.2.1 0 = .ok (.aload_n 0, 1) := by decide +kernel
theorem d_Table_rows_1 : decode M_Table_rows.2.1 1 = .ok (.getfield 15, 3) := by decide +kernel
theorem d_Table_rows_4 : decode M_Table_rows.2.1 4 = .ok (.ireturn, 1) := by decide +kernel
set_option maxRecDepth 100000 in
set_option maxHeartbeats 4000000 in
theorem c_Table_rows {Γ : G9} {h : AH} {z t : Nat} {T : TM} (hT : h t = some (tabO t T)) : CallR Γ M_Table_rows 0 [.ref t] h z (some (.int (nI T.2))) h := by
  refine Call.of_go (L := [some (.ref t)]) (by decide +kernel) rfl (by exact Nat.le_of_ble_eq_true rfl) ?_
  refine Go.aload_0 d_Table_rows_0 rfl ?_
  refine Go.getfield d_Table_rows_1 rfl f_Table_15 (by assumption) (by rfl) ?_
  refine Go.iret d_Table_rows_4 rfl rfl ⟨rfl, rfl, rfl⟩
theorem d_Table_has_0 : decode M_Table_has.2.1 0 = .ok (.iload_n 1, 1) := by decide +kernel
theorem d_Table_has_1 : decode M_Table_has.2.1 1 = .ok (.ifCond .lt 15, 3) := by decide +kernel
theorem d_Table_has_4 : decode M_Table_has.2.1 4 = .ok (.iload_n 1, 1) := by decide +kernel
theorem d_Table_has_5 : decode M_Table_has.2.1 5 = .ok (.aload_n 0, 1) := by decide +kernel
theorem d_Table_has_6 : decode M_Table_has.2.1 6 = .ok (.getfield 15, 3) := by decide +kernel
theorem d_Table_has_9 : decode M_Table_has.2.1 9 = .ok (.if_icmp .ge 7, 3) := by decide +kernel
theorem d_Table_has_12 : decode M_Table_has.2.1 12 = .ok (.iconst 1, 1) := by decide +kernel
theorem d_Table_has_13 : decode M_Table_has.2.1 13 = .ok (.goto 4, 3) := by decide +kernel
theorem d_Table_has_16 : decode M_Table_has.2.1 16 = .ok (.iconst 0, 1) := by decide +kernel
theorem d_Table_has_17 : decode M_Table_has.2.1 17 = .ok (.ireturn, 1) := by decide +kernel
set_option maxRecDepth 100000 in
set_option maxHeartbeats 4000000 in
theorem c_Table_has {Γ : G9} {h : AH} {z t : Nat} {T : TM} {row : Int32} (hT : h t = some (tabO t T)) : CallR Γ M_Table_has 0 [.ref t, .int row] h z (some (.int (if 0 ≤ row ∧ row < nI T.2 then 1 else 0))) h := by
  refine Call.of_go (L := [some (.ref t), some (.int row)]) (by decide +kernel) rfl (by exact Nat.le_of_ble_eq_true rfl) ?_
  refine Go.iload_1 d_Table_has_0 rfl ?_
  refine Go.if_lt (t := 16) d_Table_has_1 (by decide) rfl (fun c1 => ?_) (fun c1 => ?_)
  · refine Go.iconst (v := 0) d_Table_has_16 rfl (by decide) ?_
    refine Go.iret d_Table_has_17 rfl rfl ⟨by first | rw [if_pos ⟨i_le c1, i_lt c9⟩] | rw [if_neg (fun w => i_nlt w.1 c1)] | rw [if_neg (fun w => i_nlt c9 w.2)], rfl, rfl⟩
  · refine Go.iload_1 d_Table_has_4 rfl ?_
    refine Go.aload_0 d_Table_has_5 rfl ?_
    refine Go.getfield d_Table_has_6 rfl f_Table_15 (by assumption) (by rfl) ?_
    refine Go.icmp_ge (t := 16) d_Table_has_9 (by decide) rfl (fun c9 => ?_) (fun c9 => ?_)
    · refine Go.iconst (v := 0) d_Table_has_16 rfl (by decide) ?_
      refine Go.iret d_Table_has_17 rfl rfl ⟨by first | rw [if_pos ⟨i_le c1, i_lt c9⟩] | rw [if_neg (fun w => i_nlt w.1 c1)] | rw [if_neg (fun w => i_nlt c9 w.2)], rfl, rfl⟩
    · refine Go.iconst (v := 1) d_Table_has_12 rfl (by decide) ?_
      refine Go.goto (t := 17) d_Table_has_13 (by decide) ?_
      refine Go.iret d_Table_has_17 rfl rfl ⟨by first | rw [if_pos ⟨i_le c1, i_lt c9⟩] | rw [if_neg (fun w => i_nlt w.1 c1)] | rw [if_neg (fun w => i_nlt c9 w.2)], rfl, rfl⟩
theorem d_Table_get_0 : decode M_Table_get.2.1 0 = .ok (.iload_n 1, 1) := by decide +kernel
theorem d_Table_get_1 : decode M_Table_get.2.1 1 = .ok (.bipush 8, 2) := by decide +kernel
theorem d_Table_get_3 : decode M_Table_get.2.1 3 = .ok (.imul, 1) := by decide +kernel
theorem d_Table_get_4 : decode M_Table_get.2.1 4 = .ok (.iload_n 2, 1) := by decide +kernel
theorem d_Table_get_5 : decode M_Table_get.2.1 5 = .ok (.iadd, 1) := by decide +kernel
theorem d_Table_get_6 : decode M_Table_get.2.1 6 = .ok (.istore_n 3, 1) := by decide +kernel
theorem d_Table_get_7 : decode M_Table_get.2.1 7 = .ok (.iload_n 1, 1) := by decide +kernel
theorem d_Table_get_8 : decode M_Table_get.2.1 8 = .ok (.ifCond .lt 33, 3) := by decide +kernel
theorem d_Table_get_11 : decode M_Table_get.2.1 11 = .ok (.iload_n 1, 1) := by decide +kernel
theorem d_Table_get_12 : decode M_Table_get.2.1 12 = .ok (.aload_n 0, 1) := by decide +kernel
theorem d_Table_get_13 : decode M_Table_get.2.1 13 = .ok (.getfield 15, 3) := by decide +kernel
theorem d_Table_get_16 : decode M_Table_get.2.1 16 = .ok (.if_icmp .ge 25, 3) := by decide +kernel
theorem d_Table_get_19 : decode M_Table_get.2.1 19 = .ok (.iload_n 3, 1) := by decide +kernel
theorem d_Table_get_20 : decode M_Table_get.2.1 20 = .ok (.ifCond .lt 21, 3) := by decide +kernel
theorem d_Table_get_23 : decode M_Table_get.2.1 23 = .ok (.iload_n 3, 1) := by decide +kernel
theorem d_Table_get_24 : decode M_Table_get.2.1 24 = .ok (.aload_n 0, 1) := by decide +kernel
theorem d_Table_get_25 : decode M_Table_get.2.1 25 = .ok (.getfield 11, 3) := by decide +kernel
theorem d_Table_get_28 : decode M_Table_get.2.1 28 = .ok (.arraylength, 1) := by decide +kernel
theorem d_Table_get_29 : decode M_Table_get.2.1 29 = .ok (.if_icmp .ge 12, 3) := by decide +kernel
theorem d_Table_get_32 : decode M_Table_get.2.1 32 = .ok (.aload_n 0, 1) := by decide +kernel
theorem d_Table_get_33 : decode M_Table_get.2.1 33 = .ok (.getfield 11, 3) := by decide +kernel
theorem d_Table_get_36 : decode M_Table_get.2.1 36 = .ok (.iload_n 3, 1) := by decide +kernel
theorem d_Table_get_37 : decode M_Table_get.2.1 37 = .ok (.iaload, 1) := by decide +kernel
theorem d_Table_get_38 : decode M_Table_get.2.1 38 = .ok (.goto 4, 3) := by decide +kernel
theorem d_Table_get_41 : decode M_Table_get.2.1 41 = .ok (.iconst 0, 1) := by decide +kernel
theorem d_Table_get_42 : decode M_Table_get.2.1 42 = .ok (.ireturn, 1) := by decide +kernel
set_option maxRecDepth 100000 in
set_option maxHeartbeats 4000000 in
theorem c_Table_get {Γ : G9} {h : AH} {z t cap : Nat} {T : TM} {row : Int32} {c : Nat} (hT : h t = some (tabO t T)) (hA : h (t + 1) = some (aI Γ (cap * 8) T.1)) (hw : T.2 ≤ cap) (hcap : cap ≤ 20) (hc : c < 8) : CallR Γ M_Table_get 0 [.ref t, .int row, .int (nI c)] h z (some (.int (tgI T row c))) h := by
  refine Call.of_go (L := [some (.ref t), some (.int row), some (.int (nI c)), none]) (by decide +kernel) rfl (by exact Nat.le_of_ble_eq_true rfl) ?_
  refine Go.iload_1 d_Table_get_0 rfl ?_
  refine Go.bipush (v := 8) d_Table_get_1 rfl (by decide) ?_
  refine Go.imul d_Table_get_3 rfl ?_
  refine Go.iload_2 d_Table_get_4 rfl ?_
  refine Go.iadd d_Table_get_5 rfl ?_
  refine Go.istore_3 d_Table_get_6 rfl (by rfl) ?_
  refine Go.iload_1 d_Table_get_7 rfl ?_
  refine Go.if_lt (t := 41) d_Table_get_8 (by decide) rfl (fun c8 => ?_) (fun c8 => ?_)
  · refine Go.iconst (v := 0) d_Table_get_41 rfl (by decide) ?_
    refine Go.iret d_Table_get_42 rfl rfl ⟨by first | rw [tgI_at hj (by omega)] | rw [tgI_lo c8] | rw [tgI_hi c16], rfl, rfl⟩
  · refine Go.iload_1 d_Table_get_11 rfl ?_
    refine Go.aload_0 d_Table_get_12 rfl ?_
    refine Go.getfield d_Table_get_13 rfl f_Table_15 (by assumption) (by rfl) ?_
    refine Go.icmp_ge (t := 41) d_Table_get_16 (by decide) rfl (fun c16 => ?_) (fun c16 => ?_)
    · refine Go.iconst (v := 0) d_Table_get_41 rfl (by decide) ?_
      refine Go.iret d_Table_get_42 rfl rfl ⟨by first | rw [tgI_at hj (by omega)] | rw [tgI_lo c8] | rw [tgI_hi c16], rfl, rfl⟩
    · obtain ⟨j, hj, rfl, hi, hlt, hcl⟩ := tix c8 c16 hw hcap hc
      rw [hi]
      refine Go.iload_3 d_Table_get_19 rfl ?_
      refine Go.if_lt (t := 41) d_Table_get_20 (by decide) rfl (fun c20 => ?_) (fun c20 => ?_)
      · exact absurd c20 (nI_pos (by omega))
      · refine Go.iload_3 d_Table_get_23 rfl ?_
        refine Go.aload_0 d_Table_get_24 rfl ?_
        refine Go.getfield d_Table_get_25 rfl f_Table_11 (by assumption) (by rfl) ?_
        refine Go.alen d_Table_get_28 rfl (by assumption) (by rfl) rfl ?_
        refine Go.icmp_ge (t := 41) d_Table_get_29 (by decide) rfl (fun c29 => ?_) (fun c29 => ?_)
        · exact absurd c29 (nI_ge hlt (by omega))
        · refine Go.aload_0 d_Table_get_32 rfl ?_
          refine Go.getfield d_Table_get_33 rfl f_Table_11 (by assumption) (by rfl) ?_
          refine Go.iload_3 d_Table_get_36 rfl ?_
          refine Go.iaload d_Table_get_37 rfl (by assumption) (vp_in_nI hlt (by omega)) ?_
          rw [nI_clamp (show 8 * j + c < 2 ^ 31 by omega)]
          refine Go.goto (t := 42) d_Table_get_38 (by decide) ?_
          refine Go.iret d_Table_get_42 rfl rfl ⟨by first | rw [tgI_at hj (by omega)] | rw [tgI_lo c8] | rw [tgI_hi c16], rfl, rfl⟩
theorem d_Table_set_0 : decode M_Table_set.2.1 0 = .ok (.iload_n 1, 1) := by decide +kernel
theorem d_Table_set_1 : decode M_Table_set.2.1 1 = .ok (.bipush 8, 2) := by decide +kernel
theorem d_Table_set_3 : decode M_Table_set.2.1 3 = .ok (.imul, 1) := by decide +kernel
theorem d_Table_set_4 : decode M_Table_set.2.1 4 = .ok (.iload_n 2, 1) := by decide +kernel
theorem d_Table_set_5 : decode M_Table_set.2.1 5 = .ok (.iadd, 1) := by decide +kernel
theorem d_Table_set_6 : decode M_Table_set.2.1 6 = .ok (.istore 4, 2) := by decide +kernel
theorem d_Table_set_8 : decode M_Table_set.2.1 8 = .ok (.iload_n 1, 1) := by decide +kernel
theorem d_Table_set_9 : decode M_Table_set.2.1 9 = .ok (.ifCond .lt 34, 3) := by decide +kernel
theorem d_Table_set_12 : decode M_Table_set.2.1 12 = .ok (.iload_n 1, 1) := by decide +kernel
theorem d_Table_set_13 : decode M_Table_set.2.1 13 = .ok (.aload_n 0, 1) := by decide +kernel
theorem d_Table_set_14 : decode M_Table_set.2.1 14 = .ok (.getfield 15, 3) := by decide +kernel
theorem d_Table_set_17 : decode M_Table_set.2.1 17 = .ok (.if_icmp .ge 26, 3) := by decide +kernel
theorem d_Table_set_20 : decode M_Table_set.2.1 20 = .ok (.iload 4, 2) := by decide +kernel
theorem d_Table_set_22 : decode M_Table_set.2.1 22 = .ok (.ifCond .lt 21, 3) := by decide +kernel
theorem d_Table_set_25 : decode M_Table_set.2.1 25 = .ok (.iload 4, 2) := by decide +kernel
theorem d_Table_set_27 : decode M_Table_set.2.1 27 = .ok (.aload_n 0, 1) := by decide +kernel
theorem d_Table_set_28 : decode M_Table_set.2.1 28 = .ok (.getfield 11, 3) := by decide +kernel
theorem d_Table_set_31 : decode M_Table_set.2.1 31 = .ok (.arraylength, 1) := by decide +kernel
theorem d_Table_set_32 : decode M_Table_set.2.1 32 = .ok (.if_icmp .ge 11, 3) := by decide +kernel
theorem d_Table_set_35 : decode M_Table_set.2.1 35 = .ok (.aload_n 0, 1) := by decide +kernel
theorem d_Table_set_36 : decode M_Table_set.2.1 36 = .ok (.getfield 11, 3) := by decide +kernel
theorem d_Table_set_39 : decode M_Table_set.2.1 39 = .ok (.iload 4, 2) := by decide +kernel
theorem d_Table_set_41 : decode M_Table_set.2.1 41 = .ok (.iload_n 3, 1) := by decide +kernel
theorem d_Table_set_42 : decode M_Table_set.2.1 42 = .ok (.iastore, 1) := by decide +kernel
theorem d_Table_set_43 : decode M_Table_set.2.1 43 = .ok (.return_, 1) := by decide +kernel
set_option maxRecDepth 100000 in
set_option maxHeartbeats 4000000 in
theorem c_Table_set {Γ : G9} {h : AH} {z t cap : Nat} {T : TM} {row v : Int32} {c : Nat} (hT : h t = some (tabO t T)) (hA : h (t + 1) = some (aI Γ (cap * 8) T.1)) (hw : T.2 ≤ cap) (hcap : cap ≤ 20) (hc : c < 8) : CallR Γ M_Table_set 0 [.ref t, .int row, .int (nI c), .int v] h z none (hup h (t + 1) (aI Γ (cap * 8) (tsI T row c v).1)) := by
  refine Call.of_go (L := [some (.ref t), some (.int row), some (.int (nI c)), some (.int v), none]) (by decide +kernel) rfl (by exact Nat.le_of_ble_eq_true rfl) ?_
  refine Go.iload_1 d_Table_set_0 rfl ?_
  refine Go.bipush (v := 8) d_Table_set_1 rfl (by decide) ?_
  refine Go.imul d_Table_set_3 rfl ?_
  refine Go.iload_2 d_Table_set_4 rfl ?_
  refine Go.iadd d_Table_set_5 rfl ?_
  refine Go.istore_4 d_Table_set_6 rfl (by rfl) ?_
  refine Go.iload_1 d_Table_set_8 rfl ?_
  refine Go.if_lt (t := 43) d_Table_set_9 (by decide) rfl (fun c9 => ?_) (fun c9 => ?_)
  · refine Go.vret d_Table_set_43 rfl ⟨rfl, by first | rw [tsI_at hj (by omega)] | rw [tsI_lo c9, hup_self hA] | rw [tsI_hi c17, hup_self hA], rfl⟩
  · refine Go.iload_1 d_Table_set_12 rfl ?_
    refine Go.aload_0 d_Table_set_13 rfl ?_
    refine Go.getfield d_Table_set_14 rfl f_Table_15 (by assumption) (by rfl) ?_
    refine Go.icmp_ge (t := 43) d_Table_set_17 (by decide) rfl (fun c17 => ?_) (fun c17 => ?_)
    · refine Go.vret d_Table_set_43 rfl ⟨rfl, by first | rw [tsI_at hj (by omega)] | rw [tsI_lo c9, hup_self hA] | rw [tsI_hi c17, hup_self hA], rfl⟩
    · obtain ⟨j, hj, rfl, hi, hlt, hcl⟩ := tix c9 c17 hw hcap hc
      rw [hi]
      refine Go.iload_4 d_Table_set_20 rfl ?_
      refine Go.if_lt (t := 43) d_Table_set_22 (by decide) rfl (fun c22 => ?_) (fun c22 => ?_)
      · exact absurd c22 (nI_pos (by omega))
      · refine Go.iload_4 d_Table_set_25 rfl ?_
        refine Go.aload_0 d_Table_set_27 rfl ?_
        refine Go.getfield d_Table_set_28 rfl f_Table_11 (by assumption) (by rfl) ?_
        refine Go.alen d_Table_set_31 rfl (by assumption) (by rfl) rfl ?_
        refine Go.icmp_ge (t := 43) d_Table_set_32 (by decide) rfl (fun c32 => ?_) (fun c32 => ?_)
        · exact absurd c32 (nI_ge hlt (by omega))
        · refine Go.aload_0 d_Table_set_35 rfl ?_
          refine Go.getfield d_Table_set_36 rfl f_Table_11 (by assumption) (by rfl) ?_
          refine Go.iload_4 d_Table_set_39 rfl ?_
          refine Go.iload_3 d_Table_set_41 rfl ?_
          refine Go.iastore d_Table_set_42 rfl (by assumption) (vp_in_nI hlt (by omega)) ?_
          rw [nI_clamp (show 8 * j + c < 2 ^ 31 by omega)]
          refine Go.vret d_Table_set_43 rfl ⟨rfl, by first | rw [tsI_at hj (by omega)] | rw [tsI_lo c9, hup_self hA] | rw [tsI_hi c17, hup_self hA], rfl⟩
theorem d_Table_add_0 : decode M_Table_add.2.1 0 = .ok (.iload_n 1, 1) := by decide +kernel
theorem d_Table_add_1 : decode M_Table_add.2.1 1 = .ok (.bipush 8, 2) := by decide +kernel
theorem d_Table_add_3 : decode M_Table_add.2.1 3 = .ok (.imul, 1) := by decide +kernel
theorem d_Table_add_4 : decode M_Table_add.2.1 4 = .ok (.iload_n 2, 1) := by decide +kernel
theorem d_Table_add_5 : decode M_Table_add.2.1 5 = .ok (.iadd, 1) := by decide +kernel
theorem d_Table_add_6 : decode M_Table_add.2.1 6 = .ok (.istore 4, 2) := by decide +kernel
theorem d_Table_add_8 : decode M_Table_add.2.1 8 = .ok (.iload_n 1, 1) := by decide +kernel
theorem d_Table_add_9 : decode M_Table_add.2.1 9 = .ok (.ifCond .lt 37, 3) := by decide +kernel
theorem d_Table_add_12 : decode M_Table_add.2.1 12 = .ok (.iload_n 1, 1) := by decide +kernel
theorem d_Table_add_13 : decode M_Table_add.2.1 13 = .ok (.aload_n 0, 1) := by decide +kernel
theorem d_Table_add_14 : decode M_Table_add.2.1 14 = .ok (.getfield 15, 3) := by decide +kernel
theorem d_Table_add_17 : decode M_Table_add.2.1 17 = .ok (.if_icmp .ge 29, 3) := by decide +kernel
theorem d_Table_add_20 : decode M_Table_add.2.1 20 = .ok (.iload 4, 2) := by decide +kernel
theorem d_Table_add_22 : decode M_Table_add.2.1 22 = .ok (.ifCond .lt 24, 3) := by decide +kernel
theorem d_Table_add_25 : decode M_Table_add.2.1 25 = .ok (.iload 4, 2) := by decide +kernel
theorem d_Table_add_27 : decode M_Table_add.2.1 27 = .ok (.aload_n 0, 1) := by decide +kernel
theorem d_Table_add_28 : decode M_Table_add.2.1 28 = .ok (.getfield 11, 3) := by decide +kernel
theorem d_Table_add_31 : decode M_Table_add.2.1 31 = .ok (.arraylength, 1) := by decide +kernel
theorem d_Table_add_32 : decode M_Table_add.2.1 32 = .ok (.if_icmp .ge 14, 3) := by decide +kernel
theorem d_Table_add_35 : decode M_Table_add.2.1 35 = .ok (.aload_n 0, 1) := by decide +kernel
theorem d_Table_add_36 : decode M_Table_add.2.1 36 = .ok (.getfield 11, 3) := by decide +kernel
theorem d_Table_add_39 : decode M_Table_add.2.1 39 = .ok (.iload 4, 2) := by decide +kernel
theorem d_Table_add_41 : decode M_Table_add.2.1 41 = .ok (.dup2, 1) := by decide +kernel
theorem d_Table_add_42 : decode M_Table_add.2.1 42 = .ok (.iaload, 1) := by decide +kernel
theorem d_Table_add_43 : decode M_Table_add.2.1 43 = .ok (.iload_n 3, 1) := by decide +kernel
theorem d_Table_add_44 : decode M_Table_add.2.1 44 = .ok (.iadd, 1) := by decide +kernel
theorem d_Table_add_45 : decode M_Table_add.2.1 45 = .ok (.iastore, 1) := by decide +kernel
theorem d_Table_add_46 : decode M_Table_add.2.1 46 = .ok (.return_, 1) := by decide +kernel
set_option maxRecDepth 100000 in
set_option maxHeartbeats 4000000 in
theorem c_Table_add {Γ : G9} {h : AH} {z t cap : Nat} {T : TM} {row v : Int32} {c : Nat} (hT : h t = some (tabO t T)) (hA : h (t + 1) = some (aI Γ (cap * 8) T.1)) (hw : T.2 ≤ cap) (hcap : cap ≤ 20) (hc : c < 8) : CallR Γ M_Table_add 0 [.ref t, .int row, .int (nI c), .int v] h z none (hup h (t + 1) (aI Γ (cap * 8) (tsI T row c (tgI T row c + v)).1)) := by
  refine Call.of_go (L := [some (.ref t), some (.int row), some (.int (nI c)), some (.int v), none]) (by decide +kernel) rfl (by exact Nat.le_of_ble_eq_true rfl) ?_
  refine Go.iload_1 d_Table_add_0 rfl ?_
  refine Go.bipush (v := 8) d_Table_add_1 rfl (by decide) ?_
  refine Go.imul d_Table_add_3 rfl ?_
  refine Go.iload_2 d_Table_add_4 rfl ?_
  refine Go.iadd d_Table_add_5 rfl ?_
  refine Go.istore_4 d_Table_add_6 rfl (by rfl) ?_
  refine Go.iload_1 d_Table_add_8 rfl ?_
  refine Go.if_lt (t := 46) d_Table_add_9 (by decide) rfl (fun c9 => ?_) (fun c9 => ?_)
  · refine Go.vret d_Table_add_46 rfl ⟨rfl, by first | rw [tsI_at hj (by omega), tgI_at hj (by omega)] | rw [tsI_lo c9, hup_self hA] | rw [tsI_hi c17, hup_self hA], rfl⟩
  · refine Go.iload_1 d_Table_add_12 rfl ?_
    refine Go.aload_0 d_Table_add_13 rfl ?_
    refine Go.getfield d_Table_add_14 rfl f_Table_15 (by assumption) (by rfl) ?_
    refine Go.icmp_ge (t := 46) d_Table_add_17 (by decide) rfl (fun c17 => ?_) (fun c17 => ?_)
    · refine Go.vret d_Table_add_46 rfl ⟨rfl, by first | rw [tsI_at hj (by omega), tgI_at hj (by omega)] | rw [tsI_lo c9, hup_self hA] | rw [tsI_hi c17, hup_self hA], rfl⟩
    · obtain ⟨j, hj, rfl, hi, hlt, hcl⟩ := tix c9 c17 hw hcap hc
      rw [hi]
      refine Go.iload_4 d_Table_add_20 rfl ?_
      refine Go.if_lt (t := 46) d_Table_add_22 (by decide) rfl (fun c22 => ?_) (fun c22 => ?_)
      · exact absurd c22 (nI_pos (by omega))
      · refine Go.iload_4 d_Table_add_25 rfl ?_
        refine Go.aload_0 d_Table_add_27 rfl ?_
        refine Go.getfield d_Table_add_28 rfl f_Table_11 (by assumption) (by rfl) ?_
        refine Go.alen d_Table_add_31 rfl (by assumption) (by rfl) rfl ?_
        refine Go.icmp_ge (t := 46) d_Table_add_32 (by decide) rfl (fun c32 => ?_) (fun c32 => ?_)
        · exact absurd c32 (nI_ge hlt (by omega))
        · refine Go.aload_0 d_Table_add_35 rfl ?_
          refine Go.getfield d_Table_add_36 rfl f_Table_11 (by assumption) (by rfl) ?_
          refine Go.iload_4 d_Table_add_39 rfl ?_
          refine Go.dup2 d_Table_add_41 rfl rfl rfl ?_
          refine Go.iaload d_Table_add_42 rfl (by assumption) (vp_in_nI hlt (by omega)) ?_
          rw [nI_clamp (show 8 * j + c < 2 ^ 31 by omega)]
          refine Go.iload_3 d_Table_add_43 rfl ?_
          refine Go.iadd d_Table_add_44 rfl ?_
          refine Go.iastore d_Table_add_45 rfl (by assumption) (vp_in_nI hlt (by omega)) ?_
          rw [nI_clamp (show 8 * j + c < 2 ^ 31 by omega)]
          refine Go.vret d_Table_add_46 rfl ⟨rfl, by first | rw [tsI_at hj (by omega), tgI_at hj (by omega)] | rw [tsI_lo c9, hup_self hA] | rw [tsI_hi c17, hup_self hA], rfl⟩
theorem d_Table_clear_0 : decode M_Table_clear.2.1 0 = .ok (.aload_n 0, 1) := by decide +kernel
theorem d_Table_clear_1 : decode M_Table_clear.2.1 1 = .ok (.iconst 0, 1) := by decide +kernel
theorem d_Table_clear_2 : decode M_Table_clear.2.1 2 = .ok (.putfield 15, 3) := by decide +kernel
theorem d_Table_clear_5 : decode M_Table_clear.2.1 5 = .ok (.return_, 1) := by decide +kernel
set_option maxRecDepth 100000 in
set_option maxHeartbeats 4000000 in
theorem c_Table_clear {Γ : G9} {h : AH} {z t : Nat} {T : TM} (hT : h t = some (tabO t T)) : CallR Γ M_Table_clear 0 [.ref t] h z none (hup h t (tabO t (T.1, 0))) := by
  refine Call.of_go (L := [some (.ref t)]) (by decide +kernel) rfl (by exact Nat.le_of_ble_eq_true rfl) ?_
  refine Go.aload_0 d_Table_clear_0 rfl ?_
  refine Go.iconst (v := 0) d_Table_clear_1 rfl (by decide) ?_
  refine Go.putfield d_Table_clear_2 rfl f_Table_15_p (Or.inl (fun C T N h => by cases h; rfl)) (by assumption) (by exact Nat.le_of_ble_eq_true rfl) rfl rfl ?_
  simp only [List.set_cons_succ, List.set_cons_zero]
  refine Go.vret d_Table_clear_5 rfl ⟨rfl, rfl, rfl⟩
