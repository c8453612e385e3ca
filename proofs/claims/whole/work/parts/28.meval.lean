/-! the reference: what tests and sums are worth, told where every place read lies within its row -/
def okI (i : Int32) (n : Nat) : Bool := !decide (i < 0) && decide (i.toNatClampNeg < n)
theorem okI_in {i : Int32} {n : Nat} (h : okI i n = true) : vp_in i n := by
  unfold okI at h
  simp only [Bool.and_eq_true, Bool.not_eq_true', decide_eq_false_iff_not, decide_eq_true_eq] at h
  exact fun w => w.elim h.1 (fun w2 => absurd h.2 (Nat.not_lt.mpr w2))
def b01 (x : Int32) : Bool := decide (x = 0) || decide (x = 1)
theorem b01_or {x : Int32} (h : b01 x = true) : x = 0 ∨ x = 1 := by
  unfold b01 at h
  simpa using h
def lsne (x : Int32) : List Int32 → Prop
  | [] => True
  | v :: t => ¬ x = v ∧ lsne x t
theorem lsw_d {x : Int32} {dflt : Int} : ∀ (vs : List Int32) {ps : List (Int × Int)}, ps.map Prod.fst = vs.map Int32.toInt → lsne x vs → Op.lookupswitch.offset ps dflt x.toInt = dflt
  | [], [], _, _ => rfl
  | v :: t, (a, o) :: r, e, h => by
    have e1 : a = v.toInt := (List.cons.inj e).1
    have e2 : r.map Prod.fst = t.map Int32.toInt := (List.cons.inj e).2
    rw [Op.lookupswitch.offset_cons, if_neg (fun w => h.1 (Int32.toInt_inj.mp (w.symm.trans e1))), lsw_d t e2 h.2]
  | [], _ :: _, e, _ => by cases e
  | _ :: _, [], e, _ => by cases e
abbrev EV : Type := Nat → MO → Option (Int32 × MO)
theorem mr_at_m {Γ : G9} {h : AH} {m q r sa sb : Nat} {M : MO} {H : SH} {Y : SX} (geo : m + 2 ≤ q ∧ m + 2 ≤ r ∧ (q + 24 ≤ r ∨ r + 21 ≤ q)) (hB : sh_ha H 0 ≤ 5) (hS : sh_ha H 3 ≤ 6) (hC : sh_ha H 6 ≤ 4) (hD : sh_ha H 9 ≤ 4) (hE : sh_ha H 11 ≤ 4) : (md_ Γ h m q r sa sb r M H Y) m = some (.inr (11, [.int (mo_th M), .ref (m + 1), .int (nI (mo_sz M)), .int (mo_ea M), .int (nI (mo_tk M)), .int (nI (mo_dp M)), .ref q, .ref sa, .ref sb, .int (mo_wk M), .ref r])) := by
  unfold md_
  exact ((blk_out (by omega)).trans ((blk_out (by omega)).trans (mo_g0)))
theorem mr_at_q {Γ : G9} {h : AH} {m q r sa sb : Nat} {M : MO} {H : SH} {Y : SX} (geo : m + 2 ≤ q ∧ m + 2 ≤ r ∧ (q + 24 ≤ r ∨ r + 21 ≤ q)) (hB : sh_ha H 0 ≤ 5) (hS : sh_ha H 3 ≤ 6) (hC : sh_ha H 6 ≤ 4) (hD : sh_ha H 9 ≤ 4) (hE : sh_ha H 11 ≤ 4) : (md_ Γ h m q r sa sb r M H Y) q = some (.inr (9, [.ref (q + 1), .ref (q + 2), .ref (q + 3), .ref (q + 4), .ref (q + 5), .ref (q + 6), .int (sh_ln H), .ref (q + 7), .ref (q + 8), .ref (q + 9), .ref (q + 10), .ref (q + 11), .ref (q + 12), .ref (q + 13), .ref (q + 14), .ref (q + 15), .ref (q + 16), .ref (q + 17), .ref (q + 18), .int (sh_dt H), .int (nI (sh_or H)), .ref (q + 19), .ref (q + 20), .ref (q + 21), .ref (q + 22), .ref (q + 23)])) := by
  unfold md_
  exact ((blk_out (by omega)).trans (sh_g0))
theorem mr_at_q_1 {Γ : G9} {h : AH} {m q r sa sb : Nat} {M : MO} {H : SH} {Y : SX} (geo : m + 2 ≤ q ∧ m + 2 ≤ r ∧ (q + 24 ≤ r ∨ r + 21 ≤ q)) (hB : sh_ha H 0 ≤ 5) (hS : sh_ha H 3 ≤ 6) (hC : sh_ha H 6 ≤ 4) (hD : sh_ha H 9 ≤ 4) (hE : sh_ha H 11 ≤ 4) : (md_ Γ h m q r sa sb r M H Y) (q + 1) = some (aI Γ 401 (sh_kd H)) := by
  unfold md_
  exact ((blk_out (by omega)).trans (sh_g1))
theorem mr_put_m_walk {Γ : G9} {h : AH} {m q r sa sb : Nat} {M : MO} {H : SH} {Y : SX} {v : Int32} (geo : m + 2 ≤ q ∧ m + 2 ≤ r ∧ (q + 24 ≤ r ∨ r + 21 ≤ q)) (hB : sh_ha H 0 ≤ 5) (hS : sh_ha H 3 ≤ 6) (hC : sh_ha H 6 ≤ 4) (hD : sh_ha H 9 ≤ 4) (hE : sh_ha H 11 ≤ 4) : hup (md_ Γ h m q r sa sb r M H Y) m (.inr (11, [.int (mo_th M), .ref (m + 1), .int (nI (mo_sz M)), .int (mo_ea M), .int (nI (mo_tk M)), .int (nI (mo_dp M)), .ref q, .ref sa, .ref sb, .int (mo_wk M), .ref r].set 9 (.int v))) = (md_ Γ h m q r sa sb r (mo_wk' M v) H Y) := by
  unfold md_
  exact ((hup_blk (by omega)).trans (blk_in ((hup_blk (by omega)).trans (blk_in (mo_p_wk (v := v))))))
theorem d_Model_goesBy_0 : decode M_Model_goesBy.2.1 0 = .ok (.aload_n 0, 1) := by decide +kernel
theorem d_Model_goesBy_1 : decode M_Model_goesBy.2.1 1 = .ok (.getfield 20, 3) := by decide +kernel
theorem d_Model_goesBy_4 : decode M_Model_goesBy.2.1 4 = .ok (.getfield 93, 3) := by decide +kernel
theorem d_Model_goesBy_7 : decode M_Model_goesBy.2.1 7 = .ok (.aload_n 0, 1) := by decide +kernel
theorem d_Model_goesBy_8 : decode M_Model_goesBy.2.1 8 = .ok (.getfield 261, 3) := by decide +kernel
theorem d_Model_goesBy_11 : decode M_Model_goesBy.2.1 11 = .ok (.iaload, 1) := by decide +kernel
theorem d_Model_goesBy_12 : decode M_Model_goesBy.2.1 12 = .ok (.iload_n 1, 1) := by decide +kernel
theorem d_Model_goesBy_13 : decode M_Model_goesBy.2.1 13 = .ok (.if_icmp .eq 5, 3) := by decide +kernel
theorem d_Model_goesBy_16 : decode M_Model_goesBy.2.1 16 = .ok (.iconst 0, 1) := by decide +kernel
theorem d_Model_goesBy_17 : decode M_Model_goesBy.2.1 17 = .ok (.ireturn, 1) := by decide +kernel
theorem d_Model_goesBy_18 : decode M_Model_goesBy.2.1 18 = .ok (.aload_n 0, 1) := by decide +kernel
theorem d_Model_goesBy_19 : decode M_Model_goesBy.2.1 19 = .ok (.dup, 1) := by decide +kernel
theorem d_Model_goesBy_20 : decode M_Model_goesBy.2.1 20 = .ok (.getfield 261, 3) := by decide +kernel
theorem d_Model_goesBy_23 : decode M_Model_goesBy.2.1 23 = .ok (.iconst 1, 1) := by decide +kernel
theorem d_Model_goesBy_24 : decode M_Model_goesBy.2.1 24 = .ok (.iadd, 1) := by decide +kernel
theorem d_Model_goesBy_25 : decode M_Model_goesBy.2.1 25 = .ok (.putfield 261, 3) := by decide +kernel
theorem d_Model_goesBy_28 : decode M_Model_goesBy.2.1 28 = .ok (.iconst 1, 1) := by decide +kernel
theorem d_Model_goesBy_29 : decode M_Model_goesBy.2.1 29 = .ok (.ireturn, 1) := by decide +kernel
def s_Model_goesBy (H : SH) (x1 : Int32) (M : MO) : Option (Int32 × MO) := (if okI (mo_wk M) 401 = true then (if ((sh_kd H) (mo_wk M).toNatClampNeg) = x1 then some (1, (mo_wk' M ((mo_wk M) + 1))) else some (0, M)) else none)
set_option maxRecDepth 100000 in
set_option maxHeartbeats 4000000 in
theorem c_Model_goesBy {Γ : G9} {h : AH} {m q r sa sb z : Nat} {M : MO} {H : SH} {Y : SX} {x1 : Int32} {p : Int32 × MO} (geo : m + 2 ≤ q ∧ m + 2 ≤ r ∧ (q + 24 ≤ r ∨ r + 21 ≤ q)) (hB : sh_ha H 0 ≤ 5) (hS : sh_ha H 3 ≤ 6) (hC : sh_ha H 6 ≤ 4) (hD : sh_ha H 9 ≤ 4) (hE : sh_ha H 11 ≤ 4) (hr : s_Model_goesBy H x1 M = some p) : CallR Γ M_Model_goesBy 0 [.ref m, .int x1] (md_ Γ h m q r sa sb r M H Y) z (some (.int p.1)) (md_ Γ h m q r sa sb r p.2 H Y) := by
  refine Call.of_go (L := [some (.ref m), some (.int x1)]) (by decide +kernel) rfl (by exact Nat.le_of_ble_eq_true rfl) ?_
  unfold s_Model_goesBy at hr
  refine Go.aload_0 d_Model_goesBy_0 rfl ?_
  refine Go.getfield d_Model_goesBy_1 rfl f_Model_20 (mr_at_m (by omega) hB hS hC hD hE) (by rfl) ?_
  refine Go.getfield d_Model_goesBy_4 rfl f_Model_93 (mr_at_q (by omega) hB hS hC hD hE) (by rfl) ?_
  refine Go.aload_0 d_Model_goesBy_7 rfl ?_
  refine Go.getfield d_Model_goesBy_8 rfl f_Model_261 (mr_at_m (by omega) hB hS hC hD hE) (by rfl) ?_
  have o11_1 : okI (mo_wk M) 401 = true := Classical.byContradiction fun w => by
    rw [if_neg w] at hr
    cases hr
  refine Go.iaload d_Model_goesBy_11 rfl (mr_at_q_1 (by omega) hB hS hC hD hE) (okI_in o11_1) ?_
  refine Go.iload_1 d_Model_goesBy_12 rfl ?_
  refine Go.icmp_eq (t := 18) d_Model_goesBy_13 (by decide) rfl (fun c13_2 => ?_) (fun c13_2 => ?_)
  · refine Go.aload_0 d_Model_goesBy_18 rfl ?_
    refine Go.dup d_Model_goesBy_19 rfl rfl ?_
    refine Go.getfield d_Model_goesBy_20 rfl f_Model_261 (mr_at_m (by omega) hB hS hC hD hE) (by rfl) ?_
    refine Go.iconst (v := 1) d_Model_goesBy_23 rfl (by decide) ?_
    refine Go.iadd d_Model_goesBy_24 rfl ?_
    refine Go.putfield d_Model_goesBy_25 rfl f_Model_261_p (Or.inl (fun C T N h => by cases h; rfl)) (mr_at_m (by omega) hB hS hC hD hE) (by exact Nat.le_of_ble_eq_true rfl) rfl rfl ?_
    refine Go.heq (mr_put_m_walk (by omega) hB hS hC hD hE) ?_
    refine Go.iconst (v := 1) d_Model_goesBy_28 rfl (by decide) ?_
    rw [if_pos o11_1, if_pos c13_2] at hr
    cases hr
    exact Go.iret d_Model_goesBy_29 rfl rfl ⟨rfl, rfl, rfl⟩
  · refine Go.iconst (v := 0) d_Model_goesBy_16 rfl (by decide) ?_
    rw [if_pos o11_1, if_neg c13_2] at hr
    cases hr
    exact Go.iret d_Model_goesBy_17 rfl rfl ⟨rfl, rfl, rfl⟩
theorem mr_at_q_4 {Γ : G9} {h : AH} {m q r sa sb : Nat} {M : MO} {H : SH} {Y : SX} (geo : m + 2 ≤ q ∧ m + 2 ≤ r ∧ (q + 24 ≤ r ∨ r + 21 ≤ q)) (hB : sh_ha H 0 ≤ 5) (hS : sh_ha H 3 ≤ 6) (hC : sh_ha H 6 ≤ 4) (hD : sh_ha H 9 ≤ 4) (hE : sh_ha H 11 ≤ 4) : (md_ Γ h m q r sa sb r M H Y) (q + 4) = some (aI Γ 401 (sh_me H)) := by
  unfold md_
  exact ((blk_out (by omega)).trans (sh_g4))
theorem d_Model_named_0 : decode M_Model_named.2.1 0 = .ok (.aload_n 0, 1) := by decide +kernel
theorem d_Model_named_1 : decode M_Model_named.2.1 1 = .ok (.getfield 20, 3) := by decide +kernel
theorem d_Model_named_4 : decode M_Model_named.2.1 4 = .ok (.getfield 169, 3) := by decide +kernel
theorem d_Model_named_7 : decode M_Model_named.2.1 7 = .ok (.aload_n 0, 1) := by decide +kernel
theorem d_Model_named_8 : decode M_Model_named.2.1 8 = .ok (.getfield 261, 3) := by decide +kernel
theorem d_Model_named_11 : decode M_Model_named.2.1 11 = .ok (.iaload, 1) := by decide +kernel
theorem d_Model_named_12 : decode M_Model_named.2.1 12 = .ok (.istore_n 1, 1) := by decide +kernel
theorem d_Model_named_13 : decode M_Model_named.2.1 13 = .ok (.aload_n 0, 1) := by decide +kernel
theorem d_Model_named_14 : decode M_Model_named.2.1 14 = .ok (.dup, 1) := by decide +kernel
theorem d_Model_named_15 : decode M_Model_named.2.1 15 = .ok (.getfield 261, 3) := by decide +kernel
theorem d_Model_named_18 : decode M_Model_named.2.1 18 = .ok (.iconst 1, 1) := by decide +kernel
theorem d_Model_named_19 : decode M_Model_named.2.1 19 = .ok (.iadd, 1) := by decide +kernel
theorem d_Model_named_20 : decode M_Model_named.2.1 20 = .ok (.putfield 261, 3) := by decide +kernel
theorem d_Model_named_23 : decode M_Model_named.2.1 23 = .ok (.iload_n 1, 1) := by decide +kernel
theorem d_Model_named_24 : decode M_Model_named.2.1 24 = .ok (.ireturn, 1) := by decide +kernel
def s_Model_named (H : SH) (M : MO) : Option (Int32 × MO) := (if okI (mo_wk M) 401 = true then some (((sh_me H) (mo_wk M).toNatClampNeg), (mo_wk' M ((mo_wk M) + 1))) else none)
set_option maxRecDepth 100000 in
set_option maxHeartbeats 4000000 in
theorem c_Model_named {Γ : G9} {h : AH} {m q r sa sb z : Nat} {M : MO} {H : SH} {Y : SX} {p : Int32 × MO} (geo : m + 2 ≤ q ∧ m + 2 ≤ r ∧ (q + 24 ≤ r ∨ r + 21 ≤ q)) (hB : sh_ha H 0 ≤ 5) (hS : sh_ha H 3 ≤ 6) (hC : sh_ha H 6 ≤ 4) (hD : sh_ha H 9 ≤ 4) (hE : sh_ha H 11 ≤ 4) (hr : s_Model_named H M = some p) : CallR Γ M_Model_named 0 [.ref m] (md_ Γ h m q r sa sb r M H Y) z (some (.int p.1)) (md_ Γ h m q r sa sb r p.2 H Y) := by
  refine Call.of_go (L := [some (.ref m), none]) (by decide +kernel) rfl (by exact Nat.le_of_ble_eq_true rfl) ?_
  unfold s_Model_named at hr
  refine Go.aload_0 d_Model_named_0 rfl ?_
  refine Go.getfield d_Model_named_1 rfl f_Model_20 (mr_at_m (by omega) hB hS hC hD hE) (by rfl) ?_
  refine Go.getfield d_Model_named_4 rfl f_Model_169 (mr_at_q (by omega) hB hS hC hD hE) (by rfl) ?_
  refine Go.aload_0 d_Model_named_7 rfl ?_
  refine Go.getfield d_Model_named_8 rfl f_Model_261 (mr_at_m (by omega) hB hS hC hD hE) (by rfl) ?_
  have o11_1 : okI (mo_wk M) 401 = true := Classical.byContradiction fun w => by
    rw [if_neg w] at hr
    cases hr
  refine Go.iaload d_Model_named_11 rfl (mr_at_q_4 (by omega) hB hS hC hD hE) (okI_in o11_1) ?_
  refine Go.istore_1 d_Model_named_12 rfl (by rfl) ?_
  refine Go.aload_0 d_Model_named_13 rfl ?_
  refine Go.dup d_Model_named_14 rfl rfl ?_
  refine Go.getfield d_Model_named_15 rfl f_Model_261 (mr_at_m (by omega) hB hS hC hD hE) (by rfl) ?_
  refine Go.iconst (v := 1) d_Model_named_18 rfl (by decide) ?_
  refine Go.iadd d_Model_named_19 rfl ?_
  refine Go.putfield d_Model_named_20 rfl f_Model_261_p (Or.inl (fun C T N h => by cases h; rfl)) (mr_at_m (by omega) hB hS hC hD hE) (by exact Nat.le_of_ble_eq_true rfl) rfl rfl ?_
  refine Go.heq (mr_put_m_walk (by omega) hB hS hC hD hE) ?_
  refine Go.iload_1 d_Model_named_23 rfl ?_
  rw [if_pos o11_1] at hr
  cases hr
  exact Go.iret d_Model_named_24 rfl rfl ⟨rfl, rfl, rfl⟩
theorem d_Model_test_5 : decode M_Model_test.2.1 5 = .ok (.aload_n 0, 1) := by decide +kernel
theorem d_Model_test_6 : decode M_Model_test.2.1 6 = .ok (.bipush 32, 2) := by decide +kernel
theorem d_Model_test_8 : decode M_Model_test.2.1 8 = .ok (.invokevirtual 268, 3) := by decide +kernel
theorem d_Model_test_11 : decode M_Model_test.2.1 11 = .ok (.ifCond .eq 13, 3) := by decide +kernel
theorem d_Model_test_14 : decode M_Model_test.2.1 14 = .ok (.iload_n 1, 1) := by decide +kernel
theorem d_Model_test_15 : decode M_Model_test.2.1 15 = .ok (.aload_n 0, 1) := by decide +kernel
theorem d_Model_test_16 : decode M_Model_test.2.1 16 = .ok (.invokevirtual 264, 3) := by decide +kernel
theorem d_Model_test_19 : decode M_Model_test.2.1 19 = .ok (.ior, 1) := by decide +kernel
theorem d_Model_test_20 : decode M_Model_test.2.1 20 = .ok (.istore_n 1, 1) := by decide +kernel
theorem d_Model_test_21 : decode M_Model_test.2.1 21 = .ok (.goto (-16), 3) := by decide +kernel
theorem d_Model_test_24 : decode M_Model_test.2.1 24 = .ok (.iload_n 1, 1) := by decide +kernel
theorem d_Model_test_25 : decode M_Model_test.2.1 25 = .ok (.ireturn, 1) := by decide +kernel
def l_Model_test (H : SH) (Y : SX) (rec : EV) : Nat → Int32 → MO → Option (Int32 × MO)
  | 0, _, _ => none
  | k + 1, b, M => ((s_Model_goesBy H 32 M).bind fun p8_1 => (if p8_1.1 = 0 then (if b01 b = true then some (b, p8_1.2) else none) else ((rec 1 p8_1.2).bind fun p16_4 => (l_Model_test H Y rec k (b ||| p16_4.1) p16_4.2))))
set_option maxRecDepth 100000 in
set_option maxHeartbeats 4000000 in
theorem l_Model_test_go {Γ : G9} {h : AH} {m q r sa sb z dd : Nat} {H : SH} {Y : SX} {rec : EV} {p : Int32 × MO} (hr0 : ∀ (M : MO) (p : Int32 × MO), rec 0 M = some p → CallR Γ M_Model_test (dd + 4) [.ref m] (md_ Γ h m q r sa sb r M H Y) z (some (.int p.1)) (md_ Γ h m q r sa sb r p.2 H Y)) (hr1 : ∀ (M : MO) (p : Int32 × MO), rec 1 M = some p → CallR Γ M_Model_both (dd + 4) [.ref m] (md_ Γ h m q r sa sb r M H Y) z (some (.int p.1)) (md_ Γ h m q r sa sb r p.2 H Y)) (hr2 : ∀ (M : MO) (p : Int32 × MO), rec 2 M = some p → CallR Γ M_Model_single (dd + 4) [.ref m] (md_ Γ h m q r sa sb r M H Y) z (some (.int p.1)) (md_ Γ h m q r sa sb r p.2 H Y)) (hr3 : ∀ (M : MO) (p : Int32 × MO), rec 3 M = some p → CallR Γ M_Model_sum (dd + 4) [.ref m] (md_ Γ h m q r sa sb r M H Y) z (some (.int p.1)) (md_ Γ h m q r sa sb r p.2 H Y)) (hr4 : ∀ (M : MO) (p : Int32 × MO), rec 4 M = some p → CallR Γ M_Model_product (dd + 4) [.ref m] (md_ Γ h m q r sa sb r M H Y) z (some (.int p.1)) (md_ Γ h m q r sa sb r p.2 H Y)) (hr5 : ∀ (M : MO) (p : Int32 × MO), rec 5 M = some p → CallR Γ M_Model_value (dd + 4) [.ref m] (md_ Γ h m q r sa sb r M H Y) z (some (.int p.1)) (md_ Γ h m q r sa sb r p.2 H Y)) (geo : m + 2 ≤ q ∧ m + 2 ≤ r ∧ (q + 24 ≤ r ∨ r + 21 ≤ q)) (hB : sh_ha H 0 ≤ 5) (hS : sh_ha H 3 ≤ 6) (hC : sh_ha H 6 ≤ 4) (hD : sh_ha H 9 ≤ 4) (hE : sh_ha H 11 ≤ 4) (hdy : sx_dy Y < 1000000) : ∀ (k : Nat) (b : Int32) (M : MO), l_Model_test H Y rec k b M = some p → Go Γ M_Model_test (dd + 1 + 4) 0 0 5 [some (.ref m), some (.int b)] [] (md_ Γ h m q r sa sb r M H Y) z (RQ (some (.int p.1)) (md_ Γ h m q r sa sb r p.2 H Y) z) noX := by
  intro k
  induction k with
  | zero =>
    intro b M hr
    cases hr
  | succ k ih =>
    intro b M hr
    unfold l_Model_test at hr
    refine Go.aload_0 d_Model_test_5 rfl ?_
    refine Go.bipush (v := 32) d_Model_test_6 rfl (by decide) ?_
    obtain ⟨p8_1, hp8_1, hr⟩ := Option.bind_eq_some_iff.mp hr
    try dsimp only at hr
    refine Go.cv1r d_Model_test_8 rfl l_Model_268 k_Model_goesBy_v (mr_at_m (by omega) hB hS hC hD hE) rfl (c_Model_goesBy (Y := Y) (by omega) hB hS hC hD hE hp8_1) (Nat.ble_eq_true_of_le (by omega)) rfl rfl ?_
    refine Go.if_eq (t := 24) d_Model_test_11 (by decide) rfl (fun c11_2 => ?_) (fun c11_2 => ?_)
    · refine Go.iload_1 d_Model_test_24 rfl ?_
      have b25_3 : b01 b = true := Classical.byContradiction fun w => by
        rw [if_pos c11_2, if_neg w] at hr
        cases hr
      rw [if_pos c11_2, if_pos b25_3] at hr
      cases hr
      exact Go.iret d_Model_test_25 rfl (nb (b01_or b25_3)) ⟨rfl, rfl, rfl⟩
    · refine Go.iload_1 d_Model_test_14 rfl ?_
      refine Go.aload_0 d_Model_test_15 rfl ?_
      rw [if_neg c11_2] at hr
      obtain ⟨p16_4, hp16_4, hr⟩ := Option.bind_eq_some_iff.mp hr
      try dsimp only at hr
      refine Go.cv0r d_Model_test_16 rfl l_Model_264 k_Model_both_v (mr_at_m (by omega) hB hS hC hD hE) rfl (hr1 _ _ hp16_4) (Nat.ble_eq_true_of_le (by omega)) rfl rfl ?_
      refine Go.ior d_Model_test_19 rfl ?_
      refine Go.istore_1 d_Model_test_20 rfl (by rfl) ?_
      refine Go.goto (t := 5) d_Model_test_21 (by decide) ?_
      exact ih _ _ hr
theorem d_Model_test_0 : decode M_Model_test.2.1 0 = .ok (.aload_n 0, 1) := by decide +kernel
theorem d_Model_test_1 : decode M_Model_test.2.1 1 = .ok (.invokevirtual 264, 3) := by decide +kernel
theorem d_Model_test_4 : decode M_Model_test.2.1 4 = .ok (.istore_n 1, 1) := by decide +kernel
def s_Model_test (H : SH) (Y : SX) (rec : EV) (M : MO) : Option (Int32 × MO) := ((rec 1 M).bind fun p1_1 => (l_Model_test H Y rec 401 p1_1.1 p1_1.2))
set_option maxRecDepth 100000 in
set_option maxHeartbeats 4000000 in
theorem c_Model_test {Γ : G9} {h : AH} {m q r sa sb z dd : Nat} {M : MO} {H : SH} {Y : SX} {rec : EV} {p : Int32 × MO} (hr0 : ∀ (M : MO) (p : Int32 × MO), rec 0 M = some p → CallR Γ M_Model_test (dd + 4) [.ref m] (md_ Γ h m q r sa sb r M H Y) z (some (.int p.1)) (md_ Γ h m q r sa sb r p.2 H Y)) (hr1 : ∀ (M : MO) (p : Int32 × MO), rec 1 M = some p → CallR Γ M_Model_both (dd + 4) [.ref m] (md_ Γ h m q r sa sb r M H Y) z (some (.int p.1)) (md_ Γ h m q r sa sb r p.2 H Y)) (hr2 : ∀ (M : MO) (p : Int32 × MO), rec 2 M = some p → CallR Γ M_Model_single (dd + 4) [.ref m] (md_ Γ h m q r sa sb r M H Y) z (some (.int p.1)) (md_ Γ h m q r sa sb r p.2 H Y)) (hr3 : ∀ (M : MO) (p : Int32 × MO), rec 3 M = some p → CallR Γ M_Model_sum (dd + 4) [.ref m] (md_ Γ h m q r sa sb r M H Y) z (some (.int p.1)) (md_ Γ h m q r sa sb r p.2 H Y)) (hr4 : ∀ (M : MO) (p : Int32 × MO), rec 4 M = some p → CallR Γ M_Model_product (dd + 4) [.ref m] (md_ Γ h m q r sa sb r M H Y) z (some (.int p.1)) (md_ Γ h m q r sa sb r p.2 H Y)) (hr5 : ∀ (M : MO) (p : Int32 × MO), rec 5 M = some p → CallR Γ M_Model_value (dd + 4) [.ref m] (md_ Γ h m q r sa sb r M H Y) z (some (.int p.1)) (md_ Γ h m q r sa sb r p.2 H Y)) (geo : m + 2 ≤ q ∧ m + 2 ≤ r ∧ (q + 24 ≤ r ∨ r + 21 ≤ q)) (hB : sh_ha H 0 ≤ 5) (hS : sh_ha H 3 ≤ 6) (hC : sh_ha H 6 ≤ 4) (hD : sh_ha H 9 ≤ 4) (hE : sh_ha H 11 ≤ 4) (hdy : sx_dy Y < 1000000) (hr : s_Model_test H Y rec M = some p) : CallR Γ M_Model_test (dd + 1 + 4) [.ref m] (md_ Γ h m q r sa sb r M H Y) z (some (.int p.1)) (md_ Γ h m q r sa sb r p.2 H Y) := by
  refine Call.of_go (L := [some (.ref m), none]) (by decide +kernel) rfl (by exact Nat.le_of_ble_eq_true rfl) ?_
  unfold s_Model_test at hr
  refine Go.aload_0 d_Model_test_0 rfl ?_
  obtain ⟨p1_1, hp1_1, hr⟩ := Option.bind_eq_some_iff.mp hr
  try dsimp only at hr
  refine Go.cv0r d_Model_test_1 rfl l_Model_264 k_Model_both_v (mr_at_m (by omega) hB hS hC hD hE) rfl (hr1 _ _ hp1_1) (Nat.ble_eq_true_of_le (by omega)) rfl rfl ?_
  refine Go.istore_1 d_Model_test_4 rfl (by rfl) ?_
  exact l_Model_test_go hr0 hr1 hr2 hr3 hr4 hr5 geo hB hS hC hD hE hdy _ _ _ hr
theorem d_Model_both_5 : decode M_Model_both.2.1 5 = .ok (.aload_n 0, 1) := by decide +kernel
theorem d_Model_both_6 : decode M_Model_both.2.1 6 = .ok (.bipush 31, 2) := by decide +kernel
theorem d_Model_both_8 : decode M_Model_both.2.1 8 = .ok (.invokevirtual 268, 3) := by decide +kernel
theorem d_Model_both_11 : decode M_Model_both.2.1 11 = .ok (.ifCond .eq 13, 3) := by decide +kernel
theorem d_Model_both_14 : decode M_Model_both.2.1 14 = .ok (.iload_n 1, 1) := by decide +kernel
theorem d_Model_both_15 : decode M_Model_both.2.1 15 = .ok (.aload_n 0, 1) := by decide +kernel
theorem d_Model_both_16 : decode M_Model_both.2.1 16 = .ok (.invokevirtual 271, 3) := by decide +kernel
theorem d_Model_both_19 : decode M_Model_both.2.1 19 = .ok (.iand, 1) := by decide +kernel
theorem d_Model_both_20 : decode M_Model_both.2.1 20 = .ok (.istore_n 1, 1) := by decide +kernel
theorem d_Model_both_21 : decode M_Model_both.2.1 21 = .ok (.goto (-16), 3) := by decide +kernel
theorem d_Model_both_24 : decode M_Model_both.2.1 24 = .ok (.iload_n 1, 1) := by decide +kernel
theorem d_Model_both_25 : decode M_Model_both.2.1 25 = .ok (.ireturn, 1) := by decide +kernel
def l_Model_both (H : SH) (Y : SX) (rec : EV) : Nat → Int32 → MO → Option (Int32 × MO)
  | 0, _, _ => none
  | k + 1, b, M => ((s_Model_goesBy H 31 M).bind fun p8_1 => (if p8_1.1 = 0 then (if b01 b = true then some (b, p8_1.2) else none) else ((rec 2 p8_1.2).bind fun p16_4 => (l_Model_both H Y rec k (b &&& p16_4.1) p16_4.2))))
set_option maxRecDepth 100000 in
set_option maxHeartbeats 4000000 in
theorem l_Model_both_go {Γ : G9} {h : AH} {m q r sa sb z dd : Nat} {H : SH} {Y : SX} {rec : EV} {p : Int32 × MO} (hr0 : ∀ (M : MO) (p : Int32 × MO), rec 0 M = some p → CallR Γ M_Model_test (dd + 4) [.ref m] (md_ Γ h m q r sa sb r M H Y) z (some (.int p.1)) (md_ Γ h m q r sa sb r p.2 H Y)) (hr1 : ∀ (M : MO) (p : Int32 × MO), rec 1 M = some p → CallR Γ M_Model_both (dd + 4) [.ref m] (md_ Γ h m q r sa sb r M H Y) z (some (.int p.1)) (md_ Γ h m q r sa sb r p.2 H Y)) (hr2 : ∀ (M : MO) (p : Int32 × MO), rec 2 M = some p → CallR Γ M_Model_single (dd + 4) [.ref m] (md_ Γ h m q r sa sb r M H Y) z (some (.int p.1)) (md_ Γ h m q r sa sb r p.2 H Y)) (hr3 : ∀ (M : MO) (p : Int32 × MO), rec 3 M = some p → CallR Γ M_Model_sum (dd + 4) [.ref m] (md_ Γ h m q r sa sb r M H Y) z (some (.int p.1)) (md_ Γ h m q r sa sb r p.2 H Y)) (hr4 : ∀ (M : MO) (p : Int32 × MO), rec 4 M = some p → CallR Γ M_Model_product (dd + 4) [.ref m] (md_ Γ h m q r sa sb r M H Y) z (some (.int p.1)) (md_ Γ h m q r sa sb r p.2 H Y)) (hr5 : ∀ (M : MO) (p : Int32 × MO), rec 5 M = some p → CallR Γ M_Model_value (dd + 4) [.ref m] (md_ Γ h m q r sa sb r M H Y) z (some (.int p.1)) (md_ Γ h m q r sa sb r p.2 H Y)) (geo : m + 2 ≤ q ∧ m + 2 ≤ r ∧ (q + 24 ≤ r ∨ r + 21 ≤ q)) (hB : sh_ha H 0 ≤ 5) (hS : sh_ha H 3 ≤ 6) (hC : sh_ha H 6 ≤ 4) (hD : sh_ha H 9 ≤ 4) (hE : sh_ha H 11 ≤ 4) (hdy : sx_dy Y < 1000000) : ∀ (k : Nat) (b : Int32) (M : MO), l_Model_both H Y rec k b M = some p → Go Γ M_Model_both (dd + 1 + 4) 0 0 5 [some (.ref m), some (.int b)] [] (md_ Γ h m q r sa sb r M H Y) z (RQ (some (.int p.1)) (md_ Γ h m q r sa sb r p.2 H Y) z) noX := by
  intro k
  induction k with
  | zero =>
    intro b M hr
    cases hr
  | succ k ih =>
    intro b M hr
    unfold l_Model_both at hr
    refine Go.aload_0 d_Model_both_5 rfl ?_
    refine Go.bipush (v := 31) d_Model_both_6 rfl (by decide) ?_
    obtain ⟨p8_1, hp8_1, hr⟩ := Option.bind_eq_some_iff.mp hr
    try dsimp only at hr
    refine Go.cv1r d_Model_both_8 rfl l_Model_268 k_Model_goesBy_v (mr_at_m (by omega) hB hS hC hD hE) rfl (c_Model_goesBy (Y := Y) (by omega) hB hS hC hD hE hp8_1) (Nat.ble_eq_true_of_le (by omega)) rfl rfl ?_
    refine Go.if_eq (t := 24) d_Model_both_11 (by decide) rfl (fun c11_2 => ?_) (fun c11_2 => ?_)
    · refine Go.iload_1 d_Model_both_24 rfl ?_
      have b25_3 : b01 b = true := Classical.byContradiction fun w => by
        rw [if_pos c11_2, if_neg w] at hr
        cases hr
      rw [if_pos c11_2, if_pos b25_3] at hr
      cases hr
      exact Go.iret d_Model_both_25 rfl (nb (b01_or b25_3)) ⟨rfl, rfl, rfl⟩
    · refine Go.iload_1 d_Model_both_14 rfl ?_
      refine Go.aload_0 d_Model_both_15 rfl ?_
      rw [if_neg c11_2] at hr
      obtain ⟨p16_4, hp16_4, hr⟩ := Option.bind_eq_some_iff.mp hr
      try dsimp only at hr
      refine Go.cv0r d_Model_both_16 rfl l_Model_271 k_Model_single_v (mr_at_m (by omega) hB hS hC hD hE) rfl (hr2 _ _ hp16_4) (Nat.ble_eq_true_of_le (by omega)) rfl rfl ?_
      refine Go.iand d_Model_both_19 rfl ?_
      refine Go.istore_1 d_Model_both_20 rfl (by rfl) ?_
      refine Go.goto (t := 5) d_Model_both_21 (by decide) ?_
      exact ih _ _ hr
theorem d_Model_both_0 : decode M_Model_both.2.1 0 = .ok (.aload_n 0, 1) := by decide +kernel
theorem d_Model_both_1 : decode M_Model_both.2.1 1 = .ok (.invokevirtual 271, 3) := by decide +kernel
theorem d_Model_both_4 : decode M_Model_both.2.1 4 = .ok (.istore_n 1, 1) := by decide +kernel
def s_Model_both (H : SH) (Y : SX) (rec : EV) (M : MO) : Option (Int32 × MO) := ((rec 2 M).bind fun p1_1 => (l_Model_both H Y rec 401 p1_1.1 p1_1.2))
set_option maxRecDepth 100000 in
set_option maxHeartbeats 4000000 in
theorem c_Model_both {Γ : G9} {h : AH} {m q r sa sb z dd : Nat} {M : MO} {H : SH} {Y : SX} {rec : EV} {p : Int32 × MO} (hr0 : ∀ (M : MO) (p : Int32 × MO), rec 0 M = some p → CallR Γ M_Model_test (dd + 4) [.ref m] (md_ Γ h m q r sa sb r M H Y) z (some (.int p.1)) (md_ Γ h m q r sa sb r p.2 H Y)) (hr1 : ∀ (M : MO) (p : Int32 × MO), rec 1 M = some p → CallR Γ M_Model_both (dd + 4) [.ref m] (md_ Γ h m q r sa sb r M H Y) z (some (.int p.1)) (md_ Γ h m q r sa sb r p.2 H Y)) (hr2 : ∀ (M : MO) (p : Int32 × MO), rec 2 M = some p → CallR Γ M_Model_single (dd + 4) [.ref m] (md_ Γ h m q r sa sb r M H Y) z (some (.int p.1)) (md_ Γ h m q r sa sb r p.2 H Y)) (hr3 : ∀ (M : MO) (p : Int32 × MO), rec 3 M = some p → CallR Γ M_Model_sum (dd + 4) [.ref m] (md_ Γ h m q r sa sb r M H Y) z (some (.int p.1)) (md_ Γ h m q r sa sb r p.2 H Y)) (hr4 : ∀ (M : MO) (p : Int32 × MO), rec 4 M = some p → CallR Γ M_Model_product (dd + 4) [.ref m] (md_ Γ h m q r sa sb r M H Y) z (some (.int p.1)) (md_ Γ h m q r sa sb r p.2 H Y)) (hr5 : ∀ (M : MO) (p : Int32 × MO), rec 5 M = some p → CallR Γ M_Model_value (dd + 4) [.ref m] (md_ Γ h m q r sa sb r M H Y) z (some (.int p.1)) (md_ Γ h m q r sa sb r p.2 H Y)) (geo : m + 2 ≤ q ∧ m + 2 ≤ r ∧ (q + 24 ≤ r ∨ r + 21 ≤ q)) (hB : sh_ha H 0 ≤ 5) (hS : sh_ha H 3 ≤ 6) (hC : sh_ha H 6 ≤ 4) (hD : sh_ha H 9 ≤ 4) (hE : sh_ha H 11 ≤ 4) (hdy : sx_dy Y < 1000000) (hr : s_Model_both H Y rec M = some p) : CallR Γ M_Model_both (dd + 1 + 4) [.ref m] (md_ Γ h m q r sa sb r M H Y) z (some (.int p.1)) (md_ Γ h m q r sa sb r p.2 H Y) := by
  refine Call.of_go (L := [some (.ref m), none]) (by decide +kernel) rfl (by exact Nat.le_of_ble_eq_true rfl) ?_
  unfold s_Model_both at hr
  refine Go.aload_0 d_Model_both_0 rfl ?_
  obtain ⟨p1_1, hp1_1, hr⟩ := Option.bind_eq_some_iff.mp hr
  try dsimp only at hr
  refine Go.cv0r d_Model_both_1 rfl l_Model_271 k_Model_single_v (mr_at_m (by omega) hB hS hC hD hE) rfl (hr2 _ _ hp1_1) (Nat.ble_eq_true_of_le (by omega)) rfl rfl ?_
  refine Go.istore_1 d_Model_both_4 rfl (by rfl) ?_
  exact l_Model_both_go hr0 hr1 hr2 hr3 hr4 hr5 geo hB hS hC hD hE hdy _ _ _ hr
theorem mr_at_r {Γ : G9} {h : AH} {m q r sa sb : Nat} {M : MO} {H : SH} {Y : SX} (geo : m + 2 ≤ q ∧ m + 2 ≤ r ∧ (q + 24 ≤ r ∨ r + 21 ≤ q)) (hB : sh_ha H 0 ≤ 5) (hS : sh_ha H 3 ≤ 6) (hC : sh_ha H 6 ≤ 4) (hD : sh_ha H 9 ≤ 4) (hE : sh_ha H 11 ≤ 4) : (md_ Γ h m q r sa sb r M H Y) r = some (.inr (10, [.int (nI (sx_dy Y)), .int (sx_rd Y), .int (sx_fa Y), .int (sx_ca Y), .ref (r + 1), .ref (r + 2), .ref (r + 3), .ref (r + 4), .ref (r + 5), .ref (r + 6), .ref (r + 7), .ref (r + 8), .ref (r + 9), .ref (r + 10), .ref (r + 11), .ref (r + 12), .ref (r + 13), .ref (r + 14), .ref (r + 15), .ref (r + 16), .ref (r + 17), .ref (r + 18), .ref (r + 19), .ref (r + 20)])) := by
  unfold md_
  exact (sx_g0)
theorem mr_at_r_9 {Γ : G9} {h : AH} {m q r sa sb : Nat} {M : MO} {H : SH} {Y : SX} (geo : m + 2 ≤ q ∧ m + 2 ≤ r ∧ (q + 24 ≤ r ∨ r + 21 ≤ q)) (hB : sh_ha H 0 ≤ 5) (hS : sh_ha H 3 ≤ 6) (hC : sh_ha H 6 ≤ 4) (hD : sh_ha H 9 ≤ 4) (hE : sh_ha H 11 ≤ 4) : (md_ Γ h m q r sa sb r M H Y) (r + 9) = some (aI Γ 4 (sx_kn Y)) := by
  unfold md_
  exact (sx_g9)
theorem mr_at_r_17 {Γ : G9} {h : AH} {m q r sa sb : Nat} {M : MO} {H : SH} {Y : SX} (geo : m + 2 ≤ q ∧ m + 2 ≤ r ∧ (q + 24 ≤ r ∨ r + 21 ≤ q)) (hB : sh_ha H 0 ≤ 5) (hS : sh_ha H 3 ≤ 6) (hC : sh_ha H 6 ≤ 4) (hD : sh_ha H 9 ≤ 4) (hE : sh_ha H 11 ≤ 4) : (md_ Γ h m q r sa sb r M H Y) (r + 17) = some (aI Γ 4 (sx_he Y)) := by
  unfold md_
  exact (sx_g17)
theorem mr_at_r_5 {Γ : G9} {h : AH} {m q r sa sb : Nat} {M : MO} {H : SH} {Y : SX} (geo : m + 2 ≤ q ∧ m + 2 ≤ r ∧ (q + 24 ≤ r ∨ r + 21 ≤ q)) (hB : sh_ha H 0 ≤ 5) (hS : sh_ha H 3 ≤ 6) (hC : sh_ha H 6 ≤ 4) (hD : sh_ha H 9 ≤ 4) (hE : sh_ha H 11 ≤ 4) : (md_ Γ h m q r sa sb r M H Y) (r + 5) = some (aI Γ 6 (sx_sd Y)) := by
  unfold md_
  exact (sx_g5)
theorem d_Model_single_0 : decode M_Model_single.2.1 0 = .ok (.aload_n 0, 1) := by decide +kernel
theorem d_Model_single_1 : decode M_Model_single.2.1 1 = .ok (.bipush 30, 2) := by decide +kernel
theorem d_Model_single_3 : decode M_Model_single.2.1 3 = .ok (.invokevirtual 268, 3) := by decide +kernel
theorem d_Model_single_6 : decode M_Model_single.2.1 6 = .ok (.ifCond .eq 16, 3) := by decide +kernel
theorem d_Model_single_9 : decode M_Model_single.2.1 9 = .ok (.aload_n 0, 1) := by decide +kernel
theorem d_Model_single_10 : decode M_Model_single.2.1 10 = .ok (.invokevirtual 271, 3) := by decide +kernel
theorem d_Model_single_13 : decode M_Model_single.2.1 13 = .ok (.ifCond .ne 7, 3) := by decide +kernel
theorem d_Model_single_16 : decode M_Model_single.2.1 16 = .ok (.iconst 1, 1) := by decide +kernel
theorem d_Model_single_17 : decode M_Model_single.2.1 17 = .ok (.goto 4, 3) := by decide +kernel
theorem d_Model_single_20 : decode M_Model_single.2.1 20 = .ok (.iconst 0, 1) := by decide +kernel
theorem d_Model_single_21 : decode M_Model_single.2.1 21 = .ok (.ireturn, 1) := by decide +kernel
theorem d_Model_single_22 : decode M_Model_single.2.1 22 = .ok (.aload_n 0, 1) := by decide +kernel
theorem d_Model_single_23 : decode M_Model_single.2.1 23 = .ok (.bipush 42, 2) := by decide +kernel
theorem d_Model_single_25 : decode M_Model_single.2.1 25 = .ok (.invokevirtual 268, 3) := by decide +kernel
theorem d_Model_single_28 : decode M_Model_single.2.1 28 = .ok (.ifCond .eq 20, 3) := by decide +kernel
theorem d_Model_single_31 : decode M_Model_single.2.1 31 = .ok (.aload_n 0, 1) := by decide +kernel
theorem d_Model_single_32 : decode M_Model_single.2.1 32 = .ok (.invokevirtual 274, 3) := by decide +kernel
theorem d_Model_single_35 : decode M_Model_single.2.1 35 = .ok (.istore_n 1, 1) := by decide +kernel
theorem d_Model_single_36 : decode M_Model_single.2.1 36 = .ok (.aload_n 0, 1) := by decide +kernel
theorem d_Model_single_37 : decode M_Model_single.2.1 37 = .ok (.dup, 1) := by decide +kernel
theorem d_Model_single_38 : decode M_Model_single.2.1 38 = .ok (.getfield 261, 3) := by decide +kernel
theorem d_Model_single_41 : decode M_Model_single.2.1 41 = .ok (.iconst 1, 1) := by decide +kernel
theorem d_Model_single_42 : decode M_Model_single.2.1 42 = .ok (.iadd, 1) := by decide +kernel
theorem d_Model_single_43 : decode M_Model_single.2.1 43 = .ok (.putfield 261, 3) := by decide +kernel
theorem d_Model_single_46 : decode M_Model_single.2.1 46 = .ok (.iload_n 1, 1) := by decide +kernel
theorem d_Model_single_47 : decode M_Model_single.2.1 47 = .ok (.ireturn, 1) := by decide +kernel
theorem d_Model_single_48 : decode M_Model_single.2.1 48 = .ok (.aload_n 0, 1) := by decide +kernel
theorem d_Model_single_49 : decode M_Model_single.2.1 49 = .ok (.bipush 27, 2) := by decide +kernel
theorem d_Model_single_51 : decode M_Model_single.2.1 51 = .ok (.invokevirtual 268, 3) := by decide +kernel
theorem d_Model_single_54 : decode M_Model_single.2.1 54 = .ok (.ifCond .eq 25, 3) := by decide +kernel
theorem d_Model_single_57 : decode M_Model_single.2.1 57 = .ok (.aload_n 0, 1) := by decide +kernel
theorem d_Model_single_58 : decode M_Model_single.2.1 58 = .ok (.getfield 34, 3) := by decide +kernel
theorem d_Model_single_61 : decode M_Model_single.2.1 61 = .ok (.getfield 277, 3) := by decide +kernel
theorem d_Model_single_64 : decode M_Model_single.2.1 64 = .ok (.aload_n 0, 1) := by decide +kernel
theorem d_Model_single_65 : decode M_Model_single.2.1 65 = .ok (.invokevirtual 280, 3) := by decide +kernel
theorem d_Model_single_68 : decode M_Model_single.2.1 68 = .ok (.iaload, 1) := by decide +kernel
theorem d_Model_single_69 : decode M_Model_single.2.1 69 = .ok (.iconst 1, 1) := by decide +kernel
theorem d_Model_single_70 : decode M_Model_single.2.1 70 = .ok (.if_icmp .ne 7, 3) := by decide +kernel
theorem d_Model_single_73 : decode M_Model_single.2.1 73 = .ok (.iconst 1, 1) := by decide +kernel
theorem d_Model_single_74 : decode M_Model_single.2.1 74 = .ok (.goto 4, 3) := by decide +kernel
theorem d_Model_single_77 : decode M_Model_single.2.1 77 = .ok (.iconst 0, 1) := by decide +kernel
theorem d_Model_single_78 : decode M_Model_single.2.1 78 = .ok (.ireturn, 1) := by decide +kernel
theorem d_Model_single_79 : decode M_Model_single.2.1 79 = .ok (.aload_n 0, 1) := by decide +kernel
theorem d_Model_single_80 : decode M_Model_single.2.1 80 = .ok (.bipush 28, 2) := by decide +kernel
theorem d_Model_single_82 : decode M_Model_single.2.1 82 = .ok (.invokevirtual 268, 3) := by decide +kernel
theorem d_Model_single_85 : decode M_Model_single.2.1 85 = .ok (.ifCond .eq 25, 3) := by decide +kernel
theorem d_Model_single_88 : decode M_Model_single.2.1 88 = .ok (.aload_n 0, 1) := by decide +kernel
theorem d_Model_single_89 : decode M_Model_single.2.1 89 = .ok (.getfield 34, 3) := by decide +kernel
theorem d_Model_single_92 : decode M_Model_single.2.1 92 = .ok (.getfield 283, 3) := by decide +kernel
theorem d_Model_single_95 : decode M_Model_single.2.1 95 = .ok (.aload_n 0, 1) := by decide +kernel
theorem d_Model_single_96 : decode M_Model_single.2.1 96 = .ok (.invokevirtual 280, 3) := by decide +kernel
theorem d_Model_single_99 : decode M_Model_single.2.1 99 = .ok (.iaload, 1) := by decide +kernel
theorem d_Model_single_100 : decode M_Model_single.2.1 100 = .ok (.iconst 1, 1) := by decide +kernel
theorem d_Model_single_101 : decode M_Model_single.2.1 101 = .ok (.if_icmp .ne 7, 3) := by decide +kernel
theorem d_Model_single_104 : decode M_Model_single.2.1 104 = .ok (.iconst 1, 1) := by decide +kernel
theorem d_Model_single_105 : decode M_Model_single.2.1 105 = .ok (.goto 4, 3) := by decide +kernel
theorem d_Model_single_108 : decode M_Model_single.2.1 108 = .ok (.iconst 0, 1) := by decide +kernel
theorem d_Model_single_109 : decode M_Model_single.2.1 109 = .ok (.ireturn, 1) := by decide +kernel
theorem d_Model_single_110 : decode M_Model_single.2.1 110 = .ok (.aload_n 0, 1) := by decide +kernel
theorem d_Model_single_111 : decode M_Model_single.2.1 111 = .ok (.bipush 29, 2) := by decide +kernel
theorem d_Model_single_113 : decode M_Model_single.2.1 113 = .ok (.invokevirtual 268, 3) := by decide +kernel
theorem d_Model_single_116 : decode M_Model_single.2.1 116 = .ok (.ifCond .eq 24, 3) := by decide +kernel
theorem d_Model_single_119 : decode M_Model_single.2.1 119 = .ok (.aload_n 0, 1) := by decide +kernel
theorem d_Model_single_120 : decode M_Model_single.2.1 120 = .ok (.getfield 34, 3) := by decide +kernel
theorem d_Model_single_123 : decode M_Model_single.2.1 123 = .ok (.getfield 286, 3) := by decide +kernel
theorem d_Model_single_126 : decode M_Model_single.2.1 126 = .ok (.aload_n 0, 1) := by decide +kernel
theorem d_Model_single_127 : decode M_Model_single.2.1 127 = .ok (.invokevirtual 280, 3) := by decide +kernel
theorem d_Model_single_130 : decode M_Model_single.2.1 130 = .ok (.iaload, 1) := by decide +kernel
theorem d_Model_single_131 : decode M_Model_single.2.1 131 = .ok (.ifCond .le 7, 3) := by decide +kernel
theorem d_Model_single_134 : decode M_Model_single.2.1 134 = .ok (.iconst 1, 1) := by decide +kernel
theorem d_Model_single_135 : decode M_Model_single.2.1 135 = .ok (.goto 4, 3) := by decide +kernel
theorem d_Model_single_138 : decode M_Model_single.2.1 138 = .ok (.iconst 0, 1) := by decide +kernel
theorem d_Model_single_139 : decode M_Model_single.2.1 139 = .ok (.ireturn, 1) := by decide +kernel
theorem d_Model_single_140 : decode M_Model_single.2.1 140 = .ok (.aload_n 0, 1) := by decide +kernel
theorem d_Model_single_141 : decode M_Model_single.2.1 141 = .ok (.invokevirtual 289, 3) := by decide +kernel
theorem d_Model_single_144 : decode M_Model_single.2.1 144 = .ok (.istore_n 1, 1) := by decide +kernel
theorem d_Model_single_145 : decode M_Model_single.2.1 145 = .ok (.aload_n 0, 1) := by decide +kernel
theorem d_Model_single_146 : decode M_Model_single.2.1 146 = .ok (.getfield 20, 3) := by decide +kernel
theorem d_Model_single_149 : decode M_Model_single.2.1 149 = .ok (.getfield 93, 3) := by decide +kernel
theorem d_Model_single_152 : decode M_Model_single.2.1 152 = .ok (.aload_n 0, 1) := by decide +kernel
theorem d_Model_single_153 : decode M_Model_single.2.1 153 = .ok (.getfield 261, 3) := by decide +kernel
theorem d_Model_single_156 : decode M_Model_single.2.1 156 = .ok (.iaload, 1) := by decide +kernel
theorem d_Model_single_157 : decode M_Model_single.2.1 157 = .ok (.istore_n 2, 1) := by decide +kernel
theorem d_Model_single_158 : decode M_Model_single.2.1 158 = .ok (.aload_n 0, 1) := by decide +kernel
theorem d_Model_single_159 : decode M_Model_single.2.1 159 = .ok (.dup, 1) := by decide +kernel
theorem d_Model_single_160 : decode M_Model_single.2.1 160 = .ok (.getfield 261, 3) := by decide +kernel
theorem d_Model_single_163 : decode M_Model_single.2.1 163 = .ok (.iconst 1, 1) := by decide +kernel
theorem d_Model_single_164 : decode M_Model_single.2.1 164 = .ok (.iadd, 1) := by decide +kernel
theorem d_Model_single_165 : decode M_Model_single.2.1 165 = .ok (.putfield 261, 3) := by decide +kernel
theorem d_Model_single_168 : decode M_Model_single.2.1 168 = .ok (.aload_n 0, 1) := by decide +kernel
theorem d_Model_single_169 : decode M_Model_single.2.1 169 = .ok (.invokevirtual 289, 3) := by decide +kernel
theorem d_Model_single_172 : decode M_Model_single.2.1 172 = .ok (.istore_n 3, 1) := by decide +kernel
theorem d_Model_single_173 : decode M_Model_single.2.1 173 = .ok (.iload_n 1, 1) := by decide +kernel
theorem d_Model_single_174 : decode M_Model_single.2.1 174 = .ok (.iload_n 3, 1) := by decide +kernel
theorem d_Model_single_175 : decode M_Model_single.2.1 175 = .ok (.if_icmp .ne 21, 3) := by decide +kernel
theorem d_Model_single_178 : decode M_Model_single.2.1 178 = .ok (.iload_n 2, 1) := by decide +kernel
theorem d_Model_single_179 : decode M_Model_single.2.1 179 = .ok (.bipush 52, 2) := by decide +kernel
theorem d_Model_single_181 : decode M_Model_single.2.1 181 = .ok (.if_icmp .eq 9, 3) := by decide +kernel
theorem d_Model_single_184 : decode M_Model_single.2.1 184 = .ok (.iload_n 2, 1) := by decide +kernel
theorem d_Model_single_185 : decode M_Model_single.2.1 185 = .ok (.bipush 53, 2) := by decide +kernel
theorem d_Model_single_187 : decode M_Model_single.2.1 187 = .ok (.if_icmp .lt 7, 3) := by decide +kernel
theorem d_Model_single_190 : decode M_Model_single.2.1 190 = .ok (.iconst 1, 1) := by decide +kernel
theorem d_Model_single_191 : decode M_Model_single.2.1 191 = .ok (.goto 4, 3) := by decide +kernel
theorem d_Model_single_194 : decode M_Model_single.2.1 194 = .ok (.iconst 0, 1) := by decide +kernel
theorem d_Model_single_195 : decode M_Model_single.2.1 195 = .ok (.ireturn, 1) := by decide +kernel
theorem d_Model_single_196 : decode M_Model_single.2.1 196 = .ok (.iload_n 1, 1) := by decide +kernel
theorem d_Model_single_197 : decode M_Model_single.2.1 197 = .ok (.iload_n 3, 1) := by decide +kernel
theorem d_Model_single_198 : decode M_Model_single.2.1 198 = .ok (.if_icmp .ge 23, 3) := by decide +kernel
theorem d_Model_single_201 : decode M_Model_single.2.1 201 = .ok (.iload_n 2, 1) := by decide +kernel
theorem d_Model_single_202 : decode M_Model_single.2.1 202 = .ok (.bipush 50, 2) := by decide +kernel
theorem d_Model_single_204 : decode M_Model_single.2.1 204 = .ok (.if_icmp .eq 9, 3) := by decide +kernel
theorem d_Model_single_207 : decode M_Model_single.2.1 207 = .ok (.iload_n 2, 1) := by decide +kernel
theorem d_Model_single_208 : decode M_Model_single.2.1 208 = .ok (.bipush 53, 2) := by decide +kernel
theorem d_Model_single_210 : decode M_Model_single.2.1 210 = .ok (.if_icmp .ne 7, 3) := by decide +kernel
theorem d_Model_single_213 : decode M_Model_single.2.1 213 = .ok (.iconst 1, 1) := by decide +kernel
theorem d_Model_single_214 : decode M_Model_single.2.1 214 = .ok (.goto 24, 3) := by decide +kernel
theorem d_Model_single_217 : decode M_Model_single.2.1 217 = .ok (.iconst 0, 1) := by decide +kernel
theorem d_Model_single_218 : decode M_Model_single.2.1 218 = .ok (.goto 20, 3) := by decide +kernel
theorem d_Model_single_221 : decode M_Model_single.2.1 221 = .ok (.iload_n 2, 1) := by decide +kernel
theorem d_Model_single_222 : decode M_Model_single.2.1 222 = .ok (.bipush 51, 2) := by decide +kernel
theorem d_Model_single_224 : decode M_Model_single.2.1 224 = .ok (.if_icmp .eq 9, 3) := by decide +kernel
theorem d_Model_single_227 : decode M_Model_single.2.1 227 = .ok (.iload_n 2, 1) := by decide +kernel
theorem d_Model_single_228 : decode M_Model_single.2.1 228 = .ok (.bipush 54, 2) := by decide +kernel
theorem d_Model_single_230 : decode M_Model_single.2.1 230 = .ok (.if_icmp .ne 7, 3) := by decide +kernel
theorem d_Model_single_233 : decode M_Model_single.2.1 233 = .ok (.iconst 1, 1) := by decide +kernel
theorem d_Model_single_234 : decode M_Model_single.2.1 234 = .ok (.goto 4, 3) := by decide +kernel
theorem d_Model_single_237 : decode M_Model_single.2.1 237 = .ok (.iconst 0, 1) := by decide +kernel
theorem d_Model_single_238 : decode M_Model_single.2.1 238 = .ok (.ireturn, 1) := by decide +kernel
def s_Model_single (H : SH) (Y : SX) (rec : EV) (M : MO) : Option (Int32 × MO) := ((s_Model_goesBy H 30 M).bind fun p3_1 => (if p3_1.1 = 0 then ((s_Model_goesBy H 42 p3_1.2).bind fun p25_3 => (if p25_3.1 = 0 then ((s_Model_goesBy H 27 p25_3.2).bind fun p51_5 => (if p51_5.1 = 0 then ((s_Model_goesBy H 28 p51_5.2).bind fun p82_7 => (if p82_7.1 = 0 then ((s_Model_goesBy H 29 p82_7.2).bind fun p113_9 => (if p113_9.1 = 0 then ((rec 3 p113_9.2).bind fun p141_11 => (if okI (mo_wk p141_11.2) 401 = true then ((rec 3 (mo_wk' p141_11.2 ((mo_wk p141_11.2) + 1))).bind fun p169_13 => (if p141_11.1 = p169_13.1 then (if ((sh_kd H) (mo_wk p141_11.2).toNatClampNeg) = 52 then some (1, p169_13.2) else (if ((sh_kd H) (mo_wk p141_11.2).toNatClampNeg) < 53 then some (0, p169_13.2) else some (1, p169_13.2))) else (if p169_13.1 ≤ p141_11.1 then (if ((sh_kd H) (mo_wk p141_11.2).toNatClampNeg) = 51 then some (1, p169_13.2) else (if ((sh_kd H) (mo_wk p141_11.2).toNatClampNeg) = 54 then some (1, p169_13.2) else some (0, p169_13.2))) else (if ((sh_kd H) (mo_wk p141_11.2).toNatClampNeg) = 50 then some (1, p169_13.2) else (if ((sh_kd H) (mo_wk p141_11.2).toNatClampNeg) = 53 then some (1, p169_13.2) else some (0, p169_13.2)))))) else none)) else ((s_Model_named H p113_9.2).bind fun p127_22 => (if okI p127_22.1 4 = true then (if ((sx_kn Y) p127_22.1.toNatClampNeg) ≤ 0 then some (0, p127_22.2) else some (1, p127_22.2)) else none)))) else ((s_Model_named H p82_7.2).bind fun p96_25 => (if okI p96_25.1 4 = true then (if ((sx_he Y) p96_25.1.toNatClampNeg) = 1 then some (1, p96_25.2) else some (0, p96_25.2)) else none)))) else ((s_Model_named H p51_5.2).bind fun p65_28 => (if okI p65_28.1 6 = true then (if ((sx_sd Y) p65_28.1.toNatClampNeg) = 1 then some (1, p65_28.2) else some (0, p65_28.2)) else none)))) else ((rec 0 p25_3.2).bind fun p32_31 => (if b01 p32_31.1 = true then some (p32_31.1, (mo_wk' p32_31.2 ((mo_wk p32_31.2) + 1))) else none)))) else ((rec 2 p3_1.2).bind fun p10_33 => (if p10_33.1 = 0 then some (1, p10_33.2) else some (0, p10_33.2)))))
set_option maxRecDepth 100000 in
set_option maxHeartbeats 4000000 in
theorem c_Model_single {Γ : G9} {h : AH} {m q r sa sb z dd : Nat} {M : MO} {H : SH} {Y : SX} {rec : EV} {p : Int32 × MO} (hr0 : ∀ (M : MO) (p : Int32 × MO), rec 0 M = some p → CallR Γ M_Model_test (dd + 4) [.ref m] (md_ Γ h m q r sa sb r M H Y) z (some (.int p.1)) (md_ Γ h m q r sa sb r p.2 H Y)) (hr1 : ∀ (M : MO) (p : Int32 × MO), rec 1 M = some p → CallR Γ M_Model_both (dd + 4) [.ref m] (md_ Γ h m q r sa sb r M H Y) z (some (.int p.1)) (md_ Γ h m q r sa sb r p.2 H Y)) (hr2 : ∀ (M : MO) (p : Int32 × MO), rec 2 M = some p → CallR Γ M_Model_single (dd + 4) [.ref m] (md_ Γ h m q r sa sb r M H Y) z (some (.int p.1)) (md_ Γ h m q r sa sb r p.2 H Y)) (hr3 : ∀ (M : MO) (p : Int32 × MO), rec 3 M = some p → CallR Γ M_Model_sum (dd + 4) [.ref m] (md_ Γ h m q r sa sb r M H Y) z (some (.int p.1)) (md_ Γ h m q r sa sb r p.2 H Y)) (hr4 : ∀ (M : MO) (p : Int32 × MO), rec 4 M = some p → CallR Γ M_Model_product (dd + 4) [.ref m] (md_ Γ h m q r sa sb r M H Y) z (some (.int p.1)) (md_ Γ h m q r sa sb r p.2 H Y)) (hr5 : ∀ (M : MO) (p : Int32 × MO), rec 5 M = some p → CallR Γ M_Model_value (dd + 4) [.ref m] (md_ Γ h m q r sa sb r M H Y) z (some (.int p.1)) (md_ Γ h m q r sa sb r p.2 H Y)) (geo : m + 2 ≤ q ∧ m + 2 ≤ r ∧ (q + 24 ≤ r ∨ r + 21 ≤ q)) (hB : sh_ha H 0 ≤ 5) (hS : sh_ha H 3 ≤ 6) (hC : sh_ha H 6 ≤ 4) (hD : sh_ha H 9 ≤ 4) (hE : sh_ha H 11 ≤ 4) (hdy : sx_dy Y < 1000000) (hr : s_Model_single H Y rec M = some p) : CallR Γ M_Model_single (dd + 1 + 4) [.ref m] (md_ Γ h m q r sa sb r M H Y) z (some (.int p.1)) (md_ Γ h m q r sa sb r p.2 H Y) := by
  refine Call.of_go (L := [some (.ref m), none, none, none]) (by decide +kernel) rfl (by exact Nat.le_of_ble_eq_true rfl) ?_
  unfold s_Model_single at hr
  refine Go.aload_0 d_Model_single_0 rfl ?_
  refine Go.bipush (v := 30) d_Model_single_1 rfl (by decide) ?_
  obtain ⟨p3_1, hp3_1, hr⟩ := Option.bind_eq_some_iff.mp hr
  try dsimp only at hr
  refine Go.cv1r d_Model_single_3 rfl l_Model_268 k_Model_goesBy_v (mr_at_m (by omega) hB hS hC hD hE) rfl (c_Model_goesBy (Y := Y) (by omega) hB hS hC hD hE hp3_1) (Nat.ble_eq_true_of_le (by omega)) rfl rfl ?_
  refine Go.if_eq (t := 22) d_Model_single_6 (by decide) rfl (fun c6_2 => ?_) (fun c6_2 => ?_)
  · refine Go.aload_0 d_Model_single_22 rfl ?_
    refine Go.bipush (v := 42) d_Model_single_23 rfl (by decide) ?_
    rw [if_pos c6_2] at hr
    obtain ⟨p25_3, hp25_3, hr⟩ := Option.bind_eq_some_iff.mp hr
    try dsimp only at hr
    refine Go.cv1r d_Model_single_25 rfl l_Model_268 k_Model_goesBy_v (mr_at_m (by omega) hB hS hC hD hE) rfl (c_Model_goesBy (Y := Y) (by omega) hB hS hC hD hE hp25_3) (Nat.ble_eq_true_of_le (by omega)) rfl rfl ?_
    refine Go.if_eq (t := 48) d_Model_single_28 (by decide) rfl (fun c28_4 => ?_) (fun c28_4 => ?_)
    · refine Go.aload_0 d_Model_single_48 rfl ?_
      refine Go.bipush (v := 27) d_Model_single_49 rfl (by decide) ?_
      rw [if_pos c28_4] at hr
      obtain ⟨p51_5, hp51_5, hr⟩ := Option.bind_eq_some_iff.mp hr
      try dsimp only at hr
      refine Go.cv1r d_Model_single_51 rfl l_Model_268 k_Model_goesBy_v (mr_at_m (by omega) hB hS hC hD hE) rfl (c_Model_goesBy (Y := Y) (by omega) hB hS hC hD hE hp51_5) (Nat.ble_eq_true_of_le (by omega)) rfl rfl ?_
      refine Go.if_eq (t := 79) d_Model_single_54 (by decide) rfl (fun c54_6 => ?_) (fun c54_6 => ?_)
      · refine Go.aload_0 d_Model_single_79 rfl ?_
        refine Go.bipush (v := 28) d_Model_single_80 rfl (by decide) ?_
        rw [if_pos c54_6] at hr
        obtain ⟨p82_7, hp82_7, hr⟩ := Option.bind_eq_some_iff.mp hr
        try dsimp only at hr
        refine Go.cv1r d_Model_single_82 rfl l_Model_268 k_Model_goesBy_v (mr_at_m (by omega) hB hS hC hD hE) rfl (c_Model_goesBy (Y := Y) (by omega) hB hS hC hD hE hp82_7) (Nat.ble_eq_true_of_le (by omega)) rfl rfl ?_
        refine Go.if_eq (t := 110) d_Model_single_85 (by decide) rfl (fun c85_8 => ?_) (fun c85_8 => ?_)
        · refine Go.aload_0 d_Model_single_110 rfl ?_
          refine Go.bipush (v := 29) d_Model_single_111 rfl (by decide) ?_
          rw [if_pos c85_8] at hr
          obtain ⟨p113_9, hp113_9, hr⟩ := Option.bind_eq_some_iff.mp hr
          try dsimp only at hr
          refine Go.cv1r d_Model_single_113 rfl l_Model_268 k_Model_goesBy_v (mr_at_m (by omega) hB hS hC hD hE) rfl (c_Model_goesBy (Y := Y) (by omega) hB hS hC hD hE hp113_9) (Nat.ble_eq_true_of_le (by omega)) rfl rfl ?_
          refine Go.if_eq (t := 140) d_Model_single_116 (by decide) rfl (fun c116_10 => ?_) (fun c116_10 => ?_)
          · refine Go.aload_0 d_Model_single_140 rfl ?_
            rw [if_pos c116_10] at hr
            obtain ⟨p141_11, hp141_11, hr⟩ := Option.bind_eq_some_iff.mp hr
            try dsimp only at hr
            refine Go.cv0r d_Model_single_141 rfl l_Model_289 k_Model_sum_v (mr_at_m (by omega) hB hS hC hD hE) rfl (hr3 _ _ hp141_11) (Nat.ble_eq_true_of_le (by omega)) rfl rfl ?_
            refine Go.istore_1 d_Model_single_144 rfl (by rfl) ?_
            refine Go.aload_0 d_Model_single_145 rfl ?_
            refine Go.getfield d_Model_single_146 rfl f_Model_20 (mr_at_m (by omega) hB hS hC hD hE) (by rfl) ?_
            refine Go.getfield d_Model_single_149 rfl f_Model_93 (mr_at_q (by omega) hB hS hC hD hE) (by rfl) ?_
            refine Go.aload_0 d_Model_single_152 rfl ?_
            refine Go.getfield d_Model_single_153 rfl f_Model_261 (mr_at_m (by omega) hB hS hC hD hE) (by rfl) ?_
            have o156_12 : okI (mo_wk p141_11.2) 401 = true := Classical.byContradiction fun w => by
              rw [if_neg w] at hr
              cases hr
            refine Go.iaload d_Model_single_156 rfl (mr_at_q_1 (by omega) hB hS hC hD hE) (okI_in o156_12) ?_
            refine Go.istore_2 d_Model_single_157 rfl (by rfl) ?_
            refine Go.aload_0 d_Model_single_158 rfl ?_
            refine Go.dup d_Model_single_159 rfl rfl ?_
            refine Go.getfield d_Model_single_160 rfl f_Model_261 (mr_at_m (by omega) hB hS hC hD hE) (by rfl) ?_
            refine Go.iconst (v := 1) d_Model_single_163 rfl (by decide) ?_
            refine Go.iadd d_Model_single_164 rfl ?_
            refine Go.putfield d_Model_single_165 rfl f_Model_261_p (Or.inl (fun C T N h => by cases h; rfl)) (mr_at_m (by omega) hB hS hC hD hE) (by exact Nat.le_of_ble_eq_true rfl) rfl rfl ?_
            refine Go.heq (mr_put_m_walk (by omega) hB hS hC hD hE) ?_
            refine Go.aload_0 d_Model_single_168 rfl ?_
            rw [if_pos o156_12] at hr
            obtain ⟨p169_13, hp169_13, hr⟩ := Option.bind_eq_some_iff.mp hr
            try dsimp only at hr
            refine Go.cv0r d_Model_single_169 rfl l_Model_289 k_Model_sum_v (mr_at_m (by omega) hB hS hC hD hE) rfl (hr3 _ _ hp169_13) (Nat.ble_eq_true_of_le (by omega)) rfl rfl ?_
            refine Go.istore_3 d_Model_single_172 rfl (by rfl) ?_
            refine Go.iload_1 d_Model_single_173 rfl ?_
            refine Go.iload_3 d_Model_single_174 rfl ?_
            refine Go.icmp_ne (t := 196) d_Model_single_175 (by decide) rfl (fun c175_14 => ?_) (fun c175_14 => ?_)
            · refine Go.iload_1 d_Model_single_196 rfl ?_
              refine Go.iload_3 d_Model_single_197 rfl ?_
              refine Go.icmp_ge (t := 221) d_Model_single_198 (by decide) rfl (fun c198_15 => ?_) (fun c198_15 => ?_)
              · refine Go.iload_2 d_Model_single_221 rfl ?_
                refine Go.bipush (v := 51) d_Model_single_222 rfl (by decide) ?_
                refine Go.icmp_eq (t := 233) d_Model_single_224 (by decide) rfl (fun c224_16 => ?_) (fun c224_16 => ?_)
                · refine Go.iconst (v := 1) d_Model_single_233 rfl (by decide) ?_
                  refine Go.goto (t := 238) d_Model_single_234 (by decide) ?_
                  rw [if_neg c175_14, if_pos c198_15, if_pos c224_16] at hr
                  cases hr
                  exact Go.iret d_Model_single_238 rfl rfl ⟨rfl, rfl, rfl⟩
                · refine Go.iload_2 d_Model_single_227 rfl ?_
                  refine Go.bipush (v := 54) d_Model_single_228 rfl (by decide) ?_
                  refine Go.icmp_ne (t := 237) d_Model_single_230 (by decide) rfl (fun c230_17 => ?_) (fun c230_17 => ?_)
                  · refine Go.iconst (v := 0) d_Model_single_237 rfl (by decide) ?_
                    rw [if_neg c175_14, if_pos c198_15, if_neg c224_16, if_neg c230_17] at hr
                    cases hr
                    exact Go.iret d_Model_single_238 rfl rfl ⟨rfl, rfl, rfl⟩
                  · refine Go.iconst (v := 1) d_Model_single_233 rfl (by decide) ?_
                    refine Go.goto (t := 238) d_Model_single_234 (by decide) ?_
                    rw [if_neg c175_14, if_pos c198_15, if_neg c224_16, if_pos c230_17] at hr
                    cases hr
                    exact Go.iret d_Model_single_238 rfl rfl ⟨rfl, rfl, rfl⟩
              · refine Go.iload_2 d_Model_single_201 rfl ?_
                refine Go.bipush (v := 50) d_Model_single_202 rfl (by decide) ?_
                refine Go.icmp_eq (t := 213) d_Model_single_204 (by decide) rfl (fun c204_18 => ?_) (fun c204_18 => ?_)
                · refine Go.iconst (v := 1) d_Model_single_213 rfl (by decide) ?_
                  refine Go.goto (t := 238) d_Model_single_214 (by decide) ?_
                  rw [if_neg c175_14, if_neg c198_15, if_pos c204_18] at hr
                  cases hr
                  exact Go.iret d_Model_single_238 rfl rfl ⟨rfl, rfl, rfl⟩
                · refine Go.iload_2 d_Model_single_207 rfl ?_
                  refine Go.bipush (v := 53) d_Model_single_208 rfl (by decide) ?_
                  refine Go.icmp_ne (t := 217) d_Model_single_210 (by decide) rfl (fun c210_19 => ?_) (fun c210_19 => ?_)
                  · refine Go.iconst (v := 0) d_Model_single_217 rfl (by decide) ?_
                    refine Go.goto (t := 238) d_Model_single_218 (by decide) ?_
                    rw [if_neg c175_14, if_neg c198_15, if_neg c204_18, if_neg c210_19] at hr
                    cases hr
                    exact Go.iret d_Model_single_238 rfl rfl ⟨rfl, rfl, rfl⟩
                  · refine Go.iconst (v := 1) d_Model_single_213 rfl (by decide) ?_
                    refine Go.goto (t := 238) d_Model_single_214 (by decide) ?_
                    rw [if_neg c175_14, if_neg c198_15, if_neg c204_18, if_pos c210_19] at hr
                    cases hr
                    exact Go.iret d_Model_single_238 rfl rfl ⟨rfl, rfl, rfl⟩
            · refine Go.iload_2 d_Model_single_178 rfl ?_
              refine Go.bipush (v := 52) d_Model_single_179 rfl (by decide) ?_
              refine Go.icmp_eq (t := 190) d_Model_single_181 (by decide) rfl (fun c181_20 => ?_) (fun c181_20 => ?_)
              · refine Go.iconst (v := 1) d_Model_single_190 rfl (by decide) ?_
                refine Go.goto (t := 195) d_Model_single_191 (by decide) ?_
                rw [if_pos c175_14, if_pos c181_20] at hr
                cases hr
                exact Go.iret d_Model_single_195 rfl rfl ⟨rfl, rfl, rfl⟩
              · refine Go.iload_2 d_Model_single_184 rfl ?_
                refine Go.bipush (v := 53) d_Model_single_185 rfl (by decide) ?_
                refine Go.icmp_lt (t := 194) d_Model_single_187 (by decide) rfl (fun c187_21 => ?_) (fun c187_21 => ?_)
                · refine Go.iconst (v := 0) d_Model_single_194 rfl (by decide) ?_
                  rw [if_pos c175_14, if_neg c181_20, if_pos c187_21] at hr
                  cases hr
                  exact Go.iret d_Model_single_195 rfl rfl ⟨rfl, rfl, rfl⟩
                · refine Go.iconst (v := 1) d_Model_single_190 rfl (by decide) ?_
                  refine Go.goto (t := 195) d_Model_single_191 (by decide) ?_
                  rw [if_pos c175_14, if_neg c181_20, if_neg c187_21] at hr
                  cases hr
                  exact Go.iret d_Model_single_195 rfl rfl ⟨rfl, rfl, rfl⟩
          · refine Go.aload_0 d_Model_single_119 rfl ?_
            refine Go.getfield d_Model_single_120 rfl f_Model_34 (mr_at_m (by omega) hB hS hC hD hE) (by rfl) ?_
            refine Go.getfield d_Model_single_123 rfl f_Model_286 (mr_at_r (by omega) hB hS hC hD hE) (by rfl) ?_
            refine Go.aload_0 d_Model_single_126 rfl ?_
            rw [if_neg c116_10] at hr
            obtain ⟨p127_22, hp127_22, hr⟩ := Option.bind_eq_some_iff.mp hr
            try dsimp only at hr
            refine Go.cv0r d_Model_single_127 rfl l_Model_280 k_Model_named_v (mr_at_m (by omega) hB hS hC hD hE) rfl (c_Model_named (Y := Y) (by omega) hB hS hC hD hE hp127_22) (Nat.ble_eq_true_of_le (by omega)) rfl rfl ?_
            have o130_23 : okI p127_22.1 4 = true := Classical.byContradiction fun w => by
              rw [if_neg w] at hr
              cases hr
            refine Go.iaload d_Model_single_130 rfl (mr_at_r_9 (by omega) hB hS hC hD hE) (okI_in o130_23) ?_
            refine Go.if_le (t := 138) d_Model_single_131 (by decide) rfl (fun c131_24 => ?_) (fun c131_24 => ?_)
            · refine Go.iconst (v := 0) d_Model_single_138 rfl (by decide) ?_
              rw [if_pos o130_23, if_pos c131_24] at hr
              cases hr
              exact Go.iret d_Model_single_139 rfl rfl ⟨rfl, rfl, rfl⟩
            · refine Go.iconst (v := 1) d_Model_single_134 rfl (by decide) ?_
              refine Go.goto (t := 139) d_Model_single_135 (by decide) ?_
              rw [if_pos o130_23, if_neg c131_24] at hr
              cases hr
              exact Go.iret d_Model_single_139 rfl rfl ⟨rfl, rfl, rfl⟩
        · refine Go.aload_0 d_Model_single_88 rfl ?_
          refine Go.getfield d_Model_single_89 rfl f_Model_34 (mr_at_m (by omega) hB hS hC hD hE) (by rfl) ?_
          refine Go.getfield d_Model_single_92 rfl f_Model_283 (mr_at_r (by omega) hB hS hC hD hE) (by rfl) ?_
          refine Go.aload_0 d_Model_single_95 rfl ?_
          rw [if_neg c85_8] at hr
          obtain ⟨p96_25, hp96_25, hr⟩ := Option.bind_eq_some_iff.mp hr
          try dsimp only at hr
          refine Go.cv0r d_Model_single_96 rfl l_Model_280 k_Model_named_v (mr_at_m (by omega) hB hS hC hD hE) rfl (c_Model_named (Y := Y) (by omega) hB hS hC hD hE hp96_25) (Nat.ble_eq_true_of_le (by omega)) rfl rfl ?_
          have o99_26 : okI p96_25.1 4 = true := Classical.byContradiction fun w => by
            rw [if_neg w] at hr
            cases hr
          refine Go.iaload d_Model_single_99 rfl (mr_at_r_17 (by omega) hB hS hC hD hE) (okI_in o99_26) ?_
          refine Go.iconst (v := 1) d_Model_single_100 rfl (by decide) ?_
          refine Go.icmp_ne (t := 108) d_Model_single_101 (by decide) rfl (fun c101_27 => ?_) (fun c101_27 => ?_)
          · refine Go.iconst (v := 0) d_Model_single_108 rfl (by decide) ?_
            rw [if_pos o99_26, if_neg c101_27] at hr
            cases hr
            exact Go.iret d_Model_single_109 rfl rfl ⟨rfl, rfl, rfl⟩
          · refine Go.iconst (v := 1) d_Model_single_104 rfl (by decide) ?_
            refine Go.goto (t := 109) d_Model_single_105 (by decide) ?_
            rw [if_pos o99_26, if_pos c101_27] at hr
            cases hr
            exact Go.iret d_Model_single_109 rfl rfl ⟨rfl, rfl, rfl⟩
      · refine Go.aload_0 d_Model_single_57 rfl ?_
        refine Go.getfield d_Model_single_58 rfl f_Model_34 (mr_at_m (by omega) hB hS hC hD hE) (by rfl) ?_
        refine Go.getfield d_Model_single_61 rfl f_Model_277 (mr_at_r (by omega) hB hS hC hD hE) (by rfl) ?_
        refine Go.aload_0 d_Model_single_64 rfl ?_
        rw [if_neg c54_6] at hr
        obtain ⟨p65_28, hp65_28, hr⟩ := Option.bind_eq_some_iff.mp hr
        try dsimp only at hr
        refine Go.cv0r d_Model_single_65 rfl l_Model_280 k_Model_named_v (mr_at_m (by omega) hB hS hC hD hE) rfl (c_Model_named (Y := Y) (by omega) hB hS hC hD hE hp65_28) (Nat.ble_eq_true_of_le (by omega)) rfl rfl ?_
        have o68_29 : okI p65_28.1 6 = true := Classical.byContradiction fun w => by
          rw [if_neg w] at hr
          cases hr
        refine Go.iaload d_Model_single_68 rfl (mr_at_r_5 (by omega) hB hS hC hD hE) (okI_in o68_29) ?_
        refine Go.iconst (v := 1) d_Model_single_69 rfl (by decide) ?_
        refine Go.icmp_ne (t := 77) d_Model_single_70 (by decide) rfl (fun c70_30 => ?_) (fun c70_30 => ?_)
        · refine Go.iconst (v := 0) d_Model_single_77 rfl (by decide) ?_
          rw [if_pos o68_29, if_neg c70_30] at hr
          cases hr
          exact Go.iret d_Model_single_78 rfl rfl ⟨rfl, rfl, rfl⟩
        · refine Go.iconst (v := 1) d_Model_single_73 rfl (by decide) ?_
          refine Go.goto (t := 78) d_Model_single_74 (by decide) ?_
          rw [if_pos o68_29, if_pos c70_30] at hr
          cases hr
          exact Go.iret d_Model_single_78 rfl rfl ⟨rfl, rfl, rfl⟩
    · refine Go.aload_0 d_Model_single_31 rfl ?_
      rw [if_neg c28_4] at hr
      obtain ⟨p32_31, hp32_31, hr⟩ := Option.bind_eq_some_iff.mp hr
      try dsimp only at hr
      refine Go.cv0r d_Model_single_32 rfl l_Model_274 k_Model_test_v (mr_at_m (by omega) hB hS hC hD hE) rfl (hr0 _ _ hp32_31) (Nat.ble_eq_true_of_le (by omega)) rfl rfl ?_
      refine Go.istore_1 d_Model_single_35 rfl (by rfl) ?_
      refine Go.aload_0 d_Model_single_36 rfl ?_
      refine Go.dup d_Model_single_37 rfl rfl ?_
      refine Go.getfield d_Model_single_38 rfl f_Model_261 (mr_at_m (by omega) hB hS hC hD hE) (by rfl) ?_
      refine Go.iconst (v := 1) d_Model_single_41 rfl (by decide) ?_
      refine Go.iadd d_Model_single_42 rfl ?_
      refine Go.putfield d_Model_single_43 rfl f_Model_261_p (Or.inl (fun C T N h => by cases h; rfl)) (mr_at_m (by omega) hB hS hC hD hE) (by exact Nat.le_of_ble_eq_true rfl) rfl rfl ?_
      refine Go.heq (mr_put_m_walk (by omega) hB hS hC hD hE) ?_
      refine Go.iload_1 d_Model_single_46 rfl ?_
      have b47_32 : b01 p32_31.1 = true := Classical.byContradiction fun w => by
        rw [if_neg w] at hr
        cases hr
      rw [if_pos b47_32] at hr
      cases hr
      exact Go.iret d_Model_single_47 rfl (nb (b01_or b47_32)) ⟨rfl, rfl, rfl⟩
  · refine Go.aload_0 d_Model_single_9 rfl ?_
    rw [if_neg c6_2] at hr
    obtain ⟨p10_33, hp10_33, hr⟩ := Option.bind_eq_some_iff.mp hr
    try dsimp only at hr
    refine Go.cv0r d_Model_single_10 rfl l_Model_271 k_Model_single_v (mr_at_m (by omega) hB hS hC hD hE) rfl (hr2 _ _ hp10_33) (Nat.ble_eq_true_of_le (by omega)) rfl rfl ?_
    refine Go.if_ne (t := 20) d_Model_single_13 (by decide) rfl (fun c13_34 => ?_) (fun c13_34 => ?_)
    · refine Go.iconst (v := 0) d_Model_single_20 rfl (by decide) ?_
      rw [if_neg c13_34] at hr
      cases hr
      exact Go.iret d_Model_single_21 rfl rfl ⟨rfl, rfl, rfl⟩
    · refine Go.iconst (v := 1) d_Model_single_16 rfl (by decide) ?_
      refine Go.goto (t := 21) d_Model_single_17 (by decide) ?_
      rw [if_pos c13_34] at hr
      cases hr
      exact Go.iret d_Model_single_21 rfl rfl ⟨rfl, rfl, rfl⟩
theorem mr_c_Model_isIn_ {Γ : G9} {h : AH} {m q r sa sb z : Nat} {M : MO} {H : SH} {Y : SX} {x1 : Int32} {x2 : Int32} {x3 : Int32} (geo : m + 2 ≤ q ∧ m + 2 ≤ r ∧ (q + 24 ≤ r ∨ r + 21 ≤ q)) (hB : sh_ha H 0 ≤ 5) (hS : sh_ha H 3 ≤ 6) (hC : sh_ha H 6 ≤ 4) (hD : sh_ha H 9 ≤ 4) (hE : sh_ha H 11 ≤ 4) : CallR Γ M_Model_isIn 0 [.int x1, .int x2, .int x3] (md_ Γ h m q r sa sb r M H Y) z (some (.int (s_Model_isIn x1 x2 x3))) (md_ Γ h m q r sa sb r M H Y) := by
  unfold md_
  exact CallR.conv rfl rfl (c_Model_isIn)
theorem d_Model_sum_5 : decode M_Model_sum.2.1 5 = .ok (.aload_n 0, 1) := by decide +kernel
theorem d_Model_sum_6 : decode M_Model_sum.2.1 6 = .ok (.getfield 20, 3) := by decide +kernel
theorem d_Model_sum_9 : decode M_Model_sum.2.1 9 = .ok (.getfield 93, 3) := by decide +kernel
theorem d_Model_sum_12 : decode M_Model_sum.2.1 12 = .ok (.aload_n 0, 1) := by decide +kernel
theorem d_Model_sum_13 : decode M_Model_sum.2.1 13 = .ok (.getfield 261, 3) := by decide +kernel
theorem d_Model_sum_16 : decode M_Model_sum.2.1 16 = .ok (.iaload, 1) := by decide +kernel
theorem d_Model_sum_17 : decode M_Model_sum.2.1 17 = .ok (.bipush 46, 2) := by decide +kernel
theorem d_Model_sum_19 : decode M_Model_sum.2.1 19 = .ok (.bipush 47, 2) := by decide +kernel
theorem d_Model_sum_21 : decode M_Model_sum.2.1 21 = .ok (.invokestatic 43, 3) := by decide +kernel
theorem d_Model_sum_24 : decode M_Model_sum.2.1 24 = .ok (.ifCond .eq 50, 3) := by decide +kernel
theorem d_Model_sum_27 : decode M_Model_sum.2.1 27 = .ok (.aload_n 0, 1) := by decide +kernel
theorem d_Model_sum_28 : decode M_Model_sum.2.1 28 = .ok (.getfield 20, 3) := by decide +kernel
theorem d_Model_sum_31 : decode M_Model_sum.2.1 31 = .ok (.getfield 93, 3) := by decide +kernel
theorem d_Model_sum_34 : decode M_Model_sum.2.1 34 = .ok (.aload_n 0, 1) := by decide +kernel
theorem d_Model_sum_35 : decode M_Model_sum.2.1 35 = .ok (.getfield 261, 3) := by decide +kernel
theorem d_Model_sum_38 : decode M_Model_sum.2.1 38 = .ok (.iaload, 1) := by decide +kernel
theorem d_Model_sum_39 : decode M_Model_sum.2.1 39 = .ok (.istore_n 2, 1) := by decide +kernel
theorem d_Model_sum_40 : decode M_Model_sum.2.1 40 = .ok (.aload_n 0, 1) := by decide +kernel
theorem d_Model_sum_41 : decode M_Model_sum.2.1 41 = .ok (.dup, 1) := by decide +kernel
theorem d_Model_sum_42 : decode M_Model_sum.2.1 42 = .ok (.getfield 261, 3) := by decide +kernel
theorem d_Model_sum_45 : decode M_Model_sum.2.1 45 = .ok (.iconst 1, 1) := by decide +kernel
theorem d_Model_sum_46 : decode M_Model_sum.2.1 46 = .ok (.iadd, 1) := by decide +kernel
theorem d_Model_sum_47 : decode M_Model_sum.2.1 47 = .ok (.putfield 261, 3) := by decide +kernel
theorem d_Model_sum_50 : decode M_Model_sum.2.1 50 = .ok (.aload_n 0, 1) := by decide +kernel
theorem d_Model_sum_51 : decode M_Model_sum.2.1 51 = .ok (.invokevirtual 291, 3) := by decide +kernel
theorem d_Model_sum_54 : decode M_Model_sum.2.1 54 = .ok (.istore_n 3, 1) := by decide +kernel
theorem d_Model_sum_55 : decode M_Model_sum.2.1 55 = .ok (.iload_n 2, 1) := by decide +kernel
theorem d_Model_sum_56 : decode M_Model_sum.2.1 56 = .ok (.bipush 46, 2) := by decide +kernel
theorem d_Model_sum_58 : decode M_Model_sum.2.1 58 = .ok (.if_icmp .ne 9, 3) := by decide +kernel
theorem d_Model_sum_61 : decode M_Model_sum.2.1 61 = .ok (.iload_n 1, 1) := by decide +kernel
theorem d_Model_sum_62 : decode M_Model_sum.2.1 62 = .ok (.iload_n 3, 1) := by decide +kernel
theorem d_Model_sum_63 : decode M_Model_sum.2.1 63 = .ok (.iadd, 1) := by decide +kernel
theorem d_Model_sum_64 : decode M_Model_sum.2.1 64 = .ok (.goto 6, 3) := by decide +kernel
theorem d_Model_sum_67 : decode M_Model_sum.2.1 67 = .ok (.iload_n 1, 1) := by decide +kernel
theorem d_Model_sum_68 : decode M_Model_sum.2.1 68 = .ok (.iload_n 3, 1) := by decide +kernel
theorem d_Model_sum_69 : decode M_Model_sum.2.1 69 = .ok (.isub, 1) := by decide +kernel
theorem d_Model_sum_70 : decode M_Model_sum.2.1 70 = .ok (.istore_n 1, 1) := by decide +kernel
theorem d_Model_sum_71 : decode M_Model_sum.2.1 71 = .ok (.goto (-66), 3) := by decide +kernel
theorem d_Model_sum_74 : decode M_Model_sum.2.1 74 = .ok (.iload_n 1, 1) := by decide +kernel
theorem d_Model_sum_75 : decode M_Model_sum.2.1 75 = .ok (.ireturn, 1) := by decide +kernel
def l_Model_sum (H : SH) (Y : SX) (rec : EV) : Nat → Int32 → MO → Option (Int32 × MO)
  | 0, _, _ => none
  | k + 1, v, M => (if okI (mo_wk M) 401 = true then (if (s_Model_isIn ((sh_kd H) (mo_wk M).toNatClampNeg) 46 47) = 0 then some (v, M) else (if okI (mo_wk M) 401 = true then ((rec 4 (mo_wk' M ((mo_wk M) + 1))).bind fun p51_4 => (if ((sh_kd H) (mo_wk M).toNatClampNeg) = 46 then (l_Model_sum H Y rec k (v + p51_4.1) p51_4.2) else (l_Model_sum H Y rec k (v - p51_4.1) p51_4.2))) else none)) else none)
set_option maxRecDepth 100000 in
set_option maxHeartbeats 4000000 in
theorem l_Model_sum_go {Γ : G9} {h : AH} {m q r sa sb z dd : Nat} {H : SH} {Y : SX} {rec : EV} {p : Int32 × MO} (hr0 : ∀ (M : MO) (p : Int32 × MO), rec 0 M = some p → CallR Γ M_Model_test (dd + 4) [.ref m] (md_ Γ h m q r sa sb r M H Y) z (some (.int p.1)) (md_ Γ h m q r sa sb r p.2 H Y)) (hr1 : ∀ (M : MO) (p : Int32 × MO), rec 1 M = some p → CallR Γ M_Model_both (dd + 4) [.ref m] (md_ Γ h m q r sa sb r M H Y) z (some (.int p.1)) (md_ Γ h m q r sa sb r p.2 H Y)) (hr2 : ∀ (M : MO) (p : Int32 × MO), rec 2 M = some p → CallR Γ M_Model_single (dd + 4) [.ref m] (md_ Γ h m q r sa sb r M H Y) z (some (.int p.1)) (md_ Γ h m q r sa sb r p.2 H Y)) (hr3 : ∀ (M : MO) (p : Int32 × MO), rec 3 M = some p → CallR Γ M_Model_sum (dd + 4) [.ref m] (md_ Γ h m q r sa sb r M H Y) z (some (.int p.1)) (md_ Γ h m q r sa sb r p.2 H Y)) (hr4 : ∀ (M : MO) (p : Int32 × MO), rec 4 M = some p → CallR Γ M_Model_product (dd + 4) [.ref m] (md_ Γ h m q r sa sb r M H Y) z (some (.int p.1)) (md_ Γ h m q r sa sb r p.2 H Y)) (hr5 : ∀ (M : MO) (p : Int32 × MO), rec 5 M = some p → CallR Γ M_Model_value (dd + 4) [.ref m] (md_ Γ h m q r sa sb r M H Y) z (some (.int p.1)) (md_ Γ h m q r sa sb r p.2 H Y)) (geo : m + 2 ≤ q ∧ m + 2 ≤ r ∧ (q + 24 ≤ r ∨ r + 21 ≤ q)) (hB : sh_ha H 0 ≤ 5) (hS : sh_ha H 3 ≤ 6) (hC : sh_ha H 6 ≤ 4) (hD : sh_ha H 9 ≤ 4) (hE : sh_ha H 11 ≤ 4) (hdy : sx_dy Y < 1000000) : ∀ (k : Nat) (v : Int32) (M : MO), l_Model_sum H Y rec k v M = some p → Go Γ M_Model_sum (dd + 1 + 4) 0 0 5 [some (.ref m), some (.int v), none, none] [] (md_ Γ h m q r sa sb r M H Y) z (RQ (some (.int p.1)) (md_ Γ h m q r sa sb r p.2 H Y) z) noX := by
  intro k
  induction k with
  | zero =>
    intro v M hr
    cases hr
  | succ k ih =>
    intro v M hr
    unfold l_Model_sum at hr
    refine Go.aload_0 d_Model_sum_5 rfl ?_
    refine Go.getfield d_Model_sum_6 rfl f_Model_20 (mr_at_m (by omega) hB hS hC hD hE) (by rfl) ?_
    refine Go.getfield d_Model_sum_9 rfl f_Model_93 (mr_at_q (by omega) hB hS hC hD hE) (by rfl) ?_
    refine Go.aload_0 d_Model_sum_12 rfl ?_
    refine Go.getfield d_Model_sum_13 rfl f_Model_261 (mr_at_m (by omega) hB hS hC hD hE) (by rfl) ?_
    have o16_1 : okI (mo_wk M) 401 = true := Classical.byContradiction fun w => by
      rw [if_neg w] at hr
      cases hr
    refine Go.iaload d_Model_sum_16 rfl (mr_at_q_1 (by omega) hB hS hC hD hE) (okI_in o16_1) ?_
    refine Go.bipush (v := 46) d_Model_sum_17 rfl (by decide) ?_
    refine Go.bipush (v := 47) d_Model_sum_19 rfl (by decide) ?_
    refine Go.cs3r d_Model_sum_21 rfl l_Model_43 k_Model_isIn_s rfl (mr_c_Model_isIn_ (by omega) hB hS hC hD hE) (Nat.ble_eq_true_of_le (by omega)) rfl rfl ?_
    refine Go.if_eq (t := 74) d_Model_sum_24 (by decide) rfl (fun c24_2 => ?_) (fun c24_2 => ?_)
    · refine Go.iload_1 d_Model_sum_74 rfl ?_
      rw [if_pos o16_1, if_pos c24_2] at hr
      cases hr
      exact Go.iret d_Model_sum_75 rfl rfl ⟨rfl, rfl, rfl⟩
    · refine Go.aload_0 d_Model_sum_27 rfl ?_
      refine Go.getfield d_Model_sum_28 rfl f_Model_20 (mr_at_m (by omega) hB hS hC hD hE) (by rfl) ?_
      refine Go.getfield d_Model_sum_31 rfl f_Model_93 (mr_at_q (by omega) hB hS hC hD hE) (by rfl) ?_
      refine Go.aload_0 d_Model_sum_34 rfl ?_
      refine Go.getfield d_Model_sum_35 rfl f_Model_261 (mr_at_m (by omega) hB hS hC hD hE) (by rfl) ?_
      have o38_3 : okI (mo_wk M) 401 = true := Classical.byContradiction fun w => by
        rw [if_pos o16_1, if_neg c24_2, if_neg w] at hr
        cases hr
      refine Go.iaload d_Model_sum_38 rfl (mr_at_q_1 (by omega) hB hS hC hD hE) (okI_in o38_3) ?_
      refine Go.istore_2 d_Model_sum_39 rfl (by rfl) ?_
      refine Go.aload_0 d_Model_sum_40 rfl ?_
      refine Go.dup d_Model_sum_41 rfl rfl ?_
      refine Go.getfield d_Model_sum_42 rfl f_Model_261 (mr_at_m (by omega) hB hS hC hD hE) (by rfl) ?_
      refine Go.iconst (v := 1) d_Model_sum_45 rfl (by decide) ?_
      refine Go.iadd d_Model_sum_46 rfl ?_
      refine Go.putfield d_Model_sum_47 rfl f_Model_261_p (Or.inl (fun C T N h => by cases h; rfl)) (mr_at_m (by omega) hB hS hC hD hE) (by exact Nat.le_of_ble_eq_true rfl) rfl rfl ?_
      refine Go.heq (mr_put_m_walk (by omega) hB hS hC hD hE) ?_
      refine Go.aload_0 d_Model_sum_50 rfl ?_
      rw [if_pos o16_1, if_neg c24_2, if_pos o38_3] at hr
      obtain ⟨p51_4, hp51_4, hr⟩ := Option.bind_eq_some_iff.mp hr
      try dsimp only at hr
      refine Go.cv0r d_Model_sum_51 rfl l_Model_291 k_Model_product_v (mr_at_m (by omega) hB hS hC hD hE) rfl (hr4 _ _ hp51_4) (Nat.ble_eq_true_of_le (by omega)) rfl rfl ?_
      refine Go.istore_3 d_Model_sum_54 rfl (by rfl) ?_
      refine Go.iload_2 d_Model_sum_55 rfl ?_
      refine Go.bipush (v := 46) d_Model_sum_56 rfl (by decide) ?_
      refine Go.icmp_ne (t := 67) d_Model_sum_58 (by decide) rfl (fun c58_5 => ?_) (fun c58_5 => ?_)
      · refine Go.iload_1 d_Model_sum_67 rfl ?_
        refine Go.iload_3 d_Model_sum_68 rfl ?_
        refine Go.isub d_Model_sum_69 rfl ?_
        refine Go.istore_1 d_Model_sum_70 rfl (by rfl) ?_
        refine Go.goto (t := 5) d_Model_sum_71 (by decide) ?_
        rw [if_neg c58_5] at hr
        refine Go.fgt [some (.ref m), some (.int (v - p51_4.1)), none, none] (by repeat' (first | exact trivial | refine ⟨rfl, ?_⟩)) ?_
        exact ih _ _ hr
      · refine Go.iload_1 d_Model_sum_61 rfl ?_
        refine Go.iload_3 d_Model_sum_62 rfl ?_
        refine Go.iadd d_Model_sum_63 rfl ?_
        refine Go.goto (t := 70) d_Model_sum_64 (by decide) ?_
        refine Go.istore_1 d_Model_sum_70 rfl (by rfl) ?_
        refine Go.goto (t := 5) d_Model_sum_71 (by decide) ?_
        rw [if_pos c58_5] at hr
        refine Go.fgt [some (.ref m), some (.int (v + p51_4.1)), none, none] (by repeat' (first | exact trivial | refine ⟨rfl, ?_⟩)) ?_
        exact ih _ _ hr
theorem d_Model_sum_0 : decode M_Model_sum.2.1 0 = .ok (.aload_n 0, 1) := by decide +kernel
theorem d_Model_sum_1 : decode M_Model_sum.2.1 1 = .ok (.invokevirtual 291, 3) := by decide +kernel
theorem d_Model_sum_4 : decode M_Model_sum.2.1 4 = .ok (.istore_n 1, 1) := by decide +kernel
def s_Model_sum (H : SH) (Y : SX) (rec : EV) (M : MO) : Option (Int32 × MO) := ((rec 4 M).bind fun p1_1 => (l_Model_sum H Y rec 401 p1_1.1 p1_1.2))
set_option maxRecDepth 100000 in
set_option maxHeartbeats 4000000 in
theorem c_Model_sum {Γ : G9} {h : AH} {m q r sa sb z dd : Nat} {M : MO} {H : SH} {Y : SX} {rec : EV} {p : Int32 × MO} (hr0 : ∀ (M : MO) (p : Int32 × MO), rec 0 M = some p → CallR Γ M_Model_test (dd + 4) [.ref m] (md_ Γ h m q r sa sb r M H Y) z (some (.int p.1)) (md_ Γ h m q r sa sb r p.2 H Y)) (hr1 : ∀ (M : MO) (p : Int32 × MO), rec 1 M = some p → CallR Γ M_Model_both (dd + 4) [.ref m] (md_ Γ h m q r sa sb r M H Y) z (some (.int p.1)) (md_ Γ h m q r sa sb r p.2 H Y)) (hr2 : ∀ (M : MO) (p : Int32 × MO), rec 2 M = some p → CallR Γ M_Model_single (dd + 4) [.ref m] (md_ Γ h m q r sa sb r M H Y) z (some (.int p.1)) (md_ Γ h m q r sa sb r p.2 H Y)) (hr3 : ∀ (M : MO) (p : Int32 × MO), rec 3 M = some p → CallR Γ M_Model_sum (dd + 4) [.ref m] (md_ Γ h m q r sa sb r M H Y) z (some (.int p.1)) (md_ Γ h m q r sa sb r p.2 H Y)) (hr4 : ∀ (M : MO) (p : Int32 × MO), rec 4 M = some p → CallR Γ M_Model_product (dd + 4) [.ref m] (md_ Γ h m q r sa sb r M H Y) z (some (.int p.1)) (md_ Γ h m q r sa sb r p.2 H Y)) (hr5 : ∀ (M : MO) (p : Int32 × MO), rec 5 M = some p → CallR Γ M_Model_value (dd + 4) [.ref m] (md_ Γ h m q r sa sb r M H Y) z (some (.int p.1)) (md_ Γ h m q r sa sb r p.2 H Y)) (geo : m + 2 ≤ q ∧ m + 2 ≤ r ∧ (q + 24 ≤ r ∨ r + 21 ≤ q)) (hB : sh_ha H 0 ≤ 5) (hS : sh_ha H 3 ≤ 6) (hC : sh_ha H 6 ≤ 4) (hD : sh_ha H 9 ≤ 4) (hE : sh_ha H 11 ≤ 4) (hdy : sx_dy Y < 1000000) (hr : s_Model_sum H Y rec M = some p) : CallR Γ M_Model_sum (dd + 1 + 4) [.ref m] (md_ Γ h m q r sa sb r M H Y) z (some (.int p.1)) (md_ Γ h m q r sa sb r p.2 H Y) := by
  refine Call.of_go (L := [some (.ref m), none, none, none]) (by decide +kernel) rfl (by exact Nat.le_of_ble_eq_true rfl) ?_
  unfold s_Model_sum at hr
  refine Go.aload_0 d_Model_sum_0 rfl ?_
  obtain ⟨p1_1, hp1_1, hr⟩ := Option.bind_eq_some_iff.mp hr
  try dsimp only at hr
  refine Go.cv0r d_Model_sum_1 rfl l_Model_291 k_Model_product_v (mr_at_m (by omega) hB hS hC hD hE) rfl (hr4 _ _ hp1_1) (Nat.ble_eq_true_of_le (by omega)) rfl rfl ?_
  refine Go.istore_1 d_Model_sum_4 rfl (by rfl) ?_
  exact l_Model_sum_go hr0 hr1 hr2 hr3 hr4 hr5 geo hB hS hC hD hE hdy _ _ _ hr
theorem d_Model_product_5 : decode M_Model_product.2.1 5 = .ok (.aload_n 0, 1) := by decide +kernel
theorem d_Model_product_6 : decode M_Model_product.2.1 6 = .ok (.getfield 20, 3) := by decide +kernel
theorem d_Model_product_9 : decode M_Model_product.2.1 9 = .ok (.getfield 93, 3) := by decide +kernel
theorem d_Model_product_12 : decode M_Model_product.2.1 12 = .ok (.aload_n 0, 1) := by decide +kernel
theorem d_Model_product_13 : decode M_Model_product.2.1 13 = .ok (.getfield 261, 3) := by decide +kernel
theorem d_Model_product_16 : decode M_Model_product.2.1 16 = .ok (.iaload, 1) := by decide +kernel
theorem d_Model_product_17 : decode M_Model_product.2.1 17 = .ok (.bipush 48, 2) := by decide +kernel
theorem d_Model_product_19 : decode M_Model_product.2.1 19 = .ok (.bipush 49, 2) := by decide +kernel
theorem d_Model_product_21 : decode M_Model_product.2.1 21 = .ok (.invokestatic 43, 3) := by decide +kernel
theorem d_Model_product_24 : decode M_Model_product.2.1 24 = .ok (.ifCond .eq 58, 3) := by decide +kernel
theorem d_Model_product_27 : decode M_Model_product.2.1 27 = .ok (.aload_n 0, 1) := by decide +kernel
theorem d_Model_product_28 : decode M_Model_product.2.1 28 = .ok (.getfield 20, 3) := by decide +kernel
theorem d_Model_product_31 : decode M_Model_product.2.1 31 = .ok (.getfield 93, 3) := by decide +kernel
theorem d_Model_product_34 : decode M_Model_product.2.1 34 = .ok (.aload_n 0, 1) := by decide +kernel
theorem d_Model_product_35 : decode M_Model_product.2.1 35 = .ok (.getfield 261, 3) := by decide +kernel
theorem d_Model_product_38 : decode M_Model_product.2.1 38 = .ok (.iaload, 1) := by decide +kernel
theorem d_Model_product_39 : decode M_Model_product.2.1 39 = .ok (.istore_n 2, 1) := by decide +kernel
theorem d_Model_product_40 : decode M_Model_product.2.1 40 = .ok (.aload_n 0, 1) := by decide +kernel
theorem d_Model_product_41 : decode M_Model_product.2.1 41 = .ok (.dup, 1) := by decide +kernel
theorem d_Model_product_42 : decode M_Model_product.2.1 42 = .ok (.getfield 261, 3) := by decide +kernel
theorem d_Model_product_45 : decode M_Model_product.2.1 45 = .ok (.iconst 1, 1) := by decide +kernel
theorem d_Model_product_46 : decode M_Model_product.2.1 46 = .ok (.iadd, 1) := by decide +kernel
theorem d_Model_product_47 : decode M_Model_product.2.1 47 = .ok (.putfield 261, 3) := by decide +kernel
theorem d_Model_product_50 : decode M_Model_product.2.1 50 = .ok (.aload_n 0, 1) := by decide +kernel
theorem d_Model_product_51 : decode M_Model_product.2.1 51 = .ok (.invokevirtual 294, 3) := by decide +kernel
theorem d_Model_product_54 : decode M_Model_product.2.1 54 = .ok (.istore_n 3, 1) := by decide +kernel
theorem d_Model_product_55 : decode M_Model_product.2.1 55 = .ok (.iload_n 2, 1) := by decide +kernel
theorem d_Model_product_56 : decode M_Model_product.2.1 56 = .ok (.bipush 48, 2) := by decide +kernel
theorem d_Model_product_58 : decode M_Model_product.2.1 58 = .ok (.if_icmp .ne 9, 3) := by decide +kernel
theorem d_Model_product_61 : decode M_Model_product.2.1 61 = .ok (.iload_n 1, 1) := by decide +kernel
theorem d_Model_product_62 : decode M_Model_product.2.1 62 = .ok (.iload_n 3, 1) := by decide +kernel
theorem d_Model_product_63 : decode M_Model_product.2.1 63 = .ok (.imul, 1) := by decide +kernel
theorem d_Model_product_64 : decode M_Model_product.2.1 64 = .ok (.goto 14, 3) := by decide +kernel
theorem d_Model_product_67 : decode M_Model_product.2.1 67 = .ok (.iload_n 3, 1) := by decide +kernel
theorem d_Model_product_68 : decode M_Model_product.2.1 68 = .ok (.ifCond .ne 7, 3) := by decide +kernel
theorem d_Model_product_71 : decode M_Model_product.2.1 71 = .ok (.iconst 0, 1) := by decide +kernel
theorem d_Model_product_72 : decode M_Model_product.2.1 72 = .ok (.goto 6, 3) := by decide +kernel
theorem d_Model_product_75 : decode M_Model_product.2.1 75 = .ok (.iload_n 1, 1) := by decide +kernel
theorem d_Model_product_76 : decode M_Model_product.2.1 76 = .ok (.iload_n 3, 1) := by decide +kernel
theorem d_Model_product_77 : decode M_Model_product.2.1 77 = .ok (.idiv, 1) := by decide +kernel
theorem d_Model_product_78 : decode M_Model_product.2.1 78 = .ok (.istore_n 1, 1) := by decide +kernel
theorem d_Model_product_79 : decode M_Model_product.2.1 79 = .ok (.goto (-74), 3) := by decide +kernel
theorem d_Model_product_82 : decode M_Model_product.2.1 82 = .ok (.iload_n 1, 1) := by decide +kernel
theorem d_Model_product_83 : decode M_Model_product.2.1 83 = .ok (.ireturn, 1) := by decide +kernel
def l_Model_product (H : SH) (Y : SX) (rec : EV) : Nat → Int32 → MO → Option (Int32 × MO)
  | 0, _, _ => none
  | k + 1, v, M => (if okI (mo_wk M) 401 = true then (if (s_Model_isIn ((sh_kd H) (mo_wk M).toNatClampNeg) 48 49) = 0 then some (v, M) else (if okI (mo_wk M) 401 = true then ((rec 5 (mo_wk' M ((mo_wk M) + 1))).bind fun p51_4 => (if ((sh_kd H) (mo_wk M).toNatClampNeg) = 48 then (l_Model_product H Y rec k (v * p51_4.1) p51_4.2) else (if p51_4.1 = 0 then (l_Model_product H Y rec k 0 p51_4.2) else (l_Model_product H Y rec k (v / p51_4.1) p51_4.2)))) else none)) else none)
set_option maxRecDepth 100000 in
set_option maxHeartbeats 4000000 in
theorem l_Model_product_go {Γ : G9} {h : AH} {m q r sa sb z dd : Nat} {H : SH} {Y : SX} {rec : EV} {p : Int32 × MO} (hr0 : ∀ (M : MO) (p : Int32 × MO), rec 0 M = some p → CallR Γ M_Model_test (dd + 4) [.ref m] (md_ Γ h m q r sa sb r M H Y) z (some (.int p.1)) (md_ Γ h m q r sa sb r p.2 H Y)) (hr1 : ∀ (M : MO) (p : Int32 × MO), rec 1 M = some p → CallR Γ M_Model_both (dd + 4) [.ref m] (md_ Γ h m q r sa sb r M H Y) z (some (.int p.1)) (md_ Γ h m q r sa sb r p.2 H Y)) (hr2 : ∀ (M : MO) (p : Int32 × MO), rec 2 M = some p → CallR Γ M_Model_single (dd + 4) [.ref m] (md_ Γ h m q r sa sb r M H Y) z (some (.int p.1)) (md_ Γ h m q r sa sb r p.2 H Y)) (hr3 : ∀ (M : MO) (p : Int32 × MO), rec 3 M = some p → CallR Γ M_Model_sum (dd + 4) [.ref m] (md_ Γ h m q r sa sb r M H Y) z (some (.int p.1)) (md_ Γ h m q r sa sb r p.2 H Y)) (hr4 : ∀ (M : MO) (p : Int32 × MO), rec 4 M = some p → CallR Γ M_Model_product (dd + 4) [.ref m] (md_ Γ h m q r sa sb r M H Y) z (some (.int p.1)) (md_ Γ h m q r sa sb r p.2 H Y)) (hr5 : ∀ (M : MO) (p : Int32 × MO), rec 5 M = some p → CallR Γ M_Model_value (dd + 4) [.ref m] (md_ Γ h m q r sa sb r M H Y) z (some (.int p.1)) (md_ Γ h m q r sa sb r p.2 H Y)) (geo : m + 2 ≤ q ∧ m + 2 ≤ r ∧ (q + 24 ≤ r ∨ r + 21 ≤ q)) (hB : sh_ha H 0 ≤ 5) (hS : sh_ha H 3 ≤ 6) (hC : sh_ha H 6 ≤ 4) (hD : sh_ha H 9 ≤ 4) (hE : sh_ha H 11 ≤ 4) (hdy : sx_dy Y < 1000000) : ∀ (k : Nat) (v : Int32) (M : MO), l_Model_product H Y rec k v M = some p → Go Γ M_Model_product (dd + 1 + 4) 0 0 5 [some (.ref m), some (.int v), none, none] [] (md_ Γ h m q r sa sb r M H Y) z (RQ (some (.int p.1)) (md_ Γ h m q r sa sb r p.2 H Y) z) noX := by
  intro k
  induction k with
  | zero =>
    intro v M hr
    cases hr
  | succ k ih =>
    intro v M hr
    unfold l_Model_product at hr
    refine Go.aload_0 d_Model_product_5 rfl ?_
    refine Go.getfield d_Model_product_6 rfl f_Model_20 (mr_at_m (by omega) hB hS hC hD hE) (by rfl) ?_
    refine Go.getfield d_Model_product_9 rfl f_Model_93 (mr_at_q (by omega) hB hS hC hD hE) (by rfl) ?_
    refine Go.aload_0 d_Model_product_12 rfl ?_
    refine Go.getfield d_Model_product_13 rfl f_Model_261 (mr_at_m (by omega) hB hS hC hD hE) (by rfl) ?_
    have o16_1 : okI (mo_wk M) 401 = true := Classical.byContradiction fun w => by
      rw [if_neg w] at hr
      cases hr
    refine Go.iaload d_Model_product_16 rfl (mr_at_q_1 (by omega) hB hS hC hD hE) (okI_in o16_1) ?_
    refine Go.bipush (v := 48) d_Model_product_17 rfl (by decide) ?_
    refine Go.bipush (v := 49) d_Model_product_19 rfl (by decide) ?_
    refine Go.cs3r d_Model_product_21 rfl l_Model_43 k_Model_isIn_s rfl (mr_c_Model_isIn_ (by omega) hB hS hC hD hE) (Nat.ble_eq_true_of_le (by omega)) rfl rfl ?_
    refine Go.if_eq (t := 82) d_Model_product_24 (by decide) rfl (fun c24_2 => ?_) (fun c24_2 => ?_)
    · refine Go.iload_1 d_Model_product_82 rfl ?_
      rw [if_pos o16_1, if_pos c24_2] at hr
      cases hr
      exact Go.iret d_Model_product_83 rfl rfl ⟨rfl, rfl, rfl⟩
    · refine Go.aload_0 d_Model_product_27 rfl ?_
      refine Go.getfield d_Model_product_28 rfl f_Model_20 (mr_at_m (by omega) hB hS hC hD hE) (by rfl) ?_
      refine Go.getfield d_Model_product_31 rfl f_Model_93 (mr_at_q (by omega) hB hS hC hD hE) (by rfl) ?_
      refine Go.aload_0 d_Model_product_34 rfl ?_
      refine Go.getfield d_Model_product_35 rfl f_Model_261 (mr_at_m (by omega) hB hS hC hD hE) (by rfl) ?_
      have o38_3 : okI (mo_wk M) 401 = true := Classical.byContradiction fun w => by
        rw [if_pos o16_1, if_neg c24_2, if_neg w] at hr
        cases hr
      refine Go.iaload d_Model_product_38 rfl (mr_at_q_1 (by omega) hB hS hC hD hE) (okI_in o38_3) ?_
      refine Go.istore_2 d_Model_product_39 rfl (by rfl) ?_
      refine Go.aload_0 d_Model_product_40 rfl ?_
      refine Go.dup d_Model_product_41 rfl rfl ?_
      refine Go.getfield d_Model_product_42 rfl f_Model_261 (mr_at_m (by omega) hB hS hC hD hE) (by rfl) ?_
      refine Go.iconst (v := 1) d_Model_product_45 rfl (by decide) ?_
      refine Go.iadd d_Model_product_46 rfl ?_
      refine Go.putfield d_Model_product_47 rfl f_Model_261_p (Or.inl (fun C T N h => by cases h; rfl)) (mr_at_m (by omega) hB hS hC hD hE) (by exact Nat.le_of_ble_eq_true rfl) rfl rfl ?_
      refine Go.heq (mr_put_m_walk (by omega) hB hS hC hD hE) ?_
      refine Go.aload_0 d_Model_product_50 rfl ?_
      rw [if_pos o16_1, if_neg c24_2, if_pos o38_3] at hr
      obtain ⟨p51_4, hp51_4, hr⟩ := Option.bind_eq_some_iff.mp hr
      try dsimp only at hr
      refine Go.cv0r d_Model_product_51 rfl l_Model_294 k_Model_value_v (mr_at_m (by omega) hB hS hC hD hE) rfl (hr5 _ _ hp51_4) (Nat.ble_eq_true_of_le (by omega)) rfl rfl ?_
      refine Go.istore_3 d_Model_product_54 rfl (by rfl) ?_
      refine Go.iload_2 d_Model_product_55 rfl ?_
      refine Go.bipush (v := 48) d_Model_product_56 rfl (by decide) ?_
      refine Go.icmp_ne (t := 67) d_Model_product_58 (by decide) rfl (fun c58_5 => ?_) (fun c58_5 => ?_)
      · refine Go.iload_3 d_Model_product_67 rfl ?_
        refine Go.if_ne (t := 75) d_Model_product_68 (by decide) rfl (fun c68_6 => ?_) (fun c68_6 => ?_)
        · refine Go.iload_1 d_Model_product_75 rfl ?_
          refine Go.iload_3 d_Model_product_76 rfl ?_
          refine Go.idiv d_Model_product_77 rfl (by assumption) ?_
          refine Go.istore_1 d_Model_product_78 rfl (by rfl) ?_
          refine Go.goto (t := 5) d_Model_product_79 (by decide) ?_
          rw [if_neg c58_5, if_neg c68_6] at hr
          refine Go.fgt [some (.ref m), some (.int (v / p51_4.1)), none, none] (by repeat' (first | exact trivial | refine ⟨rfl, ?_⟩)) ?_
          exact ih _ _ hr
        · refine Go.iconst (v := 0) d_Model_product_71 rfl (by decide) ?_
          refine Go.goto (t := 78) d_Model_product_72 (by decide) ?_
          refine Go.istore_1 d_Model_product_78 rfl (by rfl) ?_
          refine Go.goto (t := 5) d_Model_product_79 (by decide) ?_
          rw [if_neg c58_5, if_pos c68_6] at hr
          refine Go.fgt [some (.ref m), some (.int 0), none, none] (by repeat' (first | exact trivial | refine ⟨rfl, ?_⟩)) ?_
          exact ih _ _ hr
      · refine Go.iload_1 d_Model_product_61 rfl ?_
        refine Go.iload_3 d_Model_product_62 rfl ?_
        refine Go.imul d_Model_product_63 rfl ?_
        refine Go.goto (t := 78) d_Model_product_64 (by decide) ?_
        refine Go.istore_1 d_Model_product_78 rfl (by rfl) ?_
        refine Go.goto (t := 5) d_Model_product_79 (by decide) ?_
        rw [if_pos c58_5] at hr
        refine Go.fgt [some (.ref m), some (.int (v * p51_4.1)), none, none] (by repeat' (first | exact trivial | refine ⟨rfl, ?_⟩)) ?_
        exact ih _ _ hr
theorem d_Model_product_0 : decode M_Model_product.2.1 0 = .ok (.aload_n 0, 1) := by decide +kernel
theorem d_Model_product_1 : decode M_Model_product.2.1 1 = .ok (.invokevirtual 294, 3) := by decide +kernel
theorem d_Model_product_4 : decode M_Model_product.2.1 4 = .ok (.istore_n 1, 1) := by decide +kernel
def s_Model_product (H : SH) (Y : SX) (rec : EV) (M : MO) : Option (Int32 × MO) := ((rec 5 M).bind fun p1_1 => (l_Model_product H Y rec 401 p1_1.1 p1_1.2))
set_option maxRecDepth 100000 in
set_option maxHeartbeats 4000000 in
theorem c_Model_product {Γ : G9} {h : AH} {m q r sa sb z dd : Nat} {M : MO} {H : SH} {Y : SX} {rec : EV} {p : Int32 × MO} (hr0 : ∀ (M : MO) (p : Int32 × MO), rec 0 M = some p → CallR Γ M_Model_test (dd + 4) [.ref m] (md_ Γ h m q r sa sb r M H Y) z (some (.int p.1)) (md_ Γ h m q r sa sb r p.2 H Y)) (hr1 : ∀ (M : MO) (p : Int32 × MO), rec 1 M = some p → CallR Γ M_Model_both (dd + 4) [.ref m] (md_ Γ h m q r sa sb r M H Y) z (some (.int p.1)) (md_ Γ h m q r sa sb r p.2 H Y)) (hr2 : ∀ (M : MO) (p : Int32 × MO), rec 2 M = some p → CallR Γ M_Model_single (dd + 4) [.ref m] (md_ Γ h m q r sa sb r M H Y) z (some (.int p.1)) (md_ Γ h m q r sa sb r p.2 H Y)) (hr3 : ∀ (M : MO) (p : Int32 × MO), rec 3 M = some p → CallR Γ M_Model_sum (dd + 4) [.ref m] (md_ Γ h m q r sa sb r M H Y) z (some (.int p.1)) (md_ Γ h m q r sa sb r p.2 H Y)) (hr4 : ∀ (M : MO) (p : Int32 × MO), rec 4 M = some p → CallR Γ M_Model_product (dd + 4) [.ref m] (md_ Γ h m q r sa sb r M H Y) z (some (.int p.1)) (md_ Γ h m q r sa sb r p.2 H Y)) (hr5 : ∀ (M : MO) (p : Int32 × MO), rec 5 M = some p → CallR Γ M_Model_value (dd + 4) [.ref m] (md_ Γ h m q r sa sb r M H Y) z (some (.int p.1)) (md_ Γ h m q r sa sb r p.2 H Y)) (geo : m + 2 ≤ q ∧ m + 2 ≤ r ∧ (q + 24 ≤ r ∨ r + 21 ≤ q)) (hB : sh_ha H 0 ≤ 5) (hS : sh_ha H 3 ≤ 6) (hC : sh_ha H 6 ≤ 4) (hD : sh_ha H 9 ≤ 4) (hE : sh_ha H 11 ≤ 4) (hdy : sx_dy Y < 1000000) (hr : s_Model_product H Y rec M = some p) : CallR Γ M_Model_product (dd + 1 + 4) [.ref m] (md_ Γ h m q r sa sb r M H Y) z (some (.int p.1)) (md_ Γ h m q r sa sb r p.2 H Y) := by
  refine Call.of_go (L := [some (.ref m), none, none, none]) (by decide +kernel) rfl (by exact Nat.le_of_ble_eq_true rfl) ?_
  unfold s_Model_product at hr
  refine Go.aload_0 d_Model_product_0 rfl ?_
  obtain ⟨p1_1, hp1_1, hr⟩ := Option.bind_eq_some_iff.mp hr
  try dsimp only at hr
  refine Go.cv0r d_Model_product_1 rfl l_Model_294 k_Model_value_v (mr_at_m (by omega) hB hS hC hD hE) rfl (hr5 _ _ hp1_1) (Nat.ble_eq_true_of_le (by omega)) rfl rfl ?_
  refine Go.istore_1 d_Model_product_4 rfl (by rfl) ?_
  exact l_Model_product_go hr0 hr1 hr2 hr3 hr4 hr5 geo hB hS hC hD hE hdy _ _ _ hr
theorem mr_at_r_2 {Γ : G9} {h : AH} {m q r sa sb : Nat} {M : MO} {H : SH} {Y : SX} (geo : m + 2 ≤ q ∧ m + 2 ≤ r ∧ (q + 24 ≤ r ∨ r + 21 ≤ q)) (hB : sh_ha H 0 ≤ 5) (hS : sh_ha H 3 ≤ 6) (hC : sh_ha H 6 ≤ 4) (hD : sh_ha H 9 ≤ 4) (hE : sh_ha H 11 ≤ 4) : (md_ Γ h m q r sa sb r M H Y) (r + 2) = some (aI Γ 5 (sx_sn Y)) := by
  unfold md_
  exact (sx_g2)
theorem mr_at_r_8 {Γ : G9} {h : AH} {m q r sa sb : Nat} {M : MO} {H : SH} {Y : SX} (geo : m + 2 ≤ q ∧ m + 2 ≤ r ∧ (q + 24 ≤ r ∨ r + 21 ≤ q)) (hB : sh_ha H 0 ≤ 5) (hS : sh_ha H 3 ≤ 6) (hC : sh_ha H 6 ≤ 4) (hD : sh_ha H 9 ≤ 4) (hE : sh_ha H 11 ≤ 4) : (md_ Γ h m q r sa sb r M H Y) (r + 8) = some (aI Γ 4 (sx_br Y)) := by
  unfold md_
  exact (sx_g8)
theorem mr_c_State_warmth_r {Γ : G9} {h : AH} {m q r sa sb z : Nat} {M : MO} {H : SH} {Y : SX} (geo : m + 2 ≤ q ∧ m + 2 ≤ r ∧ (q + 24 ≤ r ∨ r + 21 ≤ q)) (hB : sh_ha H 0 ≤ 5) (hS : sh_ha H 3 ≤ 6) (hC : sh_ha H 6 ≤ 4) (hD : sh_ha H 9 ≤ 4) (hE : sh_ha H 11 ≤ 4) (hdy : sx_dy Y < 1000000) : CallR Γ M_State_warmth 0 [.ref r] (md_ Γ h m q r sa sb r M H Y) z (some (.int (s_State_warmth Y))) (md_ Γ h m q r sa sb r M H Y) := by
  unfold md_
  exact CallR.conv rfl rfl (c_State_warmth hdy)
theorem mr_at_r_4 {Γ : G9} {h : AH} {m q r sa sb : Nat} {M : MO} {H : SH} {Y : SX} (geo : m + 2 ≤ q ∧ m + 2 ≤ r ∧ (q + 24 ≤ r ∨ r + 21 ≤ q)) (hB : sh_ha H 0 ≤ 5) (hS : sh_ha H 3 ≤ 6) (hC : sh_ha H 6 ≤ 4) (hD : sh_ha H 9 ≤ 4) (hE : sh_ha H 11 ≤ 4) : (md_ Γ h m q r sa sb r M H Y) (r + 4) = some (aI Γ 6 (sx_ou Y)) := by
  unfold md_
  exact (sx_g4)
theorem mr_at_r_13 {Γ : G9} {h : AH} {m q r sa sb : Nat} {M : MO} {H : SH} {Y : SX} (geo : m + 2 ≤ q ∧ m + 2 ≤ r ∧ (q + 24 ≤ r ∨ r + 21 ≤ q)) (hB : sh_ha H 0 ≤ 5) (hS : sh_ha H 3 ≤ 6) (hC : sh_ha H 6 ≤ 4) (hD : sh_ha H 9 ≤ 4) (hE : sh_ha H 11 ≤ 4) : (md_ Γ h m q r sa sb r M H Y) (r + 13) = some (aI Γ 4 (sx_fo Y)) := by
  unfold md_
  exact (sx_g13)
theorem mr_at_r_14 {Γ : G9} {h : AH} {m q r sa sb : Nat} {M : MO} {H : SH} {Y : SX} (geo : m + 2 ≤ q ∧ m + 2 ≤ r ∧ (q + 24 ≤ r ∨ r + 21 ≤ q)) (hB : sh_ha H 0 ≤ 5) (hS : sh_ha H 3 ≤ 6) (hC : sh_ha H 6 ≤ 4) (hD : sh_ha H 9 ≤ 4) (hE : sh_ha H 11 ≤ 4) : (md_ Γ h m q r sa sb r M H Y) (r + 14) = some (aI Γ 4 (sx_sk Y)) := by
  unfold md_
  exact (sx_g14)
theorem mr_at_r_15 {Γ : G9} {h : AH} {m q r sa sb : Nat} {M : MO} {H : SH} {Y : SX} (geo : m + 2 ≤ q ∧ m + 2 ≤ r ∧ (q + 24 ≤ r ∨ r + 21 ≤ q)) (hB : sh_ha H 0 ≤ 5) (hS : sh_ha H 3 ≤ 6) (hC : sh_ha H 6 ≤ 4) (hD : sh_ha H 9 ≤ 4) (hE : sh_ha H 11 ≤ 4) : (md_ Γ h m q r sa sb r M H Y) (r + 15) = some (aI Γ 4 (sx_pl Y)) := by
  unfold md_
  exact (sx_g15)
theorem d_Model_value_0 : decode M_Model_value.2.1 0 = .ok (.aload_n 0, 1) := by decide +kernel
theorem d_Model_value_1 : decode M_Model_value.2.1 1 = .ok (.getfield 20, 3) := by decide +kernel
theorem d_Model_value_4 : decode M_Model_value.2.1 4 = .ok (.getfield 93, 3) := by decide +kernel
theorem d_Model_value_7 : decode M_Model_value.2.1 7 = .ok (.aload_n 0, 1) := by decide +kernel
theorem d_Model_value_8 : decode M_Model_value.2.1 8 = .ok (.getfield 261, 3) := by decide +kernel
theorem d_Model_value_11 : decode M_Model_value.2.1 11 = .ok (.iaload, 1) := by decide +kernel
theorem d_Model_value_12 : decode M_Model_value.2.1 12 = .ok (.istore_n 1, 1) := by decide +kernel
theorem d_Model_value_13 : decode M_Model_value.2.1 13 = .ok (.aload_n 0, 1) := by decide +kernel
theorem d_Model_value_14 : decode M_Model_value.2.1 14 = .ok (.dup, 1) := by decide +kernel
theorem d_Model_value_15 : decode M_Model_value.2.1 15 = .ok (.getfield 261, 3) := by decide +kernel
theorem d_Model_value_18 : decode M_Model_value.2.1 18 = .ok (.iconst 1, 1) := by decide +kernel
theorem d_Model_value_19 : decode M_Model_value.2.1 19 = .ok (.iadd, 1) := by decide +kernel
theorem d_Model_value_20 : decode M_Model_value.2.1 20 = .ok (.putfield 261, 3) := by decide +kernel
theorem d_Model_value_23 : decode M_Model_value.2.1 23 = .ok (.iload_n 1, 1) := by decide +kernel
theorem d_Model_value_24 : decode M_Model_value.2.1 24 = .ok (.lookupswitch 235 #[(2, 134), (8, 160), (13, 115), (14, 126), (23, 147), (24, 173), (25, 186), (26, 199), (37, 100), (40, 218), (47, 212)], 100) := by decide +kernel
theorem d_Model_value_124 : decode M_Model_value.2.1 124 = .ok (.aload_n 0, 1) := by decide +kernel
theorem d_Model_value_125 : decode M_Model_value.2.1 125 = .ok (.getfield 20, 3) := by decide +kernel
theorem d_Model_value_128 : decode M_Model_value.2.1 128 = .ok (.getfield 169, 3) := by decide +kernel
theorem d_Model_value_131 : decode M_Model_value.2.1 131 = .ok (.aload_n 0, 1) := by decide +kernel
theorem d_Model_value_132 : decode M_Model_value.2.1 132 = .ok (.getfield 261, 3) := by decide +kernel
theorem d_Model_value_135 : decode M_Model_value.2.1 135 = .ok (.iconst 1, 1) := by decide +kernel
theorem d_Model_value_136 : decode M_Model_value.2.1 136 = .ok (.isub, 1) := by decide +kernel
theorem d_Model_value_137 : decode M_Model_value.2.1 137 = .ok (.iaload, 1) := by decide +kernel
theorem d_Model_value_138 : decode M_Model_value.2.1 138 = .ok (.ireturn, 1) := by decide +kernel
theorem d_Model_value_139 : decode M_Model_value.2.1 139 = .ok (.aload_n 0, 1) := by decide +kernel
theorem d_Model_value_140 : decode M_Model_value.2.1 140 = .ok (.getfield 34, 3) := by decide +kernel
theorem d_Model_value_143 : decode M_Model_value.2.1 143 = .ok (.getfield 297, 3) := by decide +kernel
theorem d_Model_value_146 : decode M_Model_value.2.1 146 = .ok (.bipush 8, 2) := by decide +kernel
theorem d_Model_value_148 : decode M_Model_value.2.1 148 = .ok (.irem, 1) := by decide +kernel
theorem d_Model_value_149 : decode M_Model_value.2.1 149 = .ok (.ireturn, 1) := by decide +kernel
theorem d_Model_value_150 : decode M_Model_value.2.1 150 = .ok (.aload_n 0, 1) := by decide +kernel
theorem d_Model_value_151 : decode M_Model_value.2.1 151 = .ok (.getfield 34, 3) := by decide +kernel
theorem d_Model_value_154 : decode M_Model_value.2.1 154 = .ok (.invokevirtual 300, 3) := by decide +kernel
theorem d_Model_value_157 : decode M_Model_value.2.1 157 = .ok (.ireturn, 1) := by decide +kernel
theorem d_Model_value_158 : decode M_Model_value.2.1 158 = .ok (.aload_n 0, 1) := by decide +kernel
theorem d_Model_value_159 : decode M_Model_value.2.1 159 = .ok (.getfield 34, 3) := by decide +kernel
theorem d_Model_value_162 : decode M_Model_value.2.1 162 = .ok (.getfield 303, 3) := by decide +kernel
theorem d_Model_value_165 : decode M_Model_value.2.1 165 = .ok (.aload_n 0, 1) := by decide +kernel
theorem d_Model_value_166 : decode M_Model_value.2.1 166 = .ok (.invokevirtual 280, 3) := by decide +kernel
theorem d_Model_value_169 : decode M_Model_value.2.1 169 = .ok (.iaload, 1) := by decide +kernel
theorem d_Model_value_170 : decode M_Model_value.2.1 170 = .ok (.ireturn, 1) := by decide +kernel
theorem d_Model_value_171 : decode M_Model_value.2.1 171 = .ok (.aload_n 0, 1) := by decide +kernel
theorem d_Model_value_172 : decode M_Model_value.2.1 172 = .ok (.getfield 34, 3) := by decide +kernel
theorem d_Model_value_175 : decode M_Model_value.2.1 175 = .ok (.getfield 304, 3) := by decide +kernel
theorem d_Model_value_178 : decode M_Model_value.2.1 178 = .ok (.aload_n 0, 1) := by decide +kernel
theorem d_Model_value_179 : decode M_Model_value.2.1 179 = .ok (.invokevirtual 280, 3) := by decide +kernel
theorem d_Model_value_182 : decode M_Model_value.2.1 182 = .ok (.iaload, 1) := by decide +kernel
theorem d_Model_value_183 : decode M_Model_value.2.1 183 = .ok (.ireturn, 1) := by decide +kernel
theorem d_Model_value_184 : decode M_Model_value.2.1 184 = .ok (.aload_n 0, 1) := by decide +kernel
theorem d_Model_value_185 : decode M_Model_value.2.1 185 = .ok (.getfield 34, 3) := by decide +kernel
theorem d_Model_value_188 : decode M_Model_value.2.1 188 = .ok (.getfield 307, 3) := by decide +kernel
theorem d_Model_value_191 : decode M_Model_value.2.1 191 = .ok (.aload_n 0, 1) := by decide +kernel
theorem d_Model_value_192 : decode M_Model_value.2.1 192 = .ok (.invokevirtual 280, 3) := by decide +kernel
theorem d_Model_value_195 : decode M_Model_value.2.1 195 = .ok (.iaload, 1) := by decide +kernel
theorem d_Model_value_196 : decode M_Model_value.2.1 196 = .ok (.ireturn, 1) := by decide +kernel
theorem d_Model_value_197 : decode M_Model_value.2.1 197 = .ok (.aload_n 0, 1) := by decide +kernel
theorem d_Model_value_198 : decode M_Model_value.2.1 198 = .ok (.getfield 34, 3) := by decide +kernel
theorem d_Model_value_201 : decode M_Model_value.2.1 201 = .ok (.getfield 308, 3) := by decide +kernel
theorem d_Model_value_204 : decode M_Model_value.2.1 204 = .ok (.aload_n 0, 1) := by decide +kernel
theorem d_Model_value_205 : decode M_Model_value.2.1 205 = .ok (.invokevirtual 280, 3) := by decide +kernel
theorem d_Model_value_208 : decode M_Model_value.2.1 208 = .ok (.iaload, 1) := by decide +kernel
theorem d_Model_value_209 : decode M_Model_value.2.1 209 = .ok (.ireturn, 1) := by decide +kernel
theorem d_Model_value_210 : decode M_Model_value.2.1 210 = .ok (.aload_n 0, 1) := by decide +kernel
theorem d_Model_value_211 : decode M_Model_value.2.1 211 = .ok (.getfield 34, 3) := by decide +kernel
theorem d_Model_value_214 : decode M_Model_value.2.1 214 = .ok (.getfield 309, 3) := by decide +kernel
theorem d_Model_value_217 : decode M_Model_value.2.1 217 = .ok (.aload_n 0, 1) := by decide +kernel
theorem d_Model_value_218 : decode M_Model_value.2.1 218 = .ok (.invokevirtual 280, 3) := by decide +kernel
theorem d_Model_value_221 : decode M_Model_value.2.1 221 = .ok (.iaload, 1) := by decide +kernel
theorem d_Model_value_222 : decode M_Model_value.2.1 222 = .ok (.ireturn, 1) := by decide +kernel
theorem d_Model_value_223 : decode M_Model_value.2.1 223 = .ok (.aload_n 0, 1) := by decide +kernel
theorem d_Model_value_224 : decode M_Model_value.2.1 224 = .ok (.getfield 34, 3) := by decide +kernel
theorem d_Model_value_227 : decode M_Model_value.2.1 227 = .ok (.getfield 310, 3) := by decide +kernel
theorem d_Model_value_230 : decode M_Model_value.2.1 230 = .ok (.aload_n 0, 1) := by decide +kernel
theorem d_Model_value_231 : decode M_Model_value.2.1 231 = .ok (.invokevirtual 280, 3) := by decide +kernel
theorem d_Model_value_234 : decode M_Model_value.2.1 234 = .ok (.iaload, 1) := by decide +kernel
theorem d_Model_value_235 : decode M_Model_value.2.1 235 = .ok (.ireturn, 1) := by decide +kernel
theorem d_Model_value_236 : decode M_Model_value.2.1 236 = .ok (.aload_n 0, 1) := by decide +kernel
theorem d_Model_value_237 : decode M_Model_value.2.1 237 = .ok (.invokevirtual 294, 3) := by decide +kernel
theorem d_Model_value_240 : decode M_Model_value.2.1 240 = .ok (.ineg, 1) := by decide +kernel
theorem d_Model_value_241 : decode M_Model_value.2.1 241 = .ok (.ireturn, 1) := by decide +kernel
theorem d_Model_value_242 : decode M_Model_value.2.1 242 = .ok (.aload_n 0, 1) := by decide +kernel
theorem d_Model_value_243 : decode M_Model_value.2.1 243 = .ok (.invokevirtual 289, 3) := by decide +kernel
theorem d_Model_value_246 : decode M_Model_value.2.1 246 = .ok (.istore_n 2, 1) := by decide +kernel
theorem d_Model_value_247 : decode M_Model_value.2.1 247 = .ok (.aload_n 0, 1) := by decide +kernel
theorem d_Model_value_248 : decode M_Model_value.2.1 248 = .ok (.dup, 1) := by decide +kernel
theorem d_Model_value_249 : decode M_Model_value.2.1 249 = .ok (.getfield 261, 3) := by decide +kernel
theorem d_Model_value_252 : decode M_Model_value.2.1 252 = .ok (.iconst 1, 1) := by decide +kernel
theorem d_Model_value_253 : decode M_Model_value.2.1 253 = .ok (.iadd, 1) := by decide +kernel
theorem d_Model_value_254 : decode M_Model_value.2.1 254 = .ok (.putfield 261, 3) := by decide +kernel
theorem d_Model_value_257 : decode M_Model_value.2.1 257 = .ok (.iload_n 2, 1) := by decide +kernel
theorem d_Model_value_258 : decode M_Model_value.2.1 258 = .ok (.ireturn, 1) := by decide +kernel
theorem d_Model_value_259 : decode M_Model_value.2.1 259 = .ok (.aload_n 0, 1) := by decide +kernel
theorem d_Model_value_260 : decode M_Model_value.2.1 260 = .ok (.dup, 1) := by decide +kernel
theorem d_Model_value_261 : decode M_Model_value.2.1 261 = .ok (.getfield 261, 3) := by decide +kernel
theorem d_Model_value_264 : decode M_Model_value.2.1 264 = .ok (.iconst 1, 1) := by decide +kernel
theorem d_Model_value_265 : decode M_Model_value.2.1 265 = .ok (.iadd, 1) := by decide +kernel
theorem d_Model_value_266 : decode M_Model_value.2.1 266 = .ok (.putfield 261, 3) := by decide +kernel
theorem d_Model_value_269 : decode M_Model_value.2.1 269 = .ok (.aload_n 0, 1) := by decide +kernel
theorem d_Model_value_270 : decode M_Model_value.2.1 270 = .ok (.invokevirtual 289, 3) := by decide +kernel
theorem d_Model_value_273 : decode M_Model_value.2.1 273 = .ok (.istore_n 2, 1) := by decide +kernel
theorem d_Model_value_274 : decode M_Model_value.2.1 274 = .ok (.aload_n 0, 1) := by decide +kernel
theorem d_Model_value_275 : decode M_Model_value.2.1 275 = .ok (.dup, 1) := by decide +kernel
theorem d_Model_value_276 : decode M_Model_value.2.1 276 = .ok (.getfield 261, 3) := by decide +kernel
theorem d_Model_value_279 : decode M_Model_value.2.1 279 = .ok (.iconst 1, 1) := by decide +kernel
theorem d_Model_value_280 : decode M_Model_value.2.1 280 = .ok (.iadd, 1) := by decide +kernel
theorem d_Model_value_281 : decode M_Model_value.2.1 281 = .ok (.putfield 261, 3) := by decide +kernel
theorem d_Model_value_284 : decode M_Model_value.2.1 284 = .ok (.aload_n 0, 1) := by decide +kernel
theorem d_Model_value_285 : decode M_Model_value.2.1 285 = .ok (.invokevirtual 289, 3) := by decide +kernel
theorem d_Model_value_288 : decode M_Model_value.2.1 288 = .ok (.istore_n 3, 1) := by decide +kernel
theorem d_Model_value_289 : decode M_Model_value.2.1 289 = .ok (.aload_n 0, 1) := by decide +kernel
theorem d_Model_value_290 : decode M_Model_value.2.1 290 = .ok (.dup, 1) := by decide +kernel
theorem d_Model_value_291 : decode M_Model_value.2.1 291 = .ok (.getfield 261, 3) := by decide +kernel
theorem d_Model_value_294 : decode M_Model_value.2.1 294 = .ok (.iconst 1, 1) := by decide +kernel
theorem d_Model_value_295 : decode M_Model_value.2.1 295 = .ok (.iadd, 1) := by decide +kernel
theorem d_Model_value_296 : decode M_Model_value.2.1 296 = .ok (.putfield 261, 3) := by decide +kernel
theorem d_Model_value_299 : decode M_Model_value.2.1 299 = .ok (.iload_n 1, 1) := by decide +kernel
theorem d_Model_value_300 : decode M_Model_value.2.1 300 = .ok (.bipush 33, 2) := by decide +kernel
theorem d_Model_value_302 : decode M_Model_value.2.1 302 = .ok (.if_icmp .ne 11, 3) := by decide +kernel
theorem d_Model_value_305 : decode M_Model_value.2.1 305 = .ok (.iload_n 2, 1) := by decide +kernel
theorem d_Model_value_306 : decode M_Model_value.2.1 306 = .ok (.iload_n 3, 1) := by decide +kernel
theorem d_Model_value_307 : decode M_Model_value.2.1 307 = .ok (.invokestatic 313, 3) := by decide +kernel
theorem d_Model_value_310 : decode M_Model_value.2.1 310 = .ok (.goto 8, 3) := by decide +kernel
theorem d_Model_value_313 : decode M_Model_value.2.1 313 = .ok (.iload_n 2, 1) := by decide +kernel
theorem d_Model_value_314 : decode M_Model_value.2.1 314 = .ok (.iload_n 3, 1) := by decide +kernel
theorem d_Model_value_315 : decode M_Model_value.2.1 315 = .ok (.invokestatic 318, 3) := by decide +kernel
theorem d_Model_value_318 : decode M_Model_value.2.1 318 = .ok (.ireturn, 1) := by decide +kernel
def s_Model_value (H : SH) (Y : SX) (rec : EV) (M : MO) : Option (Int32 × MO) := (if okI (mo_wk M) 401 = true then (if ((sh_kd H) (mo_wk M).toNatClampNeg) = 2 then ((s_Model_named H (mo_wk' M ((mo_wk M) + 1))).bind fun p166_3 => (if okI p166_3.1 5 = true then some (((sx_sn Y) p166_3.1.toNatClampNeg), p166_3.2) else none)) else (if ((sh_kd H) (mo_wk M).toNatClampNeg) = 8 then ((s_Model_named H (mo_wk' M ((mo_wk M) + 1))).bind fun p192_6 => (if okI p192_6.1 4 = true then some (((sx_br Y) p192_6.1.toNatClampNeg), p192_6.2) else none)) else (if ((sh_kd H) (mo_wk M).toNatClampNeg) = 13 then some ((nI ((sx_dy Y) % 8)), (mo_wk' M ((mo_wk M) + 1))) else (if ((sh_kd H) (mo_wk M).toNatClampNeg) = 14 then some ((s_State_warmth Y), (mo_wk' M ((mo_wk M) + 1))) else (if ((sh_kd H) (mo_wk M).toNatClampNeg) = 23 then ((s_Model_named H (mo_wk' M ((mo_wk M) + 1))).bind fun p179_11 => (if okI p179_11.1 6 = true then some (((sx_ou Y) p179_11.1.toNatClampNeg), p179_11.2) else none)) else (if ((sh_kd H) (mo_wk M).toNatClampNeg) = 24 then ((s_Model_named H (mo_wk' M ((mo_wk M) + 1))).bind fun p205_14 => (if okI p205_14.1 4 = true then some (((sx_fo Y) p205_14.1.toNatClampNeg), p205_14.2) else none)) else (if ((sh_kd H) (mo_wk M).toNatClampNeg) = 25 then ((s_Model_named H (mo_wk' M ((mo_wk M) + 1))).bind fun p218_17 => (if okI p218_17.1 4 = true then some (((sx_sk Y) p218_17.1.toNatClampNeg), p218_17.2) else none)) else (if ((sh_kd H) (mo_wk M).toNatClampNeg) = 26 then ((s_Model_named H (mo_wk' M ((mo_wk M) + 1))).bind fun p231_20 => (if okI p231_20.1 4 = true then some (((sx_pl Y) p231_20.1.toNatClampNeg), p231_20.2) else none)) else (if ((sh_kd H) (mo_wk M).toNatClampNeg) = 37 then (if okI (((mo_wk M) + 1) - 1) 401 = true then some (((sh_me H) (((mo_wk M) + 1) - 1).toNatClampNeg), (mo_wk' M ((mo_wk M) + 1))) else none) else (if ((sh_kd H) (mo_wk M).toNatClampNeg) = 40 then ((rec 3 (mo_wk' M ((mo_wk M) + 1))).bind fun p243_25 => some (p243_25.1, (mo_wk' p243_25.2 ((mo_wk p243_25.2) + 1)))) else (if ((sh_kd H) (mo_wk M).toNatClampNeg) = 47 then ((rec 5 (mo_wk' M ((mo_wk M) + 1))).bind fun p237_27 => some ((-p237_27.1), p237_27.2)) else ((rec 3 (mo_wk' (mo_wk' M ((mo_wk M) + 1)) (((mo_wk M) + 1) + 1))).bind fun p270_28 => ((rec 3 (mo_wk' p270_28.2 ((mo_wk p270_28.2) + 1))).bind fun p285_29 => (if ((sh_kd H) (mo_wk M).toNatClampNeg) = 33 then some ((iMin p270_28.1 p285_29.1), (mo_wk' p285_29.2 ((mo_wk p285_29.2) + 1))) else some ((iMax p270_28.1 p285_29.1), (mo_wk' p285_29.2 ((mo_wk p285_29.2) + 1))))))))))))))))) else none)
set_option maxRecDepth 100000 in
set_option maxHeartbeats 4000000 in
theorem c_Model_value {Γ : G9} {h : AH} {m q r sa sb z dd : Nat} {M : MO} {H : SH} {Y : SX} {rec : EV} {p : Int32 × MO} (hr0 : ∀ (M : MO) (p : Int32 × MO), rec 0 M = some p → CallR Γ M_Model_test (dd + 4) [.ref m] (md_ Γ h m q r sa sb r M H Y) z (some (.int p.1)) (md_ Γ h m q r sa sb r p.2 H Y)) (hr1 : ∀ (M : MO) (p : Int32 × MO), rec 1 M = some p → CallR Γ M_Model_both (dd + 4) [.ref m] (md_ Γ h m q r sa sb r M H Y) z (some (.int p.1)) (md_ Γ h m q r sa sb r p.2 H Y)) (hr2 : ∀ (M : MO) (p : Int32 × MO), rec 2 M = some p → CallR Γ M_Model_single (dd + 4) [.ref m] (md_ Γ h m q r sa sb r M H Y) z (some (.int p.1)) (md_ Γ h m q r sa sb r p.2 H Y)) (hr3 : ∀ (M : MO) (p : Int32 × MO), rec 3 M = some p → CallR Γ M_Model_sum (dd + 4) [.ref m] (md_ Γ h m q r sa sb r M H Y) z (some (.int p.1)) (md_ Γ h m q r sa sb r p.2 H Y)) (hr4 : ∀ (M : MO) (p : Int32 × MO), rec 4 M = some p → CallR Γ M_Model_product (dd + 4) [.ref m] (md_ Γ h m q r sa sb r M H Y) z (some (.int p.1)) (md_ Γ h m q r sa sb r p.2 H Y)) (hr5 : ∀ (M : MO) (p : Int32 × MO), rec 5 M = some p → CallR Γ M_Model_value (dd + 4) [.ref m] (md_ Γ h m q r sa sb r M H Y) z (some (.int p.1)) (md_ Γ h m q r sa sb r p.2 H Y)) (geo : m + 2 ≤ q ∧ m + 2 ≤ r ∧ (q + 24 ≤ r ∨ r + 21 ≤ q)) (hB : sh_ha H 0 ≤ 5) (hS : sh_ha H 3 ≤ 6) (hC : sh_ha H 6 ≤ 4) (hD : sh_ha H 9 ≤ 4) (hE : sh_ha H 11 ≤ 4) (hdy : sx_dy Y < 1000000) (hr : s_Model_value H Y rec M = some p) : CallR Γ M_Model_value (dd + 1 + 4) [.ref m] (md_ Γ h m q r sa sb r M H Y) z (some (.int p.1)) (md_ Γ h m q r sa sb r p.2 H Y) := by
  refine Call.of_go (L := [some (.ref m), none, none, none]) (by decide +kernel) rfl (by exact Nat.le_of_ble_eq_true rfl) ?_
  unfold s_Model_value at hr
  refine Go.aload_0 d_Model_value_0 rfl ?_
  refine Go.getfield d_Model_value_1 rfl f_Model_20 (mr_at_m (by omega) hB hS hC hD hE) (by rfl) ?_
  refine Go.getfield d_Model_value_4 rfl f_Model_93 (mr_at_q (by omega) hB hS hC hD hE) (by rfl) ?_
  refine Go.aload_0 d_Model_value_7 rfl ?_
  refine Go.getfield d_Model_value_8 rfl f_Model_261 (mr_at_m (by omega) hB hS hC hD hE) (by rfl) ?_
  have o11_1 : okI (mo_wk M) 401 = true := Classical.byContradiction fun w => by
    rw [if_neg w] at hr
    cases hr
  refine Go.iaload d_Model_value_11 rfl (mr_at_q_1 (by omega) hB hS hC hD hE) (okI_in o11_1) ?_
  refine Go.istore_1 d_Model_value_12 rfl (by rfl) ?_
  refine Go.aload_0 d_Model_value_13 rfl ?_
  refine Go.dup d_Model_value_14 rfl rfl ?_
  refine Go.getfield d_Model_value_15 rfl f_Model_261 (mr_at_m (by omega) hB hS hC hD hE) (by rfl) ?_
  refine Go.iconst (v := 1) d_Model_value_18 rfl (by decide) ?_
  refine Go.iadd d_Model_value_19 rfl ?_
  refine Go.putfield d_Model_value_20 rfl f_Model_261_p (Or.inl (fun C T N h => by cases h; rfl)) (mr_at_m (by omega) hB hS hC hD hE) (by exact Nat.le_of_ble_eq_true rfl) rfl rfl ?_
  refine Go.heq (mr_put_m_walk (by omega) hB hS hC hD hE) ?_
  refine Go.iload_1 d_Model_value_23 rfl ?_
  by_cases w24_2 : ((sh_kd H) (mo_wk M).toNatClampNeg) = 2
  · refine Go.lsw (t := 158) d_Model_value_24 (by decide) (by rw [w24_2] <;> decide +kernel) (by decide) ?_
    refine Go.aload_0 d_Model_value_158 rfl ?_
    refine Go.getfield d_Model_value_159 rfl f_Model_34 (mr_at_m (by omega) hB hS hC hD hE) (by rfl) ?_
    refine Go.getfield d_Model_value_162 rfl f_Model_303 (mr_at_r (by omega) hB hS hC hD hE) (by rfl) ?_
    refine Go.aload_0 d_Model_value_165 rfl ?_
    rw [if_pos o11_1, if_pos w24_2] at hr
    obtain ⟨p166_3, hp166_3, hr⟩ := Option.bind_eq_some_iff.mp hr
    try dsimp only at hr
    refine Go.cv0r d_Model_value_166 rfl l_Model_280 k_Model_named_v (mr_at_m (by omega) hB hS hC hD hE) rfl (c_Model_named (Y := Y) (by omega) hB hS hC hD hE hp166_3) (Nat.ble_eq_true_of_le (by omega)) rfl rfl ?_
    have o169_4 : okI p166_3.1 5 = true := Classical.byContradiction fun w => by
      rw [if_neg w] at hr
      cases hr
    refine Go.iaload d_Model_value_169 rfl (mr_at_r_2 (by omega) hB hS hC hD hE) (okI_in o169_4) ?_
    rw [if_pos o169_4] at hr
    cases hr
    exact Go.iret d_Model_value_170 rfl rfl ⟨rfl, rfl, rfl⟩
  by_cases w24_5 : ((sh_kd H) (mo_wk M).toNatClampNeg) = 8
  · refine Go.lsw (t := 184) d_Model_value_24 (by decide) (by rw [w24_5] <;> decide +kernel) (by decide) ?_
    refine Go.aload_0 d_Model_value_184 rfl ?_
    refine Go.getfield d_Model_value_185 rfl f_Model_34 (mr_at_m (by omega) hB hS hC hD hE) (by rfl) ?_
    refine Go.getfield d_Model_value_188 rfl f_Model_307 (mr_at_r (by omega) hB hS hC hD hE) (by rfl) ?_
    refine Go.aload_0 d_Model_value_191 rfl ?_
    rw [if_pos o11_1, if_neg w24_2, if_pos w24_5] at hr
    obtain ⟨p192_6, hp192_6, hr⟩ := Option.bind_eq_some_iff.mp hr
    try dsimp only at hr
    refine Go.cv0r d_Model_value_192 rfl l_Model_280 k_Model_named_v (mr_at_m (by omega) hB hS hC hD hE) rfl (c_Model_named (Y := Y) (by omega) hB hS hC hD hE hp192_6) (Nat.ble_eq_true_of_le (by omega)) rfl rfl ?_
    have o195_7 : okI p192_6.1 4 = true := Classical.byContradiction fun w => by
      rw [if_neg w] at hr
      cases hr
    refine Go.iaload d_Model_value_195 rfl (mr_at_r_8 (by omega) hB hS hC hD hE) (okI_in o195_7) ?_
    rw [if_pos o195_7] at hr
    cases hr
    exact Go.iret d_Model_value_196 rfl rfl ⟨rfl, rfl, rfl⟩
  by_cases w24_8 : ((sh_kd H) (mo_wk M).toNatClampNeg) = 13
  · refine Go.lsw (t := 139) d_Model_value_24 (by decide) (by rw [w24_8] <;> decide +kernel) (by decide) ?_
    refine Go.aload_0 d_Model_value_139 rfl ?_
    refine Go.getfield d_Model_value_140 rfl f_Model_34 (mr_at_m (by omega) hB hS hC hD hE) (by rfl) ?_
    refine Go.getfield d_Model_value_143 rfl f_Model_297 (mr_at_r (by omega) hB hS hC hD hE) (by rfl) ?_
    refine Go.bipush (v := 8) d_Model_value_146 rfl (by decide) ?_
    refine Go.irem d_Model_value_148 rfl (by decide) ?_
    rw [show nI (sx_dy Y) - nI (sx_dy Y) / 8 * 8 = nI ((sx_dy Y) % 8) from nI_rem (by omega)]
    rw [if_pos o11_1, if_neg w24_2, if_neg w24_5, if_pos w24_8] at hr
    cases hr
    exact Go.iret d_Model_value_149 rfl rfl ⟨rfl, rfl, rfl⟩
  by_cases w24_9 : ((sh_kd H) (mo_wk M).toNatClampNeg) = 14
  · refine Go.lsw (t := 150) d_Model_value_24 (by decide) (by rw [w24_9] <;> decide +kernel) (by decide) ?_
    refine Go.aload_0 d_Model_value_150 rfl ?_
    refine Go.getfield d_Model_value_151 rfl f_Model_34 (mr_at_m (by omega) hB hS hC hD hE) (by rfl) ?_
    refine Go.cv0r d_Model_value_154 rfl l_Model_300 k_State_warmth_v (mr_at_r (by omega) hB hS hC hD hE) rfl (mr_c_State_warmth_r (by omega) hB hS hC hD hE hdy) (Nat.ble_eq_true_of_le (by omega)) rfl rfl ?_
    rw [if_pos o11_1, if_neg w24_2, if_neg w24_5, if_neg w24_8, if_pos w24_9] at hr
    cases hr
    exact Go.iret d_Model_value_157 rfl rfl ⟨rfl, rfl, rfl⟩
  by_cases w24_10 : ((sh_kd H) (mo_wk M).toNatClampNeg) = 23
  · refine Go.lsw (t := 171) d_Model_value_24 (by decide) (by rw [w24_10] <;> decide +kernel) (by decide) ?_
    refine Go.aload_0 d_Model_value_171 rfl ?_
    refine Go.getfield d_Model_value_172 rfl f_Model_34 (mr_at_m (by omega) hB hS hC hD hE) (by rfl) ?_
    refine Go.getfield d_Model_value_175 rfl f_Model_304 (mr_at_r (by omega) hB hS hC hD hE) (by rfl) ?_
    refine Go.aload_0 d_Model_value_178 rfl ?_
    rw [if_pos o11_1, if_neg w24_2, if_neg w24_5, if_neg w24_8, if_neg w24_9, if_pos w24_10] at hr
    obtain ⟨p179_11, hp179_11, hr⟩ := Option.bind_eq_some_iff.mp hr
    try dsimp only at hr
    refine Go.cv0r d_Model_value_179 rfl l_Model_280 k_Model_named_v (mr_at_m (by omega) hB hS hC hD hE) rfl (c_Model_named (Y := Y) (by omega) hB hS hC hD hE hp179_11) (Nat.ble_eq_true_of_le (by omega)) rfl rfl ?_
    have o182_12 : okI p179_11.1 6 = true := Classical.byContradiction fun w => by
      rw [if_neg w] at hr
      cases hr
    refine Go.iaload d_Model_value_182 rfl (mr_at_r_4 (by omega) hB hS hC hD hE) (okI_in o182_12) ?_
    rw [if_pos o182_12] at hr
    cases hr
    exact Go.iret d_Model_value_183 rfl rfl ⟨rfl, rfl, rfl⟩
  by_cases w24_13 : ((sh_kd H) (mo_wk M).toNatClampNeg) = 24
  · refine Go.lsw (t := 197) d_Model_value_24 (by decide) (by rw [w24_13] <;> decide +kernel) (by decide) ?_
    refine Go.aload_0 d_Model_value_197 rfl ?_
    refine Go.getfield d_Model_value_198 rfl f_Model_34 (mr_at_m (by omega) hB hS hC hD hE) (by rfl) ?_
    refine Go.getfield d_Model_value_201 rfl f_Model_308 (mr_at_r (by omega) hB hS hC hD hE) (by rfl) ?_
    refine Go.aload_0 d_Model_value_204 rfl ?_
    rw [if_pos o11_1, if_neg w24_2, if_neg w24_5, if_neg w24_8, if_neg w24_9, if_neg w24_10, if_pos w24_13] at hr
    obtain ⟨p205_14, hp205_14, hr⟩ := Option.bind_eq_some_iff.mp hr
    try dsimp only at hr
    refine Go.cv0r d_Model_value_205 rfl l_Model_280 k_Model_named_v (mr_at_m (by omega) hB hS hC hD hE) rfl (c_Model_named (Y := Y) (by omega) hB hS hC hD hE hp205_14) (Nat.ble_eq_true_of_le (by omega)) rfl rfl ?_
    have o208_15 : okI p205_14.1 4 = true := Classical.byContradiction fun w => by
      rw [if_neg w] at hr
      cases hr
    refine Go.iaload d_Model_value_208 rfl (mr_at_r_13 (by omega) hB hS hC hD hE) (okI_in o208_15) ?_
    rw [if_pos o208_15] at hr
    cases hr
    exact Go.iret d_Model_value_209 rfl rfl ⟨rfl, rfl, rfl⟩
  by_cases w24_16 : ((sh_kd H) (mo_wk M).toNatClampNeg) = 25
  · refine Go.lsw (t := 210) d_Model_value_24 (by decide) (by rw [w24_16] <;> decide +kernel) (by decide) ?_
    refine Go.aload_0 d_Model_value_210 rfl ?_
    refine Go.getfield d_Model_value_211 rfl f_Model_34 (mr_at_m (by omega) hB hS hC hD hE) (by rfl) ?_
    refine Go.getfield d_Model_value_214 rfl f_Model_309 (mr_at_r (by omega) hB hS hC hD hE) (by rfl) ?_
    refine Go.aload_0 d_Model_value_217 rfl ?_
    rw [if_pos o11_1, if_neg w24_2, if_neg w24_5, if_neg w24_8, if_neg w24_9, if_neg w24_10, if_neg w24_13, if_pos w24_16] at hr
    obtain ⟨p218_17, hp218_17, hr⟩ := Option.bind_eq_some_iff.mp hr
    try dsimp only at hr
    refine Go.cv0r d_Model_value_218 rfl l_Model_280 k_Model_named_v (mr_at_m (by omega) hB hS hC hD hE) rfl (c_Model_named (Y := Y) (by omega) hB hS hC hD hE hp218_17) (Nat.ble_eq_true_of_le (by omega)) rfl rfl ?_
    have o221_18 : okI p218_17.1 4 = true := Classical.byContradiction fun w => by
      rw [if_neg w] at hr
      cases hr
    refine Go.iaload d_Model_value_221 rfl (mr_at_r_14 (by omega) hB hS hC hD hE) (okI_in o221_18) ?_
    rw [if_pos o221_18] at hr
    cases hr
    exact Go.iret d_Model_value_222 rfl rfl ⟨rfl, rfl, rfl⟩
  by_cases w24_19 : ((sh_kd H) (mo_wk M).toNatClampNeg) = 26
  · refine Go.lsw (t := 223) d_Model_value_24 (by decide) (by rw [w24_19] <;> decide +kernel) (by decide) ?_
    refine Go.aload_0 d_Model_value_223 rfl ?_
    refine Go.getfield d_Model_value_224 rfl f_Model_34 (mr_at_m (by omega) hB hS hC hD hE) (by rfl) ?_
    refine Go.getfield d_Model_value_227 rfl f_Model_310 (mr_at_r (by omega) hB hS hC hD hE) (by rfl) ?_
    refine Go.aload_0 d_Model_value_230 rfl ?_
    rw [if_pos o11_1, if_neg w24_2, if_neg w24_5, if_neg w24_8, if_neg w24_9, if_neg w24_10, if_neg w24_13, if_neg w24_16, if_pos w24_19] at hr
    obtain ⟨p231_20, hp231_20, hr⟩ := Option.bind_eq_some_iff.mp hr
    try dsimp only at hr
    refine Go.cv0r d_Model_value_231 rfl l_Model_280 k_Model_named_v (mr_at_m (by omega) hB hS hC hD hE) rfl (c_Model_named (Y := Y) (by omega) hB hS hC hD hE hp231_20) (Nat.ble_eq_true_of_le (by omega)) rfl rfl ?_
    have o234_21 : okI p231_20.1 4 = true := Classical.byContradiction fun w => by
      rw [if_neg w] at hr
      cases hr
    refine Go.iaload d_Model_value_234 rfl (mr_at_r_15 (by omega) hB hS hC hD hE) (okI_in o234_21) ?_
    rw [if_pos o234_21] at hr
    cases hr
    exact Go.iret d_Model_value_235 rfl rfl ⟨rfl, rfl, rfl⟩
  by_cases w24_22 : ((sh_kd H) (mo_wk M).toNatClampNeg) = 37
  · refine Go.lsw (t := 124) d_Model_value_24 (by decide) (by rw [w24_22] <;> decide +kernel) (by decide) ?_
    refine Go.aload_0 d_Model_value_124 rfl ?_
    refine Go.getfield d_Model_value_125 rfl f_Model_20 (mr_at_m (by omega) hB hS hC hD hE) (by rfl) ?_
    refine Go.getfield d_Model_value_128 rfl f_Model_169 (mr_at_q (by omega) hB hS hC hD hE) (by rfl) ?_
    refine Go.aload_0 d_Model_value_131 rfl ?_
    refine Go.getfield d_Model_value_132 rfl f_Model_261 (mr_at_m (by omega) hB hS hC hD hE) (by rfl) ?_
    refine Go.iconst (v := 1) d_Model_value_135 rfl (by decide) ?_
    refine Go.isub d_Model_value_136 rfl ?_
    have o137_23 : okI (((mo_wk M) + 1) - 1) 401 = true := Classical.byContradiction fun w => by
      rw [if_pos o11_1, if_neg w24_2, if_neg w24_5, if_neg w24_8, if_neg w24_9, if_neg w24_10, if_neg w24_13, if_neg w24_16, if_neg w24_19, if_pos w24_22, if_neg w] at hr
      cases hr
    refine Go.iaload d_Model_value_137 rfl (mr_at_q_4 (by omega) hB hS hC hD hE) (okI_in o137_23) ?_
    rw [if_pos o11_1, if_neg w24_2, if_neg w24_5, if_neg w24_8, if_neg w24_9, if_neg w24_10, if_neg w24_13, if_neg w24_16, if_neg w24_19, if_pos w24_22, if_pos o137_23] at hr
    cases hr
    exact Go.iret d_Model_value_138 rfl rfl ⟨rfl, rfl, rfl⟩
  by_cases w24_24 : ((sh_kd H) (mo_wk M).toNatClampNeg) = 40
  · refine Go.lsw (t := 242) d_Model_value_24 (by decide) (by rw [w24_24] <;> decide +kernel) (by decide) ?_
    refine Go.aload_0 d_Model_value_242 rfl ?_
    rw [if_pos o11_1, if_neg w24_2, if_neg w24_5, if_neg w24_8, if_neg w24_9, if_neg w24_10, if_neg w24_13, if_neg w24_16, if_neg w24_19, if_neg w24_22, if_pos w24_24] at hr
    obtain ⟨p243_25, hp243_25, hr⟩ := Option.bind_eq_some_iff.mp hr
    try dsimp only at hr
    refine Go.cv0r d_Model_value_243 rfl l_Model_289 k_Model_sum_v (mr_at_m (by omega) hB hS hC hD hE) rfl (hr3 _ _ hp243_25) (Nat.ble_eq_true_of_le (by omega)) rfl rfl ?_
    refine Go.istore_2 d_Model_value_246 rfl (by rfl) ?_
    refine Go.aload_0 d_Model_value_247 rfl ?_
    refine Go.dup d_Model_value_248 rfl rfl ?_
    refine Go.getfield d_Model_value_249 rfl f_Model_261 (mr_at_m (by omega) hB hS hC hD hE) (by rfl) ?_
    refine Go.iconst (v := 1) d_Model_value_252 rfl (by decide) ?_
    refine Go.iadd d_Model_value_253 rfl ?_
    refine Go.putfield d_Model_value_254 rfl f_Model_261_p (Or.inl (fun C T N h => by cases h; rfl)) (mr_at_m (by omega) hB hS hC hD hE) (by exact Nat.le_of_ble_eq_true rfl) rfl rfl ?_
    refine Go.heq (mr_put_m_walk (by omega) hB hS hC hD hE) ?_
    refine Go.iload_2 d_Model_value_257 rfl ?_
    cases hr
    exact Go.iret d_Model_value_258 rfl rfl ⟨rfl, rfl, rfl⟩
  by_cases w24_26 : ((sh_kd H) (mo_wk M).toNatClampNeg) = 47
  · refine Go.lsw (t := 236) d_Model_value_24 (by decide) (by rw [w24_26] <;> decide +kernel) (by decide) ?_
    refine Go.aload_0 d_Model_value_236 rfl ?_
    rw [if_pos o11_1, if_neg w24_2, if_neg w24_5, if_neg w24_8, if_neg w24_9, if_neg w24_10, if_neg w24_13, if_neg w24_16, if_neg w24_19, if_neg w24_22, if_neg w24_24, if_pos w24_26] at hr
    obtain ⟨p237_27, hp237_27, hr⟩ := Option.bind_eq_some_iff.mp hr
    try dsimp only at hr
    refine Go.cv0r d_Model_value_237 rfl l_Model_294 k_Model_value_v (mr_at_m (by omega) hB hS hC hD hE) rfl (hr5 _ _ hp237_27) (Nat.ble_eq_true_of_le (by omega)) rfl rfl ?_
    refine Go.ineg d_Model_value_240 rfl ?_
    cases hr
    exact Go.iret d_Model_value_241 rfl rfl ⟨rfl, rfl, rfl⟩
  refine Go.lsw (t := 259) d_Model_value_24 (by decide) (lsw_d [2, 8, 13, 14, 23, 24, 25, 26, 37, 40, 47] (by decide +kernel) ⟨w24_2, w24_5, w24_8, w24_9, w24_10, w24_13, w24_16, w24_19, w24_22, w24_24, w24_26, trivial⟩) (by decide) ?_
  refine Go.aload_0 d_Model_value_259 rfl ?_
  refine Go.dup d_Model_value_260 rfl rfl ?_
  refine Go.getfield d_Model_value_261 rfl f_Model_261 (mr_at_m (by omega) hB hS hC hD hE) (by rfl) ?_
  refine Go.iconst (v := 1) d_Model_value_264 rfl (by decide) ?_
  refine Go.iadd d_Model_value_265 rfl ?_
  refine Go.putfield d_Model_value_266 rfl f_Model_261_p (Or.inl (fun C T N h => by cases h; rfl)) (mr_at_m (by omega) hB hS hC hD hE) (by exact Nat.le_of_ble_eq_true rfl) rfl rfl ?_
  refine Go.heq (mr_put_m_walk (by omega) hB hS hC hD hE) ?_
  refine Go.aload_0 d_Model_value_269 rfl ?_
  rw [if_pos o11_1, if_neg w24_2, if_neg w24_5, if_neg w24_8, if_neg w24_9, if_neg w24_10, if_neg w24_13, if_neg w24_16, if_neg w24_19, if_neg w24_22, if_neg w24_24, if_neg w24_26] at hr
  obtain ⟨p270_28, hp270_28, hr⟩ := Option.bind_eq_some_iff.mp hr
  try dsimp only at hr
  refine Go.cv0r d_Model_value_270 rfl l_Model_289 k_Model_sum_v (mr_at_m (by omega) hB hS hC hD hE) rfl (hr3 _ _ hp270_28) (Nat.ble_eq_true_of_le (by omega)) rfl rfl ?_
  refine Go.istore_2 d_Model_value_273 rfl (by rfl) ?_
  refine Go.aload_0 d_Model_value_274 rfl ?_
  refine Go.dup d_Model_value_275 rfl rfl ?_
  refine Go.getfield d_Model_value_276 rfl f_Model_261 (mr_at_m (by omega) hB hS hC hD hE) (by rfl) ?_
  refine Go.iconst (v := 1) d_Model_value_279 rfl (by decide) ?_
  refine Go.iadd d_Model_value_280 rfl ?_
  refine Go.putfield d_Model_value_281 rfl f_Model_261_p (Or.inl (fun C T N h => by cases h; rfl)) (mr_at_m (by omega) hB hS hC hD hE) (by exact Nat.le_of_ble_eq_true rfl) rfl rfl ?_
  refine Go.heq (mr_put_m_walk (by omega) hB hS hC hD hE) ?_
  refine Go.aload_0 d_Model_value_284 rfl ?_
  obtain ⟨p285_29, hp285_29, hr⟩ := Option.bind_eq_some_iff.mp hr
  try dsimp only at hr
  refine Go.cv0r d_Model_value_285 rfl l_Model_289 k_Model_sum_v (mr_at_m (by omega) hB hS hC hD hE) rfl (hr3 _ _ hp285_29) (Nat.ble_eq_true_of_le (by omega)) rfl rfl ?_
  refine Go.istore_3 d_Model_value_288 rfl (by rfl) ?_
  refine Go.aload_0 d_Model_value_289 rfl ?_
  refine Go.dup d_Model_value_290 rfl rfl ?_
  refine Go.getfield d_Model_value_291 rfl f_Model_261 (mr_at_m (by omega) hB hS hC hD hE) (by rfl) ?_
  refine Go.iconst (v := 1) d_Model_value_294 rfl (by decide) ?_
  refine Go.iadd d_Model_value_295 rfl ?_
  refine Go.putfield d_Model_value_296 rfl f_Model_261_p (Or.inl (fun C T N h => by cases h; rfl)) (mr_at_m (by omega) hB hS hC hD hE) (by exact Nat.le_of_ble_eq_true rfl) rfl rfl ?_
  refine Go.heq (mr_put_m_walk (by omega) hB hS hC hD hE) ?_
  refine Go.iload_1 d_Model_value_299 rfl ?_
  refine Go.bipush (v := 33) d_Model_value_300 rfl (by decide) ?_
  refine Go.icmp_ne (t := 313) d_Model_value_302 (by decide) rfl (fun c302_30 => ?_) (fun c302_30 => ?_)
  · refine Go.iload_2 d_Model_value_313 rfl ?_
    refine Go.iload_3 d_Model_value_314 rfl ?_
    refine Go.imax d_Model_value_315 rfl l_Model_318 (by omega) rfl ?_
    rw [if_neg c302_30] at hr
    cases hr
    exact Go.iret d_Model_value_318 rfl rfl ⟨rfl, rfl, rfl⟩
  · refine Go.iload_2 d_Model_value_305 rfl ?_
    refine Go.iload_3 d_Model_value_306 rfl ?_
    refine Go.imin d_Model_value_307 rfl l_Model_313 (by omega) rfl ?_
    refine Go.goto (t := 318) d_Model_value_310 (by decide) ?_
    rw [if_pos c302_30] at hr
    cases hr
    exact Go.iret d_Model_value_318 rfl rfl ⟨rfl, rfl, rfl⟩
def ev_ (H : SH) (Y : SX) : Nat → EV
  | 0, _, _ => none
  | k + 1, w, M => if w = 0 then s_Model_test H Y (ev_ H Y k) M else if w = 1 then s_Model_both H Y (ev_ H Y k) M else if w = 2 then s_Model_single H Y (ev_ H Y k) M else if w = 3 then s_Model_sum H Y (ev_ H Y k) M else if w = 4 then s_Model_product H Y (ev_ H Y k) M else s_Model_value H Y (ev_ H Y k) M
set_option maxRecDepth 100000 in
set_option maxHeartbeats 4000000 in
theorem ev_go {Γ : G9} {h : AH} {m q r sa sb z : Nat} {H : SH} {Y : SX} (geo : m + 2 ≤ q ∧ m + 2 ≤ r ∧ (q + 24 ≤ r ∨ r + 21 ≤ q)) (hB : sh_ha H 0 ≤ 5) (hS : sh_ha H 3 ≤ 6) (hC : sh_ha H 6 ≤ 4) (hD : sh_ha H 9 ≤ 4) (hE : sh_ha H 11 ≤ 4) (hdy : sx_dy Y < 1000000) : ∀ k : Nat,
    (∀ (M : MO) (p : Int32 × MO), ev_ H Y k 0 M = some p → CallR Γ M_Model_test (k + 4) [.ref m] (md_ Γ h m q r sa sb r M H Y) z (some (.int p.1)) (md_ Γ h m q r sa sb r p.2 H Y)) ∧
    (∀ (M : MO) (p : Int32 × MO), ev_ H Y k 1 M = some p → CallR Γ M_Model_both (k + 4) [.ref m] (md_ Γ h m q r sa sb r M H Y) z (some (.int p.1)) (md_ Γ h m q r sa sb r p.2 H Y)) ∧
    (∀ (M : MO) (p : Int32 × MO), ev_ H Y k 2 M = some p → CallR Γ M_Model_single (k + 4) [.ref m] (md_ Γ h m q r sa sb r M H Y) z (some (.int p.1)) (md_ Γ h m q r sa sb r p.2 H Y)) ∧
    (∀ (M : MO) (p : Int32 × MO), ev_ H Y k 3 M = some p → CallR Γ M_Model_sum (k + 4) [.ref m] (md_ Γ h m q r sa sb r M H Y) z (some (.int p.1)) (md_ Γ h m q r sa sb r p.2 H Y)) ∧
    (∀ (M : MO) (p : Int32 × MO), ev_ H Y k 4 M = some p → CallR Γ M_Model_product (k + 4) [.ref m] (md_ Γ h m q r sa sb r M H Y) z (some (.int p.1)) (md_ Γ h m q r sa sb r p.2 H Y)) ∧
    (∀ (M : MO) (p : Int32 × MO), ev_ H Y k 5 M = some p → CallR Γ M_Model_value (k + 4) [.ref m] (md_ Γ h m q r sa sb r M H Y) z (some (.int p.1)) (md_ Γ h m q r sa sb r p.2 H Y)) := by
  intro k
  induction k with
  | zero => exact ⟨fun M p h => (by cases h), fun M p h => (by cases h), fun M p h => (by cases h), fun M p h => (by cases h), fun M p h => (by cases h), fun M p h => (by cases h)⟩
  | succ k ih =>
    obtain ⟨hr0, hr1, hr2, hr3, hr4, hr5⟩ := ih
    exact ⟨fun M p h => c_Model_test hr0 hr1 hr2 hr3 hr4 hr5 geo hB hS hC hD hE hdy h, fun M p h => c_Model_both hr0 hr1 hr2 hr3 hr4 hr5 geo hB hS hC hD hE hdy h, fun M p h => c_Model_single hr0 hr1 hr2 hr3 hr4 hr5 geo hB hS hC hD hE hdy h, fun M p h => c_Model_sum hr0 hr1 hr2 hr3 hr4 hr5 geo hB hS hC hD hE hdy h, fun M p h => c_Model_product hr0 hr1 hr2 hr3 hr4 hr5 geo hB hS hC hD hE hdy h, fun M p h => c_Model_value hr0 hr1 hr2 hr3 hr4 hr5 geo hB hS hC hD hE hdy h⟩
