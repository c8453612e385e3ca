/-! the reference: what tests and sums are worth, told where every place read lies within its row -/
def okI (i : Int32) (n : Nat) : Bool := !decide (i < 0) && decide (i.toNatClampNeg < n)
theorem okI_in {i : Int32} {n : Nat} (h : okI i n = true) : vp_in i n := by
  unfold okI at h
  simp only [Bool.and_eq_true, Bool.not_eq_true', decide_eq_false_iff_not, decide_eq_true_eq] at h
  exact fun w => w.elim h.1 (fun w2 => absurd h.2 (Nat.not_lt.mpr w2))
def b01 (x : Int32) : Bool := decide (x = 0) || decide (x = 1)
theorem b01_or {x : Int32} (h : b01 x = true) : x = 0 ∨ x = 1 := by
  unfold b01 at h
  simpa using h
abbrev EV : Type := Nat → MO → Option (Int32 × MO)
theorem md_at_q_1 {Γ : G9} {h : AH} {m q r sa sb : Nat} {M : MO} {H : SH} {Y : SX} (geo : m + 2 ≤ q ∧ m + 2 ≤ r ∧ (q + 24 ≤ r ∨ r + 21 ≤ q)) (hB : sh_ha H 0 ≤ 5) (hS : sh_ha H 3 ≤ 6) (hC : sh_ha H 6 ≤ 4) (hD : sh_ha H 9 ≤ 4) (hE : sh_ha H 11 ≤ 4) : (md_ Γ h m q r sa sb M H Y) (q + 1) = some (aI Γ 401 (fun j => nI ((sh_kd H) j))) := by
  unfold md_
  exact ((blk_out (by omega)).trans (sh_g1))
theorem md_put_m_walk {Γ : G9} {h : AH} {m q r sa sb : Nat} {M : MO} {H : SH} {Y : SX} {v : Int32} (geo : m + 2 ≤ q ∧ m + 2 ≤ r ∧ (q + 24 ≤ r ∨ r + 21 ≤ q)) (hB : sh_ha H 0 ≤ 5) (hS : sh_ha H 3 ≤ 6) (hC : sh_ha H 6 ≤ 4) (hD : sh_ha H 9 ≤ 4) (hE : sh_ha H 11 ≤ 4) : hup (md_ Γ h m q r sa sb M H Y) m (.inr (11, [.int (mo_th M), .ref (m + 1), .int (nI (mo_sz M)), .int (mo_ea M), .int (nI (mo_tk M)), .int (nI (mo_dp M)), .ref q, .ref sa, .ref sb, .int (mo_wk M), .ref r].set 9 (.int v))) = (md_ Γ h m q r sa sb (mo_wk' M v) H Y) := by
  unfold md_
  exact ((hup_blk (by omega)).trans (blk_in ((hup_blk (by omega)).trans (blk_in (mo_p_wk (v := v))))))
theorem d_Model_goesBy_0 : decode M_Model_goesBy.2.1 0 = .ok (.aload_n 0, 1) := by decide +kernel
theorem d_Model_goesBy_1 : decode M_Model_goesBy.2.1 1 = .ok (.getfield 20, 3) := by decide +kernel
theorem d_Model_goesBy_4 : decode M_Model_goesBy.2.1 4 = .ok (.getfield 93, 3) := by decide +kernel
theorem d_Model_goesBy_7 : decode M_Model_goesBy.2.1 7 = .ok (.aload_n 0, 1) := by decide +kernel
theorem d_Model_goesBy_8 : decode M_Model_goesBy.2.1 8 = .ok (.getfield 261, 3) := by decide +kernel
theorem d_Model_goesBy_11 : decode M_Model_goesBy.2.1 11 = .ok (.iaload, 1) := by decide +kernel
theorem d_Model_goesBy_12 : decode M_Model_goesBy.2.1 12 = .ok (.iload_n 1, 1) := by decide +kernel
theorem d_Model_goesBy_13 : decode M_Model_goesBy.2.1 13 = .ok (.if_icmp .eq 5, 3) := by decide +kernel
theorem d_Model_goesBy_16 : decode M_Model_goesBy.2.1 16 = .ok (.iconst 0, 1) := by decide +kernel
theorem d_Model_goesBy_17 : decode M_Model_goesBy.2.1 17 = .ok (.ireturn, 1) := by decide +kernel
theorem d_Model_goesBy_18 : decode M_Model_goesBy.2.1 18 = .ok (.aload_n 0, 1) := by decide +kernel
theorem d_Model_goesBy_19 : decode M_Model_goesBy.2.1 19 = .ok (.dup, 1) := by decide +kernel
theorem d_Model_goesBy_20 : decode M_Model_goesBy.2.1 20 = .ok (.getfield 261, 3) := by decide +kernel
theorem d_Model_goesBy_23 : decode M_Model_goesBy.2.1 23 = .ok (.iconst 1, 1) := by decide +kernel
theorem d_Model_goesBy_24 : decode M_Model_goesBy.2.1 24 = .ok (.iadd, 1) := by decide +kernel
theorem d_Model_goesBy_25 : decode M_Model_goesBy.2.1 25 = .ok (.putfield 261, 3) := by decide +kernel
theorem d_Model_goesBy_28 : decode M_Model_goesBy.2.1 28 = .ok (.iconst 1, 1) := by decide +kernel
theorem d_Model_goesBy_29 : decode M_Model_goesBy.2.1 29 = .ok (.ireturn, 1) := by decide +kernel
def s_Model_goesBy (H : SH) (x1 : Int32) (M : MO) : Option (Int32 × MO) := (if okI (mo_wk M) 401 = true then (if (nI ((sh_kd H) (mo_wk M).toNatClampNeg)) = x1 then some (1, (mo_wk' M ((mo_wk M) + 1))) else some (0, M)) else none)
set_option maxRecDepth 100000 in
set_option maxHeartbeats 4000000 in
theorem c_Model_goesBy {Γ : G9} {h : AH} {m q r sa sb z : Nat} {M : MO} {H : SH} {Y : SX} {x1 : Int32} {p : Int32 × MO} (geo : m + 2 ≤ q ∧ m + 2 ≤ r ∧ (q + 24 ≤ r ∨ r + 21 ≤ q)) (hB : sh_ha H 0 ≤ 5) (hS : sh_ha H 3 ≤ 6) (hC : sh_ha H 6 ≤ 4) (hD : sh_ha H 9 ≤ 4) (hE : sh_ha H 11 ≤ 4) (hr : s_Model_goesBy H x1 M = some p) : CallR Γ M_Model_goesBy 0 [.ref m, .int x1] (md_ Γ h m q r sa sb M H Y) z (some (.int p.1)) (md_ Γ h m q r sa sb p.2 H Y) := by
  refine Call.of_go (L := [some (.ref m), some (.int x1)]) (by decide +kernel) rfl (by exact Nat.le_of_ble_eq_true rfl) ?_
  unfold s_Model_goesBy at hr
  refine Go.aload_0 d_Model_goesBy_0 rfl ?_
  refine Go.getfield d_Model_goesBy_1 rfl f_Model_20 (md_at_m (by omega) hB hS hC hD hE) (by rfl) ?_
  refine Go.getfield d_Model_goesBy_4 rfl f_Model_93 (md_at_q (by omega) hB hS hC hD hE) (by rfl) ?_
  refine Go.aload_0 d_Model_goesBy_7 rfl ?_
  refine Go.getfield d_Model_goesBy_8 rfl f_Model_261 (md_at_m (by omega) hB hS hC hD hE) (by rfl) ?_
  have o11_1 : okI (mo_wk M) 401 = true := Classical.byContradiction fun w => by
    rw [if_neg w] at hr
    cases hr
  refine Go.iaload d_Model_goesBy_11 rfl (md_at_q_1 (by omega) hB hS hC hD hE) (okI_in o11_1) ?_
  refine Go.iload_1 d_Model_goesBy_12 rfl ?_
  refine Go.icmp_eq (t := 18) d_Model_goesBy_13 (by decide) rfl (fun c13_2 => ?_) (fun c13_2 => ?_)
  · refine Go.aload_0 d_Model_goesBy_18 rfl ?_
    refine Go.dup d_Model_goesBy_19 rfl rfl ?_
    refine Go.getfield d_Model_goesBy_20 rfl f_Model_261 (md_at_m (by omega) hB hS hC hD hE) (by rfl) ?_
    refine Go.iconst (v := 1) d_Model_goesBy_23 rfl (by decide) ?_
    refine Go.iadd d_Model_goesBy_24 rfl ?_
    refine Go.putfield d_Model_goesBy_25 rfl f_Model_261_p (Or.inl (fun C T N h => by cases h; rfl)) (md_at_m (by omega) hB hS hC hD hE) (by exact Nat.le_of_ble_eq_true rfl) rfl rfl ?_
    refine Go.heq (md_put_m_walk (by omega) hB hS hC hD hE) ?_
    refine Go.iconst (v := 1) d_Model_goesBy_28 rfl (by decide) ?_
    rw [if_pos o11_1, if_pos c13_2] at hr
    cases hr
    exact Go.iret d_Model_goesBy_29 rfl rfl ⟨rfl, rfl, rfl⟩
  · refine Go.iconst (v := 0) d_Model_goesBy_16 rfl (by decide) ?_
    rw [if_pos o11_1, if_neg c13_2] at hr
    cases hr
    exact Go.iret d_Model_goesBy_17 rfl rfl ⟨rfl, rfl, rfl⟩
theorem md_at_q_4 {Γ : G9} {h : AH} {m q r sa sb : Nat} {M : MO} {H : SH} {Y : SX} (geo : m + 2 ≤ q ∧ m + 2 ≤ r ∧ (q + 24 ≤ r ∨ r + 21 ≤ q)) (hB : sh_ha H 0 ≤ 5) (hS : sh_ha H 3 ≤ 6) (hC : sh_ha H 6 ≤ 4) (hD : sh_ha H 9 ≤ 4) (hE : sh_ha H 11 ≤ 4) : (md_ Γ h m q r sa sb M H Y) (q + 4) = some (aI Γ 401 (sh_me H)) := by
  unfold md_
  exact ((blk_out (by omega)).trans (sh_g4))
theorem d_Model_named_0 : decode M_Model_named.2.1 0 = .ok (.aload_n 0, 1) := by decide +kernel
theorem d_Model_named_1 : decode M_Model_named.2.1 1 = .ok (.getfield 20, 3) := by decide +kernel
theorem d_Model_named_4 : decode M_Model_named.2.1 4 = .ok (.getfield 169, 3) := by decide +kernel
theorem d_Model_named_7 : decode M_Model_named.2.1 7 = .ok (.aload_n 0, 1) := by decide +kernel
theorem d_Model_named_8 : decode M_Model_named.2.1 8 = .ok (.getfield 261, 3) := by decide +kernel
theorem d_Model_named_11 : decode M_Model_named.2.1 11 = .ok (.iaload, 1) := by decide +kernel
theorem d_Model_named_12 : decode M_Model_named.2.1 12 = .ok (.istore_n 1, 1) := by decide +kernel
theorem d_Model_named_13 : decode M_Model_named.2.1 13 = .ok (.aload_n 0, 1) := by decide +kernel
theorem d_Model_named_14 : decode M_Model_named.2.1 14 = .ok (.dup, 1) := by decide +kernel
theorem d_Model_named_15 : decode M_Model_named.2.1 15 = .ok (.getfield 261, 3) := by decide +kernel
theorem d_Model_named_18 : decode M_Model_named.2.1 18 = .ok (.iconst 1, 1) := by decide +kernel
theorem d_Model_named_19 : decode M_Model_named.2.1 19 = .ok (.iadd, 1) := by decide +kernel
theorem d_Model_named_20 : decode M_Model_named.2.1 20 = .ok (.putfield 261, 3) := by decide +kernel
theorem d_Model_named_23 : decode M_Model_named.2.1 23 = .ok (.iload_n 1, 1) := by decide +kernel
theorem d_Model_named_24 : decode M_Model_named.2.1 24 = .ok (.ireturn, 1) := by decide +kernel
def s_Model_named (H : SH) (M : MO) : Option (Int32 × MO) := (if okI (mo_wk M) 401 = true then some (((sh_me H) (mo_wk M).toNatClampNeg), (mo_wk' M ((mo_wk M) + 1))) else none)
set_option maxRecDepth 100000 in
set_option maxHeartbeats 4000000 in
theorem c_Model_named {Γ : G9} {h : AH} {m q r sa sb z : Nat} {M : MO} {H : SH} {Y : SX} {p : Int32 × MO} (geo : m + 2 ≤ q ∧ m + 2 ≤ r ∧ (q + 24 ≤ r ∨ r + 21 ≤ q)) (hB : sh_ha H 0 ≤ 5) (hS : sh_ha H 3 ≤ 6) (hC : sh_ha H 6 ≤ 4) (hD : sh_ha H 9 ≤ 4) (hE : sh_ha H 11 ≤ 4) (hr : s_Model_named H M = some p) : CallR Γ M_Model_named 0 [.ref m] (md_ Γ h m q r sa sb M H Y) z (some (.int p.1)) (md_ Γ h m q r sa sb p.2 H Y) := by
  refine Call.of_go (L := [some (.ref m), none]) (by decide +kernel) rfl (by exact Nat.le_of_ble_eq_true rfl) ?_
  unfold s_Model_named at hr
  refine Go.aload_0 d_Model_named_0 rfl ?_
  refine Go.getfield d_Model_named_1 rfl f_Model_20 (md_at_m (by omega) hB hS hC hD hE) (by rfl) ?_
  refine Go.getfield d_Model_named_4 rfl f_Model_169 (md_at_q (by omega) hB hS hC hD hE) (by rfl) ?_
  refine Go.aload_0 d_Model_named_7 rfl ?_
  refine Go.getfield d_Model_named_8 rfl f_Model_261 (md_at_m (by omega) hB hS hC hD hE) (by rfl) ?_
  have o11_1 : okI (mo_wk M) 401 = true := Classical.byContradiction fun w => by
    rw [if_neg w] at hr
    cases hr
  refine Go.iaload d_Model_named_11 rfl (md_at_q_4 (by omega) hB hS hC hD hE) (okI_in o11_1) ?_
  refine Go.istore_1 d_Model_named_12 rfl (by rfl) ?_
  refine Go.aload_0 d_Model_named_13 rfl ?_
  refine Go.dup d_Model_named_14 rfl rfl ?_
  refine Go.getfield d_Model_named_15 rfl f_Model_261 (md_at_m (by omega) hB hS hC hD hE) (by rfl) ?_
  refine Go.iconst (v := 1) d_Model_named_18 rfl (by decide) ?_
  refine Go.iadd d_Model_named_19 rfl ?_
  refine Go.putfield d_Model_named_20 rfl f_Model_261_p (Or.inl (fun C T N h => by cases h; rfl)) (md_at_m (by omega) hB hS hC hD hE) (by exact Nat.le_of_ble_eq_true rfl) rfl rfl ?_
  refine Go.heq (md_put_m_walk (by omega) hB hS hC hD hE) ?_
  refine Go.iload_1 d_Model_named_23 rfl ?_
  rw [if_pos o11_1] at hr
  cases hr
  exact Go.iret d_Model_named_24 rfl rfl ⟨rfl, rfl, rfl⟩
