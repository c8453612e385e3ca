/-! the reference: what is done by teams, what the weather does -/
theorem in_4 {x : Int32} {j n : Nat} (h : x = nI j) (hj : j < n) (hn : n < 2 ^ 31) : vp_in x n := by
  subst h
  exact vp_in_nI hj hn
/-- -1, or a place -/
def Idx (x : Int32) (n : Nat) : Prop := x = -1 ∨ ∃ j, j < n ∧ x = nI j
theorem Idx.mono {x : Int32} {n m : Nat} (h : Idx x n) (hm : n ≤ m) : Idx x m := h.imp id (fun ⟨j, h1, h2⟩ => ⟨j, Nat.lt_of_lt_of_le h1 hm, h2⟩)
theorem Idx.in_ {x : Int32} {n : Nat} (h : Idx x n) (h1 : ¬ x = -1) (hn : n < 2 ^ 31) : vp_in x n := by
  rcases h with h | ⟨j, hj, e⟩
  · exact absurd h h1
  · exact in_4 e hj hn
theorem Idx.pos {x : Int32} {n : Nat} (h : Idx x n) (h1 : ¬ x = -1) (hn : n < 2 ^ 31) : ¬ x < 0 := by
  rcases h with h | ⟨j, hj, e⟩
  · exact absurd h h1
  · rw [e]; exact nI_pos (by omega)
theorem Idx.lt {x : Int32} {n : Nat} (h : Idx x n) (h1 : ¬ x = -1) (hn : n < 2 ^ 31) : x.toNatClampNeg < n := by
  rcases h with h | ⟨j, hj, e⟩
  · exact absurd h h1
  · rw [e, nI_clamp (by omega)]; exact hj
theorem d_State_warmth_0 : decode M_State_warmth.2.1 0 = .ok (.aload_n 0, 1) := by decide +kernel
theorem d_State_warmth_1 : decode M_State_warmth.2.1 1 = .ok (.getfield 9, 3) := by decide +kernel
theorem d_State_warmth_4 : decode M_State_warmth.2.1 4 = .ok (.aload_n 0, 1) := by decide +kernel
theorem d_State_warmth_5 : decode M_State_warmth.2.1 5 = .ok (.getfield 78, 3) := by decide +kernel
theorem d_State_warmth_8 : decode M_State_warmth.2.1 8 = .ok (.bipush 8, 2) := by decide +kernel
theorem d_State_warmth_10 : decode M_State_warmth.2.1 10 = .ok (.irem, 1) := by decide +kernel
theorem d_State_warmth_11 : decode M_State_warmth.2.1 11 = .ok (.iaload, 1) := by decide +kernel
theorem d_State_warmth_12 : decode M_State_warmth.2.1 12 = .ok (.ireturn, 1) := by decide +kernel
def s_State_warmth (Y : SX) : Int32 := ((sx_wa Y) ((sx_dy Y) % 8))
set_option maxRecDepth 100000 in
set_option maxHeartbeats 800000 in
theorem c_State_warmth {Γ : G9} {h : AH} {r z : Nat} {Y : SX} (hdy : sx_dy Y < 1000000) : CallR Γ M_State_warmth 0 [.ref r] (blk h r 21 (sxC Γ r Y)) z (some (.int (s_State_warmth Y))) (blk h r 21 (sxC Γ r Y)) := by
  refine Call.of_go (L := [some (.ref r)]) (by decide +kernel) rfl (by exact Nat.le_of_ble_eq_true rfl) ?_
  unfold s_State_warmth
  refine Go.aload_0 d_State_warmth_0 rfl ?_
  refine Go.getfield d_State_warmth_1 rfl f_State_9 (sx_g0) (by rfl) ?_
  refine Go.aload_0 d_State_warmth_4 rfl ?_
  refine Go.getfield d_State_warmth_5 rfl f_State_78 (sx_g0) (by rfl) ?_
  refine Go.bipush (v := 8) d_State_warmth_8 rfl (by decide) ?_
  refine Go.irem d_State_warmth_10 rfl (by decide) ?_
  rw [show nI (sx_dy Y) - nI (sx_dy Y) / 8 * 8 = nI ((sx_dy Y) % 8) from nI_rem (by omega)]
  refine Go.iaload d_State_warmth_11 rfl (sx_g1) (show vp_in (nI ((sx_dy Y) % 8)) 8 from by first | exact vp_in_nI (by omega) (by omega) | exact vp_nle (by assumption) (by omega) (by omega)) ?_
  rw [nI_clamp (show ((sx_dy Y) % 8) < 2 ^ 31 by omega)]
  exact Go.iret d_State_warmth_12 rfl rfl ⟨rfl, rfl, rfl⟩
theorem d_Model_wayOf_0 : decode M_Model_wayOf.2.1 0 = .ok (.iload_n 2, 1) := by decide +kernel
theorem d_Model_wayOf_1 : decode M_Model_wayOf.2.1 1 = .ok (.ifCond .eq 12, 3) := by decide +kernel
theorem d_Model_wayOf_4 : decode M_Model_wayOf.2.1 4 = .ok (.aload_n 0, 1) := by decide +kernel
theorem d_Model_wayOf_5 : decode M_Model_wayOf.2.1 5 = .ok (.getfield 310, 3) := by decide +kernel
theorem d_Model_wayOf_8 : decode M_Model_wayOf.2.1 8 = .ok (.iload_n 1, 1) := by decide +kernel
theorem d_Model_wayOf_9 : decode M_Model_wayOf.2.1 9 = .ok (.iaload, 1) := by decide +kernel
theorem d_Model_wayOf_10 : decode M_Model_wayOf.2.1 10 = .ok (.goto 11, 3) := by decide +kernel
theorem d_Model_wayOf_13 : decode M_Model_wayOf.2.1 13 = .ok (.aload_n 0, 1) := by decide +kernel
theorem d_Model_wayOf_14 : decode M_Model_wayOf.2.1 14 = .ok (.getfield 310, 3) := by decide +kernel
theorem d_Model_wayOf_17 : decode M_Model_wayOf.2.1 17 = .ok (.iload_n 1, 1) := by decide +kernel
theorem d_Model_wayOf_18 : decode M_Model_wayOf.2.1 18 = .ok (.iaload, 1) := by decide +kernel
theorem d_Model_wayOf_19 : decode M_Model_wayOf.2.1 19 = .ok (.iconst 1, 1) := by decide +kernel
theorem d_Model_wayOf_20 : decode M_Model_wayOf.2.1 20 = .ok (.isub, 1) := by decide +kernel
theorem d_Model_wayOf_21 : decode M_Model_wayOf.2.1 21 = .ok (.ireturn, 1) := by decide +kernel
def s_Model_wayOf (Y : SX) (x2 : Nat) (x3 : Int32) : Int32 := (if x3 = 0 then (((sx_pl Y) x2) - 1) else ((sx_pl Y) x2))
set_option maxRecDepth 100000 in
set_option maxHeartbeats 800000 in
theorem c_Model_wayOf {Γ : G9} {h : AH} {r z : Nat} {Y : SX} {x2 : Nat} {vx2 : Int32} {x3 : Int32} (ex2 : vx2 = nI x2) (bx2 : x2 < 4) : CallR Γ M_Model_wayOf 0 [.ref r, .int vx2, .int x3] (blk h r 21 (sxC Γ r Y)) z (some (.int (s_Model_wayOf Y x2 x3))) (blk h r 21 (sxC Γ r Y)) := by
  subst ex2
  refine Call.of_go (L := [some (.ref r), some (.int (nI x2)), some (.int x3)]) (by decide +kernel) rfl (by exact Nat.le_of_ble_eq_true rfl) ?_
  unfold s_Model_wayOf
  refine Go.iload_2 d_Model_wayOf_0 rfl ?_
  refine Go.if_eq (t := 13) d_Model_wayOf_1 (by decide) rfl (fun c1_1 => ?_) (fun c1_1 => ?_)
  · refine Go.aload_0 d_Model_wayOf_13 rfl ?_
    refine Go.getfield d_Model_wayOf_14 rfl f_Model_310 (sx_g0) (by rfl) ?_
    refine Go.iload_1 d_Model_wayOf_17 rfl ?_
    refine Go.iaload d_Model_wayOf_18 rfl (sx_g15) (show vp_in (nI x2) 4 from by first | exact vp_in_nI (by omega) (by omega) | exact vp_nle (by assumption) (by omega) (by omega)) ?_
    rw [nI_clamp (show x2 < 2 ^ 31 by omega)]
    refine Go.iconst (v := 1) d_Model_wayOf_19 rfl (by decide) ?_
    refine Go.isub d_Model_wayOf_20 rfl ?_
    rw [if_pos c1_1]
    exact Go.iret d_Model_wayOf_21 rfl rfl ⟨rfl, rfl, rfl⟩
  · refine Go.aload_0 d_Model_wayOf_4 rfl ?_
    refine Go.getfield d_Model_wayOf_5 rfl f_Model_310 (sx_g0) (by rfl) ?_
    refine Go.iload_1 d_Model_wayOf_8 rfl ?_
    refine Go.iaload d_Model_wayOf_9 rfl (sx_g15) (show vp_in (nI x2) 4 from by first | exact vp_in_nI (by omega) (by omega) | exact vp_nle (by assumption) (by omega) (by omega)) ?_
    rw [nI_clamp (show x2 < 2 ^ 31 by omega)]
    refine Go.goto (t := 21) d_Model_wayOf_10 (by decide) ?_
    rw [if_neg c1_1]
    exact Go.iret d_Model_wayOf_21 rfl rfl ⟨rfl, rfl, rfl⟩
theorem d_Model_isIn_0 : decode M_Model_isIn.2.1 0 = .ok (.iload_n 0, 1) := by decide +kernel
theorem d_Model_isIn_1 : decode M_Model_isIn.2.1 1 = .ok (.iload_n 1, 1) := by decide +kernel
theorem d_Model_isIn_2 : decode M_Model_isIn.2.1 2 = .ok (.if_icmp .lt 12, 3) := by decide +kernel
theorem d_Model_isIn_5 : decode M_Model_isIn.2.1 5 = .ok (.iload_n 0, 1) := by decide +kernel
theorem d_Model_isIn_6 : decode M_Model_isIn.2.1 6 = .ok (.iload_n 2, 1) := by decide +kernel
theorem d_Model_isIn_7 : decode M_Model_isIn.2.1 7 = .ok (.if_icmp .gt 7, 3) := by decide +kernel
theorem d_Model_isIn_10 : decode M_Model_isIn.2.1 10 = .ok (.iconst 1, 1) := by decide +kernel
theorem d_Model_isIn_11 : decode M_Model_isIn.2.1 11 = .ok (.goto 4, 3) := by decide +kernel
theorem d_Model_isIn_14 : decode M_Model_isIn.2.1 14 = .ok (.iconst 0, 1) := by decide +kernel
theorem d_Model_isIn_15 : decode M_Model_isIn.2.1 15 = .ok (.ireturn, 1) := by decide +kernel
def s_Model_isIn (x1 : Int32) (x2 : Int32) (x3 : Int32) : Int32 := (if x1 < x2 then 0 else (if x3 < x1 then 0 else 1))
set_option maxRecDepth 100000 in
set_option maxHeartbeats 800000 in
theorem c_Model_isIn {Γ : G9} {h : AH} {z : Nat} {x1 : Int32} {x2 : Int32} {x3 : Int32} : CallR Γ M_Model_isIn 0 [.int x1, .int x2, .int x3] h z (some (.int (s_Model_isIn x1 x2 x3))) h := by
  refine Call.of_go (L := [some (.int x1), some (.int x2), some (.int x3)]) (by decide +kernel) rfl (by exact Nat.le_of_ble_eq_true rfl) ?_
  unfold s_Model_isIn
  refine Go.iload_0 d_Model_isIn_0 rfl ?_
  refine Go.iload_1 d_Model_isIn_1 rfl ?_
  refine Go.icmp_lt (t := 14) d_Model_isIn_2 (by decide) rfl (fun c2_1 => ?_) (fun c2_1 => ?_)
  · refine Go.iconst (v := 0) d_Model_isIn_14 rfl (by decide) ?_
    rw [if_pos c2_1]
    exact Go.iret d_Model_isIn_15 rfl rfl ⟨rfl, rfl, rfl⟩
  · refine Go.iload_0 d_Model_isIn_5 rfl ?_
    refine Go.iload_2 d_Model_isIn_6 rfl ?_
    refine Go.icmp_gt (t := 14) d_Model_isIn_7 (by decide) rfl (fun c7_2 => ?_) (fun c7_2 => ?_)
    · refine Go.iconst (v := 0) d_Model_isIn_14 rfl (by decide) ?_
      rw [if_neg c2_1, if_pos c7_2]
      exact Go.iret d_Model_isIn_15 rfl rfl ⟨rfl, rfl, rfl⟩
    · refine Go.iconst (v := 1) d_Model_isIn_10 rfl (by decide) ?_
      refine Go.goto (t := 15) d_Model_isIn_11 (by decide) ?_
      rw [if_neg c2_1, if_neg c7_2]
      exact Go.iret d_Model_isIn_15 rfl rfl ⟨rfl, rfl, rfl⟩
set_option maxRecDepth 100000 in
set_option maxHeartbeats 800000 in
theorem s_Model_isIn_01 (x1 : Int32) (x2 : Int32) (x3 : Int32) : (s_Model_isIn x1 x2 x3) = 0 ∨ (s_Model_isIn x1 x2 x3) = 1 := by
  unfold s_Model_isIn
  (repeat' split) <;> first | exact Or.inl rfl | exact Or.inr rfl
theorem md_at_r {Γ : G9} {h : AH} {m q r sa sb ro : Nat} {M : MO} {H : SH} {Y : SX} (geo : m + 2 ≤ q ∧ m + 2 ≤ r ∧ (q + 24 ≤ r ∨ r + 21 ≤ q)) (hB : sh_ha H 0 ≤ 5) (hS : sh_ha H 3 ≤ 6) (hC : sh_ha H 6 ≤ 4) (hD : sh_ha H 9 ≤ 4) (hE : sh_ha H 11 ≤ 4) : (md_ Γ h m q r sa sb ro M H Y) r = some (.inr (10, [.int (nI (sx_dy Y)), .int (sx_rd Y), .int (sx_fa Y), .int (sx_ca Y), .ref (r + 1), .ref (r + 2), .ref (r + 3), .ref (r + 4), .ref (r + 5), .ref (r + 6), .ref (r + 7), .ref (r + 8), .ref (r + 9), .ref (r + 10), .ref (r + 11), .ref (r + 12), .ref (r + 13), .ref (r + 14), .ref (r + 15), .ref (r + 16), .ref (r + 17), .ref (r + 18), .ref (r + 19), .ref (r + 20)])) := by
  unfold md_
  exact (sx_g0)
theorem md_at_r_8 {Γ : G9} {h : AH} {m q r sa sb ro : Nat} {M : MO} {H : SH} {Y : SX} (geo : m + 2 ≤ q ∧ m + 2 ≤ r ∧ (q + 24 ≤ r ∨ r + 21 ≤ q)) (hB : sh_ha H 0 ≤ 5) (hS : sh_ha H 3 ≤ 6) (hC : sh_ha H 6 ≤ 4) (hD : sh_ha H 9 ≤ 4) (hE : sh_ha H 11 ≤ 4) : (md_ Γ h m q r sa sb ro M H Y) (r + 8) = some (aI Γ 4 (sx_br Y)) := by
  unfold md_
  exact (sx_g8)
theorem md_at_m {Γ : G9} {h : AH} {m q r sa sb ro : Nat} {M : MO} {H : SH} {Y : SX} (geo : m + 2 ≤ q ∧ m + 2 ≤ r ∧ (q + 24 ≤ r ∨ r + 21 ≤ q)) (hB : sh_ha H 0 ≤ 5) (hS : sh_ha H 3 ≤ 6) (hC : sh_ha H 6 ≤ 4) (hD : sh_ha H 9 ≤ 4) (hE : sh_ha H 11 ≤ 4) : (md_ Γ h m q r sa sb ro M H Y) m = some (.inr (11, [.int (mo_th M), .ref (m + 1), .int (nI (mo_sz M)), .int (mo_ea M), .int (nI (mo_tk M)), .int (nI (mo_dp M)), .ref q, .ref sa, .ref sb, .int (mo_wk M), .ref ro])) := by
  unfold md_
  exact ((blk_out (by omega)).trans ((blk_out (by omega)).trans (mo_g0)))
theorem md_at_q {Γ : G9} {h : AH} {m q r sa sb ro : Nat} {M : MO} {H : SH} {Y : SX} (geo : m + 2 ≤ q ∧ m + 2 ≤ r ∧ (q + 24 ≤ r ∨ r + 21 ≤ q)) (hB : sh_ha H 0 ≤ 5) (hS : sh_ha H 3 ≤ 6) (hC : sh_ha H 6 ≤ 4) (hD : sh_ha H 9 ≤ 4) (hE : sh_ha H 11 ≤ 4) : (md_ Γ h m q r sa sb ro M H Y) q = some (.inr (9, [.ref (q + 1), .ref (q + 2), .ref (q + 3), .ref (q + 4), .ref (q + 5), .ref (q + 6), .int (sh_ln H), .ref (q + 7), .ref (q + 8), .ref (q + 9), .ref (q + 10), .ref (q + 11), .ref (q + 12), .ref (q + 13), .ref (q + 14), .ref (q + 15), .ref (q + 16), .ref (q + 17), .ref (q + 18), .int (sh_dt H), .int (nI (sh_or H)), .ref (q + 19), .ref (q + 20), .ref (q + 21), .ref (q + 22), .ref (q + 23)])) := by
  unfold md_
  exact ((blk_out (by omega)).trans (sh_g0))
theorem md_at_q_16 {Γ : G9} {h : AH} {m q r sa sb ro : Nat} {M : MO} {H : SH} {Y : SX} (geo : m + 2 ≤ q ∧ m + 2 ≤ r ∧ (q + 24 ≤ r ∨ r + 21 ≤ q)) (hB : sh_ha H 0 ≤ 5) (hS : sh_ha H 3 ≤ 6) (hC : sh_ha H 6 ≤ 4) (hD : sh_ha H 9 ≤ 4) (hE : sh_ha H 11 ≤ 4) : (md_ Γ h m q r sa sb ro M H Y) (q + 16) = some (aI Γ 4 (sh_sz H)) := by
  unfold md_
  exact ((blk_out (by omega)).trans (sh_g16))
theorem d_Model_isWeak_0 : decode M_Model_isWeak.2.1 0 = .ok (.aload_n 1, 1) := by decide +kernel
theorem d_Model_isWeak_1 : decode M_Model_isWeak.2.1 1 = .ok (.getfield 307, 3) := by decide +kernel
theorem d_Model_isWeak_4 : decode M_Model_isWeak.2.1 4 = .ok (.iload_n 2, 1) := by decide +kernel
theorem d_Model_isWeak_5 : decode M_Model_isWeak.2.1 5 = .ok (.iaload, 1) := by decide +kernel
theorem d_Model_isWeak_6 : decode M_Model_isWeak.2.1 6 = .ok (.bipush 8, 2) := by decide +kernel
theorem d_Model_isWeak_8 : decode M_Model_isWeak.2.1 8 = .ok (.aload_n 0, 1) := by decide +kernel
theorem d_Model_isWeak_9 : decode M_Model_isWeak.2.1 9 = .ok (.getfield 20, 3) := by decide +kernel
theorem d_Model_isWeak_12 : decode M_Model_isWeak.2.1 12 = .ok (.getfield 222, 3) := by decide +kernel
theorem d_Model_isWeak_15 : decode M_Model_isWeak.2.1 15 = .ok (.iload_n 3, 1) := by decide +kernel
theorem d_Model_isWeak_16 : decode M_Model_isWeak.2.1 16 = .ok (.iaload, 1) := by decide +kernel
theorem d_Model_isWeak_17 : decode M_Model_isWeak.2.1 17 = .ok (.imul, 1) := by decide +kernel
theorem d_Model_isWeak_18 : decode M_Model_isWeak.2.1 18 = .ok (.if_icmp .ge 7, 3) := by decide +kernel
theorem d_Model_isWeak_21 : decode M_Model_isWeak.2.1 21 = .ok (.iconst 1, 1) := by decide +kernel
theorem d_Model_isWeak_22 : decode M_Model_isWeak.2.1 22 = .ok (.goto 4, 3) := by decide +kernel
theorem d_Model_isWeak_25 : decode M_Model_isWeak.2.1 25 = .ok (.iconst 0, 1) := by decide +kernel
theorem d_Model_isWeak_26 : decode M_Model_isWeak.2.1 26 = .ok (.ireturn, 1) := by decide +kernel
def s_Model_isWeak (M : MO) (H : SH) (Y : SX) (x2 : Nat) (x3 : Nat) : Int32 := (if (8 * ((sh_sz H) x3)) ≤ ((sx_br Y) x2) then 0 else 1)
set_option maxRecDepth 100000 in
set_option maxHeartbeats 800000 in
theorem c_Model_isWeak {Γ : G9} {h : AH} {m q r sa sb ro z : Nat} {M : MO} {H : SH} {Y : SX} {x2 : Nat} {vx2 : Int32} {x3 : Nat} {vx3 : Int32} (ex2 : vx2 = nI x2) (bx2 : x2 < 4) (ex3 : vx3 = nI x3) (bx3 : x3 < 4) (geo : m + 2 ≤ q ∧ m + 2 ≤ r ∧ (q + 24 ≤ r ∨ r + 21 ≤ q)) (hB : sh_ha H 0 ≤ 5) (hS : sh_ha H 3 ≤ 6) (hC : sh_ha H 6 ≤ 4) (hD : sh_ha H 9 ≤ 4) (hE : sh_ha H 11 ≤ 4) : CallR Γ M_Model_isWeak 0 [.ref m, .ref r, .int vx2, .int vx3] (md_ Γ h m q r sa sb ro M H Y) z (some (.int (s_Model_isWeak M H Y x2 x3))) (md_ Γ h m q r sa sb ro M H Y) := by
  subst ex2
  subst ex3
  refine Call.of_go (L := [some (.ref m), some (.ref r), some (.int (nI x2)), some (.int (nI x3))]) (by decide +kernel) rfl (by exact Nat.le_of_ble_eq_true rfl) ?_
  unfold s_Model_isWeak
  refine Go.aload_1 d_Model_isWeak_0 rfl ?_
  refine Go.getfield d_Model_isWeak_1 rfl f_Model_307 (md_at_r (by omega) hB hS hC hD hE) (by rfl) ?_
  refine Go.iload_2 d_Model_isWeak_4 rfl ?_
  refine Go.iaload d_Model_isWeak_5 rfl (md_at_r_8 (by omega) hB hS hC hD hE) (show vp_in (nI x2) 4 from by first | exact vp_in_nI (by omega) (by omega) | exact vp_nle (by assumption) (by omega) (by omega)) ?_
  rw [nI_clamp (show x2 < 2 ^ 31 by omega)]
  refine Go.bipush (v := 8) d_Model_isWeak_6 rfl (by decide) ?_
  refine Go.aload_0 d_Model_isWeak_8 rfl ?_
  refine Go.getfield d_Model_isWeak_9 rfl f_Model_20 (md_at_m (by omega) hB hS hC hD hE) (by rfl) ?_
  refine Go.getfield d_Model_isWeak_12 rfl f_Model_222 (md_at_q (by omega) hB hS hC hD hE) (by rfl) ?_
  refine Go.iload_3 d_Model_isWeak_15 rfl ?_
  refine Go.iaload d_Model_isWeak_16 rfl (md_at_q_16 (by omega) hB hS hC hD hE) (show vp_in (nI x3) 4 from by first | exact vp_in_nI (by omega) (by omega) | exact vp_nle (by assumption) (by omega) (by omega)) ?_
  rw [nI_clamp (show x3 < 2 ^ 31 by omega)]
  refine Go.imul d_Model_isWeak_17 rfl ?_
  refine Go.icmp_ge (t := 25) d_Model_isWeak_18 (by decide) rfl (fun c18_1 => ?_) (fun c18_1 => ?_)
  · refine Go.iconst (v := 0) d_Model_isWeak_25 rfl (by decide) ?_
    rw [if_pos c18_1]
    exact Go.iret d_Model_isWeak_26 rfl rfl ⟨rfl, rfl, rfl⟩
  · refine Go.iconst (v := 1) d_Model_isWeak_21 rfl (by decide) ?_
    refine Go.goto (t := 26) d_Model_isWeak_22 (by decide) ?_
    rw [if_neg c18_1]
    exact Go.iret d_Model_isWeak_26 rfl rfl ⟨rfl, rfl, rfl⟩
set_option maxRecDepth 100000 in
set_option maxHeartbeats 800000 in
theorem s_Model_isWeak_01 (M : MO) (H : SH) (Y : SX) (x2 : Nat) (x3 : Nat) : (s_Model_isWeak M H Y x2 x3) = 0 ∨ (s_Model_isWeak M H Y x2 x3) = 1 := by
  unfold s_Model_isWeak
  (repeat' split) <;> first | exact Or.inl rfl | exact Or.inr rfl
theorem md_at_q_5 {Γ : G9} {h : AH} {m q r sa sb ro : Nat} {M : MO} {H : SH} {Y : SX} (geo : m + 2 ≤ q ∧ m + 2 ≤ r ∧ (q + 24 ≤ r ∨ r + 21 ≤ q)) (hB : sh_ha H 0 ≤ 5) (hS : sh_ha H 3 ≤ 6) (hC : sh_ha H 6 ≤ 4) (hD : sh_ha H 9 ≤ 4) (hE : sh_ha H 11 ≤ 4) : (md_ Γ h m q r sa sb ro M H Y) (q + 5) = some (aI Γ 12 (fun j => nI ((sh_ha H) j))) := by
  unfold md_
  exact ((blk_out (by omega)).trans (sh_g5))
theorem md_at_q_11 {Γ : G9} {h : AH} {m q r sa sb ro : Nat} {M : MO} {H : SH} {Y : SX} (geo : m + 2 ≤ q ∧ m + 2 ≤ r ∧ (q + 24 ≤ r ∨ r + 21 ≤ q)) (hB : sh_ha H 0 ≤ 5) (hS : sh_ha H 3 ≤ 6) (hC : sh_ha H 6 ≤ 4) (hD : sh_ha H 9 ≤ 4) (hE : sh_ha H 11 ≤ 4) : (md_ Γ h m q r sa sb ro M H Y) (q + 11) = some (aI Γ 4 (sh_ab H)) := by
  unfold md_
  exact ((blk_out (by omega)).trans (sh_g11))
theorem md_at_r_9 {Γ : G9} {h : AH} {m q r sa sb ro : Nat} {M : MO} {H : SH} {Y : SX} (geo : m + 2 ≤ q ∧ m + 2 ≤ r ∧ (q + 24 ≤ r ∨ r + 21 ≤ q)) (hB : sh_ha H 0 ≤ 5) (hS : sh_ha H 3 ≤ 6) (hC : sh_ha H 6 ≤ 4) (hD : sh_ha H 9 ≤ 4) (hE : sh_ha H 11 ≤ 4) : (md_ Γ h m q r sa sb ro M H Y) (r + 9) = some (aI Γ 4 (sx_kn Y)) := by
  unfold md_
  exact (sx_g9)
theorem d_Model_canGo_53 : decode M_Model_canGo.2.1 53 = .ok (.iload 5, 2) := by decide +kernel
theorem d_Model_canGo_55 : decode M_Model_canGo.2.1 55 = .ok (.aload_n 0, 1) := by decide +kernel
theorem d_Model_canGo_56 : decode M_Model_canGo.2.1 56 = .ok (.getfield 20, 3) := by decide +kernel
theorem d_Model_canGo_59 : decode M_Model_canGo.2.1 59 = .ok (.getfield 40, 3) := by decide +kernel
theorem d_Model_canGo_62 : decode M_Model_canGo.2.1 62 = .ok (.bipush 6, 2) := by decide +kernel
theorem d_Model_canGo_64 : decode M_Model_canGo.2.1 64 = .ok (.iaload, 1) := by decide +kernel
theorem d_Model_canGo_65 : decode M_Model_canGo.2.1 65 = .ok (.if_icmp .ge 47, 3) := by decide +kernel
theorem d_Model_canGo_112 : decode M_Model_canGo.2.1 112 = .ok (.iconst 1, 1) := by decide +kernel
theorem d_Model_canGo_113 : decode M_Model_canGo.2.1 113 = .ok (.ireturn, 1) := by decide +kernel
theorem d_Model_canGo_68 : decode M_Model_canGo.2.1 68 = .ok (.aload_n 0, 1) := by decide +kernel
theorem d_Model_canGo_69 : decode M_Model_canGo.2.1 69 = .ok (.getfield 20, 3) := by decide +kernel
theorem d_Model_canGo_72 : decode M_Model_canGo.2.1 72 = .ok (.getfield 187, 3) := by decide +kernel
theorem d_Model_canGo_75 : decode M_Model_canGo.2.1 75 = .ok (.iload 5, 2) := by decide +kernel
theorem d_Model_canGo_77 : decode M_Model_canGo.2.1 77 = .ok (.iaload, 1) := by decide +kernel
theorem d_Model_canGo_78 : decode M_Model_canGo.2.1 78 = .ok (.iload 4, 2) := by decide +kernel
theorem d_Model_canGo_80 : decode M_Model_canGo.2.1 80 = .ok (.if_icmp .ne 26, 3) := by decide +kernel
theorem d_Model_canGo_83 : decode M_Model_canGo.2.1 83 = .ok (.aload_n 1, 1) := by decide +kernel
theorem d_Model_canGo_84 : decode M_Model_canGo.2.1 84 = .ok (.getfield 286, 3) := by decide +kernel
theorem d_Model_canGo_87 : decode M_Model_canGo.2.1 87 = .ok (.iload 5, 2) := by decide +kernel
theorem d_Model_canGo_89 : decode M_Model_canGo.2.1 89 = .ok (.iaload, 1) := by decide +kernel
theorem d_Model_canGo_90 : decode M_Model_canGo.2.1 90 = .ok (.ifCond .le 16, 3) := by decide +kernel
theorem d_Model_canGo_93 : decode M_Model_canGo.2.1 93 = .ok (.aload_n 0, 1) := by decide +kernel
theorem d_Model_canGo_94 : decode M_Model_canGo.2.1 94 = .ok (.aload_n 1, 1) := by decide +kernel
theorem d_Model_canGo_95 : decode M_Model_canGo.2.1 95 = .ok (.iload 5, 2) := by decide +kernel
theorem d_Model_canGo_97 : decode M_Model_canGo.2.1 97 = .ok (.iload_n 2, 1) := by decide +kernel
theorem d_Model_canGo_98 : decode M_Model_canGo.2.1 98 = .ok (.invokevirtual 328, 3) := by decide +kernel
theorem d_Model_canGo_101 : decode M_Model_canGo.2.1 101 = .ok (.ifCond .eq 5, 3) := by decide +kernel
theorem d_Model_canGo_104 : decode M_Model_canGo.2.1 104 = .ok (.iconst 0, 1) := by decide +kernel
theorem d_Model_canGo_105 : decode M_Model_canGo.2.1 105 = .ok (.ireturn, 1) := by decide +kernel
theorem d_Model_canGo_106 : decode M_Model_canGo.2.1 106 = .ok (.iinc 5 1, 3) := by decide +kernel
theorem d_Model_canGo_109 : decode M_Model_canGo.2.1 109 = .ok (.goto (-56), 3) := by decide +kernel
def l_Model_canGo_53 (M : MO) (H : SH) (Y : SX) (x2 : Nat) (x3 : Int32) (w : Int32) : Nat → Nat → Int32
  | 0, i => 1
  | k + 1, i => (if ((sh_ab H) i) = w then (if ((sx_kn Y) i) ≤ 0 then (l_Model_canGo_53 M H Y x2 x3 w k (i + 1)) else (if (s_Model_isWeak M H Y i x2) = 0 then (l_Model_canGo_53 M H Y x2 x3 w k (i + 1)) else 0)) else (l_Model_canGo_53 M H Y x2 x3 w k (i + 1)))
set_option maxRecDepth 100000 in
set_option maxHeartbeats 800000 in
theorem l_Model_canGo_53_go {Γ : G9} {h : AH} {m q r sa sb ro z : Nat} {n : Nat} {M : MO} {H : SH} {Y : SX} {x2 : Nat} {x3 : Int32} {w : Int32} (bx2 : x2 < 4) (geo : m + 2 ≤ q ∧ m + 2 ≤ r ∧ (q + 24 ≤ r ∨ r + 21 ≤ q)) (hB : sh_ha H 0 ≤ 5) (hS : sh_ha H 3 ≤ 6) (hC : sh_ha H 6 ≤ 4) (hD : sh_ha H 9 ≤ 4) (hE : sh_ha H 11 ≤ 4) (hn20 : n ≤ 20) (hn : sh_ha H 6 = n) : ∀ (k i : Nat), i + k = n → Go Γ M_Model_canGo 1 0 0 53 [some (.ref m), some (.ref r), some (.int (nI x2)), some (.int x3), some (.int w), some (.int (nI i))] [] (md_ Γ h m q r sa sb ro M H Y) z (RQ (some (.int (l_Model_canGo_53 M H Y x2 x3 w k i))) (md_ Γ h m q r sa sb ro M H Y) z) noX := by
  intro k
  induction k with
  | zero =>
    intro i hi
    unfold l_Model_canGo_53
    refine Go.iload_5 d_Model_canGo_53 rfl ?_
    refine Go.aload_0 d_Model_canGo_55 rfl ?_
    refine Go.getfield d_Model_canGo_56 rfl f_Model_20 (md_at_m (by omega) hB hS hC hD hE) (by rfl) ?_
    refine Go.getfield d_Model_canGo_59 rfl f_Model_40 (md_at_q (by omega) hB hS hC hD hE) (by rfl) ?_
    refine Go.bipush (v := 6) d_Model_canGo_62 rfl (by decide) ?_
    refine Go.iaload d_Model_canGo_64 rfl (md_at_q_5 (by omega) hB hS hC hD hE) (show vp_in (nI 6) 12 from by first | exact vp_in_nI (by omega) (by omega) | exact vp_nle (by assumption) (by omega) (by omega)) ?_
    rw [show (6 : Int32).toNatClampNeg = 6 from by decide]
    refine Go.icmp_ge (t := 112) d_Model_canGo_65 (by decide) rfl (fun c65_1 => ?_) (fun c65_1 => ?_)
    · refine Go.iconst (v := 1) d_Model_canGo_112 rfl (by decide) ?_
      exact Go.iret d_Model_canGo_113 rfl rfl ⟨rfl, rfl, rfl⟩
    · exact absurd (nI_le (by omega) (by omega)) c65_1
  | succ k ih =>
    intro i hi
    unfold l_Model_canGo_53
    refine Go.iload_5 d_Model_canGo_53 rfl ?_
    refine Go.aload_0 d_Model_canGo_55 rfl ?_
    refine Go.getfield d_Model_canGo_56 rfl f_Model_20 (md_at_m (by omega) hB hS hC hD hE) (by rfl) ?_
    refine Go.getfield d_Model_canGo_59 rfl f_Model_40 (md_at_q (by omega) hB hS hC hD hE) (by rfl) ?_
    refine Go.bipush (v := 6) d_Model_canGo_62 rfl (by decide) ?_
    refine Go.iaload d_Model_canGo_64 rfl (md_at_q_5 (by omega) hB hS hC hD hE) (show vp_in (nI 6) 12 from by first | exact vp_in_nI (by omega) (by omega) | exact vp_nle (by assumption) (by omega) (by omega)) ?_
    rw [show (6 : Int32).toNatClampNeg = 6 from by decide]
    refine Go.icmp_ge (t := 112) d_Model_canGo_65 (by decide) rfl (fun c65_1 => ?_) (fun c65_1 => ?_)
    · exact absurd c65_1 (nI_ge (by omega) (by omega))
    · refine Go.aload_0 d_Model_canGo_68 rfl ?_
      refine Go.getfield d_Model_canGo_69 rfl f_Model_20 (md_at_m (by omega) hB hS hC hD hE) (by rfl) ?_
      refine Go.getfield d_Model_canGo_72 rfl f_Model_187 (md_at_q (by omega) hB hS hC hD hE) (by rfl) ?_
      refine Go.iload_5 d_Model_canGo_75 rfl ?_
      refine Go.iaload d_Model_canGo_77 rfl (md_at_q_11 (by omega) hB hS hC hD hE) (show vp_in (nI i) 4 from by first | exact vp_in_nI (by omega) (by omega) | exact vp_nle (by assumption) (by omega) (by omega)) ?_
      rw [nI_clamp (show i < 2 ^ 31 by omega)]
      refine Go.iload_4 d_Model_canGo_78 rfl ?_
      refine Go.icmp_ne (t := 106) d_Model_canGo_80 (by decide) rfl (fun c80_2 => ?_) (fun c80_2 => ?_)
      · refine Go.iinc_5 d_Model_canGo_106 rfl (by rfl) (nI_inc _) ?_
        refine Go.goto (t := 53) d_Model_canGo_109 (by decide) ?_
        rw [if_neg c80_2]
        exact ih (i + 1) (by omega)
      · refine Go.aload_1 d_Model_canGo_83 rfl ?_
        refine Go.getfield d_Model_canGo_84 rfl f_Model_286 (md_at_r (by omega) hB hS hC hD hE) (by rfl) ?_
        refine Go.iload_5 d_Model_canGo_87 rfl ?_
        refine Go.iaload d_Model_canGo_89 rfl (md_at_r_9 (by omega) hB hS hC hD hE) (show vp_in (nI i) 4 from by first | exact vp_in_nI (by omega) (by omega) | exact vp_nle (by assumption) (by omega) (by omega)) ?_
        rw [nI_clamp (show i < 2 ^ 31 by omega)]
        refine Go.if_le (t := 106) d_Model_canGo_90 (by decide) rfl (fun c90_3 => ?_) (fun c90_3 => ?_)
        · refine Go.iinc_5 d_Model_canGo_106 rfl (by rfl) (nI_inc _) ?_
          refine Go.goto (t := 53) d_Model_canGo_109 (by decide) ?_
          rw [if_pos c80_2, if_pos c90_3]
          exact ih (i + 1) (by omega)
        · refine Go.aload_0 d_Model_canGo_93 rfl ?_
          refine Go.aload_1 d_Model_canGo_94 rfl ?_
          refine Go.iload_5 d_Model_canGo_95 rfl ?_
          refine Go.iload_2 d_Model_canGo_97 rfl ?_
          refine Go.cv3r d_Model_canGo_98 rfl l_Model_328 k_Model_isWeak_v (md_at_m (by omega) hB hS hC hD hE) rfl (c_Model_isWeak (x2 := i) (x3 := x2) rfl (by omega) rfl (by omega) (by omega) hB hS hC hD hE) rfl rfl rfl ?_
          refine Go.if_eq (t := 106) d_Model_canGo_101 (by decide) rfl (fun c101_4 => ?_) (fun c101_4 => ?_)
          · refine Go.iinc_5 d_Model_canGo_106 rfl (by rfl) (nI_inc _) ?_
            refine Go.goto (t := 53) d_Model_canGo_109 (by decide) ?_
            rw [if_pos c80_2, if_neg c90_3, if_pos c101_4]
            exact ih (i + 1) (by omega)
          · refine Go.iconst (v := 0) d_Model_canGo_104 rfl (by decide) ?_
            rw [if_pos c80_2, if_neg c90_3, if_neg c101_4]
            exact Go.iret d_Model_canGo_105 rfl rfl ⟨rfl, rfl, rfl⟩
theorem md_c_Model_wayOf__r {Γ : G9} {h : AH} {m q r sa sb ro z : Nat} {M : MO} {H : SH} {Y : SX} {x2 : Nat} {vx2 : Int32} {x3 : Int32} (ex2 : vx2 = nI x2) (bx2 : x2 < 4) (geo : m + 2 ≤ q ∧ m + 2 ≤ r ∧ (q + 24 ≤ r ∨ r + 21 ≤ q)) (hB : sh_ha H 0 ≤ 5) (hS : sh_ha H 3 ≤ 6) (hC : sh_ha H 6 ≤ 4) (hD : sh_ha H 9 ≤ 4) (hE : sh_ha H 11 ≤ 4) : CallR Γ M_Model_wayOf 0 [.ref r, .int vx2, .int x3] (md_ Γ h m q r sa sb ro M H Y) z (some (.int (s_Model_wayOf Y x2 x3))) (md_ Γ h m q r sa sb ro M H Y) := by
  subst ex2
  unfold md_
  exact CallR.conv rfl rfl (c_Model_wayOf (x2 := x2) rfl (by omega))
theorem md_at_r_17 {Γ : G9} {h : AH} {m q r sa sb ro : Nat} {M : MO} {H : SH} {Y : SX} (geo : m + 2 ≤ q ∧ m + 2 ≤ r ∧ (q + 24 ≤ r ∨ r + 21 ≤ q)) (hB : sh_ha H 0 ≤ 5) (hS : sh_ha H 3 ≤ 6) (hC : sh_ha H 6 ≤ 4) (hD : sh_ha H 9 ≤ 4) (hE : sh_ha H 11 ≤ 4) : (md_ Γ h m q r sa sb ro M H Y) (r + 17) = some (aI Γ 4 (sx_he Y)) := by
  unfold md_
  exact (sx_g17)
theorem md_at_r_20 {Γ : G9} {h : AH} {m q r sa sb ro : Nat} {M : MO} {H : SH} {Y : SX} (geo : m + 2 ≤ q ∧ m + 2 ≤ r ∧ (q + 24 ≤ r ∨ r + 21 ≤ q)) (hB : sh_ha H 0 ≤ 5) (hS : sh_ha H 3 ≤ 6) (hC : sh_ha H 6 ≤ 4) (hD : sh_ha H 9 ≤ 4) (hE : sh_ha H 11 ≤ 4) : (md_ Γ h m q r sa sb ro M H Y) (r + 20) = some (aI Γ 4 (sx_do Y)) := by
  unfold md_
  exact (sx_g20)
theorem d_Model_canGo_0 : decode M_Model_canGo.2.1 0 = .ok (.aload_n 1, 1) := by decide +kernel
theorem d_Model_canGo_1 : decode M_Model_canGo.2.1 1 = .ok (.iload_n 2, 1) := by decide +kernel
theorem d_Model_canGo_2 : decode M_Model_canGo.2.1 2 = .ok (.iload_n 3, 1) := by decide +kernel
theorem d_Model_canGo_3 : decode M_Model_canGo.2.1 3 = .ok (.invokestatic 321, 3) := by decide +kernel
theorem d_Model_canGo_6 : decode M_Model_canGo.2.1 6 = .ok (.istore 4, 2) := by decide +kernel
theorem d_Model_canGo_8 : decode M_Model_canGo.2.1 8 = .ok (.aload_n 1, 1) := by decide +kernel
theorem d_Model_canGo_9 : decode M_Model_canGo.2.1 9 = .ok (.getfield 283, 3) := by decide +kernel
theorem d_Model_canGo_12 : decode M_Model_canGo.2.1 12 = .ok (.iload_n 2, 1) := by decide +kernel
theorem d_Model_canGo_13 : decode M_Model_canGo.2.1 13 = .ok (.iaload, 1) := by decide +kernel
theorem d_Model_canGo_14 : decode M_Model_canGo.2.1 14 = .ok (.ifCond .eq 34, 3) := by decide +kernel
theorem d_Model_canGo_17 : decode M_Model_canGo.2.1 17 = .ok (.aload_n 1, 1) := by decide +kernel
theorem d_Model_canGo_18 : decode M_Model_canGo.2.1 18 = .ok (.getfield 325, 3) := by decide +kernel
theorem d_Model_canGo_21 : decode M_Model_canGo.2.1 21 = .ok (.iload_n 2, 1) := by decide +kernel
theorem d_Model_canGo_22 : decode M_Model_canGo.2.1 22 = .ok (.iaload, 1) := by decide +kernel
theorem d_Model_canGo_23 : decode M_Model_canGo.2.1 23 = .ok (.iconst 1, 1) := by decide +kernel
theorem d_Model_canGo_24 : decode M_Model_canGo.2.1 24 = .ok (.if_icmp .eq 24, 3) := by decide +kernel
theorem d_Model_canGo_27 : decode M_Model_canGo.2.1 27 = .ok (.iload 4, 2) := by decide +kernel
theorem d_Model_canGo_29 : decode M_Model_canGo.2.1 29 = .ok (.ifCond .lt 19, 3) := by decide +kernel
theorem d_Model_canGo_32 : decode M_Model_canGo.2.1 32 = .ok (.iload 4, 2) := by decide +kernel
theorem d_Model_canGo_34 : decode M_Model_canGo.2.1 34 = .ok (.iconst 1, 1) := by decide +kernel
theorem d_Model_canGo_35 : decode M_Model_canGo.2.1 35 = .ok (.iadd, 1) := by decide +kernel
theorem d_Model_canGo_36 : decode M_Model_canGo.2.1 36 = .ok (.aload_n 0, 1) := by decide +kernel
theorem d_Model_canGo_37 : decode M_Model_canGo.2.1 37 = .ok (.getfield 20, 3) := by decide +kernel
theorem d_Model_canGo_40 : decode M_Model_canGo.2.1 40 = .ok (.getfield 40, 3) := by decide +kernel
theorem d_Model_canGo_43 : decode M_Model_canGo.2.1 43 = .ok (.iconst 0, 1) := by decide +kernel
theorem d_Model_canGo_44 : decode M_Model_canGo.2.1 44 = .ok (.iaload, 1) := by decide +kernel
theorem d_Model_canGo_45 : decode M_Model_canGo.2.1 45 = .ok (.if_icmp .lt 5, 3) := by decide +kernel
theorem d_Model_canGo_48 : decode M_Model_canGo.2.1 48 = .ok (.iconst 0, 1) := by decide +kernel
theorem d_Model_canGo_49 : decode M_Model_canGo.2.1 49 = .ok (.ireturn, 1) := by decide +kernel
theorem d_Model_canGo_50 : decode M_Model_canGo.2.1 50 = .ok (.iconst 0, 1) := by decide +kernel
theorem d_Model_canGo_51 : decode M_Model_canGo.2.1 51 = .ok (.istore 5, 2) := by decide +kernel
def s_Model_canGo (M : MO) (H : SH) (Y : SX) (x2 : Nat) (x3 : Int32) : Int32 := (if ((sx_he Y) x2) = 0 then 0 else (if ((sx_do Y) x2) = 1 then 0 else (if (s_Model_wayOf Y x2 x3) < 0 then 0 else (if ((s_Model_wayOf Y x2 x3) + 1) < (nI ((sh_ha H) 0)) then (l_Model_canGo_53 M H Y x2 x3 (s_Model_wayOf Y x2 x3) (sh_ha H 6) 0) else 0))))
set_option maxRecDepth 100000 in
set_option maxHeartbeats 800000 in
theorem c_Model_canGo {Γ : G9} {h : AH} {m q r sa sb ro z : Nat} {M : MO} {H : SH} {Y : SX} {x2 : Nat} {vx2 : Int32} {x3 : Int32} (ex2 : vx2 = nI x2) (bx2 : x2 < 4) (geo : m + 2 ≤ q ∧ m + 2 ≤ r ∧ (q + 24 ≤ r ∨ r + 21 ≤ q)) (hB : sh_ha H 0 ≤ 5) (hS : sh_ha H 3 ≤ 6) (hC : sh_ha H 6 ≤ 4) (hD : sh_ha H 9 ≤ 4) (hE : sh_ha H 11 ≤ 4) : CallR Γ M_Model_canGo 1 [.ref m, .ref r, .int vx2, .int x3] (md_ Γ h m q r sa sb ro M H Y) z (some (.int (s_Model_canGo M H Y x2 x3))) (md_ Γ h m q r sa sb ro M H Y) := by
  subst ex2
  refine Call.of_go (L := [some (.ref m), some (.ref r), some (.int (nI x2)), some (.int x3), none, none]) (by decide +kernel) rfl (by exact Nat.le_of_ble_eq_true rfl) ?_
  unfold s_Model_canGo
  refine Go.aload_1 d_Model_canGo_0 rfl ?_
  refine Go.iload_2 d_Model_canGo_1 rfl ?_
  refine Go.iload_3 d_Model_canGo_2 rfl ?_
  refine Go.cs3r d_Model_canGo_3 rfl l_Model_321 k_Model_wayOf_s rfl (md_c_Model_wayOf__r (x2 := x2) rfl (by omega) (by omega) hB hS hC hD hE) rfl rfl rfl ?_
  refine Go.istore_4 d_Model_canGo_6 rfl (by rfl) ?_
  refine Go.aload_1 d_Model_canGo_8 rfl ?_
  refine Go.getfield d_Model_canGo_9 rfl f_Model_283 (md_at_r (by omega) hB hS hC hD hE) (by rfl) ?_
  refine Go.iload_2 d_Model_canGo_12 rfl ?_
  refine Go.iaload d_Model_canGo_13 rfl (md_at_r_17 (by omega) hB hS hC hD hE) (show vp_in (nI x2) 4 from by first | exact vp_in_nI (by omega) (by omega) | exact vp_nle (by assumption) (by omega) (by omega)) ?_
  rw [nI_clamp (show x2 < 2 ^ 31 by omega)]
  refine Go.if_eq (t := 48) d_Model_canGo_14 (by decide) rfl (fun c14_1 => ?_) (fun c14_1 => ?_)
  · refine Go.iconst (v := 0) d_Model_canGo_48 rfl (by decide) ?_
    rw [if_pos c14_1]
    exact Go.iret d_Model_canGo_49 rfl rfl ⟨rfl, rfl, rfl⟩
  · refine Go.aload_1 d_Model_canGo_17 rfl ?_
    refine Go.getfield d_Model_canGo_18 rfl f_Model_325 (md_at_r (by omega) hB hS hC hD hE) (by rfl) ?_
    refine Go.iload_2 d_Model_canGo_21 rfl ?_
    refine Go.iaload d_Model_canGo_22 rfl (md_at_r_20 (by omega) hB hS hC hD hE) (show vp_in (nI x2) 4 from by first | exact vp_in_nI (by omega) (by omega) | exact vp_nle (by assumption) (by omega) (by omega)) ?_
    rw [nI_clamp (show x2 < 2 ^ 31 by omega)]
    refine Go.iconst (v := 1) d_Model_canGo_23 rfl (by decide) ?_
    refine Go.icmp_eq (t := 48) d_Model_canGo_24 (by decide) rfl (fun c24_2 => ?_) (fun c24_2 => ?_)
    · refine Go.iconst (v := 0) d_Model_canGo_48 rfl (by decide) ?_
      rw [if_neg c14_1, if_pos c24_2]
      exact Go.iret d_Model_canGo_49 rfl rfl ⟨rfl, rfl, rfl⟩
    · refine Go.iload_4 d_Model_canGo_27 rfl ?_
      refine Go.if_lt (t := 48) d_Model_canGo_29 (by decide) rfl (fun c29_3 => ?_) (fun c29_3 => ?_)
      · refine Go.iconst (v := 0) d_Model_canGo_48 rfl (by decide) ?_
        rw [if_neg c14_1, if_neg c24_2, if_pos c29_3]
        exact Go.iret d_Model_canGo_49 rfl rfl ⟨rfl, rfl, rfl⟩
      · refine Go.iload_4 d_Model_canGo_32 rfl ?_
        refine Go.iconst (v := 1) d_Model_canGo_34 rfl (by decide) ?_
        refine Go.iadd d_Model_canGo_35 rfl ?_
        refine Go.aload_0 d_Model_canGo_36 rfl ?_
        refine Go.getfield d_Model_canGo_37 rfl f_Model_20 (md_at_m (by omega) hB hS hC hD hE) (by rfl) ?_
        refine Go.getfield d_Model_canGo_40 rfl f_Model_40 (md_at_q (by omega) hB hS hC hD hE) (by rfl) ?_
        refine Go.iconst (v := 0) d_Model_canGo_43 rfl (by decide) ?_
        refine Go.iaload d_Model_canGo_44 rfl (md_at_q_5 (by omega) hB hS hC hD hE) (show vp_in (nI 0) 12 from by first | exact vp_in_nI (by omega) (by omega) | exact vp_nle (by assumption) (by omega) (by omega)) ?_
        rw [show (0 : Int32).toNatClampNeg = 0 from by decide]
        refine Go.icmp_lt (t := 50) d_Model_canGo_45 (by decide) rfl (fun c45_4 => ?_) (fun c45_4 => ?_)
        · refine Go.iconst (v := 0) d_Model_canGo_50 rfl (by decide) ?_
          refine Go.istore_5 d_Model_canGo_51 rfl (by rfl) ?_
          rw [if_neg c14_1, if_neg c24_2, if_neg c29_3, if_pos c45_4]
          exact l_Model_canGo_53_go (n := (sh_ha H 6)) bx2 geo hB hS hC hD hE (by omega) rfl (sh_ha H 6) 0 (by omega)
        · refine Go.iconst (v := 0) d_Model_canGo_48 rfl (by decide) ?_
          rw [if_neg c14_1, if_neg c24_2, if_neg c29_3, if_neg c45_4]
          exact Go.iret d_Model_canGo_49 rfl rfl ⟨rfl, rfl, rfl⟩
set_option maxRecDepth 100000 in
set_option maxHeartbeats 800000 in
theorem s_Model_canGo_01 (M : MO) (H : SH) (Y : SX) (x2 : Nat) (x3 : Int32) : (s_Model_canGo M H Y x2 x3) = 0 ∨ (s_Model_canGo M H Y x2 x3) = 1 := by
  unfold s_Model_canGo
  have l : ∀ k i, l_Model_canGo_53 M H Y x2 x3 (s_Model_wayOf Y x2 x3) k i = 0 ∨ l_Model_canGo_53 M H Y x2 x3 (s_Model_wayOf Y x2 x3) k i = 1 := by
    intro k
    induction k with
    | zero => intro i; exact Or.inr rfl
    | succ k ih =>
      intro i
      unfold l_Model_canGo_53
      (repeat' split) <;> first | exact ih _ | exact Or.inl rfl
  (repeat' split) <;> first | exact l _ _ | exact Or.inl rfl
theorem d_Model_trap_14 : decode M_Model_trap.2.1 14 = .ok (.iload 6, 2) := by decide +kernel
theorem d_Model_trap_16 : decode M_Model_trap.2.1 16 = .ok (.aload_n 0, 1) := by decide +kernel
theorem d_Model_trap_17 : decode M_Model_trap.2.1 17 = .ok (.getfield 20, 3) := by decide +kernel
theorem d_Model_trap_20 : decode M_Model_trap.2.1 20 = .ok (.getfield 40, 3) := by decide +kernel
theorem d_Model_trap_23 : decode M_Model_trap.2.1 23 = .ok (.bipush 6, 2) := by decide +kernel
theorem d_Model_trap_25 : decode M_Model_trap.2.1 25 = .ok (.iaload, 1) := by decide +kernel
theorem d_Model_trap_26 : decode M_Model_trap.2.1 26 = .ok (.if_icmp .ge 49, 3) := by decide +kernel
theorem d_Model_trap_75 : decode M_Model_trap.2.1 75 = .ok (.iload 5, 2) := by decide +kernel
theorem d_Model_trap_77 : decode M_Model_trap.2.1 77 = .ok (.ireturn, 1) := by decide +kernel
theorem d_Model_trap_29 : decode M_Model_trap.2.1 29 = .ok (.aload_n 0, 1) := by decide +kernel
theorem d_Model_trap_30 : decode M_Model_trap.2.1 30 = .ok (.getfield 20, 3) := by decide +kernel
theorem d_Model_trap_33 : decode M_Model_trap.2.1 33 = .ok (.getfield 187, 3) := by decide +kernel
theorem d_Model_trap_36 : decode M_Model_trap.2.1 36 = .ok (.iload 6, 2) := by decide +kernel
theorem d_Model_trap_38 : decode M_Model_trap.2.1 38 = .ok (.iaload, 1) := by decide +kernel
theorem d_Model_trap_39 : decode M_Model_trap.2.1 39 = .ok (.iload 4, 2) := by decide +kernel
theorem d_Model_trap_41 : decode M_Model_trap.2.1 41 = .ok (.if_icmp .ne 28, 3) := by decide +kernel
theorem d_Model_trap_44 : decode M_Model_trap.2.1 44 = .ok (.aload_n 0, 1) := by decide +kernel
theorem d_Model_trap_45 : decode M_Model_trap.2.1 45 = .ok (.aload_n 1, 1) := by decide +kernel
theorem d_Model_trap_46 : decode M_Model_trap.2.1 46 = .ok (.iload 6, 2) := by decide +kernel
theorem d_Model_trap_48 : decode M_Model_trap.2.1 48 = .ok (.iload_n 2, 1) := by decide +kernel
theorem d_Model_trap_49 : decode M_Model_trap.2.1 49 = .ok (.invokevirtual 328, 3) := by decide +kernel
theorem d_Model_trap_52 : decode M_Model_trap.2.1 52 = .ok (.ifCond .ne 6, 3) := by decide +kernel
theorem d_Model_trap_55 : decode M_Model_trap.2.1 55 = .ok (.goto 14, 3) := by decide +kernel
theorem d_Model_trap_58 : decode M_Model_trap.2.1 58 = .ok (.iload_n 3, 1) := by decide +kernel
theorem d_Model_trap_59 : decode M_Model_trap.2.1 59 = .ok (.ifCond .eq 6, 3) := by decide +kernel
theorem d_Model_trap_62 : decode M_Model_trap.2.1 62 = .ok (.iload 6, 2) := by decide +kernel
theorem d_Model_trap_64 : decode M_Model_trap.2.1 64 = .ok (.ireturn, 1) := by decide +kernel
theorem d_Model_trap_65 : decode M_Model_trap.2.1 65 = .ok (.iload 6, 2) := by decide +kernel
theorem d_Model_trap_67 : decode M_Model_trap.2.1 67 = .ok (.istore 5, 2) := by decide +kernel
theorem d_Model_trap_69 : decode M_Model_trap.2.1 69 = .ok (.iinc 6 1, 3) := by decide +kernel
theorem d_Model_trap_72 : decode M_Model_trap.2.1 72 = .ok (.goto (-58), 3) := by decide +kernel
def l_Model_trap_14 (M : MO) (H : SH) (Y : SX) (x2 : Nat) (x3 : Int32) (w : Int32) : Nat → Nat → Int32 → Int32
  | 0, i, f => f
  | k + 1, i, f => (if ((sh_ab H) i) = w then (if (s_Model_isWeak M H Y i x2) = 0 then (l_Model_trap_14 M H Y x2 x3 w k (i + 1) f) else (if x3 = 0 then (l_Model_trap_14 M H Y x2 x3 w k (i + 1) (nI i)) else (nI i))) else (l_Model_trap_14 M H Y x2 x3 w k (i + 1) f))
set_option maxRecDepth 100000 in
set_option maxHeartbeats 800000 in
theorem l_Model_trap_14_go {Γ : G9} {h : AH} {m q r sa sb ro z : Nat} {n : Nat} {M : MO} {H : SH} {Y : SX} {x2 : Nat} {x3 : Int32} {w : Int32} (bx2 : x2 < 4) (geo : m + 2 ≤ q ∧ m + 2 ≤ r ∧ (q + 24 ≤ r ∨ r + 21 ≤ q)) (hB : sh_ha H 0 ≤ 5) (hS : sh_ha H 3 ≤ 6) (hC : sh_ha H 6 ≤ 4) (hD : sh_ha H 9 ≤ 4) (hE : sh_ha H 11 ≤ 4) (hn20 : n ≤ 20) (hn : sh_ha H 6 = n) : ∀ (k i : Nat) (f : Int32), i + k = n → Go Γ M_Model_trap 1 0 0 14 [some (.ref m), some (.ref r), some (.int (nI x2)), some (.int x3), some (.int w), some (.int f), some (.int (nI i))] [] (md_ Γ h m q r sa sb ro M H Y) z (RQ (some (.int (l_Model_trap_14 M H Y x2 x3 w k i f))) (md_ Γ h m q r sa sb ro M H Y) z) noX := by
  intro k
  induction k with
  | zero =>
    intro i f hi
    unfold l_Model_trap_14
    refine Go.iload_6 d_Model_trap_14 rfl ?_
    refine Go.aload_0 d_Model_trap_16 rfl ?_
    refine Go.getfield d_Model_trap_17 rfl f_Model_20 (md_at_m (by omega) hB hS hC hD hE) (by rfl) ?_
    refine Go.getfield d_Model_trap_20 rfl f_Model_40 (md_at_q (by omega) hB hS hC hD hE) (by rfl) ?_
    refine Go.bipush (v := 6) d_Model_trap_23 rfl (by decide) ?_
    refine Go.iaload d_Model_trap_25 rfl (md_at_q_5 (by omega) hB hS hC hD hE) (show vp_in (nI 6) 12 from by first | exact vp_in_nI (by omega) (by omega) | exact vp_nle (by assumption) (by omega) (by omega)) ?_
    rw [show (6 : Int32).toNatClampNeg = 6 from by decide]
    refine Go.icmp_ge (t := 75) d_Model_trap_26 (by decide) rfl (fun c26_1 => ?_) (fun c26_1 => ?_)
    · refine Go.iload_5 d_Model_trap_75 rfl ?_
      exact Go.iret d_Model_trap_77 rfl rfl ⟨rfl, rfl, rfl⟩
    · exact absurd (nI_le (by omega) (by omega)) c26_1
  | succ k ih =>
    intro i f hi
    unfold l_Model_trap_14
    refine Go.iload_6 d_Model_trap_14 rfl ?_
    refine Go.aload_0 d_Model_trap_16 rfl ?_
    refine Go.getfield d_Model_trap_17 rfl f_Model_20 (md_at_m (by omega) hB hS hC hD hE) (by rfl) ?_
    refine Go.getfield d_Model_trap_20 rfl f_Model_40 (md_at_q (by omega) hB hS hC hD hE) (by rfl) ?_
    refine Go.bipush (v := 6) d_Model_trap_23 rfl (by decide) ?_
    refine Go.iaload d_Model_trap_25 rfl (md_at_q_5 (by omega) hB hS hC hD hE) (show vp_in (nI 6) 12 from by first | exact vp_in_nI (by omega) (by omega) | exact vp_nle (by assumption) (by omega) (by omega)) ?_
    rw [show (6 : Int32).toNatClampNeg = 6 from by decide]
    refine Go.icmp_ge (t := 75) d_Model_trap_26 (by decide) rfl (fun c26_1 => ?_) (fun c26_1 => ?_)
    · exact absurd c26_1 (nI_ge (by omega) (by omega))
    · refine Go.aload_0 d_Model_trap_29 rfl ?_
      refine Go.getfield d_Model_trap_30 rfl f_Model_20 (md_at_m (by omega) hB hS hC hD hE) (by rfl) ?_
      refine Go.getfield d_Model_trap_33 rfl f_Model_187 (md_at_q (by omega) hB hS hC hD hE) (by rfl) ?_
      refine Go.iload_6 d_Model_trap_36 rfl ?_
      refine Go.iaload d_Model_trap_38 rfl (md_at_q_11 (by omega) hB hS hC hD hE) (show vp_in (nI i) 4 from by first | exact vp_in_nI (by omega) (by omega) | exact vp_nle (by assumption) (by omega) (by omega)) ?_
      rw [nI_clamp (show i < 2 ^ 31 by omega)]
      refine Go.iload_4 d_Model_trap_39 rfl ?_
      refine Go.icmp_ne (t := 69) d_Model_trap_41 (by decide) rfl (fun c41_2 => ?_) (fun c41_2 => ?_)
      · refine Go.iinc_6 d_Model_trap_69 rfl (by rfl) (nI_inc _) ?_
        refine Go.goto (t := 14) d_Model_trap_72 (by decide) ?_
        rw [if_neg c41_2]
        exact ih (i + 1) _ (by omega)
      · refine Go.aload_0 d_Model_trap_44 rfl ?_
        refine Go.aload_1 d_Model_trap_45 rfl ?_
        refine Go.iload_6 d_Model_trap_46 rfl ?_
        refine Go.iload_2 d_Model_trap_48 rfl ?_
        refine Go.cv3r d_Model_trap_49 rfl l_Model_328 k_Model_isWeak_v (md_at_m (by omega) hB hS hC hD hE) rfl (c_Model_isWeak (x2 := i) (x3 := x2) rfl (by omega) rfl (by omega) (by omega) hB hS hC hD hE) rfl rfl rfl ?_
        refine Go.if_ne (t := 58) d_Model_trap_52 (by decide) rfl (fun c52_3 => ?_) (fun c52_3 => ?_)
        · refine Go.iload_3 d_Model_trap_58 rfl ?_
          refine Go.if_eq (t := 65) d_Model_trap_59 (by decide) rfl (fun c59_4 => ?_) (fun c59_4 => ?_)
          · refine Go.iload_6 d_Model_trap_65 rfl ?_
            refine Go.istore_5 d_Model_trap_67 rfl (by rfl) ?_
            refine Go.iinc_6 d_Model_trap_69 rfl (by rfl) (nI_inc _) ?_
            refine Go.goto (t := 14) d_Model_trap_72 (by decide) ?_
            rw [if_pos c41_2, if_neg c52_3, if_pos c59_4]
            exact ih (i + 1) _ (by omega)
          · refine Go.iload_6 d_Model_trap_62 rfl ?_
            rw [if_pos c41_2, if_neg c52_3, if_neg c59_4]
            exact Go.iret d_Model_trap_64 rfl rfl ⟨rfl, rfl, rfl⟩
        · refine Go.goto (t := 69) d_Model_trap_55 (by decide) ?_
          refine Go.iinc_6 d_Model_trap_69 rfl (by rfl) (nI_inc _) ?_
          refine Go.goto (t := 14) d_Model_trap_72 (by decide) ?_
          rw [if_pos c41_2, if_pos c52_3]
          exact ih (i + 1) _ (by omega)
theorem d_Model_trap_0 : decode M_Model_trap.2.1 0 = .ok (.aload_n 1, 1) := by decide +kernel
theorem d_Model_trap_1 : decode M_Model_trap.2.1 1 = .ok (.iload_n 2, 1) := by decide +kernel
theorem d_Model_trap_2 : decode M_Model_trap.2.1 2 = .ok (.iload_n 3, 1) := by decide +kernel
theorem d_Model_trap_3 : decode M_Model_trap.2.1 3 = .ok (.invokestatic 321, 3) := by decide +kernel
theorem d_Model_trap_6 : decode M_Model_trap.2.1 6 = .ok (.istore 4, 2) := by decide +kernel
theorem d_Model_trap_8 : decode M_Model_trap.2.1 8 = .ok (.iconst (-1), 1) := by decide +kernel
theorem d_Model_trap_9 : decode M_Model_trap.2.1 9 = .ok (.istore 5, 2) := by decide +kernel
theorem d_Model_trap_11 : decode M_Model_trap.2.1 11 = .ok (.iconst 0, 1) := by decide +kernel
theorem d_Model_trap_12 : decode M_Model_trap.2.1 12 = .ok (.istore 6, 2) := by decide +kernel
def s_Model_trap (M : MO) (H : SH) (Y : SX) (x2 : Nat) (x3 : Int32) : Int32 := (l_Model_trap_14 M H Y x2 x3 (s_Model_wayOf Y x2 x3) (sh_ha H 6) 0 (-1))
set_option maxRecDepth 100000 in
set_option maxHeartbeats 800000 in
theorem c_Model_trap {Γ : G9} {h : AH} {m q r sa sb ro z : Nat} {M : MO} {H : SH} {Y : SX} {x2 : Nat} {vx2 : Int32} {x3 : Int32} (ex2 : vx2 = nI x2) (bx2 : x2 < 4) (geo : m + 2 ≤ q ∧ m + 2 ≤ r ∧ (q + 24 ≤ r ∨ r + 21 ≤ q)) (hB : sh_ha H 0 ≤ 5) (hS : sh_ha H 3 ≤ 6) (hC : sh_ha H 6 ≤ 4) (hD : sh_ha H 9 ≤ 4) (hE : sh_ha H 11 ≤ 4) : CallR Γ M_Model_trap 1 [.ref m, .ref r, .int vx2, .int x3] (md_ Γ h m q r sa sb ro M H Y) z (some (.int (s_Model_trap M H Y x2 x3))) (md_ Γ h m q r sa sb ro M H Y) := by
  subst ex2
  refine Call.of_go (L := [some (.ref m), some (.ref r), some (.int (nI x2)), some (.int x3), none, none, none]) (by decide +kernel) rfl (by exact Nat.le_of_ble_eq_true rfl) ?_
  unfold s_Model_trap
  refine Go.aload_1 d_Model_trap_0 rfl ?_
  refine Go.iload_2 d_Model_trap_1 rfl ?_
  refine Go.iload_3 d_Model_trap_2 rfl ?_
  refine Go.cs3r d_Model_trap_3 rfl l_Model_321 k_Model_wayOf_s rfl (md_c_Model_wayOf__r (x2 := x2) rfl (by omega) (by omega) hB hS hC hD hE) rfl rfl rfl ?_
  refine Go.istore_4 d_Model_trap_6 rfl (by rfl) ?_
  refine Go.iconst (v := (-1)) d_Model_trap_8 rfl (by decide) ?_
  refine Go.istore_5 d_Model_trap_9 rfl (by rfl) ?_
  refine Go.iconst (v := 0) d_Model_trap_11 rfl (by decide) ?_
  refine Go.istore_6 d_Model_trap_12 rfl (by rfl) ?_
  exact l_Model_trap_14_go (n := (sh_ha H 6)) bx2 geo hB hS hC hD hE (by omega) rfl (sh_ha H 6) 0 (-1) (by omega)
theorem md_at_q_13 {Γ : G9} {h : AH} {m q r sa sb ro : Nat} {M : MO} {H : SH} {Y : SX} (geo : m + 2 ≤ q ∧ m + 2 ≤ r ∧ (q + 24 ≤ r ∨ r + 21 ≤ q)) (hB : sh_ha H 0 ≤ 5) (hS : sh_ha H 3 ≤ 6) (hC : sh_ha H 6 ≤ 4) (hD : sh_ha H 9 ≤ 4) (hE : sh_ha H 11 ≤ 4) : (md_ Γ h m q r sa sb ro M H Y) (q + 13) = some (aI Γ 4 (sh_di H)) := by
  unfold md_
  exact ((blk_out (by omega)).trans (sh_g13))
theorem md_at_r_15 {Γ : G9} {h : AH} {m q r sa sb ro : Nat} {M : MO} {H : SH} {Y : SX} (geo : m + 2 ≤ q ∧ m + 2 ≤ r ∧ (q + 24 ≤ r ∨ r + 21 ≤ q)) (hB : sh_ha H 0 ≤ 5) (hS : sh_ha H 3 ≤ 6) (hC : sh_ha H 6 ≤ 4) (hD : sh_ha H 9 ≤ 4) (hE : sh_ha H 11 ≤ 4) : (md_ Γ h m q r sa sb ro M H Y) (r + 15) = some (aI Γ 4 (sx_pl Y)) := by
  unfold md_
  exact (sx_g15)
theorem md_at_r_13 {Γ : G9} {h : AH} {m q r sa sb ro : Nat} {M : MO} {H : SH} {Y : SX} (geo : m + 2 ≤ q ∧ m + 2 ≤ r ∧ (q + 24 ≤ r ∨ r + 21 ≤ q)) (hB : sh_ha H 0 ≤ 5) (hS : sh_ha H 3 ≤ 6) (hC : sh_ha H 6 ≤ 4) (hD : sh_ha H 9 ≤ 4) (hE : sh_ha H 11 ≤ 4) : (md_ Γ h m q r sa sb ro M H Y) (r + 13) = some (aI Γ 4 (sx_fo Y)) := by
  unfold md_
  exact (sx_g13)
theorem d_Model_depotOf_2 : decode M_Model_depotOf.2.1 2 = .ok (.iload_n 3, 1) := by decide +kernel
theorem d_Model_depotOf_3 : decode M_Model_depotOf.2.1 3 = .ok (.aload_n 0, 1) := by decide +kernel
theorem d_Model_depotOf_4 : decode M_Model_depotOf.2.1 4 = .ok (.getfield 20, 3) := by decide +kernel
theorem d_Model_depotOf_7 : decode M_Model_depotOf.2.1 7 = .ok (.getfield 40, 3) := by decide +kernel
theorem d_Model_depotOf_10 : decode M_Model_depotOf.2.1 10 = .ok (.bipush 9, 2) := by decide +kernel
theorem d_Model_depotOf_12 : decode M_Model_depotOf.2.1 12 = .ok (.iaload, 1) := by decide +kernel
theorem d_Model_depotOf_13 : decode M_Model_depotOf.2.1 13 = .ok (.if_icmp .ge 38, 3) := by decide +kernel
theorem d_Model_depotOf_51 : decode M_Model_depotOf.2.1 51 = .ok (.iconst (-1), 1) := by decide +kernel
theorem d_Model_depotOf_52 : decode M_Model_depotOf.2.1 52 = .ok (.ireturn, 1) := by decide +kernel
theorem d_Model_depotOf_16 : decode M_Model_depotOf.2.1 16 = .ok (.aload_n 0, 1) := by decide +kernel
theorem d_Model_depotOf_17 : decode M_Model_depotOf.2.1 17 = .ok (.getfield 20, 3) := by decide +kernel
theorem d_Model_depotOf_20 : decode M_Model_depotOf.2.1 20 = .ok (.getfield 181, 3) := by decide +kernel
theorem d_Model_depotOf_23 : decode M_Model_depotOf.2.1 23 = .ok (.iload_n 3, 1) := by decide +kernel
theorem d_Model_depotOf_24 : decode M_Model_depotOf.2.1 24 = .ok (.iaload, 1) := by decide +kernel
theorem d_Model_depotOf_25 : decode M_Model_depotOf.2.1 25 = .ok (.aload_n 1, 1) := by decide +kernel
theorem d_Model_depotOf_26 : decode M_Model_depotOf.2.1 26 = .ok (.getfield 310, 3) := by decide +kernel
theorem d_Model_depotOf_29 : decode M_Model_depotOf.2.1 29 = .ok (.iload_n 2, 1) := by decide +kernel
theorem d_Model_depotOf_30 : decode M_Model_depotOf.2.1 30 = .ok (.iaload, 1) := by decide +kernel
theorem d_Model_depotOf_31 : decode M_Model_depotOf.2.1 31 = .ok (.if_icmp .ne 14, 3) := by decide +kernel
theorem d_Model_depotOf_34 : decode M_Model_depotOf.2.1 34 = .ok (.aload_n 1, 1) := by decide +kernel
theorem d_Model_depotOf_35 : decode M_Model_depotOf.2.1 35 = .ok (.getfield 308, 3) := by decide +kernel
theorem d_Model_depotOf_38 : decode M_Model_depotOf.2.1 38 = .ok (.iload_n 3, 1) := by decide +kernel
theorem d_Model_depotOf_39 : decode M_Model_depotOf.2.1 39 = .ok (.iaload, 1) := by decide +kernel
theorem d_Model_depotOf_40 : decode M_Model_depotOf.2.1 40 = .ok (.ifCond .le 5, 3) := by decide +kernel
theorem d_Model_depotOf_43 : decode M_Model_depotOf.2.1 43 = .ok (.iload_n 3, 1) := by decide +kernel
theorem d_Model_depotOf_44 : decode M_Model_depotOf.2.1 44 = .ok (.ireturn, 1) := by decide +kernel
theorem d_Model_depotOf_45 : decode M_Model_depotOf.2.1 45 = .ok (.iinc 3 1, 3) := by decide +kernel
theorem d_Model_depotOf_48 : decode M_Model_depotOf.2.1 48 = .ok (.goto (-46), 3) := by decide +kernel
def l_Model_depotOf_2 (M : MO) (H : SH) (Y : SX) (x2 : Nat) : Nat → Nat → Int32
  | 0, i => (-1)
  | k + 1, i => (if ((sh_di H) i) = ((sx_pl Y) x2) then (if ((sx_fo Y) i) ≤ 0 then (l_Model_depotOf_2 M H Y x2 k (i + 1)) else (nI i)) else (l_Model_depotOf_2 M H Y x2 k (i + 1)))
set_option maxRecDepth 100000 in
set_option maxHeartbeats 800000 in
theorem l_Model_depotOf_2_go {Γ : G9} {h : AH} {m q r sa sb ro z : Nat} {n : Nat} {M : MO} {H : SH} {Y : SX} {x2 : Nat} (bx2 : x2 < 4) (geo : m + 2 ≤ q ∧ m + 2 ≤ r ∧ (q + 24 ≤ r ∨ r + 21 ≤ q)) (hB : sh_ha H 0 ≤ 5) (hS : sh_ha H 3 ≤ 6) (hC : sh_ha H 6 ≤ 4) (hD : sh_ha H 9 ≤ 4) (hE : sh_ha H 11 ≤ 4) (hn20 : n ≤ 20) (hn : sh_ha H 9 = n) : ∀ (k i : Nat), i + k = n → Go Γ M_Model_depotOf 0 0 0 2 [some (.ref m), some (.ref r), some (.int (nI x2)), some (.int (nI i))] [] (md_ Γ h m q r sa sb ro M H Y) z (RQ (some (.int (l_Model_depotOf_2 M H Y x2 k i))) (md_ Γ h m q r sa sb ro M H Y) z) noX := by
  intro k
  induction k with
  | zero =>
    intro i hi
    unfold l_Model_depotOf_2
    refine Go.iload_3 d_Model_depotOf_2 rfl ?_
    refine Go.aload_0 d_Model_depotOf_3 rfl ?_
    refine Go.getfield d_Model_depotOf_4 rfl f_Model_20 (md_at_m (by omega) hB hS hC hD hE) (by rfl) ?_
    refine Go.getfield d_Model_depotOf_7 rfl f_Model_40 (md_at_q (by omega) hB hS hC hD hE) (by rfl) ?_
    refine Go.bipush (v := 9) d_Model_depotOf_10 rfl (by decide) ?_
    refine Go.iaload d_Model_depotOf_12 rfl (md_at_q_5 (by omega) hB hS hC hD hE) (show vp_in (nI 9) 12 from by first | exact vp_in_nI (by omega) (by omega) | exact vp_nle (by assumption) (by omega) (by omega)) ?_
    rw [show (9 : Int32).toNatClampNeg = 9 from by decide]
    refine Go.icmp_ge (t := 51) d_Model_depotOf_13 (by decide) rfl (fun c13_1 => ?_) (fun c13_1 => ?_)
    · refine Go.iconst (v := (-1)) d_Model_depotOf_51 rfl (by decide) ?_
      exact Go.iret d_Model_depotOf_52 rfl rfl ⟨rfl, rfl, rfl⟩
    · exact absurd (nI_le (by omega) (by omega)) c13_1
  | succ k ih =>
    intro i hi
    unfold l_Model_depotOf_2
    refine Go.iload_3 d_Model_depotOf_2 rfl ?_
    refine Go.aload_0 d_Model_depotOf_3 rfl ?_
    refine Go.getfield d_Model_depotOf_4 rfl f_Model_20 (md_at_m (by omega) hB hS hC hD hE) (by rfl) ?_
    refine Go.getfield d_Model_depotOf_7 rfl f_Model_40 (md_at_q (by omega) hB hS hC hD hE) (by rfl) ?_
    refine Go.bipush (v := 9) d_Model_depotOf_10 rfl (by decide) ?_
    refine Go.iaload d_Model_depotOf_12 rfl (md_at_q_5 (by omega) hB hS hC hD hE) (show vp_in (nI 9) 12 from by first | exact vp_in_nI (by omega) (by omega) | exact vp_nle (by assumption) (by omega) (by omega)) ?_
    rw [show (9 : Int32).toNatClampNeg = 9 from by decide]
    refine Go.icmp_ge (t := 51) d_Model_depotOf_13 (by decide) rfl (fun c13_1 => ?_) (fun c13_1 => ?_)
    · exact absurd c13_1 (nI_ge (by omega) (by omega))
    · refine Go.aload_0 d_Model_depotOf_16 rfl ?_
      refine Go.getfield d_Model_depotOf_17 rfl f_Model_20 (md_at_m (by omega) hB hS hC hD hE) (by rfl) ?_
      refine Go.getfield d_Model_depotOf_20 rfl f_Model_181 (md_at_q (by omega) hB hS hC hD hE) (by rfl) ?_
      refine Go.iload_3 d_Model_depotOf_23 rfl ?_
      refine Go.iaload d_Model_depotOf_24 rfl (md_at_q_13 (by omega) hB hS hC hD hE) (show vp_in (nI i) 4 from by first | exact vp_in_nI (by omega) (by omega) | exact vp_nle (by assumption) (by omega) (by omega)) ?_
      rw [nI_clamp (show i < 2 ^ 31 by omega)]
      refine Go.aload_1 d_Model_depotOf_25 rfl ?_
      refine Go.getfield d_Model_depotOf_26 rfl f_Model_310 (md_at_r (by omega) hB hS hC hD hE) (by rfl) ?_
      refine Go.iload_2 d_Model_depotOf_29 rfl ?_
      refine Go.iaload d_Model_depotOf_30 rfl (md_at_r_15 (by omega) hB hS hC hD hE) (show vp_in (nI x2) 4 from by first | exact vp_in_nI (by omega) (by omega) | exact vp_nle (by assumption) (by omega) (by omega)) ?_
      rw [nI_clamp (show x2 < 2 ^ 31 by omega)]
      refine Go.icmp_ne (t := 45) d_Model_depotOf_31 (by decide) rfl (fun c31_2 => ?_) (fun c31_2 => ?_)
      · refine Go.iinc_3 d_Model_depotOf_45 rfl (by rfl) (nI_inc _) ?_
        refine Go.goto (t := 2) d_Model_depotOf_48 (by decide) ?_
        rw [if_neg c31_2]
        exact ih (i + 1) (by omega)
      · refine Go.aload_1 d_Model_depotOf_34 rfl ?_
        refine Go.getfield d_Model_depotOf_35 rfl f_Model_308 (md_at_r (by omega) hB hS hC hD hE) (by rfl) ?_
        refine Go.iload_3 d_Model_depotOf_38 rfl ?_
        refine Go.iaload d_Model_depotOf_39 rfl (md_at_r_13 (by omega) hB hS hC hD hE) (show vp_in (nI i) 4 from by first | exact vp_in_nI (by omega) (by omega) | exact vp_nle (by assumption) (by omega) (by omega)) ?_
        rw [nI_clamp (show i < 2 ^ 31 by omega)]
        refine Go.if_le (t := 45) d_Model_depotOf_40 (by decide) rfl (fun c40_3 => ?_) (fun c40_3 => ?_)
        · refine Go.iinc_3 d_Model_depotOf_45 rfl (by rfl) (nI_inc _) ?_
          refine Go.goto (t := 2) d_Model_depotOf_48 (by decide) ?_
          rw [if_pos c31_2, if_pos c40_3]
          exact ih (i + 1) (by omega)
        · refine Go.iload_3 d_Model_depotOf_43 rfl ?_
          rw [if_pos c31_2, if_neg c40_3]
          exact Go.iret d_Model_depotOf_44 rfl rfl ⟨rfl, rfl, rfl⟩
theorem d_Model_depotOf_0 : decode M_Model_depotOf.2.1 0 = .ok (.iconst 0, 1) := by decide +kernel
theorem d_Model_depotOf_1 : decode M_Model_depotOf.2.1 1 = .ok (.istore_n 3, 1) := by decide +kernel
def s_Model_depotOf (M : MO) (H : SH) (Y : SX) (x2 : Nat) : Int32 := (l_Model_depotOf_2 M H Y x2 (sh_ha H 9) 0)
set_option maxRecDepth 100000 in
set_option maxHeartbeats 800000 in
theorem c_Model_depotOf {Γ : G9} {h : AH} {m q r sa sb ro z : Nat} {M : MO} {H : SH} {Y : SX} {x2 : Nat} {vx2 : Int32} (ex2 : vx2 = nI x2) (bx2 : x2 < 4) (geo : m + 2 ≤ q ∧ m + 2 ≤ r ∧ (q + 24 ≤ r ∨ r + 21 ≤ q)) (hB : sh_ha H 0 ≤ 5) (hS : sh_ha H 3 ≤ 6) (hC : sh_ha H 6 ≤ 4) (hD : sh_ha H 9 ≤ 4) (hE : sh_ha H 11 ≤ 4) : CallR Γ M_Model_depotOf 0 [.ref m, .ref r, .int vx2] (md_ Γ h m q r sa sb ro M H Y) z (some (.int (s_Model_depotOf M H Y x2))) (md_ Γ h m q r sa sb ro M H Y) := by
  subst ex2
  refine Call.of_go (L := [some (.ref m), some (.ref r), some (.int (nI x2)), none]) (by decide +kernel) rfl (by exact Nat.le_of_ble_eq_true rfl) ?_
  unfold s_Model_depotOf
  refine Go.iconst (v := 0) d_Model_depotOf_0 rfl (by decide) ?_
  refine Go.istore_3 d_Model_depotOf_1 rfl (by rfl) ?_
  exact l_Model_depotOf_2_go (n := (sh_ha H 9)) bx2 geo hB hS hC hD hE (by omega) rfl (sh_ha H 9) 0 (by omega)
theorem d_Model_teamsIn_5 : decode M_Model_teamsIn.2.1 5 = .ok (.iload 4, 2) := by decide +kernel
theorem d_Model_teamsIn_7 : decode M_Model_teamsIn.2.1 7 = .ok (.aload_n 0, 1) := by decide +kernel
theorem d_Model_teamsIn_8 : decode M_Model_teamsIn.2.1 8 = .ok (.getfield 20, 3) := by decide +kernel
theorem d_Model_teamsIn_11 : decode M_Model_teamsIn.2.1 11 = .ok (.getfield 40, 3) := by decide +kernel
theorem d_Model_teamsIn_14 : decode M_Model_teamsIn.2.1 14 = .ok (.bipush 11, 2) := by decide +kernel
theorem d_Model_teamsIn_16 : decode M_Model_teamsIn.2.1 16 = .ok (.iaload, 1) := by decide +kernel
theorem d_Model_teamsIn_17 : decode M_Model_teamsIn.2.1 17 = .ok (.if_icmp .ge 39, 3) := by decide +kernel
theorem d_Model_teamsIn_20 : decode M_Model_teamsIn.2.1 20 = .ok (.iload_n 3, 1) := by decide +kernel
theorem d_Model_teamsIn_21 : decode M_Model_teamsIn.2.1 21 = .ok (.aload_n 1, 1) := by decide +kernel
theorem d_Model_teamsIn_22 : decode M_Model_teamsIn.2.1 22 = .ok (.getfield 283, 3) := by decide +kernel
theorem d_Model_teamsIn_25 : decode M_Model_teamsIn.2.1 25 = .ok (.iload 4, 2) := by decide +kernel
theorem d_Model_teamsIn_27 : decode M_Model_teamsIn.2.1 27 = .ok (.iaload, 1) := by decide +kernel
theorem d_Model_teamsIn_28 : decode M_Model_teamsIn.2.1 28 = .ok (.iconst 1, 1) := by decide +kernel
theorem d_Model_teamsIn_29 : decode M_Model_teamsIn.2.1 29 = .ok (.if_icmp .ne 18, 3) := by decide +kernel
theorem d_Model_teamsIn_32 : decode M_Model_teamsIn.2.1 32 = .ok (.aload_n 1, 1) := by decide +kernel
theorem d_Model_teamsIn_33 : decode M_Model_teamsIn.2.1 33 = .ok (.getfield 310, 3) := by decide +kernel
theorem d_Model_teamsIn_36 : decode M_Model_teamsIn.2.1 36 = .ok (.iload 4, 2) := by decide +kernel
theorem d_Model_teamsIn_38 : decode M_Model_teamsIn.2.1 38 = .ok (.iaload, 1) := by decide +kernel
theorem d_Model_teamsIn_39 : decode M_Model_teamsIn.2.1 39 = .ok (.iload_n 2, 1) := by decide +kernel
theorem d_Model_teamsIn_40 : decode M_Model_teamsIn.2.1 40 = .ok (.if_icmp .ne 7, 3) := by decide +kernel
theorem d_Model_teamsIn_43 : decode M_Model_teamsIn.2.1 43 = .ok (.iconst 1, 1) := by decide +kernel
theorem d_Model_teamsIn_44 : decode M_Model_teamsIn.2.1 44 = .ok (.goto 4, 3) := by decide +kernel
theorem d_Model_teamsIn_47 : decode M_Model_teamsIn.2.1 47 = .ok (.iconst 0, 1) := by decide +kernel
theorem d_Model_teamsIn_48 : decode M_Model_teamsIn.2.1 48 = .ok (.iadd, 1) := by decide +kernel
theorem d_Model_teamsIn_49 : decode M_Model_teamsIn.2.1 49 = .ok (.istore_n 3, 1) := by decide +kernel
theorem d_Model_teamsIn_50 : decode M_Model_teamsIn.2.1 50 = .ok (.iinc 4 1, 3) := by decide +kernel
theorem d_Model_teamsIn_53 : decode M_Model_teamsIn.2.1 53 = .ok (.goto (-48), 3) := by decide +kernel
def l_Model_teamsIn_5 (M : MO) (H : SH) (Y : SX) (x2 : Int32) : Nat → Nat → Int32 → Int32
  | 0, _, s => s
  | k + 1, i, s => (if ((sx_he Y) i) = 1 then (if ((sx_pl Y) i) = x2 then (l_Model_teamsIn_5 M H Y x2 k (i + 1) (s + 1)) else (l_Model_teamsIn_5 M H Y x2 k (i + 1) (s + 0))) else (l_Model_teamsIn_5 M H Y x2 k (i + 1) (s + 0)))
set_option maxRecDepth 100000 in
set_option maxHeartbeats 800000 in
theorem l_Model_teamsIn_5_go {Γ : G9} {h : AH} {m q r sa sb ro z : Nat} {n : Nat} {Q : QT} {X : XT} {M : MO} {H : SH} {Y : SX} {x2 : Int32} (geo : m + 2 ≤ q ∧ m + 2 ≤ r ∧ (q + 24 ≤ r ∨ r + 21 ≤ q)) (hB : sh_ha H 0 ≤ 5) (hS : sh_ha H 3 ≤ 6) (hC : sh_ha H 6 ≤ 4) (hD : sh_ha H 9 ≤ 4) (hE : sh_ha H 11 ≤ 4) (hn20 : n ≤ 20) (hn : sh_ha H 11 = n) : ∀ (k i : Nat) (s : Int32), i + k = n → Go Γ M_Model_teamsIn 0 0 0 56 [some (.ref m), some (.ref r), some (.int x2), some (.int (l_Model_teamsIn_5 M H Y x2 k i s)), some (.int (nI (i + k)))] [] (md_ Γ h m q r sa sb ro M H Y) z Q X → Go Γ M_Model_teamsIn 0 0 0 5 [some (.ref m), some (.ref r), some (.int x2), some (.int s), some (.int (nI i))] [] (md_ Γ h m q r sa sb ro M H Y) z Q X := by
  intro k
  induction k with
  | zero =>
    intro i s hi hk
    refine Go.iload_4 d_Model_teamsIn_5 rfl ?_
    refine Go.aload_0 d_Model_teamsIn_7 rfl ?_
    refine Go.getfield d_Model_teamsIn_8 rfl f_Model_20 (md_at_m (by omega) hB hS hC hD hE) (by rfl) ?_
    refine Go.getfield d_Model_teamsIn_11 rfl f_Model_40 (md_at_q (by omega) hB hS hC hD hE) (by rfl) ?_
    refine Go.bipush (v := 11) d_Model_teamsIn_14 rfl (by decide) ?_
    refine Go.iaload d_Model_teamsIn_16 rfl (md_at_q_5 (by omega) hB hS hC hD hE) (show vp_in (nI 11) 12 from by first | exact vp_in_nI (by omega) (by omega) | exact vp_nle (by assumption) (by omega) (by omega)) ?_
    rw [show (11 : Int32).toNatClampNeg = 11 from by decide]
    refine Go.icmp_ge (t := 56) d_Model_teamsIn_17 (by decide) rfl (fun c17_1 => ?_) (fun c17_1 => ?_)
    · exact hk
    · exact absurd (nI_le (by omega) (by omega)) c17_1
  | succ k ih =>
    intro i s hi hk
    unfold l_Model_teamsIn_5 at hk
    rw [show i + (k + 1) = i + 1 + k by omega] at hk
    refine Go.iload_4 d_Model_teamsIn_5 rfl ?_
    refine Go.aload_0 d_Model_teamsIn_7 rfl ?_
    refine Go.getfield d_Model_teamsIn_8 rfl f_Model_20 (md_at_m (by omega) hB hS hC hD hE) (by rfl) ?_
    refine Go.getfield d_Model_teamsIn_11 rfl f_Model_40 (md_at_q (by omega) hB hS hC hD hE) (by rfl) ?_
    refine Go.bipush (v := 11) d_Model_teamsIn_14 rfl (by decide) ?_
    refine Go.iaload d_Model_teamsIn_16 rfl (md_at_q_5 (by omega) hB hS hC hD hE) (show vp_in (nI 11) 12 from by first | exact vp_in_nI (by omega) (by omega) | exact vp_nle (by assumption) (by omega) (by omega)) ?_
    rw [show (11 : Int32).toNatClampNeg = 11 from by decide]
    refine Go.icmp_ge (t := 56) d_Model_teamsIn_17 (by decide) rfl (fun c17_1 => ?_) (fun c17_1 => ?_)
    · exact absurd c17_1 (nI_ge (by omega) (by omega))
    · refine Go.iload_3 d_Model_teamsIn_20 rfl ?_
      refine Go.aload_1 d_Model_teamsIn_21 rfl ?_
      refine Go.getfield d_Model_teamsIn_22 rfl f_Model_283 (md_at_r (by omega) hB hS hC hD hE) (by rfl) ?_
      refine Go.iload_4 d_Model_teamsIn_25 rfl ?_
      refine Go.iaload d_Model_teamsIn_27 rfl (md_at_r_17 (by omega) hB hS hC hD hE) (show vp_in (nI i) 4 from by first | exact vp_in_nI (by omega) (by omega) | exact vp_nle (by assumption) (by omega) (by omega)) ?_
      rw [nI_clamp (show i < 2 ^ 31 by omega)]
      refine Go.iconst (v := 1) d_Model_teamsIn_28 rfl (by decide) ?_
      refine Go.icmp_ne (t := 47) d_Model_teamsIn_29 (by decide) rfl (fun c29_2 => ?_) (fun c29_2 => ?_)
      · refine Go.iconst (v := 0) d_Model_teamsIn_47 rfl (by decide) ?_
        refine Go.iadd d_Model_teamsIn_48 rfl ?_
        refine Go.istore_3 d_Model_teamsIn_49 rfl (by rfl) ?_
        refine Go.iinc_4 d_Model_teamsIn_50 rfl (by rfl) (nI_inc _) ?_
        refine Go.goto (t := 5) d_Model_teamsIn_53 (by decide) ?_
        rw [if_neg c29_2] at hk
        exact ih (i + 1) _ (by omega) hk
      · refine Go.aload_1 d_Model_teamsIn_32 rfl ?_
        refine Go.getfield d_Model_teamsIn_33 rfl f_Model_310 (md_at_r (by omega) hB hS hC hD hE) (by rfl) ?_
        refine Go.iload_4 d_Model_teamsIn_36 rfl ?_
        refine Go.iaload d_Model_teamsIn_38 rfl (md_at_r_15 (by omega) hB hS hC hD hE) (show vp_in (nI i) 4 from by first | exact vp_in_nI (by omega) (by omega) | exact vp_nle (by assumption) (by omega) (by omega)) ?_
        rw [nI_clamp (show i < 2 ^ 31 by omega)]
        refine Go.iload_2 d_Model_teamsIn_39 rfl ?_
        refine Go.icmp_ne (t := 47) d_Model_teamsIn_40 (by decide) rfl (fun c40_3 => ?_) (fun c40_3 => ?_)
        · refine Go.iconst (v := 0) d_Model_teamsIn_47 rfl (by decide) ?_
          refine Go.iadd d_Model_teamsIn_48 rfl ?_
          refine Go.istore_3 d_Model_teamsIn_49 rfl (by rfl) ?_
          refine Go.iinc_4 d_Model_teamsIn_50 rfl (by rfl) (nI_inc _) ?_
          refine Go.goto (t := 5) d_Model_teamsIn_53 (by decide) ?_
          rw [if_pos c29_2, if_neg c40_3] at hk
          exact ih (i + 1) _ (by omega) hk
        · refine Go.iconst (v := 1) d_Model_teamsIn_43 rfl (by decide) ?_
          refine Go.goto (t := 48) d_Model_teamsIn_44 (by decide) ?_
          refine Go.iadd d_Model_teamsIn_48 rfl ?_
          refine Go.istore_3 d_Model_teamsIn_49 rfl (by rfl) ?_
          refine Go.iinc_4 d_Model_teamsIn_50 rfl (by rfl) (nI_inc _) ?_
          refine Go.goto (t := 5) d_Model_teamsIn_53 (by decide) ?_
          rw [if_pos c29_2, if_pos c40_3] at hk
          exact ih (i + 1) _ (by omega) hk
theorem d_Model_teamsIn_0 : decode M_Model_teamsIn.2.1 0 = .ok (.iconst 0, 1) := by decide +kernel
theorem d_Model_teamsIn_1 : decode M_Model_teamsIn.2.1 1 = .ok (.istore_n 3, 1) := by decide +kernel
theorem d_Model_teamsIn_2 : decode M_Model_teamsIn.2.1 2 = .ok (.iconst 0, 1) := by decide +kernel
theorem d_Model_teamsIn_3 : decode M_Model_teamsIn.2.1 3 = .ok (.istore 4, 2) := by decide +kernel
theorem d_Model_teamsIn_56 : decode M_Model_teamsIn.2.1 56 = .ok (.iload_n 3, 1) := by decide +kernel
theorem d_Model_teamsIn_57 : decode M_Model_teamsIn.2.1 57 = .ok (.ireturn, 1) := by decide +kernel
def s_Model_teamsIn (M : MO) (H : SH) (Y : SX) (x2 : Int32) : Int32 := (l_Model_teamsIn_5 M H Y x2 (sh_ha H 11) 0 0)
set_option maxRecDepth 100000 in
set_option maxHeartbeats 800000 in
theorem c_Model_teamsIn {Γ : G9} {h : AH} {m q r sa sb ro z : Nat} {M : MO} {H : SH} {Y : SX} {x2 : Int32} (geo : m + 2 ≤ q ∧ m + 2 ≤ r ∧ (q + 24 ≤ r ∨ r + 21 ≤ q)) (hB : sh_ha H 0 ≤ 5) (hS : sh_ha H 3 ≤ 6) (hC : sh_ha H 6 ≤ 4) (hD : sh_ha H 9 ≤ 4) (hE : sh_ha H 11 ≤ 4) : CallR Γ M_Model_teamsIn 0 [.ref m, .ref r, .int x2] (md_ Γ h m q r sa sb ro M H Y) z (some (.int (s_Model_teamsIn M H Y x2))) (md_ Γ h m q r sa sb ro M H Y) := by
  refine Call.of_go (L := [some (.ref m), some (.ref r), some (.int x2), none, none]) (by decide +kernel) rfl (by exact Nat.le_of_ble_eq_true rfl) ?_
  unfold s_Model_teamsIn
  refine Go.iconst (v := 0) d_Model_teamsIn_0 rfl (by decide) ?_
  refine Go.istore_3 d_Model_teamsIn_1 rfl (by rfl) ?_
  refine Go.iconst (v := 0) d_Model_teamsIn_2 rfl (by decide) ?_
  refine Go.istore_4 d_Model_teamsIn_3 rfl (by rfl) ?_
  refine l_Model_teamsIn_5_go (n := (sh_ha H 11)) geo hB hS hC hD hE (by omega) rfl (sh_ha H 11) 0 0 (by omega) ?_
  refine Go.iload_3 d_Model_teamsIn_56 rfl ?_
  exact Go.iret d_Model_teamsIn_57 rfl rfl ⟨rfl, rfl, rfl⟩
theorem trap_idx {M : MO} {H : SH} {Y : SX} {x2 : Nat} {x3 w : Int32} : ∀ (k i : Nat) (f : Int32), Idx f (i + k) → Idx (l_Model_trap_14 M H Y x2 x3 w k i f) (i + k)
  | 0, i, f, h => h
  | k + 1, i, f, h => by
    have e : i + (k + 1) = i + 1 + k := by omega
    rw [e] at h ⊢
    unfold l_Model_trap_14
    (repeat' split) <;> first
      | exact trap_idx k (i + 1) f h
      | exact trap_idx k (i + 1) (nI i) (Or.inr ⟨i, by omega, rfl⟩)
      | exact Or.inr ⟨i, by omega, rfl⟩
theorem s_trap_idx {M : MO} {H : SH} {Y : SX} {x2 : Nat} {x3 : Int32} (hC : sh_ha H 6 ≤ 4) : Idx (s_Model_trap M H Y x2 x3) 4 := by
  have := trap_idx (M := M) (H := H) (Y := Y) (x2 := x2) (x3 := x3) (w := s_Model_wayOf Y x2 x3) (sh_ha H 6) 0 (-1) (Or.inl rfl)
  exact this.mono (by omega)
theorem depot_idx {M : MO} {H : SH} {Y : SX} {x2 : Nat} : ∀ (k i : Nat), Idx (l_Model_depotOf_2 M H Y x2 k i) (i + k)
  | 0, i => Or.inl rfl
  | k + 1, i => by
    rw [show i + (k + 1) = i + 1 + k by omega]
    unfold l_Model_depotOf_2
    (repeat' split) <;> first
      | exact depot_idx k (i + 1)
      | exact Or.inr ⟨i, by omega, rfl⟩
theorem s_depot_idx {M : MO} {H : SH} {Y : SX} {x2 : Nat} (hD : sh_ha H 9 ≤ 4) : Idx (s_Model_depotOf M H Y x2) 4 := (depot_idx (M := M) (H := H) (Y := Y) (x2 := x2) (sh_ha H 9) 0).mono (by omega)
theorem md_arr_r_8 {Γ : G9} {h : AH} {m q r sa sb ro : Nat} {M : MO} {H : SH} {Y : SX} {v : Nat → Int32} (geo : m + 2 ≤ q ∧ m + 2 ≤ r ∧ (q + 24 ≤ r ∨ r + 21 ≤ q)) (hB : sh_ha H 0 ≤ 5) (hS : sh_ha H 3 ≤ 6) (hC : sh_ha H 6 ≤ 4) (hD : sh_ha H 9 ≤ 4) (hE : sh_ha H 11 ≤ 4) : hup (md_ Γ h m q r sa sb ro M H Y) (r + 8) (aI Γ 4 v) = (md_ Γ h m q r sa sb ro M H (sx_br' Y v)) := by
  unfold md_
  exact (sx_a_br (v := v))
theorem md_at_r_12 {Γ : G9} {h : AH} {m q r sa sb ro : Nat} {M : MO} {H : SH} {Y : SX} (geo : m + 2 ≤ q ∧ m + 2 ≤ r ∧ (q + 24 ≤ r ∨ r + 21 ≤ q)) (hB : sh_ha H 0 ≤ 5) (hS : sh_ha H 3 ≤ 6) (hC : sh_ha H 6 ≤ 4) (hD : sh_ha H 9 ≤ 4) (hE : sh_ha H 11 ≤ 4) : (md_ Γ h m q r sa sb ro M H Y) (r + 12) = some (aI Γ 4 (sx_fe Y)) := by
  unfold md_
  exact (sx_g12)
theorem md_arr_r_12 {Γ : G9} {h : AH} {m q r sa sb ro : Nat} {M : MO} {H : SH} {Y : SX} {v : Nat → Int32} (geo : m + 2 ≤ q ∧ m + 2 ≤ r ∧ (q + 24 ≤ r ∨ r + 21 ≤ q)) (hB : sh_ha H 0 ≤ 5) (hS : sh_ha H 3 ≤ 6) (hC : sh_ha H 6 ≤ 4) (hD : sh_ha H 9 ≤ 4) (hE : sh_ha H 11 ≤ 4) : hup (md_ Γ h m q r sa sb ro M H Y) (r + 12) (aI Γ 4 v) = (md_ Γ h m q r sa sb ro M H (sx_fe' Y v)) := by
  unfold md_
  exact (sx_a_fe (v := v))
theorem md_at_r_14 {Γ : G9} {h : AH} {m q r sa sb ro : Nat} {M : MO} {H : SH} {Y : SX} (geo : m + 2 ≤ q ∧ m + 2 ≤ r ∧ (q + 24 ≤ r ∨ r + 21 ≤ q)) (hB : sh_ha H 0 ≤ 5) (hS : sh_ha H 3 ≤ 6) (hC : sh_ha H 6 ≤ 4) (hD : sh_ha H 9 ≤ 4) (hE : sh_ha H 11 ≤ 4) : (md_ Γ h m q r sa sb ro M H Y) (r + 14) = some (aI Γ 4 (sx_sk Y)) := by
  unfold md_
  exact (sx_g14)
theorem md_arr_r_14 {Γ : G9} {h : AH} {m q r sa sb ro : Nat} {M : MO} {H : SH} {Y : SX} {v : Nat → Int32} (geo : m + 2 ≤ q ∧ m + 2 ≤ r ∧ (q + 24 ≤ r ∨ r + 21 ≤ q)) (hB : sh_ha H 0 ≤ 5) (hS : sh_ha H 3 ≤ 6) (hC : sh_ha H 6 ≤ 4) (hD : sh_ha H 9 ≤ 4) (hE : sh_ha H 11 ≤ 4) : hup (md_ Γ h m q r sa sb ro M H Y) (r + 14) (aI Γ 4 v) = (md_ Γ h m q r sa sb ro M H (sx_sk' Y v)) := by
  unfold md_
  exact (sx_a_sk (v := v))
theorem md_at_r_19 {Γ : G9} {h : AH} {m q r sa sb ro : Nat} {M : MO} {H : SH} {Y : SX} (geo : m + 2 ≤ q ∧ m + 2 ≤ r ∧ (q + 24 ≤ r ∨ r + 21 ≤ q)) (hB : sh_ha H 0 ≤ 5) (hS : sh_ha H 3 ≤ 6) (hC : sh_ha H 6 ≤ 4) (hD : sh_ha H 9 ≤ 4) (hE : sh_ha H 11 ≤ 4) : (md_ Γ h m q r sa sb ro M H Y) (r + 19) = some (aI Γ 4 (sx_fn Y)) := by
  unfold md_
  exact (sx_g19)
theorem md_arr_r_19 {Γ : G9} {h : AH} {m q r sa sb ro : Nat} {M : MO} {H : SH} {Y : SX} {v : Nat → Int32} (geo : m + 2 ≤ q ∧ m + 2 ≤ r ∧ (q + 24 ≤ r ∨ r + 21 ≤ q)) (hB : sh_ha H 0 ≤ 5) (hS : sh_ha H 3 ≤ 6) (hC : sh_ha H 6 ≤ 4) (hD : sh_ha H 9 ≤ 4) (hE : sh_ha H 11 ≤ 4) : hup (md_ Γ h m q r sa sb ro M H Y) (r + 19) (aI Γ 4 v) = (md_ Γ h m q r sa sb ro M H (sx_fn' Y v)) := by
  unfold md_
  exact (sx_a_fn (v := v))
theorem md_put_r_falls {Γ : G9} {h : AH} {m q r sa sb ro : Nat} {M : MO} {H : SH} {Y : SX} {v : Int32} (geo : m + 2 ≤ q ∧ m + 2 ≤ r ∧ (q + 24 ≤ r ∨ r + 21 ≤ q)) (hB : sh_ha H 0 ≤ 5) (hS : sh_ha H 3 ≤ 6) (hC : sh_ha H 6 ≤ 4) (hD : sh_ha H 9 ≤ 4) (hE : sh_ha H 11 ≤ 4) : hup (md_ Γ h m q r sa sb ro M H Y) r (.inr (10, [.int (nI (sx_dy Y)), .int (sx_rd Y), .int (sx_fa Y), .int (sx_ca Y), .ref (r + 1), .ref (r + 2), .ref (r + 3), .ref (r + 4), .ref (r + 5), .ref (r + 6), .ref (r + 7), .ref (r + 8), .ref (r + 9), .ref (r + 10), .ref (r + 11), .ref (r + 12), .ref (r + 13), .ref (r + 14), .ref (r + 15), .ref (r + 16), .ref (r + 17), .ref (r + 18), .ref (r + 19), .ref (r + 20)].set 2 (.int v))) = (md_ Γ h m q r sa sb ro M H (sx_fa' Y v)) := by
  unfold md_
  exact (sx_p_fa (v := v))
theorem d_Model_fall_0 : decode M_Model_fall.2.1 0 = .ok (.aload_n 1, 1) := by decide +kernel
theorem d_Model_fall_1 : decode M_Model_fall.2.1 1 = .ok (.getfield 307, 3) := by decide +kernel
theorem d_Model_fall_4 : decode M_Model_fall.2.1 4 = .ok (.iload_n 3, 1) := by decide +kernel
theorem d_Model_fall_5 : decode M_Model_fall.2.1 5 = .ok (.iconst 0, 1) := by decide +kernel
theorem d_Model_fall_6 : decode M_Model_fall.2.1 6 = .ok (.iastore, 1) := by decide +kernel
theorem d_Model_fall_7 : decode M_Model_fall.2.1 7 = .ok (.aload_n 1, 1) := by decide +kernel
theorem d_Model_fall_8 : decode M_Model_fall.2.1 8 = .ok (.getfield 332, 3) := by decide +kernel
theorem d_Model_fall_11 : decode M_Model_fall.2.1 11 = .ok (.iload_n 3, 1) := by decide +kernel
theorem d_Model_fall_12 : decode M_Model_fall.2.1 12 = .ok (.dup2, 1) := by decide +kernel
theorem d_Model_fall_13 : decode M_Model_fall.2.1 13 = .ok (.iaload, 1) := by decide +kernel
theorem d_Model_fall_14 : decode M_Model_fall.2.1 14 = .ok (.iconst 1, 1) := by decide +kernel
theorem d_Model_fall_15 : decode M_Model_fall.2.1 15 = .ok (.iadd, 1) := by decide +kernel
theorem d_Model_fall_16 : decode M_Model_fall.2.1 16 = .ok (.iastore, 1) := by decide +kernel
theorem d_Model_fall_17 : decode M_Model_fall.2.1 17 = .ok (.aload_n 1, 1) := by decide +kernel
theorem d_Model_fall_18 : decode M_Model_fall.2.1 18 = .ok (.getfield 309, 3) := by decide +kernel
theorem d_Model_fall_21 : decode M_Model_fall.2.1 21 = .ok (.iload_n 2, 1) := by decide +kernel
theorem d_Model_fall_22 : decode M_Model_fall.2.1 22 = .ok (.dup2, 1) := by decide +kernel
theorem d_Model_fall_23 : decode M_Model_fall.2.1 23 = .ok (.iaload, 1) := by decide +kernel
theorem d_Model_fall_24 : decode M_Model_fall.2.1 24 = .ok (.aload_n 1, 1) := by decide +kernel
theorem d_Model_fall_25 : decode M_Model_fall.2.1 25 = .ok (.getfield 309, 3) := by decide +kernel
theorem d_Model_fall_28 : decode M_Model_fall.2.1 28 = .ok (.iload_n 2, 1) := by decide +kernel
theorem d_Model_fall_29 : decode M_Model_fall.2.1 29 = .ok (.iaload, 1) := by decide +kernel
theorem d_Model_fall_30 : decode M_Model_fall.2.1 30 = .ok (.iconst 1, 1) := by decide +kernel
theorem d_Model_fall_31 : decode M_Model_fall.2.1 31 = .ok (.iadd, 1) := by decide +kernel
theorem d_Model_fall_32 : decode M_Model_fall.2.1 32 = .ok (.iconst 2, 1) := by decide +kernel
theorem d_Model_fall_33 : decode M_Model_fall.2.1 33 = .ok (.idiv, 1) := by decide +kernel
theorem d_Model_fall_34 : decode M_Model_fall.2.1 34 = .ok (.isub, 1) := by decide +kernel
theorem d_Model_fall_35 : decode M_Model_fall.2.1 35 = .ok (.iastore, 1) := by decide +kernel
theorem d_Model_fall_36 : decode M_Model_fall.2.1 36 = .ok (.aload_n 1, 1) := by decide +kernel
theorem d_Model_fall_37 : decode M_Model_fall.2.1 37 = .ok (.getfield 335, 3) := by decide +kernel
theorem d_Model_fall_40 : decode M_Model_fall.2.1 40 = .ok (.iload_n 2, 1) := by decide +kernel
theorem d_Model_fall_41 : decode M_Model_fall.2.1 41 = .ok (.dup2, 1) := by decide +kernel
theorem d_Model_fall_42 : decode M_Model_fall.2.1 42 = .ok (.iaload, 1) := by decide +kernel
theorem d_Model_fall_43 : decode M_Model_fall.2.1 43 = .ok (.iconst 1, 1) := by decide +kernel
theorem d_Model_fall_44 : decode M_Model_fall.2.1 44 = .ok (.iadd, 1) := by decide +kernel
theorem d_Model_fall_45 : decode M_Model_fall.2.1 45 = .ok (.iastore, 1) := by decide +kernel
theorem d_Model_fall_46 : decode M_Model_fall.2.1 46 = .ok (.aload_n 1, 1) := by decide +kernel
theorem d_Model_fall_47 : decode M_Model_fall.2.1 47 = .ok (.dup, 1) := by decide +kernel
theorem d_Model_fall_48 : decode M_Model_fall.2.1 48 = .ok (.getfield 338, 3) := by decide +kernel
theorem d_Model_fall_51 : decode M_Model_fall.2.1 51 = .ok (.iconst 1, 1) := by decide +kernel
theorem d_Model_fall_52 : decode M_Model_fall.2.1 52 = .ok (.iadd, 1) := by decide +kernel
theorem d_Model_fall_53 : decode M_Model_fall.2.1 53 = .ok (.putfield 338, 3) := by decide +kernel
theorem d_Model_fall_56 : decode M_Model_fall.2.1 56 = .ok (.return_, 1) := by decide +kernel
def s_Model_fall (M : MO) (H : SH) (Y : SX) (x2 : Nat) (x3 : Nat) : SX := (sx_fa' (sx_fn' (sx_sk' (sx_fe' (sx_br' Y (upd (sx_br Y) x3 0)) (upd (sx_fe Y) x3 (((sx_fe Y) x3) + 1))) (upd (sx_sk Y) x2 (((sx_sk Y) x2) - ((((sx_sk Y) x2) + 1) / 2)))) (upd (sx_fn Y) x2 (((sx_fn Y) x2) + 1))) ((sx_fa Y) + 1))
set_option maxRecDepth 100000 in
set_option maxHeartbeats 800000 in
theorem c_Model_fall {Γ : G9} {h : AH} {m q r sa sb ro z : Nat} {M : MO} {H : SH} {Y : SX} {x2 : Nat} {vx2 : Int32} {x3 : Nat} {vx3 : Int32} (ex2 : vx2 = nI x2) (bx2 : x2 < 4) (ex3 : vx3 = nI x3) (bx3 : x3 < 4) (geo : m + 2 ≤ q ∧ m + 2 ≤ r ∧ (q + 24 ≤ r ∨ r + 21 ≤ q)) (hB : sh_ha H 0 ≤ 5) (hS : sh_ha H 3 ≤ 6) (hC : sh_ha H 6 ≤ 4) (hD : sh_ha H 9 ≤ 4) (hE : sh_ha H 11 ≤ 4) : CallR Γ M_Model_fall 0 [.ref m, .ref r, .int vx2, .int vx3] (md_ Γ h m q r sa sb ro M H Y) z none (md_ Γ h m q r sa sb ro M H (s_Model_fall M H Y x2 x3)) := by
  subst ex2
  subst ex3
  refine Call.of_go (L := [some (.ref m), some (.ref r), some (.int (nI x2)), some (.int (nI x3))]) (by decide +kernel) rfl (by exact Nat.le_of_ble_eq_true rfl) ?_
  unfold s_Model_fall
  refine Go.aload_1 d_Model_fall_0 rfl ?_
  refine Go.getfield d_Model_fall_1 rfl f_Model_307 (md_at_r (by omega) hB hS hC hD hE) (by rfl) ?_
  refine Go.iload_3 d_Model_fall_4 rfl ?_
  refine Go.iconst (v := 0) d_Model_fall_5 rfl (by decide) ?_
  refine Go.iastore d_Model_fall_6 rfl (md_at_r_8 (by omega) hB hS hC hD hE) (show vp_in (nI x3) 4 from by first | exact vp_in_nI (by omega) (by omega) | exact vp_nle (by assumption) (by omega) (by omega)) ?_
  rw [nI_clamp (show x3 < 2 ^ 31 by omega)]
  refine Go.heq (md_arr_r_8 (by omega) hB hS hC hD hE) ?_
  refine Go.aload_1 d_Model_fall_7 rfl ?_
  refine Go.getfield d_Model_fall_8 rfl f_Model_332 (md_at_r (by omega) hB hS hC hD hE) (by rfl) ?_
  refine Go.iload_3 d_Model_fall_11 rfl ?_
  refine Go.dup2 d_Model_fall_12 rfl rfl rfl ?_
  refine Go.iaload d_Model_fall_13 rfl (md_at_r_12 (by omega) hB hS hC hD hE) (show vp_in (nI x3) 4 from by first | exact vp_in_nI (by omega) (by omega) | exact vp_nle (by assumption) (by omega) (by omega)) ?_
  rw [nI_clamp (show x3 < 2 ^ 31 by omega)]
  refine Go.iconst (v := 1) d_Model_fall_14 rfl (by decide) ?_
  refine Go.iadd d_Model_fall_15 rfl ?_
  refine Go.iastore d_Model_fall_16 rfl (md_at_r_12 (by omega) hB hS hC hD hE) (show vp_in (nI x3) 4 from by first | exact vp_in_nI (by omega) (by omega) | exact vp_nle (by assumption) (by omega) (by omega)) ?_
  rw [nI_clamp (show x3 < 2 ^ 31 by omega)]
  refine Go.heq (md_arr_r_12 (by omega) hB hS hC hD hE) ?_
  refine Go.aload_1 d_Model_fall_17 rfl ?_
  refine Go.getfield d_Model_fall_18 rfl f_Model_309 (md_at_r (by omega) hB hS hC hD hE) (by rfl) ?_
  refine Go.iload_2 d_Model_fall_21 rfl ?_
  refine Go.dup2 d_Model_fall_22 rfl rfl rfl ?_
  refine Go.iaload d_Model_fall_23 rfl (md_at_r_14 (by omega) hB hS hC hD hE) (show vp_in (nI x2) 4 from by first | exact vp_in_nI (by omega) (by omega) | exact vp_nle (by assumption) (by omega) (by omega)) ?_
  rw [nI_clamp (show x2 < 2 ^ 31 by omega)]
  refine Go.aload_1 d_Model_fall_24 rfl ?_
  refine Go.getfield d_Model_fall_25 rfl f_Model_309 (md_at_r (by omega) hB hS hC hD hE) (by rfl) ?_
  refine Go.iload_2 d_Model_fall_28 rfl ?_
  refine Go.iaload d_Model_fall_29 rfl (md_at_r_14 (by omega) hB hS hC hD hE) (show vp_in (nI x2) 4 from by first | exact vp_in_nI (by omega) (by omega) | exact vp_nle (by assumption) (by omega) (by omega)) ?_
  rw [nI_clamp (show x2 < 2 ^ 31 by omega)]
  refine Go.iconst (v := 1) d_Model_fall_30 rfl (by decide) ?_
  refine Go.iadd d_Model_fall_31 rfl ?_
  refine Go.iconst (v := 2) d_Model_fall_32 rfl (by decide) ?_
  refine Go.idiv d_Model_fall_33 rfl (by decide) ?_
  refine Go.isub d_Model_fall_34 rfl ?_
  refine Go.iastore d_Model_fall_35 rfl (md_at_r_14 (by omega) hB hS hC hD hE) (show vp_in (nI x2) 4 from by first | exact vp_in_nI (by omega) (by omega) | exact vp_nle (by assumption) (by omega) (by omega)) ?_
  rw [nI_clamp (show x2 < 2 ^ 31 by omega)]
  refine Go.heq (md_arr_r_14 (by omega) hB hS hC hD hE) ?_
  refine Go.aload_1 d_Model_fall_36 rfl ?_
  refine Go.getfield d_Model_fall_37 rfl f_Model_335 (md_at_r (by omega) hB hS hC hD hE) (by rfl) ?_
  refine Go.iload_2 d_Model_fall_40 rfl ?_
  refine Go.dup2 d_Model_fall_41 rfl rfl rfl ?_
  refine Go.iaload d_Model_fall_42 rfl (md_at_r_19 (by omega) hB hS hC hD hE) (show vp_in (nI x2) 4 from by first | exact vp_in_nI (by omega) (by omega) | exact vp_nle (by assumption) (by omega) (by omega)) ?_
  rw [nI_clamp (show x2 < 2 ^ 31 by omega)]
  refine Go.iconst (v := 1) d_Model_fall_43 rfl (by decide) ?_
  refine Go.iadd d_Model_fall_44 rfl ?_
  refine Go.iastore d_Model_fall_45 rfl (md_at_r_19 (by omega) hB hS hC hD hE) (show vp_in (nI x2) 4 from by first | exact vp_in_nI (by omega) (by omega) | exact vp_nle (by assumption) (by omega) (by omega)) ?_
  rw [nI_clamp (show x2 < 2 ^ 31 by omega)]
  refine Go.heq (md_arr_r_19 (by omega) hB hS hC hD hE) ?_
  refine Go.aload_1 d_Model_fall_46 rfl ?_
  refine Go.dup d_Model_fall_47 rfl rfl ?_
  refine Go.getfield d_Model_fall_48 rfl f_Model_338 (md_at_r (by omega) hB hS hC hD hE) (by rfl) ?_
  refine Go.iconst (v := 1) d_Model_fall_51 rfl (by decide) ?_
  refine Go.iadd d_Model_fall_52 rfl ?_
  refine Go.putfield d_Model_fall_53 rfl f_Model_338_p (Or.inl (fun C T N h => by cases h; rfl)) (md_at_r (by omega) hB hS hC hD hE) (by exact Nat.le_of_ble_eq_true rfl) rfl rfl ?_
  refine Go.heq (md_put_r_falls (by omega) hB hS hC hD hE) ?_
  exact Go.vret d_Model_fall_56 rfl ⟨rfl, by dsimp only, rfl⟩
set_option maxRecDepth 100000 in
set_option maxHeartbeats 800000 in
theorem sx_dy_Model_fall {M : MO} {H : SH} {Y : SX} {x2 : Nat} {x3 : Nat} : sx_dy (s_Model_fall M H Y x2 x3) = sx_dy Y := by
  unfold s_Model_fall
  (repeat' split) <;> (try simp only [sx_dy])
theorem md_at_r_11 {Γ : G9} {h : AH} {m q r sa sb ro : Nat} {M : MO} {H : SH} {Y : SX} (geo : m + 2 ≤ q ∧ m + 2 ≤ r ∧ (q + 24 ≤ r ∨ r + 21 ≤ q)) (hB : sh_ha H 0 ≤ 5) (hS : sh_ha H 3 ≤ 6) (hC : sh_ha H 6 ≤ 4) (hD : sh_ha H 9 ≤ 4) (hE : sh_ha H 11 ≤ 4) : (md_ Γ h m q r sa sb ro M H Y) (r + 11) = some (aI Γ 4 (sx_cr Y)) := by
  unfold md_
  exact (sx_g11)
theorem md_arr_r_11 {Γ : G9} {h : AH} {m q r sa sb ro : Nat} {M : MO} {H : SH} {Y : SX} {v : Nat → Int32} (geo : m + 2 ≤ q ∧ m + 2 ≤ r ∧ (q + 24 ≤ r ∨ r + 21 ≤ q)) (hB : sh_ha H 0 ≤ 5) (hS : sh_ha H 3 ≤ 6) (hC : sh_ha H 6 ≤ 4) (hD : sh_ha H 9 ≤ 4) (hE : sh_ha H 11 ≤ 4) : hup (md_ Γ h m q r sa sb ro M H Y) (r + 11) (aI Γ 4 v) = (md_ Γ h m q r sa sb ro M H (sx_cr' Y v)) := by
  unfold md_
  exact (sx_a_cr (v := v))
theorem d_Model_move_42 : decode M_Model_move.2.1 42 = .ok (.iload 6, 2) := by decide +kernel
theorem d_Model_move_44 : decode M_Model_move.2.1 44 = .ok (.aload_n 0, 1) := by decide +kernel
theorem d_Model_move_45 : decode M_Model_move.2.1 45 = .ok (.getfield 20, 3) := by decide +kernel
theorem d_Model_move_48 : decode M_Model_move.2.1 48 = .ok (.getfield 40, 3) := by decide +kernel
theorem d_Model_move_51 : decode M_Model_move.2.1 51 = .ok (.bipush 6, 2) := by decide +kernel
theorem d_Model_move_53 : decode M_Model_move.2.1 53 = .ok (.iaload, 1) := by decide +kernel
theorem d_Model_move_54 : decode M_Model_move.2.1 54 = .ok (.if_icmp .ge 39, 3) := by decide +kernel
theorem d_Model_move_57 : decode M_Model_move.2.1 57 = .ok (.aload_n 1, 1) := by decide +kernel
theorem d_Model_move_58 : decode M_Model_move.2.1 58 = .ok (.getfield 348, 3) := by decide +kernel
theorem d_Model_move_61 : decode M_Model_move.2.1 61 = .ok (.iload 6, 2) := by decide +kernel
theorem d_Model_move_63 : decode M_Model_move.2.1 63 = .ok (.dup2, 1) := by decide +kernel
theorem d_Model_move_64 : decode M_Model_move.2.1 64 = .ok (.iaload, 1) := by decide +kernel
theorem d_Model_move_65 : decode M_Model_move.2.1 65 = .ok (.aload_n 0, 1) := by decide +kernel
theorem d_Model_move_66 : decode M_Model_move.2.1 66 = .ok (.getfield 20, 3) := by decide +kernel
theorem d_Model_move_69 : decode M_Model_move.2.1 69 = .ok (.getfield 187, 3) := by decide +kernel
theorem d_Model_move_72 : decode M_Model_move.2.1 72 = .ok (.iload 6, 2) := by decide +kernel
theorem d_Model_move_74 : decode M_Model_move.2.1 74 = .ok (.iaload, 1) := by decide +kernel
theorem d_Model_move_75 : decode M_Model_move.2.1 75 = .ok (.iload 5, 2) := by decide +kernel
theorem d_Model_move_77 : decode M_Model_move.2.1 77 = .ok (.if_icmp .ne 7, 3) := by decide +kernel
theorem d_Model_move_80 : decode M_Model_move.2.1 80 = .ok (.iconst 1, 1) := by decide +kernel
theorem d_Model_move_81 : decode M_Model_move.2.1 81 = .ok (.goto 4, 3) := by decide +kernel
theorem d_Model_move_84 : decode M_Model_move.2.1 84 = .ok (.iconst 0, 1) := by decide +kernel
theorem d_Model_move_85 : decode M_Model_move.2.1 85 = .ok (.iadd, 1) := by decide +kernel
theorem d_Model_move_86 : decode M_Model_move.2.1 86 = .ok (.iastore, 1) := by decide +kernel
theorem d_Model_move_87 : decode M_Model_move.2.1 87 = .ok (.iinc 6 1, 3) := by decide +kernel
theorem d_Model_move_90 : decode M_Model_move.2.1 90 = .ok (.goto (-48), 3) := by decide +kernel
def l_Model_move_42 (M : MO) (H : SH) (x2 : Nat) (x3 : Int32) (w : Int32) : Nat → Nat → SX → SX
  | 0, _, Y => Y
  | k + 1, i, Y => (if ((sh_ab H) i) = w then (l_Model_move_42 M H x2 x3 w k (i + 1) (sx_cr' Y (upd (sx_cr Y) i (((sx_cr Y) i) + 1)))) else (l_Model_move_42 M H x2 x3 w k (i + 1) (sx_cr' Y (upd (sx_cr Y) i (((sx_cr Y) i) + 0)))))
set_option maxRecDepth 100000 in
set_option maxHeartbeats 800000 in
theorem l_Model_move_42_go {Γ : G9} {h : AH} {m q r sa sb ro z : Nat} {n : Nat} {Q : QT} {X : XT} {M : MO} {H : SH} {x2 : Nat} {x3 : Int32} {w : Int32} (bx2 : x2 < 4) (geo : m + 2 ≤ q ∧ m + 2 ≤ r ∧ (q + 24 ≤ r ∨ r + 21 ≤ q)) (hB : sh_ha H 0 ≤ 5) (hS : sh_ha H 3 ≤ 6) (hC : sh_ha H 6 ≤ 4) (hD : sh_ha H 9 ≤ 4) (hE : sh_ha H 11 ≤ 4) (hn20 : n ≤ 20) : ∀ (k i : Nat) (Y : SX), i + k = n → sh_ha H 6 = n → Go Γ M_Model_move 2 0 0 93 [some (.ref m), some (.ref r), some (.int (nI x2)), some (.int x3), none, some (.int w), some (.int (nI (i + k)))] [] (md_ Γ h m q r sa sb ro M H (l_Model_move_42 M H x2 x3 w k i Y)) z Q X → Go Γ M_Model_move 2 0 0 42 [some (.ref m), some (.ref r), some (.int (nI x2)), some (.int x3), none, some (.int w), some (.int (nI i))] [] (md_ Γ h m q r sa sb ro M H Y) z Q X := by
  intro k
  induction k with
  | zero =>
    intro i Y hi hn hk
    refine Go.iload_6 d_Model_move_42 rfl ?_
    refine Go.aload_0 d_Model_move_44 rfl ?_
    refine Go.getfield d_Model_move_45 rfl f_Model_20 (md_at_m (by omega) hB hS hC hD hE) (by rfl) ?_
    refine Go.getfield d_Model_move_48 rfl f_Model_40 (md_at_q (by omega) hB hS hC hD hE) (by rfl) ?_
    refine Go.bipush (v := 6) d_Model_move_51 rfl (by decide) ?_
    refine Go.iaload d_Model_move_53 rfl (md_at_q_5 (by omega) hB hS hC hD hE) (show vp_in (nI 6) 12 from by first | exact vp_in_nI (by omega) (by omega) | exact vp_nle (by assumption) (by omega) (by omega)) ?_
    rw [show (6 : Int32).toNatClampNeg = 6 from by decide]
    refine Go.icmp_ge (t := 93) d_Model_move_54 (by decide) rfl (fun c54_1 => ?_) (fun c54_1 => ?_)
    · exact hk
    · exact absurd (nI_le (by omega) (by omega)) c54_1
  | succ k ih =>
    intro i Y hi hn hk
    unfold l_Model_move_42 at hk
    rw [show i + (k + 1) = i + 1 + k by omega] at hk
    refine Go.iload_6 d_Model_move_42 rfl ?_
    refine Go.aload_0 d_Model_move_44 rfl ?_
    refine Go.getfield d_Model_move_45 rfl f_Model_20 (md_at_m (by omega) hB hS hC hD hE) (by rfl) ?_
    refine Go.getfield d_Model_move_48 rfl f_Model_40 (md_at_q (by omega) hB hS hC hD hE) (by rfl) ?_
    refine Go.bipush (v := 6) d_Model_move_51 rfl (by decide) ?_
    refine Go.iaload d_Model_move_53 rfl (md_at_q_5 (by omega) hB hS hC hD hE) (show vp_in (nI 6) 12 from by first | exact vp_in_nI (by omega) (by omega) | exact vp_nle (by assumption) (by omega) (by omega)) ?_
    rw [show (6 : Int32).toNatClampNeg = 6 from by decide]
    refine Go.icmp_ge (t := 93) d_Model_move_54 (by decide) rfl (fun c54_1 => ?_) (fun c54_1 => ?_)
    · exact absurd c54_1 (nI_ge (by omega) (by omega))
    · refine Go.aload_1 d_Model_move_57 rfl ?_
      refine Go.getfield d_Model_move_58 rfl f_Model_348 (md_at_r (by omega) hB hS hC hD hE) (by rfl) ?_
      refine Go.iload_6 d_Model_move_61 rfl ?_
      refine Go.dup2 d_Model_move_63 rfl rfl rfl ?_
      refine Go.iaload d_Model_move_64 rfl (md_at_r_11 (by omega) hB hS hC hD hE) (show vp_in (nI i) 4 from by first | exact vp_in_nI (by omega) (by omega) | exact vp_nle (by assumption) (by omega) (by omega)) ?_
      rw [nI_clamp (show i < 2 ^ 31 by omega)]
      refine Go.aload_0 d_Model_move_65 rfl ?_
      refine Go.getfield d_Model_move_66 rfl f_Model_20 (md_at_m (by omega) hB hS hC hD hE) (by rfl) ?_
      refine Go.getfield d_Model_move_69 rfl f_Model_187 (md_at_q (by omega) hB hS hC hD hE) (by rfl) ?_
      refine Go.iload_6 d_Model_move_72 rfl ?_
      refine Go.iaload d_Model_move_74 rfl (md_at_q_11 (by omega) hB hS hC hD hE) (show vp_in (nI i) 4 from by first | exact vp_in_nI (by omega) (by omega) | exact vp_nle (by assumption) (by omega) (by omega)) ?_
      rw [nI_clamp (show i < 2 ^ 31 by omega)]
      refine Go.iload_5 d_Model_move_75 rfl ?_
      refine Go.icmp_ne (t := 84) d_Model_move_77 (by decide) rfl (fun c77_2 => ?_) (fun c77_2 => ?_)
      · refine Go.iconst (v := 0) d_Model_move_84 rfl (by decide) ?_
        refine Go.iadd d_Model_move_85 rfl ?_
        refine Go.iastore d_Model_move_86 rfl (md_at_r_11 (by omega) hB hS hC hD hE) (show vp_in (nI i) 4 from by first | exact vp_in_nI (by omega) (by omega) | exact vp_nle (by assumption) (by omega) (by omega)) ?_
        rw [nI_clamp (show i < 2 ^ 31 by omega)]
        refine Go.heq (md_arr_r_11 (by omega) hB hS hC hD hE) ?_
        refine Go.iinc_6 d_Model_move_87 rfl (by rfl) (nI_inc _) ?_
        refine Go.goto (t := 42) d_Model_move_90 (by decide) ?_
        rw [if_neg c77_2] at hk
        exact ih (i + 1) _ (by omega) (by first | exact hn | (simp only []; exact hn)) hk
      · refine Go.iconst (v := 1) d_Model_move_80 rfl (by decide) ?_
        refine Go.goto (t := 85) d_Model_move_81 (by decide) ?_
        refine Go.iadd d_Model_move_85 rfl ?_
        refine Go.iastore d_Model_move_86 rfl (md_at_r_11 (by omega) hB hS hC hD hE) (show vp_in (nI i) 4 from by first | exact vp_in_nI (by omega) (by omega) | exact vp_nle (by assumption) (by omega) (by omega)) ?_
        rw [nI_clamp (show i < 2 ^ 31 by omega)]
        refine Go.heq (md_arr_r_11 (by omega) hB hS hC hD hE) ?_
        refine Go.iinc_6 d_Model_move_87 rfl (by rfl) (nI_inc _) ?_
        refine Go.goto (t := 42) d_Model_move_90 (by decide) ?_
        rw [if_pos c77_2] at hk
        exact ih (i + 1) _ (by omega) (by first | exact hn | (simp only []; exact hn)) hk
set_option maxRecDepth 100000 in
set_option maxHeartbeats 800000 in
theorem sx_dy_l_Model_move_42 {M : MO} {H : SH} {x2 : Nat} {x3 : Int32} {w : Int32} : ∀ (k i : Nat) (Y : SX), sx_dy (l_Model_move_42 M H x2 x3 w k i Y) = sx_dy Y := by
  intro k
  induction k with
  | zero => intros; rfl
  | succ k ih =>
    intros
    unfold l_Model_move_42
    (repeat' split) <;> (try simp only [ih, sx_dy, sx_dy_Model_fall])
theorem md_arr_r_20 {Γ : G9} {h : AH} {m q r sa sb ro : Nat} {M : MO} {H : SH} {Y : SX} {v : Nat → Int32} (geo : m + 2 ≤ q ∧ m + 2 ≤ r ∧ (q + 24 ≤ r ∨ r + 21 ≤ q)) (hB : sh_ha H 0 ≤ 5) (hS : sh_ha H 3 ≤ 6) (hC : sh_ha H 6 ≤ 4) (hD : sh_ha H 9 ≤ 4) (hE : sh_ha H 11 ≤ 4) : hup (md_ Γ h m q r sa sb ro M H Y) (r + 20) (aI Γ 4 v) = (md_ Γ h m q r sa sb ro M H (sx_do' Y v)) := by
  unfold md_
  exact (sx_a_do (v := v))
theorem md_arr_r_15 {Γ : G9} {h : AH} {m q r sa sb ro : Nat} {M : MO} {H : SH} {Y : SX} {v : Nat → Int32} (geo : m + 2 ≤ q ∧ m + 2 ≤ r ∧ (q + 24 ≤ r ∨ r + 21 ≤ q)) (hB : sh_ha H 0 ≤ 5) (hS : sh_ha H 3 ≤ 6) (hC : sh_ha H 6 ≤ 4) (hD : sh_ha H 9 ≤ 4) (hE : sh_ha H 11 ≤ 4) : hup (md_ Γ h m q r sa sb ro M H Y) (r + 15) (aI Γ 4 v) = (md_ Γ h m q r sa sb ro M H (sx_pl' Y v)) := by
  unfold md_
  exact (sx_a_pl (v := v))
theorem d_Model_move_0 : decode M_Model_move.2.1 0 = .ok (.aload_n 0, 1) := by decide +kernel
theorem d_Model_move_1 : decode M_Model_move.2.1 1 = .ok (.aload_n 1, 1) := by decide +kernel
theorem d_Model_move_2 : decode M_Model_move.2.1 2 = .ok (.iload_n 2, 1) := by decide +kernel
theorem d_Model_move_3 : decode M_Model_move.2.1 3 = .ok (.iload_n 3, 1) := by decide +kernel
theorem d_Model_move_4 : decode M_Model_move.2.1 4 = .ok (.invokevirtual 341, 3) := by decide +kernel
theorem d_Model_move_7 : decode M_Model_move.2.1 7 = .ok (.istore 4, 2) := by decide +kernel
theorem d_Model_move_9 : decode M_Model_move.2.1 9 = .ok (.aload_n 1, 1) := by decide +kernel
theorem d_Model_move_10 : decode M_Model_move.2.1 10 = .ok (.iload_n 2, 1) := by decide +kernel
theorem d_Model_move_11 : decode M_Model_move.2.1 11 = .ok (.iload_n 3, 1) := by decide +kernel
theorem d_Model_move_12 : decode M_Model_move.2.1 12 = .ok (.invokestatic 321, 3) := by decide +kernel
theorem d_Model_move_15 : decode M_Model_move.2.1 15 = .ok (.istore 5, 2) := by decide +kernel
theorem d_Model_move_17 : decode M_Model_move.2.1 17 = .ok (.aload_n 1, 1) := by decide +kernel
theorem d_Model_move_18 : decode M_Model_move.2.1 18 = .ok (.getfield 325, 3) := by decide +kernel
theorem d_Model_move_21 : decode M_Model_move.2.1 21 = .ok (.iload_n 2, 1) := by decide +kernel
theorem d_Model_move_22 : decode M_Model_move.2.1 22 = .ok (.iconst 1, 1) := by decide +kernel
theorem d_Model_move_23 : decode M_Model_move.2.1 23 = .ok (.iastore, 1) := by decide +kernel
theorem d_Model_move_24 : decode M_Model_move.2.1 24 = .ok (.iload 4, 2) := by decide +kernel
theorem d_Model_move_26 : decode M_Model_move.2.1 26 = .ok (.iconst (-1), 1) := by decide +kernel
theorem d_Model_move_27 : decode M_Model_move.2.1 27 = .ok (.if_icmp .eq 12, 3) := by decide +kernel
theorem d_Model_move_30 : decode M_Model_move.2.1 30 = .ok (.aload_n 0, 1) := by decide +kernel
theorem d_Model_move_31 : decode M_Model_move.2.1 31 = .ok (.aload_n 1, 1) := by decide +kernel
theorem d_Model_move_32 : decode M_Model_move.2.1 32 = .ok (.iload_n 2, 1) := by decide +kernel
theorem d_Model_move_33 : decode M_Model_move.2.1 33 = .ok (.iload 4, 2) := by decide +kernel
theorem d_Model_move_35 : decode M_Model_move.2.1 35 = .ok (.invokevirtual 344, 3) := by decide +kernel
theorem d_Model_move_38 : decode M_Model_move.2.1 38 = .ok (.return_, 1) := by decide +kernel
theorem d_Model_move_39 : decode M_Model_move.2.1 39 = .ok (.iconst 0, 1) := by decide +kernel
theorem d_Model_move_40 : decode M_Model_move.2.1 40 = .ok (.istore 6, 2) := by decide +kernel
theorem d_Model_move_93 : decode M_Model_move.2.1 93 = .ok (.aload_n 1, 1) := by decide +kernel
theorem d_Model_move_94 : decode M_Model_move.2.1 94 = .ok (.getfield 310, 3) := by decide +kernel
theorem d_Model_move_97 : decode M_Model_move.2.1 97 = .ok (.iload_n 2, 1) := by decide +kernel
theorem d_Model_move_98 : decode M_Model_move.2.1 98 = .ok (.dup2, 1) := by decide +kernel
theorem d_Model_move_99 : decode M_Model_move.2.1 99 = .ok (.iaload, 1) := by decide +kernel
theorem d_Model_move_100 : decode M_Model_move.2.1 100 = .ok (.iload_n 3, 1) := by decide +kernel
theorem d_Model_move_101 : decode M_Model_move.2.1 101 = .ok (.ifCond .eq 7, 3) := by decide +kernel
theorem d_Model_move_104 : decode M_Model_move.2.1 104 = .ok (.iconst 1, 1) := by decide +kernel
theorem d_Model_move_105 : decode M_Model_move.2.1 105 = .ok (.goto 4, 3) := by decide +kernel
theorem d_Model_move_108 : decode M_Model_move.2.1 108 = .ok (.iconst (-1), 1) := by decide +kernel
theorem d_Model_move_109 : decode M_Model_move.2.1 109 = .ok (.iadd, 1) := by decide +kernel
theorem d_Model_move_110 : decode M_Model_move.2.1 110 = .ok (.iastore, 1) := by decide +kernel
theorem d_Model_move_111 : decode M_Model_move.2.1 111 = .ok (.return_, 1) := by decide +kernel
def s_Model_move (M : MO) (H : SH) (Y : SX) (x2 : Nat) (x3 : Int32) : SX := (if (s_Model_trap M H Y x2 x3) = (-1) then (if x3 = 0 then (sx_pl' (l_Model_move_42 M H x2 x3 (s_Model_wayOf Y x2 x3) (sh_ha H 6) 0 (sx_do' Y (upd (sx_do Y) x2 1))) (upd (sx_pl (l_Model_move_42 M H x2 x3 (s_Model_wayOf Y x2 x3) (sh_ha H 6) 0 (sx_do' Y (upd (sx_do Y) x2 1)))) x2 (((sx_pl (l_Model_move_42 M H x2 x3 (s_Model_wayOf Y x2 x3) (sh_ha H 6) 0 (sx_do' Y (upd (sx_do Y) x2 1)))) x2) + (-1)))) else (sx_pl' (l_Model_move_42 M H x2 x3 (s_Model_wayOf Y x2 x3) (sh_ha H 6) 0 (sx_do' Y (upd (sx_do Y) x2 1))) (upd (sx_pl (l_Model_move_42 M H x2 x3 (s_Model_wayOf Y x2 x3) (sh_ha H 6) 0 (sx_do' Y (upd (sx_do Y) x2 1)))) x2 (((sx_pl (l_Model_move_42 M H x2 x3 (s_Model_wayOf Y x2 x3) (sh_ha H 6) 0 (sx_do' Y (upd (sx_do Y) x2 1)))) x2) + 1)))) else (s_Model_fall M H (sx_do' Y (upd (sx_do Y) x2 1)) x2 (s_Model_trap M H Y x2 x3).toNatClampNeg))
set_option maxRecDepth 100000 in
set_option maxHeartbeats 800000 in
theorem c_Model_move {Γ : G9} {h : AH} {m q r sa sb ro z : Nat} {M : MO} {H : SH} {Y : SX} {x2 : Nat} {vx2 : Int32} {x3 : Int32} (ex2 : vx2 = nI x2) (bx2 : x2 < 4) (geo : m + 2 ≤ q ∧ m + 2 ≤ r ∧ (q + 24 ≤ r ∨ r + 21 ≤ q)) (hB : sh_ha H 0 ≤ 5) (hS : sh_ha H 3 ≤ 6) (hC : sh_ha H 6 ≤ 4) (hD : sh_ha H 9 ≤ 4) (hE : sh_ha H 11 ≤ 4) : CallR Γ M_Model_move 2 [.ref m, .ref r, .int vx2, .int x3] (md_ Γ h m q r sa sb ro M H Y) z none (md_ Γ h m q r sa sb ro M H (s_Model_move M H Y x2 x3)) := by
  subst ex2
  refine Call.of_go (L := [some (.ref m), some (.ref r), some (.int (nI x2)), some (.int x3), none, none, none]) (by decide +kernel) rfl (by exact Nat.le_of_ble_eq_true rfl) ?_
  unfold s_Model_move
  refine Go.aload_0 d_Model_move_0 rfl ?_
  refine Go.aload_1 d_Model_move_1 rfl ?_
  refine Go.iload_2 d_Model_move_2 rfl ?_
  refine Go.iload_3 d_Model_move_3 rfl ?_
  refine Go.cv3r d_Model_move_4 rfl l_Model_341 k_Model_trap_v (md_at_m (by omega) hB hS hC hD hE) rfl (c_Model_trap (x2 := x2) rfl (by omega) (by omega) hB hS hC hD hE) rfl rfl rfl ?_
  refine Go.istore_4 d_Model_move_7 rfl (by rfl) ?_
  refine Go.aload_1 d_Model_move_9 rfl ?_
  refine Go.iload_2 d_Model_move_10 rfl ?_
  refine Go.iload_3 d_Model_move_11 rfl ?_
  refine Go.cs3r d_Model_move_12 rfl l_Model_321 k_Model_wayOf_s rfl (md_c_Model_wayOf__r (x2 := x2) rfl (by omega) (by omega) hB hS hC hD hE) rfl rfl rfl ?_
  refine Go.istore_5 d_Model_move_15 rfl (by rfl) ?_
  refine Go.aload_1 d_Model_move_17 rfl ?_
  refine Go.getfield d_Model_move_18 rfl f_Model_325 (md_at_r (by omega) hB hS hC hD hE) (by rfl) ?_
  refine Go.iload_2 d_Model_move_21 rfl ?_
  refine Go.iconst (v := 1) d_Model_move_22 rfl (by decide) ?_
  refine Go.iastore d_Model_move_23 rfl (md_at_r_20 (by omega) hB hS hC hD hE) (show vp_in (nI x2) 4 from by first | exact vp_in_nI (by omega) (by omega) | exact vp_nle (by assumption) (by omega) (by omega)) ?_
  rw [nI_clamp (show x2 < 2 ^ 31 by omega)]
  refine Go.heq (md_arr_r_20 (by omega) hB hS hC hD hE) ?_
  refine Go.iload_4 d_Model_move_24 rfl ?_
  refine Go.iconst (v := (-1)) d_Model_move_26 rfl (by decide) ?_
  refine Go.icmp_eq (t := 39) d_Model_move_27 (by decide) rfl (fun c27_1 => ?_) (fun c27_1 => ?_)
  · refine Go.iconst (v := 0) d_Model_move_39 rfl (by decide) ?_
    refine Go.istore_6 d_Model_move_40 rfl (by rfl) ?_
    refine Go.fgt [some (.ref m), some (.ref r), some (.int (nI x2)), some (.int x3), none, some (.int (s_Model_wayOf Y x2 x3)), some (.int 0)] (by repeat' (first | exact trivial | refine ⟨rfl, ?_⟩)) ?_
    refine l_Model_move_42_go (n := (sh_ha H 6)) bx2 geo hB hS hC hD hE (by omega) (sh_ha H 6) 0 (sx_do' Y (upd (sx_do Y) x2 1)) (by omega) rfl ?_
    refine Go.aload_1 d_Model_move_93 rfl ?_
    refine Go.getfield d_Model_move_94 rfl f_Model_310 (md_at_r (by omega) hB hS hC hD hE) (by rfl) ?_
    refine Go.iload_2 d_Model_move_97 rfl ?_
    refine Go.dup2 d_Model_move_98 rfl rfl rfl ?_
    refine Go.iaload d_Model_move_99 rfl (md_at_r_15 (by omega) hB hS hC hD hE) (show vp_in (nI x2) 4 from by first | exact vp_in_nI (by omega) (by omega) | exact vp_nle (by assumption) (by omega) (by omega)) ?_
    rw [nI_clamp (show x2 < 2 ^ 31 by omega)]
    refine Go.iload_3 d_Model_move_100 rfl ?_
    refine Go.if_eq (t := 108) d_Model_move_101 (by decide) rfl (fun c101_2 => ?_) (fun c101_2 => ?_)
    · refine Go.iconst (v := (-1)) d_Model_move_108 rfl (by decide) ?_
      refine Go.iadd d_Model_move_109 rfl ?_
      refine Go.iastore d_Model_move_110 rfl (md_at_r_15 (by omega) hB hS hC hD hE) (show vp_in (nI x2) 4 from by first | exact vp_in_nI (by omega) (by omega) | exact vp_nle (by assumption) (by omega) (by omega)) ?_
      rw [nI_clamp (show x2 < 2 ^ 31 by omega)]
      refine Go.heq (md_arr_r_15 (by omega) hB hS hC hD hE) ?_
      rw [if_pos c27_1, if_pos c101_2]
      exact Go.vret d_Model_move_111 rfl ⟨rfl, by dsimp only, rfl⟩
    · refine Go.iconst (v := 1) d_Model_move_104 rfl (by decide) ?_
      refine Go.goto (t := 109) d_Model_move_105 (by decide) ?_
      refine Go.iadd d_Model_move_109 rfl ?_
      refine Go.iastore d_Model_move_110 rfl (md_at_r_15 (by omega) hB hS hC hD hE) (show vp_in (nI x2) 4 from by first | exact vp_in_nI (by omega) (by omega) | exact vp_nle (by assumption) (by omega) (by omega)) ?_
      rw [nI_clamp (show x2 < 2 ^ 31 by omega)]
      refine Go.heq (md_arr_r_15 (by omega) hB hS hC hD hE) ?_
      rw [if_pos c27_1, if_neg c101_2]
      exact Go.vret d_Model_move_111 rfl ⟨rfl, by dsimp only, rfl⟩
  · refine Go.aload_0 d_Model_move_30 rfl ?_
    refine Go.aload_1 d_Model_move_31 rfl ?_
    refine Go.iload_2 d_Model_move_32 rfl ?_
    refine Go.iload_4 d_Model_move_33 rfl ?_
    refine Go.cv3v d_Model_move_35 rfl l_Model_344 k_Model_fall_v (md_at_m (by omega) hB hS hC hD hE) rfl (c_Model_fall (x2 := x2) (x3 := (s_Model_trap M H Y x2 x3).toNatClampNeg) rfl (by omega) (nI_back ((s_trap_idx hC).pos c27_1 (by decide))) ((s_trap_idx hC).lt c27_1 (by decide)) (by omega) hB hS hC hD hE) rfl rfl rfl ?_
    rw [if_neg c27_1]
    exact Go.vret d_Model_move_38 rfl ⟨rfl, by dsimp only, rfl⟩
set_option maxRecDepth 100000 in
set_option maxHeartbeats 800000 in
theorem sx_dy_Model_move {M : MO} {H : SH} {Y : SX} {x2 : Nat} {x3 : Int32} : sx_dy (s_Model_move M H Y x2 x3) = sx_dy Y := by
  unfold s_Model_move
  (repeat' split) <;> (try simp only [sx_dy, sx_dy_Model_fall, sx_dy_l_Model_move_42])
theorem md_c_Model_isIn_ {Γ : G9} {h : AH} {m q r sa sb ro z : Nat} {M : MO} {H : SH} {Y : SX} {x1 : Int32} {x2 : Int32} {x3 : Int32} (geo : m + 2 ≤ q ∧ m + 2 ≤ r ∧ (q + 24 ≤ r ∨ r + 21 ≤ q)) (hB : sh_ha H 0 ≤ 5) (hS : sh_ha H 3 ≤ 6) (hC : sh_ha H 6 ≤ 4) (hD : sh_ha H 9 ≤ 4) (hE : sh_ha H 11 ≤ 4) : CallR Γ M_Model_isIn 0 [.int x1, .int x2, .int x3] (md_ Γ h m q r sa sb ro M H Y) z (some (.int (s_Model_isIn x1 x2 x3))) (md_ Γ h m q r sa sb ro M H Y) := by
  unfold md_
  exact CallR.conv rfl rfl (c_Model_isIn)
theorem d_Model_canProbe_0 : decode M_Model_canProbe.2.1 0 = .ok (.aload_n 1, 1) := by decide +kernel
theorem d_Model_canProbe_1 : decode M_Model_canProbe.2.1 1 = .ok (.getfield 310, 3) := by decide +kernel
theorem d_Model_canProbe_4 : decode M_Model_canProbe.2.1 4 = .ok (.iload_n 2, 1) := by decide +kernel
theorem d_Model_canProbe_5 : decode M_Model_canProbe.2.1 5 = .ok (.iaload, 1) := by decide +kernel
theorem d_Model_canProbe_6 : decode M_Model_canProbe.2.1 6 = .ok (.aload_n 0, 1) := by decide +kernel
theorem d_Model_canProbe_7 : decode M_Model_canProbe.2.1 7 = .ok (.getfield 20, 3) := by decide +kernel
theorem d_Model_canProbe_10 : decode M_Model_canProbe.2.1 10 = .ok (.getfield 187, 3) := by decide +kernel
theorem d_Model_canProbe_13 : decode M_Model_canProbe.2.1 13 = .ok (.iload_n 3, 1) := by decide +kernel
theorem d_Model_canProbe_14 : decode M_Model_canProbe.2.1 14 = .ok (.iaload, 1) := by decide +kernel
theorem d_Model_canProbe_15 : decode M_Model_canProbe.2.1 15 = .ok (.isub, 1) := by decide +kernel
theorem d_Model_canProbe_16 : decode M_Model_canProbe.2.1 16 = .ok (.istore 4, 2) := by decide +kernel
theorem d_Model_canProbe_18 : decode M_Model_canProbe.2.1 18 = .ok (.aload_n 1, 1) := by decide +kernel
theorem d_Model_canProbe_19 : decode M_Model_canProbe.2.1 19 = .ok (.getfield 283, 3) := by decide +kernel
theorem d_Model_canProbe_22 : decode M_Model_canProbe.2.1 22 = .ok (.iload_n 2, 1) := by decide +kernel
theorem d_Model_canProbe_23 : decode M_Model_canProbe.2.1 23 = .ok (.iaload, 1) := by decide +kernel
theorem d_Model_canProbe_24 : decode M_Model_canProbe.2.1 24 = .ok (.iconst 1, 1) := by decide +kernel
theorem d_Model_canProbe_25 : decode M_Model_canProbe.2.1 25 = .ok (.if_icmp .ne 26, 3) := by decide +kernel
theorem d_Model_canProbe_28 : decode M_Model_canProbe.2.1 28 = .ok (.aload_n 1, 1) := by decide +kernel
theorem d_Model_canProbe_29 : decode M_Model_canProbe.2.1 29 = .ok (.getfield 325, 3) := by decide +kernel
theorem d_Model_canProbe_32 : decode M_Model_canProbe.2.1 32 = .ok (.iload_n 2, 1) := by decide +kernel
theorem d_Model_canProbe_33 : decode M_Model_canProbe.2.1 33 = .ok (.iaload, 1) := by decide +kernel
theorem d_Model_canProbe_34 : decode M_Model_canProbe.2.1 34 = .ok (.ifCond .ne 17, 3) := by decide +kernel
theorem d_Model_canProbe_37 : decode M_Model_canProbe.2.1 37 = .ok (.iload 4, 2) := by decide +kernel
theorem d_Model_canProbe_39 : decode M_Model_canProbe.2.1 39 = .ok (.iconst 0, 1) := by decide +kernel
theorem d_Model_canProbe_40 : decode M_Model_canProbe.2.1 40 = .ok (.iconst 1, 1) := by decide +kernel
theorem d_Model_canProbe_41 : decode M_Model_canProbe.2.1 41 = .ok (.invokestatic 43, 3) := by decide +kernel
theorem d_Model_canProbe_44 : decode M_Model_canProbe.2.1 44 = .ok (.ifCond .eq 7, 3) := by decide +kernel
theorem d_Model_canProbe_47 : decode M_Model_canProbe.2.1 47 = .ok (.iconst 1, 1) := by decide +kernel
theorem d_Model_canProbe_48 : decode M_Model_canProbe.2.1 48 = .ok (.goto 4, 3) := by decide +kernel
theorem d_Model_canProbe_51 : decode M_Model_canProbe.2.1 51 = .ok (.iconst 0, 1) := by decide +kernel
theorem d_Model_canProbe_52 : decode M_Model_canProbe.2.1 52 = .ok (.ireturn, 1) := by decide +kernel
def s_Model_canProbe (M : MO) (H : SH) (Y : SX) (x2 : Nat) (x3 : Nat) : Int32 := (if ((sx_he Y) x2) = 1 then (if ((sx_do Y) x2) = 0 then (if (s_Model_isIn (((sx_pl Y) x2) - ((sh_ab H) x3)) 0 1) = 0 then 0 else 1) else 0) else 0)
set_option maxRecDepth 100000 in
set_option maxHeartbeats 800000 in
theorem c_Model_canProbe {Γ : G9} {h : AH} {m q r sa sb ro z : Nat} {M : MO} {H : SH} {Y : SX} {x2 : Nat} {vx2 : Int32} {x3 : Nat} {vx3 : Int32} (ex2 : vx2 = nI x2) (bx2 : x2 < 4) (ex3 : vx3 = nI x3) (bx3 : x3 < 4) (geo : m + 2 ≤ q ∧ m + 2 ≤ r ∧ (q + 24 ≤ r ∨ r + 21 ≤ q)) (hB : sh_ha H 0 ≤ 5) (hS : sh_ha H 3 ≤ 6) (hC : sh_ha H 6 ≤ 4) (hD : sh_ha H 9 ≤ 4) (hE : sh_ha H 11 ≤ 4) : CallR Γ M_Model_canProbe 1 [.ref m, .ref r, .int vx2, .int vx3] (md_ Γ h m q r sa sb ro M H Y) z (some (.int (s_Model_canProbe M H Y x2 x3))) (md_ Γ h m q r sa sb ro M H Y) := by
  subst ex2
  subst ex3
  refine Call.of_go (L := [some (.ref m), some (.ref r), some (.int (nI x2)), some (.int (nI x3)), none]) (by decide +kernel) rfl (by exact Nat.le_of_ble_eq_true rfl) ?_
  unfold s_Model_canProbe
  refine Go.aload_1 d_Model_canProbe_0 rfl ?_
  refine Go.getfield d_Model_canProbe_1 rfl f_Model_310 (md_at_r (by omega) hB hS hC hD hE) (by rfl) ?_
  refine Go.iload_2 d_Model_canProbe_4 rfl ?_
  refine Go.iaload d_Model_canProbe_5 rfl (md_at_r_15 (by omega) hB hS hC hD hE) (show vp_in (nI x2) 4 from by first | exact vp_in_nI (by omega) (by omega) | exact vp_nle (by assumption) (by omega) (by omega)) ?_
  rw [nI_clamp (show x2 < 2 ^ 31 by omega)]
  refine Go.aload_0 d_Model_canProbe_6 rfl ?_
  refine Go.getfield d_Model_canProbe_7 rfl f_Model_20 (md_at_m (by omega) hB hS hC hD hE) (by rfl) ?_
  refine Go.getfield d_Model_canProbe_10 rfl f_Model_187 (md_at_q (by omega) hB hS hC hD hE) (by rfl) ?_
  refine Go.iload_3 d_Model_canProbe_13 rfl ?_
  refine Go.iaload d_Model_canProbe_14 rfl (md_at_q_11 (by omega) hB hS hC hD hE) (show vp_in (nI x3) 4 from by first | exact vp_in_nI (by omega) (by omega) | exact vp_nle (by assumption) (by omega) (by omega)) ?_
  rw [nI_clamp (show x3 < 2 ^ 31 by omega)]
  refine Go.isub d_Model_canProbe_15 rfl ?_
  refine Go.istore_4 d_Model_canProbe_16 rfl (by rfl) ?_
  refine Go.aload_1 d_Model_canProbe_18 rfl ?_
  refine Go.getfield d_Model_canProbe_19 rfl f_Model_283 (md_at_r (by omega) hB hS hC hD hE) (by rfl) ?_
  refine Go.iload_2 d_Model_canProbe_22 rfl ?_
  refine Go.iaload d_Model_canProbe_23 rfl (md_at_r_17 (by omega) hB hS hC hD hE) (show vp_in (nI x2) 4 from by first | exact vp_in_nI (by omega) (by omega) | exact vp_nle (by assumption) (by omega) (by omega)) ?_
  rw [nI_clamp (show x2 < 2 ^ 31 by omega)]
  refine Go.iconst (v := 1) d_Model_canProbe_24 rfl (by decide) ?_
  refine Go.icmp_ne (t := 51) d_Model_canProbe_25 (by decide) rfl (fun c25_1 => ?_) (fun c25_1 => ?_)
  · refine Go.iconst (v := 0) d_Model_canProbe_51 rfl (by decide) ?_
    rw [if_neg c25_1]
    exact Go.iret d_Model_canProbe_52 rfl rfl ⟨rfl, rfl, rfl⟩
  · refine Go.aload_1 d_Model_canProbe_28 rfl ?_
    refine Go.getfield d_Model_canProbe_29 rfl f_Model_325 (md_at_r (by omega) hB hS hC hD hE) (by rfl) ?_
    refine Go.iload_2 d_Model_canProbe_32 rfl ?_
    refine Go.iaload d_Model_canProbe_33 rfl (md_at_r_20 (by omega) hB hS hC hD hE) (show vp_in (nI x2) 4 from by first | exact vp_in_nI (by omega) (by omega) | exact vp_nle (by assumption) (by omega) (by omega)) ?_
    rw [nI_clamp (show x2 < 2 ^ 31 by omega)]
    refine Go.if_ne (t := 51) d_Model_canProbe_34 (by decide) rfl (fun c34_2 => ?_) (fun c34_2 => ?_)
    · refine Go.iconst (v := 0) d_Model_canProbe_51 rfl (by decide) ?_
      rw [if_pos c25_1, if_neg c34_2]
      exact Go.iret d_Model_canProbe_52 rfl rfl ⟨rfl, rfl, rfl⟩
    · refine Go.iload_4 d_Model_canProbe_37 rfl ?_
      refine Go.iconst (v := 0) d_Model_canProbe_39 rfl (by decide) ?_
      refine Go.iconst (v := 1) d_Model_canProbe_40 rfl (by decide) ?_
      refine Go.cs3r d_Model_canProbe_41 rfl l_Model_43 k_Model_isIn_s rfl (md_c_Model_isIn_ (by omega) hB hS hC hD hE) rfl rfl rfl ?_
      refine Go.if_eq (t := 51) d_Model_canProbe_44 (by decide) rfl (fun c44_3 => ?_) (fun c44_3 => ?_)
      · refine Go.iconst (v := 0) d_Model_canProbe_51 rfl (by decide) ?_
        rw [if_pos c25_1, if_pos c34_2, if_pos c44_3]
        exact Go.iret d_Model_canProbe_52 rfl rfl ⟨rfl, rfl, rfl⟩
      · refine Go.iconst (v := 1) d_Model_canProbe_47 rfl (by decide) ?_
        refine Go.goto (t := 52) d_Model_canProbe_48 (by decide) ?_
        rw [if_pos c25_1, if_pos c34_2, if_neg c44_3]
        exact Go.iret d_Model_canProbe_52 rfl rfl ⟨rfl, rfl, rfl⟩
set_option maxRecDepth 100000 in
set_option maxHeartbeats 800000 in
theorem s_Model_canProbe_01 (M : MO) (H : SH) (Y : SX) (x2 : Nat) (x3 : Nat) : (s_Model_canProbe M H Y x2 x3) = 0 ∨ (s_Model_canProbe M H Y x2 x3) = 1 := by
  unfold s_Model_canProbe
  (repeat' split) <;> first | exact Or.inl rfl | exact Or.inr rfl
theorem md_arr_r_9 {Γ : G9} {h : AH} {m q r sa sb ro : Nat} {M : MO} {H : SH} {Y : SX} {v : Nat → Int32} (geo : m + 2 ≤ q ∧ m + 2 ≤ r ∧ (q + 24 ≤ r ∨ r + 21 ≤ q)) (hB : sh_ha H 0 ≤ 5) (hS : sh_ha H 3 ≤ 6) (hC : sh_ha H 6 ≤ 4) (hD : sh_ha H 9 ≤ 4) (hE : sh_ha H 11 ≤ 4) : hup (md_ Γ h m q r sa sb ro M H Y) (r + 9) (aI Γ 4 v) = (md_ Γ h m q r sa sb ro M H (sx_kn' Y v)) := by
  unfold md_
  exact (sx_a_kn (v := v))
theorem md_at_r_10 {Γ : G9} {h : AH} {m q r sa sb ro : Nat} {M : MO} {H : SH} {Y : SX} (geo : m + 2 ≤ q ∧ m + 2 ≤ r ∧ (q + 24 ≤ r ∨ r + 21 ≤ q)) (hB : sh_ha H 0 ≤ 5) (hS : sh_ha H 3 ≤ 6) (hC : sh_ha H 6 ≤ 4) (hD : sh_ha H 9 ≤ 4) (hE : sh_ha H 11 ≤ 4) : (md_ Γ h m q r sa sb ro M H Y) (r + 10) = some (aI Γ 4 (sx_pr Y)) := by
  unfold md_
  exact (sx_g10)
theorem md_arr_r_10 {Γ : G9} {h : AH} {m q r sa sb ro : Nat} {M : MO} {H : SH} {Y : SX} {v : Nat → Int32} (geo : m + 2 ≤ q ∧ m + 2 ≤ r ∧ (q + 24 ≤ r ∨ r + 21 ≤ q)) (hB : sh_ha H 0 ≤ 5) (hS : sh_ha H 3 ≤ 6) (hC : sh_ha H 6 ≤ 4) (hD : sh_ha H 9 ≤ 4) (hE : sh_ha H 11 ≤ 4) : hup (md_ Γ h m q r sa sb ro M H Y) (r + 10) (aI Γ 4 v) = (md_ Γ h m q r sa sb ro M H (sx_pr' Y v)) := by
  unfold md_
  exact (sx_a_pr (v := v))
theorem d_Model_look_0 : decode M_Model_look.2.1 0 = .ok (.aload_n 1, 1) := by decide +kernel
theorem d_Model_look_1 : decode M_Model_look.2.1 1 = .ok (.getfield 286, 3) := by decide +kernel
theorem d_Model_look_4 : decode M_Model_look.2.1 4 = .ok (.iload_n 3, 1) := by decide +kernel
theorem d_Model_look_5 : decode M_Model_look.2.1 5 = .ok (.iconst 3, 1) := by decide +kernel
theorem d_Model_look_6 : decode M_Model_look.2.1 6 = .ok (.iastore, 1) := by decide +kernel
theorem d_Model_look_7 : decode M_Model_look.2.1 7 = .ok (.aload_n 1, 1) := by decide +kernel
theorem d_Model_look_8 : decode M_Model_look.2.1 8 = .ok (.getfield 351, 3) := by decide +kernel
theorem d_Model_look_11 : decode M_Model_look.2.1 11 = .ok (.iload_n 3, 1) := by decide +kernel
theorem d_Model_look_12 : decode M_Model_look.2.1 12 = .ok (.aload_n 1, 1) := by decide +kernel
theorem d_Model_look_13 : decode M_Model_look.2.1 13 = .ok (.getfield 307, 3) := by decide +kernel
theorem d_Model_look_16 : decode M_Model_look.2.1 16 = .ok (.iload_n 3, 1) := by decide +kernel
theorem d_Model_look_17 : decode M_Model_look.2.1 17 = .ok (.iaload, 1) := by decide +kernel
theorem d_Model_look_18 : decode M_Model_look.2.1 18 = .ok (.iastore, 1) := by decide +kernel
theorem d_Model_look_19 : decode M_Model_look.2.1 19 = .ok (.aload_n 1, 1) := by decide +kernel
theorem d_Model_look_20 : decode M_Model_look.2.1 20 = .ok (.getfield 325, 3) := by decide +kernel
theorem d_Model_look_23 : decode M_Model_look.2.1 23 = .ok (.iload_n 2, 1) := by decide +kernel
theorem d_Model_look_24 : decode M_Model_look.2.1 24 = .ok (.iconst 1, 1) := by decide +kernel
theorem d_Model_look_25 : decode M_Model_look.2.1 25 = .ok (.iastore, 1) := by decide +kernel
theorem d_Model_look_26 : decode M_Model_look.2.1 26 = .ok (.return_, 1) := by decide +kernel
def s_Model_look (M : MO) (H : SH) (Y : SX) (x2 : Nat) (x3 : Nat) : SX := (sx_do' (sx_pr' (sx_kn' Y (upd (sx_kn Y) x3 3)) (upd (sx_pr Y) x3 ((sx_br Y) x3))) (upd (sx_do Y) x2 1))
set_option maxRecDepth 100000 in
set_option maxHeartbeats 800000 in
theorem c_Model_look {Γ : G9} {h : AH} {m q r sa sb ro z : Nat} {M : MO} {H : SH} {Y : SX} {x2 : Nat} {vx2 : Int32} {x3 : Nat} {vx3 : Int32} (ex2 : vx2 = nI x2) (bx2 : x2 < 4) (ex3 : vx3 = nI x3) (bx3 : x3 < 4) (geo : m + 2 ≤ q ∧ m + 2 ≤ r ∧ (q + 24 ≤ r ∨ r + 21 ≤ q)) (hB : sh_ha H 0 ≤ 5) (hS : sh_ha H 3 ≤ 6) (hC : sh_ha H 6 ≤ 4) (hD : sh_ha H 9 ≤ 4) (hE : sh_ha H 11 ≤ 4) : CallR Γ M_Model_look 0 [.ref m, .ref r, .int vx2, .int vx3] (md_ Γ h m q r sa sb ro M H Y) z none (md_ Γ h m q r sa sb ro M H (s_Model_look M H Y x2 x3)) := by
  subst ex2
  subst ex3
  refine Call.of_go (L := [some (.ref m), some (.ref r), some (.int (nI x2)), some (.int (nI x3))]) (by decide +kernel) rfl (by exact Nat.le_of_ble_eq_true rfl) ?_
  unfold s_Model_look
  refine Go.aload_1 d_Model_look_0 rfl ?_
  refine Go.getfield d_Model_look_1 rfl f_Model_286 (md_at_r (by omega) hB hS hC hD hE) (by rfl) ?_
  refine Go.iload_3 d_Model_look_4 rfl ?_
  refine Go.iconst (v := 3) d_Model_look_5 rfl (by decide) ?_
  refine Go.iastore d_Model_look_6 rfl (md_at_r_9 (by omega) hB hS hC hD hE) (show vp_in (nI x3) 4 from by first | exact vp_in_nI (by omega) (by omega) | exact vp_nle (by assumption) (by omega) (by omega)) ?_
  rw [nI_clamp (show x3 < 2 ^ 31 by omega)]
  refine Go.heq (md_arr_r_9 (by omega) hB hS hC hD hE) ?_
  refine Go.aload_1 d_Model_look_7 rfl ?_
  refine Go.getfield d_Model_look_8 rfl f_Model_351 (md_at_r (by omega) hB hS hC hD hE) (by rfl) ?_
  refine Go.iload_3 d_Model_look_11 rfl ?_
  refine Go.aload_1 d_Model_look_12 rfl ?_
  refine Go.getfield d_Model_look_13 rfl f_Model_307 (md_at_r (by omega) hB hS hC hD hE) (by rfl) ?_
  refine Go.iload_3 d_Model_look_16 rfl ?_
  refine Go.iaload d_Model_look_17 rfl (md_at_r_8 (by omega) hB hS hC hD hE) (show vp_in (nI x3) 4 from by first | exact vp_in_nI (by omega) (by omega) | exact vp_nle (by assumption) (by omega) (by omega)) ?_
  rw [nI_clamp (show x3 < 2 ^ 31 by omega)]
  refine Go.iastore d_Model_look_18 rfl (md_at_r_10 (by omega) hB hS hC hD hE) (show vp_in (nI x3) 4 from by first | exact vp_in_nI (by omega) (by omega) | exact vp_nle (by assumption) (by omega) (by omega)) ?_
  rw [nI_clamp (show x3 < 2 ^ 31 by omega)]
  refine Go.heq (md_arr_r_10 (by omega) hB hS hC hD hE) ?_
  refine Go.aload_1 d_Model_look_19 rfl ?_
  refine Go.getfield d_Model_look_20 rfl f_Model_325 (md_at_r (by omega) hB hS hC hD hE) (by rfl) ?_
  refine Go.iload_2 d_Model_look_23 rfl ?_
  refine Go.iconst (v := 1) d_Model_look_24 rfl (by decide) ?_
  refine Go.iastore d_Model_look_25 rfl (md_at_r_20 (by omega) hB hS hC hD hE) (show vp_in (nI x2) 4 from by first | exact vp_in_nI (by omega) (by omega) | exact vp_nle (by assumption) (by omega) (by omega)) ?_
  rw [nI_clamp (show x2 < 2 ^ 31 by omega)]
  refine Go.heq (md_arr_r_20 (by omega) hB hS hC hD hE) ?_
  exact Go.vret d_Model_look_26 rfl ⟨rfl, by dsimp only, rfl⟩
set_option maxRecDepth 100000 in
set_option maxHeartbeats 800000 in
theorem sx_dy_Model_look {M : MO} {H : SH} {Y : SX} {x2 : Nat} {x3 : Nat} : sx_dy (s_Model_look M H Y x2 x3) = sx_dy Y := by
  unfold s_Model_look
  (repeat' split) <;> (try simp only [sx_dy, sx_dy_Model_fall, sx_dy_l_Model_move_42, sx_dy_Model_move])
theorem md_arr_r_13 {Γ : G9} {h : AH} {m q r sa sb ro : Nat} {M : MO} {H : SH} {Y : SX} {v : Nat → Int32} (geo : m + 2 ≤ q ∧ m + 2 ≤ r ∧ (q + 24 ≤ r ∨ r + 21 ≤ q)) (hB : sh_ha H 0 ≤ 5) (hS : sh_ha H 3 ≤ 6) (hC : sh_ha H 6 ≤ 4) (hD : sh_ha H 9 ≤ 4) (hE : sh_ha H 11 ≤ 4) : hup (md_ Γ h m q r sa sb ro M H Y) (r + 13) (aI Γ 4 v) = (md_ Γ h m q r sa sb ro M H (sx_fo' Y v)) := by
  unfold md_
  exact (sx_a_fo (v := v))
theorem d_Model_filled_0 : decode M_Model_filled.2.1 0 = .ok (.aload_n 0, 1) := by decide +kernel
theorem d_Model_filled_1 : decode M_Model_filled.2.1 1 = .ok (.aload_n 1, 1) := by decide +kernel
theorem d_Model_filled_2 : decode M_Model_filled.2.1 2 = .ok (.iload_n 2, 1) := by decide +kernel
theorem d_Model_filled_3 : decode M_Model_filled.2.1 3 = .ok (.invokevirtual 354, 3) := by decide +kernel
theorem d_Model_filled_6 : decode M_Model_filled.2.1 6 = .ok (.istore 4, 2) := by decide +kernel
theorem d_Model_filled_8 : decode M_Model_filled.2.1 8 = .ok (.aload_n 1, 1) := by decide +kernel
theorem d_Model_filled_9 : decode M_Model_filled.2.1 9 = .ok (.getfield 283, 3) := by decide +kernel
theorem d_Model_filled_12 : decode M_Model_filled.2.1 12 = .ok (.iload_n 2, 1) := by decide +kernel
theorem d_Model_filled_13 : decode M_Model_filled.2.1 13 = .ok (.iaload, 1) := by decide +kernel
theorem d_Model_filled_14 : decode M_Model_filled.2.1 14 = .ok (.ifCond .eq 9, 3) := by decide +kernel
theorem d_Model_filled_17 : decode M_Model_filled.2.1 17 = .ok (.iload 4, 2) := by decide +kernel
theorem d_Model_filled_19 : decode M_Model_filled.2.1 19 = .ok (.iconst (-1), 1) := by decide +kernel
theorem d_Model_filled_20 : decode M_Model_filled.2.1 20 = .ok (.if_icmp .ne 5, 3) := by decide +kernel
theorem d_Model_filled_23 : decode M_Model_filled.2.1 23 = .ok (.iconst 0, 1) := by decide +kernel
theorem d_Model_filled_24 : decode M_Model_filled.2.1 24 = .ok (.ireturn, 1) := by decide +kernel
theorem d_Model_filled_25 : decode M_Model_filled.2.1 25 = .ok (.aload_n 1, 1) := by decide +kernel
theorem d_Model_filled_26 : decode M_Model_filled.2.1 26 = .ok (.getfield 308, 3) := by decide +kernel
theorem d_Model_filled_29 : decode M_Model_filled.2.1 29 = .ok (.iload 4, 2) := by decide +kernel
theorem d_Model_filled_31 : decode M_Model_filled.2.1 31 = .ok (.iaload, 1) := by decide +kernel
theorem d_Model_filled_32 : decode M_Model_filled.2.1 32 = .ok (.iconst 0, 1) := by decide +kernel
theorem d_Model_filled_33 : decode M_Model_filled.2.1 33 = .ok (.bipush 40, 2) := by decide +kernel
theorem d_Model_filled_35 : decode M_Model_filled.2.1 35 = .ok (.aload_n 1, 1) := by decide +kernel
theorem d_Model_filled_36 : decode M_Model_filled.2.1 36 = .ok (.getfield 309, 3) := by decide +kernel
theorem d_Model_filled_39 : decode M_Model_filled.2.1 39 = .ok (.iload_n 2, 1) := by decide +kernel
theorem d_Model_filled_40 : decode M_Model_filled.2.1 40 = .ok (.iaload, 1) := by decide +kernel
theorem d_Model_filled_41 : decode M_Model_filled.2.1 41 = .ok (.isub, 1) := by decide +kernel
theorem d_Model_filled_42 : decode M_Model_filled.2.1 42 = .ok (.iload_n 3, 1) := by decide +kernel
theorem d_Model_filled_43 : decode M_Model_filled.2.1 43 = .ok (.invokestatic 313, 3) := by decide +kernel
theorem d_Model_filled_46 : decode M_Model_filled.2.1 46 = .ok (.invokestatic 318, 3) := by decide +kernel
theorem d_Model_filled_49 : decode M_Model_filled.2.1 49 = .ok (.invokestatic 313, 3) := by decide +kernel
theorem d_Model_filled_52 : decode M_Model_filled.2.1 52 = .ok (.istore 5, 2) := by decide +kernel
theorem d_Model_filled_54 : decode M_Model_filled.2.1 54 = .ok (.aload_n 1, 1) := by decide +kernel
theorem d_Model_filled_55 : decode M_Model_filled.2.1 55 = .ok (.getfield 308, 3) := by decide +kernel
theorem d_Model_filled_58 : decode M_Model_filled.2.1 58 = .ok (.iload 4, 2) := by decide +kernel
theorem d_Model_filled_60 : decode M_Model_filled.2.1 60 = .ok (.dup2, 1) := by decide +kernel
theorem d_Model_filled_61 : decode M_Model_filled.2.1 61 = .ok (.iaload, 1) := by decide +kernel
theorem d_Model_filled_62 : decode M_Model_filled.2.1 62 = .ok (.iload 5, 2) := by decide +kernel
theorem d_Model_filled_64 : decode M_Model_filled.2.1 64 = .ok (.isub, 1) := by decide +kernel
theorem d_Model_filled_65 : decode M_Model_filled.2.1 65 = .ok (.iastore, 1) := by decide +kernel
theorem d_Model_filled_66 : decode M_Model_filled.2.1 66 = .ok (.aload_n 1, 1) := by decide +kernel
theorem d_Model_filled_67 : decode M_Model_filled.2.1 67 = .ok (.getfield 309, 3) := by decide +kernel
theorem d_Model_filled_70 : decode M_Model_filled.2.1 70 = .ok (.iload_n 2, 1) := by decide +kernel
theorem d_Model_filled_71 : decode M_Model_filled.2.1 71 = .ok (.dup2, 1) := by decide +kernel
theorem d_Model_filled_72 : decode M_Model_filled.2.1 72 = .ok (.iaload, 1) := by decide +kernel
theorem d_Model_filled_73 : decode M_Model_filled.2.1 73 = .ok (.iload 5, 2) := by decide +kernel
theorem d_Model_filled_75 : decode M_Model_filled.2.1 75 = .ok (.iadd, 1) := by decide +kernel
theorem d_Model_filled_76 : decode M_Model_filled.2.1 76 = .ok (.iastore, 1) := by decide +kernel
theorem d_Model_filled_77 : decode M_Model_filled.2.1 77 = .ok (.iload 5, 2) := by decide +kernel
theorem d_Model_filled_79 : decode M_Model_filled.2.1 79 = .ok (.ireturn, 1) := by decide +kernel
def s_Model_filled (M : MO) (H : SH) (Y : SX) (x2 : Nat) (x3 : Int32) : Int32 × SX := (if ((sx_he Y) x2) = 0 then (0, Y) else (if (s_Model_depotOf M H Y x2) = (-1) then (0, Y) else ((iMin ((sx_fo Y) (s_Model_depotOf M H Y x2).toNatClampNeg) (iMax 0 (iMin (40 - ((sx_sk Y) x2)) x3))), (sx_sk' (sx_fo' Y (upd (sx_fo Y) (s_Model_depotOf M H Y x2).toNatClampNeg (((sx_fo Y) (s_Model_depotOf M H Y x2).toNatClampNeg) - (iMin ((sx_fo Y) (s_Model_depotOf M H Y x2).toNatClampNeg) (iMax 0 (iMin (40 - ((sx_sk Y) x2)) x3)))))) (upd (sx_sk Y) x2 (((sx_sk Y) x2) + (iMin ((sx_fo Y) (s_Model_depotOf M H Y x2).toNatClampNeg) (iMax 0 (iMin (40 - ((sx_sk Y) x2)) x3)))))))))
set_option maxRecDepth 100000 in
set_option maxHeartbeats 800000 in
theorem c_Model_filled {Γ : G9} {h : AH} {m q r sa sb ro z : Nat} {M : MO} {H : SH} {Y : SX} {x2 : Nat} {vx2 : Int32} {x3 : Int32} (ex2 : vx2 = nI x2) (bx2 : x2 < 4) (geo : m + 2 ≤ q ∧ m + 2 ≤ r ∧ (q + 24 ≤ r ∨ r + 21 ≤ q)) (hB : sh_ha H 0 ≤ 5) (hS : sh_ha H 3 ≤ 6) (hC : sh_ha H 6 ≤ 4) (hD : sh_ha H 9 ≤ 4) (hE : sh_ha H 11 ≤ 4) : CallR Γ M_Model_filled 1 [.ref m, .ref r, .int vx2, .int x3] (md_ Γ h m q r sa sb ro M H Y) z (some (.int (s_Model_filled M H Y x2 x3).1)) (md_ Γ h m q r sa sb ro M H (s_Model_filled M H Y x2 x3).2) := by
  subst ex2
  refine Call.of_go (L := [some (.ref m), some (.ref r), some (.int (nI x2)), some (.int x3), none, none]) (by decide +kernel) rfl (by exact Nat.le_of_ble_eq_true rfl) ?_
  unfold s_Model_filled
  refine Go.aload_0 d_Model_filled_0 rfl ?_
  refine Go.aload_1 d_Model_filled_1 rfl ?_
  refine Go.iload_2 d_Model_filled_2 rfl ?_
  refine Go.cv2r d_Model_filled_3 rfl l_Model_354 k_Model_depotOf_v (md_at_m (by omega) hB hS hC hD hE) rfl (c_Model_depotOf (x2 := x2) rfl (by omega) (by omega) hB hS hC hD hE) rfl rfl rfl ?_
  refine Go.istore_4 d_Model_filled_6 rfl (by rfl) ?_
  refine Go.aload_1 d_Model_filled_8 rfl ?_
  refine Go.getfield d_Model_filled_9 rfl f_Model_283 (md_at_r (by omega) hB hS hC hD hE) (by rfl) ?_
  refine Go.iload_2 d_Model_filled_12 rfl ?_
  refine Go.iaload d_Model_filled_13 rfl (md_at_r_17 (by omega) hB hS hC hD hE) (show vp_in (nI x2) 4 from by first | exact vp_in_nI (by omega) (by omega) | exact vp_nle (by assumption) (by omega) (by omega)) ?_
  rw [nI_clamp (show x2 < 2 ^ 31 by omega)]
  refine Go.if_eq (t := 23) d_Model_filled_14 (by decide) rfl (fun c14_1 => ?_) (fun c14_1 => ?_)
  · refine Go.iconst (v := 0) d_Model_filled_23 rfl (by decide) ?_
    rw [if_pos c14_1]
    exact Go.iret d_Model_filled_24 rfl rfl ⟨rfl, by dsimp only, rfl⟩
  · refine Go.iload_4 d_Model_filled_17 rfl ?_
    refine Go.iconst (v := (-1)) d_Model_filled_19 rfl (by decide) ?_
    refine Go.icmp_ne (t := 25) d_Model_filled_20 (by decide) rfl (fun c20_2 => ?_) (fun c20_2 => ?_)
    · refine Go.aload_1 d_Model_filled_25 rfl ?_
      refine Go.getfield d_Model_filled_26 rfl f_Model_308 (md_at_r (by omega) hB hS hC hD hE) (by rfl) ?_
      refine Go.iload_4 d_Model_filled_29 rfl ?_
      refine Go.iaload d_Model_filled_31 rfl (md_at_r_13 (by omega) hB hS hC hD hE) ((s_depot_idx hD).in_ (by assumption) (by decide)) ?_
      refine Go.iconst (v := 0) d_Model_filled_32 rfl (by decide) ?_
      refine Go.bipush (v := 40) d_Model_filled_33 rfl (by decide) ?_
      refine Go.aload_1 d_Model_filled_35 rfl ?_
      refine Go.getfield d_Model_filled_36 rfl f_Model_309 (md_at_r (by omega) hB hS hC hD hE) (by rfl) ?_
      refine Go.iload_2 d_Model_filled_39 rfl ?_
      refine Go.iaload d_Model_filled_40 rfl (md_at_r_14 (by omega) hB hS hC hD hE) (show vp_in (nI x2) 4 from by first | exact vp_in_nI (by omega) (by omega) | exact vp_nle (by assumption) (by omega) (by omega)) ?_
      rw [nI_clamp (show x2 < 2 ^ 31 by omega)]
      refine Go.isub d_Model_filled_41 rfl ?_
      refine Go.iload_3 d_Model_filled_42 rfl ?_
      refine Go.imin d_Model_filled_43 rfl l_Model_313 (by decide) rfl ?_
      refine Go.imax d_Model_filled_46 rfl l_Model_318 (by decide) rfl ?_
      refine Go.imin d_Model_filled_49 rfl l_Model_313 (by decide) rfl ?_
      refine Go.istore_5 d_Model_filled_52 rfl (by rfl) ?_
      refine Go.aload_1 d_Model_filled_54 rfl ?_
      refine Go.getfield d_Model_filled_55 rfl f_Model_308 (md_at_r (by omega) hB hS hC hD hE) (by rfl) ?_
      refine Go.iload_4 d_Model_filled_58 rfl ?_
      refine Go.dup2 d_Model_filled_60 rfl rfl rfl ?_
      refine Go.iaload d_Model_filled_61 rfl (md_at_r_13 (by omega) hB hS hC hD hE) ((s_depot_idx hD).in_ (by assumption) (by decide)) ?_
      refine Go.iload_5 d_Model_filled_62 rfl ?_
      refine Go.isub d_Model_filled_64 rfl ?_
      refine Go.iastore d_Model_filled_65 rfl (md_at_r_13 (by omega) hB hS hC hD hE) ((s_depot_idx hD).in_ (by assumption) (by decide)) ?_
      refine Go.heq (md_arr_r_13 (by omega) hB hS hC hD hE) ?_
      refine Go.aload_1 d_Model_filled_66 rfl ?_
      refine Go.getfield d_Model_filled_67 rfl f_Model_309 (md_at_r (by omega) hB hS hC hD hE) (by rfl) ?_
      refine Go.iload_2 d_Model_filled_70 rfl ?_
      refine Go.dup2 d_Model_filled_71 rfl rfl rfl ?_
      refine Go.iaload d_Model_filled_72 rfl (md_at_r_14 (by omega) hB hS hC hD hE) (show vp_in (nI x2) 4 from by first | exact vp_in_nI (by omega) (by omega) | exact vp_nle (by assumption) (by omega) (by omega)) ?_
      rw [nI_clamp (show x2 < 2 ^ 31 by omega)]
      refine Go.iload_5 d_Model_filled_73 rfl ?_
      refine Go.iadd d_Model_filled_75 rfl ?_
      refine Go.iastore d_Model_filled_76 rfl (md_at_r_14 (by omega) hB hS hC hD hE) (show vp_in (nI x2) 4 from by first | exact vp_in_nI (by omega) (by omega) | exact vp_nle (by assumption) (by omega) (by omega)) ?_
      rw [nI_clamp (show x2 < 2 ^ 31 by omega)]
      refine Go.heq (md_arr_r_14 (by omega) hB hS hC hD hE) ?_
      refine Go.iload_5 d_Model_filled_77 rfl ?_
      rw [if_neg c14_1, if_neg c20_2]
      exact Go.iret d_Model_filled_79 rfl rfl ⟨rfl, by dsimp only, rfl⟩
    · refine Go.iconst (v := 0) d_Model_filled_23 rfl (by decide) ?_
      rw [if_neg c14_1, if_pos c20_2]
      exact Go.iret d_Model_filled_24 rfl rfl ⟨rfl, by dsimp only, rfl⟩
set_option maxRecDepth 100000 in
set_option maxHeartbeats 800000 in
theorem sx_dy_Model_filled {M : MO} {H : SH} {Y : SX} {x2 : Nat} {x3 : Int32} : sx_dy (s_Model_filled M H Y x2 x3).2 = sx_dy Y := by
  unfold s_Model_filled
  (repeat' split) <;> (try simp only [sx_dy, sx_dy_Model_fall, sx_dy_l_Model_move_42, sx_dy_Model_move, sx_dy_Model_look])
theorem md_at_r_5 {Γ : G9} {h : AH} {m q r sa sb ro : Nat} {M : MO} {H : SH} {Y : SX} (geo : m + 2 ≤ q ∧ m + 2 ≤ r ∧ (q + 24 ≤ r ∨ r + 21 ≤ q)) (hB : sh_ha H 0 ≤ 5) (hS : sh_ha H 3 ≤ 6) (hC : sh_ha H 6 ≤ 4) (hD : sh_ha H 9 ≤ 4) (hE : sh_ha H 11 ≤ 4) : (md_ Γ h m q r sa sb ro M H Y) (r + 5) = some (aI Γ 6 (sx_sd Y)) := by
  unfold md_
  exact (sx_g5)
theorem md_at_q_9 {Γ : G9} {h : AH} {m q r sa sb ro : Nat} {M : MO} {H : SH} {Y : SX} (geo : m + 2 ≤ q ∧ m + 2 ≤ r ∧ (q + 24 ≤ r ∨ r + 21 ≤ q)) (hB : sh_ha H 0 ≤ 5) (hS : sh_ha H 3 ≤ 6) (hC : sh_ha H 6 ≤ 4) (hD : sh_ha H 9 ≤ 4) (hE : sh_ha H 11 ≤ 4) : (md_ Γ h m q r sa sb ro M H Y) (q + 9) = some (aI Γ 6 (sh_si H)) := by
  unfold md_
  exact ((blk_out (by omega)).trans (sh_g9))
theorem md_arr_r_5 {Γ : G9} {h : AH} {m q r sa sb ro : Nat} {M : MO} {H : SH} {Y : SX} {v : Nat → Int32} (geo : m + 2 ≤ q ∧ m + 2 ≤ r ∧ (q + 24 ≤ r ∨ r + 21 ≤ q)) (hB : sh_ha H 0 ≤ 5) (hS : sh_ha H 3 ≤ 6) (hC : sh_ha H 6 ≤ 4) (hD : sh_ha H 9 ≤ 4) (hE : sh_ha H 11 ≤ 4) : hup (md_ Γ h m q r sa sb ro M H Y) (r + 5) (aI Γ 6 v) = (md_ Γ h m q r sa sb ro M H (sx_sd' Y v)) := by
  unfold md_
  exact (sx_a_sd (v := v))
theorem md_at_r_4 {Γ : G9} {h : AH} {m q r sa sb ro : Nat} {M : MO} {H : SH} {Y : SX} (geo : m + 2 ≤ q ∧ m + 2 ≤ r ∧ (q + 24 ≤ r ∨ r + 21 ≤ q)) (hB : sh_ha H 0 ≤ 5) (hS : sh_ha H 3 ≤ 6) (hC : sh_ha H 6 ≤ 4) (hD : sh_ha H 9 ≤ 4) (hE : sh_ha H 11 ≤ 4) : (md_ Γ h m q r sa sb ro M H Y) (r + 4) = some (aI Γ 6 (sx_ou Y)) := by
  unfold md_
  exact (sx_g4)
theorem md_arr_r_4 {Γ : G9} {h : AH} {m q r sa sb ro : Nat} {M : MO} {H : SH} {Y : SX} {v : Nat → Int32} (geo : m + 2 ≤ q ∧ m + 2 ≤ r ∧ (q + 24 ≤ r ∨ r + 21 ≤ q)) (hB : sh_ha H 0 ≤ 5) (hS : sh_ha H 3 ≤ 6) (hC : sh_ha H 6 ≤ 4) (hD : sh_ha H 9 ≤ 4) (hE : sh_ha H 11 ≤ 4) : hup (md_ Γ h m q r sa sb ro M H Y) (r + 4) (aI Γ 6 v) = (md_ Γ h m q r sa sb ro M H (sx_ou' Y v)) := by
  unfold md_
  exact (sx_a_ou (v := v))
theorem d_Model_drilled_0 : decode M_Model_drilled.2.1 0 = .ok (.aload_n 1, 1) := by decide +kernel
theorem d_Model_drilled_1 : decode M_Model_drilled.2.1 1 = .ok (.getfield 277, 3) := by decide +kernel
theorem d_Model_drilled_4 : decode M_Model_drilled.2.1 4 = .ok (.iload_n 2, 1) := by decide +kernel
theorem d_Model_drilled_5 : decode M_Model_drilled.2.1 5 = .ok (.iaload, 1) := by decide +kernel
theorem d_Model_drilled_6 : decode M_Model_drilled.2.1 6 = .ok (.iconst 1, 1) := by decide +kernel
theorem d_Model_drilled_7 : decode M_Model_drilled.2.1 7 = .ok (.if_icmp .eq 20, 3) := by decide +kernel
theorem d_Model_drilled_10 : decode M_Model_drilled.2.1 10 = .ok (.aload_n 0, 1) := by decide +kernel
theorem d_Model_drilled_11 : decode M_Model_drilled.2.1 11 = .ok (.aload_n 1, 1) := by decide +kernel
theorem d_Model_drilled_12 : decode M_Model_drilled.2.1 12 = .ok (.aload_n 0, 1) := by decide +kernel
theorem d_Model_drilled_13 : decode M_Model_drilled.2.1 13 = .ok (.getfield 20, 3) := by decide +kernel
theorem d_Model_drilled_16 : decode M_Model_drilled.2.1 16 = .ok (.getfield 178, 3) := by decide +kernel
theorem d_Model_drilled_19 : decode M_Model_drilled.2.1 19 = .ok (.iload_n 2, 1) := by decide +kernel
theorem d_Model_drilled_20 : decode M_Model_drilled.2.1 20 = .ok (.iaload, 1) := by decide +kernel
theorem d_Model_drilled_21 : decode M_Model_drilled.2.1 21 = .ok (.invokevirtual 358, 3) := by decide +kernel
theorem d_Model_drilled_24 : decode M_Model_drilled.2.1 24 = .ok (.ifCond .ne 5, 3) := by decide +kernel
theorem d_Model_drilled_27 : decode M_Model_drilled.2.1 27 = .ok (.iconst 0, 1) := by decide +kernel
theorem d_Model_drilled_28 : decode M_Model_drilled.2.1 28 = .ok (.ireturn, 1) := by decide +kernel
theorem d_Model_drilled_29 : decode M_Model_drilled.2.1 29 = .ok (.aload_n 1, 1) := by decide +kernel
theorem d_Model_drilled_30 : decode M_Model_drilled.2.1 30 = .ok (.getfield 277, 3) := by decide +kernel
theorem d_Model_drilled_33 : decode M_Model_drilled.2.1 33 = .ok (.iload_n 2, 1) := by decide +kernel
theorem d_Model_drilled_34 : decode M_Model_drilled.2.1 34 = .ok (.iconst 1, 1) := by decide +kernel
theorem d_Model_drilled_35 : decode M_Model_drilled.2.1 35 = .ok (.iastore, 1) := by decide +kernel
theorem d_Model_drilled_36 : decode M_Model_drilled.2.1 36 = .ok (.aload_n 1, 1) := by decide +kernel
theorem d_Model_drilled_37 : decode M_Model_drilled.2.1 37 = .ok (.getfield 304, 3) := by decide +kernel
theorem d_Model_drilled_40 : decode M_Model_drilled.2.1 40 = .ok (.iload_n 2, 1) := by decide +kernel
theorem d_Model_drilled_41 : decode M_Model_drilled.2.1 41 = .ok (.iconst 0, 1) := by decide +kernel
theorem d_Model_drilled_42 : decode M_Model_drilled.2.1 42 = .ok (.iastore, 1) := by decide +kernel
theorem d_Model_drilled_43 : decode M_Model_drilled.2.1 43 = .ok (.iconst 1, 1) := by decide +kernel
theorem d_Model_drilled_44 : decode M_Model_drilled.2.1 44 = .ok (.ireturn, 1) := by decide +kernel
def s_Model_drilled (M : MO) (H : SH) (Y : SX) (x2 : Nat) : Int32 × SX := (if ((sx_sd Y) x2) = 1 then (0, Y) else (if (s_Model_teamsIn M H Y ((sh_si H) x2)) = 0 then (0, Y) else (1, (sx_ou' (sx_sd' Y (upd (sx_sd Y) x2 1)) (upd (sx_ou Y) x2 0)))))
set_option maxRecDepth 100000 in
set_option maxHeartbeats 800000 in
theorem c_Model_drilled {Γ : G9} {h : AH} {m q r sa sb ro z : Nat} {M : MO} {H : SH} {Y : SX} {x2 : Nat} {vx2 : Int32} (ex2 : vx2 = nI x2) (bx2 : x2 < 6) (geo : m + 2 ≤ q ∧ m + 2 ≤ r ∧ (q + 24 ≤ r ∨ r + 21 ≤ q)) (hB : sh_ha H 0 ≤ 5) (hS : sh_ha H 3 ≤ 6) (hC : sh_ha H 6 ≤ 4) (hD : sh_ha H 9 ≤ 4) (hE : sh_ha H 11 ≤ 4) : CallR Γ M_Model_drilled 1 [.ref m, .ref r, .int vx2] (md_ Γ h m q r sa sb ro M H Y) z (some (.int (s_Model_drilled M H Y x2).1)) (md_ Γ h m q r sa sb ro M H (s_Model_drilled M H Y x2).2) := by
  subst ex2
  refine Call.of_go (L := [some (.ref m), some (.ref r), some (.int (nI x2))]) (by decide +kernel) rfl (by exact Nat.le_of_ble_eq_true rfl) ?_
  unfold s_Model_drilled
  refine Go.aload_1 d_Model_drilled_0 rfl ?_
  refine Go.getfield d_Model_drilled_1 rfl f_Model_277 (md_at_r (by omega) hB hS hC hD hE) (by rfl) ?_
  refine Go.iload_2 d_Model_drilled_4 rfl ?_
  refine Go.iaload d_Model_drilled_5 rfl (md_at_r_5 (by omega) hB hS hC hD hE) (show vp_in (nI x2) 6 from by first | exact vp_in_nI (by omega) (by omega) | exact vp_nle (by assumption) (by omega) (by omega)) ?_
  rw [nI_clamp (show x2 < 2 ^ 31 by omega)]
  refine Go.iconst (v := 1) d_Model_drilled_6 rfl (by decide) ?_
  refine Go.icmp_eq (t := 27) d_Model_drilled_7 (by decide) rfl (fun c7_1 => ?_) (fun c7_1 => ?_)
  · refine Go.iconst (v := 0) d_Model_drilled_27 rfl (by decide) ?_
    rw [if_pos c7_1]
    exact Go.iret d_Model_drilled_28 rfl rfl ⟨rfl, by dsimp only, rfl⟩
  · refine Go.aload_0 d_Model_drilled_10 rfl ?_
    refine Go.aload_1 d_Model_drilled_11 rfl ?_
    refine Go.aload_0 d_Model_drilled_12 rfl ?_
    refine Go.getfield d_Model_drilled_13 rfl f_Model_20 (md_at_m (by omega) hB hS hC hD hE) (by rfl) ?_
    refine Go.getfield d_Model_drilled_16 rfl f_Model_178 (md_at_q (by omega) hB hS hC hD hE) (by rfl) ?_
    refine Go.iload_2 d_Model_drilled_19 rfl ?_
    refine Go.iaload d_Model_drilled_20 rfl (md_at_q_9 (by omega) hB hS hC hD hE) (show vp_in (nI x2) 6 from by first | exact vp_in_nI (by omega) (by omega) | exact vp_nle (by assumption) (by omega) (by omega)) ?_
    rw [nI_clamp (show x2 < 2 ^ 31 by omega)]
    refine Go.cv2r d_Model_drilled_21 rfl l_Model_358 k_Model_teamsIn_v (md_at_m (by omega) hB hS hC hD hE) rfl (c_Model_teamsIn (by omega) hB hS hC hD hE) rfl rfl rfl ?_
    refine Go.if_ne (t := 29) d_Model_drilled_24 (by decide) rfl (fun c24_2 => ?_) (fun c24_2 => ?_)
    · refine Go.aload_1 d_Model_drilled_29 rfl ?_
      refine Go.getfield d_Model_drilled_30 rfl f_Model_277 (md_at_r (by omega) hB hS hC hD hE) (by rfl) ?_
      refine Go.iload_2 d_Model_drilled_33 rfl ?_
      refine Go.iconst (v := 1) d_Model_drilled_34 rfl (by decide) ?_
      refine Go.iastore d_Model_drilled_35 rfl (md_at_r_5 (by omega) hB hS hC hD hE) (show vp_in (nI x2) 6 from by first | exact vp_in_nI (by omega) (by omega) | exact vp_nle (by assumption) (by omega) (by omega)) ?_
      rw [nI_clamp (show x2 < 2 ^ 31 by omega)]
      refine Go.heq (md_arr_r_5 (by omega) hB hS hC hD hE) ?_
      refine Go.aload_1 d_Model_drilled_36 rfl ?_
      refine Go.getfield d_Model_drilled_37 rfl f_Model_304 (md_at_r (by omega) hB hS hC hD hE) (by rfl) ?_
      refine Go.iload_2 d_Model_drilled_40 rfl ?_
      refine Go.iconst (v := 0) d_Model_drilled_41 rfl (by decide) ?_
      refine Go.iastore d_Model_drilled_42 rfl (md_at_r_4 (by omega) hB hS hC hD hE) (show vp_in (nI x2) 6 from by first | exact vp_in_nI (by omega) (by omega) | exact vp_nle (by assumption) (by omega) (by omega)) ?_
      rw [nI_clamp (show x2 < 2 ^ 31 by omega)]
      refine Go.heq (md_arr_r_4 (by omega) hB hS hC hD hE) ?_
      refine Go.iconst (v := 1) d_Model_drilled_43 rfl (by decide) ?_
      rw [if_neg c7_1, if_neg c24_2]
      exact Go.iret d_Model_drilled_44 rfl rfl ⟨rfl, by dsimp only, rfl⟩
    · refine Go.iconst (v := 0) d_Model_drilled_27 rfl (by decide) ?_
      rw [if_neg c7_1, if_pos c24_2]
      exact Go.iret d_Model_drilled_28 rfl rfl ⟨rfl, by dsimp only, rfl⟩
set_option maxRecDepth 100000 in
set_option maxHeartbeats 800000 in
theorem sx_dy_Model_drilled {M : MO} {H : SH} {Y : SX} {x2 : Nat} : sx_dy (s_Model_drilled M H Y x2).2 = sx_dy Y := by
  unfold s_Model_drilled
  (repeat' split) <;> (try simp only [sx_dy, sx_dy_Model_fall, sx_dy_l_Model_move_42, sx_dy_Model_move, sx_dy_Model_look, sx_dy_Model_filled])
set_option maxRecDepth 100000 in
set_option maxHeartbeats 800000 in
theorem s_Model_drilled_01 (M : MO) (H : SH) (Y : SX) (x2 : Nat) : (s_Model_drilled M H Y x2).1 = 0 ∨ (s_Model_drilled M H Y x2).1 = 1 := by
  unfold s_Model_drilled
  (repeat' split) <;> first | exact Or.inl rfl | exact Or.inr rfl
theorem d_Model_moved_0 : decode M_Model_moved.2.1 0 = .ok (.aload_n 0, 1) := by decide +kernel
theorem d_Model_moved_1 : decode M_Model_moved.2.1 1 = .ok (.aload_n 1, 1) := by decide +kernel
theorem d_Model_moved_2 : decode M_Model_moved.2.1 2 = .ok (.iload_n 2, 1) := by decide +kernel
theorem d_Model_moved_3 : decode M_Model_moved.2.1 3 = .ok (.iload_n 3, 1) := by decide +kernel
theorem d_Model_moved_4 : decode M_Model_moved.2.1 4 = .ok (.invokevirtual 361, 3) := by decide +kernel
theorem d_Model_moved_7 : decode M_Model_moved.2.1 7 = .ok (.istore 4, 2) := by decide +kernel
theorem d_Model_moved_9 : decode M_Model_moved.2.1 9 = .ok (.iload 4, 2) := by decide +kernel
theorem d_Model_moved_11 : decode M_Model_moved.2.1 11 = .ok (.ifCond .eq 10, 3) := by decide +kernel
theorem d_Model_moved_14 : decode M_Model_moved.2.1 14 = .ok (.aload_n 0, 1) := by decide +kernel
theorem d_Model_moved_15 : decode M_Model_moved.2.1 15 = .ok (.aload_n 1, 1) := by decide +kernel
theorem d_Model_moved_16 : decode M_Model_moved.2.1 16 = .ok (.iload_n 2, 1) := by decide +kernel
theorem d_Model_moved_17 : decode M_Model_moved.2.1 17 = .ok (.iload_n 3, 1) := by decide +kernel
theorem d_Model_moved_18 : decode M_Model_moved.2.1 18 = .ok (.invokevirtual 365, 3) := by decide +kernel
theorem d_Model_moved_21 : decode M_Model_moved.2.1 21 = .ok (.iload 4, 2) := by decide +kernel
theorem d_Model_moved_23 : decode M_Model_moved.2.1 23 = .ok (.ireturn, 1) := by decide +kernel
def s_Model_moved (M : MO) (H : SH) (Y : SX) (x2 : Nat) (x3 : Int32) : Int32 × SX := (if (s_Model_canGo M H Y x2 x3) = 0 then ((s_Model_canGo M H Y x2 x3), Y) else ((s_Model_canGo M H Y x2 x3), (s_Model_move M H Y x2 x3)))
set_option maxRecDepth 100000 in
set_option maxHeartbeats 800000 in
theorem c_Model_moved {Γ : G9} {h : AH} {m q r sa sb ro z : Nat} {M : MO} {H : SH} {Y : SX} {x2 : Nat} {vx2 : Int32} {x3 : Int32} (ex2 : vx2 = nI x2) (bx2 : x2 < 4) (geo : m + 2 ≤ q ∧ m + 2 ≤ r ∧ (q + 24 ≤ r ∨ r + 21 ≤ q)) (hB : sh_ha H 0 ≤ 5) (hS : sh_ha H 3 ≤ 6) (hC : sh_ha H 6 ≤ 4) (hD : sh_ha H 9 ≤ 4) (hE : sh_ha H 11 ≤ 4) : CallR Γ M_Model_moved 3 [.ref m, .ref r, .int vx2, .int x3] (md_ Γ h m q r sa sb ro M H Y) z (some (.int (s_Model_moved M H Y x2 x3).1)) (md_ Γ h m q r sa sb ro M H (s_Model_moved M H Y x2 x3).2) := by
  subst ex2
  refine Call.of_go (L := [some (.ref m), some (.ref r), some (.int (nI x2)), some (.int x3), none]) (by decide +kernel) rfl (by exact Nat.le_of_ble_eq_true rfl) ?_
  unfold s_Model_moved
  refine Go.aload_0 d_Model_moved_0 rfl ?_
  refine Go.aload_1 d_Model_moved_1 rfl ?_
  refine Go.iload_2 d_Model_moved_2 rfl ?_
  refine Go.iload_3 d_Model_moved_3 rfl ?_
  refine Go.cv3r d_Model_moved_4 rfl l_Model_361 k_Model_canGo_v (md_at_m (by omega) hB hS hC hD hE) rfl (c_Model_canGo (x2 := x2) rfl (by omega) (by omega) hB hS hC hD hE) rfl rfl rfl ?_
  refine Go.istore_4 d_Model_moved_7 rfl (by rfl) ?_
  refine Go.iload_4 d_Model_moved_9 rfl ?_
  refine Go.if_eq (t := 21) d_Model_moved_11 (by decide) rfl (fun c11_1 => ?_) (fun c11_1 => ?_)
  · refine Go.iload_4 d_Model_moved_21 rfl ?_
    rw [if_pos c11_1]
    exact Go.iret d_Model_moved_23 rfl (nb (s_Model_canGo_01 ..)) ⟨rfl, by dsimp only, rfl⟩
  · refine Go.aload_0 d_Model_moved_14 rfl ?_
    refine Go.aload_1 d_Model_moved_15 rfl ?_
    refine Go.iload_2 d_Model_moved_16 rfl ?_
    refine Go.iload_3 d_Model_moved_17 rfl ?_
    refine Go.cv3v d_Model_moved_18 rfl l_Model_365 k_Model_move_v (md_at_m (by omega) hB hS hC hD hE) rfl (c_Model_move (x2 := x2) rfl (by omega) (by omega) hB hS hC hD hE) rfl rfl rfl ?_
    refine Go.iload_4 d_Model_moved_21 rfl ?_
    rw [if_neg c11_1]
    exact Go.iret d_Model_moved_23 rfl (nb (s_Model_canGo_01 ..)) ⟨rfl, by dsimp only, rfl⟩
set_option maxRecDepth 100000 in
set_option maxHeartbeats 800000 in
theorem sx_dy_Model_moved {M : MO} {H : SH} {Y : SX} {x2 : Nat} {x3 : Int32} : sx_dy (s_Model_moved M H Y x2 x3).2 = sx_dy Y := by
  unfold s_Model_moved
  (repeat' split) <;> (try simp only [sx_dy, sx_dy_Model_fall, sx_dy_l_Model_move_42, sx_dy_Model_move, sx_dy_Model_look, sx_dy_Model_filled, sx_dy_Model_drilled])
set_option maxRecDepth 100000 in
set_option maxHeartbeats 800000 in
theorem s_Model_moved_01 (M : MO) (H : SH) (Y : SX) (x2 : Nat) (x3 : Int32) : (s_Model_moved M H Y x2 x3).1 = 0 ∨ (s_Model_moved M H Y x2 x3).1 = 1 := by
  unfold s_Model_moved
  (repeat' split) <;> exact s_Model_canGo_01 ..
theorem d_Model_probed_0 : decode M_Model_probed.2.1 0 = .ok (.aload_n 0, 1) := by decide +kernel
theorem d_Model_probed_1 : decode M_Model_probed.2.1 1 = .ok (.aload_n 1, 1) := by decide +kernel
theorem d_Model_probed_2 : decode M_Model_probed.2.1 2 = .ok (.iload_n 2, 1) := by decide +kernel
theorem d_Model_probed_3 : decode M_Model_probed.2.1 3 = .ok (.iload_n 3, 1) := by decide +kernel
theorem d_Model_probed_4 : decode M_Model_probed.2.1 4 = .ok (.invokevirtual 369, 3) := by decide +kernel
theorem d_Model_probed_7 : decode M_Model_probed.2.1 7 = .ok (.istore 4, 2) := by decide +kernel
theorem d_Model_probed_9 : decode M_Model_probed.2.1 9 = .ok (.iload 4, 2) := by decide +kernel
theorem d_Model_probed_11 : decode M_Model_probed.2.1 11 = .ok (.ifCond .eq 10, 3) := by decide +kernel
theorem d_Model_probed_14 : decode M_Model_probed.2.1 14 = .ok (.aload_n 0, 1) := by decide +kernel
theorem d_Model_probed_15 : decode M_Model_probed.2.1 15 = .ok (.aload_n 1, 1) := by decide +kernel
theorem d_Model_probed_16 : decode M_Model_probed.2.1 16 = .ok (.iload_n 2, 1) := by decide +kernel
theorem d_Model_probed_17 : decode M_Model_probed.2.1 17 = .ok (.iload_n 3, 1) := by decide +kernel
theorem d_Model_probed_18 : decode M_Model_probed.2.1 18 = .ok (.invokevirtual 372, 3) := by decide +kernel
theorem d_Model_probed_21 : decode M_Model_probed.2.1 21 = .ok (.iload 4, 2) := by decide +kernel
theorem d_Model_probed_23 : decode M_Model_probed.2.1 23 = .ok (.ireturn, 1) := by decide +kernel
def s_Model_probed (M : MO) (H : SH) (Y : SX) (x2 : Nat) (x3 : Nat) : Int32 × SX := (if (s_Model_canProbe M H Y x2 x3) = 0 then ((s_Model_canProbe M H Y x2 x3), Y) else ((s_Model_canProbe M H Y x2 x3), (s_Model_look M H Y x2 x3)))
set_option maxRecDepth 100000 in
set_option maxHeartbeats 800000 in
theorem c_Model_probed {Γ : G9} {h : AH} {m q r sa sb ro z : Nat} {M : MO} {H : SH} {Y : SX} {x2 : Nat} {vx2 : Int32} {x3 : Nat} {vx3 : Int32} (ex2 : vx2 = nI x2) (bx2 : x2 < 4) (ex3 : vx3 = nI x3) (bx3 : x3 < 4) (geo : m + 2 ≤ q ∧ m + 2 ≤ r ∧ (q + 24 ≤ r ∨ r + 21 ≤ q)) (hB : sh_ha H 0 ≤ 5) (hS : sh_ha H 3 ≤ 6) (hC : sh_ha H 6 ≤ 4) (hD : sh_ha H 9 ≤ 4) (hE : sh_ha H 11 ≤ 4) : CallR Γ M_Model_probed 2 [.ref m, .ref r, .int vx2, .int vx3] (md_ Γ h m q r sa sb ro M H Y) z (some (.int (s_Model_probed M H Y x2 x3).1)) (md_ Γ h m q r sa sb ro M H (s_Model_probed M H Y x2 x3).2) := by
  subst ex2
  subst ex3
  refine Call.of_go (L := [some (.ref m), some (.ref r), some (.int (nI x2)), some (.int (nI x3)), none]) (by decide +kernel) rfl (by exact Nat.le_of_ble_eq_true rfl) ?_
  unfold s_Model_probed
  refine Go.aload_0 d_Model_probed_0 rfl ?_
  refine Go.aload_1 d_Model_probed_1 rfl ?_
  refine Go.iload_2 d_Model_probed_2 rfl ?_
  refine Go.iload_3 d_Model_probed_3 rfl ?_
  refine Go.cv3r d_Model_probed_4 rfl l_Model_369 k_Model_canProbe_v (md_at_m (by omega) hB hS hC hD hE) rfl (c_Model_canProbe (x2 := x2) (x3 := x3) rfl (by omega) rfl (by omega) (by omega) hB hS hC hD hE) rfl rfl rfl ?_
  refine Go.istore_4 d_Model_probed_7 rfl (by rfl) ?_
  refine Go.iload_4 d_Model_probed_9 rfl ?_
  refine Go.if_eq (t := 21) d_Model_probed_11 (by decide) rfl (fun c11_1 => ?_) (fun c11_1 => ?_)
  · refine Go.iload_4 d_Model_probed_21 rfl ?_
    rw [if_pos c11_1]
    exact Go.iret d_Model_probed_23 rfl (nb (s_Model_canProbe_01 ..)) ⟨rfl, by dsimp only, rfl⟩
  · refine Go.aload_0 d_Model_probed_14 rfl ?_
    refine Go.aload_1 d_Model_probed_15 rfl ?_
    refine Go.iload_2 d_Model_probed_16 rfl ?_
    refine Go.iload_3 d_Model_probed_17 rfl ?_
    refine Go.cv3v d_Model_probed_18 rfl l_Model_372 k_Model_look_v (md_at_m (by omega) hB hS hC hD hE) rfl (c_Model_look (x2 := x2) (x3 := x3) rfl (by omega) rfl (by omega) (by omega) hB hS hC hD hE) rfl rfl rfl ?_
    refine Go.iload_4 d_Model_probed_21 rfl ?_
    rw [if_neg c11_1]
    exact Go.iret d_Model_probed_23 rfl (nb (s_Model_canProbe_01 ..)) ⟨rfl, by dsimp only, rfl⟩
set_option maxRecDepth 100000 in
set_option maxHeartbeats 800000 in
theorem sx_dy_Model_probed {M : MO} {H : SH} {Y : SX} {x2 : Nat} {x3 : Nat} : sx_dy (s_Model_probed M H Y x2 x3).2 = sx_dy Y := by
  unfold s_Model_probed
  (repeat' split) <;> (try simp only [sx_dy, sx_dy_Model_fall, sx_dy_l_Model_move_42, sx_dy_Model_move, sx_dy_Model_look, sx_dy_Model_filled, sx_dy_Model_drilled, sx_dy_Model_moved])
set_option maxRecDepth 100000 in
set_option maxHeartbeats 800000 in
theorem s_Model_probed_01 (M : MO) (H : SH) (Y : SX) (x2 : Nat) (x3 : Nat) : (s_Model_probed M H Y x2 x3).1 = 0 ∨ (s_Model_probed M H Y x2 x3).1 = 1 := by
  unfold s_Model_probed
  (repeat' split) <;> exact s_Model_canProbe_01 M H Y x2 x3
theorem md_at_q_10 {Γ : G9} {h : AH} {m q r sa sb ro : Nat} {M : MO} {H : SH} {Y : SX} (geo : m + 2 ≤ q ∧ m + 2 ≤ r ∧ (q + 24 ≤ r ∨ r + 21 ≤ q)) (hB : sh_ha H 0 ≤ 5) (hS : sh_ha H 3 ≤ 6) (hC : sh_ha H 6 ≤ 4) (hD : sh_ha H 9 ≤ 4) (hE : sh_ha H 11 ≤ 4) : (md_ Γ h m q r sa sb ro M H Y) (q + 10) = some (aI Γ 6 (sh_dp H)) := by
  unfold md_
  exact ((blk_out (by omega)).trans (sh_g10))
theorem d_Model_melt_1_46 : decode M_Model_melt_1.2.1 46 = .ok (.iload 6, 2) := by decide +kernel
theorem d_Model_melt_1_48 : decode M_Model_melt_1.2.1 48 = .ok (.aload_n 0, 1) := by decide +kernel
theorem d_Model_melt_1_49 : decode M_Model_melt_1.2.1 49 = .ok (.getfield 20, 3) := by decide +kernel
theorem d_Model_melt_1_52 : decode M_Model_melt_1.2.1 52 = .ok (.getfield 40, 3) := by decide +kernel
theorem d_Model_melt_1_55 : decode M_Model_melt_1.2.1 55 = .ok (.iconst 3, 1) := by decide +kernel
theorem d_Model_melt_1_56 : decode M_Model_melt_1.2.1 56 = .ok (.iaload, 1) := by decide +kernel
theorem d_Model_melt_1_57 : decode M_Model_melt_1.2.1 57 = .ok (.if_icmp .ge 76, 3) := by decide +kernel
theorem d_Model_melt_1_60 : decode M_Model_melt_1.2.1 60 = .ok (.aload_n 0, 1) := by decide +kernel
theorem d_Model_melt_1_61 : decode M_Model_melt_1.2.1 61 = .ok (.getfield 20, 3) := by decide +kernel
theorem d_Model_melt_1_64 : decode M_Model_melt_1.2.1 64 = .ok (.getfield 178, 3) := by decide +kernel
theorem d_Model_melt_1_67 : decode M_Model_melt_1.2.1 67 = .ok (.iload 6, 2) := by decide +kernel
theorem d_Model_melt_1_69 : decode M_Model_melt_1.2.1 69 = .ok (.iaload, 1) := by decide +kernel
theorem d_Model_melt_1_70 : decode M_Model_melt_1.2.1 70 = .ok (.iload_n 2, 1) := by decide +kernel
theorem d_Model_melt_1_71 : decode M_Model_melt_1.2.1 71 = .ok (.if_icmp .ne 56, 3) := by decide +kernel
theorem d_Model_melt_1_74 : decode M_Model_melt_1.2.1 74 = .ok (.aload_n 1, 1) := by decide +kernel
theorem d_Model_melt_1_75 : decode M_Model_melt_1.2.1 75 = .ok (.getfield 277, 3) := by decide +kernel
theorem d_Model_melt_1_78 : decode M_Model_melt_1.2.1 78 = .ok (.iload 6, 2) := by decide +kernel
theorem d_Model_melt_1_80 : decode M_Model_melt_1.2.1 80 = .ok (.iaload, 1) := by decide +kernel
theorem d_Model_melt_1_81 : decode M_Model_melt_1.2.1 81 = .ok (.ifCond .ne 6, 3) := by decide +kernel
theorem d_Model_melt_1_84 : decode M_Model_melt_1.2.1 84 = .ok (.goto 43, 3) := by decide +kernel
theorem d_Model_melt_1_87 : decode M_Model_melt_1.2.1 87 = .ok (.aload_n 1, 1) := by decide +kernel
theorem d_Model_melt_1_88 : decode M_Model_melt_1.2.1 88 = .ok (.getfield 304, 3) := by decide +kernel
theorem d_Model_melt_1_91 : decode M_Model_melt_1.2.1 91 = .ok (.iload 6, 2) := by decide +kernel
theorem d_Model_melt_1_93 : decode M_Model_melt_1.2.1 93 = .ok (.dup2, 1) := by decide +kernel
theorem d_Model_melt_1_94 : decode M_Model_melt_1.2.1 94 = .ok (.iaload, 1) := by decide +kernel
theorem d_Model_melt_1_95 : decode M_Model_melt_1.2.1 95 = .ok (.iload 4, 2) := by decide +kernel
theorem d_Model_melt_1_97 : decode M_Model_melt_1.2.1 97 = .ok (.iadd, 1) := by decide +kernel
theorem d_Model_melt_1_98 : decode M_Model_melt_1.2.1 98 = .ok (.iastore, 1) := by decide +kernel
theorem d_Model_melt_1_99 : decode M_Model_melt_1.2.1 99 = .ok (.aload_n 1, 1) := by decide +kernel
theorem d_Model_melt_1_100 : decode M_Model_melt_1.2.1 100 = .ok (.getfield 304, 3) := by decide +kernel
theorem d_Model_melt_1_103 : decode M_Model_melt_1.2.1 103 = .ok (.iload 6, 2) := by decide +kernel
theorem d_Model_melt_1_105 : decode M_Model_melt_1.2.1 105 = .ok (.iaload, 1) := by decide +kernel
theorem d_Model_melt_1_106 : decode M_Model_melt_1.2.1 106 = .ok (.aload_n 0, 1) := by decide +kernel
theorem d_Model_melt_1_107 : decode M_Model_melt_1.2.1 107 = .ok (.getfield 20, 3) := by decide +kernel
theorem d_Model_melt_1_110 : decode M_Model_melt_1.2.1 110 = .ok (.getfield 210, 3) := by decide +kernel
theorem d_Model_melt_1_113 : decode M_Model_melt_1.2.1 113 = .ok (.iload 6, 2) := by decide +kernel
theorem d_Model_melt_1_115 : decode M_Model_melt_1.2.1 115 = .ok (.iaload, 1) := by decide +kernel
theorem d_Model_melt_1_116 : decode M_Model_melt_1.2.1 116 = .ok (.if_icmp .lt 11, 3) := by decide +kernel
theorem d_Model_melt_1_119 : decode M_Model_melt_1.2.1 119 = .ok (.aload_n 1, 1) := by decide +kernel
theorem d_Model_melt_1_120 : decode M_Model_melt_1.2.1 120 = .ok (.getfield 277, 3) := by decide +kernel
theorem d_Model_melt_1_123 : decode M_Model_melt_1.2.1 123 = .ok (.iload 6, 2) := by decide +kernel
theorem d_Model_melt_1_125 : decode M_Model_melt_1.2.1 125 = .ok (.iconst 0, 1) := by decide +kernel
theorem d_Model_melt_1_126 : decode M_Model_melt_1.2.1 126 = .ok (.iastore, 1) := by decide +kernel
theorem d_Model_melt_1_127 : decode M_Model_melt_1.2.1 127 = .ok (.iinc 6 1, 3) := by decide +kernel
theorem d_Model_melt_1_130 : decode M_Model_melt_1.2.1 130 = .ok (.goto (-84), 3) := by decide +kernel
def l_Model_melt_1_st (M : MO) (H : SH) (x2 : Nat) (x3 : Int32) (ml : Int32) : Nat → Nat → SX → SX
  | 0, _, Y => Y
  | k + 1, i, Y => (if ((sh_si H) i) = (nI x2) then (if ((sx_sd Y) i) = 0 then (l_Model_melt_1_st M H x2 x3 ml k (i + 1) Y) else (if ((upd (sx_ou Y) i (((sx_ou Y) i) + ml)) i) < ((sh_dp H) i) then (l_Model_melt_1_st M H x2 x3 ml k (i + 1) (sx_ou' Y (upd (sx_ou Y) i (((sx_ou Y) i) + ml)))) else (l_Model_melt_1_st M H x2 x3 ml k (i + 1) (sx_sd' (sx_ou' Y (upd (sx_ou Y) i (((sx_ou Y) i) + ml))) (upd (sx_sd Y) i 0))))) else (l_Model_melt_1_st M H x2 x3 ml k (i + 1) Y))
set_option maxRecDepth 100000 in
set_option maxHeartbeats 800000 in
theorem l_Model_melt_1_st_go {Γ : G9} {h : AH} {m q r sa sb ro z : Nat} {n : Nat} {Q : QT} {X : XT} {M : MO} {H : SH} {x2 : Nat} {x3 : Int32} {ml : Int32} (bx2 : x2 < 5) (geo : m + 2 ≤ q ∧ m + 2 ≤ r ∧ (q + 24 ≤ r ∨ r + 21 ≤ q)) (hB : sh_ha H 0 ≤ 5) (hS : sh_ha H 3 ≤ 6) (hC : sh_ha H 6 ≤ 4) (hD : sh_ha H 9 ≤ 4) (hE : sh_ha H 11 ≤ 4) (hn20 : n ≤ 20) : ∀ (k i : Nat) (Y : SX), i + k = n → sh_ha H 3 = n → Go Γ M_Model_melt_1 1 0 0 133 [some (.ref m), some (.ref r), some (.int (nI x2)), some (.int x3), some (.int ml), none, some (.int (nI (i + k)))] [] (md_ Γ h m q r sa sb ro M H (l_Model_melt_1_st M H x2 x3 ml k i Y)) z Q X → Go Γ M_Model_melt_1 1 0 0 46 [some (.ref m), some (.ref r), some (.int (nI x2)), some (.int x3), some (.int ml), none, some (.int (nI i))] [] (md_ Γ h m q r sa sb ro M H Y) z Q X := by
  intro k
  induction k with
  | zero =>
    intro i Y hi hn hk
    refine Go.iload_6 d_Model_melt_1_46 rfl ?_
    refine Go.aload_0 d_Model_melt_1_48 rfl ?_
    refine Go.getfield d_Model_melt_1_49 rfl f_Model_20 (md_at_m (by omega) hB hS hC hD hE) (by rfl) ?_
    refine Go.getfield d_Model_melt_1_52 rfl f_Model_40 (md_at_q (by omega) hB hS hC hD hE) (by rfl) ?_
    refine Go.iconst (v := 3) d_Model_melt_1_55 rfl (by decide) ?_
    refine Go.iaload d_Model_melt_1_56 rfl (md_at_q_5 (by omega) hB hS hC hD hE) (show vp_in (nI 3) 12 from by first | exact vp_in_nI (by omega) (by omega) | exact vp_nle (by assumption) (by omega) (by omega)) ?_
    rw [show (3 : Int32).toNatClampNeg = 3 from by decide]
    refine Go.icmp_ge (t := 133) d_Model_melt_1_57 (by decide) rfl (fun c57_1 => ?_) (fun c57_1 => ?_)
    · exact hk
    · exact absurd (nI_le (by omega) (by omega)) c57_1
  | succ k ih =>
    intro i Y hi hn hk
    unfold l_Model_melt_1_st at hk
    rw [show i + (k + 1) = i + 1 + k by omega] at hk
    refine Go.iload_6 d_Model_melt_1_46 rfl ?_
    refine Go.aload_0 d_Model_melt_1_48 rfl ?_
    refine Go.getfield d_Model_melt_1_49 rfl f_Model_20 (md_at_m (by omega) hB hS hC hD hE) (by rfl) ?_
    refine Go.getfield d_Model_melt_1_52 rfl f_Model_40 (md_at_q (by omega) hB hS hC hD hE) (by rfl) ?_
    refine Go.iconst (v := 3) d_Model_melt_1_55 rfl (by decide) ?_
    refine Go.iaload d_Model_melt_1_56 rfl (md_at_q_5 (by omega) hB hS hC hD hE) (show vp_in (nI 3) 12 from by first | exact vp_in_nI (by omega) (by omega) | exact vp_nle (by assumption) (by omega) (by omega)) ?_
    rw [show (3 : Int32).toNatClampNeg = 3 from by decide]
    refine Go.icmp_ge (t := 133) d_Model_melt_1_57 (by decide) rfl (fun c57_1 => ?_) (fun c57_1 => ?_)
    · exact absurd c57_1 (nI_ge (by omega) (by omega))
    · refine Go.aload_0 d_Model_melt_1_60 rfl ?_
      refine Go.getfield d_Model_melt_1_61 rfl f_Model_20 (md_at_m (by omega) hB hS hC hD hE) (by rfl) ?_
      refine Go.getfield d_Model_melt_1_64 rfl f_Model_178 (md_at_q (by omega) hB hS hC hD hE) (by rfl) ?_
      refine Go.iload_6 d_Model_melt_1_67 rfl ?_
      refine Go.iaload d_Model_melt_1_69 rfl (md_at_q_9 (by omega) hB hS hC hD hE) (show vp_in (nI i) 6 from by first | exact vp_in_nI (by omega) (by omega) | exact vp_nle (by assumption) (by omega) (by omega)) ?_
      rw [nI_clamp (show i < 2 ^ 31 by omega)]
      refine Go.iload_2 d_Model_melt_1_70 rfl ?_
      refine Go.icmp_ne (t := 127) d_Model_melt_1_71 (by decide) rfl (fun c71_2 => ?_) (fun c71_2 => ?_)
      · refine Go.iinc_6 d_Model_melt_1_127 rfl (by rfl) (nI_inc _) ?_
        refine Go.goto (t := 46) d_Model_melt_1_130 (by decide) ?_
        rw [if_neg c71_2] at hk
        exact ih (i + 1) _ (by omega) (by first | exact hn | (simp only []; exact hn)) hk
      · refine Go.aload_1 d_Model_melt_1_74 rfl ?_
        refine Go.getfield d_Model_melt_1_75 rfl f_Model_277 (md_at_r (by omega) hB hS hC hD hE) (by rfl) ?_
        refine Go.iload_6 d_Model_melt_1_78 rfl ?_
        refine Go.iaload d_Model_melt_1_80 rfl (md_at_r_5 (by omega) hB hS hC hD hE) (show vp_in (nI i) 6 from by first | exact vp_in_nI (by omega) (by omega) | exact vp_nle (by assumption) (by omega) (by omega)) ?_
        rw [nI_clamp (show i < 2 ^ 31 by omega)]
        refine Go.if_ne (t := 87) d_Model_melt_1_81 (by decide) rfl (fun c81_3 => ?_) (fun c81_3 => ?_)
        · refine Go.aload_1 d_Model_melt_1_87 rfl ?_
          refine Go.getfield d_Model_melt_1_88 rfl f_Model_304 (md_at_r (by omega) hB hS hC hD hE) (by rfl) ?_
          refine Go.iload_6 d_Model_melt_1_91 rfl ?_
          refine Go.dup2 d_Model_melt_1_93 rfl rfl rfl ?_
          refine Go.iaload d_Model_melt_1_94 rfl (md_at_r_4 (by omega) hB hS hC hD hE) (show vp_in (nI i) 6 from by first | exact vp_in_nI (by omega) (by omega) | exact vp_nle (by assumption) (by omega) (by omega)) ?_
          rw [nI_clamp (show i < 2 ^ 31 by omega)]
          refine Go.iload_4 d_Model_melt_1_95 rfl ?_
          refine Go.iadd d_Model_melt_1_97 rfl ?_
          refine Go.iastore d_Model_melt_1_98 rfl (md_at_r_4 (by omega) hB hS hC hD hE) (show vp_in (nI i) 6 from by first | exact vp_in_nI (by omega) (by omega) | exact vp_nle (by assumption) (by omega) (by omega)) ?_
          rw [nI_clamp (show i < 2 ^ 31 by omega)]
          refine Go.heq (md_arr_r_4 (by omega) hB hS hC hD hE) ?_
          refine Go.aload_1 d_Model_melt_1_99 rfl ?_
          refine Go.getfield d_Model_melt_1_100 rfl f_Model_304 (md_at_r (by omega) hB hS hC hD hE) (by rfl) ?_
          refine Go.iload_6 d_Model_melt_1_103 rfl ?_
          refine Go.iaload d_Model_melt_1_105 rfl (md_at_r_4 (by omega) hB hS hC hD hE) (show vp_in (nI i) 6 from by first | exact vp_in_nI (by omega) (by omega) | exact vp_nle (by assumption) (by omega) (by omega)) ?_
          rw [nI_clamp (show i < 2 ^ 31 by omega)]
          refine Go.aload_0 d_Model_melt_1_106 rfl ?_
          refine Go.getfield d_Model_melt_1_107 rfl f_Model_20 (md_at_m (by omega) hB hS hC hD hE) (by rfl) ?_
          refine Go.getfield d_Model_melt_1_110 rfl f_Model_210 (md_at_q (by omega) hB hS hC hD hE) (by rfl) ?_
          refine Go.iload_6 d_Model_melt_1_113 rfl ?_
          refine Go.iaload d_Model_melt_1_115 rfl (md_at_q_10 (by omega) hB hS hC hD hE) (show vp_in (nI i) 6 from by first | exact vp_in_nI (by omega) (by omega) | exact vp_nle (by assumption) (by omega) (by omega)) ?_
          rw [nI_clamp (show i < 2 ^ 31 by omega)]
          refine Go.icmp_lt (t := 127) d_Model_melt_1_116 (by decide) rfl (fun c116_4 => ?_) (fun c116_4 => ?_)
          · refine Go.iinc_6 d_Model_melt_1_127 rfl (by rfl) (nI_inc _) ?_
            refine Go.goto (t := 46) d_Model_melt_1_130 (by decide) ?_
            rw [if_pos c71_2, if_neg c81_3, if_pos c116_4] at hk
            exact ih (i + 1) _ (by omega) (by first | exact hn | (simp only []; exact hn)) hk
          · refine Go.aload_1 d_Model_melt_1_119 rfl ?_
            refine Go.getfield d_Model_melt_1_120 rfl f_Model_277 (md_at_r (by omega) hB hS hC hD hE) (by rfl) ?_
            refine Go.iload_6 d_Model_melt_1_123 rfl ?_
            refine Go.iconst (v := 0) d_Model_melt_1_125 rfl (by decide) ?_
            refine Go.iastore d_Model_melt_1_126 rfl (md_at_r_5 (by omega) hB hS hC hD hE) (show vp_in (nI i) 6 from by first | exact vp_in_nI (by omega) (by omega) | exact vp_nle (by assumption) (by omega) (by omega)) ?_
            rw [nI_clamp (show i < 2 ^ 31 by omega)]
            refine Go.heq (md_arr_r_5 (by omega) hB hS hC hD hE) ?_
            refine Go.iinc_6 d_Model_melt_1_127 rfl (by rfl) (nI_inc _) ?_
            refine Go.goto (t := 46) d_Model_melt_1_130 (by decide) ?_
            rw [if_pos c71_2, if_neg c81_3, if_neg c116_4] at hk
            exact ih (i + 1) _ (by omega) (by first | exact hn | (simp only []; exact hn)) hk
        · refine Go.goto (t := 127) d_Model_melt_1_84 (by decide) ?_
          refine Go.iinc_6 d_Model_melt_1_127 rfl (by rfl) (nI_inc _) ?_
          refine Go.goto (t := 46) d_Model_melt_1_130 (by decide) ?_
          rw [if_pos c71_2, if_pos c81_3] at hk
          exact ih (i + 1) _ (by omega) (by first | exact hn | (simp only []; exact hn)) hk
set_option maxRecDepth 100000 in
set_option maxHeartbeats 800000 in
theorem sx_dy_l_Model_melt_1_st {M : MO} {H : SH} {x2 : Nat} {x3 : Int32} {ml : Int32} : ∀ (k i : Nat) (Y : SX), sx_dy (l_Model_melt_1_st M H x2 x3 ml k i Y) = sx_dy Y := by
  intro k
  induction k with
  | zero => intros; rfl
  | succ k ih =>
    intros
    unfold l_Model_melt_1_st
    (repeat' split) <;> (try simp only [ih, sx_dy, sx_dy_Model_fall, sx_dy_l_Model_move_42, sx_dy_Model_move, sx_dy_Model_look, sx_dy_Model_filled, sx_dy_Model_drilled, sx_dy_Model_moved, sx_dy_Model_probed])
theorem d_Model_melt_1_136 : decode M_Model_melt_1.2.1 136 = .ok (.iload 6, 2) := by decide +kernel
theorem d_Model_melt_1_138 : decode M_Model_melt_1.2.1 138 = .ok (.aload_n 0, 1) := by decide +kernel
theorem d_Model_melt_1_139 : decode M_Model_melt_1.2.1 139 = .ok (.getfield 20, 3) := by decide +kernel
theorem d_Model_melt_1_142 : decode M_Model_melt_1.2.1 142 = .ok (.getfield 40, 3) := by decide +kernel
theorem d_Model_melt_1_145 : decode M_Model_melt_1.2.1 145 = .ok (.bipush 6, 2) := by decide +kernel
theorem d_Model_melt_1_147 : decode M_Model_melt_1.2.1 147 = .ok (.iaload, 1) := by decide +kernel
theorem d_Model_melt_1_148 : decode M_Model_melt_1.2.1 148 = .ok (.if_icmp .ge 43, 3) := by decide +kernel
theorem d_Model_melt_1_151 : decode M_Model_melt_1.2.1 151 = .ok (.aload_n 0, 1) := by decide +kernel
theorem d_Model_melt_1_152 : decode M_Model_melt_1.2.1 152 = .ok (.getfield 20, 3) := by decide +kernel
theorem d_Model_melt_1_155 : decode M_Model_melt_1.2.1 155 = .ok (.getfield 187, 3) := by decide +kernel
theorem d_Model_melt_1_158 : decode M_Model_melt_1.2.1 158 = .ok (.iload 6, 2) := by decide +kernel
theorem d_Model_melt_1_160 : decode M_Model_melt_1.2.1 160 = .ok (.iaload, 1) := by decide +kernel
theorem d_Model_melt_1_161 : decode M_Model_melt_1.2.1 161 = .ok (.iload_n 2, 1) := by decide +kernel
theorem d_Model_melt_1_162 : decode M_Model_melt_1.2.1 162 = .ok (.if_icmp .ne 23, 3) := by decide +kernel
theorem d_Model_melt_1_165 : decode M_Model_melt_1.2.1 165 = .ok (.aload_n 1, 1) := by decide +kernel
theorem d_Model_melt_1_166 : decode M_Model_melt_1.2.1 166 = .ok (.getfield 307, 3) := by decide +kernel
theorem d_Model_melt_1_169 : decode M_Model_melt_1.2.1 169 = .ok (.iload 6, 2) := by decide +kernel
theorem d_Model_melt_1_171 : decode M_Model_melt_1.2.1 171 = .ok (.iconst 0, 1) := by decide +kernel
theorem d_Model_melt_1_172 : decode M_Model_melt_1.2.1 172 = .ok (.aload_n 1, 1) := by decide +kernel
theorem d_Model_melt_1_173 : decode M_Model_melt_1.2.1 173 = .ok (.getfield 307, 3) := by decide +kernel
theorem d_Model_melt_1_176 : decode M_Model_melt_1.2.1 176 = .ok (.iload 6, 2) := by decide +kernel
theorem d_Model_melt_1_178 : decode M_Model_melt_1.2.1 178 = .ok (.iaload, 1) := by decide +kernel
theorem d_Model_melt_1_179 : decode M_Model_melt_1.2.1 179 = .ok (.iload_n 3, 1) := by decide +kernel
theorem d_Model_melt_1_180 : decode M_Model_melt_1.2.1 180 = .ok (.isub, 1) := by decide +kernel
theorem d_Model_melt_1_181 : decode M_Model_melt_1.2.1 181 = .ok (.invokestatic 318, 3) := by decide +kernel
theorem d_Model_melt_1_184 : decode M_Model_melt_1.2.1 184 = .ok (.iastore, 1) := by decide +kernel
theorem d_Model_melt_1_185 : decode M_Model_melt_1.2.1 185 = .ok (.iinc 6 1, 3) := by decide +kernel
theorem d_Model_melt_1_188 : decode M_Model_melt_1.2.1 188 = .ok (.goto (-52), 3) := by decide +kernel
def l_Model_melt_1_br (M : MO) (H : SH) (x2 : Nat) (x3 : Int32) : Nat → Nat → SX → SX
  | 0, _, Y => Y
  | k + 1, i, Y => (if ((sh_ab H) i) = (nI x2) then (l_Model_melt_1_br M H x2 x3 k (i + 1) (sx_br' Y (upd (sx_br Y) i (iMax 0 (((sx_br Y) i) - x3))))) else (l_Model_melt_1_br M H x2 x3 k (i + 1) Y))
set_option maxRecDepth 100000 in
set_option maxHeartbeats 800000 in
theorem l_Model_melt_1_br_go {Γ : G9} {h : AH} {m q r sa sb ro z : Nat} {n : Nat} {Q : QT} {X : XT} {M : MO} {H : SH} {x2 : Nat} {x3 : Int32} (bx2 : x2 < 5) (geo : m + 2 ≤ q ∧ m + 2 ≤ r ∧ (q + 24 ≤ r ∨ r + 21 ≤ q)) (hB : sh_ha H 0 ≤ 5) (hS : sh_ha H 3 ≤ 6) (hC : sh_ha H 6 ≤ 4) (hD : sh_ha H 9 ≤ 4) (hE : sh_ha H 11 ≤ 4) (hn20 : n ≤ 20) : ∀ (k i : Nat) (Y : SX), i + k = n → sh_ha H 6 = n → Go Γ M_Model_melt_1 1 0 0 191 [some (.ref m), some (.ref r), some (.int (nI x2)), some (.int x3), none, none, some (.int (nI (i + k)))] [] (md_ Γ h m q r sa sb ro M H (l_Model_melt_1_br M H x2 x3 k i Y)) z Q X → Go Γ M_Model_melt_1 1 0 0 136 [some (.ref m), some (.ref r), some (.int (nI x2)), some (.int x3), none, none, some (.int (nI i))] [] (md_ Γ h m q r sa sb ro M H Y) z Q X := by
  intro k
  induction k with
  | zero =>
    intro i Y hi hn hk
    refine Go.iload_6 d_Model_melt_1_136 rfl ?_
    refine Go.aload_0 d_Model_melt_1_138 rfl ?_
    refine Go.getfield d_Model_melt_1_139 rfl f_Model_20 (md_at_m (by omega) hB hS hC hD hE) (by rfl) ?_
    refine Go.getfield d_Model_melt_1_142 rfl f_Model_40 (md_at_q (by omega) hB hS hC hD hE) (by rfl) ?_
    refine Go.bipush (v := 6) d_Model_melt_1_145 rfl (by decide) ?_
    refine Go.iaload d_Model_melt_1_147 rfl (md_at_q_5 (by omega) hB hS hC hD hE) (show vp_in (nI 6) 12 from by first | exact vp_in_nI (by omega) (by omega) | exact vp_nle (by assumption) (by omega) (by omega)) ?_
    rw [show (6 : Int32).toNatClampNeg = 6 from by decide]
    refine Go.icmp_ge (t := 191) d_Model_melt_1_148 (by decide) rfl (fun c148_1 => ?_) (fun c148_1 => ?_)
    · exact hk
    · exact absurd (nI_le (by omega) (by omega)) c148_1
  | succ k ih =>
    intro i Y hi hn hk
    unfold l_Model_melt_1_br at hk
    rw [show i + (k + 1) = i + 1 + k by omega] at hk
    refine Go.iload_6 d_Model_melt_1_136 rfl ?_
    refine Go.aload_0 d_Model_melt_1_138 rfl ?_
    refine Go.getfield d_Model_melt_1_139 rfl f_Model_20 (md_at_m (by omega) hB hS hC hD hE) (by rfl) ?_
    refine Go.getfield d_Model_melt_1_142 rfl f_Model_40 (md_at_q (by omega) hB hS hC hD hE) (by rfl) ?_
    refine Go.bipush (v := 6) d_Model_melt_1_145 rfl (by decide) ?_
    refine Go.iaload d_Model_melt_1_147 rfl (md_at_q_5 (by omega) hB hS hC hD hE) (show vp_in (nI 6) 12 from by first | exact vp_in_nI (by omega) (by omega) | exact vp_nle (by assumption) (by omega) (by omega)) ?_
    rw [show (6 : Int32).toNatClampNeg = 6 from by decide]
    refine Go.icmp_ge (t := 191) d_Model_melt_1_148 (by decide) rfl (fun c148_1 => ?_) (fun c148_1 => ?_)
    · exact absurd c148_1 (nI_ge (by omega) (by omega))
    · refine Go.aload_0 d_Model_melt_1_151 rfl ?_
      refine Go.getfield d_Model_melt_1_152 rfl f_Model_20 (md_at_m (by omega) hB hS hC hD hE) (by rfl) ?_
      refine Go.getfield d_Model_melt_1_155 rfl f_Model_187 (md_at_q (by omega) hB hS hC hD hE) (by rfl) ?_
      refine Go.iload_6 d_Model_melt_1_158 rfl ?_
      refine Go.iaload d_Model_melt_1_160 rfl (md_at_q_11 (by omega) hB hS hC hD hE) (show vp_in (nI i) 4 from by first | exact vp_in_nI (by omega) (by omega) | exact vp_nle (by assumption) (by omega) (by omega)) ?_
      rw [nI_clamp (show i < 2 ^ 31 by omega)]
      refine Go.iload_2 d_Model_melt_1_161 rfl ?_
      refine Go.icmp_ne (t := 185) d_Model_melt_1_162 (by decide) rfl (fun c162_2 => ?_) (fun c162_2 => ?_)
      · refine Go.iinc_6 d_Model_melt_1_185 rfl (by rfl) (nI_inc _) ?_
        refine Go.goto (t := 136) d_Model_melt_1_188 (by decide) ?_
        rw [if_neg c162_2] at hk
        exact ih (i + 1) _ (by omega) (by first | exact hn | (simp only []; exact hn)) hk
      · refine Go.aload_1 d_Model_melt_1_165 rfl ?_
        refine Go.getfield d_Model_melt_1_166 rfl f_Model_307 (md_at_r (by omega) hB hS hC hD hE) (by rfl) ?_
        refine Go.iload_6 d_Model_melt_1_169 rfl ?_
        refine Go.iconst (v := 0) d_Model_melt_1_171 rfl (by decide) ?_
        refine Go.aload_1 d_Model_melt_1_172 rfl ?_
        refine Go.getfield d_Model_melt_1_173 rfl f_Model_307 (md_at_r (by omega) hB hS hC hD hE) (by rfl) ?_
        refine Go.iload_6 d_Model_melt_1_176 rfl ?_
        refine Go.iaload d_Model_melt_1_178 rfl (md_at_r_8 (by omega) hB hS hC hD hE) (show vp_in (nI i) 4 from by first | exact vp_in_nI (by omega) (by omega) | exact vp_nle (by assumption) (by omega) (by omega)) ?_
        rw [nI_clamp (show i < 2 ^ 31 by omega)]
        refine Go.iload_3 d_Model_melt_1_179 rfl ?_
        refine Go.isub d_Model_melt_1_180 rfl ?_
        refine Go.imax d_Model_melt_1_181 rfl l_Model_318 (by decide) rfl ?_
        refine Go.iastore d_Model_melt_1_184 rfl (md_at_r_8 (by omega) hB hS hC hD hE) (show vp_in (nI i) 4 from by first | exact vp_in_nI (by omega) (by omega) | exact vp_nle (by assumption) (by omega) (by omega)) ?_
        rw [nI_clamp (show i < 2 ^ 31 by omega)]
        refine Go.heq (md_arr_r_8 (by omega) hB hS hC hD hE) ?_
        refine Go.iinc_6 d_Model_melt_1_185 rfl (by rfl) (nI_inc _) ?_
        refine Go.goto (t := 136) d_Model_melt_1_188 (by decide) ?_
        rw [if_pos c162_2] at hk
        exact ih (i + 1) _ (by omega) (by first | exact hn | (simp only []; exact hn)) hk
set_option maxRecDepth 100000 in
set_option maxHeartbeats 800000 in
theorem sx_dy_l_Model_melt_1_br {M : MO} {H : SH} {x2 : Nat} {x3 : Int32} : ∀ (k i : Nat) (Y : SX), sx_dy (l_Model_melt_1_br M H x2 x3 k i Y) = sx_dy Y := by
  intro k
  induction k with
  | zero => intros; rfl
  | succ k ih =>
    intros
    unfold l_Model_melt_1_br
    (repeat' split) <;> (try simp only [ih, sx_dy, sx_dy_Model_fall, sx_dy_l_Model_move_42, sx_dy_Model_move, sx_dy_Model_look, sx_dy_Model_filled, sx_dy_Model_drilled, sx_dy_Model_moved, sx_dy_Model_probed, sx_dy_l_Model_melt_1_st])
theorem md_at_r_2 {Γ : G9} {h : AH} {m q r sa sb ro : Nat} {M : MO} {H : SH} {Y : SX} (geo : m + 2 ≤ q ∧ m + 2 ≤ r ∧ (q + 24 ≤ r ∨ r + 21 ≤ q)) (hB : sh_ha H 0 ≤ 5) (hS : sh_ha H 3 ≤ 6) (hC : sh_ha H 6 ≤ 4) (hD : sh_ha H 9 ≤ 4) (hE : sh_ha H 11 ≤ 4) : (md_ Γ h m q r sa sb ro M H Y) (r + 2) = some (aI Γ 5 (sx_sn Y)) := by
  unfold md_
  exact (sx_g2)
theorem md_arr_r_2 {Γ : G9} {h : AH} {m q r sa sb ro : Nat} {M : MO} {H : SH} {Y : SX} {v : Nat → Int32} (geo : m + 2 ≤ q ∧ m + 2 ≤ r ∧ (q + 24 ≤ r ∨ r + 21 ≤ q)) (hB : sh_ha H 0 ≤ 5) (hS : sh_ha H 3 ≤ 6) (hC : sh_ha H 6 ≤ 4) (hD : sh_ha H 9 ≤ 4) (hE : sh_ha H 11 ≤ 4) : hup (md_ Γ h m q r sa sb ro M H Y) (r + 2) (aI Γ 5 v) = (md_ Γ h m q r sa sb ro M H (sx_sn' Y v)) := by
  unfold md_
  exact (sx_a_sn (v := v))
theorem md_at_r_3 {Γ : G9} {h : AH} {m q r sa sb ro : Nat} {M : MO} {H : SH} {Y : SX} (geo : m + 2 ≤ q ∧ m + 2 ≤ r ∧ (q + 24 ≤ r ∨ r + 21 ≤ q)) (hB : sh_ha H 0 ≤ 5) (hS : sh_ha H 3 ≤ 6) (hC : sh_ha H 6 ≤ 4) (hD : sh_ha H 9 ≤ 4) (hE : sh_ha H 11 ≤ 4) : (md_ Γ h m q r sa sb ro M H Y) (r + 3) = some (aI Γ 5 (sx_ic Y)) := by
  unfold md_
  exact (sx_g3)
theorem md_arr_r_3 {Γ : G9} {h : AH} {m q r sa sb ro : Nat} {M : MO} {H : SH} {Y : SX} {v : Nat → Int32} (geo : m + 2 ≤ q ∧ m + 2 ≤ r ∧ (q + 24 ≤ r ∨ r + 21 ≤ q)) (hB : sh_ha H 0 ≤ 5) (hS : sh_ha H 3 ≤ 6) (hC : sh_ha H 6 ≤ 4) (hD : sh_ha H 9 ≤ 4) (hE : sh_ha H 11 ≤ 4) : hup (md_ Γ h m q r sa sb ro M H Y) (r + 3) (aI Γ 5 v) = (md_ Γ h m q r sa sb ro M H (sx_ic' Y v)) := by
  unfold md_
  exact (sx_a_ic (v := v))
theorem d_Model_melt_1_0 : decode M_Model_melt_1.2.1 0 = .ok (.iconst 3, 1) := by decide +kernel
theorem d_Model_melt_1_1 : decode M_Model_melt_1.2.1 1 = .ok (.iload_n 3, 1) := by decide +kernel
theorem d_Model_melt_1_2 : decode M_Model_melt_1.2.1 2 = .ok (.imul, 1) := by decide +kernel
theorem d_Model_melt_1_3 : decode M_Model_melt_1.2.1 3 = .ok (.istore 4, 2) := by decide +kernel
theorem d_Model_melt_1_5 : decode M_Model_melt_1.2.1 5 = .ok (.iload 4, 2) := by decide +kernel
theorem d_Model_melt_1_7 : decode M_Model_melt_1.2.1 7 = .ok (.aload_n 1, 1) := by decide +kernel
theorem d_Model_melt_1_8 : decode M_Model_melt_1.2.1 8 = .ok (.getfield 303, 3) := by decide +kernel
theorem d_Model_melt_1_11 : decode M_Model_melt_1.2.1 11 = .ok (.iload_n 2, 1) := by decide +kernel
theorem d_Model_melt_1_12 : decode M_Model_melt_1.2.1 12 = .ok (.iaload, 1) := by decide +kernel
theorem d_Model_melt_1_13 : decode M_Model_melt_1.2.1 13 = .ok (.invokestatic 313, 3) := by decide +kernel
theorem d_Model_melt_1_16 : decode M_Model_melt_1.2.1 16 = .ok (.istore 5, 2) := by decide +kernel
theorem d_Model_melt_1_18 : decode M_Model_melt_1.2.1 18 = .ok (.aload_n 1, 1) := by decide +kernel
theorem d_Model_melt_1_19 : decode M_Model_melt_1.2.1 19 = .ok (.getfield 303, 3) := by decide +kernel
theorem d_Model_melt_1_22 : decode M_Model_melt_1.2.1 22 = .ok (.iload_n 2, 1) := by decide +kernel
theorem d_Model_melt_1_23 : decode M_Model_melt_1.2.1 23 = .ok (.dup2, 1) := by decide +kernel
theorem d_Model_melt_1_24 : decode M_Model_melt_1.2.1 24 = .ok (.iaload, 1) := by decide +kernel
theorem d_Model_melt_1_25 : decode M_Model_melt_1.2.1 25 = .ok (.iload 5, 2) := by decide +kernel
theorem d_Model_melt_1_27 : decode M_Model_melt_1.2.1 27 = .ok (.isub, 1) := by decide +kernel
theorem d_Model_melt_1_28 : decode M_Model_melt_1.2.1 28 = .ok (.iastore, 1) := by decide +kernel
theorem d_Model_melt_1_29 : decode M_Model_melt_1.2.1 29 = .ok (.aload_n 1, 1) := by decide +kernel
theorem d_Model_melt_1_30 : decode M_Model_melt_1.2.1 30 = .ok (.getfield 388, 3) := by decide +kernel
theorem d_Model_melt_1_33 : decode M_Model_melt_1.2.1 33 = .ok (.iload_n 2, 1) := by decide +kernel
theorem d_Model_melt_1_34 : decode M_Model_melt_1.2.1 34 = .ok (.dup2, 1) := by decide +kernel
theorem d_Model_melt_1_35 : decode M_Model_melt_1.2.1 35 = .ok (.iaload, 1) := by decide +kernel
theorem d_Model_melt_1_36 : decode M_Model_melt_1.2.1 36 = .ok (.iload 4, 2) := by decide +kernel
theorem d_Model_melt_1_38 : decode M_Model_melt_1.2.1 38 = .ok (.iload 5, 2) := by decide +kernel
theorem d_Model_melt_1_40 : decode M_Model_melt_1.2.1 40 = .ok (.isub, 1) := by decide +kernel
theorem d_Model_melt_1_41 : decode M_Model_melt_1.2.1 41 = .ok (.iadd, 1) := by decide +kernel
theorem d_Model_melt_1_42 : decode M_Model_melt_1.2.1 42 = .ok (.iastore, 1) := by decide +kernel
theorem d_Model_melt_1_43 : decode M_Model_melt_1.2.1 43 = .ok (.iconst 0, 1) := by decide +kernel
theorem d_Model_melt_1_44 : decode M_Model_melt_1.2.1 44 = .ok (.istore 6, 2) := by decide +kernel
theorem d_Model_melt_1_133 : decode M_Model_melt_1.2.1 133 = .ok (.iconst 0, 1) := by decide +kernel
theorem d_Model_melt_1_134 : decode M_Model_melt_1.2.1 134 = .ok (.istore 6, 2) := by decide +kernel
theorem d_Model_melt_1_191 : decode M_Model_melt_1.2.1 191 = .ok (.return_, 1) := by decide +kernel
def s_Model_melt_1 (M : MO) (H : SH) (Y : SX) (x2 : Nat) (x3 : Int32) : SX := (l_Model_melt_1_br M H x2 x3 (sh_ha H 6) 0 (l_Model_melt_1_st M H x2 x3 (3 * x3) (sh_ha H 3) 0 (sx_ic' (sx_sn' Y (upd (sx_sn Y) x2 (((sx_sn Y) x2) - (iMin (3 * x3) ((sx_sn Y) x2))))) (upd (sx_ic Y) x2 (((sx_ic Y) x2) + ((3 * x3) - (iMin (3 * x3) ((sx_sn Y) x2))))))))
set_option maxRecDepth 100000 in
set_option maxHeartbeats 800000 in
theorem c_Model_melt_1 {Γ : G9} {h : AH} {m q r sa sb ro z : Nat} {M : MO} {H : SH} {Y : SX} {x2 : Nat} {vx2 : Int32} {x3 : Int32} (ex2 : vx2 = nI x2) (bx2 : x2 < 5) (geo : m + 2 ≤ q ∧ m + 2 ≤ r ∧ (q + 24 ≤ r ∨ r + 21 ≤ q)) (hB : sh_ha H 0 ≤ 5) (hS : sh_ha H 3 ≤ 6) (hC : sh_ha H 6 ≤ 4) (hD : sh_ha H 9 ≤ 4) (hE : sh_ha H 11 ≤ 4) : CallR Γ M_Model_melt_1 1 [.ref m, .ref r, .int vx2, .int x3] (md_ Γ h m q r sa sb ro M H Y) z none (md_ Γ h m q r sa sb ro M H (s_Model_melt_1 M H Y x2 x3)) := by
  subst ex2
  refine Call.of_go (L := [some (.ref m), some (.ref r), some (.int (nI x2)), some (.int x3), none, none, none]) (by decide +kernel) rfl (by exact Nat.le_of_ble_eq_true rfl) ?_
  unfold s_Model_melt_1
  refine Go.iconst (v := 3) d_Model_melt_1_0 rfl (by decide) ?_
  refine Go.iload_3 d_Model_melt_1_1 rfl ?_
  refine Go.imul d_Model_melt_1_2 rfl ?_
  refine Go.istore_4 d_Model_melt_1_3 rfl (by rfl) ?_
  refine Go.iload_4 d_Model_melt_1_5 rfl ?_
  refine Go.aload_1 d_Model_melt_1_7 rfl ?_
  refine Go.getfield d_Model_melt_1_8 rfl f_Model_303 (md_at_r (by omega) hB hS hC hD hE) (by rfl) ?_
  refine Go.iload_2 d_Model_melt_1_11 rfl ?_
  refine Go.iaload d_Model_melt_1_12 rfl (md_at_r_2 (by omega) hB hS hC hD hE) (show vp_in (nI x2) 5 from by first | exact vp_in_nI (by omega) (by omega) | exact vp_nle (by assumption) (by omega) (by omega)) ?_
  rw [nI_clamp (show x2 < 2 ^ 31 by omega)]
  refine Go.imin d_Model_melt_1_13 rfl l_Model_313 (by decide) rfl ?_
  refine Go.istore_5 d_Model_melt_1_16 rfl (by rfl) ?_
  refine Go.aload_1 d_Model_melt_1_18 rfl ?_
  refine Go.getfield d_Model_melt_1_19 rfl f_Model_303 (md_at_r (by omega) hB hS hC hD hE) (by rfl) ?_
  refine Go.iload_2 d_Model_melt_1_22 rfl ?_
  refine Go.dup2 d_Model_melt_1_23 rfl rfl rfl ?_
  refine Go.iaload d_Model_melt_1_24 rfl (md_at_r_2 (by omega) hB hS hC hD hE) (show vp_in (nI x2) 5 from by first | exact vp_in_nI (by omega) (by omega) | exact vp_nle (by assumption) (by omega) (by omega)) ?_
  rw [nI_clamp (show x2 < 2 ^ 31 by omega)]
  refine Go.iload_5 d_Model_melt_1_25 rfl ?_
  refine Go.isub d_Model_melt_1_27 rfl ?_
  refine Go.iastore d_Model_melt_1_28 rfl (md_at_r_2 (by omega) hB hS hC hD hE) (show vp_in (nI x2) 5 from by first | exact vp_in_nI (by omega) (by omega) | exact vp_nle (by assumption) (by omega) (by omega)) ?_
  rw [nI_clamp (show x2 < 2 ^ 31 by omega)]
  refine Go.heq (md_arr_r_2 (by omega) hB hS hC hD hE) ?_
  refine Go.aload_1 d_Model_melt_1_29 rfl ?_
  refine Go.getfield d_Model_melt_1_30 rfl f_Model_388 (md_at_r (by omega) hB hS hC hD hE) (by rfl) ?_
  refine Go.iload_2 d_Model_melt_1_33 rfl ?_
  refine Go.dup2 d_Model_melt_1_34 rfl rfl rfl ?_
  refine Go.iaload d_Model_melt_1_35 rfl (md_at_r_3 (by omega) hB hS hC hD hE) (show vp_in (nI x2) 5 from by first | exact vp_in_nI (by omega) (by omega) | exact vp_nle (by assumption) (by omega) (by omega)) ?_
  rw [nI_clamp (show x2 < 2 ^ 31 by omega)]
  refine Go.iload_4 d_Model_melt_1_36 rfl ?_
  refine Go.iload_5 d_Model_melt_1_38 rfl ?_
  refine Go.isub d_Model_melt_1_40 rfl ?_
  refine Go.iadd d_Model_melt_1_41 rfl ?_
  refine Go.iastore d_Model_melt_1_42 rfl (md_at_r_3 (by omega) hB hS hC hD hE) (show vp_in (nI x2) 5 from by first | exact vp_in_nI (by omega) (by omega) | exact vp_nle (by assumption) (by omega) (by omega)) ?_
  rw [nI_clamp (show x2 < 2 ^ 31 by omega)]
  refine Go.heq (md_arr_r_3 (by omega) hB hS hC hD hE) ?_
  refine Go.iconst (v := 0) d_Model_melt_1_43 rfl (by decide) ?_
  refine Go.istore_6 d_Model_melt_1_44 rfl (by rfl) ?_
  refine Go.fgt [some (.ref m), some (.ref r), some (.int (nI x2)), some (.int x3), some (.int (3 * x3)), none, some (.int 0)] (by repeat' (first | exact trivial | refine ⟨rfl, ?_⟩)) ?_
  refine l_Model_melt_1_st_go (n := (sh_ha H 3)) bx2 geo hB hS hC hD hE (by omega) (sh_ha H 3) 0 (sx_ic' (sx_sn' Y (upd (sx_sn Y) x2 (((sx_sn Y) x2) - (iMin (3 * x3) ((sx_sn Y) x2))))) (upd (sx_ic Y) x2 (((sx_ic Y) x2) + ((3 * x3) - (iMin (3 * x3) ((sx_sn Y) x2)))))) (by omega) rfl ?_
  refine Go.iconst (v := 0) d_Model_melt_1_133 rfl (by decide) ?_
  refine Go.istore_6 d_Model_melt_1_134 rfl (by rfl) ?_
  refine Go.fgt [some (.ref m), some (.ref r), some (.int (nI x2)), some (.int x3), none, none, some (.int 0)] (by repeat' (first | exact trivial | refine ⟨rfl, ?_⟩)) ?_
  refine l_Model_melt_1_br_go (n := (sh_ha H 6)) bx2 geo hB hS hC hD hE (by omega) (sh_ha H 6) 0 (l_Model_melt_1_st M H x2 x3 (3 * x3) (sh_ha H 3) 0 (sx_ic' (sx_sn' Y (upd (sx_sn Y) x2 (((sx_sn Y) x2) - (iMin (3 * x3) ((sx_sn Y) x2))))) (upd (sx_ic Y) x2 (((sx_ic Y) x2) + ((3 * x3) - (iMin (3 * x3) ((sx_sn Y) x2))))))) (by omega) rfl ?_
  exact Go.vret d_Model_melt_1_191 rfl ⟨rfl, by dsimp only, rfl⟩
set_option maxRecDepth 100000 in
set_option maxHeartbeats 800000 in
theorem sx_dy_Model_melt_1 {M : MO} {H : SH} {Y : SX} {x2 : Nat} {x3 : Int32} : sx_dy (s_Model_melt_1 M H Y x2 x3) = sx_dy Y := by
  unfold s_Model_melt_1
  (repeat' split) <;> (try simp only [sx_dy, sx_dy_Model_fall, sx_dy_l_Model_move_42, sx_dy_Model_move, sx_dy_Model_look, sx_dy_Model_filled, sx_dy_Model_drilled, sx_dy_Model_moved, sx_dy_Model_probed, sx_dy_l_Model_melt_1_st, sx_dy_l_Model_melt_1_br])
theorem d_Model_snow_30 : decode M_Model_snow.2.1 30 = .ok (.iload 5, 2) := by decide +kernel
theorem d_Model_snow_32 : decode M_Model_snow.2.1 32 = .ok (.aload_n 0, 1) := by decide +kernel
theorem d_Model_snow_33 : decode M_Model_snow.2.1 33 = .ok (.getfield 20, 3) := by decide +kernel
theorem d_Model_snow_36 : decode M_Model_snow.2.1 36 = .ok (.getfield 40, 3) := by decide +kernel
theorem d_Model_snow_39 : decode M_Model_snow.2.1 39 = .ok (.iconst 3, 1) := by decide +kernel
theorem d_Model_snow_40 : decode M_Model_snow.2.1 40 = .ok (.iaload, 1) := by decide +kernel
theorem d_Model_snow_41 : decode M_Model_snow.2.1 41 = .ok (.if_icmp .ge 55, 3) := by decide +kernel
theorem d_Model_snow_44 : decode M_Model_snow.2.1 44 = .ok (.aload_n 0, 1) := by decide +kernel
theorem d_Model_snow_45 : decode M_Model_snow.2.1 45 = .ok (.getfield 20, 3) := by decide +kernel
theorem d_Model_snow_48 : decode M_Model_snow.2.1 48 = .ok (.getfield 178, 3) := by decide +kernel
theorem d_Model_snow_51 : decode M_Model_snow.2.1 51 = .ok (.iload 5, 2) := by decide +kernel
theorem d_Model_snow_53 : decode M_Model_snow.2.1 53 = .ok (.iaload, 1) := by decide +kernel
theorem d_Model_snow_54 : decode M_Model_snow.2.1 54 = .ok (.iload_n 2, 1) := by decide +kernel
theorem d_Model_snow_55 : decode M_Model_snow.2.1 55 = .ok (.if_icmp .ne 35, 3) := by decide +kernel
theorem d_Model_snow_58 : decode M_Model_snow.2.1 58 = .ok (.aload_n 1, 1) := by decide +kernel
theorem d_Model_snow_59 : decode M_Model_snow.2.1 59 = .ok (.getfield 277, 3) := by decide +kernel
theorem d_Model_snow_62 : decode M_Model_snow.2.1 62 = .ok (.iload 5, 2) := by decide +kernel
theorem d_Model_snow_64 : decode M_Model_snow.2.1 64 = .ok (.iaload, 1) := by decide +kernel
theorem d_Model_snow_65 : decode M_Model_snow.2.1 65 = .ok (.iconst 1, 1) := by decide +kernel
theorem d_Model_snow_66 : decode M_Model_snow.2.1 66 = .ok (.if_icmp .ne 24, 3) := by decide +kernel
theorem d_Model_snow_69 : decode M_Model_snow.2.1 69 = .ok (.aload_n 1, 1) := by decide +kernel
theorem d_Model_snow_70 : decode M_Model_snow.2.1 70 = .ok (.getfield 304, 3) := by decide +kernel
theorem d_Model_snow_73 : decode M_Model_snow.2.1 73 = .ok (.iload 5, 2) := by decide +kernel
theorem d_Model_snow_75 : decode M_Model_snow.2.1 75 = .ok (.iconst 0, 1) := by decide +kernel
theorem d_Model_snow_76 : decode M_Model_snow.2.1 76 = .ok (.aload_n 1, 1) := by decide +kernel
theorem d_Model_snow_77 : decode M_Model_snow.2.1 77 = .ok (.getfield 304, 3) := by decide +kernel
theorem d_Model_snow_80 : decode M_Model_snow.2.1 80 = .ok (.iload 5, 2) := by decide +kernel
theorem d_Model_snow_82 : decode M_Model_snow.2.1 82 = .ok (.iaload, 1) := by decide +kernel
theorem d_Model_snow_83 : decode M_Model_snow.2.1 83 = .ok (.iload 4, 2) := by decide +kernel
theorem d_Model_snow_85 : decode M_Model_snow.2.1 85 = .ok (.isub, 1) := by decide +kernel
theorem d_Model_snow_86 : decode M_Model_snow.2.1 86 = .ok (.invokestatic 318, 3) := by decide +kernel
theorem d_Model_snow_89 : decode M_Model_snow.2.1 89 = .ok (.iastore, 1) := by decide +kernel
theorem d_Model_snow_90 : decode M_Model_snow.2.1 90 = .ok (.iinc 5 1, 3) := by decide +kernel
theorem d_Model_snow_93 : decode M_Model_snow.2.1 93 = .ok (.goto (-63), 3) := by decide +kernel
def l_Model_snow_st (M : MO) (H : SH) (x2 : Nat) (x3 : Int32) (sn : Int32) : Nat → Nat → SX → SX
  | 0, _, Y => Y
  | k + 1, i, Y => (if ((sh_si H) i) = (nI x2) then (if ((sx_sd Y) i) = 1 then (l_Model_snow_st M H x2 x3 sn k (i + 1) (sx_ou' Y (upd (sx_ou Y) i (iMax 0 (((sx_ou Y) i) - sn))))) else (l_Model_snow_st M H x2 x3 sn k (i + 1) Y)) else (l_Model_snow_st M H x2 x3 sn k (i + 1) Y))
set_option maxRecDepth 100000 in
set_option maxHeartbeats 800000 in
theorem l_Model_snow_st_go {Γ : G9} {h : AH} {m q r sa sb ro z : Nat} {n : Nat} {Q : QT} {X : XT} {M : MO} {H : SH} {x2 : Nat} {x3 : Int32} {sn : Int32} (bx2 : x2 < 5) (geo : m + 2 ≤ q ∧ m + 2 ≤ r ∧ (q + 24 ≤ r ∨ r + 21 ≤ q)) (hB : sh_ha H 0 ≤ 5) (hS : sh_ha H 3 ≤ 6) (hC : sh_ha H 6 ≤ 4) (hD : sh_ha H 9 ≤ 4) (hE : sh_ha H 11 ≤ 4) (hn20 : n ≤ 20) : ∀ (k i : Nat) (Y : SX), i + k = n → sh_ha H 3 = n → Go Γ M_Model_snow 1 0 0 96 [some (.ref m), some (.ref r), some (.int (nI x2)), some (.int x3), some (.int sn), some (.int (nI (i + k)))] [] (md_ Γ h m q r sa sb ro M H (l_Model_snow_st M H x2 x3 sn k i Y)) z Q X → Go Γ M_Model_snow 1 0 0 30 [some (.ref m), some (.ref r), some (.int (nI x2)), some (.int x3), some (.int sn), some (.int (nI i))] [] (md_ Γ h m q r sa sb ro M H Y) z Q X := by
  intro k
  induction k with
  | zero =>
    intro i Y hi hn hk
    refine Go.iload_5 d_Model_snow_30 rfl ?_
    refine Go.aload_0 d_Model_snow_32 rfl ?_
    refine Go.getfield d_Model_snow_33 rfl f_Model_20 (md_at_m (by omega) hB hS hC hD hE) (by rfl) ?_
    refine Go.getfield d_Model_snow_36 rfl f_Model_40 (md_at_q (by omega) hB hS hC hD hE) (by rfl) ?_
    refine Go.iconst (v := 3) d_Model_snow_39 rfl (by decide) ?_
    refine Go.iaload d_Model_snow_40 rfl (md_at_q_5 (by omega) hB hS hC hD hE) (show vp_in (nI 3) 12 from by first | exact vp_in_nI (by omega) (by omega) | exact vp_nle (by assumption) (by omega) (by omega)) ?_
    rw [show (3 : Int32).toNatClampNeg = 3 from by decide]
    refine Go.icmp_ge (t := 96) d_Model_snow_41 (by decide) rfl (fun c41_1 => ?_) (fun c41_1 => ?_)
    · exact hk
    · exact absurd (nI_le (by omega) (by omega)) c41_1
  | succ k ih =>
    intro i Y hi hn hk
    unfold l_Model_snow_st at hk
    rw [show i + (k + 1) = i + 1 + k by omega] at hk
    refine Go.iload_5 d_Model_snow_30 rfl ?_
    refine Go.aload_0 d_Model_snow_32 rfl ?_
    refine Go.getfield d_Model_snow_33 rfl f_Model_20 (md_at_m (by omega) hB hS hC hD hE) (by rfl) ?_
    refine Go.getfield d_Model_snow_36 rfl f_Model_40 (md_at_q (by omega) hB hS hC hD hE) (by rfl) ?_
    refine Go.iconst (v := 3) d_Model_snow_39 rfl (by decide) ?_
    refine Go.iaload d_Model_snow_40 rfl (md_at_q_5 (by omega) hB hS hC hD hE) (show vp_in (nI 3) 12 from by first | exact vp_in_nI (by omega) (by omega) | exact vp_nle (by assumption) (by omega) (by omega)) ?_
    rw [show (3 : Int32).toNatClampNeg = 3 from by decide]
    refine Go.icmp_ge (t := 96) d_Model_snow_41 (by decide) rfl (fun c41_1 => ?_) (fun c41_1 => ?_)
    · exact absurd c41_1 (nI_ge (by omega) (by omega))
    · refine Go.aload_0 d_Model_snow_44 rfl ?_
      refine Go.getfield d_Model_snow_45 rfl f_Model_20 (md_at_m (by omega) hB hS hC hD hE) (by rfl) ?_
      refine Go.getfield d_Model_snow_48 rfl f_Model_178 (md_at_q (by omega) hB hS hC hD hE) (by rfl) ?_
      refine Go.iload_5 d_Model_snow_51 rfl ?_
      refine Go.iaload d_Model_snow_53 rfl (md_at_q_9 (by omega) hB hS hC hD hE) (show vp_in (nI i) 6 from by first | exact vp_in_nI (by omega) (by omega) | exact vp_nle (by assumption) (by omega) (by omega)) ?_
      rw [nI_clamp (show i < 2 ^ 31 by omega)]
      refine Go.iload_2 d_Model_snow_54 rfl ?_
      refine Go.icmp_ne (t := 90) d_Model_snow_55 (by decide) rfl (fun c55_2 => ?_) (fun c55_2 => ?_)
      · refine Go.iinc_5 d_Model_snow_90 rfl (by rfl) (nI_inc _) ?_
        refine Go.goto (t := 30) d_Model_snow_93 (by decide) ?_
        rw [if_neg c55_2] at hk
        exact ih (i + 1) _ (by omega) (by first | exact hn | (simp only []; exact hn)) hk
      · refine Go.aload_1 d_Model_snow_58 rfl ?_
        refine Go.getfield d_Model_snow_59 rfl f_Model_277 (md_at_r (by omega) hB hS hC hD hE) (by rfl) ?_
        refine Go.iload_5 d_Model_snow_62 rfl ?_
        refine Go.iaload d_Model_snow_64 rfl (md_at_r_5 (by omega) hB hS hC hD hE) (show vp_in (nI i) 6 from by first | exact vp_in_nI (by omega) (by omega) | exact vp_nle (by assumption) (by omega) (by omega)) ?_
        rw [nI_clamp (show i < 2 ^ 31 by omega)]
        refine Go.iconst (v := 1) d_Model_snow_65 rfl (by decide) ?_
        refine Go.icmp_ne (t := 90) d_Model_snow_66 (by decide) rfl (fun c66_3 => ?_) (fun c66_3 => ?_)
        · refine Go.iinc_5 d_Model_snow_90 rfl (by rfl) (nI_inc _) ?_
          refine Go.goto (t := 30) d_Model_snow_93 (by decide) ?_
          rw [if_pos c55_2, if_neg c66_3] at hk
          exact ih (i + 1) _ (by omega) (by first | exact hn | (simp only []; exact hn)) hk
        · refine Go.aload_1 d_Model_snow_69 rfl ?_
          refine Go.getfield d_Model_snow_70 rfl f_Model_304 (md_at_r (by omega) hB hS hC hD hE) (by rfl) ?_
          refine Go.iload_5 d_Model_snow_73 rfl ?_
          refine Go.iconst (v := 0) d_Model_snow_75 rfl (by decide) ?_
          refine Go.aload_1 d_Model_snow_76 rfl ?_
          refine Go.getfield d_Model_snow_77 rfl f_Model_304 (md_at_r (by omega) hB hS hC hD hE) (by rfl) ?_
          refine Go.iload_5 d_Model_snow_80 rfl ?_
          refine Go.iaload d_Model_snow_82 rfl (md_at_r_4 (by omega) hB hS hC hD hE) (show vp_in (nI i) 6 from by first | exact vp_in_nI (by omega) (by omega) | exact vp_nle (by assumption) (by omega) (by omega)) ?_
          rw [nI_clamp (show i < 2 ^ 31 by omega)]
          refine Go.iload_4 d_Model_snow_83 rfl ?_
          refine Go.isub d_Model_snow_85 rfl ?_
          refine Go.imax d_Model_snow_86 rfl l_Model_318 (by decide) rfl ?_
          refine Go.iastore d_Model_snow_89 rfl (md_at_r_4 (by omega) hB hS hC hD hE) (show vp_in (nI i) 6 from by first | exact vp_in_nI (by omega) (by omega) | exact vp_nle (by assumption) (by omega) (by omega)) ?_
          rw [nI_clamp (show i < 2 ^ 31 by omega)]
          refine Go.heq (md_arr_r_4 (by omega) hB hS hC hD hE) ?_
          refine Go.iinc_5 d_Model_snow_90 rfl (by rfl) (nI_inc _) ?_
          refine Go.goto (t := 30) d_Model_snow_93 (by decide) ?_
          rw [if_pos c55_2, if_pos c66_3] at hk
          exact ih (i + 1) _ (by omega) (by first | exact hn | (simp only []; exact hn)) hk
set_option maxRecDepth 100000 in
set_option maxHeartbeats 800000 in
theorem sx_dy_l_Model_snow_st {M : MO} {H : SH} {x2 : Nat} {x3 : Int32} {sn : Int32} : ∀ (k i : Nat) (Y : SX), sx_dy (l_Model_snow_st M H x2 x3 sn k i Y) = sx_dy Y := by
  intro k
  induction k with
  | zero => intros; rfl
  | succ k ih =>
    intros
    unfold l_Model_snow_st
    (repeat' split) <;> (try simp only [ih, sx_dy, sx_dy_Model_fall, sx_dy_l_Model_move_42, sx_dy_Model_move, sx_dy_Model_look, sx_dy_Model_filled, sx_dy_Model_drilled, sx_dy_Model_moved, sx_dy_Model_probed, sx_dy_l_Model_melt_1_st, sx_dy_l_Model_melt_1_br, sx_dy_Model_melt_1])
theorem d_Model_snow_99 : decode M_Model_snow.2.1 99 = .ok (.iload 5, 2) := by decide +kernel
theorem d_Model_snow_101 : decode M_Model_snow.2.1 101 = .ok (.aload_n 0, 1) := by decide +kernel
theorem d_Model_snow_102 : decode M_Model_snow.2.1 102 = .ok (.getfield 20, 3) := by decide +kernel
theorem d_Model_snow_105 : decode M_Model_snow.2.1 105 = .ok (.getfield 40, 3) := by decide +kernel
theorem d_Model_snow_108 : decode M_Model_snow.2.1 108 = .ok (.bipush 6, 2) := by decide +kernel
theorem d_Model_snow_110 : decode M_Model_snow.2.1 110 = .ok (.iaload, 1) := by decide +kernel
theorem d_Model_snow_111 : decode M_Model_snow.2.1 111 = .ok (.if_icmp .ge 45, 3) := by decide +kernel
theorem d_Model_snow_114 : decode M_Model_snow.2.1 114 = .ok (.aload_n 0, 1) := by decide +kernel
theorem d_Model_snow_115 : decode M_Model_snow.2.1 115 = .ok (.getfield 20, 3) := by decide +kernel
theorem d_Model_snow_118 : decode M_Model_snow.2.1 118 = .ok (.getfield 187, 3) := by decide +kernel
theorem d_Model_snow_121 : decode M_Model_snow.2.1 121 = .ok (.iload 5, 2) := by decide +kernel
theorem d_Model_snow_123 : decode M_Model_snow.2.1 123 = .ok (.iaload, 1) := by decide +kernel
theorem d_Model_snow_124 : decode M_Model_snow.2.1 124 = .ok (.iload_n 2, 1) := by decide +kernel
theorem d_Model_snow_125 : decode M_Model_snow.2.1 125 = .ok (.if_icmp .ne 25, 3) := by decide +kernel
theorem d_Model_snow_128 : decode M_Model_snow.2.1 128 = .ok (.aload_n 1, 1) := by decide +kernel
theorem d_Model_snow_129 : decode M_Model_snow.2.1 129 = .ok (.getfield 307, 3) := by decide +kernel
theorem d_Model_snow_132 : decode M_Model_snow.2.1 132 = .ok (.iload 5, 2) := by decide +kernel
theorem d_Model_snow_134 : decode M_Model_snow.2.1 134 = .ok (.bipush 99, 2) := by decide +kernel
theorem d_Model_snow_136 : decode M_Model_snow.2.1 136 = .ok (.aload_n 1, 1) := by decide +kernel
theorem d_Model_snow_137 : decode M_Model_snow.2.1 137 = .ok (.getfield 307, 3) := by decide +kernel
theorem d_Model_snow_140 : decode M_Model_snow.2.1 140 = .ok (.iload 5, 2) := by decide +kernel
theorem d_Model_snow_142 : decode M_Model_snow.2.1 142 = .ok (.iaload, 1) := by decide +kernel
theorem d_Model_snow_143 : decode M_Model_snow.2.1 143 = .ok (.iload 4, 2) := by decide +kernel
theorem d_Model_snow_145 : decode M_Model_snow.2.1 145 = .ok (.iadd, 1) := by decide +kernel
theorem d_Model_snow_146 : decode M_Model_snow.2.1 146 = .ok (.invokestatic 313, 3) := by decide +kernel
theorem d_Model_snow_149 : decode M_Model_snow.2.1 149 = .ok (.iastore, 1) := by decide +kernel
theorem d_Model_snow_150 : decode M_Model_snow.2.1 150 = .ok (.iinc 5 1, 3) := by decide +kernel
theorem d_Model_snow_153 : decode M_Model_snow.2.1 153 = .ok (.goto (-54), 3) := by decide +kernel
def l_Model_snow_br (M : MO) (H : SH) (x2 : Nat) (x3 : Int32) (sn : Int32) : Nat → Nat → SX → SX
  | 0, _, Y => Y
  | k + 1, i, Y => (if ((sh_ab H) i) = (nI x2) then (l_Model_snow_br M H x2 x3 sn k (i + 1) (sx_br' Y (upd (sx_br Y) i (iMin 99 (((sx_br Y) i) + sn))))) else (l_Model_snow_br M H x2 x3 sn k (i + 1) Y))
set_option maxRecDepth 100000 in
set_option maxHeartbeats 800000 in
theorem l_Model_snow_br_go {Γ : G9} {h : AH} {m q r sa sb ro z : Nat} {n : Nat} {Q : QT} {X : XT} {M : MO} {H : SH} {x2 : Nat} {x3 : Int32} {sn : Int32} (bx2 : x2 < 5) (geo : m + 2 ≤ q ∧ m + 2 ≤ r ∧ (q + 24 ≤ r ∨ r + 21 ≤ q)) (hB : sh_ha H 0 ≤ 5) (hS : sh_ha H 3 ≤ 6) (hC : sh_ha H 6 ≤ 4) (hD : sh_ha H 9 ≤ 4) (hE : sh_ha H 11 ≤ 4) (hn20 : n ≤ 20) : ∀ (k i : Nat) (Y : SX), i + k = n → sh_ha H 6 = n → Go Γ M_Model_snow 1 0 0 156 [some (.ref m), some (.ref r), some (.int (nI x2)), some (.int x3), some (.int sn), some (.int (nI (i + k)))] [] (md_ Γ h m q r sa sb ro M H (l_Model_snow_br M H x2 x3 sn k i Y)) z Q X → Go Γ M_Model_snow 1 0 0 99 [some (.ref m), some (.ref r), some (.int (nI x2)), some (.int x3), some (.int sn), some (.int (nI i))] [] (md_ Γ h m q r sa sb ro M H Y) z Q X := by
  intro k
  induction k with
  | zero =>
    intro i Y hi hn hk
    refine Go.iload_5 d_Model_snow_99 rfl ?_
    refine Go.aload_0 d_Model_snow_101 rfl ?_
    refine Go.getfield d_Model_snow_102 rfl f_Model_20 (md_at_m (by omega) hB hS hC hD hE) (by rfl) ?_
    refine Go.getfield d_Model_snow_105 rfl f_Model_40 (md_at_q (by omega) hB hS hC hD hE) (by rfl) ?_
    refine Go.bipush (v := 6) d_Model_snow_108 rfl (by decide) ?_
    refine Go.iaload d_Model_snow_110 rfl (md_at_q_5 (by omega) hB hS hC hD hE) (show vp_in (nI 6) 12 from by first | exact vp_in_nI (by omega) (by omega) | exact vp_nle (by assumption) (by omega) (by omega)) ?_
    rw [show (6 : Int32).toNatClampNeg = 6 from by decide]
    refine Go.icmp_ge (t := 156) d_Model_snow_111 (by decide) rfl (fun c111_1 => ?_) (fun c111_1 => ?_)
    · exact hk
    · exact absurd (nI_le (by omega) (by omega)) c111_1
  | succ k ih =>
    intro i Y hi hn hk
    unfold l_Model_snow_br at hk
    rw [show i + (k + 1) = i + 1 + k by omega] at hk
    refine Go.iload_5 d_Model_snow_99 rfl ?_
    refine Go.aload_0 d_Model_snow_101 rfl ?_
    refine Go.getfield d_Model_snow_102 rfl f_Model_20 (md_at_m (by omega) hB hS hC hD hE) (by rfl) ?_
    refine Go.getfield d_Model_snow_105 rfl f_Model_40 (md_at_q (by omega) hB hS hC hD hE) (by rfl) ?_
    refine Go.bipush (v := 6) d_Model_snow_108 rfl (by decide) ?_
    refine Go.iaload d_Model_snow_110 rfl (md_at_q_5 (by omega) hB hS hC hD hE) (show vp_in (nI 6) 12 from by first | exact vp_in_nI (by omega) (by omega) | exact vp_nle (by assumption) (by omega) (by omega)) ?_
    rw [show (6 : Int32).toNatClampNeg = 6 from by decide]
    refine Go.icmp_ge (t := 156) d_Model_snow_111 (by decide) rfl (fun c111_1 => ?_) (fun c111_1 => ?_)
    · exact absurd c111_1 (nI_ge (by omega) (by omega))
    · refine Go.aload_0 d_Model_snow_114 rfl ?_
      refine Go.getfield d_Model_snow_115 rfl f_Model_20 (md_at_m (by omega) hB hS hC hD hE) (by rfl) ?_
      refine Go.getfield d_Model_snow_118 rfl f_Model_187 (md_at_q (by omega) hB hS hC hD hE) (by rfl) ?_
      refine Go.iload_5 d_Model_snow_121 rfl ?_
      refine Go.iaload d_Model_snow_123 rfl (md_at_q_11 (by omega) hB hS hC hD hE) (show vp_in (nI i) 4 from by first | exact vp_in_nI (by omega) (by omega) | exact vp_nle (by assumption) (by omega) (by omega)) ?_
      rw [nI_clamp (show i < 2 ^ 31 by omega)]
      refine Go.iload_2 d_Model_snow_124 rfl ?_
      refine Go.icmp_ne (t := 150) d_Model_snow_125 (by decide) rfl (fun c125_2 => ?_) (fun c125_2 => ?_)
      · refine Go.iinc_5 d_Model_snow_150 rfl (by rfl) (nI_inc _) ?_
        refine Go.goto (t := 99) d_Model_snow_153 (by decide) ?_
        rw [if_neg c125_2] at hk
        exact ih (i + 1) _ (by omega) (by first | exact hn | (simp only []; exact hn)) hk
      · refine Go.aload_1 d_Model_snow_128 rfl ?_
        refine Go.getfield d_Model_snow_129 rfl f_Model_307 (md_at_r (by omega) hB hS hC hD hE) (by rfl) ?_
        refine Go.iload_5 d_Model_snow_132 rfl ?_
        refine Go.bipush (v := 99) d_Model_snow_134 rfl (by decide) ?_
        refine Go.aload_1 d_Model_snow_136 rfl ?_
        refine Go.getfield d_Model_snow_137 rfl f_Model_307 (md_at_r (by omega) hB hS hC hD hE) (by rfl) ?_
        refine Go.iload_5 d_Model_snow_140 rfl ?_
        refine Go.iaload d_Model_snow_142 rfl (md_at_r_8 (by omega) hB hS hC hD hE) (show vp_in (nI i) 4 from by first | exact vp_in_nI (by omega) (by omega) | exact vp_nle (by assumption) (by omega) (by omega)) ?_
        rw [nI_clamp (show i < 2 ^ 31 by omega)]
        refine Go.iload_4 d_Model_snow_143 rfl ?_
        refine Go.iadd d_Model_snow_145 rfl ?_
        refine Go.imin d_Model_snow_146 rfl l_Model_313 (by decide) rfl ?_
        refine Go.iastore d_Model_snow_149 rfl (md_at_r_8 (by omega) hB hS hC hD hE) (show vp_in (nI i) 4 from by first | exact vp_in_nI (by omega) (by omega) | exact vp_nle (by assumption) (by omega) (by omega)) ?_
        rw [nI_clamp (show i < 2 ^ 31 by omega)]
        refine Go.heq (md_arr_r_8 (by omega) hB hS hC hD hE) ?_
        refine Go.iinc_5 d_Model_snow_150 rfl (by rfl) (nI_inc _) ?_
        refine Go.goto (t := 99) d_Model_snow_153 (by decide) ?_
        rw [if_pos c125_2] at hk
        exact ih (i + 1) _ (by omega) (by first | exact hn | (simp only []; exact hn)) hk
set_option maxRecDepth 100000 in
set_option maxHeartbeats 800000 in
theorem sx_dy_l_Model_snow_br {M : MO} {H : SH} {x2 : Nat} {x3 : Int32} {sn : Int32} : ∀ (k i : Nat) (Y : SX), sx_dy (l_Model_snow_br M H x2 x3 sn k i Y) = sx_dy Y := by
  intro k
  induction k with
  | zero => intros; rfl
  | succ k ih =>
    intros
    unfold l_Model_snow_br
    (repeat' split) <;> (try simp only [ih, sx_dy, sx_dy_Model_fall, sx_dy_l_Model_move_42, sx_dy_Model_move, sx_dy_Model_look, sx_dy_Model_filled, sx_dy_Model_drilled, sx_dy_Model_moved, sx_dy_Model_probed, sx_dy_l_Model_melt_1_st, sx_dy_l_Model_melt_1_br, sx_dy_Model_melt_1, sx_dy_l_Model_snow_st])
theorem d_Model_snow_0 : decode M_Model_snow.2.1 0 = .ok (.iload_n 3, 1) := by decide +kernel
theorem d_Model_snow_1 : decode M_Model_snow.2.1 1 = .ok (.sipush 300, 3) := by decide +kernel
theorem d_Model_snow_4 : decode M_Model_snow.2.1 4 = .ok (.aload_n 1, 1) := by decide +kernel
theorem d_Model_snow_5 : decode M_Model_snow.2.1 5 = .ok (.getfield 303, 3) := by decide +kernel
theorem d_Model_snow_8 : decode M_Model_snow.2.1 8 = .ok (.iload_n 2, 1) := by decide +kernel
theorem d_Model_snow_9 : decode M_Model_snow.2.1 9 = .ok (.iaload, 1) := by decide +kernel
theorem d_Model_snow_10 : decode M_Model_snow.2.1 10 = .ok (.isub, 1) := by decide +kernel
theorem d_Model_snow_11 : decode M_Model_snow.2.1 11 = .ok (.invokestatic 313, 3) := by decide +kernel
theorem d_Model_snow_14 : decode M_Model_snow.2.1 14 = .ok (.istore 4, 2) := by decide +kernel
theorem d_Model_snow_16 : decode M_Model_snow.2.1 16 = .ok (.aload_n 1, 1) := by decide +kernel
theorem d_Model_snow_17 : decode M_Model_snow.2.1 17 = .ok (.getfield 303, 3) := by decide +kernel
theorem d_Model_snow_20 : decode M_Model_snow.2.1 20 = .ok (.iload_n 2, 1) := by decide +kernel
theorem d_Model_snow_21 : decode M_Model_snow.2.1 21 = .ok (.dup2, 1) := by decide +kernel
theorem d_Model_snow_22 : decode M_Model_snow.2.1 22 = .ok (.iaload, 1) := by decide +kernel
theorem d_Model_snow_23 : decode M_Model_snow.2.1 23 = .ok (.iload 4, 2) := by decide +kernel
theorem d_Model_snow_25 : decode M_Model_snow.2.1 25 = .ok (.iadd, 1) := by decide +kernel
theorem d_Model_snow_26 : decode M_Model_snow.2.1 26 = .ok (.iastore, 1) := by decide +kernel
theorem d_Model_snow_27 : decode M_Model_snow.2.1 27 = .ok (.iconst 0, 1) := by decide +kernel
theorem d_Model_snow_28 : decode M_Model_snow.2.1 28 = .ok (.istore 5, 2) := by decide +kernel
theorem d_Model_snow_96 : decode M_Model_snow.2.1 96 = .ok (.iconst 0, 1) := by decide +kernel
theorem d_Model_snow_97 : decode M_Model_snow.2.1 97 = .ok (.istore 5, 2) := by decide +kernel
theorem d_Model_snow_156 : decode M_Model_snow.2.1 156 = .ok (.return_, 1) := by decide +kernel
def s_Model_snow (M : MO) (H : SH) (Y : SX) (x2 : Nat) (x3 : Int32) : SX := (l_Model_snow_br M H x2 x3 (iMin x3 (300 - ((sx_sn Y) x2))) (sh_ha H 6) 0 (l_Model_snow_st M H x2 x3 (iMin x3 (300 - ((sx_sn Y) x2))) (sh_ha H 3) 0 (sx_sn' Y (upd (sx_sn Y) x2 (((sx_sn Y) x2) + (iMin x3 (300 - ((sx_sn Y) x2))))))))
set_option maxRecDepth 100000 in
set_option maxHeartbeats 800000 in
theorem c_Model_snow {Γ : G9} {h : AH} {m q r sa sb ro z : Nat} {M : MO} {H : SH} {Y : SX} {x2 : Nat} {vx2 : Int32} {x3 : Int32} (ex2 : vx2 = nI x2) (bx2 : x2 < 5) (geo : m + 2 ≤ q ∧ m + 2 ≤ r ∧ (q + 24 ≤ r ∨ r + 21 ≤ q)) (hB : sh_ha H 0 ≤ 5) (hS : sh_ha H 3 ≤ 6) (hC : sh_ha H 6 ≤ 4) (hD : sh_ha H 9 ≤ 4) (hE : sh_ha H 11 ≤ 4) : CallR Γ M_Model_snow 1 [.ref m, .ref r, .int vx2, .int x3] (md_ Γ h m q r sa sb ro M H Y) z none (md_ Γ h m q r sa sb ro M H (s_Model_snow M H Y x2 x3)) := by
  subst ex2
  refine Call.of_go (L := [some (.ref m), some (.ref r), some (.int (nI x2)), some (.int x3), none, none]) (by decide +kernel) rfl (by exact Nat.le_of_ble_eq_true rfl) ?_
  unfold s_Model_snow
  refine Go.iload_3 d_Model_snow_0 rfl ?_
  refine Go.sipush (v := 300) d_Model_snow_1 rfl (by decide) ?_
  refine Go.aload_1 d_Model_snow_4 rfl ?_
  refine Go.getfield d_Model_snow_5 rfl f_Model_303 (md_at_r (by omega) hB hS hC hD hE) (by rfl) ?_
  refine Go.iload_2 d_Model_snow_8 rfl ?_
  refine Go.iaload d_Model_snow_9 rfl (md_at_r_2 (by omega) hB hS hC hD hE) (show vp_in (nI x2) 5 from by first | exact vp_in_nI (by omega) (by omega) | exact vp_nle (by assumption) (by omega) (by omega)) ?_
  rw [nI_clamp (show x2 < 2 ^ 31 by omega)]
  refine Go.isub d_Model_snow_10 rfl ?_
  refine Go.imin d_Model_snow_11 rfl l_Model_313 (by decide) rfl ?_
  refine Go.istore_4 d_Model_snow_14 rfl (by rfl) ?_
  refine Go.aload_1 d_Model_snow_16 rfl ?_
  refine Go.getfield d_Model_snow_17 rfl f_Model_303 (md_at_r (by omega) hB hS hC hD hE) (by rfl) ?_
  refine Go.iload_2 d_Model_snow_20 rfl ?_
  refine Go.dup2 d_Model_snow_21 rfl rfl rfl ?_
  refine Go.iaload d_Model_snow_22 rfl (md_at_r_2 (by omega) hB hS hC hD hE) (show vp_in (nI x2) 5 from by first | exact vp_in_nI (by omega) (by omega) | exact vp_nle (by assumption) (by omega) (by omega)) ?_
  rw [nI_clamp (show x2 < 2 ^ 31 by omega)]
  refine Go.iload_4 d_Model_snow_23 rfl ?_
  refine Go.iadd d_Model_snow_25 rfl ?_
  refine Go.iastore d_Model_snow_26 rfl (md_at_r_2 (by omega) hB hS hC hD hE) (show vp_in (nI x2) 5 from by first | exact vp_in_nI (by omega) (by omega) | exact vp_nle (by assumption) (by omega) (by omega)) ?_
  rw [nI_clamp (show x2 < 2 ^ 31 by omega)]
  refine Go.heq (md_arr_r_2 (by omega) hB hS hC hD hE) ?_
  refine Go.iconst (v := 0) d_Model_snow_27 rfl (by decide) ?_
  refine Go.istore_5 d_Model_snow_28 rfl (by rfl) ?_
  refine l_Model_snow_st_go (n := (sh_ha H 3)) bx2 geo hB hS hC hD hE (by omega) (sh_ha H 3) 0 (sx_sn' Y (upd (sx_sn Y) x2 (((sx_sn Y) x2) + (iMin x3 (300 - ((sx_sn Y) x2)))))) (by omega) rfl ?_
  refine Go.iconst (v := 0) d_Model_snow_96 rfl (by decide) ?_
  refine Go.istore_5 d_Model_snow_97 rfl (by rfl) ?_
  refine l_Model_snow_br_go (n := (sh_ha H 6)) bx2 geo hB hS hC hD hE (by omega) (sh_ha H 6) 0 (l_Model_snow_st M H x2 x3 (iMin x3 (300 - ((sx_sn Y) x2))) (sh_ha H 3) 0 (sx_sn' Y (upd (sx_sn Y) x2 (((sx_sn Y) x2) + (iMin x3 (300 - ((sx_sn Y) x2))))))) (by omega) rfl ?_
  exact Go.vret d_Model_snow_156 rfl ⟨rfl, by dsimp only, rfl⟩
set_option maxRecDepth 100000 in
set_option maxHeartbeats 800000 in
theorem sx_dy_Model_snow {M : MO} {H : SH} {Y : SX} {x2 : Nat} {x3 : Int32} : sx_dy (s_Model_snow M H Y x2 x3) = sx_dy Y := by
  unfold s_Model_snow
  (repeat' split) <;> (try simp only [sx_dy, sx_dy_Model_fall, sx_dy_l_Model_move_42, sx_dy_Model_move, sx_dy_Model_look, sx_dy_Model_filled, sx_dy_Model_drilled, sx_dy_Model_moved, sx_dy_Model_probed, sx_dy_l_Model_melt_1_st, sx_dy_l_Model_melt_1_br, sx_dy_Model_melt_1, sx_dy_l_Model_snow_st, sx_dy_l_Model_snow_br])
theorem d_Model_eat_1_45 : decode M_Model_eat_1.2.1 45 = .ok (.iload 5, 2) := by decide +kernel
theorem d_Model_eat_1_47 : decode M_Model_eat_1.2.1 47 = .ok (.aload_n 0, 1) := by decide +kernel
theorem d_Model_eat_1_48 : decode M_Model_eat_1.2.1 48 = .ok (.getfield 20, 3) := by decide +kernel
theorem d_Model_eat_1_51 : decode M_Model_eat_1.2.1 51 = .ok (.getfield 40, 3) := by decide +kernel
theorem d_Model_eat_1_54 : decode M_Model_eat_1.2.1 54 = .ok (.bipush 9, 2) := by decide +kernel
theorem d_Model_eat_1_56 : decode M_Model_eat_1.2.1 56 = .ok (.iaload, 1) := by decide +kernel
theorem d_Model_eat_1_57 : decode M_Model_eat_1.2.1 57 = .ok (.if_icmp .ge 61, 3) := by decide +kernel
theorem d_Model_eat_1_60 : decode M_Model_eat_1.2.1 60 = .ok (.aload_n 0, 1) := by decide +kernel
theorem d_Model_eat_1_61 : decode M_Model_eat_1.2.1 61 = .ok (.getfield 20, 3) := by decide +kernel
theorem d_Model_eat_1_64 : decode M_Model_eat_1.2.1 64 = .ok (.getfield 181, 3) := by decide +kernel
theorem d_Model_eat_1_67 : decode M_Model_eat_1.2.1 67 = .ok (.iload 5, 2) := by decide +kernel
theorem d_Model_eat_1_69 : decode M_Model_eat_1.2.1 69 = .ok (.iaload, 1) := by decide +kernel
theorem d_Model_eat_1_70 : decode M_Model_eat_1.2.1 70 = .ok (.aload_n 1, 1) := by decide +kernel
theorem d_Model_eat_1_71 : decode M_Model_eat_1.2.1 71 = .ok (.getfield 310, 3) := by decide +kernel
theorem d_Model_eat_1_74 : decode M_Model_eat_1.2.1 74 = .ok (.iload_n 2, 1) := by decide +kernel
theorem d_Model_eat_1_75 : decode M_Model_eat_1.2.1 75 = .ok (.iaload, 1) := by decide +kernel
theorem d_Model_eat_1_76 : decode M_Model_eat_1.2.1 76 = .ok (.if_icmp .eq 6, 3) := by decide +kernel
theorem d_Model_eat_1_79 : decode M_Model_eat_1.2.1 79 = .ok (.goto 33, 3) := by decide +kernel
theorem d_Model_eat_1_82 : decode M_Model_eat_1.2.1 82 = .ok (.iload_n 3, 1) := by decide +kernel
theorem d_Model_eat_1_83 : decode M_Model_eat_1.2.1 83 = .ok (.aload_n 1, 1) := by decide +kernel
theorem d_Model_eat_1_84 : decode M_Model_eat_1.2.1 84 = .ok (.getfield 308, 3) := by decide +kernel
theorem d_Model_eat_1_87 : decode M_Model_eat_1.2.1 87 = .ok (.iload 5, 2) := by decide +kernel
theorem d_Model_eat_1_89 : decode M_Model_eat_1.2.1 89 = .ok (.iaload, 1) := by decide +kernel
theorem d_Model_eat_1_90 : decode M_Model_eat_1.2.1 90 = .ok (.invokestatic 313, 3) := by decide +kernel
theorem d_Model_eat_1_93 : decode M_Model_eat_1.2.1 93 = .ok (.istore 6, 2) := by decide +kernel
theorem d_Model_eat_1_95 : decode M_Model_eat_1.2.1 95 = .ok (.aload_n 1, 1) := by decide +kernel
theorem d_Model_eat_1_96 : decode M_Model_eat_1.2.1 96 = .ok (.getfield 308, 3) := by decide +kernel
theorem d_Model_eat_1_99 : decode M_Model_eat_1.2.1 99 = .ok (.iload 5, 2) := by decide +kernel
theorem d_Model_eat_1_101 : decode M_Model_eat_1.2.1 101 = .ok (.dup2, 1) := by decide +kernel
theorem d_Model_eat_1_102 : decode M_Model_eat_1.2.1 102 = .ok (.iaload, 1) := by decide +kernel
theorem d_Model_eat_1_103 : decode M_Model_eat_1.2.1 103 = .ok (.iload 6, 2) := by decide +kernel
theorem d_Model_eat_1_105 : decode M_Model_eat_1.2.1 105 = .ok (.isub, 1) := by decide +kernel
theorem d_Model_eat_1_106 : decode M_Model_eat_1.2.1 106 = .ok (.iastore, 1) := by decide +kernel
theorem d_Model_eat_1_107 : decode M_Model_eat_1.2.1 107 = .ok (.iload_n 3, 1) := by decide +kernel
theorem d_Model_eat_1_108 : decode M_Model_eat_1.2.1 108 = .ok (.iload 6, 2) := by decide +kernel
theorem d_Model_eat_1_110 : decode M_Model_eat_1.2.1 110 = .ok (.isub, 1) := by decide +kernel
theorem d_Model_eat_1_111 : decode M_Model_eat_1.2.1 111 = .ok (.istore_n 3, 1) := by decide +kernel
theorem d_Model_eat_1_112 : decode M_Model_eat_1.2.1 112 = .ok (.iinc 5 1, 3) := by decide +kernel
theorem d_Model_eat_1_115 : decode M_Model_eat_1.2.1 115 = .ok (.goto (-70), 3) := by decide +kernel
def l_Model_eat_1_45 (M : MO) (H : SH) (x2 : Nat) : Nat → Nat → Int32 → SX → Int32 × SX
  | 0, _, lk, Y => (lk, Y)
  | k + 1, i, lk, Y => (if ((sh_di H) i) = ((sx_pl Y) x2) then (l_Model_eat_1_45 M H x2 k (i + 1) (lk - (iMin lk ((sx_fo Y) i))) (sx_fo' Y (upd (sx_fo Y) i (((sx_fo Y) i) - (iMin lk ((sx_fo Y) i)))))) else (l_Model_eat_1_45 M H x2 k (i + 1) lk Y))
set_option maxRecDepth 100000 in
set_option maxHeartbeats 800000 in
theorem l_Model_eat_1_45_go {Γ : G9} {h : AH} {m q r sa sb ro z : Nat} {n : Nat} {Q : QT} {X : XT} {M : MO} {H : SH} {x2 : Nat} (bx2 : x2 < 4) (geo : m + 2 ≤ q ∧ m + 2 ≤ r ∧ (q + 24 ≤ r ∨ r + 21 ≤ q)) (hB : sh_ha H 0 ≤ 5) (hS : sh_ha H 3 ≤ 6) (hC : sh_ha H 6 ≤ 4) (hD : sh_ha H 9 ≤ 4) (hE : sh_ha H 11 ≤ 4) (hn20 : n ≤ 20) : ∀ (k i : Nat) (lk : Int32) (Y : SX), i + k = n → sh_ha H 9 = n → Go Γ M_Model_eat_1 1 0 0 118 [some (.ref m), some (.ref r), some (.int (nI x2)), some (.int (l_Model_eat_1_45 M H x2 k i lk Y).1), none, some (.int (nI (i + k))), none] [] (md_ Γ h m q r sa sb ro M H (l_Model_eat_1_45 M H x2 k i lk Y).2) z Q X → Go Γ M_Model_eat_1 1 0 0 45 [some (.ref m), some (.ref r), some (.int (nI x2)), some (.int lk), none, some (.int (nI i)), none] [] (md_ Γ h m q r sa sb ro M H Y) z Q X := by
  intro k
  induction k with
  | zero =>
    intro i lk Y hi hn hk
    refine Go.iload_5 d_Model_eat_1_45 rfl ?_
    refine Go.aload_0 d_Model_eat_1_47 rfl ?_
    refine Go.getfield d_Model_eat_1_48 rfl f_Model_20 (md_at_m (by omega) hB hS hC hD hE) (by rfl) ?_
    refine Go.getfield d_Model_eat_1_51 rfl f_Model_40 (md_at_q (by omega) hB hS hC hD hE) (by rfl) ?_
    refine Go.bipush (v := 9) d_Model_eat_1_54 rfl (by decide) ?_
    refine Go.iaload d_Model_eat_1_56 rfl (md_at_q_5 (by omega) hB hS hC hD hE) (show vp_in (nI 9) 12 from by first | exact vp_in_nI (by omega) (by omega) | exact vp_nle (by assumption) (by omega) (by omega)) ?_
    rw [show (9 : Int32).toNatClampNeg = 9 from by decide]
    refine Go.icmp_ge (t := 118) d_Model_eat_1_57 (by decide) rfl (fun c57_1 => ?_) (fun c57_1 => ?_)
    · exact hk
    · exact absurd (nI_le (by omega) (by omega)) c57_1
  | succ k ih =>
    intro i lk Y hi hn hk
    unfold l_Model_eat_1_45 at hk
    rw [show i + (k + 1) = i + 1 + k by omega] at hk
    refine Go.iload_5 d_Model_eat_1_45 rfl ?_
    refine Go.aload_0 d_Model_eat_1_47 rfl ?_
    refine Go.getfield d_Model_eat_1_48 rfl f_Model_20 (md_at_m (by omega) hB hS hC hD hE) (by rfl) ?_
    refine Go.getfield d_Model_eat_1_51 rfl f_Model_40 (md_at_q (by omega) hB hS hC hD hE) (by rfl) ?_
    refine Go.bipush (v := 9) d_Model_eat_1_54 rfl (by decide) ?_
    refine Go.iaload d_Model_eat_1_56 rfl (md_at_q_5 (by omega) hB hS hC hD hE) (show vp_in (nI 9) 12 from by first | exact vp_in_nI (by omega) (by omega) | exact vp_nle (by assumption) (by omega) (by omega)) ?_
    rw [show (9 : Int32).toNatClampNeg = 9 from by decide]
    refine Go.icmp_ge (t := 118) d_Model_eat_1_57 (by decide) rfl (fun c57_1 => ?_) (fun c57_1 => ?_)
    · exact absurd c57_1 (nI_ge (by omega) (by omega))
    · refine Go.aload_0 d_Model_eat_1_60 rfl ?_
      refine Go.getfield d_Model_eat_1_61 rfl f_Model_20 (md_at_m (by omega) hB hS hC hD hE) (by rfl) ?_
      refine Go.getfield d_Model_eat_1_64 rfl f_Model_181 (md_at_q (by omega) hB hS hC hD hE) (by rfl) ?_
      refine Go.iload_5 d_Model_eat_1_67 rfl ?_
      refine Go.iaload d_Model_eat_1_69 rfl (md_at_q_13 (by omega) hB hS hC hD hE) (show vp_in (nI i) 4 from by first | exact vp_in_nI (by omega) (by omega) | exact vp_nle (by assumption) (by omega) (by omega)) ?_
      rw [nI_clamp (show i < 2 ^ 31 by omega)]
      refine Go.aload_1 d_Model_eat_1_70 rfl ?_
      refine Go.getfield d_Model_eat_1_71 rfl f_Model_310 (md_at_r (by omega) hB hS hC hD hE) (by rfl) ?_
      refine Go.iload_2 d_Model_eat_1_74 rfl ?_
      refine Go.iaload d_Model_eat_1_75 rfl (md_at_r_15 (by omega) hB hS hC hD hE) (show vp_in (nI x2) 4 from by first | exact vp_in_nI (by omega) (by omega) | exact vp_nle (by assumption) (by omega) (by omega)) ?_
      rw [nI_clamp (show x2 < 2 ^ 31 by omega)]
      refine Go.icmp_eq (t := 82) d_Model_eat_1_76 (by decide) rfl (fun c76_2 => ?_) (fun c76_2 => ?_)
      · refine Go.iload_3 d_Model_eat_1_82 rfl ?_
        refine Go.aload_1 d_Model_eat_1_83 rfl ?_
        refine Go.getfield d_Model_eat_1_84 rfl f_Model_308 (md_at_r (by omega) hB hS hC hD hE) (by rfl) ?_
        refine Go.iload_5 d_Model_eat_1_87 rfl ?_
        refine Go.iaload d_Model_eat_1_89 rfl (md_at_r_13 (by omega) hB hS hC hD hE) (show vp_in (nI i) 4 from by first | exact vp_in_nI (by omega) (by omega) | exact vp_nle (by assumption) (by omega) (by omega)) ?_
        rw [nI_clamp (show i < 2 ^ 31 by omega)]
        refine Go.imin d_Model_eat_1_90 rfl l_Model_313 (by decide) rfl ?_
        refine Go.istore_6 d_Model_eat_1_93 rfl (by rfl) ?_
        refine Go.aload_1 d_Model_eat_1_95 rfl ?_
        refine Go.getfield d_Model_eat_1_96 rfl f_Model_308 (md_at_r (by omega) hB hS hC hD hE) (by rfl) ?_
        refine Go.iload_5 d_Model_eat_1_99 rfl ?_
        refine Go.dup2 d_Model_eat_1_101 rfl rfl rfl ?_
        refine Go.iaload d_Model_eat_1_102 rfl (md_at_r_13 (by omega) hB hS hC hD hE) (show vp_in (nI i) 4 from by first | exact vp_in_nI (by omega) (by omega) | exact vp_nle (by assumption) (by omega) (by omega)) ?_
        rw [nI_clamp (show i < 2 ^ 31 by omega)]
        refine Go.iload_6 d_Model_eat_1_103 rfl ?_
        refine Go.isub d_Model_eat_1_105 rfl ?_
        refine Go.iastore d_Model_eat_1_106 rfl (md_at_r_13 (by omega) hB hS hC hD hE) (show vp_in (nI i) 4 from by first | exact vp_in_nI (by omega) (by omega) | exact vp_nle (by assumption) (by omega) (by omega)) ?_
        rw [nI_clamp (show i < 2 ^ 31 by omega)]
        refine Go.heq (md_arr_r_13 (by omega) hB hS hC hD hE) ?_
        refine Go.iload_3 d_Model_eat_1_107 rfl ?_
        refine Go.iload_6 d_Model_eat_1_108 rfl ?_
        refine Go.isub d_Model_eat_1_110 rfl ?_
        refine Go.istore_3 d_Model_eat_1_111 rfl (by rfl) ?_
        refine Go.iinc_5 d_Model_eat_1_112 rfl (by rfl) (nI_inc _) ?_
        refine Go.goto (t := 45) d_Model_eat_1_115 (by decide) ?_
        rw [if_pos c76_2] at hk
        refine Go.fgt [some (.ref m), some (.ref r), some (.int (nI x2)), some (.int (lk - (iMin lk ((sx_fo Y) i)))), none, some (.int (nI (i + 1))), none] (by repeat' (first | exact trivial | refine ⟨rfl, ?_⟩)) ?_
        exact ih (i + 1) _ _ (by omega) (by first | exact hn | (simp only []; exact hn)) hk
      · refine Go.goto (t := 112) d_Model_eat_1_79 (by decide) ?_
        refine Go.iinc_5 d_Model_eat_1_112 rfl (by rfl) (nI_inc _) ?_
        refine Go.goto (t := 45) d_Model_eat_1_115 (by decide) ?_
        rw [if_neg c76_2] at hk
        exact ih (i + 1) _ _ (by omega) (by first | exact hn | (simp only []; exact hn)) hk
set_option maxRecDepth 100000 in
set_option maxHeartbeats 800000 in
theorem sx_dy_l_Model_eat_1_45 {M : MO} {H : SH} {x2 : Nat} : ∀ (k i : Nat) (lk : Int32) (Y : SX), sx_dy (l_Model_eat_1_45 M H x2 k i lk Y).2 = sx_dy Y := by
  intro k
  induction k with
  | zero => intros; rfl
  | succ k ih =>
    intros
    unfold l_Model_eat_1_45
    (repeat' split) <;> (try simp only [ih, sx_dy, sx_dy_Model_fall, sx_dy_l_Model_move_42, sx_dy_Model_move, sx_dy_Model_look, sx_dy_Model_filled, sx_dy_Model_drilled, sx_dy_Model_moved, sx_dy_Model_probed, sx_dy_l_Model_melt_1_st, sx_dy_l_Model_melt_1_br, sx_dy_Model_melt_1, sx_dy_l_Model_snow_st, sx_dy_l_Model_snow_br, sx_dy_Model_snow])
theorem md_at_r_16 {Γ : G9} {h : AH} {m q r sa sb ro : Nat} {M : MO} {H : SH} {Y : SX} (geo : m + 2 ≤ q ∧ m + 2 ≤ r ∧ (q + 24 ≤ r ∨ r + 21 ≤ q)) (hB : sh_ha H 0 ≤ 5) (hS : sh_ha H 3 ≤ 6) (hC : sh_ha H 6 ≤ 4) (hD : sh_ha H 9 ≤ 4) (hE : sh_ha H 11 ≤ 4) : (md_ Γ h m q r sa sb ro M H Y) (r + 16) = some (aI Γ 4 (sx_hu Y)) := by
  unfold md_
  exact (sx_g16)
theorem md_arr_r_16 {Γ : G9} {h : AH} {m q r sa sb ro : Nat} {M : MO} {H : SH} {Y : SX} {v : Nat → Int32} (geo : m + 2 ≤ q ∧ m + 2 ≤ r ∧ (q + 24 ≤ r ∨ r + 21 ≤ q)) (hB : sh_ha H 0 ≤ 5) (hS : sh_ha H 3 ≤ 6) (hC : sh_ha H 6 ≤ 4) (hD : sh_ha H 9 ≤ 4) (hE : sh_ha H 11 ≤ 4) : hup (md_ Γ h m q r sa sb ro M H Y) (r + 16) (aI Γ 4 v) = (md_ Γ h m q r sa sb ro M H (sx_hu' Y v)) := by
  unfold md_
  exact (sx_a_hu (v := v))
theorem md_arr_r_17 {Γ : G9} {h : AH} {m q r sa sb ro : Nat} {M : MO} {H : SH} {Y : SX} {v : Nat → Int32} (geo : m + 2 ≤ q ∧ m + 2 ≤ r ∧ (q + 24 ≤ r ∨ r + 21 ≤ q)) (hB : sh_ha H 0 ≤ 5) (hS : sh_ha H 3 ≤ 6) (hC : sh_ha H 6 ≤ 4) (hD : sh_ha H 9 ≤ 4) (hE : sh_ha H 11 ≤ 4) : hup (md_ Γ h m q r sa sb ro M H Y) (r + 17) (aI Γ 4 v) = (md_ Γ h m q r sa sb ro M H (sx_he' Y v)) := by
  unfold md_
  exact (sx_a_he (v := v))
theorem d_Model_eat_1_0 : decode M_Model_eat_1.2.1 0 = .ok (.aload_n 0, 1) := by decide +kernel
theorem d_Model_eat_1_1 : decode M_Model_eat_1.2.1 1 = .ok (.getfield 20, 3) := by decide +kernel
theorem d_Model_eat_1_4 : decode M_Model_eat_1.2.1 4 = .ok (.getfield 222, 3) := by decide +kernel
theorem d_Model_eat_1_7 : decode M_Model_eat_1.2.1 7 = .ok (.iload_n 2, 1) := by decide +kernel
theorem d_Model_eat_1_8 : decode M_Model_eat_1.2.1 8 = .ok (.iaload, 1) := by decide +kernel
theorem d_Model_eat_1_9 : decode M_Model_eat_1.2.1 9 = .ok (.iconst 1, 1) := by decide +kernel
theorem d_Model_eat_1_10 : decode M_Model_eat_1.2.1 10 = .ok (.iadd, 1) := by decide +kernel
theorem d_Model_eat_1_11 : decode M_Model_eat_1.2.1 11 = .ok (.iconst 2, 1) := by decide +kernel
theorem d_Model_eat_1_12 : decode M_Model_eat_1.2.1 12 = .ok (.idiv, 1) := by decide +kernel
theorem d_Model_eat_1_13 : decode M_Model_eat_1.2.1 13 = .ok (.istore_n 3, 1) := by decide +kernel
theorem d_Model_eat_1_14 : decode M_Model_eat_1.2.1 14 = .ok (.iload_n 3, 1) := by decide +kernel
theorem d_Model_eat_1_15 : decode M_Model_eat_1.2.1 15 = .ok (.aload_n 1, 1) := by decide +kernel
theorem d_Model_eat_1_16 : decode M_Model_eat_1.2.1 16 = .ok (.getfield 309, 3) := by decide +kernel
theorem d_Model_eat_1_19 : decode M_Model_eat_1.2.1 19 = .ok (.iload_n 2, 1) := by decide +kernel
theorem d_Model_eat_1_20 : decode M_Model_eat_1.2.1 20 = .ok (.iaload, 1) := by decide +kernel
theorem d_Model_eat_1_21 : decode M_Model_eat_1.2.1 21 = .ok (.invokestatic 313, 3) := by decide +kernel
theorem d_Model_eat_1_24 : decode M_Model_eat_1.2.1 24 = .ok (.istore 4, 2) := by decide +kernel
theorem d_Model_eat_1_26 : decode M_Model_eat_1.2.1 26 = .ok (.aload_n 1, 1) := by decide +kernel
theorem d_Model_eat_1_27 : decode M_Model_eat_1.2.1 27 = .ok (.getfield 309, 3) := by decide +kernel
theorem d_Model_eat_1_30 : decode M_Model_eat_1.2.1 30 = .ok (.iload_n 2, 1) := by decide +kernel
theorem d_Model_eat_1_31 : decode M_Model_eat_1.2.1 31 = .ok (.dup2, 1) := by decide +kernel
theorem d_Model_eat_1_32 : decode M_Model_eat_1.2.1 32 = .ok (.iaload, 1) := by decide +kernel
theorem d_Model_eat_1_33 : decode M_Model_eat_1.2.1 33 = .ok (.iload 4, 2) := by decide +kernel
theorem d_Model_eat_1_35 : decode M_Model_eat_1.2.1 35 = .ok (.isub, 1) := by decide +kernel
theorem d_Model_eat_1_36 : decode M_Model_eat_1.2.1 36 = .ok (.iastore, 1) := by decide +kernel
theorem d_Model_eat_1_37 : decode M_Model_eat_1.2.1 37 = .ok (.iload_n 3, 1) := by decide +kernel
theorem d_Model_eat_1_38 : decode M_Model_eat_1.2.1 38 = .ok (.iload 4, 2) := by decide +kernel
theorem d_Model_eat_1_40 : decode M_Model_eat_1.2.1 40 = .ok (.isub, 1) := by decide +kernel
theorem d_Model_eat_1_41 : decode M_Model_eat_1.2.1 41 = .ok (.istore_n 3, 1) := by decide +kernel
theorem d_Model_eat_1_42 : decode M_Model_eat_1.2.1 42 = .ok (.iconst 0, 1) := by decide +kernel
theorem d_Model_eat_1_43 : decode M_Model_eat_1.2.1 43 = .ok (.istore 5, 2) := by decide +kernel
theorem d_Model_eat_1_118 : decode M_Model_eat_1.2.1 118 = .ok (.aload_n 1, 1) := by decide +kernel
theorem d_Model_eat_1_119 : decode M_Model_eat_1.2.1 119 = .ok (.getfield 391, 3) := by decide +kernel
theorem d_Model_eat_1_122 : decode M_Model_eat_1.2.1 122 = .ok (.iload_n 2, 1) := by decide +kernel
theorem d_Model_eat_1_123 : decode M_Model_eat_1.2.1 123 = .ok (.iload_n 3, 1) := by decide +kernel
theorem d_Model_eat_1_124 : decode M_Model_eat_1.2.1 124 = .ok (.ifCond .le 14, 3) := by decide +kernel
theorem d_Model_eat_1_127 : decode M_Model_eat_1.2.1 127 = .ok (.aload_n 1, 1) := by decide +kernel
theorem d_Model_eat_1_128 : decode M_Model_eat_1.2.1 128 = .ok (.getfield 391, 3) := by decide +kernel
theorem d_Model_eat_1_131 : decode M_Model_eat_1.2.1 131 = .ok (.iload_n 2, 1) := by decide +kernel
theorem d_Model_eat_1_132 : decode M_Model_eat_1.2.1 132 = .ok (.iaload, 1) := by decide +kernel
theorem d_Model_eat_1_133 : decode M_Model_eat_1.2.1 133 = .ok (.iconst 1, 1) := by decide +kernel
theorem d_Model_eat_1_134 : decode M_Model_eat_1.2.1 134 = .ok (.iadd, 1) := by decide +kernel
theorem d_Model_eat_1_135 : decode M_Model_eat_1.2.1 135 = .ok (.goto 4, 3) := by decide +kernel
theorem d_Model_eat_1_138 : decode M_Model_eat_1.2.1 138 = .ok (.iconst 0, 1) := by decide +kernel
theorem d_Model_eat_1_139 : decode M_Model_eat_1.2.1 139 = .ok (.iastore, 1) := by decide +kernel
theorem d_Model_eat_1_140 : decode M_Model_eat_1.2.1 140 = .ok (.aload_n 1, 1) := by decide +kernel
theorem d_Model_eat_1_141 : decode M_Model_eat_1.2.1 141 = .ok (.getfield 391, 3) := by decide +kernel
theorem d_Model_eat_1_144 : decode M_Model_eat_1.2.1 144 = .ok (.iload_n 2, 1) := by decide +kernel
theorem d_Model_eat_1_145 : decode M_Model_eat_1.2.1 145 = .ok (.iaload, 1) := by decide +kernel
theorem d_Model_eat_1_146 : decode M_Model_eat_1.2.1 146 = .ok (.iconst 3, 1) := by decide +kernel
theorem d_Model_eat_1_147 : decode M_Model_eat_1.2.1 147 = .ok (.if_icmp .ne 10, 3) := by decide +kernel
theorem d_Model_eat_1_150 : decode M_Model_eat_1.2.1 150 = .ok (.aload_n 1, 1) := by decide +kernel
theorem d_Model_eat_1_151 : decode M_Model_eat_1.2.1 151 = .ok (.getfield 283, 3) := by decide +kernel
theorem d_Model_eat_1_154 : decode M_Model_eat_1.2.1 154 = .ok (.iload_n 2, 1) := by decide +kernel
theorem d_Model_eat_1_155 : decode M_Model_eat_1.2.1 155 = .ok (.iconst 0, 1) := by decide +kernel
theorem d_Model_eat_1_156 : decode M_Model_eat_1.2.1 156 = .ok (.iastore, 1) := by decide +kernel
theorem d_Model_eat_1_157 : decode M_Model_eat_1.2.1 157 = .ok (.return_, 1) := by decide +kernel
def s_Model_eat_1 (M : MO) (H : SH) (Y : SX) (x2 : Nat) : SX := (if (l_Model_eat_1_45 M H x2 (sh_ha H 9) 0 (((((sh_sz H) x2) + 1) / 2) - (iMin ((((sh_sz H) x2) + 1) / 2) ((sx_sk Y) x2))) (sx_sk' Y (upd (sx_sk Y) x2 (((sx_sk Y) x2) - (iMin ((((sh_sz H) x2) + 1) / 2) ((sx_sk Y) x2)))))).1 ≤ 0 then (if ((upd (sx_hu (l_Model_eat_1_45 M H x2 (sh_ha H 9) 0 (((((sh_sz H) x2) + 1) / 2) - (iMin ((((sh_sz H) x2) + 1) / 2) ((sx_sk Y) x2))) (sx_sk' Y (upd (sx_sk Y) x2 (((sx_sk Y) x2) - (iMin ((((sh_sz H) x2) + 1) / 2) ((sx_sk Y) x2)))))).2) x2 0) x2) = 3 then (sx_he' (sx_hu' (l_Model_eat_1_45 M H x2 (sh_ha H 9) 0 (((((sh_sz H) x2) + 1) / 2) - (iMin ((((sh_sz H) x2) + 1) / 2) ((sx_sk Y) x2))) (sx_sk' Y (upd (sx_sk Y) x2 (((sx_sk Y) x2) - (iMin ((((sh_sz H) x2) + 1) / 2) ((sx_sk Y) x2)))))).2 (upd (sx_hu (l_Model_eat_1_45 M H x2 (sh_ha H 9) 0 (((((sh_sz H) x2) + 1) / 2) - (iMin ((((sh_sz H) x2) + 1) / 2) ((sx_sk Y) x2))) (sx_sk' Y (upd (sx_sk Y) x2 (((sx_sk Y) x2) - (iMin ((((sh_sz H) x2) + 1) / 2) ((sx_sk Y) x2)))))).2) x2 0)) (upd (sx_he (l_Model_eat_1_45 M H x2 (sh_ha H 9) 0 (((((sh_sz H) x2) + 1) / 2) - (iMin ((((sh_sz H) x2) + 1) / 2) ((sx_sk Y) x2))) (sx_sk' Y (upd (sx_sk Y) x2 (((sx_sk Y) x2) - (iMin ((((sh_sz H) x2) + 1) / 2) ((sx_sk Y) x2)))))).2) x2 0)) else (sx_hu' (l_Model_eat_1_45 M H x2 (sh_ha H 9) 0 (((((sh_sz H) x2) + 1) / 2) - (iMin ((((sh_sz H) x2) + 1) / 2) ((sx_sk Y) x2))) (sx_sk' Y (upd (sx_sk Y) x2 (((sx_sk Y) x2) - (iMin ((((sh_sz H) x2) + 1) / 2) ((sx_sk Y) x2)))))).2 (upd (sx_hu (l_Model_eat_1_45 M H x2 (sh_ha H 9) 0 (((((sh_sz H) x2) + 1) / 2) - (iMin ((((sh_sz H) x2) + 1) / 2) ((sx_sk Y) x2))) (sx_sk' Y (upd (sx_sk Y) x2 (((sx_sk Y) x2) - (iMin ((((sh_sz H) x2) + 1) / 2) ((sx_sk Y) x2)))))).2) x2 0))) else (if ((upd (sx_hu (l_Model_eat_1_45 M H x2 (sh_ha H 9) 0 (((((sh_sz H) x2) + 1) / 2) - (iMin ((((sh_sz H) x2) + 1) / 2) ((sx_sk Y) x2))) (sx_sk' Y (upd (sx_sk Y) x2 (((sx_sk Y) x2) - (iMin ((((sh_sz H) x2) + 1) / 2) ((sx_sk Y) x2)))))).2) x2 (((sx_hu (l_Model_eat_1_45 M H x2 (sh_ha H 9) 0 (((((sh_sz H) x2) + 1) / 2) - (iMin ((((sh_sz H) x2) + 1) / 2) ((sx_sk Y) x2))) (sx_sk' Y (upd (sx_sk Y) x2 (((sx_sk Y) x2) - (iMin ((((sh_sz H) x2) + 1) / 2) ((sx_sk Y) x2)))))).2) x2) + 1)) x2) = 3 then (sx_he' (sx_hu' (l_Model_eat_1_45 M H x2 (sh_ha H 9) 0 (((((sh_sz H) x2) + 1) / 2) - (iMin ((((sh_sz H) x2) + 1) / 2) ((sx_sk Y) x2))) (sx_sk' Y (upd (sx_sk Y) x2 (((sx_sk Y) x2) - (iMin ((((sh_sz H) x2) + 1) / 2) ((sx_sk Y) x2)))))).2 (upd (sx_hu (l_Model_eat_1_45 M H x2 (sh_ha H 9) 0 (((((sh_sz H) x2) + 1) / 2) - (iMin ((((sh_sz H) x2) + 1) / 2) ((sx_sk Y) x2))) (sx_sk' Y (upd (sx_sk Y) x2 (((sx_sk Y) x2) - (iMin ((((sh_sz H) x2) + 1) / 2) ((sx_sk Y) x2)))))).2) x2 (((sx_hu (l_Model_eat_1_45 M H x2 (sh_ha H 9) 0 (((((sh_sz H) x2) + 1) / 2) - (iMin ((((sh_sz H) x2) + 1) / 2) ((sx_sk Y) x2))) (sx_sk' Y (upd (sx_sk Y) x2 (((sx_sk Y) x2) - (iMin ((((sh_sz H) x2) + 1) / 2) ((sx_sk Y) x2)))))).2) x2) + 1))) (upd (sx_he (l_Model_eat_1_45 M H x2 (sh_ha H 9) 0 (((((sh_sz H) x2) + 1) / 2) - (iMin ((((sh_sz H) x2) + 1) / 2) ((sx_sk Y) x2))) (sx_sk' Y (upd (sx_sk Y) x2 (((sx_sk Y) x2) - (iMin ((((sh_sz H) x2) + 1) / 2) ((sx_sk Y) x2)))))).2) x2 0)) else (sx_hu' (l_Model_eat_1_45 M H x2 (sh_ha H 9) 0 (((((sh_sz H) x2) + 1) / 2) - (iMin ((((sh_sz H) x2) + 1) / 2) ((sx_sk Y) x2))) (sx_sk' Y (upd (sx_sk Y) x2 (((sx_sk Y) x2) - (iMin ((((sh_sz H) x2) + 1) / 2) ((sx_sk Y) x2)))))).2 (upd (sx_hu (l_Model_eat_1_45 M H x2 (sh_ha H 9) 0 (((((sh_sz H) x2) + 1) / 2) - (iMin ((((sh_sz H) x2) + 1) / 2) ((sx_sk Y) x2))) (sx_sk' Y (upd (sx_sk Y) x2 (((sx_sk Y) x2) - (iMin ((((sh_sz H) x2) + 1) / 2) ((sx_sk Y) x2)))))).2) x2 (((sx_hu (l_Model_eat_1_45 M H x2 (sh_ha H 9) 0 (((((sh_sz H) x2) + 1) / 2) - (iMin ((((sh_sz H) x2) + 1) / 2) ((sx_sk Y) x2))) (sx_sk' Y (upd (sx_sk Y) x2 (((sx_sk Y) x2) - (iMin ((((sh_sz H) x2) + 1) / 2) ((sx_sk Y) x2)))))).2) x2) + 1)))))
set_option maxRecDepth 100000 in
set_option maxHeartbeats 800000 in
theorem c_Model_eat_1 {Γ : G9} {h : AH} {m q r sa sb ro z : Nat} {M : MO} {H : SH} {Y : SX} {x2 : Nat} {vx2 : Int32} (ex2 : vx2 = nI x2) (bx2 : x2 < 4) (geo : m + 2 ≤ q ∧ m + 2 ≤ r ∧ (q + 24 ≤ r ∨ r + 21 ≤ q)) (hB : sh_ha H 0 ≤ 5) (hS : sh_ha H 3 ≤ 6) (hC : sh_ha H 6 ≤ 4) (hD : sh_ha H 9 ≤ 4) (hE : sh_ha H 11 ≤ 4) : CallR Γ M_Model_eat_1 1 [.ref m, .ref r, .int vx2] (md_ Γ h m q r sa sb ro M H Y) z none (md_ Γ h m q r sa sb ro M H (s_Model_eat_1 M H Y x2)) := by
  subst ex2
  refine Call.of_go (L := [some (.ref m), some (.ref r), some (.int (nI x2)), none, none, none, none]) (by decide +kernel) rfl (by exact Nat.le_of_ble_eq_true rfl) ?_
  unfold s_Model_eat_1
  refine Go.aload_0 d_Model_eat_1_0 rfl ?_
  refine Go.getfield d_Model_eat_1_1 rfl f_Model_20 (md_at_m (by omega) hB hS hC hD hE) (by rfl) ?_
  refine Go.getfield d_Model_eat_1_4 rfl f_Model_222 (md_at_q (by omega) hB hS hC hD hE) (by rfl) ?_
  refine Go.iload_2 d_Model_eat_1_7 rfl ?_
  refine Go.iaload d_Model_eat_1_8 rfl (md_at_q_16 (by omega) hB hS hC hD hE) (show vp_in (nI x2) 4 from by first | exact vp_in_nI (by omega) (by omega) | exact vp_nle (by assumption) (by omega) (by omega)) ?_
  rw [nI_clamp (show x2 < 2 ^ 31 by omega)]
  refine Go.iconst (v := 1) d_Model_eat_1_9 rfl (by decide) ?_
  refine Go.iadd d_Model_eat_1_10 rfl ?_
  refine Go.iconst (v := 2) d_Model_eat_1_11 rfl (by decide) ?_
  refine Go.idiv d_Model_eat_1_12 rfl (by decide) ?_
  refine Go.istore_3 d_Model_eat_1_13 rfl (by rfl) ?_
  refine Go.iload_3 d_Model_eat_1_14 rfl ?_
  refine Go.aload_1 d_Model_eat_1_15 rfl ?_
  refine Go.getfield d_Model_eat_1_16 rfl f_Model_309 (md_at_r (by omega) hB hS hC hD hE) (by rfl) ?_
  refine Go.iload_2 d_Model_eat_1_19 rfl ?_
  refine Go.iaload d_Model_eat_1_20 rfl (md_at_r_14 (by omega) hB hS hC hD hE) (show vp_in (nI x2) 4 from by first | exact vp_in_nI (by omega) (by omega) | exact vp_nle (by assumption) (by omega) (by omega)) ?_
  rw [nI_clamp (show x2 < 2 ^ 31 by omega)]
  refine Go.imin d_Model_eat_1_21 rfl l_Model_313 (by decide) rfl ?_
  refine Go.istore_4 d_Model_eat_1_24 rfl (by rfl) ?_
  refine Go.aload_1 d_Model_eat_1_26 rfl ?_
  refine Go.getfield d_Model_eat_1_27 rfl f_Model_309 (md_at_r (by omega) hB hS hC hD hE) (by rfl) ?_
  refine Go.iload_2 d_Model_eat_1_30 rfl ?_
  refine Go.dup2 d_Model_eat_1_31 rfl rfl rfl ?_
  refine Go.iaload d_Model_eat_1_32 rfl (md_at_r_14 (by omega) hB hS hC hD hE) (show vp_in (nI x2) 4 from by first | exact vp_in_nI (by omega) (by omega) | exact vp_nle (by assumption) (by omega) (by omega)) ?_
  rw [nI_clamp (show x2 < 2 ^ 31 by omega)]
  refine Go.iload_4 d_Model_eat_1_33 rfl ?_
  refine Go.isub d_Model_eat_1_35 rfl ?_
  refine Go.iastore d_Model_eat_1_36 rfl (md_at_r_14 (by omega) hB hS hC hD hE) (show vp_in (nI x2) 4 from by first | exact vp_in_nI (by omega) (by omega) | exact vp_nle (by assumption) (by omega) (by omega)) ?_
  rw [nI_clamp (show x2 < 2 ^ 31 by omega)]
  refine Go.heq (md_arr_r_14 (by omega) hB hS hC hD hE) ?_
  refine Go.iload_3 d_Model_eat_1_37 rfl ?_
  refine Go.iload_4 d_Model_eat_1_38 rfl ?_
  refine Go.isub d_Model_eat_1_40 rfl ?_
  refine Go.istore_3 d_Model_eat_1_41 rfl (by rfl) ?_
  refine Go.iconst (v := 0) d_Model_eat_1_42 rfl (by decide) ?_
  refine Go.istore_5 d_Model_eat_1_43 rfl (by rfl) ?_
  refine Go.fgt [some (.ref m), some (.ref r), some (.int (nI x2)), some (.int (((((sh_sz H) x2) + 1) / 2) - (iMin ((((sh_sz H) x2) + 1) / 2) ((sx_sk Y) x2)))), none, some (.int 0), none] (by repeat' (first | exact trivial | refine ⟨rfl, ?_⟩)) ?_
  refine l_Model_eat_1_45_go (n := (sh_ha H 9)) bx2 geo hB hS hC hD hE (by omega) (sh_ha H 9) 0 (((((sh_sz H) x2) + 1) / 2) - (iMin ((((sh_sz H) x2) + 1) / 2) ((sx_sk Y) x2))) (sx_sk' Y (upd (sx_sk Y) x2 (((sx_sk Y) x2) - (iMin ((((sh_sz H) x2) + 1) / 2) ((sx_sk Y) x2))))) (by omega) rfl ?_
  refine Go.aload_1 d_Model_eat_1_118 rfl ?_
  refine Go.getfield d_Model_eat_1_119 rfl f_Model_391 (md_at_r (by omega) hB hS hC hD hE) (by rfl) ?_
  refine Go.iload_2 d_Model_eat_1_122 rfl ?_
  refine Go.iload_3 d_Model_eat_1_123 rfl ?_
  refine Go.if_le (t := 138) d_Model_eat_1_124 (by decide) rfl (fun c124_1 => ?_) (fun c124_1 => ?_)
  · refine Go.iconst (v := 0) d_Model_eat_1_138 rfl (by decide) ?_
    refine Go.iastore d_Model_eat_1_139 rfl (md_at_r_16 (by omega) hB hS hC hD hE) (show vp_in (nI x2) 4 from by first | exact vp_in_nI (by omega) (by omega) | exact vp_nle (by assumption) (by omega) (by omega)) ?_
    rw [nI_clamp (show x2 < 2 ^ 31 by omega)]
    refine Go.heq (md_arr_r_16 (by omega) hB hS hC hD hE) ?_
    refine Go.aload_1 d_Model_eat_1_140 rfl ?_
    refine Go.getfield d_Model_eat_1_141 rfl f_Model_391 (md_at_r (by omega) hB hS hC hD hE) (by rfl) ?_
    refine Go.iload_2 d_Model_eat_1_144 rfl ?_
    refine Go.iaload d_Model_eat_1_145 rfl (md_at_r_16 (by omega) hB hS hC hD hE) (show vp_in (nI x2) 4 from by first | exact vp_in_nI (by omega) (by omega) | exact vp_nle (by assumption) (by omega) (by omega)) ?_
    rw [nI_clamp (show x2 < 2 ^ 31 by omega)]
    refine Go.iconst (v := 3) d_Model_eat_1_146 rfl (by decide) ?_
    refine Go.icmp_ne (t := 157) d_Model_eat_1_147 (by decide) rfl (fun c147_2 => ?_) (fun c147_2 => ?_)
    · rw [if_pos c124_1, if_neg c147_2]
      exact Go.vret d_Model_eat_1_157 rfl ⟨rfl, by dsimp only, rfl⟩
    · refine Go.aload_1 d_Model_eat_1_150 rfl ?_
      refine Go.getfield d_Model_eat_1_151 rfl f_Model_283 (md_at_r (by omega) hB hS hC hD hE) (by rfl) ?_
      refine Go.iload_2 d_Model_eat_1_154 rfl ?_
      refine Go.iconst (v := 0) d_Model_eat_1_155 rfl (by decide) ?_
      refine Go.iastore d_Model_eat_1_156 rfl (md_at_r_17 (by omega) hB hS hC hD hE) (show vp_in (nI x2) 4 from by first | exact vp_in_nI (by omega) (by omega) | exact vp_nle (by assumption) (by omega) (by omega)) ?_
      rw [nI_clamp (show x2 < 2 ^ 31 by omega)]
      refine Go.heq (md_arr_r_17 (by omega) hB hS hC hD hE) ?_
      rw [if_pos c124_1, if_pos c147_2]
      exact Go.vret d_Model_eat_1_157 rfl ⟨rfl, by dsimp only, rfl⟩
  · refine Go.aload_1 d_Model_eat_1_127 rfl ?_
    refine Go.getfield d_Model_eat_1_128 rfl f_Model_391 (md_at_r (by omega) hB hS hC hD hE) (by rfl) ?_
    refine Go.iload_2 d_Model_eat_1_131 rfl ?_
    refine Go.iaload d_Model_eat_1_132 rfl (md_at_r_16 (by omega) hB hS hC hD hE) (show vp_in (nI x2) 4 from by first | exact vp_in_nI (by omega) (by omega) | exact vp_nle (by assumption) (by omega) (by omega)) ?_
    rw [nI_clamp (show x2 < 2 ^ 31 by omega)]
    refine Go.iconst (v := 1) d_Model_eat_1_133 rfl (by decide) ?_
    refine Go.iadd d_Model_eat_1_134 rfl ?_
    refine Go.goto (t := 139) d_Model_eat_1_135 (by decide) ?_
    refine Go.iastore d_Model_eat_1_139 rfl (md_at_r_16 (by omega) hB hS hC hD hE) (show vp_in (nI x2) 4 from by first | exact vp_in_nI (by omega) (by omega) | exact vp_nle (by assumption) (by omega) (by omega)) ?_
    rw [nI_clamp (show x2 < 2 ^ 31 by omega)]
    refine Go.heq (md_arr_r_16 (by omega) hB hS hC hD hE) ?_
    refine Go.aload_1 d_Model_eat_1_140 rfl ?_
    refine Go.getfield d_Model_eat_1_141 rfl f_Model_391 (md_at_r (by omega) hB hS hC hD hE) (by rfl) ?_
    refine Go.iload_2 d_Model_eat_1_144 rfl ?_
    refine Go.iaload d_Model_eat_1_145 rfl (md_at_r_16 (by omega) hB hS hC hD hE) (show vp_in (nI x2) 4 from by first | exact vp_in_nI (by omega) (by omega) | exact vp_nle (by assumption) (by omega) (by omega)) ?_
    rw [nI_clamp (show x2 < 2 ^ 31 by omega)]
    refine Go.iconst (v := 3) d_Model_eat_1_146 rfl (by decide) ?_
    refine Go.icmp_ne (t := 157) d_Model_eat_1_147 (by decide) rfl (fun c147_3 => ?_) (fun c147_3 => ?_)
    · rw [if_neg c124_1, if_neg c147_3]
      exact Go.vret d_Model_eat_1_157 rfl ⟨rfl, by dsimp only, rfl⟩
    · refine Go.aload_1 d_Model_eat_1_150 rfl ?_
      refine Go.getfield d_Model_eat_1_151 rfl f_Model_283 (md_at_r (by omega) hB hS hC hD hE) (by rfl) ?_
      refine Go.iload_2 d_Model_eat_1_154 rfl ?_
      refine Go.iconst (v := 0) d_Model_eat_1_155 rfl (by decide) ?_
      refine Go.iastore d_Model_eat_1_156 rfl (md_at_r_17 (by omega) hB hS hC hD hE) (show vp_in (nI x2) 4 from by first | exact vp_in_nI (by omega) (by omega) | exact vp_nle (by assumption) (by omega) (by omega)) ?_
      rw [nI_clamp (show x2 < 2 ^ 31 by omega)]
      refine Go.heq (md_arr_r_17 (by omega) hB hS hC hD hE) ?_
      rw [if_neg c124_1, if_pos c147_3]
      exact Go.vret d_Model_eat_1_157 rfl ⟨rfl, by dsimp only, rfl⟩
set_option maxRecDepth 100000 in
set_option maxHeartbeats 800000 in
theorem sx_dy_Model_eat_1 {M : MO} {H : SH} {Y : SX} {x2 : Nat} : sx_dy (s_Model_eat_1 M H Y x2) = sx_dy Y := by
  unfold s_Model_eat_1
  (repeat' split) <;> (try simp only [sx_dy, sx_dy_Model_fall, sx_dy_l_Model_move_42, sx_dy_Model_move, sx_dy_Model_look, sx_dy_Model_filled, sx_dy_Model_drilled, sx_dy_Model_moved, sx_dy_Model_probed, sx_dy_l_Model_melt_1_st, sx_dy_l_Model_melt_1_br, sx_dy_Model_melt_1, sx_dy_l_Model_snow_st, sx_dy_l_Model_snow_br, sx_dy_Model_snow, sx_dy_l_Model_eat_1_45])
theorem md_at_r_6 {Γ : G9} {h : AH} {m q r sa sb ro : Nat} {M : MO} {H : SH} {Y : SX} (geo : m + 2 ≤ q ∧ m + 2 ≤ r ∧ (q + 24 ≤ r ∨ r + 21 ≤ q)) (hB : sh_ha H 0 ≤ 5) (hS : sh_ha H 3 ≤ 6) (hC : sh_ha H 6 ≤ 4) (hD : sh_ha H 9 ≤ 4) (hE : sh_ha H 11 ≤ 4) : (md_ Γ h m q r sa sb ro M H Y) (r + 6) = some (aI Γ 6 (sx_la Y)) := by
  unfold md_
  exact (sx_g6)
theorem md_arr_r_6 {Γ : G9} {h : AH} {m q r sa sb ro : Nat} {M : MO} {H : SH} {Y : SX} {v : Nat → Int32} (geo : m + 2 ≤ q ∧ m + 2 ≤ r ∧ (q + 24 ≤ r ∨ r + 21 ≤ q)) (hB : sh_ha H 0 ≤ 5) (hS : sh_ha H 3 ≤ 6) (hC : sh_ha H 6 ≤ 4) (hD : sh_ha H 9 ≤ 4) (hE : sh_ha H 11 ≤ 4) : hup (md_ Γ h m q r sa sb ro M H Y) (r + 6) (aI Γ 6 v) = (md_ Γ h m q r sa sb ro M H (sx_la' Y v)) := by
  unfold md_
  exact (sx_a_la (v := v))
theorem md_at_r_7 {Γ : G9} {h : AH} {m q r sa sb ro : Nat} {M : MO} {H : SH} {Y : SX} (geo : m + 2 ≤ q ∧ m + 2 ≤ r ∧ (q + 24 ≤ r ∨ r + 21 ≤ q)) (hB : sh_ha H 0 ≤ 5) (hS : sh_ha H 3 ≤ 6) (hC : sh_ha H 6 ≤ 4) (hD : sh_ha H 9 ≤ 4) (hE : sh_ha H 11 ≤ 4) : (md_ Γ h m q r sa sb ro M H Y) (r + 7) = some (aI Γ 6 (sx_re Y)) := by
  unfold md_
  exact (sx_g7)
theorem md_arr_r_7 {Γ : G9} {h : AH} {m q r sa sb ro : Nat} {M : MO} {H : SH} {Y : SX} {v : Nat → Int32} (geo : m + 2 ≤ q ∧ m + 2 ≤ r ∧ (q + 24 ≤ r ∨ r + 21 ≤ q)) (hB : sh_ha H 0 ≤ 5) (hS : sh_ha H 3 ≤ 6) (hC : sh_ha H 6 ≤ 4) (hD : sh_ha H 9 ≤ 4) (hE : sh_ha H 11 ≤ 4) : hup (md_ Γ h m q r sa sb ro M H Y) (r + 7) (aI Γ 6 v) = (md_ Γ h m q r sa sb ro M H (sx_re' Y v)) := by
  unfold md_
  exact (sx_a_re (v := v))
theorem md_at_r_18 {Γ : G9} {h : AH} {m q r sa sb ro : Nat} {M : MO} {H : SH} {Y : SX} (geo : m + 2 ≤ q ∧ m + 2 ≤ r ∧ (q + 24 ≤ r ∨ r + 21 ≤ q)) (hB : sh_ha H 0 ≤ 5) (hS : sh_ha H 3 ≤ 6) (hC : sh_ha H 6 ≤ 4) (hD : sh_ha H 9 ≤ 4) (hE : sh_ha H 11 ≤ 4) : (md_ Γ h m q r sa sb ro M H Y) (r + 18) = some (aI Γ 4 (sx_ma Y)) := by
  unfold md_
  exact (sx_g18)
theorem md_arr_r_18 {Γ : G9} {h : AH} {m q r sa sb ro : Nat} {M : MO} {H : SH} {Y : SX} {v : Nat → Int32} (geo : m + 2 ≤ q ∧ m + 2 ≤ r ∧ (q + 24 ≤ r ∨ r + 21 ≤ q)) (hB : sh_ha H 0 ≤ 5) (hS : sh_ha H 3 ≤ 6) (hC : sh_ha H 6 ≤ 4) (hD : sh_ha H 9 ≤ 4) (hE : sh_ha H 11 ≤ 4) : hup (md_ Γ h m q r sa sb ro M H Y) (r + 18) (aI Γ 4 v) = (md_ Γ h m q r sa sb ro M H (sx_ma' Y v)) := by
  unfold md_
  exact (sx_a_ma (v := v))
theorem md_put_r_readings {Γ : G9} {h : AH} {m q r sa sb ro : Nat} {M : MO} {H : SH} {Y : SX} {v : Int32} (geo : m + 2 ≤ q ∧ m + 2 ≤ r ∧ (q + 24 ≤ r ∨ r + 21 ≤ q)) (hB : sh_ha H 0 ≤ 5) (hS : sh_ha H 3 ≤ 6) (hC : sh_ha H 6 ≤ 4) (hD : sh_ha H 9 ≤ 4) (hE : sh_ha H 11 ≤ 4) : hup (md_ Γ h m q r sa sb ro M H Y) r (.inr (10, [.int (nI (sx_dy Y)), .int (sx_rd Y), .int (sx_fa Y), .int (sx_ca Y), .ref (r + 1), .ref (r + 2), .ref (r + 3), .ref (r + 4), .ref (r + 5), .ref (r + 6), .ref (r + 7), .ref (r + 8), .ref (r + 9), .ref (r + 10), .ref (r + 11), .ref (r + 12), .ref (r + 13), .ref (r + 14), .ref (r + 15), .ref (r + 16), .ref (r + 17), .ref (r + 18), .ref (r + 19), .ref (r + 20)].set 1 (.int v))) = (md_ Γ h m q r sa sb ro M H (sx_rd' Y v)) := by
  unfold md_
  exact (sx_p_rd (v := v))
theorem d_Model_readAll_2 : decode M_Model_readAll.2.1 2 = .ok (.iload_n 3, 1) := by decide +kernel
theorem d_Model_readAll_3 : decode M_Model_readAll.2.1 3 = .ok (.aload_n 0, 1) := by decide +kernel
theorem d_Model_readAll_4 : decode M_Model_readAll.2.1 4 = .ok (.getfield 20, 3) := by decide +kernel
theorem d_Model_readAll_7 : decode M_Model_readAll.2.1 7 = .ok (.getfield 40, 3) := by decide +kernel
theorem d_Model_readAll_10 : decode M_Model_readAll.2.1 10 = .ok (.iconst 3, 1) := by decide +kernel
theorem d_Model_readAll_11 : decode M_Model_readAll.2.1 11 = .ok (.iaload, 1) := by decide +kernel
theorem d_Model_readAll_12 : decode M_Model_readAll.2.1 12 = .ok (.if_icmp .ge 81, 3) := by decide +kernel
theorem d_Model_readAll_15 : decode M_Model_readAll.2.1 15 = .ok (.aload_n 0, 1) := by decide +kernel
theorem d_Model_readAll_16 : decode M_Model_readAll.2.1 16 = .ok (.getfield 20, 3) := by decide +kernel
theorem d_Model_readAll_19 : decode M_Model_readAll.2.1 19 = .ok (.getfield 178, 3) := by decide +kernel
theorem d_Model_readAll_22 : decode M_Model_readAll.2.1 22 = .ok (.iload_n 3, 1) := by decide +kernel
theorem d_Model_readAll_23 : decode M_Model_readAll.2.1 23 = .ok (.iaload, 1) := by decide +kernel
theorem d_Model_readAll_24 : decode M_Model_readAll.2.1 24 = .ok (.aload_n 1, 1) := by decide +kernel
theorem d_Model_readAll_25 : decode M_Model_readAll.2.1 25 = .ok (.getfield 310, 3) := by decide +kernel
theorem d_Model_readAll_28 : decode M_Model_readAll.2.1 28 = .ok (.iload_n 2, 1) := by decide +kernel
theorem d_Model_readAll_29 : decode M_Model_readAll.2.1 29 = .ok (.iaload, 1) := by decide +kernel
theorem d_Model_readAll_30 : decode M_Model_readAll.2.1 30 = .ok (.if_icmp .ne 57, 3) := by decide +kernel
theorem d_Model_readAll_33 : decode M_Model_readAll.2.1 33 = .ok (.aload_n 1, 1) := by decide +kernel
theorem d_Model_readAll_34 : decode M_Model_readAll.2.1 34 = .ok (.getfield 277, 3) := by decide +kernel
theorem d_Model_readAll_37 : decode M_Model_readAll.2.1 37 = .ok (.iload_n 3, 1) := by decide +kernel
theorem d_Model_readAll_38 : decode M_Model_readAll.2.1 38 = .ok (.iaload, 1) := by decide +kernel
theorem d_Model_readAll_39 : decode M_Model_readAll.2.1 39 = .ok (.ifCond .ne 6, 3) := by decide +kernel
theorem d_Model_readAll_42 : decode M_Model_readAll.2.1 42 = .ok (.goto 45, 3) := by decide +kernel
theorem d_Model_readAll_45 : decode M_Model_readAll.2.1 45 = .ok (.aload_n 1, 1) := by decide +kernel
theorem d_Model_readAll_46 : decode M_Model_readAll.2.1 46 = .ok (.getfield 394, 3) := by decide +kernel
theorem d_Model_readAll_49 : decode M_Model_readAll.2.1 49 = .ok (.iload_n 3, 1) := by decide +kernel
theorem d_Model_readAll_50 : decode M_Model_readAll.2.1 50 = .ok (.aload_n 1, 1) := by decide +kernel
theorem d_Model_readAll_51 : decode M_Model_readAll.2.1 51 = .ok (.getfield 304, 3) := by decide +kernel
theorem d_Model_readAll_54 : decode M_Model_readAll.2.1 54 = .ok (.iload_n 3, 1) := by decide +kernel
theorem d_Model_readAll_55 : decode M_Model_readAll.2.1 55 = .ok (.iaload, 1) := by decide +kernel
theorem d_Model_readAll_56 : decode M_Model_readAll.2.1 56 = .ok (.iastore, 1) := by decide +kernel
theorem d_Model_readAll_57 : decode M_Model_readAll.2.1 57 = .ok (.aload_n 1, 1) := by decide +kernel
theorem d_Model_readAll_58 : decode M_Model_readAll.2.1 58 = .ok (.getfield 397, 3) := by decide +kernel
theorem d_Model_readAll_61 : decode M_Model_readAll.2.1 61 = .ok (.iload_n 3, 1) := by decide +kernel
theorem d_Model_readAll_62 : decode M_Model_readAll.2.1 62 = .ok (.dup2, 1) := by decide +kernel
theorem d_Model_readAll_63 : decode M_Model_readAll.2.1 63 = .ok (.iaload, 1) := by decide +kernel
theorem d_Model_readAll_64 : decode M_Model_readAll.2.1 64 = .ok (.iconst 1, 1) := by decide +kernel
theorem d_Model_readAll_65 : decode M_Model_readAll.2.1 65 = .ok (.iadd, 1) := by decide +kernel
theorem d_Model_readAll_66 : decode M_Model_readAll.2.1 66 = .ok (.iastore, 1) := by decide +kernel
theorem d_Model_readAll_67 : decode M_Model_readAll.2.1 67 = .ok (.aload_n 1, 1) := by decide +kernel
theorem d_Model_readAll_68 : decode M_Model_readAll.2.1 68 = .ok (.getfield 400, 3) := by decide +kernel
theorem d_Model_readAll_71 : decode M_Model_readAll.2.1 71 = .ok (.iload_n 2, 1) := by decide +kernel
theorem d_Model_readAll_72 : decode M_Model_readAll.2.1 72 = .ok (.dup2, 1) := by decide +kernel
theorem d_Model_readAll_73 : decode M_Model_readAll.2.1 73 = .ok (.iaload, 1) := by decide +kernel
theorem d_Model_readAll_74 : decode M_Model_readAll.2.1 74 = .ok (.iconst 1, 1) := by decide +kernel
theorem d_Model_readAll_75 : decode M_Model_readAll.2.1 75 = .ok (.iadd, 1) := by decide +kernel
theorem d_Model_readAll_76 : decode M_Model_readAll.2.1 76 = .ok (.iastore, 1) := by decide +kernel
theorem d_Model_readAll_77 : decode M_Model_readAll.2.1 77 = .ok (.aload_n 1, 1) := by decide +kernel
theorem d_Model_readAll_78 : decode M_Model_readAll.2.1 78 = .ok (.dup, 1) := by decide +kernel
theorem d_Model_readAll_79 : decode M_Model_readAll.2.1 79 = .ok (.getfield 403, 3) := by decide +kernel
theorem d_Model_readAll_82 : decode M_Model_readAll.2.1 82 = .ok (.iconst 1, 1) := by decide +kernel
theorem d_Model_readAll_83 : decode M_Model_readAll.2.1 83 = .ok (.iadd, 1) := by decide +kernel
theorem d_Model_readAll_84 : decode M_Model_readAll.2.1 84 = .ok (.putfield 403, 3) := by decide +kernel
theorem d_Model_readAll_87 : decode M_Model_readAll.2.1 87 = .ok (.iinc 3 1, 3) := by decide +kernel
theorem d_Model_readAll_90 : decode M_Model_readAll.2.1 90 = .ok (.goto (-88), 3) := by decide +kernel
def l_Model_readAll_2 (M : MO) (H : SH) (x2 : Nat) : Nat → Nat → SX → SX
  | 0, _, Y => Y
  | k + 1, i, Y => (if ((sh_si H) i) = ((sx_pl Y) x2) then (if ((sx_sd Y) i) = 0 then (l_Model_readAll_2 M H x2 k (i + 1) Y) else (l_Model_readAll_2 M H x2 k (i + 1) (sx_rd' (sx_ma' (sx_re' (sx_la' Y (upd (sx_la Y) i ((sx_ou Y) i))) (upd (sx_re Y) i (((sx_re Y) i) + 1))) (upd (sx_ma Y) x2 (((sx_ma Y) x2) + 1))) ((sx_rd Y) + 1)))) else (l_Model_readAll_2 M H x2 k (i + 1) Y))
set_option maxRecDepth 100000 in
set_option maxHeartbeats 800000 in
theorem l_Model_readAll_2_go {Γ : G9} {h : AH} {m q r sa sb ro z : Nat} {n : Nat} {Q : QT} {X : XT} {M : MO} {H : SH} {x2 : Nat} (bx2 : x2 < 4) (geo : m + 2 ≤ q ∧ m + 2 ≤ r ∧ (q + 24 ≤ r ∨ r + 21 ≤ q)) (hB : sh_ha H 0 ≤ 5) (hS : sh_ha H 3 ≤ 6) (hC : sh_ha H 6 ≤ 4) (hD : sh_ha H 9 ≤ 4) (hE : sh_ha H 11 ≤ 4) (hn20 : n ≤ 20) : ∀ (k i : Nat) (Y : SX), i + k = n → sh_ha H 3 = n → Go Γ M_Model_readAll 0 0 0 93 [some (.ref m), some (.ref r), some (.int (nI x2)), some (.int (nI (i + k)))] [] (md_ Γ h m q r sa sb ro M H (l_Model_readAll_2 M H x2 k i Y)) z Q X → Go Γ M_Model_readAll 0 0 0 2 [some (.ref m), some (.ref r), some (.int (nI x2)), some (.int (nI i))] [] (md_ Γ h m q r sa sb ro M H Y) z Q X := by
  intro k
  induction k with
  | zero =>
    intro i Y hi hn hk
    refine Go.iload_3 d_Model_readAll_2 rfl ?_
    refine Go.aload_0 d_Model_readAll_3 rfl ?_
    refine Go.getfield d_Model_readAll_4 rfl f_Model_20 (md_at_m (by omega) hB hS hC hD hE) (by rfl) ?_
    refine Go.getfield d_Model_readAll_7 rfl f_Model_40 (md_at_q (by omega) hB hS hC hD hE) (by rfl) ?_
    refine Go.iconst (v := 3) d_Model_readAll_10 rfl (by decide) ?_
    refine Go.iaload d_Model_readAll_11 rfl (md_at_q_5 (by omega) hB hS hC hD hE) (show vp_in (nI 3) 12 from by first | exact vp_in_nI (by omega) (by omega) | exact vp_nle (by assumption) (by omega) (by omega)) ?_
    rw [show (3 : Int32).toNatClampNeg = 3 from by decide]
    refine Go.icmp_ge (t := 93) d_Model_readAll_12 (by decide) rfl (fun c12_1 => ?_) (fun c12_1 => ?_)
    · exact hk
    · exact absurd (nI_le (by omega) (by omega)) c12_1
  | succ k ih =>
    intro i Y hi hn hk
    unfold l_Model_readAll_2 at hk
    rw [show i + (k + 1) = i + 1 + k by omega] at hk
    refine Go.iload_3 d_Model_readAll_2 rfl ?_
    refine Go.aload_0 d_Model_readAll_3 rfl ?_
    refine Go.getfield d_Model_readAll_4 rfl f_Model_20 (md_at_m (by omega) hB hS hC hD hE) (by rfl) ?_
    refine Go.getfield d_Model_readAll_7 rfl f_Model_40 (md_at_q (by omega) hB hS hC hD hE) (by rfl) ?_
    refine Go.iconst (v := 3) d_Model_readAll_10 rfl (by decide) ?_
    refine Go.iaload d_Model_readAll_11 rfl (md_at_q_5 (by omega) hB hS hC hD hE) (show vp_in (nI 3) 12 from by first | exact vp_in_nI (by omega) (by omega) | exact vp_nle (by assumption) (by omega) (by omega)) ?_
    rw [show (3 : Int32).toNatClampNeg = 3 from by decide]
    refine Go.icmp_ge (t := 93) d_Model_readAll_12 (by decide) rfl (fun c12_1 => ?_) (fun c12_1 => ?_)
    · exact absurd c12_1 (nI_ge (by omega) (by omega))
    · refine Go.aload_0 d_Model_readAll_15 rfl ?_
      refine Go.getfield d_Model_readAll_16 rfl f_Model_20 (md_at_m (by omega) hB hS hC hD hE) (by rfl) ?_
      refine Go.getfield d_Model_readAll_19 rfl f_Model_178 (md_at_q (by omega) hB hS hC hD hE) (by rfl) ?_
      refine Go.iload_3 d_Model_readAll_22 rfl ?_
      refine Go.iaload d_Model_readAll_23 rfl (md_at_q_9 (by omega) hB hS hC hD hE) (show vp_in (nI i) 6 from by first | exact vp_in_nI (by omega) (by omega) | exact vp_nle (by assumption) (by omega) (by omega)) ?_
      rw [nI_clamp (show i < 2 ^ 31 by omega)]
      refine Go.aload_1 d_Model_readAll_24 rfl ?_
      refine Go.getfield d_Model_readAll_25 rfl f_Model_310 (md_at_r (by omega) hB hS hC hD hE) (by rfl) ?_
      refine Go.iload_2 d_Model_readAll_28 rfl ?_
      refine Go.iaload d_Model_readAll_29 rfl (md_at_r_15 (by omega) hB hS hC hD hE) (show vp_in (nI x2) 4 from by first | exact vp_in_nI (by omega) (by omega) | exact vp_nle (by assumption) (by omega) (by omega)) ?_
      rw [nI_clamp (show x2 < 2 ^ 31 by omega)]
      refine Go.icmp_ne (t := 87) d_Model_readAll_30 (by decide) rfl (fun c30_2 => ?_) (fun c30_2 => ?_)
      · refine Go.iinc_3 d_Model_readAll_87 rfl (by rfl) (nI_inc _) ?_
        refine Go.goto (t := 2) d_Model_readAll_90 (by decide) ?_
        rw [if_neg c30_2] at hk
        exact ih (i + 1) _ (by omega) (by first | exact hn | (simp only []; exact hn)) hk
      · refine Go.aload_1 d_Model_readAll_33 rfl ?_
        refine Go.getfield d_Model_readAll_34 rfl f_Model_277 (md_at_r (by omega) hB hS hC hD hE) (by rfl) ?_
        refine Go.iload_3 d_Model_readAll_37 rfl ?_
        refine Go.iaload d_Model_readAll_38 rfl (md_at_r_5 (by omega) hB hS hC hD hE) (show vp_in (nI i) 6 from by first | exact vp_in_nI (by omega) (by omega) | exact vp_nle (by assumption) (by omega) (by omega)) ?_
        rw [nI_clamp (show i < 2 ^ 31 by omega)]
        refine Go.if_ne (t := 45) d_Model_readAll_39 (by decide) rfl (fun c39_3 => ?_) (fun c39_3 => ?_)
        · refine Go.aload_1 d_Model_readAll_45 rfl ?_
          refine Go.getfield d_Model_readAll_46 rfl f_Model_394 (md_at_r (by omega) hB hS hC hD hE) (by rfl) ?_
          refine Go.iload_3 d_Model_readAll_49 rfl ?_
          refine Go.aload_1 d_Model_readAll_50 rfl ?_
          refine Go.getfield d_Model_readAll_51 rfl f_Model_304 (md_at_r (by omega) hB hS hC hD hE) (by rfl) ?_
          refine Go.iload_3 d_Model_readAll_54 rfl ?_
          refine Go.iaload d_Model_readAll_55 rfl (md_at_r_4 (by omega) hB hS hC hD hE) (show vp_in (nI i) 6 from by first | exact vp_in_nI (by omega) (by omega) | exact vp_nle (by assumption) (by omega) (by omega)) ?_
          rw [nI_clamp (show i < 2 ^ 31 by omega)]
          refine Go.iastore d_Model_readAll_56 rfl (md_at_r_6 (by omega) hB hS hC hD hE) (show vp_in (nI i) 6 from by first | exact vp_in_nI (by omega) (by omega) | exact vp_nle (by assumption) (by omega) (by omega)) ?_
          rw [nI_clamp (show i < 2 ^ 31 by omega)]
          refine Go.heq (md_arr_r_6 (by omega) hB hS hC hD hE) ?_
          refine Go.aload_1 d_Model_readAll_57 rfl ?_
          refine Go.getfield d_Model_readAll_58 rfl f_Model_397 (md_at_r (by omega) hB hS hC hD hE) (by rfl) ?_
          refine Go.iload_3 d_Model_readAll_61 rfl ?_
          refine Go.dup2 d_Model_readAll_62 rfl rfl rfl ?_
          refine Go.iaload d_Model_readAll_63 rfl (md_at_r_7 (by omega) hB hS hC hD hE) (show vp_in (nI i) 6 from by first | exact vp_in_nI (by omega) (by omega) | exact vp_nle (by assumption) (by omega) (by omega)) ?_
          rw [nI_clamp (show i < 2 ^ 31 by omega)]
          refine Go.iconst (v := 1) d_Model_readAll_64 rfl (by decide) ?_
          refine Go.iadd d_Model_readAll_65 rfl ?_
          refine Go.iastore d_Model_readAll_66 rfl (md_at_r_7 (by omega) hB hS hC hD hE) (show vp_in (nI i) 6 from by first | exact vp_in_nI (by omega) (by omega) | exact vp_nle (by assumption) (by omega) (by omega)) ?_
          rw [nI_clamp (show i < 2 ^ 31 by omega)]
          refine Go.heq (md_arr_r_7 (by omega) hB hS hC hD hE) ?_
          refine Go.aload_1 d_Model_readAll_67 rfl ?_
          refine Go.getfield d_Model_readAll_68 rfl f_Model_400 (md_at_r (by omega) hB hS hC hD hE) (by rfl) ?_
          refine Go.iload_2 d_Model_readAll_71 rfl ?_
          refine Go.dup2 d_Model_readAll_72 rfl rfl rfl ?_
          refine Go.iaload d_Model_readAll_73 rfl (md_at_r_18 (by omega) hB hS hC hD hE) (show vp_in (nI x2) 4 from by first | exact vp_in_nI (by omega) (by omega) | exact vp_nle (by assumption) (by omega) (by omega)) ?_
          rw [nI_clamp (show x2 < 2 ^ 31 by omega)]
          refine Go.iconst (v := 1) d_Model_readAll_74 rfl (by decide) ?_
          refine Go.iadd d_Model_readAll_75 rfl ?_
          refine Go.iastore d_Model_readAll_76 rfl (md_at_r_18 (by omega) hB hS hC hD hE) (show vp_in (nI x2) 4 from by first | exact vp_in_nI (by omega) (by omega) | exact vp_nle (by assumption) (by omega) (by omega)) ?_
          rw [nI_clamp (show x2 < 2 ^ 31 by omega)]
          refine Go.heq (md_arr_r_18 (by omega) hB hS hC hD hE) ?_
          refine Go.aload_1 d_Model_readAll_77 rfl ?_
          refine Go.dup d_Model_readAll_78 rfl rfl ?_
          refine Go.getfield d_Model_readAll_79 rfl f_Model_403 (md_at_r (by omega) hB hS hC hD hE) (by rfl) ?_
          refine Go.iconst (v := 1) d_Model_readAll_82 rfl (by decide) ?_
          refine Go.iadd d_Model_readAll_83 rfl ?_
          refine Go.putfield d_Model_readAll_84 rfl f_Model_403_p (Or.inl (fun C T N h => by cases h; rfl)) (md_at_r (by omega) hB hS hC hD hE) (by exact Nat.le_of_ble_eq_true rfl) rfl rfl ?_
          refine Go.heq (md_put_r_readings (by omega) hB hS hC hD hE) ?_
          refine Go.iinc_3 d_Model_readAll_87 rfl (by rfl) (nI_inc _) ?_
          refine Go.goto (t := 2) d_Model_readAll_90 (by decide) ?_
          rw [if_pos c30_2, if_neg c39_3] at hk
          exact ih (i + 1) _ (by omega) (by first | exact hn | (simp only []; exact hn)) hk
        · refine Go.goto (t := 87) d_Model_readAll_42 (by decide) ?_
          refine Go.iinc_3 d_Model_readAll_87 rfl (by rfl) (nI_inc _) ?_
          refine Go.goto (t := 2) d_Model_readAll_90 (by decide) ?_
          rw [if_pos c30_2, if_pos c39_3] at hk
          exact ih (i + 1) _ (by omega) (by first | exact hn | (simp only []; exact hn)) hk
set_option maxRecDepth 100000 in
set_option maxHeartbeats 800000 in
theorem sx_dy_l_Model_readAll_2 {M : MO} {H : SH} {x2 : Nat} : ∀ (k i : Nat) (Y : SX), sx_dy (l_Model_readAll_2 M H x2 k i Y) = sx_dy Y := by
  intro k
  induction k with
  | zero => intros; rfl
  | succ k ih =>
    intros
    unfold l_Model_readAll_2
    (repeat' split) <;> (try simp only [ih, sx_dy, sx_dy_Model_fall, sx_dy_l_Model_move_42, sx_dy_Model_move, sx_dy_Model_look, sx_dy_Model_filled, sx_dy_Model_drilled, sx_dy_Model_moved, sx_dy_Model_probed, sx_dy_l_Model_melt_1_st, sx_dy_l_Model_melt_1_br, sx_dy_Model_melt_1, sx_dy_l_Model_snow_st, sx_dy_l_Model_snow_br, sx_dy_Model_snow, sx_dy_l_Model_eat_1_45, sx_dy_Model_eat_1])
theorem d_Model_readAll_0 : decode M_Model_readAll.2.1 0 = .ok (.iconst 0, 1) := by decide +kernel
theorem d_Model_readAll_1 : decode M_Model_readAll.2.1 1 = .ok (.istore_n 3, 1) := by decide +kernel
theorem d_Model_readAll_93 : decode M_Model_readAll.2.1 93 = .ok (.return_, 1) := by decide +kernel
def s_Model_readAll (M : MO) (H : SH) (Y : SX) (x2 : Nat) : SX := (l_Model_readAll_2 M H x2 (sh_ha H 3) 0 Y)
set_option maxRecDepth 100000 in
set_option maxHeartbeats 800000 in
theorem c_Model_readAll {Γ : G9} {h : AH} {m q r sa sb ro z : Nat} {M : MO} {H : SH} {Y : SX} {x2 : Nat} {vx2 : Int32} (ex2 : vx2 = nI x2) (bx2 : x2 < 4) (geo : m + 2 ≤ q ∧ m + 2 ≤ r ∧ (q + 24 ≤ r ∨ r + 21 ≤ q)) (hB : sh_ha H 0 ≤ 5) (hS : sh_ha H 3 ≤ 6) (hC : sh_ha H 6 ≤ 4) (hD : sh_ha H 9 ≤ 4) (hE : sh_ha H 11 ≤ 4) : CallR Γ M_Model_readAll 0 [.ref m, .ref r, .int vx2] (md_ Γ h m q r sa sb ro M H Y) z none (md_ Γ h m q r sa sb ro M H (s_Model_readAll M H Y x2)) := by
  subst ex2
  refine Call.of_go (L := [some (.ref m), some (.ref r), some (.int (nI x2)), none]) (by decide +kernel) rfl (by exact Nat.le_of_ble_eq_true rfl) ?_
  unfold s_Model_readAll
  refine Go.iconst (v := 0) d_Model_readAll_0 rfl (by decide) ?_
  refine Go.istore_3 d_Model_readAll_1 rfl (by rfl) ?_
  refine l_Model_readAll_2_go (n := (sh_ha H 3)) bx2 geo hB hS hC hD hE (by omega) (sh_ha H 3) 0 Y (by omega) rfl ?_
  exact Go.vret d_Model_readAll_93 rfl ⟨rfl, by dsimp only, rfl⟩
set_option maxRecDepth 100000 in
set_option maxHeartbeats 800000 in
theorem sx_dy_Model_readAll {M : MO} {H : SH} {Y : SX} {x2 : Nat} : sx_dy (s_Model_readAll M H Y x2) = sx_dy Y := by
  unfold s_Model_readAll
  (repeat' split) <;> (try simp only [sx_dy, sx_dy_Model_fall, sx_dy_l_Model_move_42, sx_dy_Model_move, sx_dy_Model_look, sx_dy_Model_filled, sx_dy_Model_drilled, sx_dy_Model_moved, sx_dy_Model_probed, sx_dy_l_Model_melt_1_st, sx_dy_l_Model_melt_1_br, sx_dy_Model_melt_1, sx_dy_l_Model_snow_st, sx_dy_l_Model_snow_br, sx_dy_Model_snow, sx_dy_l_Model_eat_1_45, sx_dy_Model_eat_1, sx_dy_l_Model_readAll_2])
