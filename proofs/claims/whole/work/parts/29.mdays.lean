/-! the reference: orders, days -/
theorem okI_pos {i : Int32} {n : Nat} (h : okI i n = true) : ¬ i < 0 := fun w => (okI_in h) (Or.inl w)
theorem okI_lt {i : Int32} {n : Nat} (h : okI i n = true) : i.toNatClampNeg < n := Nat.not_le.mp fun w => (okI_in h) (Or.inr w)
theorem mr_at_q_23 {Γ : G9} {h : AH} {m q r sa sb : Nat} {M : MO} {H : SH} {Y : SX} (geo : m + 2 ≤ q ∧ m + 2 ≤ r ∧ (q + 24 ≤ r ∨ r + 21 ≤ q)) (hB : sh_ha H 0 ≤ 5) (hS : sh_ha H 3 ≤ 6) (hC : sh_ha H 6 ≤ 4) (hD : sh_ha H 9 ≤ 4) (hE : sh_ha H 11 ≤ 4) : (md_ Γ h m q r sa sb r M H Y) (q + 23) = some (aI Γ 20 (sh_wh H)) := by
  unfold md_
  exact ((blk_out (by omega)).trans (sh_g23))
theorem mr_at_q_20 {Γ : G9} {h : AH} {m q r sa sb : Nat} {M : MO} {H : SH} {Y : SX} (geo : m + 2 ≤ q ∧ m + 2 ≤ r ∧ (q + 24 ≤ r ∨ r + 21 ≤ q)) (hB : sh_ha H 0 ≤ 5) (hS : sh_ha H 3 ≤ 6) (hC : sh_ha H 6 ≤ 4) (hD : sh_ha H 9 ≤ 4) (hE : sh_ha H 11 ≤ 4) : (md_ Γ h m q r sa sb r M H Y) (q + 20) = some (aI Γ 20 (sh_on H)) := by
  unfold md_
  exact ((blk_out (by omega)).trans (sh_g20))
theorem mr_at_q_19 {Γ : G9} {h : AH} {m q r sa sb : Nat} {M : MO} {H : SH} {Y : SX} (geo : m + 2 ≤ q ∧ m + 2 ≤ r ∧ (q + 24 ≤ r ∨ r + 21 ≤ q)) (hB : sh_ha H 0 ≤ 5) (hS : sh_ha H 3 ≤ 6) (hC : sh_ha H 6 ≤ 4) (hD : sh_ha H 9 ≤ 4) (hE : sh_ha H 11 ≤ 4) : (md_ Γ h m q r sa sb r M H Y) (q + 19) = some (aI Γ 20 (sh_ds H)) := by
  unfold md_
  exact ((blk_out (by omega)).trans (sh_g19))
theorem mr_at_q_21 {Γ : G9} {h : AH} {m q r sa sb : Nat} {M : MO} {H : SH} {Y : SX} (geo : m + 2 ≤ q ∧ m + 2 ≤ r ∧ (q + 24 ≤ r ∨ r + 21 ≤ q)) (hB : sh_ha H 0 ≤ 5) (hS : sh_ha H 3 ≤ 6) (hC : sh_ha H 6 ≤ 4) (hD : sh_ha H 9 ≤ 4) (hE : sh_ha H 11 ≤ 4) : (md_ Γ h m q r sa sb r M H Y) (q + 21) = some (aI Γ 20 (sh_ot H)) := by
  unfold md_
  exact ((blk_out (by omega)).trans (sh_g21))
theorem mr_at_q_22 {Γ : G9} {h : AH} {m q r sa sb : Nat} {M : MO} {H : SH} {Y : SX} (geo : m + 2 ≤ q ∧ m + 2 ≤ r ∧ (q + 24 ≤ r ∨ r + 21 ≤ q)) (hB : sh_ha H 0 ≤ 5) (hS : sh_ha H 3 ≤ 6) (hC : sh_ha H 6 ≤ 4) (hD : sh_ha H 9 ≤ 4) (hE : sh_ha H 11 ≤ 4) : (md_ Γ h m q r sa sb r M H Y) (q + 22) = some (aI Γ 20 (sh_su H)) := by
  unfold md_
  exact ((blk_out (by omega)).trans (sh_g22))
theorem d_Model_isCarriedOut_0 : decode M_Model_isCarriedOut.2.1 0 = .ok (.aload_n 0, 1) := by decide +kernel
theorem d_Model_isCarriedOut_1 : decode M_Model_isCarriedOut.2.1 1 = .ok (.aload_n 0, 1) := by decide +kernel
theorem d_Model_isCarriedOut_2 : decode M_Model_isCarriedOut.2.1 2 = .ok (.getfield 20, 3) := by decide +kernel
theorem d_Model_isCarriedOut_5 : decode M_Model_isCarriedOut.2.1 5 = .ok (.getfield 233, 3) := by decide +kernel
theorem d_Model_isCarriedOut_8 : decode M_Model_isCarriedOut.2.1 8 = .ok (.iload_n 2, 1) := by decide +kernel
theorem d_Model_isCarriedOut_9 : decode M_Model_isCarriedOut.2.1 9 = .ok (.iaload, 1) := by decide +kernel
theorem d_Model_isCarriedOut_10 : decode M_Model_isCarriedOut.2.1 10 = .ok (.putfield 261, 3) := by decide +kernel
theorem d_Model_isCarriedOut_13 : decode M_Model_isCarriedOut.2.1 13 = .ok (.aload_n 0, 1) := by decide +kernel
theorem d_Model_isCarriedOut_14 : decode M_Model_isCarriedOut.2.1 14 = .ok (.getfield 261, 3) := by decide +kernel
theorem d_Model_isCarriedOut_17 : decode M_Model_isCarriedOut.2.1 17 = .ok (.iconst (-1), 1) := by decide +kernel
theorem d_Model_isCarriedOut_18 : decode M_Model_isCarriedOut.2.1 18 = .ok (.if_icmp .eq 12, 3) := by decide +kernel
theorem d_Model_isCarriedOut_21 : decode M_Model_isCarriedOut.2.1 21 = .ok (.aload_n 0, 1) := by decide +kernel
theorem d_Model_isCarriedOut_22 : decode M_Model_isCarriedOut.2.1 22 = .ok (.invokevirtual 274, 3) := by decide +kernel
theorem d_Model_isCarriedOut_25 : decode M_Model_isCarriedOut.2.1 25 = .ok (.ifCond .ne 5, 3) := by decide +kernel
theorem d_Model_isCarriedOut_28 : decode M_Model_isCarriedOut.2.1 28 = .ok (.iconst 0, 1) := by decide +kernel
theorem d_Model_isCarriedOut_29 : decode M_Model_isCarriedOut.2.1 29 = .ok (.ireturn, 1) := by decide +kernel
theorem d_Model_isCarriedOut_30 : decode M_Model_isCarriedOut.2.1 30 = .ok (.aload_n 0, 1) := by decide +kernel
theorem d_Model_isCarriedOut_31 : decode M_Model_isCarriedOut.2.1 31 = .ok (.getfield 20, 3) := by decide +kernel
theorem d_Model_isCarriedOut_34 : decode M_Model_isCarriedOut.2.1 34 = .ok (.getfield 190, 3) := by decide +kernel
theorem d_Model_isCarriedOut_37 : decode M_Model_isCarriedOut.2.1 37 = .ok (.iload_n 2, 1) := by decide +kernel
theorem d_Model_isCarriedOut_38 : decode M_Model_isCarriedOut.2.1 38 = .ok (.iaload, 1) := by decide +kernel
theorem d_Model_isCarriedOut_39 : decode M_Model_isCarriedOut.2.1 39 = .ok (.istore_n 3, 1) := by decide +kernel
theorem d_Model_isCarriedOut_40 : decode M_Model_isCarriedOut.2.1 40 = .ok (.aload_n 0, 1) := by decide +kernel
theorem d_Model_isCarriedOut_41 : decode M_Model_isCarriedOut.2.1 41 = .ok (.getfield 20, 3) := by decide +kernel
theorem d_Model_isCarriedOut_44 : decode M_Model_isCarriedOut.2.1 44 = .ok (.getfield 230, 3) := by decide +kernel
theorem d_Model_isCarriedOut_47 : decode M_Model_isCarriedOut.2.1 47 = .ok (.iload_n 2, 1) := by decide +kernel
theorem d_Model_isCarriedOut_48 : decode M_Model_isCarriedOut.2.1 48 = .ok (.iaload, 1) := by decide +kernel
theorem d_Model_isCarriedOut_49 : decode M_Model_isCarriedOut.2.1 49 = .ok (.tableswitch 82 15 21 #[43, 51, 59, 82, 82, 82, 75], 43) := by decide +kernel
theorem d_Model_isCarriedOut_92 : decode M_Model_isCarriedOut.2.1 92 = .ok (.aload_n 0, 1) := by decide +kernel
theorem d_Model_isCarriedOut_93 : decode M_Model_isCarriedOut.2.1 93 = .ok (.aload_n 1, 1) := by decide +kernel
theorem d_Model_isCarriedOut_94 : decode M_Model_isCarriedOut.2.1 94 = .ok (.iload_n 3, 1) := by decide +kernel
theorem d_Model_isCarriedOut_95 : decode M_Model_isCarriedOut.2.1 95 = .ok (.iconst 1, 1) := by decide +kernel
theorem d_Model_isCarriedOut_96 : decode M_Model_isCarriedOut.2.1 96 = .ok (.invokevirtual 375, 3) := by decide +kernel
theorem d_Model_isCarriedOut_99 : decode M_Model_isCarriedOut.2.1 99 = .ok (.ireturn, 1) := by decide +kernel
theorem d_Model_isCarriedOut_100 : decode M_Model_isCarriedOut.2.1 100 = .ok (.aload_n 0, 1) := by decide +kernel
theorem d_Model_isCarriedOut_101 : decode M_Model_isCarriedOut.2.1 101 = .ok (.aload_n 1, 1) := by decide +kernel
theorem d_Model_isCarriedOut_102 : decode M_Model_isCarriedOut.2.1 102 = .ok (.iload_n 3, 1) := by decide +kernel
theorem d_Model_isCarriedOut_103 : decode M_Model_isCarriedOut.2.1 103 = .ok (.iconst 0, 1) := by decide +kernel
theorem d_Model_isCarriedOut_104 : decode M_Model_isCarriedOut.2.1 104 = .ok (.invokevirtual 375, 3) := by decide +kernel
theorem d_Model_isCarriedOut_107 : decode M_Model_isCarriedOut.2.1 107 = .ok (.ireturn, 1) := by decide +kernel
theorem d_Model_isCarriedOut_108 : decode M_Model_isCarriedOut.2.1 108 = .ok (.aload_n 0, 1) := by decide +kernel
theorem d_Model_isCarriedOut_109 : decode M_Model_isCarriedOut.2.1 109 = .ok (.aload_n 1, 1) := by decide +kernel
theorem d_Model_isCarriedOut_110 : decode M_Model_isCarriedOut.2.1 110 = .ok (.aload_n 0, 1) := by decide +kernel
theorem d_Model_isCarriedOut_111 : decode M_Model_isCarriedOut.2.1 111 = .ok (.getfield 20, 3) := by decide +kernel
theorem d_Model_isCarriedOut_114 : decode M_Model_isCarriedOut.2.1 114 = .ok (.getfield 193, 3) := by decide +kernel
theorem d_Model_isCarriedOut_117 : decode M_Model_isCarriedOut.2.1 117 = .ok (.iload_n 2, 1) := by decide +kernel
theorem d_Model_isCarriedOut_118 : decode M_Model_isCarriedOut.2.1 118 = .ok (.iaload, 1) := by decide +kernel
theorem d_Model_isCarriedOut_119 : decode M_Model_isCarriedOut.2.1 119 = .ok (.iload_n 3, 1) := by decide +kernel
theorem d_Model_isCarriedOut_120 : decode M_Model_isCarriedOut.2.1 120 = .ok (.invokevirtual 378, 3) := by decide +kernel
theorem d_Model_isCarriedOut_123 : decode M_Model_isCarriedOut.2.1 123 = .ok (.ireturn, 1) := by decide +kernel
theorem d_Model_isCarriedOut_124 : decode M_Model_isCarriedOut.2.1 124 = .ok (.aload_n 0, 1) := by decide +kernel
theorem d_Model_isCarriedOut_125 : decode M_Model_isCarriedOut.2.1 125 = .ok (.aload_n 1, 1) := by decide +kernel
theorem d_Model_isCarriedOut_126 : decode M_Model_isCarriedOut.2.1 126 = .ok (.iload_n 3, 1) := by decide +kernel
theorem d_Model_isCarriedOut_127 : decode M_Model_isCarriedOut.2.1 127 = .ok (.invokevirtual 380, 3) := by decide +kernel
theorem d_Model_isCarriedOut_130 : decode M_Model_isCarriedOut.2.1 130 = .ok (.ireturn, 1) := by decide +kernel
theorem d_Model_isCarriedOut_131 : decode M_Model_isCarriedOut.2.1 131 = .ok (.aload_n 0, 1) := by decide +kernel
theorem d_Model_isCarriedOut_132 : decode M_Model_isCarriedOut.2.1 132 = .ok (.aload_n 0, 1) := by decide +kernel
theorem d_Model_isCarriedOut_133 : decode M_Model_isCarriedOut.2.1 133 = .ok (.getfield 20, 3) := by decide +kernel
theorem d_Model_isCarriedOut_136 : decode M_Model_isCarriedOut.2.1 136 = .ok (.getfield 248, 3) := by decide +kernel
theorem d_Model_isCarriedOut_139 : decode M_Model_isCarriedOut.2.1 139 = .ok (.iload_n 2, 1) := by decide +kernel
theorem d_Model_isCarriedOut_140 : decode M_Model_isCarriedOut.2.1 140 = .ok (.iaload, 1) := by decide +kernel
theorem d_Model_isCarriedOut_141 : decode M_Model_isCarriedOut.2.1 141 = .ok (.putfield 261, 3) := by decide +kernel
theorem d_Model_isCarriedOut_144 : decode M_Model_isCarriedOut.2.1 144 = .ok (.aload_n 0, 1) := by decide +kernel
theorem d_Model_isCarriedOut_145 : decode M_Model_isCarriedOut.2.1 145 = .ok (.aload_n 1, 1) := by decide +kernel
theorem d_Model_isCarriedOut_146 : decode M_Model_isCarriedOut.2.1 146 = .ok (.iload_n 3, 1) := by decide +kernel
theorem d_Model_isCarriedOut_147 : decode M_Model_isCarriedOut.2.1 147 = .ok (.aload_n 0, 1) := by decide +kernel
theorem d_Model_isCarriedOut_148 : decode M_Model_isCarriedOut.2.1 148 = .ok (.invokevirtual 289, 3) := by decide +kernel
theorem d_Model_isCarriedOut_151 : decode M_Model_isCarriedOut.2.1 151 = .ok (.invokevirtual 384, 3) := by decide +kernel
theorem d_Model_isCarriedOut_154 : decode M_Model_isCarriedOut.2.1 154 = .ok (.ifCond .le 7, 3) := by decide +kernel
theorem d_Model_isCarriedOut_157 : decode M_Model_isCarriedOut.2.1 157 = .ok (.iconst 1, 1) := by decide +kernel
theorem d_Model_isCarriedOut_158 : decode M_Model_isCarriedOut.2.1 158 = .ok (.goto 4, 3) := by decide +kernel
theorem d_Model_isCarriedOut_161 : decode M_Model_isCarriedOut.2.1 161 = .ok (.iconst 0, 1) := by decide +kernel
theorem d_Model_isCarriedOut_162 : decode M_Model_isCarriedOut.2.1 162 = .ok (.ireturn, 1) := by decide +kernel
def s_Model_isCarriedOut (M : MO) (H : SH) (Y : SX) (x2 : Nat) : Option (Int32 × MO × SX) := (if x2 < 20 then (if ((sh_wh H) x2) = (-1) then (if x2 < 20 then (if x2 < 20 then (if ((sh_ds H) x2) = 15 then (if okI ((sh_on H) x2) 4 = true then (if b01 (s_Model_moved (mo_wk' M ((sh_wh H) x2)) H Y ((sh_on H) x2).toNatClampNeg 1).1 = true then some ((s_Model_moved (mo_wk' M ((sh_wh H) x2)) H Y ((sh_on H) x2).toNatClampNeg 1).1, (mo_wk' M ((sh_wh H) x2)), (s_Model_moved (mo_wk' M ((sh_wh H) x2)) H Y ((sh_on H) x2).toNatClampNeg 1).2) else none) else none) else (if ((sh_ds H) x2) = 16 then (if okI ((sh_on H) x2) 4 = true then (if b01 (s_Model_moved (mo_wk' M ((sh_wh H) x2)) H Y ((sh_on H) x2).toNatClampNeg 0).1 = true then some ((s_Model_moved (mo_wk' M ((sh_wh H) x2)) H Y ((sh_on H) x2).toNatClampNeg 0).1, (mo_wk' M ((sh_wh H) x2)), (s_Model_moved (mo_wk' M ((sh_wh H) x2)) H Y ((sh_on H) x2).toNatClampNeg 0).2) else none) else none) else (if ((sh_ds H) x2) = 17 then (if x2 < 20 then (if okI ((sh_ot H) x2) 4 = true then (if okI ((sh_on H) x2) 4 = true then (if b01 (s_Model_probed (mo_wk' M ((sh_wh H) x2)) H Y ((sh_ot H) x2).toNatClampNeg ((sh_on H) x2).toNatClampNeg).1 = true then some ((s_Model_probed (mo_wk' M ((sh_wh H) x2)) H Y ((sh_ot H) x2).toNatClampNeg ((sh_on H) x2).toNatClampNeg).1, (mo_wk' M ((sh_wh H) x2)), (s_Model_probed (mo_wk' M ((sh_wh H) x2)) H Y ((sh_ot H) x2).toNatClampNeg ((sh_on H) x2).toNatClampNeg).2) else none) else none) else none) else none) else (if ((sh_ds H) x2) = 21 then (if okI ((sh_on H) x2) 6 = true then (if b01 (s_Model_drilled (mo_wk' M ((sh_wh H) x2)) H Y ((sh_on H) x2).toNatClampNeg).1 = true then some ((s_Model_drilled (mo_wk' M ((sh_wh H) x2)) H Y ((sh_on H) x2).toNatClampNeg).1, (mo_wk' M ((sh_wh H) x2)), (s_Model_drilled (mo_wk' M ((sh_wh H) x2)) H Y ((sh_on H) x2).toNatClampNeg).2) else none) else none) else (if x2 < 20 then ((ev_ H Y 64 3 (mo_wk' (mo_wk' M ((sh_wh H) x2)) ((sh_su H) x2))).bind fun p148_20 => (if okI ((sh_on H) x2) 4 = true then (if (s_Model_filled p148_20.2 H Y ((sh_on H) x2).toNatClampNeg p148_20.1).1 ≤ 0 then some (0, p148_20.2, (s_Model_filled p148_20.2 H Y ((sh_on H) x2).toNatClampNeg p148_20.1).2) else some (1, p148_20.2, (s_Model_filled p148_20.2 H Y ((sh_on H) x2).toNatClampNeg p148_20.1).2)) else none)) else none))))) else none) else none) else ((ev_ H Y 64 0 (mo_wk' M ((sh_wh H) x2))).bind fun p22_23 => (if p22_23.1 = 0 then some (0, p22_23.2, Y) else (if x2 < 20 then (if x2 < 20 then (if ((sh_ds H) x2) = 15 then (if okI ((sh_on H) x2) 4 = true then (if b01 (s_Model_moved p22_23.2 H Y ((sh_on H) x2).toNatClampNeg 1).1 = true then some ((s_Model_moved p22_23.2 H Y ((sh_on H) x2).toNatClampNeg 1).1, p22_23.2, (s_Model_moved p22_23.2 H Y ((sh_on H) x2).toNatClampNeg 1).2) else none) else none) else (if ((sh_ds H) x2) = 16 then (if okI ((sh_on H) x2) 4 = true then (if b01 (s_Model_moved p22_23.2 H Y ((sh_on H) x2).toNatClampNeg 0).1 = true then some ((s_Model_moved p22_23.2 H Y ((sh_on H) x2).toNatClampNeg 0).1, p22_23.2, (s_Model_moved p22_23.2 H Y ((sh_on H) x2).toNatClampNeg 0).2) else none) else none) else (if ((sh_ds H) x2) = 17 then (if x2 < 20 then (if okI ((sh_ot H) x2) 4 = true then (if okI ((sh_on H) x2) 4 = true then (if b01 (s_Model_probed p22_23.2 H Y ((sh_ot H) x2).toNatClampNeg ((sh_on H) x2).toNatClampNeg).1 = true then some ((s_Model_probed p22_23.2 H Y ((sh_ot H) x2).toNatClampNeg ((sh_on H) x2).toNatClampNeg).1, p22_23.2, (s_Model_probed p22_23.2 H Y ((sh_ot H) x2).toNatClampNeg ((sh_on H) x2).toNatClampNeg).2) else none) else none) else none) else none) else (if ((sh_ds H) x2) = 21 then (if okI ((sh_on H) x2) 6 = true then (if b01 (s_Model_drilled p22_23.2 H Y ((sh_on H) x2).toNatClampNeg).1 = true then some ((s_Model_drilled p22_23.2 H Y ((sh_on H) x2).toNatClampNeg).1, p22_23.2, (s_Model_drilled p22_23.2 H Y ((sh_on H) x2).toNatClampNeg).2) else none) else none) else (if x2 < 20 then ((ev_ H Y 64 3 (mo_wk' p22_23.2 ((sh_su H) x2))).bind fun p148_42 => (if okI ((sh_on H) x2) 4 = true then (if (s_Model_filled p148_42.2 H Y ((sh_on H) x2).toNatClampNeg p148_42.1).1 ≤ 0 then some (0, p148_42.2, (s_Model_filled p148_42.2 H Y ((sh_on H) x2).toNatClampNeg p148_42.1).2) else some (1, p148_42.2, (s_Model_filled p148_42.2 H Y ((sh_on H) x2).toNatClampNeg p148_42.1).2)) else none)) else none))))) else none) else none)))) else none)
set_option maxRecDepth 100000 in
set_option maxHeartbeats 4000000 in
theorem c_Model_isCarriedOut {Γ : G9} {h : AH} {m q r sa sb z : Nat} {M : MO} {H : SH} {Y : SX} {x2 : Nat} {p : Int32 × MO × SX} (bx2 : x2 < 20) (geo : m + 2 ≤ q ∧ m + 2 ≤ r ∧ (q + 24 ≤ r ∨ r + 21 ≤ q)) (hB : sh_ha H 0 ≤ 5) (hS : sh_ha H 3 ≤ 6) (hC : sh_ha H 6 ≤ 4) (hD : sh_ha H 9 ≤ 4) (hE : sh_ha H 11 ≤ 4) (hdy : sx_dy Y < 1000000) (hr : s_Model_isCarriedOut M H Y x2 = some p) : CallR Γ M_Model_isCarriedOut 72 [.ref m, .ref r, .int (nI x2)] (md_ Γ h m q r sa sb r M H Y) z (some (.int p.1)) (md_ Γ h m q r sa sb r p.2.1 H p.2.2) := by
  refine Call.of_go (L := [some (.ref m), some (.ref r), some (.int (nI x2)), none]) (by decide +kernel) rfl (by exact Nat.le_of_ble_eq_true rfl) ?_
  unfold s_Model_isCarriedOut at hr
  refine Go.aload_0 d_Model_isCarriedOut_0 rfl ?_
  refine Go.aload_0 d_Model_isCarriedOut_1 rfl ?_
  refine Go.getfield d_Model_isCarriedOut_2 rfl f_Model_20 (mr_at_m (by omega) hB hS hC hD hE) (by rfl) ?_
  refine Go.getfield d_Model_isCarriedOut_5 rfl f_Model_233 (mr_at_q (by omega) hB hS hC hD hE) (by rfl) ?_
  refine Go.iload_2 d_Model_isCarriedOut_8 rfl ?_
  have o9_1 : x2 < 20 := Classical.byContradiction fun w => by
    rw [if_neg w] at hr
    cases hr
  refine Go.iaload d_Model_isCarriedOut_9 rfl (mr_at_q_23 (by omega) hB hS hC hD hE) (vp_in_nI o9_1 (by decide)) ?_
  rw [nI_clamp (show x2 < 2 ^ 31 by omega)]
  refine Go.putfield d_Model_isCarriedOut_10 rfl f_Model_261_p (Or.inl (fun C T N h => by cases h; rfl)) (mr_at_m (by omega) hB hS hC hD hE) (by exact Nat.le_of_ble_eq_true rfl) rfl rfl ?_
  refine Go.heq (mr_put_m_walk (by omega) hB hS hC hD hE) ?_
  refine Go.aload_0 d_Model_isCarriedOut_13 rfl ?_
  refine Go.getfield d_Model_isCarriedOut_14 rfl f_Model_261 (mr_at_m (by omega) hB hS hC hD hE) (by rfl) ?_
  refine Go.iconst (v := (-1)) d_Model_isCarriedOut_17 rfl (by decide) ?_
  refine Go.icmp_eq (t := 30) d_Model_isCarriedOut_18 (by decide) rfl (fun c18_2 => ?_) (fun c18_2 => ?_)
  · refine Go.aload_0 d_Model_isCarriedOut_30 rfl ?_
    refine Go.getfield d_Model_isCarriedOut_31 rfl f_Model_20 (mr_at_m (by omega) hB hS hC hD hE) (by rfl) ?_
    refine Go.getfield d_Model_isCarriedOut_34 rfl f_Model_190 (mr_at_q (by omega) hB hS hC hD hE) (by rfl) ?_
    refine Go.iload_2 d_Model_isCarriedOut_37 rfl ?_
    have o38_3 : x2 < 20 := Classical.byContradiction fun w => by
      rw [if_pos o9_1, if_pos c18_2, if_neg w] at hr
      cases hr
    refine Go.iaload d_Model_isCarriedOut_38 rfl (mr_at_q_20 (by omega) hB hS hC hD hE) (vp_in_nI o38_3 (by decide)) ?_
    rw [nI_clamp (show x2 < 2 ^ 31 by omega)]
    refine Go.istore_3 d_Model_isCarriedOut_39 rfl (by rfl) ?_
    refine Go.aload_0 d_Model_isCarriedOut_40 rfl ?_
    refine Go.getfield d_Model_isCarriedOut_41 rfl f_Model_20 (mr_at_m (by omega) hB hS hC hD hE) (by rfl) ?_
    refine Go.getfield d_Model_isCarriedOut_44 rfl f_Model_230 (mr_at_q (by omega) hB hS hC hD hE) (by rfl) ?_
    refine Go.iload_2 d_Model_isCarriedOut_47 rfl ?_
    have o48_4 : x2 < 20 := Classical.byContradiction fun w => by
      rw [if_pos o9_1, if_pos c18_2, if_pos o38_3, if_neg w] at hr
      cases hr
    refine Go.iaload d_Model_isCarriedOut_48 rfl (mr_at_q_19 (by omega) hB hS hC hD hE) (vp_in_nI o48_4 (by decide)) ?_
    rw [nI_clamp (show x2 < 2 ^ 31 by omega)]
    by_cases w49_5 : ((sh_ds H) x2) = 15
    · refine Go.tsw (t := 92) d_Model_isCarriedOut_49 (by rw [w49_5]; rfl) ?_
      refine Go.aload_0 d_Model_isCarriedOut_92 rfl ?_
      refine Go.aload_1 d_Model_isCarriedOut_93 rfl ?_
      refine Go.iload_3 d_Model_isCarriedOut_94 rfl ?_
      refine Go.iconst (v := 1) d_Model_isCarriedOut_95 rfl (by decide) ?_
      have o96_6 : okI ((sh_on H) x2) 4 = true := Classical.byContradiction fun w => by
        rw [if_pos o9_1, if_pos c18_2, if_pos o38_3, if_pos o48_4, if_pos w49_5, if_neg w] at hr
        cases hr
      refine Go.cv3r d_Model_isCarriedOut_96 rfl l_Model_375 k_Model_moved_v (mr_at_m (by omega) hB hS hC hD hE) rfl (c_Model_moved (x2 := ((sh_on H) x2).toNatClampNeg) (nI_back (okI_pos o96_6)) (okI_lt o96_6) (by omega) hB hS hC hD hE) (Nat.ble_eq_true_of_le (by omega)) rfl rfl ?_
      have b99_7 : b01 (s_Model_moved (mo_wk' M ((sh_wh H) x2)) H Y ((sh_on H) x2).toNatClampNeg 1).1 = true := Classical.byContradiction fun w => by
        rw [if_pos o9_1, if_pos c18_2, if_pos o38_3, if_pos o48_4, if_pos w49_5, if_pos o96_6, if_neg w] at hr
        cases hr
      rw [if_pos o9_1, if_pos c18_2, if_pos o38_3, if_pos o48_4, if_pos w49_5, if_pos o96_6, if_pos b99_7] at hr
      cases hr
      exact Go.iret d_Model_isCarriedOut_99 rfl (nb (b01_or b99_7)) ⟨rfl, by dsimp only, rfl⟩
    by_cases w49_8 : ((sh_ds H) x2) = 16
    · refine Go.tsw (t := 100) d_Model_isCarriedOut_49 (by rw [w49_8]; rfl) ?_
      refine Go.aload_0 d_Model_isCarriedOut_100 rfl ?_
      refine Go.aload_1 d_Model_isCarriedOut_101 rfl ?_
      refine Go.iload_3 d_Model_isCarriedOut_102 rfl ?_
      refine Go.iconst (v := 0) d_Model_isCarriedOut_103 rfl (by decide) ?_
      have o104_9 : okI ((sh_on H) x2) 4 = true := Classical.byContradiction fun w => by
        rw [if_pos o9_1, if_pos c18_2, if_pos o38_3, if_pos o48_4, if_neg w49_5, if_pos w49_8, if_neg w] at hr
        cases hr
      refine Go.cv3r d_Model_isCarriedOut_104 rfl l_Model_375 k_Model_moved_v (mr_at_m (by omega) hB hS hC hD hE) rfl (c_Model_moved (x2 := ((sh_on H) x2).toNatClampNeg) (nI_back (okI_pos o104_9)) (okI_lt o104_9) (by omega) hB hS hC hD hE) (Nat.ble_eq_true_of_le (by omega)) rfl rfl ?_
      have b107_10 : b01 (s_Model_moved (mo_wk' M ((sh_wh H) x2)) H Y ((sh_on H) x2).toNatClampNeg 0).1 = true := Classical.byContradiction fun w => by
        rw [if_pos o9_1, if_pos c18_2, if_pos o38_3, if_pos o48_4, if_neg w49_5, if_pos w49_8, if_pos o104_9, if_neg w] at hr
        cases hr
      rw [if_pos o9_1, if_pos c18_2, if_pos o38_3, if_pos o48_4, if_neg w49_5, if_pos w49_8, if_pos o104_9, if_pos b107_10] at hr
      cases hr
      exact Go.iret d_Model_isCarriedOut_107 rfl (nb (b01_or b107_10)) ⟨rfl, by dsimp only, rfl⟩
    by_cases w49_11 : ((sh_ds H) x2) = 17
    · refine Go.tsw (t := 108) d_Model_isCarriedOut_49 (by rw [w49_11]; rfl) ?_
      refine Go.aload_0 d_Model_isCarriedOut_108 rfl ?_
      refine Go.aload_1 d_Model_isCarriedOut_109 rfl ?_
      refine Go.aload_0 d_Model_isCarriedOut_110 rfl ?_
      refine Go.getfield d_Model_isCarriedOut_111 rfl f_Model_20 (mr_at_m (by omega) hB hS hC hD hE) (by rfl) ?_
      refine Go.getfield d_Model_isCarriedOut_114 rfl f_Model_193 (mr_at_q (by omega) hB hS hC hD hE) (by rfl) ?_
      refine Go.iload_2 d_Model_isCarriedOut_117 rfl ?_
      have o118_12 : x2 < 20 := Classical.byContradiction fun w => by
        rw [if_pos o9_1, if_pos c18_2, if_pos o38_3, if_pos o48_4, if_neg w49_5, if_neg w49_8, if_pos w49_11, if_neg w] at hr
        cases hr
      refine Go.iaload d_Model_isCarriedOut_118 rfl (mr_at_q_21 (by omega) hB hS hC hD hE) (vp_in_nI o118_12 (by decide)) ?_
      rw [nI_clamp (show x2 < 2 ^ 31 by omega)]
      refine Go.iload_3 d_Model_isCarriedOut_119 rfl ?_
      have o120_13 : okI ((sh_ot H) x2) 4 = true := Classical.byContradiction fun w => by
        rw [if_pos o9_1, if_pos c18_2, if_pos o38_3, if_pos o48_4, if_neg w49_5, if_neg w49_8, if_pos w49_11, if_pos o118_12, if_neg w] at hr
        cases hr
      have o120_14 : okI ((sh_on H) x2) 4 = true := Classical.byContradiction fun w => by
        rw [if_pos o9_1, if_pos c18_2, if_pos o38_3, if_pos o48_4, if_neg w49_5, if_neg w49_8, if_pos w49_11, if_pos o118_12, if_pos o120_13, if_neg w] at hr
        cases hr
      refine Go.cv3r d_Model_isCarriedOut_120 rfl l_Model_378 k_Model_probed_v (mr_at_m (by omega) hB hS hC hD hE) rfl (c_Model_probed (x2 := ((sh_ot H) x2).toNatClampNeg) (x3 := ((sh_on H) x2).toNatClampNeg) (nI_back (okI_pos o120_13)) (okI_lt o120_13) (nI_back (okI_pos o120_14)) (okI_lt o120_14) (by omega) hB hS hC hD hE) (Nat.ble_eq_true_of_le (by omega)) rfl rfl ?_
      have b123_15 : b01 (s_Model_probed (mo_wk' M ((sh_wh H) x2)) H Y ((sh_ot H) x2).toNatClampNeg ((sh_on H) x2).toNatClampNeg).1 = true := Classical.byContradiction fun w => by
        rw [if_pos o9_1, if_pos c18_2, if_pos o38_3, if_pos o48_4, if_neg w49_5, if_neg w49_8, if_pos w49_11, if_pos o118_12, if_pos o120_13, if_pos o120_14, if_neg w] at hr
        cases hr
      rw [if_pos o9_1, if_pos c18_2, if_pos o38_3, if_pos o48_4, if_neg w49_5, if_neg w49_8, if_pos w49_11, if_pos o118_12, if_pos o120_13, if_pos o120_14, if_pos b123_15] at hr
      cases hr
      exact Go.iret d_Model_isCarriedOut_123 rfl (nb (b01_or b123_15)) ⟨rfl, by dsimp only, rfl⟩
    by_cases w49_16 : ((sh_ds H) x2) = 21
    · refine Go.tsw (t := 124) d_Model_isCarriedOut_49 (by rw [w49_16]; rfl) ?_
      refine Go.aload_0 d_Model_isCarriedOut_124 rfl ?_
      refine Go.aload_1 d_Model_isCarriedOut_125 rfl ?_
      refine Go.iload_3 d_Model_isCarriedOut_126 rfl ?_
      have o127_17 : okI ((sh_on H) x2) 6 = true := Classical.byContradiction fun w => by
        rw [if_pos o9_1, if_pos c18_2, if_pos o38_3, if_pos o48_4, if_neg w49_5, if_neg w49_8, if_neg w49_11, if_pos w49_16, if_neg w] at hr
        cases hr
      refine Go.cv2r d_Model_isCarriedOut_127 rfl l_Model_380 k_Model_drilled_v (mr_at_m (by omega) hB hS hC hD hE) rfl (c_Model_drilled (x2 := ((sh_on H) x2).toNatClampNeg) (nI_back (okI_pos o127_17)) (okI_lt o127_17) (by omega) hB hS hC hD hE) (Nat.ble_eq_true_of_le (by omega)) rfl rfl ?_
      have b130_18 : b01 (s_Model_drilled (mo_wk' M ((sh_wh H) x2)) H Y ((sh_on H) x2).toNatClampNeg).1 = true := Classical.byContradiction fun w => by
        rw [if_pos o9_1, if_pos c18_2, if_pos o38_3, if_pos o48_4, if_neg w49_5, if_neg w49_8, if_neg w49_11, if_pos w49_16, if_pos o127_17, if_neg w] at hr
        cases hr
      rw [if_pos o9_1, if_pos c18_2, if_pos o38_3, if_pos o48_4, if_neg w49_5, if_neg w49_8, if_neg w49_11, if_pos w49_16, if_pos o127_17, if_pos b130_18] at hr
      cases hr
      exact Go.iret d_Model_isCarriedOut_130 rfl (nb (b01_or b130_18)) ⟨rfl, by dsimp only, rfl⟩
    refine Go.tsw (t := 131) d_Model_isCarriedOut_49 (tsw_d fun n hn => by
          match n, hn with
          | 0, _ => exact Or.inr fun w => w49_5 (i32_eq w)
          | 1, _ => exact Or.inr fun w => w49_8 (i32_eq w)
          | 2, _ => exact Or.inr fun w => w49_11 (i32_eq w)
          | 3, _ => exact Or.inl rfl
          | 4, _ => exact Or.inl rfl
          | 5, _ => exact Or.inl rfl
          | 6, _ => exact Or.inr fun w => w49_16 (i32_eq w)
          | _ + 7, w => exact absurd w (by simp)) ?_
    refine Go.aload_0 d_Model_isCarriedOut_131 rfl ?_
    refine Go.aload_0 d_Model_isCarriedOut_132 rfl ?_
    refine Go.getfield d_Model_isCarriedOut_133 rfl f_Model_20 (mr_at_m (by omega) hB hS hC hD hE) (by rfl) ?_
    refine Go.getfield d_Model_isCarriedOut_136 rfl f_Model_248 (mr_at_q (by omega) hB hS hC hD hE) (by rfl) ?_
    refine Go.iload_2 d_Model_isCarriedOut_139 rfl ?_
    have o140_19 : x2 < 20 := Classical.byContradiction fun w => by
      rw [if_pos o9_1, if_pos c18_2, if_pos o38_3, if_pos o48_4, if_neg w49_5, if_neg w49_8, if_neg w49_11, if_neg w49_16, if_neg w] at hr
      cases hr
    refine Go.iaload d_Model_isCarriedOut_140 rfl (mr_at_q_22 (by omega) hB hS hC hD hE) (vp_in_nI o140_19 (by decide)) ?_
    rw [nI_clamp (show x2 < 2 ^ 31 by omega)]
    refine Go.putfield d_Model_isCarriedOut_141 rfl f_Model_261_p (Or.inl (fun C T N h => by cases h; rfl)) (mr_at_m (by omega) hB hS hC hD hE) (by exact Nat.le_of_ble_eq_true rfl) rfl rfl ?_
    refine Go.heq (mr_put_m_walk (by omega) hB hS hC hD hE) ?_
    refine Go.aload_0 d_Model_isCarriedOut_144 rfl ?_
    refine Go.aload_1 d_Model_isCarriedOut_145 rfl ?_
    refine Go.iload_3 d_Model_isCarriedOut_146 rfl ?_
    refine Go.aload_0 d_Model_isCarriedOut_147 rfl ?_
    rw [if_pos o9_1, if_pos c18_2, if_pos o38_3, if_pos o48_4, if_neg w49_5, if_neg w49_8, if_neg w49_11, if_neg w49_16, if_pos o140_19] at hr
    obtain ⟨p148_20, hp148_20, hr⟩ := Option.bind_eq_some_iff.mp hr
    try dsimp only at hr
    refine Go.cv0r d_Model_isCarriedOut_148 rfl l_Model_289 k_Model_sum_v (mr_at_m (by omega) hB hS hC hD hE) rfl ((ev_go (by omega) hB hS hC hD hE hdy 64).2.2.2.1 _ _ hp148_20) (Nat.ble_eq_true_of_le (by omega)) rfl rfl ?_
    have o151_21 : okI ((sh_on H) x2) 4 = true := Classical.byContradiction fun w => by
      rw [if_neg w] at hr
      cases hr
    refine Go.cv3r d_Model_isCarriedOut_151 rfl l_Model_384 k_Model_filled_v (mr_at_m (by omega) hB hS hC hD hE) rfl (c_Model_filled (x2 := ((sh_on H) x2).toNatClampNeg) (nI_back (okI_pos o151_21)) (okI_lt o151_21) (by omega) hB hS hC hD hE) (Nat.ble_eq_true_of_le (by omega)) rfl rfl ?_
    refine Go.if_le (t := 161) d_Model_isCarriedOut_154 (by decide) rfl (fun c154_22 => ?_) (fun c154_22 => ?_)
    · refine Go.iconst (v := 0) d_Model_isCarriedOut_161 rfl (by decide) ?_
      rw [if_pos o151_21, if_pos c154_22] at hr
      cases hr
      exact Go.iret d_Model_isCarriedOut_162 rfl rfl ⟨rfl, by dsimp only, rfl⟩
    · refine Go.iconst (v := 1) d_Model_isCarriedOut_157 rfl (by decide) ?_
      refine Go.goto (t := 162) d_Model_isCarriedOut_158 (by decide) ?_
      rw [if_pos o151_21, if_neg c154_22] at hr
      cases hr
      exact Go.iret d_Model_isCarriedOut_162 rfl rfl ⟨rfl, by dsimp only, rfl⟩
  · refine Go.aload_0 d_Model_isCarriedOut_21 rfl ?_
    rw [if_pos o9_1, if_neg c18_2] at hr
    obtain ⟨p22_23, hp22_23, hr⟩ := Option.bind_eq_some_iff.mp hr
    try dsimp only at hr
    refine Go.cv0r d_Model_isCarriedOut_22 rfl l_Model_274 k_Model_test_v (mr_at_m (by omega) hB hS hC hD hE) rfl ((ev_go (by omega) hB hS hC hD hE hdy 64).1 _ _ hp22_23) (Nat.ble_eq_true_of_le (by omega)) rfl rfl ?_
    refine Go.if_ne (t := 30) d_Model_isCarriedOut_25 (by decide) rfl (fun c25_24 => ?_) (fun c25_24 => ?_)
    · refine Go.aload_0 d_Model_isCarriedOut_30 rfl ?_
      refine Go.getfield d_Model_isCarriedOut_31 rfl f_Model_20 (mr_at_m (by omega) hB hS hC hD hE) (by rfl) ?_
      refine Go.getfield d_Model_isCarriedOut_34 rfl f_Model_190 (mr_at_q (by omega) hB hS hC hD hE) (by rfl) ?_
      refine Go.iload_2 d_Model_isCarriedOut_37 rfl ?_
      have o38_25 : x2 < 20 := Classical.byContradiction fun w => by
        rw [if_neg c25_24, if_neg w] at hr
        cases hr
      refine Go.iaload d_Model_isCarriedOut_38 rfl (mr_at_q_20 (by omega) hB hS hC hD hE) (vp_in_nI o38_25 (by decide)) ?_
      rw [nI_clamp (show x2 < 2 ^ 31 by omega)]
      refine Go.istore_3 d_Model_isCarriedOut_39 rfl (by rfl) ?_
      refine Go.aload_0 d_Model_isCarriedOut_40 rfl ?_
      refine Go.getfield d_Model_isCarriedOut_41 rfl f_Model_20 (mr_at_m (by omega) hB hS hC hD hE) (by rfl) ?_
      refine Go.getfield d_Model_isCarriedOut_44 rfl f_Model_230 (mr_at_q (by omega) hB hS hC hD hE) (by rfl) ?_
      refine Go.iload_2 d_Model_isCarriedOut_47 rfl ?_
      have o48_26 : x2 < 20 := Classical.byContradiction fun w => by
        rw [if_neg c25_24, if_pos o38_25, if_neg w] at hr
        cases hr
      refine Go.iaload d_Model_isCarriedOut_48 rfl (mr_at_q_19 (by omega) hB hS hC hD hE) (vp_in_nI o48_26 (by decide)) ?_
      rw [nI_clamp (show x2 < 2 ^ 31 by omega)]
      by_cases w49_27 : ((sh_ds H) x2) = 15
      · refine Go.tsw (t := 92) d_Model_isCarriedOut_49 (by rw [w49_27]; rfl) ?_
        refine Go.aload_0 d_Model_isCarriedOut_92 rfl ?_
        refine Go.aload_1 d_Model_isCarriedOut_93 rfl ?_
        refine Go.iload_3 d_Model_isCarriedOut_94 rfl ?_
        refine Go.iconst (v := 1) d_Model_isCarriedOut_95 rfl (by decide) ?_
        have o96_28 : okI ((sh_on H) x2) 4 = true := Classical.byContradiction fun w => by
          rw [if_neg c25_24, if_pos o38_25, if_pos o48_26, if_pos w49_27, if_neg w] at hr
          cases hr
        refine Go.cv3r d_Model_isCarriedOut_96 rfl l_Model_375 k_Model_moved_v (mr_at_m (by omega) hB hS hC hD hE) rfl (c_Model_moved (x2 := ((sh_on H) x2).toNatClampNeg) (nI_back (okI_pos o96_28)) (okI_lt o96_28) (by omega) hB hS hC hD hE) (Nat.ble_eq_true_of_le (by omega)) rfl rfl ?_
        have b99_29 : b01 (s_Model_moved p22_23.2 H Y ((sh_on H) x2).toNatClampNeg 1).1 = true := Classical.byContradiction fun w => by
          rw [if_neg c25_24, if_pos o38_25, if_pos o48_26, if_pos w49_27, if_pos o96_28, if_neg w] at hr
          cases hr
        rw [if_neg c25_24, if_pos o38_25, if_pos o48_26, if_pos w49_27, if_pos o96_28, if_pos b99_29] at hr
        cases hr
        exact Go.iret d_Model_isCarriedOut_99 rfl (nb (b01_or b99_29)) ⟨rfl, by dsimp only, rfl⟩
      by_cases w49_30 : ((sh_ds H) x2) = 16
      · refine Go.tsw (t := 100) d_Model_isCarriedOut_49 (by rw [w49_30]; rfl) ?_
        refine Go.aload_0 d_Model_isCarriedOut_100 rfl ?_
        refine Go.aload_1 d_Model_isCarriedOut_101 rfl ?_
        refine Go.iload_3 d_Model_isCarriedOut_102 rfl ?_
        refine Go.iconst (v := 0) d_Model_isCarriedOut_103 rfl (by decide) ?_
        have o104_31 : okI ((sh_on H) x2) 4 = true := Classical.byContradiction fun w => by
          rw [if_neg c25_24, if_pos o38_25, if_pos o48_26, if_neg w49_27, if_pos w49_30, if_neg w] at hr
          cases hr
        refine Go.cv3r d_Model_isCarriedOut_104 rfl l_Model_375 k_Model_moved_v (mr_at_m (by omega) hB hS hC hD hE) rfl (c_Model_moved (x2 := ((sh_on H) x2).toNatClampNeg) (nI_back (okI_pos o104_31)) (okI_lt o104_31) (by omega) hB hS hC hD hE) (Nat.ble_eq_true_of_le (by omega)) rfl rfl ?_
        have b107_32 : b01 (s_Model_moved p22_23.2 H Y ((sh_on H) x2).toNatClampNeg 0).1 = true := Classical.byContradiction fun w => by
          rw [if_neg c25_24, if_pos o38_25, if_pos o48_26, if_neg w49_27, if_pos w49_30, if_pos o104_31, if_neg w] at hr
          cases hr
        rw [if_neg c25_24, if_pos o38_25, if_pos o48_26, if_neg w49_27, if_pos w49_30, if_pos o104_31, if_pos b107_32] at hr
        cases hr
        exact Go.iret d_Model_isCarriedOut_107 rfl (nb (b01_or b107_32)) ⟨rfl, by dsimp only, rfl⟩
      by_cases w49_33 : ((sh_ds H) x2) = 17
      · refine Go.tsw (t := 108) d_Model_isCarriedOut_49 (by rw [w49_33]; rfl) ?_
        refine Go.aload_0 d_Model_isCarriedOut_108 rfl ?_
        refine Go.aload_1 d_Model_isCarriedOut_109 rfl ?_
        refine Go.aload_0 d_Model_isCarriedOut_110 rfl ?_
        refine Go.getfield d_Model_isCarriedOut_111 rfl f_Model_20 (mr_at_m (by omega) hB hS hC hD hE) (by rfl) ?_
        refine Go.getfield d_Model_isCarriedOut_114 rfl f_Model_193 (mr_at_q (by omega) hB hS hC hD hE) (by rfl) ?_
        refine Go.iload_2 d_Model_isCarriedOut_117 rfl ?_
        have o118_34 : x2 < 20 := Classical.byContradiction fun w => by
          rw [if_neg c25_24, if_pos o38_25, if_pos o48_26, if_neg w49_27, if_neg w49_30, if_pos w49_33, if_neg w] at hr
          cases hr
        refine Go.iaload d_Model_isCarriedOut_118 rfl (mr_at_q_21 (by omega) hB hS hC hD hE) (vp_in_nI o118_34 (by decide)) ?_
        rw [nI_clamp (show x2 < 2 ^ 31 by omega)]
        refine Go.iload_3 d_Model_isCarriedOut_119 rfl ?_
        have o120_35 : okI ((sh_ot H) x2) 4 = true := Classical.byContradiction fun w => by
          rw [if_neg c25_24, if_pos o38_25, if_pos o48_26, if_neg w49_27, if_neg w49_30, if_pos w49_33, if_pos o118_34, if_neg w] at hr
          cases hr
        have o120_36 : okI ((sh_on H) x2) 4 = true := Classical.byContradiction fun w => by
          rw [if_neg c25_24, if_pos o38_25, if_pos o48_26, if_neg w49_27, if_neg w49_30, if_pos w49_33, if_pos o118_34, if_pos o120_35, if_neg w] at hr
          cases hr
        refine Go.cv3r d_Model_isCarriedOut_120 rfl l_Model_378 k_Model_probed_v (mr_at_m (by omega) hB hS hC hD hE) rfl (c_Model_probed (x2 := ((sh_ot H) x2).toNatClampNeg) (x3 := ((sh_on H) x2).toNatClampNeg) (nI_back (okI_pos o120_35)) (okI_lt o120_35) (nI_back (okI_pos o120_36)) (okI_lt o120_36) (by omega) hB hS hC hD hE) (Nat.ble_eq_true_of_le (by omega)) rfl rfl ?_
        have b123_37 : b01 (s_Model_probed p22_23.2 H Y ((sh_ot H) x2).toNatClampNeg ((sh_on H) x2).toNatClampNeg).1 = true := Classical.byContradiction fun w => by
          rw [if_neg c25_24, if_pos o38_25, if_pos o48_26, if_neg w49_27, if_neg w49_30, if_pos w49_33, if_pos o118_34, if_pos o120_35, if_pos o120_36, if_neg w] at hr
          cases hr
        rw [if_neg c25_24, if_pos o38_25, if_pos o48_26, if_neg w49_27, if_neg w49_30, if_pos w49_33, if_pos o118_34, if_pos o120_35, if_pos o120_36, if_pos b123_37] at hr
        cases hr
        exact Go.iret d_Model_isCarriedOut_123 rfl (nb (b01_or b123_37)) ⟨rfl, by dsimp only, rfl⟩
      by_cases w49_38 : ((sh_ds H) x2) = 21
      · refine Go.tsw (t := 124) d_Model_isCarriedOut_49 (by rw [w49_38]; rfl) ?_
        refine Go.aload_0 d_Model_isCarriedOut_124 rfl ?_
        refine Go.aload_1 d_Model_isCarriedOut_125 rfl ?_
        refine Go.iload_3 d_Model_isCarriedOut_126 rfl ?_
        have o127_39 : okI ((sh_on H) x2) 6 = true := Classical.byContradiction fun w => by
          rw [if_neg c25_24, if_pos o38_25, if_pos o48_26, if_neg w49_27, if_neg w49_30, if_neg w49_33, if_pos w49_38, if_neg w] at hr
          cases hr
        refine Go.cv2r d_Model_isCarriedOut_127 rfl l_Model_380 k_Model_drilled_v (mr_at_m (by omega) hB hS hC hD hE) rfl (c_Model_drilled (x2 := ((sh_on H) x2).toNatClampNeg) (nI_back (okI_pos o127_39)) (okI_lt o127_39) (by omega) hB hS hC hD hE) (Nat.ble_eq_true_of_le (by omega)) rfl rfl ?_
        have b130_40 : b01 (s_Model_drilled p22_23.2 H Y ((sh_on H) x2).toNatClampNeg).1 = true := Classical.byContradiction fun w => by
          rw [if_neg c25_24, if_pos o38_25, if_pos o48_26, if_neg w49_27, if_neg w49_30, if_neg w49_33, if_pos w49_38, if_pos o127_39, if_neg w] at hr
          cases hr
        rw [if_neg c25_24, if_pos o38_25, if_pos o48_26, if_neg w49_27, if_neg w49_30, if_neg w49_33, if_pos w49_38, if_pos o127_39, if_pos b130_40] at hr
        cases hr
        exact Go.iret d_Model_isCarriedOut_130 rfl (nb (b01_or b130_40)) ⟨rfl, by dsimp only, rfl⟩
      refine Go.tsw (t := 131) d_Model_isCarriedOut_49 (tsw_d fun n hn => by
              match n, hn with
              | 0, _ => exact Or.inr fun w => w49_27 (i32_eq w)
              | 1, _ => exact Or.inr fun w => w49_30 (i32_eq w)
              | 2, _ => exact Or.inr fun w => w49_33 (i32_eq w)
              | 3, _ => exact Or.inl rfl
              | 4, _ => exact Or.inl rfl
              | 5, _ => exact Or.inl rfl
              | 6, _ => exact Or.inr fun w => w49_38 (i32_eq w)
              | _ + 7, w => exact absurd w (by simp)) ?_
      refine Go.aload_0 d_Model_isCarriedOut_131 rfl ?_
      refine Go.aload_0 d_Model_isCarriedOut_132 rfl ?_
      refine Go.getfield d_Model_isCarriedOut_133 rfl f_Model_20 (mr_at_m (by omega) hB hS hC hD hE) (by rfl) ?_
      refine Go.getfield d_Model_isCarriedOut_136 rfl f_Model_248 (mr_at_q (by omega) hB hS hC hD hE) (by rfl) ?_
      refine Go.iload_2 d_Model_isCarriedOut_139 rfl ?_
      have o140_41 : x2 < 20 := Classical.byContradiction fun w => by
        rw [if_neg c25_24, if_pos o38_25, if_pos o48_26, if_neg w49_27, if_neg w49_30, if_neg w49_33, if_neg w49_38, if_neg w] at hr
        cases hr
      refine Go.iaload d_Model_isCarriedOut_140 rfl (mr_at_q_22 (by omega) hB hS hC hD hE) (vp_in_nI o140_41 (by decide)) ?_
      rw [nI_clamp (show x2 < 2 ^ 31 by omega)]
      refine Go.putfield d_Model_isCarriedOut_141 rfl f_Model_261_p (Or.inl (fun C T N h => by cases h; rfl)) (mr_at_m (by omega) hB hS hC hD hE) (by exact Nat.le_of_ble_eq_true rfl) rfl rfl ?_
      refine Go.heq (mr_put_m_walk (by omega) hB hS hC hD hE) ?_
      refine Go.aload_0 d_Model_isCarriedOut_144 rfl ?_
      refine Go.aload_1 d_Model_isCarriedOut_145 rfl ?_
      refine Go.iload_3 d_Model_isCarriedOut_146 rfl ?_
      refine Go.aload_0 d_Model_isCarriedOut_147 rfl ?_
      rw [if_neg c25_24, if_pos o38_25, if_pos o48_26, if_neg w49_27, if_neg w49_30, if_neg w49_33, if_neg w49_38, if_pos o140_41] at hr
      obtain ⟨p148_42, hp148_42, hr⟩ := Option.bind_eq_some_iff.mp hr
      try dsimp only at hr
      refine Go.cv0r d_Model_isCarriedOut_148 rfl l_Model_289 k_Model_sum_v (mr_at_m (by omega) hB hS hC hD hE) rfl ((ev_go (by omega) hB hS hC hD hE hdy 64).2.2.2.1 _ _ hp148_42) (Nat.ble_eq_true_of_le (by omega)) rfl rfl ?_
      have o151_43 : okI ((sh_on H) x2) 4 = true := Classical.byContradiction fun w => by
        rw [if_neg w] at hr
        cases hr
      refine Go.cv3r d_Model_isCarriedOut_151 rfl l_Model_384 k_Model_filled_v (mr_at_m (by omega) hB hS hC hD hE) rfl (c_Model_filled (x2 := ((sh_on H) x2).toNatClampNeg) (nI_back (okI_pos o151_43)) (okI_lt o151_43) (by omega) hB hS hC hD hE) (Nat.ble_eq_true_of_le (by omega)) rfl rfl ?_
      refine Go.if_le (t := 161) d_Model_isCarriedOut_154 (by decide) rfl (fun c154_44 => ?_) (fun c154_44 => ?_)
      · refine Go.iconst (v := 0) d_Model_isCarriedOut_161 rfl (by decide) ?_
        rw [if_pos o151_43, if_pos c154_44] at hr
        cases hr
        exact Go.iret d_Model_isCarriedOut_162 rfl rfl ⟨rfl, by dsimp only, rfl⟩
      · refine Go.iconst (v := 1) d_Model_isCarriedOut_157 rfl (by decide) ?_
        refine Go.goto (t := 162) d_Model_isCarriedOut_158 (by decide) ?_
        rw [if_pos o151_43, if_neg c154_44] at hr
        cases hr
        exact Go.iret d_Model_isCarriedOut_162 rfl rfl ⟨rfl, by dsimp only, rfl⟩
    · refine Go.iconst (v := 0) d_Model_isCarriedOut_28 rfl (by decide) ?_
      rw [if_pos c25_24] at hr
      cases hr
      exact Go.iret d_Model_isCarriedOut_29 rfl rfl ⟨rfl, by dsimp only, rfl⟩
theorem mr_at_q_5 {Γ : G9} {h : AH} {m q r sa sb : Nat} {M : MO} {H : SH} {Y : SX} (geo : m + 2 ≤ q ∧ m + 2 ≤ r ∧ (q + 24 ≤ r ∨ r + 21 ≤ q)) (hB : sh_ha H 0 ≤ 5) (hS : sh_ha H 3 ≤ 6) (hC : sh_ha H 6 ≤ 4) (hD : sh_ha H 9 ≤ 4) (hE : sh_ha H 11 ≤ 4) : (md_ Γ h m q r sa sb r M H Y) (q + 5) = some (aI Γ 12 (fun j => nI ((sh_ha H) j))) := by
  unfold md_
  exact ((blk_out (by omega)).trans (sh_g5))
theorem mr_at_q_7 {Γ : G9} {h : AH} {m q r sa sb : Nat} {M : MO} {H : SH} {Y : SX} (geo : m + 2 ≤ q ∧ m + 2 ≤ r ∧ (q + 24 ≤ r ∨ r + 21 ≤ q)) (hB : sh_ha H 0 ≤ 5) (hS : sh_ha H 3 ≤ 6) (hC : sh_ha H 6 ≤ 4) (hD : sh_ha H 9 ≤ 4) (hE : sh_ha H 11 ≤ 4) : (md_ Γ h m q r sa sb r M H Y) (q + 7) = some (aI Γ 5 (sh_hg H)) := by
  unfold md_
  exact ((blk_out (by omega)).trans (sh_g7))
theorem d_Model_dayOn_49 : decode M_Model_dayOn.2.1 49 = .ok (.iload_n 2, 1) := by decide +kernel
theorem d_Model_dayOn_50 : decode M_Model_dayOn.2.1 50 = .ok (.aload_n 0, 1) := by decide +kernel
theorem d_Model_dayOn_51 : decode M_Model_dayOn.2.1 51 = .ok (.getfield 20, 3) := by decide +kernel
theorem d_Model_dayOn_54 : decode M_Model_dayOn.2.1 54 = .ok (.getfield 40, 3) := by decide +kernel
theorem d_Model_dayOn_57 : decode M_Model_dayOn.2.1 57 = .ok (.iconst 0, 1) := by decide +kernel
theorem d_Model_dayOn_58 : decode M_Model_dayOn.2.1 58 = .ok (.iaload, 1) := by decide +kernel
theorem d_Model_dayOn_59 : decode M_Model_dayOn.2.1 59 = .ok (.if_icmp .ge 49, 3) := by decide +kernel
theorem d_Model_dayOn_62 : decode M_Model_dayOn.2.1 62 = .ok (.aload_n 1, 1) := by decide +kernel
theorem d_Model_dayOn_63 : decode M_Model_dayOn.2.1 63 = .ok (.invokevirtual 300, 3) := by decide +kernel
theorem d_Model_dayOn_66 : decode M_Model_dayOn.2.1 66 = .ok (.aload_n 0, 1) := by decide +kernel
theorem d_Model_dayOn_67 : decode M_Model_dayOn.2.1 67 = .ok (.getfield 20, 3) := by decide +kernel
theorem d_Model_dayOn_70 : decode M_Model_dayOn.2.1 70 = .ok (.getfield 200, 3) := by decide +kernel
theorem d_Model_dayOn_73 : decode M_Model_dayOn.2.1 73 = .ok (.iload_n 2, 1) := by decide +kernel
theorem d_Model_dayOn_74 : decode M_Model_dayOn.2.1 74 = .ok (.iaload, 1) := by decide +kernel
theorem d_Model_dayOn_75 : decode M_Model_dayOn.2.1 75 = .ok (.isub, 1) := by decide +kernel
theorem d_Model_dayOn_76 : decode M_Model_dayOn.2.1 76 = .ok (.istore_n 3, 1) := by decide +kernel
theorem d_Model_dayOn_77 : decode M_Model_dayOn.2.1 77 = .ok (.iload_n 3, 1) := by decide +kernel
theorem d_Model_dayOn_78 : decode M_Model_dayOn.2.1 78 = .ok (.ifCond .le 10, 3) := by decide +kernel
theorem d_Model_dayOn_81 : decode M_Model_dayOn.2.1 81 = .ok (.aload_n 0, 1) := by decide +kernel
theorem d_Model_dayOn_82 : decode M_Model_dayOn.2.1 82 = .ok (.aload_n 1, 1) := by decide +kernel
theorem d_Model_dayOn_83 : decode M_Model_dayOn.2.1 83 = .ok (.iload_n 2, 1) := by decide +kernel
theorem d_Model_dayOn_84 : decode M_Model_dayOn.2.1 84 = .ok (.iload_n 3, 1) := by decide +kernel
theorem d_Model_dayOn_85 : decode M_Model_dayOn.2.1 85 = .ok (.invokevirtual 412, 3) := by decide +kernel
theorem d_Model_dayOn_88 : decode M_Model_dayOn.2.1 88 = .ok (.iload_n 3, 1) := by decide +kernel
theorem d_Model_dayOn_89 : decode M_Model_dayOn.2.1 89 = .ok (.ifCond .ge 13, 3) := by decide +kernel
theorem d_Model_dayOn_92 : decode M_Model_dayOn.2.1 92 = .ok (.aload_n 0, 1) := by decide +kernel
theorem d_Model_dayOn_93 : decode M_Model_dayOn.2.1 93 = .ok (.aload_n 1, 1) := by decide +kernel
theorem d_Model_dayOn_94 : decode M_Model_dayOn.2.1 94 = .ok (.iload_n 2, 1) := by decide +kernel
theorem d_Model_dayOn_95 : decode M_Model_dayOn.2.1 95 = .ok (.iload_n 3, 1) := by decide +kernel
theorem d_Model_dayOn_96 : decode M_Model_dayOn.2.1 96 = .ok (.ineg, 1) := by decide +kernel
theorem d_Model_dayOn_97 : decode M_Model_dayOn.2.1 97 = .ok (.iconst 2, 1) := by decide +kernel
theorem d_Model_dayOn_98 : decode M_Model_dayOn.2.1 98 = .ok (.idiv, 1) := by decide +kernel
theorem d_Model_dayOn_99 : decode M_Model_dayOn.2.1 99 = .ok (.invokevirtual 415, 3) := by decide +kernel
theorem d_Model_dayOn_102 : decode M_Model_dayOn.2.1 102 = .ok (.iinc 2 1, 3) := by decide +kernel
theorem d_Model_dayOn_105 : decode M_Model_dayOn.2.1 105 = .ok (.goto (-56), 3) := by decide +kernel
def l_Model_dayRest_49 (M : MO) (H : SH) : Nat → Nat → SX → SX
  | 0, _, Y => Y
  | k + 1, i, Y => (if ((s_State_warmth Y) - ((sh_hg H) i)) ≤ 0 then (if 0 ≤ ((s_State_warmth Y) - ((sh_hg H) i)) then (l_Model_dayRest_49 M H k (i + 1) Y) else (l_Model_dayRest_49 M H k (i + 1) (s_Model_snow M H Y i ((-((s_State_warmth Y) - ((sh_hg H) i))) / 2)))) else (if 0 ≤ ((s_State_warmth Y) - ((sh_hg H) i)) then (l_Model_dayRest_49 M H k (i + 1) (s_Model_melt_1 M H Y i ((s_State_warmth Y) - ((sh_hg H) i)))) else (l_Model_dayRest_49 M H k (i + 1) (s_Model_snow M H (s_Model_melt_1 M H Y i ((s_State_warmth Y) - ((sh_hg H) i))) i ((-((s_State_warmth Y) - ((sh_hg H) i))) / 2)))))
set_option maxRecDepth 100000 in
set_option maxHeartbeats 800000 in
theorem l_Model_dayRest_49_go {Γ : G9} {h : AH} {m q r sa sb z : Nat} {n : Nat} {Q : QT} {X : XT} {M : MO} {H : SH} (geo : m + 2 ≤ q ∧ m + 2 ≤ r ∧ (q + 24 ≤ r ∨ r + 21 ≤ q)) (hB : sh_ha H 0 ≤ 5) (hS : sh_ha H 3 ≤ 6) (hC : sh_ha H 6 ≤ 4) (hD : sh_ha H 9 ≤ 4) (hE : sh_ha H 11 ≤ 4) (hn20 : n ≤ 20) : ∀ (k i : Nat) (Y : SX), i + k = n → sh_ha H 0 = n → sx_dy Y < 1000000 → Go Γ M_Model_dayOn 73 0 0 108 [some (.ref m), some (.ref r), some (.int (nI (i + k))), none] [] (md_ Γ h m q r sa sb r M H (l_Model_dayRest_49 M H k i Y)) z Q X → Go Γ M_Model_dayOn 73 0 0 49 [some (.ref m), some (.ref r), some (.int (nI i)), none] [] (md_ Γ h m q r sa sb r M H Y) z Q X := by
  intro k
  induction k with
  | zero =>
    intro i Y hi hn hdy hk
    refine Go.iload_2 d_Model_dayOn_49 rfl ?_
    refine Go.aload_0 d_Model_dayOn_50 rfl ?_
    refine Go.getfield d_Model_dayOn_51 rfl f_Model_20 (mr_at_m (by omega) hB hS hC hD hE) (by rfl) ?_
    refine Go.getfield d_Model_dayOn_54 rfl f_Model_40 (mr_at_q (by omega) hB hS hC hD hE) (by rfl) ?_
    refine Go.iconst (v := 0) d_Model_dayOn_57 rfl (by decide) ?_
    refine Go.iaload d_Model_dayOn_58 rfl (mr_at_q_5 (by omega) hB hS hC hD hE) (show vp_in (nI 0) 12 from by first | exact vp_in_nI (by omega) (by omega) | exact vp_nle (by assumption) (by omega) (by omega)) ?_
    rw [show (0 : Int32).toNatClampNeg = 0 from by decide]
    refine Go.icmp_ge (t := 108) d_Model_dayOn_59 (by decide) rfl (fun c59_1 => ?_) (fun c59_1 => ?_)
    · exact hk
    · exact absurd (nI_le (by omega) (by omega)) c59_1
  | succ k ih =>
    intro i Y hi hn hdy hk
    unfold l_Model_dayRest_49 at hk
    rw [show i + (k + 1) = i + 1 + k by omega] at hk
    refine Go.iload_2 d_Model_dayOn_49 rfl ?_
    refine Go.aload_0 d_Model_dayOn_50 rfl ?_
    refine Go.getfield d_Model_dayOn_51 rfl f_Model_20 (mr_at_m (by omega) hB hS hC hD hE) (by rfl) ?_
    refine Go.getfield d_Model_dayOn_54 rfl f_Model_40 (mr_at_q (by omega) hB hS hC hD hE) (by rfl) ?_
    refine Go.iconst (v := 0) d_Model_dayOn_57 rfl (by decide) ?_
    refine Go.iaload d_Model_dayOn_58 rfl (mr_at_q_5 (by omega) hB hS hC hD hE) (show vp_in (nI 0) 12 from by first | exact vp_in_nI (by omega) (by omega) | exact vp_nle (by assumption) (by omega) (by omega)) ?_
    rw [show (0 : Int32).toNatClampNeg = 0 from by decide]
    refine Go.icmp_ge (t := 108) d_Model_dayOn_59 (by decide) rfl (fun c59_1 => ?_) (fun c59_1 => ?_)
    · exact absurd c59_1 (nI_ge (by omega) (by omega))
    · refine Go.aload_1 d_Model_dayOn_62 rfl ?_
      refine Go.cv0r d_Model_dayOn_63 rfl l_Model_300 k_State_warmth_v (mr_at_r (by omega) hB hS hC hD hE) rfl (mr_c_State_warmth_r (by omega) hB hS hC hD hE hdy) (Nat.ble_eq_true_of_le (by omega)) rfl rfl ?_
      refine Go.aload_0 d_Model_dayOn_66 rfl ?_
      refine Go.getfield d_Model_dayOn_67 rfl f_Model_20 (mr_at_m (by omega) hB hS hC hD hE) (by rfl) ?_
      refine Go.getfield d_Model_dayOn_70 rfl f_Model_200 (mr_at_q (by omega) hB hS hC hD hE) (by rfl) ?_
      refine Go.iload_2 d_Model_dayOn_73 rfl ?_
      refine Go.iaload d_Model_dayOn_74 rfl (mr_at_q_7 (by omega) hB hS hC hD hE) (show vp_in (nI i) 5 from by first | exact vp_in_nI (by omega) (by omega) | exact vp_nle (by assumption) (by omega) (by omega)) ?_
      rw [nI_clamp (show i < 2 ^ 31 by omega)]
      refine Go.isub d_Model_dayOn_75 rfl ?_
      refine Go.istore_3 d_Model_dayOn_76 rfl (by rfl) ?_
      refine Go.iload_3 d_Model_dayOn_77 rfl ?_
      refine Go.if_le (t := 88) d_Model_dayOn_78 (by decide) rfl (fun c78_2 => ?_) (fun c78_2 => ?_)
      · refine Go.iload_3 d_Model_dayOn_88 rfl ?_
        refine Go.if_ge (t := 102) d_Model_dayOn_89 (by decide) rfl (fun c89_3 => ?_) (fun c89_3 => ?_)
        · refine Go.iinc_2 d_Model_dayOn_102 rfl (by rfl) (nI_inc _) ?_
          refine Go.goto (t := 49) d_Model_dayOn_105 (by decide) ?_
          rw [if_pos c78_2, if_pos c89_3] at hk
          refine Go.fgt [some (.ref m), some (.ref r), some (.int (nI (i + 1))), none] (by repeat' (first | exact trivial | refine ⟨rfl, ?_⟩)) ?_
          exact ih (i + 1) _ (by omega) (by first | exact hn | (simp only []; exact hn)) hdy hk
        · refine Go.aload_0 d_Model_dayOn_92 rfl ?_
          refine Go.aload_1 d_Model_dayOn_93 rfl ?_
          refine Go.iload_2 d_Model_dayOn_94 rfl ?_
          refine Go.iload_3 d_Model_dayOn_95 rfl ?_
          refine Go.ineg d_Model_dayOn_96 rfl ?_
          refine Go.iconst (v := 2) d_Model_dayOn_97 rfl (by decide) ?_
          refine Go.idiv d_Model_dayOn_98 rfl (by decide) ?_
          refine Go.cv3v d_Model_dayOn_99 rfl l_Model_415 k_Model_snow_v (mr_at_m (by omega) hB hS hC hD hE) rfl (c_Model_snow (x2 := i) rfl (by omega) (by omega) hB hS hC hD hE) (Nat.ble_eq_true_of_le (by omega)) rfl rfl ?_
          refine Go.iinc_2 d_Model_dayOn_102 rfl (by rfl) (nI_inc _) ?_
          refine Go.goto (t := 49) d_Model_dayOn_105 (by decide) ?_
          rw [if_pos c78_2, if_neg c89_3] at hk
          refine Go.fgt [some (.ref m), some (.ref r), some (.int (nI (i + 1))), none] (by repeat' (first | exact trivial | refine ⟨rfl, ?_⟩)) ?_
          exact ih (i + 1) _ (by omega) (by first | exact hn | (simp only []; exact hn)) (by simp only [sx_dy, sx_dy_Model_fall, sx_dy_l_Model_move_42, sx_dy_Model_move, sx_dy_Model_look, sx_dy_Model_filled, sx_dy_Model_drilled, sx_dy_Model_moved, sx_dy_Model_probed, sx_dy_l_Model_melt_1_st, sx_dy_l_Model_melt_1_br, sx_dy_Model_melt_1, sx_dy_l_Model_snow_st, sx_dy_l_Model_snow_br, sx_dy_Model_snow, sx_dy_l_Model_eat_1_45, sx_dy_Model_eat_1, sx_dy_l_Model_readAll_2, sx_dy_Model_readAll]; exact hdy) hk
      · refine Go.aload_0 d_Model_dayOn_81 rfl ?_
        refine Go.aload_1 d_Model_dayOn_82 rfl ?_
        refine Go.iload_2 d_Model_dayOn_83 rfl ?_
        refine Go.iload_3 d_Model_dayOn_84 rfl ?_
        refine Go.cv3v d_Model_dayOn_85 rfl l_Model_412 k_Model_melt_1_v (mr_at_m (by omega) hB hS hC hD hE) rfl (c_Model_melt_1 (x2 := i) rfl (by omega) (by omega) hB hS hC hD hE) (Nat.ble_eq_true_of_le (by omega)) rfl rfl ?_
        refine Go.iload_3 d_Model_dayOn_88 rfl ?_
        refine Go.if_ge (t := 102) d_Model_dayOn_89 (by decide) rfl (fun c89_4 => ?_) (fun c89_4 => ?_)
        · refine Go.iinc_2 d_Model_dayOn_102 rfl (by rfl) (nI_inc _) ?_
          refine Go.goto (t := 49) d_Model_dayOn_105 (by decide) ?_
          rw [if_neg c78_2, if_pos c89_4] at hk
          refine Go.fgt [some (.ref m), some (.ref r), some (.int (nI (i + 1))), none] (by repeat' (first | exact trivial | refine ⟨rfl, ?_⟩)) ?_
          exact ih (i + 1) _ (by omega) (by first | exact hn | (simp only []; exact hn)) (by simp only [sx_dy, sx_dy_Model_fall, sx_dy_l_Model_move_42, sx_dy_Model_move, sx_dy_Model_look, sx_dy_Model_filled, sx_dy_Model_drilled, sx_dy_Model_moved, sx_dy_Model_probed, sx_dy_l_Model_melt_1_st, sx_dy_l_Model_melt_1_br, sx_dy_Model_melt_1, sx_dy_l_Model_snow_st, sx_dy_l_Model_snow_br, sx_dy_Model_snow, sx_dy_l_Model_eat_1_45, sx_dy_Model_eat_1, sx_dy_l_Model_readAll_2, sx_dy_Model_readAll]; exact hdy) hk
        · refine Go.aload_0 d_Model_dayOn_92 rfl ?_
          refine Go.aload_1 d_Model_dayOn_93 rfl ?_
          refine Go.iload_2 d_Model_dayOn_94 rfl ?_
          refine Go.iload_3 d_Model_dayOn_95 rfl ?_
          refine Go.ineg d_Model_dayOn_96 rfl ?_
          refine Go.iconst (v := 2) d_Model_dayOn_97 rfl (by decide) ?_
          refine Go.idiv d_Model_dayOn_98 rfl (by decide) ?_
          refine Go.cv3v d_Model_dayOn_99 rfl l_Model_415 k_Model_snow_v (mr_at_m (by omega) hB hS hC hD hE) rfl (c_Model_snow (x2 := i) rfl (by omega) (by omega) hB hS hC hD hE) (Nat.ble_eq_true_of_le (by omega)) rfl rfl ?_
          refine Go.iinc_2 d_Model_dayOn_102 rfl (by rfl) (nI_inc _) ?_
          refine Go.goto (t := 49) d_Model_dayOn_105 (by decide) ?_
          rw [if_neg c78_2, if_neg c89_4] at hk
          refine Go.fgt [some (.ref m), some (.ref r), some (.int (nI (i + 1))), none] (by repeat' (first | exact trivial | refine ⟨rfl, ?_⟩)) ?_
          exact ih (i + 1) _ (by omega) (by first | exact hn | (simp only []; exact hn)) (by simp only [sx_dy, sx_dy_Model_fall, sx_dy_l_Model_move_42, sx_dy_Model_move, sx_dy_Model_look, sx_dy_Model_filled, sx_dy_Model_drilled, sx_dy_Model_moved, sx_dy_Model_probed, sx_dy_l_Model_melt_1_st, sx_dy_l_Model_melt_1_br, sx_dy_Model_melt_1, sx_dy_l_Model_snow_st, sx_dy_l_Model_snow_br, sx_dy_Model_snow, sx_dy_l_Model_eat_1_45, sx_dy_Model_eat_1, sx_dy_l_Model_readAll_2, sx_dy_Model_readAll]; exact hdy) hk
set_option maxRecDepth 100000 in
set_option maxHeartbeats 800000 in
theorem sx_dy_l_Model_dayRest_49 {M : MO} {H : SH} : ∀ (k i : Nat) (Y : SX), sx_dy (l_Model_dayRest_49 M H k i Y) = sx_dy Y := by
  intro k
  induction k with
  | zero => intros; rfl
  | succ k ih =>
    intros
    unfold l_Model_dayRest_49
    (repeat' split) <;> (try simp only [ih, sx_dy, sx_dy_Model_fall, sx_dy_l_Model_move_42, sx_dy_Model_move, sx_dy_Model_look, sx_dy_Model_filled, sx_dy_Model_drilled, sx_dy_Model_moved, sx_dy_Model_probed, sx_dy_l_Model_melt_1_st, sx_dy_l_Model_melt_1_br, sx_dy_Model_melt_1, sx_dy_l_Model_snow_st, sx_dy_l_Model_snow_br, sx_dy_Model_snow, sx_dy_l_Model_eat_1_45, sx_dy_Model_eat_1, sx_dy_l_Model_readAll_2, sx_dy_Model_readAll])
theorem d_Model_dayOn_110 : decode M_Model_dayOn.2.1 110 = .ok (.iload_n 2, 1) := by decide +kernel
theorem d_Model_dayOn_111 : decode M_Model_dayOn.2.1 111 = .ok (.aload_n 0, 1) := by decide +kernel
theorem d_Model_dayOn_112 : decode M_Model_dayOn.2.1 112 = .ok (.getfield 20, 3) := by decide +kernel
theorem d_Model_dayOn_115 : decode M_Model_dayOn.2.1 115 = .ok (.getfield 40, 3) := by decide +kernel
theorem d_Model_dayOn_118 : decode M_Model_dayOn.2.1 118 = .ok (.bipush 11, 2) := by decide +kernel
theorem d_Model_dayOn_120 : decode M_Model_dayOn.2.1 120 = .ok (.iaload, 1) := by decide +kernel
theorem d_Model_dayOn_121 : decode M_Model_dayOn.2.1 121 = .ok (.if_icmp .ge 25, 3) := by decide +kernel
theorem d_Model_dayOn_124 : decode M_Model_dayOn.2.1 124 = .ok (.aload_n 1, 1) := by decide +kernel
theorem d_Model_dayOn_125 : decode M_Model_dayOn.2.1 125 = .ok (.getfield 283, 3) := by decide +kernel
theorem d_Model_dayOn_128 : decode M_Model_dayOn.2.1 128 = .ok (.iload_n 2, 1) := by decide +kernel
theorem d_Model_dayOn_129 : decode M_Model_dayOn.2.1 129 = .ok (.iaload, 1) := by decide +kernel
theorem d_Model_dayOn_130 : decode M_Model_dayOn.2.1 130 = .ok (.iconst 1, 1) := by decide +kernel
theorem d_Model_dayOn_131 : decode M_Model_dayOn.2.1 131 = .ok (.if_icmp .ne 9, 3) := by decide +kernel
theorem d_Model_dayOn_134 : decode M_Model_dayOn.2.1 134 = .ok (.aload_n 0, 1) := by decide +kernel
theorem d_Model_dayOn_135 : decode M_Model_dayOn.2.1 135 = .ok (.aload_n 1, 1) := by decide +kernel
theorem d_Model_dayOn_136 : decode M_Model_dayOn.2.1 136 = .ok (.iload_n 2, 1) := by decide +kernel
theorem d_Model_dayOn_137 : decode M_Model_dayOn.2.1 137 = .ok (.invokevirtual 417, 3) := by decide +kernel
theorem d_Model_dayOn_140 : decode M_Model_dayOn.2.1 140 = .ok (.iinc 2 1, 3) := by decide +kernel
theorem d_Model_dayOn_143 : decode M_Model_dayOn.2.1 143 = .ok (.goto (-33), 3) := by decide +kernel
def l_Model_dayRest_110 (M : MO) (H : SH) : Nat → Nat → SX → SX
  | 0, _, Y => Y
  | k + 1, i, Y => (if ((sx_he Y) i) = 1 then (l_Model_dayRest_110 M H k (i + 1) (s_Model_eat_1 M H Y i)) else (l_Model_dayRest_110 M H k (i + 1) Y))
set_option maxRecDepth 100000 in
set_option maxHeartbeats 800000 in
theorem l_Model_dayRest_110_go {Γ : G9} {h : AH} {m q r sa sb z : Nat} {n : Nat} {Q : QT} {X : XT} {M : MO} {H : SH} (geo : m + 2 ≤ q ∧ m + 2 ≤ r ∧ (q + 24 ≤ r ∨ r + 21 ≤ q)) (hB : sh_ha H 0 ≤ 5) (hS : sh_ha H 3 ≤ 6) (hC : sh_ha H 6 ≤ 4) (hD : sh_ha H 9 ≤ 4) (hE : sh_ha H 11 ≤ 4) (hn20 : n ≤ 20) : ∀ (k i : Nat) (Y : SX), i + k = n → sh_ha H 11 = n → sx_dy Y < 1000000 → Go Γ M_Model_dayOn 73 0 0 146 [some (.ref m), some (.ref r), some (.int (nI (i + k))), none] [] (md_ Γ h m q r sa sb r M H (l_Model_dayRest_110 M H k i Y)) z Q X → Go Γ M_Model_dayOn 73 0 0 110 [some (.ref m), some (.ref r), some (.int (nI i)), none] [] (md_ Γ h m q r sa sb r M H Y) z Q X := by
  intro k
  induction k with
  | zero =>
    intro i Y hi hn hdy hk
    refine Go.iload_2 d_Model_dayOn_110 rfl ?_
    refine Go.aload_0 d_Model_dayOn_111 rfl ?_
    refine Go.getfield d_Model_dayOn_112 rfl f_Model_20 (mr_at_m (by omega) hB hS hC hD hE) (by rfl) ?_
    refine Go.getfield d_Model_dayOn_115 rfl f_Model_40 (mr_at_q (by omega) hB hS hC hD hE) (by rfl) ?_
    refine Go.bipush (v := 11) d_Model_dayOn_118 rfl (by decide) ?_
    refine Go.iaload d_Model_dayOn_120 rfl (mr_at_q_5 (by omega) hB hS hC hD hE) (show vp_in (nI 11) 12 from by first | exact vp_in_nI (by omega) (by omega) | exact vp_nle (by assumption) (by omega) (by omega)) ?_
    rw [show (11 : Int32).toNatClampNeg = 11 from by decide]
    refine Go.icmp_ge (t := 146) d_Model_dayOn_121 (by decide) rfl (fun c121_1 => ?_) (fun c121_1 => ?_)
    · exact hk
    · exact absurd (nI_le (by omega) (by omega)) c121_1
  | succ k ih =>
    intro i Y hi hn hdy hk
    unfold l_Model_dayRest_110 at hk
    rw [show i + (k + 1) = i + 1 + k by omega] at hk
    refine Go.iload_2 d_Model_dayOn_110 rfl ?_
    refine Go.aload_0 d_Model_dayOn_111 rfl ?_
    refine Go.getfield d_Model_dayOn_112 rfl f_Model_20 (mr_at_m (by omega) hB hS hC hD hE) (by rfl) ?_
    refine Go.getfield d_Model_dayOn_115 rfl f_Model_40 (mr_at_q (by omega) hB hS hC hD hE) (by rfl) ?_
    refine Go.bipush (v := 11) d_Model_dayOn_118 rfl (by decide) ?_
    refine Go.iaload d_Model_dayOn_120 rfl (mr_at_q_5 (by omega) hB hS hC hD hE) (show vp_in (nI 11) 12 from by first | exact vp_in_nI (by omega) (by omega) | exact vp_nle (by assumption) (by omega) (by omega)) ?_
    rw [show (11 : Int32).toNatClampNeg = 11 from by decide]
    refine Go.icmp_ge (t := 146) d_Model_dayOn_121 (by decide) rfl (fun c121_1 => ?_) (fun c121_1 => ?_)
    · exact absurd c121_1 (nI_ge (by omega) (by omega))
    · refine Go.aload_1 d_Model_dayOn_124 rfl ?_
      refine Go.getfield d_Model_dayOn_125 rfl f_Model_283 (mr_at_r (by omega) hB hS hC hD hE) (by rfl) ?_
      refine Go.iload_2 d_Model_dayOn_128 rfl ?_
      refine Go.iaload d_Model_dayOn_129 rfl (mr_at_r_17 (by omega) hB hS hC hD hE) (show vp_in (nI i) 4 from by first | exact vp_in_nI (by omega) (by omega) | exact vp_nle (by assumption) (by omega) (by omega)) ?_
      rw [nI_clamp (show i < 2 ^ 31 by omega)]
      refine Go.iconst (v := 1) d_Model_dayOn_130 rfl (by decide) ?_
      refine Go.icmp_ne (t := 140) d_Model_dayOn_131 (by decide) rfl (fun c131_2 => ?_) (fun c131_2 => ?_)
      · refine Go.iinc_2 d_Model_dayOn_140 rfl (by rfl) (nI_inc _) ?_
        refine Go.goto (t := 110) d_Model_dayOn_143 (by decide) ?_
        rw [if_neg c131_2] at hk
        exact ih (i + 1) _ (by omega) (by first | exact hn | (simp only []; exact hn)) hdy hk
      · refine Go.aload_0 d_Model_dayOn_134 rfl ?_
        refine Go.aload_1 d_Model_dayOn_135 rfl ?_
        refine Go.iload_2 d_Model_dayOn_136 rfl ?_
        refine Go.cv2v d_Model_dayOn_137 rfl l_Model_417 k_Model_eat_1_v (mr_at_m (by omega) hB hS hC hD hE) rfl (c_Model_eat_1 (x2 := i) rfl (by omega) (by omega) hB hS hC hD hE) (Nat.ble_eq_true_of_le (by omega)) rfl rfl ?_
        refine Go.iinc_2 d_Model_dayOn_140 rfl (by rfl) (nI_inc _) ?_
        refine Go.goto (t := 110) d_Model_dayOn_143 (by decide) ?_
        rw [if_pos c131_2] at hk
        exact ih (i + 1) _ (by omega) (by first | exact hn | (simp only []; exact hn)) (by simp only [sx_dy, sx_dy_Model_fall, sx_dy_l_Model_move_42, sx_dy_Model_move, sx_dy_Model_look, sx_dy_Model_filled, sx_dy_Model_drilled, sx_dy_Model_moved, sx_dy_Model_probed, sx_dy_l_Model_melt_1_st, sx_dy_l_Model_melt_1_br, sx_dy_Model_melt_1, sx_dy_l_Model_snow_st, sx_dy_l_Model_snow_br, sx_dy_Model_snow, sx_dy_l_Model_eat_1_45, sx_dy_Model_eat_1, sx_dy_l_Model_readAll_2, sx_dy_Model_readAll, sx_dy_l_Model_dayRest_49]; exact hdy) hk
set_option maxRecDepth 100000 in
set_option maxHeartbeats 800000 in
theorem sx_dy_l_Model_dayRest_110 {M : MO} {H : SH} : ∀ (k i : Nat) (Y : SX), sx_dy (l_Model_dayRest_110 M H k i Y) = sx_dy Y := by
  intro k
  induction k with
  | zero => intros; rfl
  | succ k ih =>
    intros
    unfold l_Model_dayRest_110
    (repeat' split) <;> (try simp only [ih, sx_dy, sx_dy_Model_fall, sx_dy_l_Model_move_42, sx_dy_Model_move, sx_dy_Model_look, sx_dy_Model_filled, sx_dy_Model_drilled, sx_dy_Model_moved, sx_dy_Model_probed, sx_dy_l_Model_melt_1_st, sx_dy_l_Model_melt_1_br, sx_dy_Model_melt_1, sx_dy_l_Model_snow_st, sx_dy_l_Model_snow_br, sx_dy_Model_snow, sx_dy_l_Model_eat_1_45, sx_dy_Model_eat_1, sx_dy_l_Model_readAll_2, sx_dy_Model_readAll, sx_dy_l_Model_dayRest_49])
theorem d_Model_dayOn_148 : decode M_Model_dayOn.2.1 148 = .ok (.iload_n 2, 1) := by decide +kernel
theorem d_Model_dayOn_149 : decode M_Model_dayOn.2.1 149 = .ok (.aload_n 0, 1) := by decide +kernel
theorem d_Model_dayOn_150 : decode M_Model_dayOn.2.1 150 = .ok (.getfield 20, 3) := by decide +kernel
theorem d_Model_dayOn_153 : decode M_Model_dayOn.2.1 153 = .ok (.getfield 40, 3) := by decide +kernel
theorem d_Model_dayOn_156 : decode M_Model_dayOn.2.1 156 = .ok (.bipush 11, 2) := by decide +kernel
theorem d_Model_dayOn_158 : decode M_Model_dayOn.2.1 158 = .ok (.iaload, 1) := by decide +kernel
theorem d_Model_dayOn_159 : decode M_Model_dayOn.2.1 159 = .ok (.if_icmp .ge 25, 3) := by decide +kernel
theorem d_Model_dayOn_162 : decode M_Model_dayOn.2.1 162 = .ok (.aload_n 1, 1) := by decide +kernel
theorem d_Model_dayOn_163 : decode M_Model_dayOn.2.1 163 = .ok (.getfield 283, 3) := by decide +kernel
theorem d_Model_dayOn_166 : decode M_Model_dayOn.2.1 166 = .ok (.iload_n 2, 1) := by decide +kernel
theorem d_Model_dayOn_167 : decode M_Model_dayOn.2.1 167 = .ok (.iaload, 1) := by decide +kernel
theorem d_Model_dayOn_168 : decode M_Model_dayOn.2.1 168 = .ok (.iconst 1, 1) := by decide +kernel
theorem d_Model_dayOn_169 : decode M_Model_dayOn.2.1 169 = .ok (.if_icmp .ne 9, 3) := by decide +kernel
theorem d_Model_dayOn_172 : decode M_Model_dayOn.2.1 172 = .ok (.aload_n 0, 1) := by decide +kernel
theorem d_Model_dayOn_173 : decode M_Model_dayOn.2.1 173 = .ok (.aload_n 1, 1) := by decide +kernel
theorem d_Model_dayOn_174 : decode M_Model_dayOn.2.1 174 = .ok (.iload_n 2, 1) := by decide +kernel
theorem d_Model_dayOn_175 : decode M_Model_dayOn.2.1 175 = .ok (.invokevirtual 420, 3) := by decide +kernel
theorem d_Model_dayOn_178 : decode M_Model_dayOn.2.1 178 = .ok (.iinc 2 1, 3) := by decide +kernel
theorem d_Model_dayOn_181 : decode M_Model_dayOn.2.1 181 = .ok (.goto (-33), 3) := by decide +kernel
def l_Model_dayRest_148 (M : MO) (H : SH) : Nat → Nat → SX → SX
  | 0, _, Y => Y
  | k + 1, i, Y => (if ((sx_he Y) i) = 1 then (l_Model_dayRest_148 M H k (i + 1) (s_Model_readAll M H Y i)) else (l_Model_dayRest_148 M H k (i + 1) Y))
set_option maxRecDepth 100000 in
set_option maxHeartbeats 800000 in
theorem l_Model_dayRest_148_go {Γ : G9} {h : AH} {m q r sa sb z : Nat} {n : Nat} {Q : QT} {X : XT} {M : MO} {H : SH} (geo : m + 2 ≤ q ∧ m + 2 ≤ r ∧ (q + 24 ≤ r ∨ r + 21 ≤ q)) (hB : sh_ha H 0 ≤ 5) (hS : sh_ha H 3 ≤ 6) (hC : sh_ha H 6 ≤ 4) (hD : sh_ha H 9 ≤ 4) (hE : sh_ha H 11 ≤ 4) (hn20 : n ≤ 20) : ∀ (k i : Nat) (Y : SX), i + k = n → sh_ha H 11 = n → sx_dy Y < 1000000 → Go Γ M_Model_dayOn 73 0 0 184 [some (.ref m), some (.ref r), some (.int (nI (i + k))), none] [] (md_ Γ h m q r sa sb r M H (l_Model_dayRest_148 M H k i Y)) z Q X → Go Γ M_Model_dayOn 73 0 0 148 [some (.ref m), some (.ref r), some (.int (nI i)), none] [] (md_ Γ h m q r sa sb r M H Y) z Q X := by
  intro k
  induction k with
  | zero =>
    intro i Y hi hn hdy hk
    refine Go.iload_2 d_Model_dayOn_148 rfl ?_
    refine Go.aload_0 d_Model_dayOn_149 rfl ?_
    refine Go.getfield d_Model_dayOn_150 rfl f_Model_20 (mr_at_m (by omega) hB hS hC hD hE) (by rfl) ?_
    refine Go.getfield d_Model_dayOn_153 rfl f_Model_40 (mr_at_q (by omega) hB hS hC hD hE) (by rfl) ?_
    refine Go.bipush (v := 11) d_Model_dayOn_156 rfl (by decide) ?_
    refine Go.iaload d_Model_dayOn_158 rfl (mr_at_q_5 (by omega) hB hS hC hD hE) (show vp_in (nI 11) 12 from by first | exact vp_in_nI (by omega) (by omega) | exact vp_nle (by assumption) (by omega) (by omega)) ?_
    rw [show (11 : Int32).toNatClampNeg = 11 from by decide]
    refine Go.icmp_ge (t := 184) d_Model_dayOn_159 (by decide) rfl (fun c159_1 => ?_) (fun c159_1 => ?_)
    · exact hk
    · exact absurd (nI_le (by omega) (by omega)) c159_1
  | succ k ih =>
    intro i Y hi hn hdy hk
    unfold l_Model_dayRest_148 at hk
    rw [show i + (k + 1) = i + 1 + k by omega] at hk
    refine Go.iload_2 d_Model_dayOn_148 rfl ?_
    refine Go.aload_0 d_Model_dayOn_149 rfl ?_
    refine Go.getfield d_Model_dayOn_150 rfl f_Model_20 (mr_at_m (by omega) hB hS hC hD hE) (by rfl) ?_
    refine Go.getfield d_Model_dayOn_153 rfl f_Model_40 (mr_at_q (by omega) hB hS hC hD hE) (by rfl) ?_
    refine Go.bipush (v := 11) d_Model_dayOn_156 rfl (by decide) ?_
    refine Go.iaload d_Model_dayOn_158 rfl (mr_at_q_5 (by omega) hB hS hC hD hE) (show vp_in (nI 11) 12 from by first | exact vp_in_nI (by omega) (by omega) | exact vp_nle (by assumption) (by omega) (by omega)) ?_
    rw [show (11 : Int32).toNatClampNeg = 11 from by decide]
    refine Go.icmp_ge (t := 184) d_Model_dayOn_159 (by decide) rfl (fun c159_1 => ?_) (fun c159_1 => ?_)
    · exact absurd c159_1 (nI_ge (by omega) (by omega))
    · refine Go.aload_1 d_Model_dayOn_162 rfl ?_
      refine Go.getfield d_Model_dayOn_163 rfl f_Model_283 (mr_at_r (by omega) hB hS hC hD hE) (by rfl) ?_
      refine Go.iload_2 d_Model_dayOn_166 rfl ?_
      refine Go.iaload d_Model_dayOn_167 rfl (mr_at_r_17 (by omega) hB hS hC hD hE) (show vp_in (nI i) 4 from by first | exact vp_in_nI (by omega) (by omega) | exact vp_nle (by assumption) (by omega) (by omega)) ?_
      rw [nI_clamp (show i < 2 ^ 31 by omega)]
      refine Go.iconst (v := 1) d_Model_dayOn_168 rfl (by decide) ?_
      refine Go.icmp_ne (t := 178) d_Model_dayOn_169 (by decide) rfl (fun c169_2 => ?_) (fun c169_2 => ?_)
      · refine Go.iinc_2 d_Model_dayOn_178 rfl (by rfl) (nI_inc _) ?_
        refine Go.goto (t := 148) d_Model_dayOn_181 (by decide) ?_
        rw [if_neg c169_2] at hk
        exact ih (i + 1) _ (by omega) (by first | exact hn | (simp only []; exact hn)) hdy hk
      · refine Go.aload_0 d_Model_dayOn_172 rfl ?_
        refine Go.aload_1 d_Model_dayOn_173 rfl ?_
        refine Go.iload_2 d_Model_dayOn_174 rfl ?_
        refine Go.cv2v d_Model_dayOn_175 rfl l_Model_420 k_Model_readAll_v (mr_at_m (by omega) hB hS hC hD hE) rfl (c_Model_readAll (x2 := i) rfl (by omega) (by omega) hB hS hC hD hE) (Nat.ble_eq_true_of_le (by omega)) rfl rfl ?_
        refine Go.iinc_2 d_Model_dayOn_178 rfl (by rfl) (nI_inc _) ?_
        refine Go.goto (t := 148) d_Model_dayOn_181 (by decide) ?_
        rw [if_pos c169_2] at hk
        exact ih (i + 1) _ (by omega) (by first | exact hn | (simp only []; exact hn)) (by simp only [sx_dy, sx_dy_Model_fall, sx_dy_l_Model_move_42, sx_dy_Model_move, sx_dy_Model_look, sx_dy_Model_filled, sx_dy_Model_drilled, sx_dy_Model_moved, sx_dy_Model_probed, sx_dy_l_Model_melt_1_st, sx_dy_l_Model_melt_1_br, sx_dy_Model_melt_1, sx_dy_l_Model_snow_st, sx_dy_l_Model_snow_br, sx_dy_Model_snow, sx_dy_l_Model_eat_1_45, sx_dy_Model_eat_1, sx_dy_l_Model_readAll_2, sx_dy_Model_readAll, sx_dy_l_Model_dayRest_49, sx_dy_l_Model_dayRest_110]; exact hdy) hk
set_option maxRecDepth 100000 in
set_option maxHeartbeats 800000 in
theorem sx_dy_l_Model_dayRest_148 {M : MO} {H : SH} : ∀ (k i : Nat) (Y : SX), sx_dy (l_Model_dayRest_148 M H k i Y) = sx_dy Y := by
  intro k
  induction k with
  | zero => intros; rfl
  | succ k ih =>
    intros
    unfold l_Model_dayRest_148
    (repeat' split) <;> (try simp only [ih, sx_dy, sx_dy_Model_fall, sx_dy_l_Model_move_42, sx_dy_Model_move, sx_dy_Model_look, sx_dy_Model_filled, sx_dy_Model_drilled, sx_dy_Model_moved, sx_dy_Model_probed, sx_dy_l_Model_melt_1_st, sx_dy_l_Model_melt_1_br, sx_dy_Model_melt_1, sx_dy_l_Model_snow_st, sx_dy_l_Model_snow_br, sx_dy_Model_snow, sx_dy_l_Model_eat_1_45, sx_dy_Model_eat_1, sx_dy_l_Model_readAll_2, sx_dy_Model_readAll, sx_dy_l_Model_dayRest_49, sx_dy_l_Model_dayRest_110])
theorem mr_at_r_20 {Γ : G9} {h : AH} {m q r sa sb : Nat} {M : MO} {H : SH} {Y : SX} (geo : m + 2 ≤ q ∧ m + 2 ≤ r ∧ (q + 24 ≤ r ∨ r + 21 ≤ q)) (hB : sh_ha H 0 ≤ 5) (hS : sh_ha H 3 ≤ 6) (hC : sh_ha H 6 ≤ 4) (hD : sh_ha H 9 ≤ 4) (hE : sh_ha H 11 ≤ 4) : (md_ Γ h m q r sa sb r M H Y) (r + 20) = some (aI Γ 4 (sx_do Y)) := by
  unfold md_
  exact (sx_g20)
theorem mr_arr_r_20 {Γ : G9} {h : AH} {m q r sa sb : Nat} {M : MO} {H : SH} {Y : SX} {v : Nat → Int32} (geo : m + 2 ≤ q ∧ m + 2 ≤ r ∧ (q + 24 ≤ r ∨ r + 21 ≤ q)) (hB : sh_ha H 0 ≤ 5) (hS : sh_ha H 3 ≤ 6) (hC : sh_ha H 6 ≤ 4) (hD : sh_ha H 9 ≤ 4) (hE : sh_ha H 11 ≤ 4) : hup (md_ Γ h m q r sa sb r M H Y) (r + 20) (aI Γ 4 v) = (md_ Γ h m q r sa sb r M H (sx_do' Y v)) := by
  unfold md_
  exact (sx_a_do (v := v))
theorem d_Model_dayOn_196 : decode M_Model_dayOn.2.1 196 = .ok (.iload_n 2, 1) := by decide +kernel
theorem d_Model_dayOn_197 : decode M_Model_dayOn.2.1 197 = .ok (.iconst 4, 1) := by decide +kernel
theorem d_Model_dayOn_198 : decode M_Model_dayOn.2.1 198 = .ok (.if_icmp .ge 16, 3) := by decide +kernel
theorem d_Model_dayOn_201 : decode M_Model_dayOn.2.1 201 = .ok (.aload_n 1, 1) := by decide +kernel
theorem d_Model_dayOn_202 : decode M_Model_dayOn.2.1 202 = .ok (.getfield 325, 3) := by decide +kernel
theorem d_Model_dayOn_205 : decode M_Model_dayOn.2.1 205 = .ok (.iload_n 2, 1) := by decide +kernel
theorem d_Model_dayOn_206 : decode M_Model_dayOn.2.1 206 = .ok (.iconst 0, 1) := by decide +kernel
theorem d_Model_dayOn_207 : decode M_Model_dayOn.2.1 207 = .ok (.iastore, 1) := by decide +kernel
theorem d_Model_dayOn_208 : decode M_Model_dayOn.2.1 208 = .ok (.iinc 2 1, 3) := by decide +kernel
theorem d_Model_dayOn_211 : decode M_Model_dayOn.2.1 211 = .ok (.goto (-15), 3) := by decide +kernel
def l_Model_dayRest_196 (M : MO) (H : SH) : Nat → Nat → SX → SX
  | 0, _, Y => Y
  | k + 1, i, Y => (l_Model_dayRest_196 M H k (i + 1) (sx_do' Y (upd (sx_do Y) i 0)))
set_option maxRecDepth 100000 in
set_option maxHeartbeats 800000 in
theorem l_Model_dayRest_196_go {Γ : G9} {h : AH} {m q r sa sb z : Nat} {n : Nat} {Q : QT} {X : XT} {M : MO} {H : SH} (geo : m + 2 ≤ q ∧ m + 2 ≤ r ∧ (q + 24 ≤ r ∨ r + 21 ≤ q)) (hB : sh_ha H 0 ≤ 5) (hS : sh_ha H 3 ≤ 6) (hC : sh_ha H 6 ≤ 4) (hD : sh_ha H 9 ≤ 4) (hE : sh_ha H 11 ≤ 4) (hn20 : n ≤ 4) : ∀ (k i : Nat) (Y : SX), i + k = n → 4 = n → Go Γ M_Model_dayOn 73 0 0 214 [some (.ref m), some (.ref r), some (.int (nI (i + k))), none] [] (md_ Γ h m q r sa sb r M H (l_Model_dayRest_196 M H k i Y)) z Q X → Go Γ M_Model_dayOn 73 0 0 196 [some (.ref m), some (.ref r), some (.int (nI i)), none] [] (md_ Γ h m q r sa sb r M H Y) z Q X := by
  intro k
  induction k with
  | zero =>
    intro i Y hi hn hk
    refine Go.iload_2 d_Model_dayOn_196 rfl ?_
    refine Go.iconst (v := 4) d_Model_dayOn_197 rfl (by decide) ?_
    refine Go.icmp_ge (t := 214) d_Model_dayOn_198 (by decide) rfl (fun c198_1 => ?_) (fun c198_1 => ?_)
    · exact hk
    · exact absurd (show nI 4 ≤ nI i from nI_le (by omega) (by omega)) c198_1
  | succ k ih =>
    intro i Y hi hn hk
    unfold l_Model_dayRest_196 at hk
    rw [show i + (k + 1) = i + 1 + k by omega] at hk
    refine Go.iload_2 d_Model_dayOn_196 rfl ?_
    refine Go.iconst (v := 4) d_Model_dayOn_197 rfl (by decide) ?_
    refine Go.icmp_ge (t := 214) d_Model_dayOn_198 (by decide) rfl (fun c198_1 => ?_) (fun c198_1 => ?_)
    · exact absurd c198_1 (show ¬ nI 4 ≤ nI i from nI_ge (by omega) (by omega))
    · refine Go.aload_1 d_Model_dayOn_201 rfl ?_
      refine Go.getfield d_Model_dayOn_202 rfl f_Model_325 (mr_at_r (by omega) hB hS hC hD hE) (by rfl) ?_
      refine Go.iload_2 d_Model_dayOn_205 rfl ?_
      refine Go.iconst (v := 0) d_Model_dayOn_206 rfl (by decide) ?_
      refine Go.iastore d_Model_dayOn_207 rfl (mr_at_r_20 (by omega) hB hS hC hD hE) (show vp_in (nI i) 4 from by first | exact vp_in_nI (by omega) (by omega) | exact vp_nle (by assumption) (by omega) (by omega)) ?_
      rw [nI_clamp (show i < 2 ^ 31 by omega)]
      refine Go.heq (mr_arr_r_20 (by omega) hB hS hC hD hE) ?_
      refine Go.iinc_2 d_Model_dayOn_208 rfl (by rfl) (nI_inc _) ?_
      refine Go.goto (t := 196) d_Model_dayOn_211 (by decide) ?_
      exact ih (i + 1) _ (by omega) (by first | exact hn | (simp only []; exact hn)) hk
set_option maxRecDepth 100000 in
set_option maxHeartbeats 800000 in
theorem sx_dy_l_Model_dayRest_196 {M : MO} {H : SH} : ∀ (k i : Nat) (Y : SX), sx_dy (l_Model_dayRest_196 M H k i Y) = sx_dy Y := by
  intro k
  induction k with
  | zero => intros; rfl
  | succ k ih =>
    intros
    unfold l_Model_dayRest_196
    (repeat' split) <;> (try simp only [ih, sx_dy, sx_dy_Model_fall, sx_dy_l_Model_move_42, sx_dy_Model_move, sx_dy_Model_look, sx_dy_Model_filled, sx_dy_Model_drilled, sx_dy_Model_moved, sx_dy_Model_probed, sx_dy_l_Model_melt_1_st, sx_dy_l_Model_melt_1_br, sx_dy_Model_melt_1, sx_dy_l_Model_snow_st, sx_dy_l_Model_snow_br, sx_dy_Model_snow, sx_dy_l_Model_eat_1_45, sx_dy_Model_eat_1, sx_dy_l_Model_readAll_2, sx_dy_Model_readAll, sx_dy_l_Model_dayRest_49, sx_dy_l_Model_dayRest_110, sx_dy_l_Model_dayRest_148])
theorem mr_arr_r_9 {Γ : G9} {h : AH} {m q r sa sb : Nat} {M : MO} {H : SH} {Y : SX} {v : Nat → Int32} (geo : m + 2 ≤ q ∧ m + 2 ≤ r ∧ (q + 24 ≤ r ∨ r + 21 ≤ q)) (hB : sh_ha H 0 ≤ 5) (hS : sh_ha H 3 ≤ 6) (hC : sh_ha H 6 ≤ 4) (hD : sh_ha H 9 ≤ 4) (hE : sh_ha H 11 ≤ 4) : hup (md_ Γ h m q r sa sb r M H Y) (r + 9) (aI Γ 4 v) = (md_ Γ h m q r sa sb r M H (sx_kn' Y v)) := by
  unfold md_
  exact (sx_a_kn (v := v))
theorem d_Model_dayOn_216 : decode M_Model_dayOn.2.1 216 = .ok (.iload_n 2, 1) := by decide +kernel
theorem d_Model_dayOn_217 : decode M_Model_dayOn.2.1 217 = .ok (.iconst 4, 1) := by decide +kernel
theorem d_Model_dayOn_218 : decode M_Model_dayOn.2.1 218 = .ok (.if_icmp .ge 27, 3) := by decide +kernel
theorem d_Model_dayOn_221 : decode M_Model_dayOn.2.1 221 = .ok (.aload_n 1, 1) := by decide +kernel
theorem d_Model_dayOn_222 : decode M_Model_dayOn.2.1 222 = .ok (.getfield 286, 3) := by decide +kernel
theorem d_Model_dayOn_225 : decode M_Model_dayOn.2.1 225 = .ok (.iload_n 2, 1) := by decide +kernel
theorem d_Model_dayOn_226 : decode M_Model_dayOn.2.1 226 = .ok (.iconst 0, 1) := by decide +kernel
theorem d_Model_dayOn_227 : decode M_Model_dayOn.2.1 227 = .ok (.aload_n 1, 1) := by decide +kernel
theorem d_Model_dayOn_228 : decode M_Model_dayOn.2.1 228 = .ok (.getfield 286, 3) := by decide +kernel
theorem d_Model_dayOn_231 : decode M_Model_dayOn.2.1 231 = .ok (.iload_n 2, 1) := by decide +kernel
theorem d_Model_dayOn_232 : decode M_Model_dayOn.2.1 232 = .ok (.iaload, 1) := by decide +kernel
theorem d_Model_dayOn_233 : decode M_Model_dayOn.2.1 233 = .ok (.iconst 1, 1) := by decide +kernel
theorem d_Model_dayOn_234 : decode M_Model_dayOn.2.1 234 = .ok (.isub, 1) := by decide +kernel
theorem d_Model_dayOn_235 : decode M_Model_dayOn.2.1 235 = .ok (.invokestatic 318, 3) := by decide +kernel
theorem d_Model_dayOn_238 : decode M_Model_dayOn.2.1 238 = .ok (.iastore, 1) := by decide +kernel
theorem d_Model_dayOn_239 : decode M_Model_dayOn.2.1 239 = .ok (.iinc 2 1, 3) := by decide +kernel
theorem d_Model_dayOn_242 : decode M_Model_dayOn.2.1 242 = .ok (.goto (-26), 3) := by decide +kernel
def l_Model_dayRest_216 (M : MO) (H : SH) : Nat → Nat → SX → SX
  | 0, _, Y => Y
  | k + 1, i, Y => (l_Model_dayRest_216 M H k (i + 1) (sx_kn' Y (upd (sx_kn Y) i (iMax 0 (((sx_kn Y) i) - 1)))))
set_option maxRecDepth 100000 in
set_option maxHeartbeats 800000 in
theorem l_Model_dayRest_216_go {Γ : G9} {h : AH} {m q r sa sb z : Nat} {n : Nat} {Q : QT} {X : XT} {M : MO} {H : SH} (geo : m + 2 ≤ q ∧ m + 2 ≤ r ∧ (q + 24 ≤ r ∨ r + 21 ≤ q)) (hB : sh_ha H 0 ≤ 5) (hS : sh_ha H 3 ≤ 6) (hC : sh_ha H 6 ≤ 4) (hD : sh_ha H 9 ≤ 4) (hE : sh_ha H 11 ≤ 4) (hn20 : n ≤ 4) : ∀ (k i : Nat) (Y : SX), i + k = n → 4 = n → Go Γ M_Model_dayOn 73 0 0 245 [some (.ref m), some (.ref r), some (.int (nI (i + k))), none] [] (md_ Γ h m q r sa sb r M H (l_Model_dayRest_216 M H k i Y)) z Q X → Go Γ M_Model_dayOn 73 0 0 216 [some (.ref m), some (.ref r), some (.int (nI i)), none] [] (md_ Γ h m q r sa sb r M H Y) z Q X := by
  intro k
  induction k with
  | zero =>
    intro i Y hi hn hk
    refine Go.iload_2 d_Model_dayOn_216 rfl ?_
    refine Go.iconst (v := 4) d_Model_dayOn_217 rfl (by decide) ?_
    refine Go.icmp_ge (t := 245) d_Model_dayOn_218 (by decide) rfl (fun c218_1 => ?_) (fun c218_1 => ?_)
    · exact hk
    · exact absurd (show nI 4 ≤ nI i from nI_le (by omega) (by omega)) c218_1
  | succ k ih =>
    intro i Y hi hn hk
    unfold l_Model_dayRest_216 at hk
    rw [show i + (k + 1) = i + 1 + k by omega] at hk
    refine Go.iload_2 d_Model_dayOn_216 rfl ?_
    refine Go.iconst (v := 4) d_Model_dayOn_217 rfl (by decide) ?_
    refine Go.icmp_ge (t := 245) d_Model_dayOn_218 (by decide) rfl (fun c218_1 => ?_) (fun c218_1 => ?_)
    · exact absurd c218_1 (show ¬ nI 4 ≤ nI i from nI_ge (by omega) (by omega))
    · refine Go.aload_1 d_Model_dayOn_221 rfl ?_
      refine Go.getfield d_Model_dayOn_222 rfl f_Model_286 (mr_at_r (by omega) hB hS hC hD hE) (by rfl) ?_
      refine Go.iload_2 d_Model_dayOn_225 rfl ?_
      refine Go.iconst (v := 0) d_Model_dayOn_226 rfl (by decide) ?_
      refine Go.aload_1 d_Model_dayOn_227 rfl ?_
      refine Go.getfield d_Model_dayOn_228 rfl f_Model_286 (mr_at_r (by omega) hB hS hC hD hE) (by rfl) ?_
      refine Go.iload_2 d_Model_dayOn_231 rfl ?_
      refine Go.iaload d_Model_dayOn_232 rfl (mr_at_r_9 (by omega) hB hS hC hD hE) (show vp_in (nI i) 4 from by first | exact vp_in_nI (by omega) (by omega) | exact vp_nle (by assumption) (by omega) (by omega)) ?_
      rw [nI_clamp (show i < 2 ^ 31 by omega)]
      refine Go.iconst (v := 1) d_Model_dayOn_233 rfl (by decide) ?_
      refine Go.isub d_Model_dayOn_234 rfl ?_
      refine Go.imax d_Model_dayOn_235 rfl l_Model_318 (by omega) rfl ?_
      refine Go.iastore d_Model_dayOn_238 rfl (mr_at_r_9 (by omega) hB hS hC hD hE) (show vp_in (nI i) 4 from by first | exact vp_in_nI (by omega) (by omega) | exact vp_nle (by assumption) (by omega) (by omega)) ?_
      rw [nI_clamp (show i < 2 ^ 31 by omega)]
      refine Go.heq (mr_arr_r_9 (by omega) hB hS hC hD hE) ?_
      refine Go.iinc_2 d_Model_dayOn_239 rfl (by rfl) (nI_inc _) ?_
      refine Go.goto (t := 216) d_Model_dayOn_242 (by decide) ?_
      exact ih (i + 1) _ (by omega) (by first | exact hn | (simp only []; exact hn)) hk
set_option maxRecDepth 100000 in
set_option maxHeartbeats 800000 in
theorem sx_dy_l_Model_dayRest_216 {M : MO} {H : SH} : ∀ (k i : Nat) (Y : SX), sx_dy (l_Model_dayRest_216 M H k i Y) = sx_dy Y := by
  intro k
  induction k with
  | zero => intros; rfl
  | succ k ih =>
    intros
    unfold l_Model_dayRest_216
    (repeat' split) <;> (try simp only [ih, sx_dy, sx_dy_Model_fall, sx_dy_l_Model_move_42, sx_dy_Model_move, sx_dy_Model_look, sx_dy_Model_filled, sx_dy_Model_drilled, sx_dy_Model_moved, sx_dy_Model_probed, sx_dy_l_Model_melt_1_st, sx_dy_l_Model_melt_1_br, sx_dy_Model_melt_1, sx_dy_l_Model_snow_st, sx_dy_l_Model_snow_br, sx_dy_Model_snow, sx_dy_l_Model_eat_1_45, sx_dy_Model_eat_1, sx_dy_l_Model_readAll_2, sx_dy_Model_readAll, sx_dy_l_Model_dayRest_49, sx_dy_l_Model_dayRest_110, sx_dy_l_Model_dayRest_148, sx_dy_l_Model_dayRest_196])
theorem mr_put_r_day {Γ : G9} {h : AH} {m q r sa sb : Nat} {M : MO} {H : SH} {Y : SX} {v : Nat} (geo : m + 2 ≤ q ∧ m + 2 ≤ r ∧ (q + 24 ≤ r ∨ r + 21 ≤ q)) (hB : sh_ha H 0 ≤ 5) (hS : sh_ha H 3 ≤ 6) (hC : sh_ha H 6 ≤ 4) (hD : sh_ha H 9 ≤ 4) (hE : sh_ha H 11 ≤ 4) : hup (md_ Γ h m q r sa sb r M H Y) r (.inr (10, [.int (nI (sx_dy Y)), .int (sx_rd Y), .int (sx_fa Y), .int (sx_ca Y), .ref (r + 1), .ref (r + 2), .ref (r + 3), .ref (r + 4), .ref (r + 5), .ref (r + 6), .ref (r + 7), .ref (r + 8), .ref (r + 9), .ref (r + 10), .ref (r + 11), .ref (r + 12), .ref (r + 13), .ref (r + 14), .ref (r + 15), .ref (r + 16), .ref (r + 17), .ref (r + 18), .ref (r + 19), .ref (r + 20)].set 0 (.int (nI v)))) = (md_ Γ h m q r sa sb r M H (sx_dy' Y v)) := by
  unfold md_
  exact (sx_p_dy (v := v))
theorem d_Model_dayOn_47 : decode M_Model_dayOn.2.1 47 = .ok (.iconst 0, 1) := by decide +kernel
theorem d_Model_dayOn_48 : decode M_Model_dayOn.2.1 48 = .ok (.istore_n 2, 1) := by decide +kernel
theorem d_Model_dayOn_108 : decode M_Model_dayOn.2.1 108 = .ok (.iconst 0, 1) := by decide +kernel
theorem d_Model_dayOn_109 : decode M_Model_dayOn.2.1 109 = .ok (.istore_n 2, 1) := by decide +kernel
theorem d_Model_dayOn_146 : decode M_Model_dayOn.2.1 146 = .ok (.iconst 0, 1) := by decide +kernel
theorem d_Model_dayOn_147 : decode M_Model_dayOn.2.1 147 = .ok (.istore_n 2, 1) := by decide +kernel
theorem d_Model_dayOn_184 : decode M_Model_dayOn.2.1 184 = .ok (.aload_n 1, 1) := by decide +kernel
theorem d_Model_dayOn_185 : decode M_Model_dayOn.2.1 185 = .ok (.dup, 1) := by decide +kernel
theorem d_Model_dayOn_186 : decode M_Model_dayOn.2.1 186 = .ok (.getfield 297, 3) := by decide +kernel
theorem d_Model_dayOn_189 : decode M_Model_dayOn.2.1 189 = .ok (.iconst 1, 1) := by decide +kernel
theorem d_Model_dayOn_190 : decode M_Model_dayOn.2.1 190 = .ok (.iadd, 1) := by decide +kernel
theorem d_Model_dayOn_191 : decode M_Model_dayOn.2.1 191 = .ok (.putfield 297, 3) := by decide +kernel
theorem d_Model_dayOn_194 : decode M_Model_dayOn.2.1 194 = .ok (.iconst 0, 1) := by decide +kernel
theorem d_Model_dayOn_195 : decode M_Model_dayOn.2.1 195 = .ok (.istore_n 2, 1) := by decide +kernel
theorem d_Model_dayOn_214 : decode M_Model_dayOn.2.1 214 = .ok (.iconst 0, 1) := by decide +kernel
theorem d_Model_dayOn_215 : decode M_Model_dayOn.2.1 215 = .ok (.istore_n 2, 1) := by decide +kernel
theorem d_Model_dayOn_245 : decode M_Model_dayOn.2.1 245 = .ok (.return_, 1) := by decide +kernel
def s_Model_dayRest (M : MO) (H : SH) (Y : SX) : SX := (l_Model_dayRest_216 M H (4) 0 (l_Model_dayRest_196 M H (4) 0 (sx_dy' (l_Model_dayRest_148 M H (sh_ha H 11) 0 (l_Model_dayRest_110 M H (sh_ha H 11) 0 (l_Model_dayRest_49 M H (sh_ha H 0) 0 Y))) ((sx_dy (l_Model_dayRest_148 M H (sh_ha H 11) 0 (l_Model_dayRest_110 M H (sh_ha H 11) 0 (l_Model_dayRest_49 M H (sh_ha H 0) 0 Y)))) + 1))))
set_option maxRecDepth 100000 in
set_option maxHeartbeats 4000000 in
theorem g_Model_dayRest {Γ : G9} {h : AH} {m q r sa sb z : Nat} {M : MO} {H : SH} {Y : SX} (geo : m + 2 ≤ q ∧ m + 2 ≤ r ∧ (q + 24 ≤ r ∨ r + 21 ≤ q)) (hB : sh_ha H 0 ≤ 5) (hS : sh_ha H 3 ≤ 6) (hC : sh_ha H 6 ≤ 4) (hD : sh_ha H 9 ≤ 4) (hE : sh_ha H 11 ≤ 4) (hdy : sx_dy Y < 1000000) : Go Γ M_Model_dayOn 73 0 0 47 [some (.ref m), some (.ref r), none, none] [] (md_ Γ h m q r sa sb r M H Y) z (RQ none (md_ Γ h m q r sa sb r M H (s_Model_dayRest M H Y)) z) noX := by
  unfold s_Model_dayRest
  refine Go.iconst (v := 0) d_Model_dayOn_47 rfl (by decide) ?_
  refine Go.istore_2 d_Model_dayOn_48 rfl (by rfl) ?_
  refine l_Model_dayRest_49_go (n := (sh_ha H 0)) geo hB hS hC hD hE (by omega) (sh_ha H 0) 0 Y (by omega) rfl hdy ?_
  refine Go.iconst (v := 0) d_Model_dayOn_108 rfl (by decide) ?_
  refine Go.istore_2 d_Model_dayOn_109 rfl (by rfl) ?_
  refine l_Model_dayRest_110_go (n := (sh_ha H 11)) geo hB hS hC hD hE (by omega) (sh_ha H 11) 0 (l_Model_dayRest_49 M H (sh_ha H 0) 0 Y) (by omega) rfl (by simp only [sx_dy, sx_dy_Model_fall, sx_dy_l_Model_move_42, sx_dy_Model_move, sx_dy_Model_look, sx_dy_Model_filled, sx_dy_Model_drilled, sx_dy_Model_moved, sx_dy_Model_probed, sx_dy_l_Model_melt_1_st, sx_dy_l_Model_melt_1_br, sx_dy_Model_melt_1, sx_dy_l_Model_snow_st, sx_dy_l_Model_snow_br, sx_dy_Model_snow, sx_dy_l_Model_eat_1_45, sx_dy_Model_eat_1, sx_dy_l_Model_readAll_2, sx_dy_Model_readAll, sx_dy_l_Model_dayRest_49, sx_dy_l_Model_dayRest_110, sx_dy_l_Model_dayRest_148, sx_dy_l_Model_dayRest_196, sx_dy_l_Model_dayRest_216]; exact hdy) ?_
  refine Go.iconst (v := 0) d_Model_dayOn_146 rfl (by decide) ?_
  refine Go.istore_2 d_Model_dayOn_147 rfl (by rfl) ?_
  refine l_Model_dayRest_148_go (n := (sh_ha H 11)) geo hB hS hC hD hE (by omega) (sh_ha H 11) 0 (l_Model_dayRest_110 M H (sh_ha H 11) 0 (l_Model_dayRest_49 M H (sh_ha H 0) 0 Y)) (by omega) rfl (by simp only [sx_dy, sx_dy_Model_fall, sx_dy_l_Model_move_42, sx_dy_Model_move, sx_dy_Model_look, sx_dy_Model_filled, sx_dy_Model_drilled, sx_dy_Model_moved, sx_dy_Model_probed, sx_dy_l_Model_melt_1_st, sx_dy_l_Model_melt_1_br, sx_dy_Model_melt_1, sx_dy_l_Model_snow_st, sx_dy_l_Model_snow_br, sx_dy_Model_snow, sx_dy_l_Model_eat_1_45, sx_dy_Model_eat_1, sx_dy_l_Model_readAll_2, sx_dy_Model_readAll, sx_dy_l_Model_dayRest_49, sx_dy_l_Model_dayRest_110, sx_dy_l_Model_dayRest_148, sx_dy_l_Model_dayRest_196, sx_dy_l_Model_dayRest_216]; exact hdy) ?_
  refine Go.aload_1 d_Model_dayOn_184 rfl ?_
  refine Go.dup d_Model_dayOn_185 rfl rfl ?_
  refine Go.getfield d_Model_dayOn_186 rfl f_Model_297 (mr_at_r (by omega) hB hS hC hD hE) (by rfl) ?_
  refine Go.iconst (v := 1) d_Model_dayOn_189 rfl (by decide) ?_
  refine Go.iadd d_Model_dayOn_190 rfl ?_
  rw [show (nI (sx_dy (l_Model_dayRest_148 M H (sh_ha H 11) 0 (l_Model_dayRest_110 M H (sh_ha H 11) 0 (l_Model_dayRest_49 M H (sh_ha H 0) 0 Y))))) + 1 = nI ((sx_dy (l_Model_dayRest_148 M H (sh_ha H 11) 0 (l_Model_dayRest_110 M H (sh_ha H 11) 0 (l_Model_dayRest_49 M H (sh_ha H 0) 0 Y)))) + 1) from nI_add _ _]
  refine Go.putfield d_Model_dayOn_191 rfl f_Model_297_p (Or.inl (fun C T N h => by cases h; rfl)) (mr_at_r (by omega) hB hS hC hD hE) (by exact Nat.le_of_ble_eq_true rfl) rfl rfl ?_
  refine Go.heq (mr_put_r_day (by omega) hB hS hC hD hE) ?_
  refine Go.iconst (v := 0) d_Model_dayOn_194 rfl (by decide) ?_
  refine Go.istore_2 d_Model_dayOn_195 rfl (by rfl) ?_
  refine l_Model_dayRest_196_go (n := (4)) geo hB hS hC hD hE (by decide) (4) 0 (sx_dy' (l_Model_dayRest_148 M H (sh_ha H 11) 0 (l_Model_dayRest_110 M H (sh_ha H 11) 0 (l_Model_dayRest_49 M H (sh_ha H 0) 0 Y))) ((sx_dy (l_Model_dayRest_148 M H (sh_ha H 11) 0 (l_Model_dayRest_110 M H (sh_ha H 11) 0 (l_Model_dayRest_49 M H (sh_ha H 0) 0 Y)))) + 1)) (by omega) rfl ?_
  refine Go.iconst (v := 0) d_Model_dayOn_214 rfl (by decide) ?_
  refine Go.istore_2 d_Model_dayOn_215 rfl (by rfl) ?_
  refine l_Model_dayRest_216_go (n := (4)) geo hB hS hC hD hE (by decide) (4) 0 (l_Model_dayRest_196 M H (4) 0 (sx_dy' (l_Model_dayRest_148 M H (sh_ha H 11) 0 (l_Model_dayRest_110 M H (sh_ha H 11) 0 (l_Model_dayRest_49 M H (sh_ha H 0) 0 Y))) ((sx_dy (l_Model_dayRest_148 M H (sh_ha H 11) 0 (l_Model_dayRest_110 M H (sh_ha H 11) 0 (l_Model_dayRest_49 M H (sh_ha H 0) 0 Y)))) + 1))) (by omega) rfl ?_
  exact Go.vret d_Model_dayOn_245 rfl ⟨rfl, by dsimp only, rfl⟩
theorem mr_put_r_carried {Γ : G9} {h : AH} {m q r sa sb : Nat} {M : MO} {H : SH} {Y : SX} {v : Int32} (geo : m + 2 ≤ q ∧ m + 2 ≤ r ∧ (q + 24 ≤ r ∨ r + 21 ≤ q)) (hB : sh_ha H 0 ≤ 5) (hS : sh_ha H 3 ≤ 6) (hC : sh_ha H 6 ≤ 4) (hD : sh_ha H 9 ≤ 4) (hE : sh_ha H 11 ≤ 4) : hup (md_ Γ h m q r sa sb r M H Y) r (.inr (10, [.int (nI (sx_dy Y)), .int (sx_rd Y), .int (sx_fa Y), .int (sx_ca Y), .ref (r + 1), .ref (r + 2), .ref (r + 3), .ref (r + 4), .ref (r + 5), .ref (r + 6), .ref (r + 7), .ref (r + 8), .ref (r + 9), .ref (r + 10), .ref (r + 11), .ref (r + 12), .ref (r + 13), .ref (r + 14), .ref (r + 15), .ref (r + 16), .ref (r + 17), .ref (r + 18), .ref (r + 19), .ref (r + 20)].set 3 (.int v))) = (md_ Γ h m q r sa sb r M H (sx_ca' Y v)) := by
  unfold md_
  exact (sx_p_ca (v := v))
theorem d_Model_dayOn_7 : decode M_Model_dayOn.2.1 7 = .ok (.iload_n 2, 1) := by decide +kernel
theorem d_Model_dayOn_8 : decode M_Model_dayOn.2.1 8 = .ok (.aload_n 0, 1) := by decide +kernel
theorem d_Model_dayOn_9 : decode M_Model_dayOn.2.1 9 = .ok (.getfield 20, 3) := by decide +kernel
theorem d_Model_dayOn_12 : decode M_Model_dayOn.2.1 12 = .ok (.getfield 172, 3) := by decide +kernel
theorem d_Model_dayOn_15 : decode M_Model_dayOn.2.1 15 = .ok (.if_icmp .ge 32, 3) := by decide +kernel
theorem d_Model_dayOn_18 : decode M_Model_dayOn.2.1 18 = .ok (.aload_n 1, 1) := by decide +kernel
theorem d_Model_dayOn_19 : decode M_Model_dayOn.2.1 19 = .ok (.dup, 1) := by decide +kernel
theorem d_Model_dayOn_20 : decode M_Model_dayOn.2.1 20 = .ok (.getfield 406, 3) := by decide +kernel
theorem d_Model_dayOn_23 : decode M_Model_dayOn.2.1 23 = .ok (.aload_n 0, 1) := by decide +kernel
theorem d_Model_dayOn_24 : decode M_Model_dayOn.2.1 24 = .ok (.aload_n 1, 1) := by decide +kernel
theorem d_Model_dayOn_25 : decode M_Model_dayOn.2.1 25 = .ok (.iload_n 2, 1) := by decide +kernel
theorem d_Model_dayOn_26 : decode M_Model_dayOn.2.1 26 = .ok (.invokevirtual 409, 3) := by decide +kernel
theorem d_Model_dayOn_29 : decode M_Model_dayOn.2.1 29 = .ok (.ifCond .eq 7, 3) := by decide +kernel
theorem d_Model_dayOn_32 : decode M_Model_dayOn.2.1 32 = .ok (.iconst 1, 1) := by decide +kernel
theorem d_Model_dayOn_33 : decode M_Model_dayOn.2.1 33 = .ok (.goto 4, 3) := by decide +kernel
theorem d_Model_dayOn_36 : decode M_Model_dayOn.2.1 36 = .ok (.iconst 0, 1) := by decide +kernel
theorem d_Model_dayOn_37 : decode M_Model_dayOn.2.1 37 = .ok (.iadd, 1) := by decide +kernel
theorem d_Model_dayOn_38 : decode M_Model_dayOn.2.1 38 = .ok (.putfield 406, 3) := by decide +kernel
theorem d_Model_dayOn_41 : decode M_Model_dayOn.2.1 41 = .ok (.iinc 2 1, 3) := by decide +kernel
theorem d_Model_dayOn_44 : decode M_Model_dayOn.2.1 44 = .ok (.goto (-37), 3) := by decide +kernel
def l_Model_orders (H : SH) : Nat → Nat → MO → SX → Option (MO × SX)
  | 0, _, M, Y => some (M, Y)
  | k + 1, i, M, Y => ((s_Model_isCarriedOut M H Y i).bind fun p26_2 => (if p26_2.1 = 0 then (if sx_dy (sx_ca' p26_2.2.2 ((sx_ca Y) + 0)) < 1000000 then (l_Model_orders H k (i + 1) p26_2.2.1 (sx_ca' p26_2.2.2 ((sx_ca Y) + 0))) else none) else (if sx_dy (sx_ca' p26_2.2.2 ((sx_ca Y) + 1)) < 1000000 then (l_Model_orders H k (i + 1) p26_2.2.1 (sx_ca' p26_2.2.2 ((sx_ca Y) + 1))) else none)))
set_option maxRecDepth 100000 in
set_option maxHeartbeats 4000000 in
theorem l_Model_orders_go {Γ : G9} {h : AH} {m q r sa sb z : Nat} {H : SH} {Q : QT} {X : XT} (geo : m + 2 ≤ q ∧ m + 2 ≤ r ∧ (q + 24 ≤ r ∨ r + 21 ≤ q)) (hB : sh_ha H 0 ≤ 5) (hS : sh_ha H 3 ≤ 6) (hC : sh_ha H 6 ≤ 4) (hD : sh_ha H 9 ≤ 4) (hE : sh_ha H 11 ≤ 4) (hO : sh_or H ≤ 20) {p : MO × SX} : ∀ (k i : Nat) (M : MO) (Y : SX), i + k = sh_or H → sx_dy Y < 1000000 → l_Model_orders H k i M Y = some p → Go Γ M_Model_dayOn 73 0 0 47 [some (.ref m), some (.ref r), none, none] [] (md_ Γ h m q r sa sb r p.1 H p.2) z Q X → Go Γ M_Model_dayOn 73 0 0 7 [some (.ref m), some (.ref r), some (.int (nI i)), none] [] (md_ Γ h m q r sa sb r M H Y) z Q X := by
  intro k
  induction k with
  | zero =>
    intro i M Y hi hdy hr hk
    cases hr
    refine Go.iload_2 d_Model_dayOn_7 rfl ?_
    refine Go.aload_0 d_Model_dayOn_8 rfl ?_
    refine Go.getfield d_Model_dayOn_9 rfl f_Model_20 (mr_at_m (by omega) hB hS hC hD hE) (by rfl) ?_
    refine Go.getfield d_Model_dayOn_12 rfl f_Model_172 (mr_at_q (by omega) hB hS hC hD hE) (by rfl) ?_
    refine Go.icmp_ge (t := 47) d_Model_dayOn_15 (by decide) rfl (fun c15_1 => ?_) (fun c15_1 => ?_)
    · refine Go.fgt [some (.ref m), some (.ref r), none, none] (by repeat' (first | exact trivial | refine ⟨rfl, ?_⟩)) ?_
      exact hk
    · exact absurd (nI_le (by omega) (by omega)) c15_1
  | succ k ih =>
    intro i M Y hi hdy hr hk
    unfold l_Model_orders at hr
    refine Go.iload_2 d_Model_dayOn_7 rfl ?_
    refine Go.aload_0 d_Model_dayOn_8 rfl ?_
    refine Go.getfield d_Model_dayOn_9 rfl f_Model_20 (mr_at_m (by omega) hB hS hC hD hE) (by rfl) ?_
    refine Go.getfield d_Model_dayOn_12 rfl f_Model_172 (mr_at_q (by omega) hB hS hC hD hE) (by rfl) ?_
    refine Go.icmp_ge (t := 47) d_Model_dayOn_15 (by decide) rfl (fun c15_1 => ?_) (fun c15_1 => ?_)
    · exact absurd c15_1 (nI_ge (by omega) (by omega))
    · refine Go.aload_1 d_Model_dayOn_18 rfl ?_
      refine Go.dup d_Model_dayOn_19 rfl rfl ?_
      refine Go.getfield d_Model_dayOn_20 rfl f_Model_406 (mr_at_r (by omega) hB hS hC hD hE) (by rfl) ?_
      refine Go.aload_0 d_Model_dayOn_23 rfl ?_
      refine Go.aload_1 d_Model_dayOn_24 rfl ?_
      refine Go.iload_2 d_Model_dayOn_25 rfl ?_
      obtain ⟨p26_2, hp26_2, hr⟩ := Option.bind_eq_some_iff.mp hr
      try dsimp only at hr
      refine Go.cv2r d_Model_dayOn_26 rfl l_Model_409 k_Model_isCarriedOut_v (mr_at_m (by omega) hB hS hC hD hE) rfl (c_Model_isCarriedOut (x2 := i) (by omega) geo hB hS hC hD hE hdy hp26_2) (Nat.ble_eq_true_of_le (by omega)) rfl rfl ?_
      refine Go.if_eq (t := 36) d_Model_dayOn_29 (by decide) rfl (fun c29_3 => ?_) (fun c29_3 => ?_)
      · refine Go.iconst (v := 0) d_Model_dayOn_36 rfl (by decide) ?_
        refine Go.iadd d_Model_dayOn_37 rfl ?_
        refine Go.putfield d_Model_dayOn_38 rfl f_Model_406_p (Or.inl (fun C T N h => by cases h; rfl)) (mr_at_r (by omega) hB hS hC hD hE) (by exact Nat.le_of_ble_eq_true rfl) rfl rfl ?_
        refine Go.heq (mr_put_r_carried (by omega) hB hS hC hD hE) ?_
        refine Go.iinc_2 d_Model_dayOn_41 rfl (by rfl) (nI_inc _) ?_
        refine Go.goto (t := 7) d_Model_dayOn_44 (by decide) ?_
        have hd9 : sx_dy (sx_ca' p26_2.2.2 ((sx_ca Y) + 0)) < 1000000 := Classical.byContradiction fun w => by
          rw [if_pos c29_3, if_neg w] at hr
          cases hr
        rw [if_pos c29_3, if_pos hd9] at hr
        exact ih (i + 1) _ _ (by omega) hd9 hr hk
      · refine Go.iconst (v := 1) d_Model_dayOn_32 rfl (by decide) ?_
        refine Go.goto (t := 37) d_Model_dayOn_33 (by decide) ?_
        refine Go.iadd d_Model_dayOn_37 rfl ?_
        refine Go.putfield d_Model_dayOn_38 rfl f_Model_406_p (Or.inl (fun C T N h => by cases h; rfl)) (mr_at_r (by omega) hB hS hC hD hE) (by exact Nat.le_of_ble_eq_true rfl) rfl rfl ?_
        refine Go.heq (mr_put_r_carried (by omega) hB hS hC hD hE) ?_
        refine Go.iinc_2 d_Model_dayOn_41 rfl (by rfl) (nI_inc _) ?_
        refine Go.goto (t := 7) d_Model_dayOn_44 (by decide) ?_
        have hd9 : sx_dy (sx_ca' p26_2.2.2 ((sx_ca Y) + 1)) < 1000000 := Classical.byContradiction fun w => by
          rw [if_neg c29_3, if_neg w] at hr
          cases hr
        rw [if_neg c29_3, if_pos hd9] at hr
        exact ih (i + 1) _ _ (by omega) hd9 hr hk
