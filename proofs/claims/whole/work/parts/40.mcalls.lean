/-! the reference: days that pass, what would be -/
/-- whom the field `on` names -/
def roW (w r r2 : Nat) : Nat := if w = 0 then r else r2
theorem roW_if1 {n a r r2 : Nat} : roW (if n = 0 then a else 1) r r2 = if n = 0 then roW a r r2 else r2 := by
  split <;> rfl
theorem roW_if0 {n a r r2 : Nat} : roW (if n = 0 then a else 0) r r2 = if n = 0 then roW a r r2 else r := by
  split <;> rfl
def mf_ (Γ : G9) (h : AH) (m q r r2 : Nat) (M : MO) (H : SH) (Y : SX) (A : SX) (ow : Nat) : AH := (blk (blk (blk (blk h m 2 (moC Γ q r r2 (roW ow r r2) m M)) q 24 (shC Γ q H)) r 21 (sxC Γ r Y)) r2 21 (sxC Γ r2 A))
theorem mf_s {Γ : G9} {h : AH} {m q r r2 : Nat} {M : MO} {H : SH} {Y A : SX} {ow : Nat} (geo : m + 2 ≤ q ∧ m + 2 ≤ r ∧ r + 21 ≤ r2 ∧ (q + 24 ≤ r ∨ r2 + 21 ≤ q)) : mf_ Γ h m q r r2 M H Y A ow = md_ Γ (blk h r2 21 (sxC Γ r2 A)) m q r r r2 (roW ow r r2) M H Y := by
  unfold mf_ md_
  exact (blk_comm (by omega)).trans (blk_in ((blk_comm (by omega)).trans (blk_in (blk_comm (by omega)))))
theorem mf_a {Γ : G9} {h : AH} {m q r r2 : Nat} {M : MO} {H : SH} {Y A : SX} {ow : Nat} (geo : m + 2 ≤ q ∧ m + 2 ≤ r ∧ r + 21 ≤ r2 ∧ (q + 24 ≤ r ∨ r2 + 21 ≤ q)) : mf_ Γ h m q r r2 M H Y A ow = md_ Γ (blk h r 21 (sxC Γ r Y)) m q r2 r r2 (roW ow r r2) M H A := by
  unfold mf_ md_
  exact blk_in ((blk_comm (by omega)).trans (blk_in (blk_comm (by omega))))
theorem mfb {Γ : G9} {h : AH} {m q r r2 z : Nat} {M : MO} {H : SH} {Y A : SX} {ow : Nat} (geo : m + 2 ≤ q ∧ m + 2 ≤ r ∧ r + 21 ≤ r2 ∧ (q + 24 ≤ r ∨ r2 + 21 ≤ q)) : CallR Γ M_State_become 4 [.ref r2, .ref r] (mf_ Γ h m q r r2 M H Y A ow) z none (mf_ Γ h m q r r2 M H Y Y ow) := by
  unfold mf_
  exact CallR.conv rfl rfl (c_State_become (by omega))
/-- a day, with the day's number kept within its range -/
def dayC (M : MO) (H : SH) (Y : SX) : Option (MO × SX) := (s_Model_dayOn M H Y).bind fun p => if sx_dy p.2 < 1000000 then some p else none
theorem dayC_some {M : MO} {H : SH} {Y : SX} {p : MO × SX} (hr : dayC M H Y = some p) : s_Model_dayOn M H Y = some p ∧ sx_dy p.2 < 1000000 := by
  unfold dayC at hr
  obtain ⟨p1, h1, hr⟩ := Option.bind_eq_some_iff.mp hr
  try dsimp only at hr
  split at hr
  · cases hr
    exact ⟨h1, by assumption⟩
  · cases hr
theorem dayC_dy {M : MO} {H : SH} {Y : SX} {p : MO × SX} (hr : dayC M H Y = some p) : sx_dy p.2 < 1000000 := (dayC_some hr).2
theorem daysOn_dy {H : SH} : ∀ {n : Nat} {M : MO} {Y : SX} {p : MO × SX}, l_Model_daysOn H n M Y = some p → sx_dy Y < 1000000 → sx_dy p.2 < 1000000
  | 0, _, _, _, h, hd => by cases h; exact hd
  | n + 1, M, Y, p, h, hd => by
    unfold l_Model_daysOn at h
    obtain ⟨p1, h1, hr⟩ := Option.bind_eq_some_iff.mp h
    try dsimp only at hr
    split at hr
    · rename_i hd1
      exact daysOn_dy hr hd1
    · cases hr
theorem mf_dayA {Γ : G9} {h : AH} {m q r r2 z : Nat} {M : MO} {H : SH} {Y A : SX} {ow : Nat} {p : MO × SX} (geo : m + 2 ≤ q ∧ m + 2 ≤ r ∧ r + 21 ≤ r2 ∧ (q + 24 ≤ r ∨ r2 + 21 ≤ q)) (hB : sh_ha H 0 ≤ 5) (hS : sh_ha H 3 ≤ 6) (hC : sh_ha H 6 ≤ 4) (hD : sh_ha H 9 ≤ 4) (hE : sh_ha H 11 ≤ 4) (hO : sh_or H ≤ 20) (hdy : sx_dy A < 1000000) (hr : dayC M H A = some p) : CallR Γ M_Model_dayOn 73 [.ref m, .ref r2] (mf_ Γ h m q r r2 M H Y A ow) z none (mf_ Γ h m q r r2 p.1 H Y p.2 1) :=
  CallR.conv (mf_a geo) (mf_a geo).symm (c_Model_dayOn (by omega) hB hS hC hD hE hO hdy (dayC_some hr).1)
set_option maxRecDepth 100000 in
set_option maxHeartbeats 4000000 in
theorem c_Model_daysOn0 {Γ : G9} {h : AH} {m q r sa sb ro z n : Nat} {M : MO} {H : SH} {Y : SX} {p : MO × SX} {vn : Int32} (en : vn = nI n) (geo : m + 2 ≤ q ∧ m + 2 ≤ r ∧ (q + 24 ≤ r ∨ r + 21 ≤ q)) (hB : sh_ha H 0 ≤ 5) (hS : sh_ha H 3 ≤ 6) (hC : sh_ha H 6 ≤ 4) (hD : sh_ha H 9 ≤ 4) (hE : sh_ha H 11 ≤ 4) (hO : sh_or H ≤ 20) (hdy : sx_dy Y < 1000000) (hn : n ≤ 60) (hr : l_Model_daysOn H n M Y = some p) : CallR Γ M_Model_daysOn 74 [.ref m, .ref r, .int vn] (md_ Γ h m q r sa sb ro M H Y) z none (md_ Γ h m q r sa sb (if n = 0 then ro else r) p.1 H p.2) := by
  subst en
  refine Call.of_go (L := [some (.ref m), some (.ref r), some (.int (nI n)), none]) (by decide +kernel) rfl (by exact Nat.le_of_ble_eq_true rfl) ?_
  refine Go.iconst (v := 0) d_Model_daysOn_0 rfl (by decide) ?_
  refine Go.istore_3 d_Model_daysOn_1 rfl (by rfl) ?_
  exact l_Model_daysOn_go (Γ := Γ) (h := h) (m := m) (q := q) (r := r) (sa := sa) (sb := sb) (z := z) (p := p) geo hB hS hC hD hE hO hn n 0 ro M Y (by omega) hdy hr
theorem mf_daysA {Γ : G9} {h : AH} {m q r r2 z n : Nat} {M : MO} {H : SH} {Y A : SX} {ow : Nat} {p : MO × SX} {vn : Int32} (en : vn = nI n) (geo : m + 2 ≤ q ∧ m + 2 ≤ r ∧ r + 21 ≤ r2 ∧ (q + 24 ≤ r ∨ r2 + 21 ≤ q)) (hB : sh_ha H 0 ≤ 5) (hS : sh_ha H 3 ≤ 6) (hC : sh_ha H 6 ≤ 4) (hD : sh_ha H 9 ≤ 4) (hE : sh_ha H 11 ≤ 4) (hO : sh_or H ≤ 20) (hdy : sx_dy A < 1000000) (hn : n ≤ 60) (hr : l_Model_daysOn H n M A = some p) : CallR Γ M_Model_daysOn 74 [.ref m, .ref r2, .int vn] (mf_ Γ h m q r r2 M H Y A ow) z none (mf_ Γ h m q r r2 p.1 H Y p.2 (if n = 0 then ow else 1)) :=
  CallR.conv (mf_a geo) (by rw [mf_a geo, roW_if1]) (c_Model_daysOn0 en (by omega) hB hS hC hD hE hO hdy hn hr)
theorem mf_daysS {Γ : G9} {h : AH} {m q r r2 z n : Nat} {M : MO} {H : SH} {Y A : SX} {ow : Nat} {p : MO × SX} {vn : Int32} (en : vn = nI n) (geo : m + 2 ≤ q ∧ m + 2 ≤ r ∧ r + 21 ≤ r2 ∧ (q + 24 ≤ r ∨ r2 + 21 ≤ q)) (hB : sh_ha H 0 ≤ 5) (hS : sh_ha H 3 ≤ 6) (hC : sh_ha H 6 ≤ 4) (hD : sh_ha H 9 ≤ 4) (hE : sh_ha H 11 ≤ 4) (hO : sh_or H ≤ 20) (hdy : sx_dy Y < 1000000) (hn : n ≤ 60) (hr : l_Model_daysOn H n M Y = some p) : CallR Γ M_Model_daysOn 74 [.ref m, .ref r, .int vn] (mf_ Γ h m q r r2 M H Y A ow) z none (mf_ Γ h m q r r2 p.1 H p.2 A (if n = 0 then ow else 0)) :=
  CallR.conv (mf_s geo) (by rw [mf_s geo, roW_if0]) (c_Model_daysOn0 en (by omega) hB hS hC hD hE hO hdy hn hr)
theorem mf_moved {Γ : G9} {h : AH} {m q r r2 z x2 : Nat} {M : MO} {H : SH} {Y A : SX} {ow : Nat} {vx2 x3 : Int32} (ex2 : vx2 = nI x2) (bx2 : x2 < 4) (geo : m + 2 ≤ q ∧ m + 2 ≤ r ∧ r + 21 ≤ r2 ∧ (q + 24 ≤ r ∨ r2 + 21 ≤ q)) (hB : sh_ha H 0 ≤ 5) (hS : sh_ha H 3 ≤ 6) (hC : sh_ha H 6 ≤ 4) (hD : sh_ha H 9 ≤ 4) (hE : sh_ha H 11 ≤ 4) : CallR Γ M_Model_moved 3 [.ref m, .ref r2, .int vx2, .int x3] (mf_ Γ h m q r r2 M H Y A ow) z (some (.int (s_Model_moved M H A x2 x3).1)) (mf_ Γ h m q r r2 M H Y (s_Model_moved M H A x2 x3).2 ow) :=
  CallR.conv (mf_a geo) (mf_a geo).symm (c_Model_moved ex2 bx2 (by omega) hB hS hC hD hE)
theorem mf_counted {Γ : G9} {h : AH} {m q r r2 z : Nat} {M : MO} {H : SH} {Y A : SX} {ow : Nat} {x2 : Int32} (geo : m + 2 ≤ q ∧ m + 2 ≤ r ∧ r + 21 ≤ r2 ∧ (q + 24 ≤ r ∨ r2 + 21 ≤ q)) (hB : sh_ha H 0 ≤ 5) (hS : sh_ha H 3 ≤ 6) (hC : sh_ha H 6 ≤ 4) (hD : sh_ha H 9 ≤ 4) (hE : sh_ha H 11 ≤ 4) (hdy : sx_dy A < 1000000) : CallR Γ M_Model_counted 1 [.ref m, .ref r2, .int x2] (mf_ Γ h m q r r2 M H Y A ow) z (some (.int (s_Model_counted M H A x2))) (mf_ Γ h m q r r2 M H Y A ow) :=
  CallR.conv (mf_a geo) (mf_a geo).symm (c_Model_counted (by omega) hB hS hC hD hE hdy)

theorem mf_at_m {Γ : G9} {h : AH} {m q r r2 : Nat} {M : MO} {H : SH} {Y : SX} {A : SX} {ow : Nat} (geo : m + 2 ≤ q ∧ m + 2 ≤ r ∧ r + 21 ≤ r2 ∧ (q + 24 ≤ r ∨ r2 + 21 ≤ q)) (hB : sh_ha H 0 ≤ 5) (hS : sh_ha H 3 ≤ 6) (hC : sh_ha H 6 ≤ 4) (hD : sh_ha H 9 ≤ 4) (hE : sh_ha H 11 ≤ 4) : (mf_ Γ h m q r r2 M H Y A ow) m = some (.inr (11, [.int (mo_th M), .ref (m + 1), .int (nI (mo_sz M)), .int (mo_ea M), .int (nI (mo_tk M)), .int (nI (mo_dp M)), .ref q, .ref r, .ref r2, .int (mo_wk M), .ref (roW ow r r2)])) := by
  unfold mf_
  exact ((blk_out (by omega)).trans ((blk_out (by omega)).trans ((blk_out (by omega)).trans (mo_g0))))
theorem mf_put_m_thrown {Γ : G9} {h : AH} {m q r r2 : Nat} {M : MO} {H : SH} {Y : SX} {A : SX} {ow : Nat} {v : Int32} (geo : m + 2 ≤ q ∧ m + 2 ≤ r ∧ r + 21 ≤ r2 ∧ (q + 24 ≤ r ∨ r2 + 21 ≤ q)) (hB : sh_ha H 0 ≤ 5) (hS : sh_ha H 3 ≤ 6) (hC : sh_ha H 6 ≤ 4) (hD : sh_ha H 9 ≤ 4) (hE : sh_ha H 11 ≤ 4) : hup (mf_ Γ h m q r r2 M H Y A ow) m (.inr (11, [.int (mo_th M), .ref (m + 1), .int (nI (mo_sz M)), .int (mo_ea M), .int (nI (mo_tk M)), .int (nI (mo_dp M)), .ref q, .ref r, .ref r2, .int (mo_wk M), .ref (roW ow r r2)].set 0 (.int v))) = (mf_ Γ h m q r r2 (mo_th' M v) H Y A ow) := by
  unfold mf_
  exact ((hup_blk (by omega)).trans (blk_in ((hup_blk (by omega)).trans (blk_in ((hup_blk (by omega)).trans (blk_in (mo_p_th (v := v))))))))
theorem mf_c_Model_isIn_ {Γ : G9} {h : AH} {m q r r2 z : Nat} {M : MO} {H : SH} {Y : SX} {A : SX} {ow : Nat} {x1 : Int32} {x2 : Int32} {x3 : Int32} (geo : m + 2 ≤ q ∧ m + 2 ≤ r ∧ r + 21 ≤ r2 ∧ (q + 24 ≤ r ∨ r2 + 21 ≤ q)) (hB : sh_ha H 0 ≤ 5) (hS : sh_ha H 3 ≤ 6) (hC : sh_ha H 6 ≤ 4) (hD : sh_ha H 9 ≤ 4) (hE : sh_ha H 11 ≤ 4) : CallR Γ M_Model_isIn 0 [.int x1, .int x2, .int x3] (mf_ Γ h m q r r2 M H Y A ow) z (some (.int (s_Model_isIn x1 x2 x3))) (mf_ Γ h m q r r2 M H Y A ow) := by
  unfold mf_
  exact CallR.conv rfl rfl (c_Model_isIn)
theorem mf_at_r {Γ : G9} {h : AH} {m q r r2 : Nat} {M : MO} {H : SH} {Y : SX} {A : SX} {ow : Nat} (geo : m + 2 ≤ q ∧ m + 2 ≤ r ∧ r + 21 ≤ r2 ∧ (q + 24 ≤ r ∨ r2 + 21 ≤ q)) (hB : sh_ha H 0 ≤ 5) (hS : sh_ha H 3 ≤ 6) (hC : sh_ha H 6 ≤ 4) (hD : sh_ha H 9 ≤ 4) (hE : sh_ha H 11 ≤ 4) : (mf_ Γ h m q r r2 M H Y A ow) r = some (.inr (10, [.int (nI (sx_dy Y)), .int (sx_rd Y), .int (sx_fa Y), .int (sx_ca Y), .ref (r + 1), .ref (r + 2), .ref (r + 3), .ref (r + 4), .ref (r + 5), .ref (r + 6), .ref (r + 7), .ref (r + 8), .ref (r + 9), .ref (r + 10), .ref (r + 11), .ref (r + 12), .ref (r + 13), .ref (r + 14), .ref (r + 15), .ref (r + 16), .ref (r + 17), .ref (r + 18), .ref (r + 19), .ref (r + 20)])) := by
  unfold mf_
  exact ((blk_out (by omega)).trans (sx_g0))
theorem mf_c_Model_no_m {Γ : G9} {h : AH} {m q r r2 z : Nat} {M : MO} {H : SH} {Y : SX} {A : SX} {ow : Nat} {x1 : Int32} (geo : m + 2 ≤ q ∧ m + 2 ≤ r ∧ r + 21 ≤ r2 ∧ (q + 24 ≤ r ∨ r2 + 21 ≤ q)) (hB : sh_ha H 0 ≤ 5) (hS : sh_ha H 3 ≤ 6) (hC : sh_ha H 6 ≤ 4) (hD : sh_ha H 9 ≤ 4) (hE : sh_ha H 11 ≤ 4) : CallR Γ M_Model_no 0 [.ref m, .int x1] (mf_ Γ h m q r r2 M H Y A ow) z (some (.int (s_Model_no M H Y x1).1)) (mf_ Γ h m q r r2 (s_Model_no M H Y x1).2 H Y A ow) := by
  unfold mf_
  exact CallR.conv (((blk_comm (by omega)).trans (blk_in (blk_comm (by omega)))).trans (blk_in (blk_in (blk_comm (by omega))))) (((blk_in (blk_in (blk_comm (by omega)))).trans (blk_in (blk_comm (by omega)))).trans (blk_comm (by omega))) (c_Model_no (by omega) hB hS hC hD hE)
theorem d_Model_pass_0 : decode M_Model_pass.2.1 0 = .ok (.aload_n 0, 1) := by decide +kernel
theorem d_Model_pass_1 : decode M_Model_pass.2.1 1 = .ok (.iconst 0, 1) := by decide +kernel
theorem d_Model_pass_2 : decode M_Model_pass.2.1 2 = .ok (.putfield 37, 3) := by decide +kernel
theorem d_Model_pass_5 : decode M_Model_pass.2.1 5 = .ok (.iload_n 1, 1) := by decide +kernel
theorem d_Model_pass_6 : decode M_Model_pass.2.1 6 = .ok (.iconst 1, 1) := by decide +kernel
theorem d_Model_pass_7 : decode M_Model_pass.2.1 7 = .ok (.bipush 60, 2) := by decide +kernel
theorem d_Model_pass_9 : decode M_Model_pass.2.1 9 = .ok (.invokestatic 43, 3) := by decide +kernel
theorem d_Model_pass_12 : decode M_Model_pass.2.1 12 = .ok (.ifCond .ne 9, 3) := by decide +kernel
theorem d_Model_pass_15 : decode M_Model_pass.2.1 15 = .ok (.aload_n 0, 1) := by decide +kernel
theorem d_Model_pass_16 : decode M_Model_pass.2.1 16 = .ok (.iconst 1, 1) := by decide +kernel
theorem d_Model_pass_17 : decode M_Model_pass.2.1 17 = .ok (.invokevirtual 427, 3) := by decide +kernel
theorem d_Model_pass_20 : decode M_Model_pass.2.1 20 = .ok (.ireturn, 1) := by decide +kernel
theorem d_Model_pass_21 : decode M_Model_pass.2.1 21 = .ok (.aload_n 0, 1) := by decide +kernel
theorem d_Model_pass_22 : decode M_Model_pass.2.1 22 = .ok (.getfield 27, 3) := by decide +kernel
theorem d_Model_pass_25 : decode M_Model_pass.2.1 25 = .ok (.getfield 403, 3) := by decide +kernel
theorem d_Model_pass_28 : decode M_Model_pass.2.1 28 = .ok (.istore_n 2, 1) := by decide +kernel
theorem d_Model_pass_29 : decode M_Model_pass.2.1 29 = .ok (.aload_n 0, 1) := by decide +kernel
theorem d_Model_pass_30 : decode M_Model_pass.2.1 30 = .ok (.aload_n 0, 1) := by decide +kernel
theorem d_Model_pass_31 : decode M_Model_pass.2.1 31 = .ok (.getfield 27, 3) := by decide +kernel
theorem d_Model_pass_34 : decode M_Model_pass.2.1 34 = .ok (.iload_n 1, 1) := by decide +kernel
theorem d_Model_pass_35 : decode M_Model_pass.2.1 35 = .ok (.invokevirtual 469, 3) := by decide +kernel
theorem d_Model_pass_38 : decode M_Model_pass.2.1 38 = .ok (.aload_n 0, 1) := by decide +kernel
theorem d_Model_pass_39 : decode M_Model_pass.2.1 39 = .ok (.getfield 27, 3) := by decide +kernel
theorem d_Model_pass_42 : decode M_Model_pass.2.1 42 = .ok (.getfield 403, 3) := by decide +kernel
theorem d_Model_pass_45 : decode M_Model_pass.2.1 45 = .ok (.iload_n 2, 1) := by decide +kernel
theorem d_Model_pass_46 : decode M_Model_pass.2.1 46 = .ok (.isub, 1) := by decide +kernel
theorem d_Model_pass_47 : decode M_Model_pass.2.1 47 = .ok (.ireturn, 1) := by decide +kernel
def s_Model_pass (M : MO) (H : SH) (Y : SX) (A : SX) (ow : Nat) (x1 : Int32) : Option (Int32 × MO × SX × Nat) := (if (s_Model_isIn x1 1 60) = 0 then some ((s_Model_no (mo_th' M 0) H Y 1).1, (s_Model_no (mo_th' M 0) H Y 1).2, Y, ow) else ((l_Model_daysOn H x1.toNatClampNeg (mo_th' M 0) Y).bind fun p35_2 => some (((sx_rd p35_2.2) - (sx_rd Y)), p35_2.1, p35_2.2, (if x1.toNatClampNeg = 0 then ow else 0))))
set_option maxRecDepth 100000 in
set_option maxHeartbeats 4000000 in
theorem c_Model_pass {Γ : G9} {h : AH} {m q r r2 z : Nat} {M : MO} {H : SH} {Y : SX} {A : SX} {ow : Nat} {x1 : Int32} {p : Int32 × MO × SX × Nat} (geo : m + 2 ≤ q ∧ m + 2 ≤ r ∧ r + 21 ≤ r2 ∧ (q + 24 ≤ r ∨ r2 + 21 ≤ q)) (hB : sh_ha H 0 ≤ 5) (hS : sh_ha H 3 ≤ 6) (hC : sh_ha H 6 ≤ 4) (hD : sh_ha H 9 ≤ 4) (hE : sh_ha H 11 ≤ 4) (hO : sh_or H ≤ 20) (hdy : sx_dy Y < 1000000) (hr : s_Model_pass M H Y A ow x1 = some p) : CallR Γ M_Model_pass 75 [.ref m, .int x1] (mf_ Γ h m q r r2 M H Y A ow) z (some (.int p.1)) (mf_ Γ h m q r r2 p.2.1 H p.2.2.1 A p.2.2.2) := by
  refine Call.of_go (L := [some (.ref m), some (.int x1), none]) (by decide +kernel) rfl (by exact Nat.le_of_ble_eq_true rfl) ?_
  unfold s_Model_pass at hr
  refine Go.aload_0 d_Model_pass_0 rfl ?_
  refine Go.iconst (v := 0) d_Model_pass_1 rfl (by decide) ?_
  refine Go.putfield d_Model_pass_2 rfl f_Model_37_p (Or.inl (fun C T N h => by cases h; rfl)) (mf_at_m (by omega) hB hS hC hD hE) (by exact Nat.le_of_ble_eq_true rfl) rfl rfl ?_
  refine Go.heq (mf_put_m_thrown (by omega) hB hS hC hD hE) ?_
  refine Go.iload_1 d_Model_pass_5 rfl ?_
  refine Go.iconst (v := 1) d_Model_pass_6 rfl (by decide) ?_
  refine Go.bipush (v := 60) d_Model_pass_7 rfl (by decide) ?_
  refine Go.cs3r d_Model_pass_9 rfl l_Model_43 k_Model_isIn_s rfl (mf_c_Model_isIn_ (by omega) hB hS hC hD hE) (Nat.ble_eq_true_of_le (by omega)) rfl rfl ?_
  refine Go.if_ne (t := 21) d_Model_pass_12 (by decide) rfl (fun c12_1 => ?_) (fun c12_1 => ?_)
  · refine Go.aload_0 d_Model_pass_21 rfl ?_
    refine Go.getfield d_Model_pass_22 rfl f_Model_27 (mf_at_m (by omega) hB hS hC hD hE) (by rfl) ?_
    refine Go.getfield d_Model_pass_25 rfl f_Model_403 (mf_at_r (by omega) hB hS hC hD hE) (by rfl) ?_
    refine Go.istore_2 d_Model_pass_28 rfl (by rfl) ?_
    refine Go.aload_0 d_Model_pass_29 rfl ?_
    refine Go.aload_0 d_Model_pass_30 rfl ?_
    refine Go.getfield d_Model_pass_31 rfl f_Model_27 (mf_at_m (by omega) hB hS hC hD hE) (by rfl) ?_
    refine Go.iload_1 d_Model_pass_34 rfl ?_
    rw [if_neg c12_1] at hr
    obtain ⟨p35_2, hp35_2, hr⟩ := Option.bind_eq_some_iff.mp hr
    try dsimp only at hr
    refine Go.cv2v d_Model_pass_35 rfl l_Model_469 k_Model_daysOn_v (mf_at_m (by omega) hB hS hC hD hE) rfl (mf_daysS (n := x1.toNatClampNeg) (nI_back (isIn_pos1 c12_1)) (by omega) hB hS hC hD hE hO hdy (by have := (isIn_le (b := 60) c12_1 (by decide)); omega) hp35_2) (Nat.ble_eq_true_of_le (by omega)) rfl rfl ?_
    refine Go.aload_0 d_Model_pass_38 rfl ?_
    refine Go.getfield d_Model_pass_39 rfl f_Model_27 (mf_at_m (by omega) hB hS hC hD hE) (by rfl) ?_
    refine Go.getfield d_Model_pass_42 rfl f_Model_403 (mf_at_r (by omega) hB hS hC hD hE) (by rfl) ?_
    refine Go.iload_2 d_Model_pass_45 rfl ?_
    refine Go.isub d_Model_pass_46 rfl ?_
    cases hr
    exact Go.iret d_Model_pass_47 rfl rfl ⟨rfl, by dsimp only, rfl⟩
  · refine Go.aload_0 d_Model_pass_15 rfl ?_
    refine Go.iconst (v := 1) d_Model_pass_16 rfl (by decide) ?_
    refine Go.cv1r d_Model_pass_17 rfl l_Model_427 k_Model_no_v (mf_at_m (by omega) hB hS hC hD hE) rfl (mf_c_Model_no_m (by omega) hB hS hC hD hE) (Nat.ble_eq_true_of_le (by omega)) rfl rfl ?_
    rw [if_pos c12_1] at hr
    cases hr
    exact Go.iret d_Model_pass_20 rfl rfl ⟨rfl, by dsimp only, rfl⟩
theorem mf_at_r2 {Γ : G9} {h : AH} {m q r r2 : Nat} {M : MO} {H : SH} {Y : SX} {A : SX} {ow : Nat} (geo : m + 2 ≤ q ∧ m + 2 ≤ r ∧ r + 21 ≤ r2 ∧ (q + 24 ≤ r ∨ r2 + 21 ≤ q)) (hB : sh_ha H 0 ≤ 5) (hS : sh_ha H 3 ≤ 6) (hC : sh_ha H 6 ≤ 4) (hD : sh_ha H 9 ≤ 4) (hE : sh_ha H 11 ≤ 4) : (mf_ Γ h m q r r2 M H Y A ow) r2 = some (.inr (10, [.int (nI (sx_dy A)), .int (sx_rd A), .int (sx_fa A), .int (sx_ca A), .ref (r2 + 1), .ref (r2 + 2), .ref (r2 + 3), .ref (r2 + 4), .ref (r2 + 5), .ref (r2 + 6), .ref (r2 + 7), .ref (r2 + 8), .ref (r2 + 9), .ref (r2 + 10), .ref (r2 + 11), .ref (r2 + 12), .ref (r2 + 13), .ref (r2 + 14), .ref (r2 + 15), .ref (r2 + 16), .ref (r2 + 17), .ref (r2 + 18), .ref (r2 + 19), .ref (r2 + 20)])) := by
  unfold mf_
  exact (sx_g0)
theorem d_Model_foresee_0 : decode M_Model_foresee.2.1 0 = .ok (.aload_n 0, 1) := by decide +kernel
theorem d_Model_foresee_1 : decode M_Model_foresee.2.1 1 = .ok (.iconst 0, 1) := by decide +kernel
theorem d_Model_foresee_2 : decode M_Model_foresee.2.1 2 = .ok (.putfield 37, 3) := by decide +kernel
theorem d_Model_foresee_5 : decode M_Model_foresee.2.1 5 = .ok (.iload_n 1, 1) := by decide +kernel
theorem d_Model_foresee_6 : decode M_Model_foresee.2.1 6 = .ok (.iconst 1, 1) := by decide +kernel
theorem d_Model_foresee_7 : decode M_Model_foresee.2.1 7 = .ok (.bipush 60, 2) := by decide +kernel
theorem d_Model_foresee_9 : decode M_Model_foresee.2.1 9 = .ok (.invokestatic 43, 3) := by decide +kernel
theorem d_Model_foresee_12 : decode M_Model_foresee.2.1 12 = .ok (.ifCond .ne 9, 3) := by decide +kernel
theorem d_Model_foresee_15 : decode M_Model_foresee.2.1 15 = .ok (.aload_n 0, 1) := by decide +kernel
theorem d_Model_foresee_16 : decode M_Model_foresee.2.1 16 = .ok (.iconst 1, 1) := by decide +kernel
theorem d_Model_foresee_17 : decode M_Model_foresee.2.1 17 = .ok (.invokevirtual 427, 3) := by decide +kernel
theorem d_Model_foresee_20 : decode M_Model_foresee.2.1 20 = .ok (.ireturn, 1) := by decide +kernel
theorem d_Model_foresee_21 : decode M_Model_foresee.2.1 21 = .ok (.iload_n 2, 1) := by decide +kernel
theorem d_Model_foresee_22 : decode M_Model_foresee.2.1 22 = .ok (.bipush 7, 2) := by decide +kernel
theorem d_Model_foresee_24 : decode M_Model_foresee.2.1 24 = .ok (.bipush 12, 2) := by decide +kernel
theorem d_Model_foresee_26 : decode M_Model_foresee.2.1 26 = .ok (.invokestatic 43, 3) := by decide +kernel
theorem d_Model_foresee_29 : decode M_Model_foresee.2.1 29 = .ok (.ifCond .ne 9, 3) := by decide +kernel
theorem d_Model_foresee_32 : decode M_Model_foresee.2.1 32 = .ok (.aload_n 0, 1) := by decide +kernel
theorem d_Model_foresee_33 : decode M_Model_foresee.2.1 33 = .ok (.iconst 2, 1) := by decide +kernel
theorem d_Model_foresee_34 : decode M_Model_foresee.2.1 34 = .ok (.invokevirtual 427, 3) := by decide +kernel
theorem d_Model_foresee_37 : decode M_Model_foresee.2.1 37 = .ok (.ireturn, 1) := by decide +kernel
theorem d_Model_foresee_38 : decode M_Model_foresee.2.1 38 = .ok (.aload_n 0, 1) := by decide +kernel
theorem d_Model_foresee_39 : decode M_Model_foresee.2.1 39 = .ok (.getfield 31, 3) := by decide +kernel
theorem d_Model_foresee_42 : decode M_Model_foresee.2.1 42 = .ok (.aload_n 0, 1) := by decide +kernel
theorem d_Model_foresee_43 : decode M_Model_foresee.2.1 43 = .ok (.getfield 27, 3) := by decide +kernel
theorem d_Model_foresee_46 : decode M_Model_foresee.2.1 46 = .ok (.invokevirtual 475, 3) := by decide +kernel
theorem d_Model_foresee_49 : decode M_Model_foresee.2.1 49 = .ok (.aload_n 0, 1) := by decide +kernel
theorem d_Model_foresee_50 : decode M_Model_foresee.2.1 50 = .ok (.aload_n 0, 1) := by decide +kernel
theorem d_Model_foresee_51 : decode M_Model_foresee.2.1 51 = .ok (.getfield 31, 3) := by decide +kernel
theorem d_Model_foresee_54 : decode M_Model_foresee.2.1 54 = .ok (.iload_n 1, 1) := by decide +kernel
theorem d_Model_foresee_55 : decode M_Model_foresee.2.1 55 = .ok (.invokevirtual 469, 3) := by decide +kernel
theorem d_Model_foresee_58 : decode M_Model_foresee.2.1 58 = .ok (.aload_n 0, 1) := by decide +kernel
theorem d_Model_foresee_59 : decode M_Model_foresee.2.1 59 = .ok (.aload_n 0, 1) := by decide +kernel
theorem d_Model_foresee_60 : decode M_Model_foresee.2.1 60 = .ok (.getfield 31, 3) := by decide +kernel
theorem d_Model_foresee_63 : decode M_Model_foresee.2.1 63 = .ok (.iload_n 2, 1) := by decide +kernel
theorem d_Model_foresee_64 : decode M_Model_foresee.2.1 64 = .ok (.invokevirtual 447, 3) := by decide +kernel
theorem d_Model_foresee_67 : decode M_Model_foresee.2.1 67 = .ok (.ireturn, 1) := by decide +kernel
def s_Model_foresee (M : MO) (H : SH) (Y : SX) (A : SX) (ow : Nat) (x1 : Int32) (x2 : Int32) : Option (Int32 × MO × SX × Nat) := (if (s_Model_isIn x1 1 60) = 0 then some ((s_Model_no (mo_th' M 0) H Y 1).1, (s_Model_no (mo_th' M 0) H Y 1).2, A, ow) else (if (s_Model_isIn x2 7 12) = 0 then some ((s_Model_no (mo_th' M 0) H Y 2).1, (s_Model_no (mo_th' M 0) H Y 2).2, A, ow) else ((l_Model_daysOn H x1.toNatClampNeg (mo_th' M 0) Y).bind fun p55_3 => some ((s_Model_counted p55_3.1 H p55_3.2 x2), p55_3.1, p55_3.2, (if x1.toNatClampNeg = 0 then ow else 1)))))
set_option maxRecDepth 100000 in
set_option maxHeartbeats 4000000 in
theorem c_Model_foresee {Γ : G9} {h : AH} {m q r r2 z : Nat} {M : MO} {H : SH} {Y : SX} {A : SX} {ow : Nat} {x1 : Int32} {x2 : Int32} {p : Int32 × MO × SX × Nat} (geo : m + 2 ≤ q ∧ m + 2 ≤ r ∧ r + 21 ≤ r2 ∧ (q + 24 ≤ r ∨ r2 + 21 ≤ q)) (hB : sh_ha H 0 ≤ 5) (hS : sh_ha H 3 ≤ 6) (hC : sh_ha H 6 ≤ 4) (hD : sh_ha H 9 ≤ 4) (hE : sh_ha H 11 ≤ 4) (hO : sh_or H ≤ 20) (hdy : sx_dy Y < 1000000) (hr : s_Model_foresee M H Y A ow x1 x2 = some p) : CallR Γ M_Model_foresee 75 [.ref m, .int x1, .int x2] (mf_ Γ h m q r r2 M H Y A ow) z (some (.int p.1)) (mf_ Γ h m q r r2 p.2.1 H Y p.2.2.1 p.2.2.2) := by
  refine Call.of_go (L := [some (.ref m), some (.int x1), some (.int x2)]) (by decide +kernel) rfl (by exact Nat.le_of_ble_eq_true rfl) ?_
  unfold s_Model_foresee at hr
  refine Go.aload_0 d_Model_foresee_0 rfl ?_
  refine Go.iconst (v := 0) d_Model_foresee_1 rfl (by decide) ?_
  refine Go.putfield d_Model_foresee_2 rfl f_Model_37_p (Or.inl (fun C T N h => by cases h; rfl)) (mf_at_m (by omega) hB hS hC hD hE) (by exact Nat.le_of_ble_eq_true rfl) rfl rfl ?_
  refine Go.heq (mf_put_m_thrown (by omega) hB hS hC hD hE) ?_
  refine Go.iload_1 d_Model_foresee_5 rfl ?_
  refine Go.iconst (v := 1) d_Model_foresee_6 rfl (by decide) ?_
  refine Go.bipush (v := 60) d_Model_foresee_7 rfl (by decide) ?_
  refine Go.cs3r d_Model_foresee_9 rfl l_Model_43 k_Model_isIn_s rfl (mf_c_Model_isIn_ (by omega) hB hS hC hD hE) (Nat.ble_eq_true_of_le (by omega)) rfl rfl ?_
  refine Go.if_ne (t := 21) d_Model_foresee_12 (by decide) rfl (fun c12_1 => ?_) (fun c12_1 => ?_)
  · refine Go.iload_2 d_Model_foresee_21 rfl ?_
    refine Go.bipush (v := 7) d_Model_foresee_22 rfl (by decide) ?_
    refine Go.bipush (v := 12) d_Model_foresee_24 rfl (by decide) ?_
    refine Go.cs3r d_Model_foresee_26 rfl l_Model_43 k_Model_isIn_s rfl (mf_c_Model_isIn_ (by omega) hB hS hC hD hE) (Nat.ble_eq_true_of_le (by omega)) rfl rfl ?_
    refine Go.if_ne (t := 38) d_Model_foresee_29 (by decide) rfl (fun c29_2 => ?_) (fun c29_2 => ?_)
    · refine Go.aload_0 d_Model_foresee_38 rfl ?_
      refine Go.getfield d_Model_foresee_39 rfl f_Model_31 (mf_at_m (by omega) hB hS hC hD hE) (by rfl) ?_
      refine Go.aload_0 d_Model_foresee_42 rfl ?_
      refine Go.getfield d_Model_foresee_43 rfl f_Model_27 (mf_at_m (by omega) hB hS hC hD hE) (by rfl) ?_
      refine Go.cv1v d_Model_foresee_46 rfl l_Model_475 k_State_become_v (mf_at_r2 (by omega) hB hS hC hD hE) rfl (mfb (by omega)) (Nat.ble_eq_true_of_le (by omega)) rfl rfl ?_
      refine Go.aload_0 d_Model_foresee_49 rfl ?_
      refine Go.aload_0 d_Model_foresee_50 rfl ?_
      refine Go.getfield d_Model_foresee_51 rfl f_Model_31 (mf_at_m (by omega) hB hS hC hD hE) (by rfl) ?_
      refine Go.iload_1 d_Model_foresee_54 rfl ?_
      rw [if_neg c12_1, if_neg c29_2] at hr
      obtain ⟨p55_3, hp55_3, hr⟩ := Option.bind_eq_some_iff.mp hr
      try dsimp only at hr
      refine Go.cv2v d_Model_foresee_55 rfl l_Model_469 k_Model_daysOn_v (mf_at_m (by omega) hB hS hC hD hE) rfl (mf_daysA (n := x1.toNatClampNeg) (nI_back (isIn_pos1 c12_1)) (by omega) hB hS hC hD hE hO hdy (by have := (isIn_le (b := 60) c12_1 (by decide)); omega) hp55_3) (Nat.ble_eq_true_of_le (by omega)) rfl rfl ?_
      refine Go.aload_0 d_Model_foresee_58 rfl ?_
      refine Go.aload_0 d_Model_foresee_59 rfl ?_
      refine Go.getfield d_Model_foresee_60 rfl f_Model_31 (mf_at_m (by omega) hB hS hC hD hE) (by rfl) ?_
      refine Go.iload_2 d_Model_foresee_63 rfl ?_
      refine Go.cv2r d_Model_foresee_64 rfl l_Model_447 k_Model_counted_v (mf_at_m (by omega) hB hS hC hD hE) rfl (mf_counted (by omega) hB hS hC hD hE (by first | exact dayC_dy hp55_3 | exact daysOn_dy hp55_3 (by assumption))) (Nat.ble_eq_true_of_le (by omega)) rfl rfl ?_
      cases hr
      exact Go.iret d_Model_foresee_67 rfl rfl ⟨rfl, by dsimp only, rfl⟩
    · refine Go.aload_0 d_Model_foresee_32 rfl ?_
      refine Go.iconst (v := 2) d_Model_foresee_33 rfl (by decide) ?_
      refine Go.cv1r d_Model_foresee_34 rfl l_Model_427 k_Model_no_v (mf_at_m (by omega) hB hS hC hD hE) rfl (mf_c_Model_no_m (by omega) hB hS hC hD hE) (Nat.ble_eq_true_of_le (by omega)) rfl rfl ?_
      rw [if_neg c12_1, if_pos c29_2] at hr
      cases hr
      exact Go.iret d_Model_foresee_37 rfl rfl ⟨rfl, by dsimp only, rfl⟩
  · refine Go.aload_0 d_Model_foresee_15 rfl ?_
    refine Go.iconst (v := 1) d_Model_foresee_16 rfl (by decide) ?_
    refine Go.cv1r d_Model_foresee_17 rfl l_Model_427 k_Model_no_v (mf_at_m (by omega) hB hS hC hD hE) rfl (mf_c_Model_no_m (by omega) hB hS hC hD hE) (Nat.ble_eq_true_of_le (by omega)) rfl rfl ?_
    rw [if_pos c12_1] at hr
    cases hr
    exact Go.iret d_Model_foresee_20 rfl rfl ⟨rfl, by dsimp only, rfl⟩
