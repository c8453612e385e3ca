/-! the reference: days that pass, what would be -/
/-- whom the field `on` names -/
def roW (w r r2 : Nat) : Nat := if w = 0 then r else r2
theorem roW_if1 {n a r r2 : Nat} : roW (if n = 0 then a else 1) r r2 = if n = 0 then roW a r r2 else r2 := by
  split <;> rfl
theorem roW_if0 {n a r r2 : Nat} : roW (if n = 0 then a else 0) r r2 = if n = 0 then roW a r r2 else r := by
  split <;> rfl
def mf_ (Γ : G9) (h : AH) (m q r r2 : Nat) (M : MO) (H : SH) (Y : SX) (A : SX) (ow : Nat) : AH := (blk (blk (blk (blk h m 2 (moC Γ q r r2 (roW ow r r2) m M)) q 24 (shC Γ q H)) r 21 (sxC Γ r Y)) r2 21 (sxC Γ r2 A))
theorem mf_s {Γ : G9} {h : AH} {m q r r2 : Nat} {M : MO} {H : SH} {Y A : SX} {ow : Nat} (geo : m + 2 ≤ q ∧ m + 2 ≤ r ∧ r + 21 ≤ r2 ∧ (q + 24 ≤ r ∨ r2 + 21 ≤ q)) : mf_ Γ h m q r r2 M H Y A ow = md_ Γ (blk h r2 21 (sxC Γ r2 A)) m q r r r2 (roW ow r r2) M H Y := by
  unfold mf_ md_
  exact (blk_comm (by omega)).trans (blk_in ((blk_comm (by omega)).trans (blk_in (blk_comm (by omega)))))
theorem mf_a {Γ : G9} {h : AH} {m q r r2 : Nat} {M : MO} {H : SH} {Y A : SX} {ow : Nat} (geo : m + 2 ≤ q ∧ m + 2 ≤ r ∧ r + 21 ≤ r2 ∧ (q + 24 ≤ r ∨ r2 + 21 ≤ q)) : mf_ Γ h m q r r2 M H Y A ow = md_ Γ (blk h r 21 (sxC Γ r Y)) m q r2 r r2 (roW ow r r2) M H A := by
  unfold mf_ md_
  exact blk_in ((blk_comm (by omega)).trans (blk_in (blk_comm (by omega))))
theorem mfb {Γ : G9} {h : AH} {m q r r2 z : Nat} {M : MO} {H : SH} {Y A : SX} {ow : Nat} (geo : m + 2 ≤ q ∧ m + 2 ≤ r ∧ r + 21 ≤ r2 ∧ (q + 24 ≤ r ∨ r2 + 21 ≤ q)) : CallR Γ M_State_become 4 [.ref r2, .ref r] (mf_ Γ h m q r r2 M H Y A ow) z none (mf_ Γ h m q r r2 M H Y Y ow) := by
  unfold mf_
  exact CallR.conv rfl rfl (c_State_become (by omega))
/-- a day, with the day's number kept within its range -/
def dayC (M : MO) (H : SH) (Y : SX) : Option (MO × SX) := (s_Model_dayOn M H Y).bind fun p => if sx_dy p.2 < 1000000 then some p else none
theorem dayC_some {M : MO} {H : SH} {Y : SX} {p : MO × SX} (hr : dayC M H Y = some p) : s_Model_dayOn M H Y = some p ∧ sx_dy p.2 < 1000000 := by
  unfold dayC at hr
  obtain ⟨p1, h1, hr⟩ := Option.bind_eq_some_iff.mp hr
  try dsimp only at hr
  split at hr
  · cases hr
    exact ⟨h1, by assumption⟩
  · cases hr
theorem dayC_dy {M : MO} {H : SH} {Y : SX} {p : MO × SX} (hr : dayC M H Y = some p) : sx_dy p.2 < 1000000 := (dayC_some hr).2
theorem daysOn_dy {H : SH} : ∀ {n : Nat} {M : MO} {Y : SX} {p : MO × SX}, l_Model_daysOn H n M Y = some p → sx_dy Y < 1000000 → sx_dy p.2 < 1000000
  | 0, _, _, _, h, hd => by cases h; exact hd
  | n + 1, M, Y, p, h, hd => by
    unfold l_Model_daysOn at h
    obtain ⟨p1, h1, hr⟩ := Option.bind_eq_some_iff.mp h
    try dsimp only at hr
    split at hr
    · rename_i hd1
      exact daysOn_dy hr hd1
    · cases hr
theorem mf_dayA {Γ : G9} {h : AH} {m q r r2 z : Nat} {M : MO} {H : SH} {Y A : SX} {ow : Nat} {p : MO × SX} (geo : m + 2 ≤ q ∧ m + 2 ≤ r ∧ r + 21 ≤ r2 ∧ (q + 24 ≤ r ∨ r2 + 21 ≤ q)) (hB : sh_ha H 0 ≤ 5) (hS : sh_ha H 3 ≤ 6) (hC : sh_ha H 6 ≤ 4) (hD : sh_ha H 9 ≤ 4) (hE : sh_ha H 11 ≤ 4) (hO : sh_or H ≤ 20) (hdy : sx_dy A < 1000000) (hr : dayC M H A = some p) : CallR Γ M_Model_dayOn 73 [.ref m, .ref r2] (mf_ Γ h m q r r2 M H Y A ow) z none (mf_ Γ h m q r r2 p.1 H Y p.2 1) :=
  CallR.conv (mf_a geo) (mf_a geo).symm (c_Model_dayOn (by omega) hB hS hC hD hE hO hdy (dayC_some hr).1)
set_option maxRecDepth 100000 in
set_option maxHeartbeats 4000000 in
theorem c_Model_daysOn0 {Γ : G9} {h : AH} {m q r sa sb ro z n : Nat} {M : MO} {H : SH} {Y : SX} {p : MO × SX} {vn : Int32} (en : vn = nI n) (geo : m + 2 ≤ q ∧ m + 2 ≤ r ∧ (q + 24 ≤ r ∨ r + 21 ≤ q)) (hB : sh_ha H 0 ≤ 5) (hS : sh_ha H 3 ≤ 6) (hC : sh_ha H 6 ≤ 4) (hD : sh_ha H 9 ≤ 4) (hE : sh_ha H 11 ≤ 4) (hO : sh_or H ≤ 20) (hdy : sx_dy Y < 1000000) (hn : n ≤ 60) (hr : l_Model_daysOn H n M Y = some p) : CallR Γ M_Model_daysOn 74 [.ref m, .ref r, .int vn] (md_ Γ h m q r sa sb ro M H Y) z none (md_ Γ h m q r sa sb (if n = 0 then ro else r) p.1 H p.2) := by
  subst en
  refine Call.of_go (L := [some (.ref m), some (.ref r), some (.int (nI n)), none]) (by decide +kernel) rfl (by exact Nat.le_of_ble_eq_true rfl) ?_
  refine Go.iconst (v := 0) d_Model_daysOn_0 rfl (by decide) ?_
  refine Go.istore_3 d_Model_daysOn_1 rfl (by rfl) ?_
  exact l_Model_daysOn_go (Γ := Γ) (h := h) (m := m) (q := q) (r := r) (sa := sa) (sb := sb) (z := z) (p := p) geo hB hS hC hD hE hO hn n 0 ro M Y (by omega) hdy hr
theorem mf_daysA {Γ : G9} {h : AH} {m q r r2 z n : Nat} {M : MO} {H : SH} {Y A : SX} {ow : Nat} {p : MO × SX} {vn : Int32} (en : vn = nI n) (geo : m + 2 ≤ q ∧ m + 2 ≤ r ∧ r + 21 ≤ r2 ∧ (q + 24 ≤ r ∨ r2 + 21 ≤ q)) (hB : sh_ha H 0 ≤ 5) (hS : sh_ha H 3 ≤ 6) (hC : sh_ha H 6 ≤ 4) (hD : sh_ha H 9 ≤ 4) (hE : sh_ha H 11 ≤ 4) (hO : sh_or H ≤ 20) (hdy : sx_dy A < 1000000) (hn : n ≤ 60) (hr : l_Model_daysOn H n M A = some p) : CallR Γ M_Model_daysOn 74 [.ref m, .ref r2, .int vn] (mf_ Γ h m q r r2 M H Y A ow) z none (mf_ Γ h m q r r2 p.1 H Y p.2 (if n = 0 then ow else 1)) :=
  CallR.conv (mf_a geo) (by rw [mf_a geo, roW_if1]) (c_Model_daysOn0 en (by omega) hB hS hC hD hE hO hdy hn hr)
theorem mf_daysS {Γ : G9} {h : AH} {m q r r2 z n : Nat} {M : MO} {H : SH} {Y A : SX} {ow : Nat} {p : MO × SX} {vn : Int32} (en : vn = nI n) (geo : m + 2 ≤ q ∧ m + 2 ≤ r ∧ r + 21 ≤ r2 ∧ (q + 24 ≤ r ∨ r2 + 21 ≤ q)) (hB : sh_ha H 0 ≤ 5) (hS : sh_ha H 3 ≤ 6) (hC : sh_ha H 6 ≤ 4) (hD : sh_ha H 9 ≤ 4) (hE : sh_ha H 11 ≤ 4) (hO : sh_or H ≤ 20) (hdy : sx_dy Y < 1000000) (hn : n ≤ 60) (hr : l_Model_daysOn H n M Y = some p) : CallR Γ M_Model_daysOn 74 [.ref m, .ref r, .int vn] (mf_ Γ h m q r r2 M H Y A ow) z none (mf_ Γ h m q r r2 p.1 H p.2 A (if n = 0 then ow else 0)) :=
  CallR.conv (mf_s geo) (by rw [mf_s geo, roW_if0]) (c_Model_daysOn0 en (by omega) hB hS hC hD hE hO hdy hn hr)
theorem mf_moved {Γ : G9} {h : AH} {m q r r2 z x2 : Nat} {M : MO} {H : SH} {Y A : SX} {ow : Nat} {vx2 x3 : Int32} (ex2 : vx2 = nI x2) (bx2 : x2 < 4) (geo : m + 2 ≤ q ∧ m + 2 ≤ r ∧ r + 21 ≤ r2 ∧ (q + 24 ≤ r ∨ r2 + 21 ≤ q)) (hB : sh_ha H 0 ≤ 5) (hS : sh_ha H 3 ≤ 6) (hC : sh_ha H 6 ≤ 4) (hD : sh_ha H 9 ≤ 4) (hE : sh_ha H 11 ≤ 4) : CallR Γ M_Model_moved 3 [.ref m, .ref r2, .int vx2, .int x3] (mf_ Γ h m q r r2 M H Y A ow) z (some (.int (s_Model_moved M H A x2 x3).1)) (mf_ Γ h m q r r2 M H Y (s_Model_moved M H A x2 x3).2 ow) :=
  CallR.conv (mf_a geo) (mf_a geo).symm (c_Model_moved ex2 bx2 (by omega) hB hS hC hD hE)
theorem mf_counted {Γ : G9} {h : AH} {m q r r2 z : Nat} {M : MO} {H : SH} {Y A : SX} {ow : Nat} {x2 : Int32} (geo : m + 2 ≤ q ∧ m + 2 ≤ r ∧ r + 21 ≤ r2 ∧ (q + 24 ≤ r ∨ r2 + 21 ≤ q)) (hB : sh_ha H 0 ≤ 5) (hS : sh_ha H 3 ≤ 6) (hC : sh_ha H 6 ≤ 4) (hD : sh_ha H 9 ≤ 4) (hE : sh_ha H 11 ≤ 4) (hdy : sx_dy A < 1000000) : CallR Γ M_Model_counted 1 [.ref m, .ref r2, .int x2] (mf_ Γ h m q r r2 M H Y A ow) z (some (.int (s_Model_counted M H A x2))) (mf_ Γ h m q r r2 M H Y A ow) :=
  CallR.conv (mf_a geo) (mf_a geo).symm (c_Model_counted (by omega) hB hS hC hD hE hdy)

theorem mf_at_m {Γ : G9} {h : AH} {m q r r2 : Nat} {M : MO} {H : SH} {Y : SX} {A : SX} {ow : Nat} (geo : m + 2 ≤ q ∧ m + 2 ≤ r ∧ r + 21 ≤ r2 ∧ (q + 24 ≤ r ∨ r2 + 21 ≤ q)) (hB : sh_ha H 0 ≤ 5) (hS : sh_ha H 3 ≤ 6) (hC : sh_ha H 6 ≤ 4) (hD : sh_ha H 9 ≤ 4) (hE : sh_ha H 11 ≤ 4) : (mf_ Γ h m q r r2 M H Y A ow) m = some (.inr (11, [.int (mo_th M), .ref (m + 1), .int (nI (mo_sz M)), .int (mo_ea M), .int (nI (mo_tk M)), .int (nI (mo_dp M)), .ref q, .ref r, .ref r2, .int (mo_wk M), .ref (roW ow r r2)])) := by
  unfold mf_
  exact ((blk_out (by omega)).trans ((blk_out (by omega)).trans ((blk_out (by omega)).trans (mo_g0))))
theorem mf_put_m_thrown {Γ : G9} {h : AH} {m q r r2 : Nat} {M : MO} {H : SH} {Y : SX} {A : SX} {ow : Nat} {v : Int32} (geo : m + 2 ≤ q ∧ m + 2 ≤ r ∧ r + 21 ≤ r2 ∧ (q + 24 ≤ r ∨ r2 + 21 ≤ q)) (hB : sh_ha H 0 ≤ 5) (hS : sh_ha H 3 ≤ 6) (hC : sh_ha H 6 ≤ 4) (hD : sh_ha H 9 ≤ 4) (hE : sh_ha H 11 ≤ 4) : hup (mf_ Γ h m q r r2 M H Y A ow) m (.inr (11, [.int (mo_th M), .ref (m + 1), .int (nI (mo_sz M)), .int (mo_ea M), .int (nI (mo_tk M)), .int (nI (mo_dp M)), .ref q, .ref r, .ref r2, .int (mo_wk M), .ref (roW ow r r2)].set 0 (.int v))) = (mf_ Γ h m q r r2 (mo_th' M v) H Y A ow) := by
  unfold mf_
  exact ((hup_blk (by omega)).trans (blk_in ((hup_blk (by omega)).trans (blk_in ((hup_blk (by omega)).trans (blk_in (mo_p_th (v := v))))))))
theorem mf_c_Model_isIn_ {Γ : G9} {h : AH} {m q r r2 z : Nat} {M : MO} {H : SH} {Y : SX} {A : SX} {ow : Nat} {x1 : Int32} {x2 : Int32} {x3 : Int32} (geo : m + 2 ≤ q ∧ m + 2 ≤ r ∧ r + 21 ≤ r2 ∧ (q + 24 ≤ r ∨ r2 + 21 ≤ q)) (hB : sh_ha H 0 ≤ 5) (hS : sh_ha H 3 ≤ 6) (hC : sh_ha H 6 ≤ 4) (hD : sh_ha H 9 ≤ 4) (hE : sh_ha H 11 ≤ 4) : CallR Γ M_Model_isIn 0 [.int x1, .int x2, .int x3] (mf_ Γ h m q r r2 M H Y A ow) z (some (.int (s_Model_isIn x1 x2 x3))) (mf_ Γ h m q r r2 M H Y A ow) := by
  unfold mf_
  exact CallR.conv rfl rfl (c_Model_isIn)
theorem mf_at_r {Γ : G9} {h : AH} {m q r r2 : Nat} {M : MO} {H : SH} {Y : SX} {A : SX} {ow : Nat} (geo : m + 2 ≤ q ∧ m + 2 ≤ r ∧ r + 21 ≤ r2 ∧ (q + 24 ≤ r ∨ r2 + 21 ≤ q)) (hB : sh_ha H 0 ≤ 5) (hS : sh_ha H 3 ≤ 6) (hC : sh_ha H 6 ≤ 4) (hD : sh_ha H 9 ≤ 4) (hE : sh_ha H 11 ≤ 4) : (mf_ Γ h m q r r2 M H Y A ow) r = some (.inr (10, [.int (nI (sx_dy Y)), .int (sx_rd Y), .int (sx_fa Y), .int (sx_ca Y), .ref (r + 1), .ref (r + 2), .ref (r + 3), .ref (r + 4), .ref (r + 5), .ref (r + 6), .ref (r + 7), .ref (r + 8), .ref (r + 9), .ref (r + 10), .ref (r + 11), .ref (r + 12), .ref (r + 13), .ref (r + 14), .ref (r + 15), .ref (r + 16), .ref (r + 17), .ref (r + 18), .ref (r + 19), .ref (r + 20)])) := by
  unfold mf_
  exact ((blk_out (by omega)).trans (sx_g0))
theorem mf_c_Model_no_m {Γ : G9} {h : AH} {m q r r2 z : Nat} {M : MO} {H : SH} {Y : SX} {A : SX} {ow : Nat} {x1 : Int32} (geo : m + 2 ≤ q ∧ m + 2 ≤ r ∧ r + 21 ≤ r2 ∧ (q + 24 ≤ r ∨ r2 + 21 ≤ q)) (hB : sh_ha H 0 ≤ 5) (hS : sh_ha H 3 ≤ 6) (hC : sh_ha H 6 ≤ 4) (hD : sh_ha H 9 ≤ 4) (hE : sh_ha H 11 ≤ 4) : CallR Γ M_Model_no 0 [.ref m, .int x1] (mf_ Γ h m q r r2 M H Y A ow) z (some (.int (s_Model_no M H Y x1).1)) (mf_ Γ h m q r r2 (s_Model_no M H Y x1).2 H Y A ow) := by
  unfold mf_
  exact CallR.conv (((blk_comm (by omega)).trans (blk_in (blk_comm (by omega)))).trans (blk_in (blk_in (blk_comm (by omega))))) (((blk_in (blk_in (blk_comm (by omega)))).trans (blk_in (blk_comm (by omega)))).trans (blk_comm (by omega))) (c_Model_no (by omega) hB hS hC hD hE)
theorem d_Model_pass_0 : decode M_Model_pass.2.1 0 = .ok (.aload_n 0, 1) := by decide +kernel
theorem d_Model_pass_1 : decode M_Model_pass.2.1 1 = .ok (.iconst 0, 1) := by decide +kernel
theorem d_Model_pass_2 : decode M_Model_pass.2.1 2 = .ok (.putfield 37, 3) := by decide +kernel
theorem d_Model_pass_5 : decode M_Model_pass.2.1 5 = .ok (.iload_n 1, 1) := by decide +kernel
theorem d_Model_pass_6 : decode M_Model_pass.2.1 6 = .ok (.iconst 1, 1) := by decide +kernel
theorem d_Model_pass_7 : decode M_Model_pass.2.1 7 = .ok (.bipush 60, 2) := by decide +kernel
theorem d_Model_pass_9 : decode M_Model_pass.2.1 9 = .ok (.invokestatic 43, 3) := by decide +kernel
theorem d_Model_pass_12 : decode M_Model_pass.2.1 12 = .ok (.ifCond .ne 9, 3) := by decide +kernel
theorem d_Model_pass_15 : decode M_Model_pass.2.1 15 = .ok (.aload_n 0, 1) := by decide +kernel
theorem d_Model_pass_16 : decode M_Model_pass.2.1 16 = .ok (.iconst 1, 1) := by decide +kernel
theorem d_Model_pass_17 : decode M_Model_pass.2.1 17 = .ok (.invokevirtual 427, 3) := by decide +kernel
theorem d_Model_pass_20 : decode M_Model_pass.2.1 20 = .ok (.ireturn, 1) := by decide +kernel
theorem d_Model_pass_21 : decode M_Model_pass.2.1 21 = .ok (.aload_n 0, 1) := by decide +kernel
theorem d_Model_pass_22 : decode M_Model_pass.2.1 22 = .ok (.getfield 27, 3) := by decide +kernel
theorem d_Model_pass_25 : decode M_Model_pass.2.1 25 = .ok (.getfield 403, 3) := by decide +kernel
theorem d_Model_pass_28 : decode M_Model_pass.2.1 28 = .ok (.istore_n 2, 1) := by decide +kernel
theorem d_Model_pass_29 : decode M_Model_pass.2.1 29 = .ok (.aload_n 0, 1) := by decide +kernel
theorem d_Model_pass_30 : decode M_Model_pass.2.1 30 = .ok (.aload_n 0, 1) := by decide +kernel
theorem d_Model_pass_31 : decode M_Model_pass.2.1 31 = .ok (.getfield 27, 3) := by decide +kernel
theorem d_Model_pass_34 : decode M_Model_pass.2.1 34 = .ok (.iload_n 1, 1) := by decide +kernel
theorem d_Model_pass_35 : decode M_Model_pass.2.1 35 = .ok (.invokevirtual 469, 3) := by decide +kernel
theorem d_Model_pass_38 : decode M_Model_pass.2.1 38 = .ok (.aload_n 0, 1) := by decide +kernel
theorem d_Model_pass_39 : decode M_Model_pass.2.1 39 = .ok (.getfield 27, 3) := by decide +kernel
theorem d_Model_pass_42 : decode M_Model_pass.2.1 42 = .ok (.getfield 403, 3) := by decide +kernel
theorem d_Model_pass_45 : decode M_Model_pass.2.1 45 = .ok (.iload_n 2, 1) := by decide +kernel
theorem d_Model_pass_46 : decode M_Model_pass.2.1 46 = .ok (.isub, 1) := by decide +kernel
theorem d_Model_pass_47 : decode M_Model_pass.2.1 47 = .ok (.ireturn, 1) := by decide +kernel
def s_Model_pass (M : MO) (H : SH) (Y : SX) (A : SX) (ow : Nat) (x1 : Int32) : Option (Int32 × MO × SX × Nat) := (if (s_Model_isIn x1 1 60) = 0 then some ((s_Model_no (mo_th' M 0) H Y 1).1, (s_Model_no (mo_th' M 0) H Y 1).2, Y, ow) else ((l_Model_daysOn H x1.toNatClampNeg (mo_th' M 0) Y).bind fun p35_2 => some (((sx_rd p35_2.2) - (sx_rd Y)), p35_2.1, p35_2.2, (if x1.toNatClampNeg = 0 then ow else 0))))
set_option maxRecDepth 100000 in
set_option maxHeartbeats 4000000 in
theorem c_Model_pass {Γ : G9} {h : AH} {m q r r2 z : Nat} {M : MO} {H : SH} {Y : SX} {A : SX} {ow : Nat} {x1 : Int32} {p : Int32 × MO × SX × Nat} (geo : m + 2 ≤ q ∧ m + 2 ≤ r ∧ r + 21 ≤ r2 ∧ (q + 24 ≤ r ∨ r2 + 21 ≤ q)) (hB : sh_ha H 0 ≤ 5) (hS : sh_ha H 3 ≤ 6) (hC : sh_ha H 6 ≤ 4) (hD : sh_ha H 9 ≤ 4) (hE : sh_ha H 11 ≤ 4) (hO : sh_or H ≤ 20) (hdy : sx_dy Y < 1000000) (hr : s_Model_pass M H Y A ow x1 = some p) : CallR Γ M_Model_pass 75 [.ref m, .int x1] (mf_ Γ h m q r r2 M H Y A ow) z (some (.int p.1)) (mf_ Γ h m q r r2 p.2.1 H p.2.2.1 A p.2.2.2) := by
  refine Call.of_go (L := [some (.ref m), some (.int x1), none]) (by decide +kernel) rfl (by exact Nat.le_of_ble_eq_true rfl) ?_
  unfold s_Model_pass at hr
  refine Go.aload_0 d_Model_pass_0 rfl ?_
  refine Go.iconst (v := 0) d_Model_pass_1 rfl (by decide) ?_
  refine Go.putfield d_Model_pass_2 rfl f_Model_37_p (Or.inl (fun C T N h => by cases h; rfl)) (mf_at_m (by omega) hB hS hC hD hE) (by exact Nat.le_of_ble_eq_true rfl) rfl rfl ?_
  refine Go.heq (mf_put_m_thrown (by omega) hB hS hC hD hE) ?_
  refine Go.iload_1 d_Model_pass_5 rfl ?_
  refine Go.iconst (v := 1) d_Model_pass_6 rfl (by decide) ?_
  refine Go.bipush (v := 60) d_Model_pass_7 rfl (by decide) ?_
  refine Go.cs3r d_Model_pass_9 rfl l_Model_43 k_Model_isIn_s rfl (mf_c_Model_isIn_ (by omega) hB hS hC hD hE) (Nat.ble_eq_true_of_le (by omega)) rfl rfl ?_
  refine Go.if_ne (t := 21) d_Model_pass_12 (by decide) rfl (fun c12_1 => ?_) (fun c12_1 => ?_)
  · refine Go.aload_0 d_Model_pass_21 rfl ?_
    refine Go.getfield d_Model_pass_22 rfl f_Model_27 (mf_at_m (by omega) hB hS hC hD hE) (by rfl) ?_
    refine Go.getfield d_Model_pass_25 rfl f_Model_403 (mf_at_r (by omega) hB hS hC hD hE) (by rfl) ?_
    refine Go.istore_2 d_Model_pass_28 rfl (by rfl) ?_
    refine Go.aload_0 d_Model_pass_29 rfl ?_
    refine Go.aload_0 d_Model_pass_30 rfl ?_
    refine Go.getfield d_Model_pass_31 rfl f_Model_27 (mf_at_m (by omega) hB hS hC hD hE) (by rfl) ?_
    refine Go.iload_1 d_Model_pass_34 rfl ?_
    rw [if_neg c12_1] at hr
    obtain ⟨p35_2, hp35_2, hr⟩ := Option.bind_eq_some_iff.mp hr
    try dsimp only at hr
    refine Go.cv2v d_Model_pass_35 rfl l_Model_469 k_Model_daysOn_v (mf_at_m (by omega) hB hS hC hD hE) rfl (mf_daysS (n := x1.toNatClampNeg) (nI_back (isIn_pos1 c12_1)) (by omega) hB hS hC hD hE hO hdy (by have := (isIn_le (b := 60) c12_1 (by decide)); omega) hp35_2) (Nat.ble_eq_true_of_le (by omega)) rfl rfl ?_
    refine Go.aload_0 d_Model_pass_38 rfl ?_
    refine Go.getfield d_Model_pass_39 rfl f_Model_27 (mf_at_m (by omega) hB hS hC hD hE) (by rfl) ?_
    refine Go.getfield d_Model_pass_42 rfl f_Model_403 (mf_at_r (by omega) hB hS hC hD hE) (by rfl) ?_
    refine Go.iload_2 d_Model_pass_45 rfl ?_
    refine Go.isub d_Model_pass_46 rfl ?_
    cases hr
    exact Go.iret d_Model_pass_47 rfl rfl ⟨rfl, by dsimp only, rfl⟩
  · refine Go.aload_0 d_Model_pass_15 rfl ?_
    refine Go.iconst (v := 1) d_Model_pass_16 rfl (by decide) ?_
    refine Go.cv1r d_Model_pass_17 rfl l_Model_427 k_Model_no_v (mf_at_m (by omega) hB hS hC hD hE) rfl (mf_c_Model_no_m (by omega) hB hS hC hD hE) (Nat.ble_eq_true_of_le (by omega)) rfl rfl ?_
    rw [if_pos c12_1] at hr
    cases hr
    exact Go.iret d_Model_pass_20 rfl rfl ⟨rfl, by dsimp only, rfl⟩
theorem mf_at_r2 {Γ : G9} {h : AH} {m q r r2 : Nat} {M : MO} {H : SH} {Y : SX} {A : SX} {ow : Nat} (geo : m + 2 ≤ q ∧ m + 2 ≤ r ∧ r + 21 ≤ r2 ∧ (q + 24 ≤ r ∨ r2 + 21 ≤ q)) (hB : sh_ha H 0 ≤ 5) (hS : sh_ha H 3 ≤ 6) (hC : sh_ha H 6 ≤ 4) (hD : sh_ha H 9 ≤ 4) (hE : sh_ha H 11 ≤ 4) : (mf_ Γ h m q r r2 M H Y A ow) r2 = some (.inr (10, [.int (nI (sx_dy A)), .int (sx_rd A), .int (sx_fa A), .int (sx_ca A), .ref (r2 + 1), .ref (r2 + 2), .ref (r2 + 3), .ref (r2 + 4), .ref (r2 + 5), .ref (r2 + 6), .ref (r2 + 7), .ref (r2 + 8), .ref (r2 + 9), .ref (r2 + 10), .ref (r2 + 11), .ref (r2 + 12), .ref (r2 + 13), .ref (r2 + 14), .ref (r2 + 15), .ref (r2 + 16), .ref (r2 + 17), .ref (r2 + 18), .ref (r2 + 19), .ref (r2 + 20)])) := by
  unfold mf_
  exact (sx_g0)
theorem d_Model_foresee_0 : decode M_Model_foresee.2.1 0 = .ok (.aload_n 0, 1) := by decide +kernel
theorem d_Model_foresee_1 : decode M_Model_foresee.2.1 1 = .ok (.iconst 0, 1) := by decide +kernel
theorem d_Model_foresee_2 : decode M_Model_foresee.2.1 2 = .ok (.putfield 37, 3) := by decide +kernel
theorem d_Model_foresee_5 : decode M_Model_foresee.2.1 5 = .ok (.iload_n 1, 1) := by decide +kernel
theorem d_Model_foresee_6 : decode M_Model_foresee.2.1 6 = .ok (.iconst 1, 1) := by decide +kernel
theorem d_Model_foresee_7 : decode M_Model_foresee.2.1 7 = .ok (.bipush 60, 2) := by decide +kernel
theorem d_Model_foresee_9 : decode M_Model_foresee.2.1 9 = .ok (.invokestatic 43, 3) := by decide +kernel
theorem d_Model_foresee_12 : decode M_Model_foresee.2.1 12 = .ok (.ifCond .ne 9, 3) := by decide +kernel
theorem d_Model_foresee_15 : decode M_Model_foresee.2.1 15 = .ok (.aload_n 0, 1) := by decide +kernel
theorem d_Model_foresee_16 : decode M_Model_foresee.2.1 16 = .ok (.iconst 1, 1) := by decide +kernel
theorem d_Model_foresee_17 : decode M_Model_foresee.2.1 17 = .ok (.invokevirtual 427, 3) := by decide +kernel
theorem d_Model_foresee_20 : decode M_Model_foresee.2.1 20 = .ok (.ireturn, 1) := by decide +kernel
theorem d_Model_foresee_21 : decode M_Model_foresee.2.1 21 = .ok (.iload_n 2, 1) := by decide +kernel
theorem d_Model_foresee_22 : decode M_Model_foresee.2.1 22 = .ok (.bipush 7, 2) := by decide +kernel
theorem d_Model_foresee_24 : decode M_Model_foresee.2.1 24 = .ok (.bipush 12, 2) := by decide +kernel
theorem d_Model_foresee_26 : decode M_Model_foresee.2.1 26 = .ok (.invokestatic 43, 3) := by decide +kernel
theorem d_Model_foresee_29 : decode M_Model_foresee.2.1 29 = .ok (.ifCond .ne 9, 3) := by decide +kernel
theorem d_Model_foresee_32 : decode M_Model_foresee.2.1 32 = .ok (.aload_n 0, 1) := by decide +kernel
theorem d_Model_foresee_33 : decode M_Model_foresee.2.1 33 = .ok (.iconst 2, 1) := by decide +kernel
theorem d_Model_foresee_34 : decode M_Model_foresee.2.1 34 = .ok (.invokevirtual 427, 3) := by decide +kernel
theorem d_Model_foresee_37 : decode M_Model_foresee.2.1 37 = .ok (.ireturn, 1) := by decide +kernel
theorem d_Model_foresee_38 : decode M_Model_foresee.2.1 38 = .ok (.aload_n 0, 1) := by decide +kernel
theorem d_Model_foresee_39 : decode M_Model_foresee.2.1 39 = .ok (.getfield 31, 3) := by decide +kernel
theorem d_Model_foresee_42 : decode M_Model_foresee.2.1 42 = .ok (.aload_n 0, 1) := by decide +kernel
theorem d_Model_foresee_43 : decode M_Model_foresee.2.1 43 = .ok (.getfield 27, 3) := by decide +kernel
theorem d_Model_foresee_46 : decode M_Model_foresee.2.1 46 = .ok (.invokevirtual 475, 3) := by decide +kernel
theorem d_Model_foresee_49 : decode M_Model_foresee.2.1 49 = .ok (.aload_n 0, 1) := by decide +kernel
theorem d_Model_foresee_50 : decode M_Model_foresee.2.1 50 = .ok (.aload_n 0, 1) := by decide +kernel
theorem d_Model_foresee_51 : decode M_Model_foresee.2.1 51 = .ok (.getfield 31, 3) := by decide +kernel
theorem d_Model_foresee_54 : decode M_Model_foresee.2.1 54 = .ok (.iload_n 1, 1) := by decide +kernel
theorem d_Model_foresee_55 : decode M_Model_foresee.2.1 55 = .ok (.invokevirtual 469, 3) := by decide +kernel
theorem d_Model_foresee_58 : decode M_Model_foresee.2.1 58 = .ok (.aload_n 0, 1) := by decide +kernel
theorem d_Model_foresee_59 : decode M_Model_foresee.2.1 59 = .ok (.aload_n 0, 1) := by decide +kernel
theorem d_Model_foresee_60 : decode M_Model_foresee.2.1 60 = .ok (.getfield 31, 3) := by decide +kernel
theorem d_Model_foresee_63 : decode M_Model_foresee.2.1 63 = .ok (.iload_n 2, 1) := by decide +kernel
theorem d_Model_foresee_64 : decode M_Model_foresee.2.1 64 = .ok (.invokevirtual 447, 3) := by decide +kernel
theorem d_Model_foresee_67 : decode M_Model_foresee.2.1 67 = .ok (.ireturn, 1) := by decide +kernel
def s_Model_foresee (M : MO) (H : SH) (Y : SX) (A : SX) (ow : Nat) (x1 : Int32) (x2 : Int32) : Option (Int32 × MO × SX × Nat) := (if (s_Model_isIn x1 1 60) = 0 then some ((s_Model_no (mo_th' M 0) H Y 1).1, (s_Model_no (mo_th' M 0) H Y 1).2, A, ow) else (if (s_Model_isIn x2 7 12) = 0 then some ((s_Model_no (mo_th' M 0) H Y 2).1, (s_Model_no (mo_th' M 0) H Y 2).2, A, ow) else ((l_Model_daysOn H x1.toNatClampNeg (mo_th' M 0) Y).bind fun p55_3 => some ((s_Model_counted p55_3.1 H p55_3.2 x2), p55_3.1, p55_3.2, (if x1.toNatClampNeg = 0 then ow else 1)))))
set_option maxRecDepth 100000 in
set_option maxHeartbeats 4000000 in
theorem c_Model_foresee {Γ : G9} {h : AH} {m q r r2 z : Nat} {M : MO} {H : SH} {Y : SX} {A : SX} {ow : Nat} {x1 : Int32} {x2 : Int32} {p : Int32 × MO × SX × Nat} (geo : m + 2 ≤ q ∧ m + 2 ≤ r ∧ r + 21 ≤ r2 ∧ (q + 24 ≤ r ∨ r2 + 21 ≤ q)) (hB : sh_ha H 0 ≤ 5) (hS : sh_ha H 3 ≤ 6) (hC : sh_ha H 6 ≤ 4) (hD : sh_ha H 9 ≤ 4) (hE : sh_ha H 11 ≤ 4) (hO : sh_or H ≤ 20) (hdy : sx_dy Y < 1000000) (hr : s_Model_foresee M H Y A ow x1 x2 = some p) : CallR Γ M_Model_foresee 75 [.ref m, .int x1, .int x2] (mf_ Γ h m q r r2 M H Y A ow) z (some (.int p.1)) (mf_ Γ h m q r r2 p.2.1 H Y p.2.2.1 p.2.2.2) := by
  refine Call.of_go (L := [some (.ref m), some (.int x1), some (.int x2)]) (by decide +kernel) rfl (by exact Nat.le_of_ble_eq_true rfl) ?_
  unfold s_Model_foresee at hr
  refine Go.aload_0 d_Model_foresee_0 rfl ?_
  refine Go.iconst (v := 0) d_Model_foresee_1 rfl (by decide) ?_
  refine Go.putfield d_Model_foresee_2 rfl f_Model_37_p (Or.inl (fun C T N h => by cases h; rfl)) (mf_at_m (by omega) hB hS hC hD hE) (by exact Nat.le_of_ble_eq_true rfl) rfl rfl ?_
  refine Go.heq (mf_put_m_thrown (by omega) hB hS hC hD hE) ?_
  refine Go.iload_1 d_Model_foresee_5 rfl ?_
  refine Go.iconst (v := 1) d_Model_foresee_6 rfl (by decide) ?_
  refine Go.bipush (v := 60) d_Model_foresee_7 rfl (by decide) ?_
  refine Go.cs3r d_Model_foresee_9 rfl l_Model_43 k_Model_isIn_s rfl (mf_c_Model_isIn_ (by omega) hB hS hC hD hE) (Nat.ble_eq_true_of_le (by omega)) rfl rfl ?_
  refine Go.if_ne (t := 21) d_Model_foresee_12 (by decide) rfl (fun c12_1 => ?_) (fun c12_1 => ?_)
  · refine Go.iload_2 d_Model_foresee_21 rfl ?_
    refine Go.bipush (v := 7) d_Model_foresee_22 rfl (by decide) ?_
    refine Go.bipush (v := 12) d_Model_foresee_24 rfl (by decide) ?_
    refine Go.cs3r d_Model_foresee_26 rfl l_Model_43 k_Model_isIn_s rfl (mf_c_Model_isIn_ (by omega) hB hS hC hD hE) (Nat.ble_eq_true_of_le (by omega)) rfl rfl ?_
    refine Go.if_ne (t := 38) d_Model_foresee_29 (by decide) rfl (fun c29_2 => ?_) (fun c29_2 => ?_)
    · refine Go.aload_0 d_Model_foresee_38 rfl ?_
      refine Go.getfield d_Model_foresee_39 rfl f_Model_31 (mf_at_m (by omega) hB hS hC hD hE) (by rfl) ?_
      refine Go.aload_0 d_Model_foresee_42 rfl ?_
      refine Go.getfield d_Model_foresee_43 rfl f_Model_27 (mf_at_m (by omega) hB hS hC hD hE) (by rfl) ?_
      refine Go.cv1v d_Model_foresee_46 rfl l_Model_475 k_State_become_v (mf_at_r2 (by omega) hB hS hC hD hE) rfl (mfb (by omega)) (Nat.ble_eq_true_of_le (by omega)) rfl rfl ?_
      refine Go.aload_0 d_Model_foresee_49 rfl ?_
      refine Go.aload_0 d_Model_foresee_50 rfl ?_
      refine Go.getfield d_Model_foresee_51 rfl f_Model_31 (mf_at_m (by omega) hB hS hC hD hE) (by rfl) ?_
      refine Go.iload_1 d_Model_foresee_54 rfl ?_
      rw [if_neg c12_1, if_neg c29_2] at hr
      obtain ⟨p55_3, hp55_3, hr⟩ := Option.bind_eq_some_iff.mp hr
      try dsimp only at hr
      refine Go.cv2v d_Model_foresee_55 rfl l_Model_469 k_Model_daysOn_v (mf_at_m (by omega) hB hS hC hD hE) rfl (mf_daysA (n := x1.toNatClampNeg) (nI_back (isIn_pos1 c12_1)) (by omega) hB hS hC hD hE hO hdy (by have := (isIn_le (b := 60) c12_1 (by decide)); omega) hp55_3) (Nat.ble_eq_true_of_le (by omega)) rfl rfl ?_
      refine Go.aload_0 d_Model_foresee_58 rfl ?_
      refine Go.aload_0 d_Model_foresee_59 rfl ?_
      refine Go.getfield d_Model_foresee_60 rfl f_Model_31 (mf_at_m (by omega) hB hS hC hD hE) (by rfl) ?_
      refine Go.iload_2 d_Model_foresee_63 rfl ?_
      refine Go.cv2r d_Model_foresee_64 rfl l_Model_447 k_Model_counted_v (mf_at_m (by omega) hB hS hC hD hE) rfl (mf_counted (by omega) hB hS hC hD hE (by first | exact dayC_dy hp55_3 | exact daysOn_dy hp55_3 (by assumption))) (Nat.ble_eq_true_of_le (by omega)) rfl rfl ?_
      cases hr
      exact Go.iret d_Model_foresee_67 rfl rfl ⟨rfl, by dsimp only, rfl⟩
    · refine Go.aload_0 d_Model_foresee_32 rfl ?_
      refine Go.iconst (v := 2) d_Model_foresee_33 rfl (by decide) ?_
      refine Go.cv1r d_Model_foresee_34 rfl l_Model_427 k_Model_no_v (mf_at_m (by omega) hB hS hC hD hE) rfl (mf_c_Model_no_m (by omega) hB hS hC hD hE) (Nat.ble_eq_true_of_le (by omega)) rfl rfl ?_
      rw [if_neg c12_1, if_pos c29_2] at hr
      cases hr
      exact Go.iret d_Model_foresee_37 rfl rfl ⟨rfl, by dsimp only, rfl⟩
  · refine Go.aload_0 d_Model_foresee_15 rfl ?_
    refine Go.iconst (v := 1) d_Model_foresee_16 rfl (by decide) ?_
    refine Go.cv1r d_Model_foresee_17 rfl l_Model_427 k_Model_no_v (mf_at_m (by omega) hB hS hC hD hE) rfl (mf_c_Model_no_m (by omega) hB hS hC hD hE) (Nat.ble_eq_true_of_le (by omega)) rfl rfl ?_
    rw [if_pos c12_1] at hr
    cases hr
    exact Go.iret d_Model_foresee_20 rfl rfl ⟨rfl, by dsimp only, rfl⟩
theorem mf_at_r2_5 {Γ : G9} {h : AH} {m q r r2 : Nat} {M : MO} {H : SH} {Y : SX} {A : SX} {ow : Nat} (geo : m + 2 ≤ q ∧ m + 2 ≤ r ∧ r + 21 ≤ r2 ∧ (q + 24 ≤ r ∨ r2 + 21 ≤ q)) (hB : sh_ha H 0 ≤ 5) (hS : sh_ha H 3 ≤ 6) (hC : sh_ha H 6 ≤ 4) (hD : sh_ha H 9 ≤ 4) (hE : sh_ha H 11 ≤ 4) : (mf_ Γ h m q r r2 M H Y A ow) (r2 + 5) = some (aI Γ 6 (sx_sd A)) := by
  unfold mf_
  exact (sx_g5)
theorem d_Model_lies_13 : decode M_Model_lies.2.1 13 = .ok (.iload_n 2, 1) := by decide +kernel
theorem d_Model_lies_14 : decode M_Model_lies.2.1 14 = .ok (.bipush 100, 2) := by decide +kernel
theorem d_Model_lies_16 : decode M_Model_lies.2.1 16 = .ok (.if_icmp .ge 31, 3) := by decide +kernel
theorem d_Model_lies_19 : decode M_Model_lies.2.1 19 = .ok (.aload_n 0, 1) := by decide +kernel
theorem d_Model_lies_20 : decode M_Model_lies.2.1 20 = .ok (.getfield 31, 3) := by decide +kernel
theorem d_Model_lies_23 : decode M_Model_lies.2.1 23 = .ok (.getfield 277, 3) := by decide +kernel
theorem d_Model_lies_26 : decode M_Model_lies.2.1 26 = .ok (.iload_n 1, 1) := by decide +kernel
theorem d_Model_lies_27 : decode M_Model_lies.2.1 27 = .ok (.iaload, 1) := by decide +kernel
theorem d_Model_lies_28 : decode M_Model_lies.2.1 28 = .ok (.ifCond .ne 5, 3) := by decide +kernel
theorem d_Model_lies_31 : decode M_Model_lies.2.1 31 = .ok (.iload_n 2, 1) := by decide +kernel
theorem d_Model_lies_32 : decode M_Model_lies.2.1 32 = .ok (.ireturn, 1) := by decide +kernel
theorem d_Model_lies_33 : decode M_Model_lies.2.1 33 = .ok (.aload_n 0, 1) := by decide +kernel
theorem d_Model_lies_34 : decode M_Model_lies.2.1 34 = .ok (.aload_n 0, 1) := by decide +kernel
theorem d_Model_lies_35 : decode M_Model_lies.2.1 35 = .ok (.getfield 31, 3) := by decide +kernel
theorem d_Model_lies_38 : decode M_Model_lies.2.1 38 = .ok (.invokevirtual 423, 3) := by decide +kernel
theorem d_Model_lies_41 : decode M_Model_lies.2.1 41 = .ok (.iinc 2 1, 3) := by decide +kernel
theorem d_Model_lies_44 : decode M_Model_lies.2.1 44 = .ok (.goto (-31), 3) := by decide +kernel
theorem d_Model_lies_47 : decode M_Model_lies.2.1 47 = .ok (.iconst (-1), 1) := by decide +kernel
theorem d_Model_lies_48 : decode M_Model_lies.2.1 48 = .ok (.ireturn, 1) := by decide +kernel
def l_Model_lies_13 (H : SH) (Y : SX) (x1 : Nat) : Nat → Nat → MO → SX → Nat → Option (Int32 × MO × SX × Nat)
  | 0, _, _, _, _ => none
  | k + 1, i, M, A, ow => (if 100 ≤ (nI i) then some ((-1), M, A, ow) else (if ((sx_sd A) x1) = 0 then some ((nI i), M, A, ow) else ((dayC M H A).bind fun p38_3 => (l_Model_lies_13 H Y x1 k (i + 1) p38_3.1 p38_3.2 1))))
set_option maxRecDepth 100000 in
set_option maxHeartbeats 4000000 in
theorem l_Model_lies_13_go {Γ : G9} {h : AH} {m q r r2 z : Nat} {H : SH} {Y : SX} {x1 : Nat} {p : Int32 × MO × SX × Nat} (bx1 : x1 < 6) (geo : m + 2 ≤ q ∧ m + 2 ≤ r ∧ r + 21 ≤ r2 ∧ (q + 24 ≤ r ∨ r2 + 21 ≤ q)) (hB : sh_ha H 0 ≤ 5) (hS : sh_ha H 3 ≤ 6) (hC : sh_ha H 6 ≤ 4) (hD : sh_ha H 9 ≤ 4) (hE : sh_ha H 11 ≤ 4) (hO : sh_or H ≤ 20) : ∀ (k : Nat) (i : Nat) (M : MO) (A : SX) (ow : Nat), sx_dy A < 1000000 → l_Model_lies_13 H Y x1 k i M A ow = some p → Go Γ M_Model_lies 74 0 0 13 [some (.ref m), some (.int (nI x1)), some (.int (nI i))] [] (mf_ Γ h m q r r2 M H Y A ow) z (RQ (some (.int p.1)) (mf_ Γ h m q r r2 p.2.1 H Y p.2.2.1 p.2.2.2) z) noX := by
  intro k
  induction k with
  | zero =>
    intro i M A ow hda hr
    cases hr
  | succ k ih =>
    intro i M A ow hda hr
    unfold l_Model_lies_13 at hr
    refine Go.iload_2 d_Model_lies_13 rfl ?_
    refine Go.bipush (v := 100) d_Model_lies_14 rfl (by decide) ?_
    refine Go.icmp_ge (t := 47) d_Model_lies_16 (by decide) rfl (fun c16_1 => ?_) (fun c16_1 => ?_)
    · refine Go.iconst (v := (-1)) d_Model_lies_47 rfl (by decide) ?_
      rw [if_pos c16_1] at hr
      cases hr
      exact Go.iret d_Model_lies_48 rfl rfl ⟨rfl, by dsimp only, rfl⟩
    · refine Go.aload_0 d_Model_lies_19 rfl ?_
      refine Go.getfield d_Model_lies_20 rfl f_Model_31 (mf_at_m (by omega) hB hS hC hD hE) (by rfl) ?_
      refine Go.getfield d_Model_lies_23 rfl f_Model_277 (mf_at_r2 (by omega) hB hS hC hD hE) (by rfl) ?_
      refine Go.iload_1 d_Model_lies_26 rfl ?_
      refine Go.iaload d_Model_lies_27 rfl (mf_at_r2_5 (by omega) hB hS hC hD hE) (show vp_in (nI x1) 6 from by first | exact vp_in_nI (by omega) (by omega) | exact vp_nle (by assumption) (by omega) (by omega)) ?_
      rw [nI_clamp (show x1 < 2 ^ 31 by omega)]
      refine Go.if_ne (t := 33) d_Model_lies_28 (by decide) rfl (fun c28_2 => ?_) (fun c28_2 => ?_)
      · refine Go.aload_0 d_Model_lies_33 rfl ?_
        refine Go.aload_0 d_Model_lies_34 rfl ?_
        refine Go.getfield d_Model_lies_35 rfl f_Model_31 (mf_at_m (by omega) hB hS hC hD hE) (by rfl) ?_
        rw [if_neg c16_1, if_neg c28_2] at hr
        obtain ⟨p38_3, hp38_3, hr⟩ := Option.bind_eq_some_iff.mp hr
        try dsimp only at hr
        refine Go.cv1v d_Model_lies_38 rfl l_Model_423 k_Model_dayOn_v (mf_at_m (by omega) hB hS hC hD hE) rfl (mf_dayA (by omega) hB hS hC hD hE hO hda hp38_3) (Nat.ble_eq_true_of_le (by omega)) rfl rfl ?_
        refine Go.iinc_2 d_Model_lies_41 rfl (by rfl) (nI_inc _) ?_
        refine Go.goto (t := 13) d_Model_lies_44 (by decide) ?_
        exact ih _ _ _ _ (by first | exact dayC_dy hp38_3 | exact daysOn_dy hp38_3 (by assumption)) hr
      · refine Go.iload_2 d_Model_lies_31 rfl ?_
        rw [if_neg c16_1, if_pos c28_2] at hr
        cases hr
        exact Go.iret d_Model_lies_32 rfl rfl ⟨rfl, by dsimp only, rfl⟩
theorem d_Model_lies_0 : decode M_Model_lies.2.1 0 = .ok (.aload_n 0, 1) := by decide +kernel
theorem d_Model_lies_1 : decode M_Model_lies.2.1 1 = .ok (.getfield 31, 3) := by decide +kernel
theorem d_Model_lies_4 : decode M_Model_lies.2.1 4 = .ok (.aload_n 0, 1) := by decide +kernel
theorem d_Model_lies_5 : decode M_Model_lies.2.1 5 = .ok (.getfield 27, 3) := by decide +kernel
theorem d_Model_lies_8 : decode M_Model_lies.2.1 8 = .ok (.invokevirtual 475, 3) := by decide +kernel
theorem d_Model_lies_11 : decode M_Model_lies.2.1 11 = .ok (.iconst 0, 1) := by decide +kernel
theorem d_Model_lies_12 : decode M_Model_lies.2.1 12 = .ok (.istore_n 2, 1) := by decide +kernel
def s_Model_lies (M : MO) (H : SH) (Y : SX) (A : SX) (ow : Nat) (x1 : Nat) : Option (Int32 × MO × SX × Nat) := (l_Model_lies_13 H Y x1 101 0 M Y ow)
set_option maxRecDepth 100000 in
set_option maxHeartbeats 4000000 in
theorem c_Model_lies {Γ : G9} {h : AH} {m q r r2 z : Nat} {M : MO} {H : SH} {Y : SX} {A : SX} {ow : Nat} {x1 : Nat} {p : Int32 × MO × SX × Nat} (bx1 : x1 < 6) (geo : m + 2 ≤ q ∧ m + 2 ≤ r ∧ r + 21 ≤ r2 ∧ (q + 24 ≤ r ∨ r2 + 21 ≤ q)) (hB : sh_ha H 0 ≤ 5) (hS : sh_ha H 3 ≤ 6) (hC : sh_ha H 6 ≤ 4) (hD : sh_ha H 9 ≤ 4) (hE : sh_ha H 11 ≤ 4) (hO : sh_or H ≤ 20) (hdy : sx_dy Y < 1000000) (hr : s_Model_lies M H Y A ow x1 = some p) : CallR Γ M_Model_lies 74 [.ref m, .int (nI x1)] (mf_ Γ h m q r r2 M H Y A ow) z (some (.int p.1)) (mf_ Γ h m q r r2 p.2.1 H Y p.2.2.1 p.2.2.2) := by
  refine Call.of_go (L := [some (.ref m), some (.int (nI x1)), none]) (by decide +kernel) rfl (by exact Nat.le_of_ble_eq_true rfl) ?_
  unfold s_Model_lies at hr
  refine Go.aload_0 d_Model_lies_0 rfl ?_
  refine Go.getfield d_Model_lies_1 rfl f_Model_31 (mf_at_m (by omega) hB hS hC hD hE) (by rfl) ?_
  refine Go.aload_0 d_Model_lies_4 rfl ?_
  refine Go.getfield d_Model_lies_5 rfl f_Model_27 (mf_at_m (by omega) hB hS hC hD hE) (by rfl) ?_
  refine Go.cv1v d_Model_lies_8 rfl l_Model_475 k_State_become_v (mf_at_r2 (by omega) hB hS hC hD hE) rfl (mfb (by omega)) (Nat.ble_eq_true_of_le (by omega)) rfl rfl ?_
  refine Go.iconst (v := 0) d_Model_lies_11 rfl (by decide) ?_
  refine Go.istore_2 d_Model_lies_12 rfl (by rfl) ?_
  exact l_Model_lies_13_go bx1 (by omega) hB hS hC hD hE hO _ _ _ _ _ hdy hr
theorem mf_at_r2_18 {Γ : G9} {h : AH} {m q r r2 : Nat} {M : MO} {H : SH} {Y : SX} {A : SX} {ow : Nat} (geo : m + 2 ≤ q ∧ m + 2 ≤ r ∧ r + 21 ≤ r2 ∧ (q + 24 ≤ r ∨ r2 + 21 ≤ q)) (hB : sh_ha H 0 ≤ 5) (hS : sh_ha H 3 ≤ 6) (hC : sh_ha H 6 ≤ 4) (hD : sh_ha H 9 ≤ 4) (hE : sh_ha H 11 ≤ 4) : (mf_ Γ h m q r r2 M H Y A ow) (r2 + 18) = some (aI Γ 4 (sx_ma A)) := by
  unfold mf_
  exact (sx_g18)
theorem d_Model_reads_0 : decode M_Model_reads.2.1 0 = .ok (.aload_n 0, 1) := by decide +kernel
theorem d_Model_reads_1 : decode M_Model_reads.2.1 1 = .ok (.getfield 31, 3) := by decide +kernel
theorem d_Model_reads_4 : decode M_Model_reads.2.1 4 = .ok (.aload_n 0, 1) := by decide +kernel
theorem d_Model_reads_5 : decode M_Model_reads.2.1 5 = .ok (.getfield 27, 3) := by decide +kernel
theorem d_Model_reads_8 : decode M_Model_reads.2.1 8 = .ok (.invokevirtual 475, 3) := by decide +kernel
theorem d_Model_reads_11 : decode M_Model_reads.2.1 11 = .ok (.iload_n 2, 1) := by decide +kernel
theorem d_Model_reads_12 : decode M_Model_reads.2.1 12 = .ok (.ifCond .le 27, 3) := by decide +kernel
theorem d_Model_reads_15 : decode M_Model_reads.2.1 15 = .ok (.aload_n 0, 1) := by decide +kernel
theorem d_Model_reads_16 : decode M_Model_reads.2.1 16 = .ok (.aload_n 0, 1) := by decide +kernel
theorem d_Model_reads_17 : decode M_Model_reads.2.1 17 = .ok (.getfield 31, 3) := by decide +kernel
theorem d_Model_reads_20 : decode M_Model_reads.2.1 20 = .ok (.iload_n 1, 1) := by decide +kernel
theorem d_Model_reads_21 : decode M_Model_reads.2.1 21 = .ok (.iload_n 2, 1) := by decide +kernel
theorem d_Model_reads_22 : decode M_Model_reads.2.1 22 = .ok (.iconst 1, 1) := by decide +kernel
theorem d_Model_reads_23 : decode M_Model_reads.2.1 23 = .ok (.if_icmp .ne 7, 3) := by decide +kernel
theorem d_Model_reads_26 : decode M_Model_reads.2.1 26 = .ok (.iconst 1, 1) := by decide +kernel
theorem d_Model_reads_27 : decode M_Model_reads.2.1 27 = .ok (.goto 4, 3) := by decide +kernel
theorem d_Model_reads_30 : decode M_Model_reads.2.1 30 = .ok (.iconst 0, 1) := by decide +kernel
theorem d_Model_reads_31 : decode M_Model_reads.2.1 31 = .ok (.invokevirtual 375, 3) := by decide +kernel
theorem d_Model_reads_34 : decode M_Model_reads.2.1 34 = .ok (.ifCond .ne 5, 3) := by decide +kernel
theorem d_Model_reads_37 : decode M_Model_reads.2.1 37 = .ok (.iconst (-1), 1) := by decide +kernel
theorem d_Model_reads_38 : decode M_Model_reads.2.1 38 = .ok (.ireturn, 1) := by decide +kernel
theorem d_Model_reads_39 : decode M_Model_reads.2.1 39 = .ok (.aload_n 0, 1) := by decide +kernel
theorem d_Model_reads_40 : decode M_Model_reads.2.1 40 = .ok (.aload_n 0, 1) := by decide +kernel
theorem d_Model_reads_41 : decode M_Model_reads.2.1 41 = .ok (.getfield 31, 3) := by decide +kernel
theorem d_Model_reads_44 : decode M_Model_reads.2.1 44 = .ok (.iload_n 3, 1) := by decide +kernel
theorem d_Model_reads_45 : decode M_Model_reads.2.1 45 = .ok (.invokevirtual 469, 3) := by decide +kernel
theorem d_Model_reads_48 : decode M_Model_reads.2.1 48 = .ok (.aload_n 0, 1) := by decide +kernel
theorem d_Model_reads_49 : decode M_Model_reads.2.1 49 = .ok (.getfield 31, 3) := by decide +kernel
theorem d_Model_reads_52 : decode M_Model_reads.2.1 52 = .ok (.getfield 400, 3) := by decide +kernel
theorem d_Model_reads_55 : decode M_Model_reads.2.1 55 = .ok (.iload_n 1, 1) := by decide +kernel
theorem d_Model_reads_56 : decode M_Model_reads.2.1 56 = .ok (.iaload, 1) := by decide +kernel
theorem d_Model_reads_57 : decode M_Model_reads.2.1 57 = .ok (.ireturn, 1) := by decide +kernel
def s_Model_reads (M : MO) (H : SH) (Y : SX) (A : SX) (ow : Nat) (x1 : Nat) (x2 : Int32) (x3 : Nat) : Option (Int32 × MO × SX × Nat) := (if x2 ≤ 0 then ((l_Model_daysOn H x3 M Y).bind fun p45_2 => some (((sx_ma p45_2.2) x1), p45_2.1, p45_2.2, (if x3 = 0 then ow else 1))) else (if x2 = 1 then (if (s_Model_moved M H Y x1 1).1 = 0 then some ((-1), M, (s_Model_moved M H Y x1 1).2, ow) else ((l_Model_daysOn H x3 M (s_Model_moved M H Y x1 1).2).bind fun p45_7 => some (((sx_ma p45_7.2) x1), p45_7.1, p45_7.2, (if x3 = 0 then ow else 1)))) else (if (s_Model_moved M H Y x1 0).1 = 0 then some ((-1), M, (s_Model_moved M H Y x1 0).2, ow) else ((l_Model_daysOn H x3 M (s_Model_moved M H Y x1 0).2).bind fun p45_5 => some (((sx_ma p45_5.2) x1), p45_5.1, p45_5.2, (if x3 = 0 then ow else 1))))))
set_option maxRecDepth 100000 in
set_option maxHeartbeats 4000000 in
theorem c_Model_reads {Γ : G9} {h : AH} {m q r r2 z : Nat} {M : MO} {H : SH} {Y : SX} {A : SX} {ow : Nat} {x1 : Nat} {x2 : Int32} {x3 : Nat} {p : Int32 × MO × SX × Nat} (bx1 : x1 < 4) (bx3 : x3 ≤ 60) (geo : m + 2 ≤ q ∧ m + 2 ≤ r ∧ r + 21 ≤ r2 ∧ (q + 24 ≤ r ∨ r2 + 21 ≤ q)) (hB : sh_ha H 0 ≤ 5) (hS : sh_ha H 3 ≤ 6) (hC : sh_ha H 6 ≤ 4) (hD : sh_ha H 9 ≤ 4) (hE : sh_ha H 11 ≤ 4) (hO : sh_or H ≤ 20) (hdy : sx_dy Y < 1000000) (hr : s_Model_reads M H Y A ow x1 x2 x3 = some p) : CallR Γ M_Model_reads 75 [.ref m, .int (nI x1), .int x2, .int (nI x3)] (mf_ Γ h m q r r2 M H Y A ow) z (some (.int p.1)) (mf_ Γ h m q r r2 p.2.1 H Y p.2.2.1 p.2.2.2) := by
  refine Call.of_go (L := [some (.ref m), some (.int (nI x1)), some (.int x2), some (.int (nI x3))]) (by decide +kernel) rfl (by exact Nat.le_of_ble_eq_true rfl) ?_
  unfold s_Model_reads at hr
  refine Go.aload_0 d_Model_reads_0 rfl ?_
  refine Go.getfield d_Model_reads_1 rfl f_Model_31 (mf_at_m (by omega) hB hS hC hD hE) (by rfl) ?_
  refine Go.aload_0 d_Model_reads_4 rfl ?_
  refine Go.getfield d_Model_reads_5 rfl f_Model_27 (mf_at_m (by omega) hB hS hC hD hE) (by rfl) ?_
  refine Go.cv1v d_Model_reads_8 rfl l_Model_475 k_State_become_v (mf_at_r2 (by omega) hB hS hC hD hE) rfl (mfb (by omega)) (Nat.ble_eq_true_of_le (by omega)) rfl rfl ?_
  refine Go.iload_2 d_Model_reads_11 rfl ?_
  refine Go.if_le (t := 39) d_Model_reads_12 (by decide) rfl (fun c12_1 => ?_) (fun c12_1 => ?_)
  · refine Go.aload_0 d_Model_reads_39 rfl ?_
    refine Go.aload_0 d_Model_reads_40 rfl ?_
    refine Go.getfield d_Model_reads_41 rfl f_Model_31 (mf_at_m (by omega) hB hS hC hD hE) (by rfl) ?_
    refine Go.iload_3 d_Model_reads_44 rfl ?_
    rw [if_pos c12_1] at hr
    obtain ⟨p45_2, hp45_2, hr⟩ := Option.bind_eq_some_iff.mp hr
    try dsimp only at hr
    refine Go.cv2v d_Model_reads_45 rfl l_Model_469 k_Model_daysOn_v (mf_at_m (by omega) hB hS hC hD hE) rfl (mf_daysA (n := x3) rfl (by omega) hB hS hC hD hE hO hdy (by omega) hp45_2) (Nat.ble_eq_true_of_le (by omega)) rfl rfl ?_
    refine Go.aload_0 d_Model_reads_48 rfl ?_
    refine Go.getfield d_Model_reads_49 rfl f_Model_31 (mf_at_m (by omega) hB hS hC hD hE) (by rfl) ?_
    refine Go.getfield d_Model_reads_52 rfl f_Model_400 (mf_at_r2 (by omega) hB hS hC hD hE) (by rfl) ?_
    refine Go.iload_1 d_Model_reads_55 rfl ?_
    refine Go.iaload d_Model_reads_56 rfl (mf_at_r2_18 (by omega) hB hS hC hD hE) (show vp_in (nI x1) 4 from by first | exact vp_in_nI (by omega) (by omega) | exact vp_nle (by assumption) (by omega) (by omega)) ?_
    rw [nI_clamp (show x1 < 2 ^ 31 by omega)]
    cases hr
    exact Go.iret d_Model_reads_57 rfl rfl ⟨rfl, by dsimp only, rfl⟩
  · refine Go.aload_0 d_Model_reads_15 rfl ?_
    refine Go.aload_0 d_Model_reads_16 rfl ?_
    refine Go.getfield d_Model_reads_17 rfl f_Model_31 (mf_at_m (by omega) hB hS hC hD hE) (by rfl) ?_
    refine Go.iload_1 d_Model_reads_20 rfl ?_
    refine Go.iload_2 d_Model_reads_21 rfl ?_
    refine Go.iconst (v := 1) d_Model_reads_22 rfl (by decide) ?_
    refine Go.icmp_ne (t := 30) d_Model_reads_23 (by decide) rfl (fun c23_3 => ?_) (fun c23_3 => ?_)
    · refine Go.iconst (v := 0) d_Model_reads_30 rfl (by decide) ?_
      refine Go.cv3r d_Model_reads_31 rfl l_Model_375 k_Model_moved_v (mf_at_m (by omega) hB hS hC hD hE) rfl (mf_moved (x2 := x1) rfl (by omega) (by omega) hB hS hC hD hE) (Nat.ble_eq_true_of_le (by omega)) rfl rfl ?_
      refine Go.if_ne (t := 39) d_Model_reads_34 (by decide) rfl (fun c34_4 => ?_) (fun c34_4 => ?_)
      · refine Go.aload_0 d_Model_reads_39 rfl ?_
        refine Go.aload_0 d_Model_reads_40 rfl ?_
        refine Go.getfield d_Model_reads_41 rfl f_Model_31 (mf_at_m (by omega) hB hS hC hD hE) (by rfl) ?_
        refine Go.iload_3 d_Model_reads_44 rfl ?_
        rw [if_neg c12_1, if_neg c23_3, if_neg c34_4] at hr
        obtain ⟨p45_5, hp45_5, hr⟩ := Option.bind_eq_some_iff.mp hr
        try dsimp only at hr
        refine Go.cv2v d_Model_reads_45 rfl l_Model_469 k_Model_daysOn_v (mf_at_m (by omega) hB hS hC hD hE) rfl (mf_daysA (n := x3) rfl (by omega) hB hS hC hD hE hO (by simp only [sx_dy, sx_dy_Model_fall, sx_dy_l_Model_move_42, sx_dy_Model_move, sx_dy_Model_look, sx_dy_Model_filled, sx_dy_Model_drilled, sx_dy_Model_moved, sx_dy_Model_probed, sx_dy_l_Model_melt_1_st, sx_dy_l_Model_melt_1_br, sx_dy_Model_melt_1, sx_dy_l_Model_snow_st, sx_dy_l_Model_snow_br, sx_dy_Model_snow, sx_dy_l_Model_eat_1_45, sx_dy_Model_eat_1, sx_dy_l_Model_readAll_2, sx_dy_Model_readAll, sx_dy_l_Model_dayRest_49, sx_dy_l_Model_dayRest_110, sx_dy_l_Model_dayRest_148, sx_dy_l_Model_dayRest_196, sx_dy_l_Model_dayRest_216]; exact hdy) (by omega) hp45_5) (Nat.ble_eq_true_of_le (by omega)) rfl rfl ?_
        refine Go.aload_0 d_Model_reads_48 rfl ?_
        refine Go.getfield d_Model_reads_49 rfl f_Model_31 (mf_at_m (by omega) hB hS hC hD hE) (by rfl) ?_
        refine Go.getfield d_Model_reads_52 rfl f_Model_400 (mf_at_r2 (by omega) hB hS hC hD hE) (by rfl) ?_
        refine Go.iload_1 d_Model_reads_55 rfl ?_
        refine Go.iaload d_Model_reads_56 rfl (mf_at_r2_18 (by omega) hB hS hC hD hE) (show vp_in (nI x1) 4 from by first | exact vp_in_nI (by omega) (by omega) | exact vp_nle (by assumption) (by omega) (by omega)) ?_
        rw [nI_clamp (show x1 < 2 ^ 31 by omega)]
        cases hr
        exact Go.iret d_Model_reads_57 rfl rfl ⟨rfl, by dsimp only, rfl⟩
      · refine Go.iconst (v := (-1)) d_Model_reads_37 rfl (by decide) ?_
        rw [if_neg c12_1, if_neg c23_3, if_pos c34_4] at hr
        cases hr
        exact Go.iret d_Model_reads_38 rfl rfl ⟨rfl, by dsimp only, rfl⟩
    · refine Go.iconst (v := 1) d_Model_reads_26 rfl (by decide) ?_
      refine Go.goto (t := 31) d_Model_reads_27 (by decide) ?_
      refine Go.cv3r d_Model_reads_31 rfl l_Model_375 k_Model_moved_v (mf_at_m (by omega) hB hS hC hD hE) rfl (mf_moved (x2 := x1) rfl (by omega) (by omega) hB hS hC hD hE) (Nat.ble_eq_true_of_le (by omega)) rfl rfl ?_
      refine Go.if_ne (t := 39) d_Model_reads_34 (by decide) rfl (fun c34_6 => ?_) (fun c34_6 => ?_)
      · refine Go.aload_0 d_Model_reads_39 rfl ?_
        refine Go.aload_0 d_Model_reads_40 rfl ?_
        refine Go.getfield d_Model_reads_41 rfl f_Model_31 (mf_at_m (by omega) hB hS hC hD hE) (by rfl) ?_
        refine Go.iload_3 d_Model_reads_44 rfl ?_
        rw [if_neg c12_1, if_pos c23_3, if_neg c34_6] at hr
        obtain ⟨p45_7, hp45_7, hr⟩ := Option.bind_eq_some_iff.mp hr
        try dsimp only at hr
        refine Go.cv2v d_Model_reads_45 rfl l_Model_469 k_Model_daysOn_v (mf_at_m (by omega) hB hS hC hD hE) rfl (mf_daysA (n := x3) rfl (by omega) hB hS hC hD hE hO (by simp only [sx_dy, sx_dy_Model_fall, sx_dy_l_Model_move_42, sx_dy_Model_move, sx_dy_Model_look, sx_dy_Model_filled, sx_dy_Model_drilled, sx_dy_Model_moved, sx_dy_Model_probed, sx_dy_l_Model_melt_1_st, sx_dy_l_Model_melt_1_br, sx_dy_Model_melt_1, sx_dy_l_Model_snow_st, sx_dy_l_Model_snow_br, sx_dy_Model_snow, sx_dy_l_Model_eat_1_45, sx_dy_Model_eat_1, sx_dy_l_Model_readAll_2, sx_dy_Model_readAll, sx_dy_l_Model_dayRest_49, sx_dy_l_Model_dayRest_110, sx_dy_l_Model_dayRest_148, sx_dy_l_Model_dayRest_196, sx_dy_l_Model_dayRest_216]; exact hdy) (by omega) hp45_7) (Nat.ble_eq_true_of_le (by omega)) rfl rfl ?_
        refine Go.aload_0 d_Model_reads_48 rfl ?_
        refine Go.getfield d_Model_reads_49 rfl f_Model_31 (mf_at_m (by omega) hB hS hC hD hE) (by rfl) ?_
        refine Go.getfield d_Model_reads_52 rfl f_Model_400 (mf_at_r2 (by omega) hB hS hC hD hE) (by rfl) ?_
        refine Go.iload_1 d_Model_reads_55 rfl ?_
        refine Go.iaload d_Model_reads_56 rfl (mf_at_r2_18 (by omega) hB hS hC hD hE) (show vp_in (nI x1) 4 from by first | exact vp_in_nI (by omega) (by omega) | exact vp_nle (by assumption) (by omega) (by omega)) ?_
        rw [nI_clamp (show x1 < 2 ^ 31 by omega)]
        cases hr
        exact Go.iret d_Model_reads_57 rfl rfl ⟨rfl, by dsimp only, rfl⟩
      · refine Go.iconst (v := (-1)) d_Model_reads_37 rfl (by decide) ?_
        rw [if_neg c12_1, if_pos c23_3, if_pos c34_6] at hr
        cases hr
        exact Go.iret d_Model_reads_38 rfl rfl ⟨rfl, by dsimp only, rfl⟩
theorem mf_c_Model_is_m {Γ : G9} {h : AH} {m q r r2 z : Nat} {M : MO} {H : SH} {Y : SX} {A : SX} {ow : Nat} {x1 : Nat} {vx1 : Int32} {x2 : Int32} (ex1 : vx1 = nI x1) (bx1 : x1 < 12) (geo : m + 2 ≤ q ∧ m + 2 ≤ r ∧ r + 21 ≤ r2 ∧ (q + 24 ≤ r ∨ r2 + 21 ≤ q)) (hB : sh_ha H 0 ≤ 5) (hS : sh_ha H 3 ≤ 6) (hC : sh_ha H 6 ≤ 4) (hD : sh_ha H 9 ≤ 4) (hE : sh_ha H 11 ≤ 4) : CallR Γ M_Model_is 1 [.ref m, .int vx1, .int x2] (mf_ Γ h m q r r2 M H Y A ow) z (some (.int (s_Model_is M H Y x1 x2))) (mf_ Γ h m q r r2 M H Y A ow) := by
  subst ex1
  unfold mf_
  exact CallR.conv (((blk_comm (by omega)).trans (blk_in (blk_comm (by omega)))).trans (blk_in (blk_in (blk_comm (by omega))))) (((blk_in (blk_in (blk_comm (by omega)))).trans (blk_in (blk_comm (by omega)))).trans (blk_comm (by omega))) (c_Model_is (x1 := x1) rfl (by omega) (by omega) hB hS hC hD hE)
set_option maxRecDepth 100000 in
set_option maxHeartbeats 4000000 in
theorem cv_Model_lies {Γ : G9} {h : AH} {m q r r2 z : Nat} {M : MO} {H : SH} {Y : SX} {A : SX} {ow : Nat} {x1 : Nat} {vx1 : Int32} {p : Int32 × MO × SX × Nat} (ex1 : vx1 = nI x1) (bx1 : x1 < 6) (geo : m + 2 ≤ q ∧ m + 2 ≤ r ∧ r + 21 ≤ r2 ∧ (q + 24 ≤ r ∨ r2 + 21 ≤ q)) (hB : sh_ha H 0 ≤ 5) (hS : sh_ha H 3 ≤ 6) (hC : sh_ha H 6 ≤ 4) (hD : sh_ha H 9 ≤ 4) (hE : sh_ha H 11 ≤ 4) (hO : sh_or H ≤ 20) (hdy : sx_dy Y < 1000000) (hr : s_Model_lies M H Y A ow x1 = some p) : CallR Γ M_Model_lies 74 [.ref m, .int vx1] (mf_ Γ h m q r r2 M H Y A ow) z (some (.int p.1)) (mf_ Γ h m q r r2 p.2.1 H Y p.2.2.1 p.2.2.2) := by
  subst ex1
  exact c_Model_lies bx1 geo hB hS hC hD hE hO hdy hr
theorem d_Model_until_0 : decode M_Model_until.2.1 0 = .ok (.aload_n 0, 1) := by decide +kernel
theorem d_Model_until_1 : decode M_Model_until.2.1 1 = .ok (.iconst 0, 1) := by decide +kernel
theorem d_Model_until_2 : decode M_Model_until.2.1 2 = .ok (.putfield 37, 3) := by decide +kernel
theorem d_Model_until_5 : decode M_Model_until.2.1 5 = .ok (.aload_n 0, 1) := by decide +kernel
theorem d_Model_until_6 : decode M_Model_until.2.1 6 = .ok (.iconst 3, 1) := by decide +kernel
theorem d_Model_until_7 : decode M_Model_until.2.1 7 = .ok (.iload_n 1, 1) := by decide +kernel
theorem d_Model_until_8 : decode M_Model_until.2.1 8 = .ok (.invokevirtual 450, 3) := by decide +kernel
theorem d_Model_until_11 : decode M_Model_until.2.1 11 = .ok (.ifCond .eq 11, 3) := by decide +kernel
theorem d_Model_until_14 : decode M_Model_until.2.1 14 = .ok (.aload_n 0, 1) := by decide +kernel
theorem d_Model_until_15 : decode M_Model_until.2.1 15 = .ok (.iload_n 1, 1) := by decide +kernel
theorem d_Model_until_16 : decode M_Model_until.2.1 16 = .ok (.invokevirtual 478, 3) := by decide +kernel
theorem d_Model_until_19 : decode M_Model_until.2.1 19 = .ok (.goto 8, 3) := by decide +kernel
theorem d_Model_until_22 : decode M_Model_until.2.1 22 = .ok (.aload_n 0, 1) := by decide +kernel
theorem d_Model_until_23 : decode M_Model_until.2.1 23 = .ok (.iconst 1, 1) := by decide +kernel
theorem d_Model_until_24 : decode M_Model_until.2.1 24 = .ok (.invokevirtual 427, 3) := by decide +kernel
theorem d_Model_until_27 : decode M_Model_until.2.1 27 = .ok (.ireturn, 1) := by decide +kernel
def s_Model_until (M : MO) (H : SH) (Y : SX) (A : SX) (ow : Nat) (x1 : Int32) : Option (Int32 × MO × SX × Nat) := (if (s_Model_is (mo_th' M 0) H Y 3 x1) = 0 then some ((s_Model_no (mo_th' M 0) H Y 1).1, (s_Model_no (mo_th' M 0) H Y 1).2, A, ow) else ((s_Model_lies (mo_th' M 0) H Y A ow x1.toNatClampNeg).bind fun p16_2 => some (p16_2.1, p16_2.2.1, p16_2.2.2.1, p16_2.2.2.2)))
set_option maxRecDepth 100000 in
set_option maxHeartbeats 4000000 in
theorem c_Model_until {Γ : G9} {h : AH} {m q r r2 z : Nat} {M : MO} {H : SH} {Y : SX} {A : SX} {ow : Nat} {x1 : Int32} {p : Int32 × MO × SX × Nat} (geo : m + 2 ≤ q ∧ m + 2 ≤ r ∧ r + 21 ≤ r2 ∧ (q + 24 ≤ r ∨ r2 + 21 ≤ q)) (hB : sh_ha H 0 ≤ 5) (hS : sh_ha H 3 ≤ 6) (hC : sh_ha H 6 ≤ 4) (hD : sh_ha H 9 ≤ 4) (hE : sh_ha H 11 ≤ 4) (hO : sh_or H ≤ 20) (hdy : sx_dy Y < 1000000) (hr : s_Model_until M H Y A ow x1 = some p) : CallR Γ M_Model_until 75 [.ref m, .int x1] (mf_ Γ h m q r r2 M H Y A ow) z (some (.int p.1)) (mf_ Γ h m q r r2 p.2.1 H Y p.2.2.1 p.2.2.2) := by
  refine Call.of_go (L := [some (.ref m), some (.int x1)]) (by decide +kernel) rfl (by exact Nat.le_of_ble_eq_true rfl) ?_
  unfold s_Model_until at hr
  refine Go.aload_0 d_Model_until_0 rfl ?_
  refine Go.iconst (v := 0) d_Model_until_1 rfl (by decide) ?_
  refine Go.putfield d_Model_until_2 rfl f_Model_37_p (Or.inl (fun C T N h => by cases h; rfl)) (mf_at_m (by omega) hB hS hC hD hE) (by exact Nat.le_of_ble_eq_true rfl) rfl rfl ?_
  refine Go.heq (mf_put_m_thrown (by omega) hB hS hC hD hE) ?_
  refine Go.aload_0 d_Model_until_5 rfl ?_
  refine Go.iconst (v := 3) d_Model_until_6 rfl (by decide) ?_
  refine Go.iload_1 d_Model_until_7 rfl ?_
  refine Go.cv2r d_Model_until_8 rfl l_Model_450 k_Model_is_v (mf_at_m (by omega) hB hS hC hD hE) rfl (mf_c_Model_is_m (x1 := 3) rfl (by omega) (by omega) hB hS hC hD hE) (Nat.ble_eq_true_of_le (by omega)) rfl rfl ?_
  refine Go.if_eq (t := 22) d_Model_until_11 (by decide) rfl (fun c11_1 => ?_) (fun c11_1 => ?_)
  · refine Go.aload_0 d_Model_until_22 rfl ?_
    refine Go.iconst (v := 1) d_Model_until_23 rfl (by decide) ?_
    refine Go.cv1r d_Model_until_24 rfl l_Model_427 k_Model_no_v (mf_at_m (by omega) hB hS hC hD hE) rfl (mf_c_Model_no_m (by omega) hB hS hC hD hE) (Nat.ble_eq_true_of_le (by omega)) rfl rfl ?_
    rw [if_pos c11_1] at hr
    cases hr
    exact Go.iret d_Model_until_27 rfl rfl ⟨rfl, by dsimp only, rfl⟩
  · refine Go.aload_0 d_Model_until_14 rfl ?_
    refine Go.iload_1 d_Model_until_15 rfl ?_
    rw [if_neg c11_1] at hr
    obtain ⟨p16_2, hp16_2, hr⟩ := Option.bind_eq_some_iff.mp hr
    try dsimp only at hr
    refine Go.cv1r d_Model_until_16 rfl l_Model_478 k_Model_lies_v (mf_at_m (by omega) hB hS hC hD hE) rfl (cv_Model_lies (nI_back (is_ok c11_1).1) (by have := (is_lt c11_1 hS (by decide)); omega) (by omega) hB hS hC hD hE hO hdy hp16_2) (Nat.ble_eq_true_of_le (by omega)) rfl rfl ?_
    refine Go.goto (t := 27) d_Model_until_19 (by decide) ?_
    cases hr
    exact Go.iret d_Model_until_27 rfl rfl ⟨rfl, by dsimp only, rfl⟩
set_option maxRecDepth 100000 in
set_option maxHeartbeats 4000000 in
theorem cv_Model_reads {Γ : G9} {h : AH} {m q r r2 z : Nat} {M : MO} {H : SH} {Y : SX} {A : SX} {ow : Nat} {x1 : Nat} {x2 : Int32} {x3 : Nat} {vx1 : Int32} {vx3 : Int32} {p : Int32 × MO × SX × Nat} (ex1 : vx1 = nI x1) (ex3 : vx3 = nI x3) (bx1 : x1 < 4) (bx3 : x3 ≤ 60) (geo : m + 2 ≤ q ∧ m + 2 ≤ r ∧ r + 21 ≤ r2 ∧ (q + 24 ≤ r ∨ r2 + 21 ≤ q)) (hB : sh_ha H 0 ≤ 5) (hS : sh_ha H 3 ≤ 6) (hC : sh_ha H 6 ≤ 4) (hD : sh_ha H 9 ≤ 4) (hE : sh_ha H 11 ≤ 4) (hO : sh_or H ≤ 20) (hdy : sx_dy Y < 1000000) (hr : s_Model_reads M H Y A ow x1 x2 x3 = some p) : CallR Γ M_Model_reads 75 [.ref m, .int vx1, .int x2, .int vx3] (mf_ Γ h m q r r2 M H Y A ow) z (some (.int p.1)) (mf_ Γ h m q r r2 p.2.1 H Y p.2.2.1 p.2.2.2) := by
  subst ex1
  subst ex3
  exact c_Model_reads bx1 bx3 geo hB hS hC hD hE hO hdy hr
theorem d_Model_advise_69 : decode M_Model_advise.2.1 69 = .ok (.iload 5, 2) := by decide +kernel
theorem d_Model_advise_71 : decode M_Model_advise.2.1 71 = .ok (.iconst 3, 1) := by decide +kernel
theorem d_Model_advise_72 : decode M_Model_advise.2.1 72 = .ok (.if_icmp .ge 36, 3) := by decide +kernel
theorem d_Model_advise_75 : decode M_Model_advise.2.1 75 = .ok (.aload_n 0, 1) := by decide +kernel
theorem d_Model_advise_76 : decode M_Model_advise.2.1 76 = .ok (.iload_n 1, 1) := by decide +kernel
theorem d_Model_advise_77 : decode M_Model_advise.2.1 77 = .ok (.iload 5, 2) := by decide +kernel
theorem d_Model_advise_79 : decode M_Model_advise.2.1 79 = .ok (.iload_n 2, 1) := by decide +kernel
theorem d_Model_advise_80 : decode M_Model_advise.2.1 80 = .ok (.invokevirtual 481, 3) := by decide +kernel
theorem d_Model_advise_83 : decode M_Model_advise.2.1 83 = .ok (.istore 6, 2) := by decide +kernel
theorem d_Model_advise_85 : decode M_Model_advise.2.1 85 = .ok (.iload 6, 2) := by decide +kernel
theorem d_Model_advise_87 : decode M_Model_advise.2.1 87 = .ok (.iload 4, 2) := by decide +kernel
theorem d_Model_advise_89 : decode M_Model_advise.2.1 89 = .ok (.if_icmp .gt 6, 3) := by decide +kernel
theorem d_Model_advise_92 : decode M_Model_advise.2.1 92 = .ok (.goto 10, 3) := by decide +kernel
theorem d_Model_advise_95 : decode M_Model_advise.2.1 95 = .ok (.iload 5, 2) := by decide +kernel
theorem d_Model_advise_97 : decode M_Model_advise.2.1 97 = .ok (.istore_n 3, 1) := by decide +kernel
theorem d_Model_advise_98 : decode M_Model_advise.2.1 98 = .ok (.iload 6, 2) := by decide +kernel
theorem d_Model_advise_100 : decode M_Model_advise.2.1 100 = .ok (.istore 4, 2) := by decide +kernel
theorem d_Model_advise_102 : decode M_Model_advise.2.1 102 = .ok (.iinc 5 1, 3) := by decide +kernel
theorem d_Model_advise_105 : decode M_Model_advise.2.1 105 = .ok (.goto (-36), 3) := by decide +kernel
theorem d_Model_advise_108 : decode M_Model_advise.2.1 108 = .ok (.iload_n 3, 1) := by decide +kernel
theorem d_Model_advise_109 : decode M_Model_advise.2.1 109 = .ok (.ireturn, 1) := by decide +kernel
def l_Model_advise_69 (H : SH) (Y : SX) (x1 : Int32) (x2 : Int32) : Nat → Int32 → Int32 → Nat → MO → SX → Nat → Option (Int32 × MO × SX × Nat)
  | 0, _, _, _, _, _, _ => none
  | k + 1, bst, mst, how, M, A, ow => (if 3 ≤ (nI how) then some (bst, M, A, ow) else (if okI x1 4 = true then (if okI x2 41 = true then ((s_Model_reads M H Y A ow x1.toNatClampNeg (nI how) x2.toNatClampNeg).bind fun p80_4 => (if mst < p80_4.1 then (l_Model_advise_69 H Y x1 x2 k (nI how) p80_4.1 (how + 1) p80_4.2.1 p80_4.2.2.1 p80_4.2.2.2) else (l_Model_advise_69 H Y x1 x2 k bst mst (how + 1) p80_4.2.1 p80_4.2.2.1 p80_4.2.2.2))) else none) else none))
set_option maxRecDepth 100000 in
set_option maxHeartbeats 4000000 in
theorem l_Model_advise_69_go {Γ : G9} {h : AH} {m q r r2 z : Nat} {H : SH} {Y : SX} {x1 : Int32} {x2 : Int32} {p : Int32 × MO × SX × Nat} (geo : m + 2 ≤ q ∧ m + 2 ≤ r ∧ r + 21 ≤ r2 ∧ (q + 24 ≤ r ∨ r2 + 21 ≤ q)) (hB : sh_ha H 0 ≤ 5) (hS : sh_ha H 3 ≤ 6) (hC : sh_ha H 6 ≤ 4) (hD : sh_ha H 9 ≤ 4) (hE : sh_ha H 11 ≤ 4) (hO : sh_or H ≤ 20) (hdy : sx_dy Y < 1000000) : ∀ (k : Nat) (bst : Int32) (mst : Int32) (how : Nat) (M : MO) (A : SX) (ow : Nat), l_Model_advise_69 H Y x1 x2 k bst mst how M A ow = some p → Go Γ M_Model_advise 76 0 0 69 [some (.ref m), some (.int x1), some (.int x2), some (.int bst), some (.int mst), some (.int (nI how)), none] [] (mf_ Γ h m q r r2 M H Y A ow) z (RQ (some (.int p.1)) (mf_ Γ h m q r r2 p.2.1 H Y p.2.2.1 p.2.2.2) z) noX := by
  intro k
  induction k with
  | zero =>
    intro bst mst how M A ow hr
    cases hr
  | succ k ih =>
    intro bst mst how M A ow hr
    unfold l_Model_advise_69 at hr
    refine Go.iload_5 d_Model_advise_69 rfl ?_
    refine Go.iconst (v := 3) d_Model_advise_71 rfl (by decide) ?_
    refine Go.icmp_ge (t := 108) d_Model_advise_72 (by decide) rfl (fun c72_1 => ?_) (fun c72_1 => ?_)
    · refine Go.iload_3 d_Model_advise_108 rfl ?_
      rw [if_pos c72_1] at hr
      cases hr
      exact Go.iret d_Model_advise_109 rfl rfl ⟨rfl, by dsimp only, rfl⟩
    · refine Go.aload_0 d_Model_advise_75 rfl ?_
      refine Go.iload_1 d_Model_advise_76 rfl ?_
      refine Go.iload_5 d_Model_advise_77 rfl ?_
      refine Go.iload_2 d_Model_advise_79 rfl ?_
      have o80_2 : okI x1 4 = true := Classical.byContradiction fun w => by
        rw [if_neg c72_1, if_neg w] at hr
        cases hr
      have o80_2l := okI_lt o80_2
      have o80_3 : okI x2 41 = true := Classical.byContradiction fun w => by
        rw [if_neg c72_1, if_pos o80_2, if_neg w] at hr
        cases hr
      have o80_3l := okI_lt o80_3
      rw [if_neg c72_1, if_pos o80_2, if_pos o80_3] at hr
      obtain ⟨p80_4, hp80_4, hr⟩ := Option.bind_eq_some_iff.mp hr
      try dsimp only at hr
      refine Go.cv3r d_Model_advise_80 rfl l_Model_481 k_Model_reads_v (mf_at_m (by omega) hB hS hC hD hE) rfl (cv_Model_reads (nI_back (okI_pos o80_2)) (nI_back (okI_pos o80_3)) (by have := (okI_lt o80_2); omega) (by have := (okI_lt o80_3); omega) (by omega) hB hS hC hD hE hO hdy hp80_4) (Nat.ble_eq_true_of_le (by omega)) rfl rfl ?_
      refine Go.istore_6 d_Model_advise_83 rfl (by rfl) ?_
      refine Go.iload_6 d_Model_advise_85 rfl ?_
      refine Go.iload_4 d_Model_advise_87 rfl ?_
      refine Go.icmp_gt (t := 95) d_Model_advise_89 (by decide) rfl (fun c89_5 => ?_) (fun c89_5 => ?_)
      · refine Go.iload_5 d_Model_advise_95 rfl ?_
        refine Go.istore_3 d_Model_advise_97 rfl (by rfl) ?_
        refine Go.iload_6 d_Model_advise_98 rfl ?_
        refine Go.istore_4 d_Model_advise_100 rfl (by rfl) ?_
        refine Go.iinc_5 d_Model_advise_102 rfl (by rfl) (nI_inc _) ?_
        refine Go.goto (t := 69) d_Model_advise_105 (by decide) ?_
        rw [if_pos c89_5] at hr
        refine Go.fgt [some (.ref m), some (.int x1), some (.int x2), some (.int (nI how)), some (.int p80_4.1), some (.int (nI (how + 1))), none] (by repeat' (first | exact trivial | refine ⟨rfl, ?_⟩)) ?_
        exact ih _ _ _ _ _ _ hr
      · refine Go.goto (t := 102) d_Model_advise_92 (by decide) ?_
        refine Go.iinc_5 d_Model_advise_102 rfl (by rfl) (nI_inc _) ?_
        refine Go.goto (t := 69) d_Model_advise_105 (by decide) ?_
        rw [if_neg c89_5] at hr
        refine Go.fgt [some (.ref m), some (.int x1), some (.int x2), some (.int bst), some (.int mst), some (.int (nI (how + 1))), none] (by repeat' (first | exact trivial | refine ⟨rfl, ?_⟩)) ?_
        exact ih _ _ _ _ _ _ hr
theorem mf_at_r_17 {Γ : G9} {h : AH} {m q r r2 : Nat} {M : MO} {H : SH} {Y : SX} {A : SX} {ow : Nat} (geo : m + 2 ≤ q ∧ m + 2 ≤ r ∧ r + 21 ≤ r2 ∧ (q + 24 ≤ r ∨ r2 + 21 ≤ q)) (hB : sh_ha H 0 ≤ 5) (hS : sh_ha H 3 ≤ 6) (hC : sh_ha H 6 ≤ 4) (hD : sh_ha H 9 ≤ 4) (hE : sh_ha H 11 ≤ 4) : (mf_ Γ h m q r r2 M H Y A ow) (r + 17) = some (aI Γ 4 (sx_he Y)) := by
  unfold mf_
  exact ((blk_out (by omega)).trans (sx_g17))
theorem d_Model_advise_0 : decode M_Model_advise.2.1 0 = .ok (.aload_n 0, 1) := by decide +kernel
theorem d_Model_advise_1 : decode M_Model_advise.2.1 1 = .ok (.iconst 0, 1) := by decide +kernel
theorem d_Model_advise_2 : decode M_Model_advise.2.1 2 = .ok (.putfield 37, 3) := by decide +kernel
theorem d_Model_advise_5 : decode M_Model_advise.2.1 5 = .ok (.aload_n 0, 1) := by decide +kernel
theorem d_Model_advise_6 : decode M_Model_advise.2.1 6 = .ok (.bipush 11, 2) := by decide +kernel
theorem d_Model_advise_8 : decode M_Model_advise.2.1 8 = .ok (.iload_n 1, 1) := by decide +kernel
theorem d_Model_advise_9 : decode M_Model_advise.2.1 9 = .ok (.invokevirtual 450, 3) := by decide +kernel
theorem d_Model_advise_12 : decode M_Model_advise.2.1 12 = .ok (.ifCond .ne 9, 3) := by decide +kernel
theorem d_Model_advise_15 : decode M_Model_advise.2.1 15 = .ok (.aload_n 0, 1) := by decide +kernel
theorem d_Model_advise_16 : decode M_Model_advise.2.1 16 = .ok (.iconst 1, 1) := by decide +kernel
theorem d_Model_advise_17 : decode M_Model_advise.2.1 17 = .ok (.invokevirtual 427, 3) := by decide +kernel
theorem d_Model_advise_20 : decode M_Model_advise.2.1 20 = .ok (.ireturn, 1) := by decide +kernel
theorem d_Model_advise_21 : decode M_Model_advise.2.1 21 = .ok (.iload_n 2, 1) := by decide +kernel
theorem d_Model_advise_22 : decode M_Model_advise.2.1 22 = .ok (.iconst 1, 1) := by decide +kernel
theorem d_Model_advise_23 : decode M_Model_advise.2.1 23 = .ok (.bipush 40, 2) := by decide +kernel
theorem d_Model_advise_25 : decode M_Model_advise.2.1 25 = .ok (.invokestatic 43, 3) := by decide +kernel
theorem d_Model_advise_28 : decode M_Model_advise.2.1 28 = .ok (.ifCond .ne 9, 3) := by decide +kernel
theorem d_Model_advise_31 : decode M_Model_advise.2.1 31 = .ok (.aload_n 0, 1) := by decide +kernel
theorem d_Model_advise_32 : decode M_Model_advise.2.1 32 = .ok (.iconst 2, 1) := by decide +kernel
theorem d_Model_advise_33 : decode M_Model_advise.2.1 33 = .ok (.invokevirtual 427, 3) := by decide +kernel
theorem d_Model_advise_36 : decode M_Model_advise.2.1 36 = .ok (.ireturn, 1) := by decide +kernel
theorem d_Model_advise_37 : decode M_Model_advise.2.1 37 = .ok (.aload_n 0, 1) := by decide +kernel
theorem d_Model_advise_38 : decode M_Model_advise.2.1 38 = .ok (.getfield 27, 3) := by decide +kernel
theorem d_Model_advise_41 : decode M_Model_advise.2.1 41 = .ok (.getfield 283, 3) := by decide +kernel
theorem d_Model_advise_44 : decode M_Model_advise.2.1 44 = .ok (.iload_n 1, 1) := by decide +kernel
theorem d_Model_advise_45 : decode M_Model_advise.2.1 45 = .ok (.iaload, 1) := by decide +kernel
theorem d_Model_advise_46 : decode M_Model_advise.2.1 46 = .ok (.ifCond .ne 9, 3) := by decide +kernel
theorem d_Model_advise_49 : decode M_Model_advise.2.1 49 = .ok (.aload_n 0, 1) := by decide +kernel
theorem d_Model_advise_50 : decode M_Model_advise.2.1 50 = .ok (.iconst 3, 1) := by decide +kernel
theorem d_Model_advise_51 : decode M_Model_advise.2.1 51 = .ok (.invokevirtual 427, 3) := by decide +kernel
theorem d_Model_advise_54 : decode M_Model_advise.2.1 54 = .ok (.ireturn, 1) := by decide +kernel
theorem d_Model_advise_55 : decode M_Model_advise.2.1 55 = .ok (.iconst 0, 1) := by decide +kernel
theorem d_Model_advise_56 : decode M_Model_advise.2.1 56 = .ok (.istore_n 3, 1) := by decide +kernel
theorem d_Model_advise_57 : decode M_Model_advise.2.1 57 = .ok (.aload_n 0, 1) := by decide +kernel
theorem d_Model_advise_58 : decode M_Model_advise.2.1 58 = .ok (.iload_n 1, 1) := by decide +kernel
theorem d_Model_advise_59 : decode M_Model_advise.2.1 59 = .ok (.iconst 0, 1) := by decide +kernel
theorem d_Model_advise_60 : decode M_Model_advise.2.1 60 = .ok (.iload_n 2, 1) := by decide +kernel
theorem d_Model_advise_61 : decode M_Model_advise.2.1 61 = .ok (.invokevirtual 481, 3) := by decide +kernel
theorem d_Model_advise_64 : decode M_Model_advise.2.1 64 = .ok (.istore 4, 2) := by decide +kernel
theorem d_Model_advise_66 : decode M_Model_advise.2.1 66 = .ok (.iconst 1, 1) := by decide +kernel
theorem d_Model_advise_67 : decode M_Model_advise.2.1 67 = .ok (.istore 5, 2) := by decide +kernel
def s_Model_advise (M : MO) (H : SH) (Y : SX) (A : SX) (ow : Nat) (x1 : Int32) (x2 : Int32) : Option (Int32 × MO × SX × Nat) := (if (s_Model_is (mo_th' M 0) H Y 11 x1) = 0 then some ((s_Model_no (mo_th' M 0) H Y 1).1, (s_Model_no (mo_th' M 0) H Y 1).2, A, ow) else (if (s_Model_isIn x2 1 40) = 0 then some ((s_Model_no (mo_th' M 0) H Y 2).1, (s_Model_no (mo_th' M 0) H Y 2).2, A, ow) else (if okI x1 4 = true then (if ((sx_he Y) x1.toNatClampNeg) = 0 then some ((s_Model_no (mo_th' M 0) H Y 3).1, (s_Model_no (mo_th' M 0) H Y 3).2, A, ow) else ((s_Model_reads (mo_th' M 0) H Y A ow x1.toNatClampNeg 0 x2.toNatClampNeg).bind fun p61_5 => (l_Model_advise_69 H Y x1 x2 4 0 p61_5.1 1 p61_5.2.1 p61_5.2.2.1 p61_5.2.2.2))) else none)))
set_option maxRecDepth 100000 in
set_option maxHeartbeats 4000000 in
theorem c_Model_advise {Γ : G9} {h : AH} {m q r r2 z : Nat} {M : MO} {H : SH} {Y : SX} {A : SX} {ow : Nat} {x1 : Int32} {x2 : Int32} {p : Int32 × MO × SX × Nat} (geo : m + 2 ≤ q ∧ m + 2 ≤ r ∧ r + 21 ≤ r2 ∧ (q + 24 ≤ r ∨ r2 + 21 ≤ q)) (hB : sh_ha H 0 ≤ 5) (hS : sh_ha H 3 ≤ 6) (hC : sh_ha H 6 ≤ 4) (hD : sh_ha H 9 ≤ 4) (hE : sh_ha H 11 ≤ 4) (hO : sh_or H ≤ 20) (hdy : sx_dy Y < 1000000) (hr : s_Model_advise M H Y A ow x1 x2 = some p) : CallR Γ M_Model_advise 76 [.ref m, .int x1, .int x2] (mf_ Γ h m q r r2 M H Y A ow) z (some (.int p.1)) (mf_ Γ h m q r r2 p.2.1 H Y p.2.2.1 p.2.2.2) := by
  refine Call.of_go (L := [some (.ref m), some (.int x1), some (.int x2), none, none, none, none]) (by decide +kernel) rfl (by exact Nat.le_of_ble_eq_true rfl) ?_
  unfold s_Model_advise at hr
  refine Go.aload_0 d_Model_advise_0 rfl ?_
  refine Go.iconst (v := 0) d_Model_advise_1 rfl (by decide) ?_
  refine Go.putfield d_Model_advise_2 rfl f_Model_37_p (Or.inl (fun C T N h => by cases h; rfl)) (mf_at_m (by omega) hB hS hC hD hE) (by exact Nat.le_of_ble_eq_true rfl) rfl rfl ?_
  refine Go.heq (mf_put_m_thrown (by omega) hB hS hC hD hE) ?_
  refine Go.aload_0 d_Model_advise_5 rfl ?_
  refine Go.bipush (v := 11) d_Model_advise_6 rfl (by decide) ?_
  refine Go.iload_1 d_Model_advise_8 rfl ?_
  refine Go.cv2r d_Model_advise_9 rfl l_Model_450 k_Model_is_v (mf_at_m (by omega) hB hS hC hD hE) rfl (mf_c_Model_is_m (x1 := 11) rfl (by omega) (by omega) hB hS hC hD hE) (Nat.ble_eq_true_of_le (by omega)) rfl rfl ?_
  refine Go.if_ne (t := 21) d_Model_advise_12 (by decide) rfl (fun c12_1 => ?_) (fun c12_1 => ?_)
  · refine Go.iload_2 d_Model_advise_21 rfl ?_
    refine Go.iconst (v := 1) d_Model_advise_22 rfl (by decide) ?_
    refine Go.bipush (v := 40) d_Model_advise_23 rfl (by decide) ?_
    refine Go.cs3r d_Model_advise_25 rfl l_Model_43 k_Model_isIn_s rfl (mf_c_Model_isIn_ (by omega) hB hS hC hD hE) (Nat.ble_eq_true_of_le (by omega)) rfl rfl ?_
    refine Go.if_ne (t := 37) d_Model_advise_28 (by decide) rfl (fun c28_2 => ?_) (fun c28_2 => ?_)
    · refine Go.aload_0 d_Model_advise_37 rfl ?_
      refine Go.getfield d_Model_advise_38 rfl f_Model_27 (mf_at_m (by omega) hB hS hC hD hE) (by rfl) ?_
      refine Go.getfield d_Model_advise_41 rfl f_Model_283 (mf_at_r (by omega) hB hS hC hD hE) (by rfl) ?_
      refine Go.iload_1 d_Model_advise_44 rfl ?_
      have o45_3 : okI x1 4 = true := Classical.byContradiction fun w => by
        rw [if_neg c12_1, if_neg c28_2, if_neg w] at hr
        cases hr
      refine Go.iaload d_Model_advise_45 rfl (mf_at_r_17 (by omega) hB hS hC hD hE) (okI_in o45_3) ?_
      refine Go.if_ne (t := 55) d_Model_advise_46 (by decide) rfl (fun c46_4 => ?_) (fun c46_4 => ?_)
      · refine Go.iconst (v := 0) d_Model_advise_55 rfl (by decide) ?_
        refine Go.istore_3 d_Model_advise_56 rfl (by rfl) ?_
        refine Go.aload_0 d_Model_advise_57 rfl ?_
        refine Go.iload_1 d_Model_advise_58 rfl ?_
        refine Go.iconst (v := 0) d_Model_advise_59 rfl (by decide) ?_
        refine Go.iload_2 d_Model_advise_60 rfl ?_
        rw [if_neg c12_1, if_neg c28_2, if_pos o45_3, if_neg c46_4] at hr
        obtain ⟨p61_5, hp61_5, hr⟩ := Option.bind_eq_some_iff.mp hr
        try dsimp only at hr
        refine Go.cv3r d_Model_advise_61 rfl l_Model_481 k_Model_reads_v (mf_at_m (by omega) hB hS hC hD hE) rfl (cv_Model_reads (nI_back (is_ok c12_1).1) (nI_back (isIn_pos1 c28_2)) (by have := (is_lt c12_1 hE (by decide)); omega) (by have := (isIn_le (b := 40) c28_2 (by decide)); omega) (by omega) hB hS hC hD hE hO hdy hp61_5) (Nat.ble_eq_true_of_le (by omega)) rfl rfl ?_
        refine Go.istore_4 d_Model_advise_64 rfl (by rfl) ?_
        refine Go.iconst (v := 1) d_Model_advise_66 rfl (by decide) ?_
        refine Go.istore_5 d_Model_advise_67 rfl (by rfl) ?_
        exact l_Model_advise_69_go (by omega) hB hS hC hD hE hO hdy _ _ _ _ _ _ _ hr
      · refine Go.aload_0 d_Model_advise_49 rfl ?_
        refine Go.iconst (v := 3) d_Model_advise_50 rfl (by decide) ?_
        refine Go.cv1r d_Model_advise_51 rfl l_Model_427 k_Model_no_v (mf_at_m (by omega) hB hS hC hD hE) rfl (mf_c_Model_no_m (by omega) hB hS hC hD hE) (Nat.ble_eq_true_of_le (by omega)) rfl rfl ?_
        rw [if_neg c12_1, if_neg c28_2, if_pos o45_3, if_pos c46_4] at hr
        cases hr
        exact Go.iret d_Model_advise_54 rfl rfl ⟨rfl, by dsimp only, rfl⟩
    · refine Go.aload_0 d_Model_advise_31 rfl ?_
      refine Go.iconst (v := 2) d_Model_advise_32 rfl (by decide) ?_
      refine Go.cv1r d_Model_advise_33 rfl l_Model_427 k_Model_no_v (mf_at_m (by omega) hB hS hC hD hE) rfl (mf_c_Model_no_m (by omega) hB hS hC hD hE) (Nat.ble_eq_true_of_le (by omega)) rfl rfl ?_
      rw [if_neg c12_1, if_pos c28_2] at hr
      cases hr
      exact Go.iret d_Model_advise_36 rfl rfl ⟨rfl, by dsimp only, rfl⟩
  · refine Go.aload_0 d_Model_advise_15 rfl ?_
    refine Go.iconst (v := 1) d_Model_advise_16 rfl (by decide) ?_
    refine Go.cv1r d_Model_advise_17 rfl l_Model_427 k_Model_no_v (mf_at_m (by omega) hB hS hC hD hE) rfl (mf_c_Model_no_m (by omega) hB hS hC hD hE) (Nat.ble_eq_true_of_le (by omega)) rfl rfl ?_
    rw [if_pos c12_1] at hr
    cases hr
    exact Go.iret d_Model_advise_20 rfl rfl ⟨rfl, by dsimp only, rfl⟩
