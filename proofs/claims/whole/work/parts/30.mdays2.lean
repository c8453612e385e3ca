theorem d_Model_dayOn_0 : decode M_Model_dayOn.2.1 0 = .ok (.aload_n 0, 1) := by decide +kernel
theorem d_Model_dayOn_1 : decode M_Model_dayOn.2.1 1 = .ok (.aload_n 1, 1) := by decide +kernel
theorem d_Model_dayOn_2 : decode M_Model_dayOn.2.1 2 = .ok (.putfield 34, 3) := by decide +kernel
theorem d_Model_dayOn_5 : decode M_Model_dayOn.2.1 5 = .ok (.iconst 0, 1) := by decide +kernel
theorem d_Model_dayOn_6 : decode M_Model_dayOn.2.1 6 = .ok (.istore_n 2, 1) := by decide +kernel
theorem d_Model_daysOn_0 : decode M_Model_daysOn.2.1 0 = .ok (.iconst 0, 1) := by decide +kernel
theorem d_Model_daysOn_1 : decode M_Model_daysOn.2.1 1 = .ok (.istore_n 3, 1) := by decide +kernel
theorem d_Model_daysOn_2 : decode M_Model_daysOn.2.1 2 = .ok (.iload_n 3, 1) := by decide +kernel
theorem d_Model_daysOn_3 : decode M_Model_daysOn.2.1 3 = .ok (.iload_n 2, 1) := by decide +kernel
theorem d_Model_daysOn_4 : decode M_Model_daysOn.2.1 4 = .ok (.if_icmp .ge 14, 3) := by decide +kernel
theorem d_Model_daysOn_7 : decode M_Model_daysOn.2.1 7 = .ok (.aload_n 0, 1) := by decide +kernel
theorem d_Model_daysOn_8 : decode M_Model_daysOn.2.1 8 = .ok (.aload_n 1, 1) := by decide +kernel
theorem d_Model_daysOn_9 : decode M_Model_daysOn.2.1 9 = .ok (.invokevirtual 423, 3) := by decide +kernel
theorem d_Model_daysOn_12 : decode M_Model_daysOn.2.1 12 = .ok (.iinc 3 1, 3) := by decide +kernel
theorem d_Model_daysOn_15 : decode M_Model_daysOn.2.1 15 = .ok (.goto (-13), 3) := by decide +kernel
theorem d_Model_daysOn_18 : decode M_Model_daysOn.2.1 18 = .ok (.return_, 1) := by decide +kernel
theorem mo_on {Γ : G9} {h : AH} {q sa sb ro r b : Nat} {S : MO} : hup (blk h b 2 (moC Γ q sa sb ro b S)) b (.inr (11, [.int (mo_th S), .ref (b + 1), .int (nI (mo_sz S)), .int (mo_ea S), .int (nI (mo_tk S)), .int (nI (mo_dp S)), .ref q, .ref sa, .ref sb, .int (mo_wk S), .ref ro].set 10 (.ref r))) = blk h b 2 (moC Γ q sa sb r b S) := by
  rw [blk_hup0 (by decide)]
  refine blk_ext fun j hj => ?_
  match j, hj with
  | 0, _ => rfl
  | 1, _ => rfl
  | _ + 2, w => exact absurd w (by omega)
theorem md_on {Γ : G9} {h : AH} {m q r sa sb ro : Nat} {M : MO} {H : SH} {Y : SX} (geo : m + 2 ≤ q ∧ m + 2 ≤ r ∧ (q + 24 ≤ r ∨ r + 21 ≤ q)) : hup (md_ Γ h m q r sa sb ro M H Y) m (.inr (11, [.int (mo_th M), .ref (m + 1), .int (nI (mo_sz M)), .int (mo_ea M), .int (nI (mo_tk M)), .int (nI (mo_dp M)), .ref q, .ref sa, .ref sb, .int (mo_wk M), .ref ro].set 10 (.ref r))) = md_ Γ h m q r sa sb r M H Y := by
  unfold md_
  exact ((hup_blk (by omega)).trans (blk_in ((hup_blk (by omega)).trans (blk_in (mo_on)))))
def s_Model_dayOn (M : MO) (H : SH) (Y : SX) : Option (MO × SX) := (l_Model_orders H (sh_or H) 0 M Y).bind fun p => if sx_dy p.2 < 1000000 then some (p.1, s_Model_dayRest p.1 H p.2) else none
set_option maxRecDepth 100000 in
set_option maxHeartbeats 4000000 in
theorem c_Model_dayOn {Γ : G9} {h : AH} {m q r sa sb ro z : Nat} {M : MO} {H : SH} {Y : SX} {p : MO × SX} (geo : m + 2 ≤ q ∧ m + 2 ≤ r ∧ (q + 24 ≤ r ∨ r + 21 ≤ q)) (hB : sh_ha H 0 ≤ 5) (hS : sh_ha H 3 ≤ 6) (hC : sh_ha H 6 ≤ 4) (hD : sh_ha H 9 ≤ 4) (hE : sh_ha H 11 ≤ 4) (hO : sh_or H ≤ 20) (hdy : sx_dy Y < 1000000) (hr : s_Model_dayOn M H Y = some p) : CallR Γ M_Model_dayOn 73 [.ref m, .ref r] (md_ Γ h m q r sa sb ro M H Y) z none (md_ Γ h m q r sa sb r p.1 H p.2) := by
  unfold s_Model_dayOn at hr
  obtain ⟨p1, hp1, hr⟩ := Option.bind_eq_some_iff.mp hr
  try dsimp only at hr
  have hd : sx_dy p1.2 < 1000000 := Classical.byContradiction fun w => by
    rw [if_neg w] at hr
    cases hr
  rw [if_pos hd] at hr
  cases hr
  refine Call.of_go (L := [some (.ref m), some (.ref r), none, none]) (by decide +kernel) rfl (by exact Nat.le_of_ble_eq_true rfl) ?_
  refine Go.aload_0 d_Model_dayOn_0 rfl ?_
  refine Go.aload_1 d_Model_dayOn_1 rfl ?_
  refine Go.putfield d_Model_dayOn_2 rfl f_Model_34_p (Or.inl (fun C T N h => by cases h; rfl)) (md_at_m (by omega) hB hS hC hD hE) (by exact Nat.le_of_ble_eq_true rfl) rfl rfl ?_
  refine Go.heq (md_on geo) ?_
  refine Go.iconst (v := 0) d_Model_dayOn_5 rfl (by decide) ?_
  refine Go.istore_2 d_Model_dayOn_6 rfl (by rfl) ?_
  refine l_Model_orders_go geo hB hS hC hD hE hO (p := p1) (sh_or H) 0 M Y (by omega) hdy hp1 ?_
  exact g_Model_dayRest geo hB hS hC hD hE hd
def l_Model_daysOn (H : SH) : Nat → MO → SX → Option (MO × SX)
  | 0, M, Y => some (M, Y)
  | k + 1, M, Y => (s_Model_dayOn M H Y).bind fun p => if sx_dy p.2 < 1000000 then l_Model_daysOn H k p.1 p.2 else none
set_option maxRecDepth 100000 in
set_option maxHeartbeats 4000000 in
theorem l_Model_daysOn_go {Γ : G9} {h : AH} {m q r sa sb z n : Nat} {H : SH} {p : MO × SX} (geo : m + 2 ≤ q ∧ m + 2 ≤ r ∧ (q + 24 ≤ r ∨ r + 21 ≤ q)) (hB : sh_ha H 0 ≤ 5) (hS : sh_ha H 3 ≤ 6) (hC : sh_ha H 6 ≤ 4) (hD : sh_ha H 9 ≤ 4) (hE : sh_ha H 11 ≤ 4) (hO : sh_or H ≤ 20) (hn : n ≤ 60) : ∀ (k i ro : Nat) (M : MO) (Y : SX), i + k = n → sx_dy Y < 1000000 → l_Model_daysOn H k M Y = some p → Go Γ M_Model_daysOn 74 0 0 2 [some (.ref m), some (.ref r), some (.int (nI n)), some (.int (nI i))] [] (md_ Γ h m q r sa sb ro M H Y) z (RQ none (md_ Γ h m q r sa sb (if k = 0 then ro else r) p.1 H p.2) z) noX := by
  intro k
  induction k with
  | zero =>
    intro i ro M Y hi hdy hr
    cases hr
    refine Go.iload_3 d_Model_daysOn_2 rfl ?_
    refine Go.iload_2 d_Model_daysOn_3 rfl ?_
    refine Go.icmp_ge (t := 18) d_Model_daysOn_4 (by decide) rfl (fun _ => ?_) (fun c => absurd (nI_le (by omega) (by omega)) c)
    exact Go.vret d_Model_daysOn_18 rfl ⟨rfl, rfl, rfl⟩
  | succ k ih =>
    intro i ro M Y hi hdy hr
    unfold l_Model_daysOn at hr
    obtain ⟨p1, hp1, hr⟩ := Option.bind_eq_some_iff.mp hr
    try dsimp only at hr
    have hd : sx_dy p1.2 < 1000000 := Classical.byContradiction fun w => by
      rw [if_neg w] at hr
      cases hr
    rw [if_pos hd] at hr
    refine Go.iload_3 d_Model_daysOn_2 rfl ?_
    refine Go.iload_2 d_Model_daysOn_3 rfl ?_
    refine Go.icmp_ge (t := 18) d_Model_daysOn_4 (by decide) rfl (fun c => absurd c (nI_ge (by omega) (by omega))) (fun _ => ?_)
    refine Go.aload_0 d_Model_daysOn_7 rfl ?_
    refine Go.aload_1 d_Model_daysOn_8 rfl ?_
    refine Go.cv1v d_Model_daysOn_9 rfl l_Model_423 k_Model_dayOn_v (md_at_m (by omega) hB hS hC hD hE) rfl (c_Model_dayOn geo hB hS hC hD hE hO hdy hp1) rfl rfl rfl ?_
    refine Go.iinc_3 d_Model_daysOn_12 rfl (by rfl) (nI_inc _) ?_
    refine Go.goto (t := 2) d_Model_daysOn_15 (by decide) ?_
    have := ih (i + 1) r p1.1 p1.2 (by omega) hd hr
    rw [show (if k = 0 then r else r) = r from ite_self r] at this
    rw [if_neg (Nat.succ_ne_zero k)]
    exact this
set_option maxRecDepth 100000 in
set_option maxHeartbeats 4000000 in
theorem c_Model_daysOn {Γ : G9} {h : AH} {m q r sa sb ro z n : Nat} {M : MO} {H : SH} {Y : SX} {p : MO × SX} {vn : Int32} (en : vn = nI n) (geo : m + 2 ≤ q ∧ m + 2 ≤ r ∧ (q + 24 ≤ r ∨ r + 21 ≤ q)) (hB : sh_ha H 0 ≤ 5) (hS : sh_ha H 3 ≤ 6) (hC : sh_ha H 6 ≤ 4) (hD : sh_ha H 9 ≤ 4) (hE : sh_ha H 11 ≤ 4) (hO : sh_or H ≤ 20) (hdy : sx_dy Y < 1000000) (hn : n ≤ 60) (h1 : 1 ≤ n) (hr : l_Model_daysOn H n M Y = some p) : CallR Γ M_Model_daysOn 74 [.ref m, .ref r, .int vn] (md_ Γ h m q r sa sb ro M H Y) z none (md_ Γ h m q r sa sb r p.1 H p.2) := by
  subst en
  refine Call.of_go (L := [some (.ref m), some (.ref r), some (.int (nI n)), none]) (by decide +kernel) rfl (by exact Nat.le_of_ble_eq_true rfl) ?_
  refine Go.iconst (v := 0) d_Model_daysOn_0 rfl (by decide) ?_
  refine Go.istore_3 d_Model_daysOn_1 rfl (by rfl) ?_
  have := l_Model_daysOn_go (Γ := Γ) (h := h) (m := m) (q := q) (r := r) (sa := sa) (sb := sb) (z := z) (p := p) geo hB hS hC hD hE hO hn n 0 ro M Y (by omega) hdy hr
  rw [if_neg (by omega)] at this
  exact this
