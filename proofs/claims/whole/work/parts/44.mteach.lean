/-! the reference: teach -/
theorem blk_hupin {h : AH} {a n : Nat} {e : va_E} {f : Nat → Option va_E} (hn : 0 < n) : blk (hup h a e) a n f = blk h a n f := by
  funext x
  unfold blk hup
  by_cases h1 : a ≤ x ∧ x < a + n
  · rw [if_pos h1, if_pos h1]
  · rw [if_neg h1, if_neg h1, if_neg (by omega)]
theorem md_mk {Γ : G9} {h : AH} {m q r sb ro z : Nat} {M : MO} {H H2 : SH} {Y : SX} (geo : m + 2 ≤ q ∧ m + 2 ≤ r ∧ (q + 24 ≤ r ∨ r + 21 ≤ q)) (hz : q + 24 ≤ z ∧ r + 21 ≤ z) : blk (md_ Γ h m q r r sb ro M H Y) z 24 (shC Γ z H2) = mk_ Γ (blk (blk h q 24 (shC Γ q H)) r 21 (sxC Γ r Y)) m z q r sb ro M H2 := by
  unfold md_ mk_
  exact blk_in ((blk_in (blk_comm (by omega))).trans (blk_comm (by omega)))
theorem md_bk {Γ : G9} {h : AH} {m q r sa sb ro z n : Nat} {M : MO} {H : SH} {Y : SX} {f : Nat → Option va_E} (geo : m + 2 ≤ q ∧ m + 2 ≤ r ∧ (q + 24 ≤ r ∨ r + 21 ≤ q)) (hz : q + 24 ≤ z ∧ r + 21 ≤ z) : blk (md_ Γ h m q r sa sb ro M H Y) z n f = md_ Γ (blk h z n f) m q r sa sb ro M H Y := by
  unfold md_
  exact (blk_comm (by omega)).trans (blk_in ((blk_comm (by omega)).trans (blk_in (blk_comm (by omega)))))
theorem mo_sh {Γ : G9} {h : AH} {q sa sb ro r b : Nat} {S : MO} : hup (blk h b 2 (moC Γ q sa sb ro b S)) b (.inr (11, [.int (mo_th S), .ref (b + 1), .int (nI (mo_sz S)), .int (mo_ea S), .int (nI (mo_tk S)), .int (nI (mo_dp S)), .ref q, .ref sa, .ref sb, .int (mo_wk S), .ref ro].set 6 (.ref r))) = blk h b 2 (moC Γ r sa sb ro b S) := by
  rw [blk_hup0 (by decide)]
  refine blk_ext fun j hj => ?_
  match j, hj with
  | 0, _ => rfl
  | 1, _ => rfl
  | _ + 2, w => exact absurd w (by omega)
/-- another sheet is the reference's -/
theorem md_sh {Γ : G9} {h : AH} {m q r sb ro z : Nat} {M : MO} {H H2 : SH} {Y : SX} (geo : m + 2 ≤ q ∧ m + 2 ≤ r ∧ (q + 24 ≤ r ∨ r + 21 ≤ q)) (hz : q + 24 ≤ z ∧ r + 21 ≤ z) : hup (md_ Γ (blk h z 24 (shC Γ z H2)) m q r r sb ro M H Y) m (.inr (11, [.int (mo_th M), .ref (m + 1), .int (nI (mo_sz M)), .int (mo_ea M), .int (nI (mo_tk M)), .int (nI (mo_dp M)), .ref q, .ref r, .ref sb, .int (mo_wk M), .ref ro].set 6 (.ref z))) = md_ Γ (blk h q 24 (shC Γ q H)) m z r r sb ro M H2 Y := by
  unfold md_
  rw [hup_blk (by omega), hup_blk (by omega), mo_sh]
  exact blk_in ((blk_comm (by omega)).trans ((blk_in (blk_comm (by omega))).trans (blk_comm (by omega))))
theorem ms_put_m_errorAt {Γ : G9} {h : AH} {m q r sb ro : Nat} {M : MO} {H : SH} {Y : SX} {v : Int32} (geo : m + 2 ≤ q ∧ m + 2 ≤ r ∧ (q + 24 ≤ r ∨ r + 21 ≤ q)) (hB : sh_ha H 0 ≤ 5) (hS : sh_ha H 3 ≤ 6) (hC : sh_ha H 6 ≤ 4) (hD : sh_ha H 9 ≤ 4) (hE : sh_ha H 11 ≤ 4) : hup (md_ Γ h m q r r sb ro M H Y) m (.inr (11, [.int (mo_th M), .ref (m + 1), .int (nI (mo_sz M)), .int (mo_ea M), .int (nI (mo_tk M)), .int (nI (mo_dp M)), .ref q, .ref r, .ref sb, .int (mo_wk M), .ref ro].set 3 (.int v))) = (md_ Γ h m q r r sb ro (mo_ea' M v) H Y) := by
  unfold md_
  exact ((hup_blk (by omega)).trans (blk_in ((hup_blk (by omega)).trans (blk_in (mo_p_ea (v := v))))))
theorem d_Model_teach_0 : decode M_Model_teach.2.1 0 = .ok (.aload_n 0, 1) := by decide +kernel
theorem d_Model_teach_1 : decode M_Model_teach.2.1 1 = .ok (.iconst 0, 1) := by decide +kernel
theorem d_Model_teach_2 : decode M_Model_teach.2.1 2 = .ok (.putfield 37, 3) := by decide +kernel
theorem d_Model_teach_5 : decode M_Model_teach.2.1 5 = .ok (.aload_n 0, 1) := by decide +kernel
theorem d_Model_teach_6 : decode M_Model_teach.2.1 6 = .ok (.iconst (-1), 1) := by decide +kernel
theorem d_Model_teach_7 : decode M_Model_teach.2.1 7 = .ok (.putfield 13, 3) := by decide +kernel
theorem d_Model_teach_10 : decode M_Model_teach.2.1 10 = .ok (.new 17, 3) := by decide +kernel
theorem d_Model_teach_13 : decode M_Model_teach.2.1 13 = .ok (.dup, 1) := by decide +kernel
theorem d_Model_teach_14 : decode M_Model_teach.2.1 14 = .ok (.invokespecial 19, 3) := by decide +kernel
theorem d_Model_teach_17 : decode M_Model_teach.2.1 17 = .ok (.astore_n 1, 1) := by decide +kernel
theorem d_Model_teach_18 : decode M_Model_teach.2.1 18 = .ok (.aload_n 0, 1) := by decide +kernel
theorem d_Model_teach_19 : decode M_Model_teach.2.1 19 = .ok (.aload_n 1, 1) := by decide +kernel
theorem d_Model_teach_20 : decode M_Model_teach.2.1 20 = .ok (.invokevirtual 440, 3) := by decide +kernel
theorem d_Model_teach_23 : decode M_Model_teach.2.1 23 = .ok (.istore_n 2, 1) := by decide +kernel
theorem d_Model_teach_24 : decode M_Model_teach.2.1 24 = .ok (.aload_n 0, 1) := by decide +kernel
theorem d_Model_teach_25 : decode M_Model_teach.2.1 25 = .ok (.iconst 0, 1) := by decide +kernel
theorem d_Model_teach_26 : decode M_Model_teach.2.1 26 = .ok (.putfield 47, 3) := by decide +kernel
theorem d_Model_teach_29 : decode M_Model_teach.2.1 29 = .ok (.iload_n 2, 1) := by decide +kernel
theorem d_Model_teach_30 : decode M_Model_teach.2.1 30 = .ok (.ifCond .le 5, 3) := by decide +kernel
theorem d_Model_teach_33 : decode M_Model_teach.2.1 33 = .ok (.iload_n 2, 1) := by decide +kernel
theorem d_Model_teach_34 : decode M_Model_teach.2.1 34 = .ok (.ireturn, 1) := by decide +kernel
theorem d_Model_teach_35 : decode M_Model_teach.2.1 35 = .ok (.aload_n 0, 1) := by decide +kernel
theorem d_Model_teach_36 : decode M_Model_teach.2.1 36 = .ok (.aload_n 1, 1) := by decide +kernel
theorem d_Model_teach_37 : decode M_Model_teach.2.1 37 = .ok (.putfield 20, 3) := by decide +kernel
theorem d_Model_teach_40 : decode M_Model_teach.2.1 40 = .ok (.aload_n 0, 1) := by decide +kernel
theorem d_Model_teach_41 : decode M_Model_teach.2.1 41 = .ok (.invokevirtual 444, 3) := by decide +kernel
theorem d_Model_teach_44 : decode M_Model_teach.2.1 44 = .ok (.iconst 0, 1) := by decide +kernel
theorem d_Model_teach_45 : decode M_Model_teach.2.1 45 = .ok (.ireturn, 1) := by decide +kernel
set_option maxRecDepth 100000 in
set_option maxHeartbeats 800000 in
theorem c_Model_teach {Γ : G9} {h : AH} {wd : Nat → Nat} {wa sn : Nat} {m q r sb ro z : Nat} {M : MO} {H : SH} {Y : SX} {p : Int32 × MO × SH} (geo : m + 2 ≤ q ∧ m + 2 ≤ r ∧ (q + 24 ≤ r ∨ r + 21 ≤ q)) (hz : q + 24 ≤ z ∧ r + 21 ≤ z) (hB : sh_ha H 0 ≤ 5) (hS : sh_ha H 3 ≤ 6) (hC : sh_ha H 6 ≤ 4) (hD : sh_ha H 9 ≤ 4) (hE : sh_ha H 11 ≤ 4) (hsz : mo_sz M ≤ 2000) (hcs : CsOk Γ) (hwd : WdOk Γ wa wd) (hsg : SnOk Γ sn) (hao : AoOk Γ) (hr : s_Model_read (mo_ea' (mo_th' M 0) (-1)) sh0 = some p) (hnb : p.1 ≤ 0 → sh_ha p.2.2 0 ≤ 5 ∧ sh_ha p.2.2 3 ≤ 6 ∧ sh_ha p.2.2 6 ≤ 4 ∧ sh_ha p.2.2 9 ≤ 4 ∧ sh_ha p.2.2 11 ≤ 4) : Call Γ M_Model_teach 73 25 1882 [.ref m] (md_ Γ h m q r r sb ro M H Y) z (fun v h2 z2 => z + 24 ≤ z2 ∧ (p.1 ≤ 0 → v = some (.int 0) ∧ ∃ h3 : AH, (∀ b, b < z → (b < q ∨ q + 24 ≤ b) → h3 b = h b) ∧ h2 = md_ Γ h3 m z r r sb ro (mo_sz' p.2.1 0) p.2.2 (s_Model_begin p.2.2 Y)) ∧ (¬ p.1 ≤ 0 → v = some (.int p.1) ∧ ∃ h3 : AH, (∀ b, b < z → (b < q ∨ q + 24 ≤ b) → h3 b = h b) ∧ h2 = md_ Γ h3 m q r r sb ro (mo_sz' p.2.1 0) H Y)) noX := by
  refine Call.of_go (L := [some (.ref m), none, none]) (by decide +kernel) rfl (by exact Nat.le_of_ble_eq_true rfl) ?_
  refine Go.aload_0 d_Model_teach_0 rfl ?_
  refine Go.iconst (v := 0) d_Model_teach_1 rfl (by decide) ?_
  refine Go.putfield d_Model_teach_2 rfl f_Model_37_p (Or.inl (fun C T N h => by cases h; rfl)) (ms_at_m (by omega) hB hS hC hD hE) (by exact Nat.le_of_ble_eq_true rfl) rfl rfl ?_
  refine Go.heq (ms_put_m_thrown (by omega) hB hS hC hD hE) ?_
  refine Go.aload_0 d_Model_teach_5 rfl ?_
  refine Go.iconst (v := (-1)) d_Model_teach_6 rfl (by decide) ?_
  refine Go.putfield d_Model_teach_7 rfl f_Model_13_p (Or.inl (fun C T N h => by cases h; rfl)) (ms_at_m (by omega) hB hS hC hD hE) (by exact Nat.le_of_ble_eq_true rfl) rfl rfl ?_
  refine Go.heq (ms_put_m_errorAt (by omega) hB hS hC hD hE) ?_
  refine Go.new (ci := 9) (C1 := 24) (S1 := 1856) (fs := [.null, .null, .null, .null, .null, .null, .int 0, .null, .null, .null, .null, .null, .null, .null, .null, .null, .null, .null, .null, .int 0, .int 0, .null, .null, .null, .null, .null]) ty_Sheet d_Model_teach_10 rfl rfl cw_Sheet ty_Sheet_ok (gm_5 (List.mem_of_getElem? (i := 197) rfl) rfl) (gm_5 (List.mem_of_getElem? (i := 198) rfl) rfl) (gm_1 (List.mem_of_getElem? (i := 11) rfl) rfl) n9_fs_Sheet (by decide) (by decide) ?_
  refine Go.dup d_Model_teach_13 rfl rfl ?_
  refine Go.callI (C1 := 1) (S1 := 10) (as := []) d_Model_teach_14 rfl (Or.inr ⟨_, l_Model_19⟩) k_Sheet_init_n rfl rfl (c_Sheet_init (t := z) hup_at) (by decide) (by decide) (by decide) (by decide) (Nat.le_of_ble_eq_true rfl) (fun E h2 z2 hx _ => hx.elim) (fun v h2 z2 hx _ => ?_)
  obtain ⟨rfl, rfl, rfl⟩ := hx
  refine Go.heq ((blk_hupin (by decide)).trans (md_mk geo hz)) ?_
  refine Go.astore_1 d_Model_teach_17 rfl (by rfl) ?_
  refine Go.aload_0 d_Model_teach_18 rfl ?_
  refine Go.aload_1 d_Model_teach_19 rfl ?_
  refine Go.cv1r d_Model_teach_20 rfl l_Model_440 k_Model_read_v (mk_at_m (by omega)) rfl (c_Model_read (by omega) hsz hcs hwd hsg hr) (by rfl) rfl rfl ?_
  refine Go.heq ((md_mk geo hz).symm.trans (md_bk geo hz)) ?_
  refine Go.istore_2 d_Model_teach_23 rfl (by rfl) ?_
  refine Go.aload_0 d_Model_teach_24 rfl ?_
  refine Go.iconst (v := 0) d_Model_teach_25 rfl (by decide) ?_
  refine Go.putfield d_Model_teach_26 rfl f_Model_47_p (Or.inl (fun C T N h => by cases h; rfl)) (ms_at_m (by omega) hB hS hC hD hE) (by exact Nat.le_of_ble_eq_true rfl) rfl rfl ?_
  refine Go.heq (ms_put_m_size (by omega) hB hS hC hD hE) ?_
  refine Go.iload_2 d_Model_teach_29 rfl ?_
  refine Go.if_le (t := 35) d_Model_teach_30 (by decide) rfl (fun c30_1 => ?_) (fun c30_1 => ?_)
  · refine Go.aload_0 d_Model_teach_35 rfl ?_
    refine Go.aload_1 d_Model_teach_36 rfl ?_
    have hN := hnb c30_1
    refine Go.putfield d_Model_teach_37 rfl f_Model_20_p (Or.inl (fun C T N h => by cases h; rfl)) (ms_at_m (by omega) hB hS hC hD hE) (by exact Nat.le_of_ble_eq_true rfl) rfl rfl ?_
    refine Go.heq (md_sh geo hz) ?_
    refine Go.aload_0 d_Model_teach_40 rfl ?_
    refine Go.callV (C1 := 0) (S1 := 0) (as := []) d_Model_teach_41 rfl l_Model_444 k_Model_begin_v rfl (ms_at_m (by omega) hN.1 hN.2.1 hN.2.2.1 hN.2.2.2.1 hN.2.2.2.2) rfl rfl (c_Model_begin (z := z + 24) (by omega) (by omega) hN.1 hN.2.1 hN.2.2.1 hN.2.2.2.1 hN.2.2.2.2 hao) (by decide) (by decide) (by decide) (by decide) (Nat.le_of_ble_eq_true rfl) (fun E h2 z2 hx _ => hx.elim) (fun v h2 z2 hx _ => ?_)
    obtain ⟨rfl, rfl, h3, hh3, rfl⟩ := hx
    refine Go.iconst (v := 0) d_Model_teach_44 rfl (by decide) ?_
    skip
    exact Go.iret d_Model_teach_45 rfl rfl ⟨by omega, fun _ => ⟨rfl, h3, fun b hb ho => (hh3 b (by omega)).trans (blk_out (by omega)), rfl⟩, fun c => absurd c30_1 c⟩
  · refine Go.iload_2 d_Model_teach_33 rfl ?_
    skip
    exact Go.iret d_Model_teach_34 rfl rfl ⟨by omega, fun c => absurd c c30_1, fun _ => ⟨rfl, _, fun b hb ho => blk_out (Or.inl hb), rfl⟩⟩
