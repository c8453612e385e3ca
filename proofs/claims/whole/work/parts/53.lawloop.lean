/-! the law: mean, the loop -/
set_option maxRecDepth 100000 in
set_option maxHeartbeats 800000 in
theorem lc_mean {R : RelT} {Γ : G9} {sg tx wd ms : Nat → Nat} {sw sa wa sn b L : Nat} {xs : Nat → Int32} {c m r r2 w n i z C S g g2 o o2 q : Nat} {h : AH} {f : Nat → Int64} {Q : QT} {A : TA} {K : TK} {σ τ : GL} {T : TM} {F : FM} {U : TM} {G : FM} {P : CP} {M : MO} {H : SH} {Y Ah : SX} {ow : Nat} (hst : ST Γ sg tx wd ms sw sa wa sn b L xs) (hp : PureOK R) (hi : i + 6 ≤ L) (hL : L ≤ 3072) (hn : n < 512) (k : LHead R Γ sg b c m r r2 w Q (n + 1) (i + 6) C S) (lf : LF R Γ c m r r2 w n z h f g g2 o o2 q A σ τ T F U P M H Y) : Go Γ M_law 200 (C + 40) (S + 2000) 1493 [some (.ref b), some (.ref c), some (.ref m), some (.ref w), some (.int (nI i)), none, none, none, none] [] (cw_ Γ sg (mf_ Γ h m q r r2 M H Y Ah ow) c g g2 o o2 A K σ τ T F U G P) z Q noX := by
  obtain ⟨geo, hz, hw0, ho, ho2, rel, hV, hU⟩ := lf
  obtain ⟨hA, hT, hW, hsz, hB, hS, hC, hD, hE, hO, hdy⟩ := hp.bnd rel
  obtain ⟨hv, hn1, hn2, hrel⟩ := hp.p_mean (K := K) (τ := τ) (U := U) (G := G) hn rel
  refine Go.aload_1 d_law_1493 rfl ?_
  refine Go.cv0r d_law_1494 rfl l_Law_156 k_Camp_mean_v (cw_at_c hst.hs hst.hsn hst.hw (by omega) hA ((mf_outlo (by omega)).trans ho) ((mf_outlo (by omega)).trans ho2) hT hU hW hV) rfl (c_Camp_mean hst.hs hst.hsn hst.hw (by omega) hA ((mf_outlo (by omega)).trans ho) ((mf_outlo (by omega)).trans ho2) hT hU hW hV hn1) (by rfl) rfl rfl ?_
  refine Go.dstore_5 d_law_1497 rfl (by rfl) ?_
  refine Go.aload_2 d_law_1499 rfl ?_
  refine Go.heq (lw_s geo) ?_
  refine Go.cv0r d_law_1500 rfl l_Law_160 k_Model_mean_v (ms_at_m (by omega) hB hS hC hD hE) rfl (c_Model_mean (by omega) hB hS hC hD hE hn2) (by rfl) rfl rfl ?_
  refine Go.heq (lw_s geo).symm ?_
  refine Go.dstore_7 d_law_1503 rfl (by rfl) ?_
  rw [hv]
  refine Go.dload_5 d_law_1505 rfl ?_
  refine Go.dload_7 d_law_1507 rfl ?_
  refine Go.dcmp d_law_1509 rfl ?_
  refine Go.if_eq (t := 1531) d_law_1510 (by decide) rfl (fun _ => ?_) (fun c9 => ?_)
  · refine Go.goto (t := 1548) d_law_1531 (by decide) ?_
    refine Go.iinc_4 d_law_1548 rfl (by rfl) nI_inc6 ?_
    refine Go.goto (t := 23) d_law_1551 (by decide) ?_
    refine Go.fgt [some (.ref b), some (.ref c), some (.ref m), some (.ref w), some (.int (nI (i + 6))), none, none, none, none] (by repeat' (first | exact trivial | refine ⟨rfl, ?_⟩)) ?_
    exact Go.room (k _ _ _ _ _ _ _ _ _ _ _ _ _ _ _ _ _ _ _ _ _ _ ⟨geo, hz, hw0, ho, ho2, hrel, hV, hU⟩) (Nat.le_refl _) (by omega) (by omega)
  · refine Go.dload_5 d_law_1513 rfl ?_
    refine Go.dload_5 d_law_1515 rfl ?_
    refine Go.dcmp d_law_1517 rfl ?_
    refine Go.if_eq (t := 1529) d_law_1518 (by decide) rfl (fun c8 => absurd c8 c9) (fun _ => ?_)
    refine Go.dload_7 d_law_1521 rfl ?_
    refine Go.dload_7 d_law_1523 rfl ?_
    refine Go.dcmp d_law_1525 rfl ?_
    refine Go.if_ne (t := 1531) d_law_1526 (by decide) rfl (fun _ => ?_) (fun c8 => absurd c8 c9)
    refine Go.goto (t := 1548) d_law_1531 (by decide) ?_
    refine Go.iinc_4 d_law_1548 rfl (by rfl) nI_inc6 ?_
    refine Go.goto (t := 23) d_law_1551 (by decide) ?_
    refine Go.fgt [some (.ref b), some (.ref c), some (.ref m), some (.ref w), some (.int (nI (i + 6))), none, none, none, none] (by repeat' (first | exact trivial | refine ⟨rfl, ?_⟩)) ?_
    exact Go.room (k _ _ _ _ _ _ _ _ _ _ _ _ _ _ _ _ _ _ _ _ _ _ ⟨geo, hz, hw0, ho, ho2, hrel, hV, hU⟩) (Nat.le_refl _) (by omega) (by omega)
theorem sub6 {L i : Nat} (hL : L ≤ 3072) (hi : i ≤ 3072) : nI L - 6 < nI i ↔ L < i + 6 := by
  rcases Nat.lt_or_ge L 6 with h | h
  · refine ⟨fun _ => by omega, fun _ => ?_⟩
    have : nI L - 6 < 0 := by
      match L, h with
      | 0, _ => decide
      | 1, _ => decide
      | 2, _ => decide
      | 3, _ => decide
      | 4, _ => decide
      | 5, _ => decide
      | _ + 6, w => omega
    exact Int32.lt_of_lt_of_le this (nI_pos' (by omega))
  · rw [show nI L - 6 = nI (L - 6) from nI_subn (b := 6) h, nI_ltI (by omega) (by omega)]
    omega
set_option maxRecDepth 100000 in
set_option maxHeartbeats 800000 in
theorem law_loop {R : RelT} {Γ : G9} {sg tx wd ms : Nat → Nat} {sw sa wa sn b L : Nat} {xs : Nat → Int32} {c m r r2 w : Nat} {Q : QT} (hst : ST Γ sg tx wd ms sw sa wa sn b L xs) (hp : PureOK R) (hL : L ≤ 3072) (hQ : ∀ h z, Q (some (.int 1)) h z) : ∀ (k n i : Nat), i = 6 * n → i + 6 * k ≤ L → L < i + 6 * k + 6 → LHead R Γ sg b c m r r2 w Q n i (40 * k) (2000 * k) := by
  intro k
  induction k with
  | zero =>
    intro n i hi h1 h2 z h f g g2 o o2 q A K σ τ T F U G P M H Y Ah ow lf
    refine Go.iload_4 d_law_23 rfl ?_
    refine Go.aload_0 d_law_25 rfl ?_
    refine Go.slen d_law_26 rfl hst.hsc ?_
    refine Go.bipush (v := 6) d_law_27 rfl (by decide) ?_
    refine Go.isub d_law_29 rfl ?_
    refine Go.icmp_gt (t := 1554) d_law_30 (by decide) rfl (fun _ => ?_) (fun ne => absurd ((sub6 hL (by omega)).mpr (by omega)) ne)
    refine Go.iconst (v := 1) d_law_1554 rfl (by decide) ?_
    exact Go.iret d_law_1555 rfl rfl (hQ _ _)
  | succ k ih0 =>
    intro n i hi h1 h2 z h f g g2 o o2 q A K σ τ T F U G P M H Y Ah ow lf
    have ih : ∀ j : Nat, j = i + 6 → LHead R Γ sg b c m r r2 w Q (n + 1) j (40 * k) (2000 * k) := fun j hj => ih0 (n + 1) j (by omega) (by omega) (by omega)
    refine Go.iload_4 d_law_23 rfl ?_
    refine Go.aload_0 d_law_25 rfl ?_
    refine Go.slen d_law_26 rfl hst.hsc ?_
    refine Go.bipush (v := 6) d_law_27 rfl (by decide) ?_
    refine Go.isub d_law_29 rfl ?_
    refine Go.icmp_gt (t := 1554) d_law_30 (by decide) rfl (fun e => absurd ((sub6 hL (by omega)).mp e) (by omega)) (fun _ => ?_)
    refine Go.aload_0 d_law_33 rfl ?_
    refine Go.iload_4 d_law_34 rfl ?_
    refine Go.sld d_law_36 rfl hst.hsc (vp_in_nI (by omega) (by omega)) ?_
    rw [nI_clamp (show i < 2 ^ 31 by omega)]
    refine Go.bipush (v := 31) d_law_37 rfl (by decide) ?_
    refine Go.iand d_law_39 rfl ?_
    rw [show 40 * (k + 1) = 40 * k + 40 by omega, show 2000 * (k + 1) = 2000 * k + 2000 by omega]
    by_cases v0 : xs i &&& 31 = 0
    · refine Go.tsw (t := 148) d_law_40 (by rw [v0]; rfl) ?_
      exact lc_feed hst hp (by omega) hL (by omega) (ih _ (by omega)) lf
    by_cases v1 : xs i &&& 31 = 1
    · refine Go.tsw (t := 252) d_law_40 (by rw [v1]; rfl) ?_
      by_cases hneg : xs (i + 1) < 0
      · exact lc_trimN hst hp (by omega) hL (by omega) (ih _ (by omega)) lf hneg
      · obtain ⟨j9, hj9, e9⟩ := nI_of hneg
        exact lc_trim hst hp (by omega) hL (by omega) (ih _ (by omega)) lf hj9 e9
    by_cases v2 : xs i &&& 31 = 2
    · refine Go.tsw (t := 308) d_law_40 (by rw [v2]; rfl) ?_
      exact lc_teach hst hp (by omega) hL (by omega) (ih _ (by omega)) lf
    by_cases v3 : xs i &&& 31 = 3
    · refine Go.tsw (t := 321) d_law_40 (by rw [v3]; rfl) ?_
      exact lc_errorAt hst hp (by omega) hL (by omega) (ih _ (by omega)) lf
    by_cases v4 : xs i &&& 31 = 4
    · refine Go.tsw (t := 334) d_law_40 (by rw [v4]; rfl) ?_
      exact lc_count hst hp (by omega) hL (by omega) (ih _ (by omega)) lf
    by_cases v5 : xs i &&& 31 = 5
    · refine Go.tsw (t := 390) d_law_40 (by rw [v5]; rfl) ?_
      exact lc_band hst hp (by omega) hL (by omega) (ih _ (by omega)) lf
    by_cases v6 : xs i &&& 31 = 6
    · refine Go.tsw (t := 458) d_law_40 (by rw [v6]; rfl) ?_
      exact lc_stake hst hp (by omega) hL (by omega) (ih _ (by omega)) lf
    by_cases v7 : xs i &&& 31 = 7
    · refine Go.tsw (t := 526) d_law_40 (by rw [v7]; rfl) ?_
      exact lc_crevasse hst hp (by omega) hL (by omega) (ih _ (by omega)) lf
    by_cases v8 : xs i &&& 31 = 8
    · refine Go.tsw (t := 594) d_law_40 (by rw [v8]; rfl) ?_
      exact lc_depot hst hp (by omega) hL (by omega) (ih _ (by omega)) lf
    by_cases v9 : xs i &&& 31 = 9
    · refine Go.tsw (t := 662) d_law_40 (by rw [v9]; rfl) ?_
      exact lc_team hst hp (by omega) hL (by omega) (ih _ (by omega)) lf
    by_cases v10 : xs i &&& 31 = 10
    · refine Go.tsw (t := 730) d_law_40 (by rw [v10]; rfl) ?_
      by_cases hbv : xs (i + 2) = 0
      · exact lc_go0 hst hp (by omega) hL (by omega) (ih _ (by omega)) lf hbv
      · exact lc_go1 hst hp (by omega) hL (by omega) (ih _ (by omega)) lf hbv
    by_cases v11 : xs i &&& 31 = 11
    · refine Go.tsw (t := 814) d_law_40 (by rw [v11]; rfl) ?_
      exact lc_probe hst hp (by omega) hL (by omega) (ih _ (by omega)) lf
    by_cases v12 : xs i &&& 31 = 12
    · refine Go.tsw (t := 882) d_law_40 (by rw [v12]; rfl) ?_
      exact lc_fill hst hp (by omega) hL (by omega) (ih _ (by omega)) lf
    by_cases v13 : xs i &&& 31 = 13
    · refine Go.tsw (t := 950) d_law_40 (by rw [v13]; rfl) ?_
      exact lc_stock hst hp (by omega) hL (by omega) (ih _ (by omega)) lf
    by_cases v14 : xs i &&& 31 = 14
    · refine Go.tsw (t := 1018) d_law_40 (by rw [v14]; rfl) ?_
      exact lc_setWarm hst hp (by omega) hL (by omega) (ih _ (by omega)) lf
    by_cases v15 : xs i &&& 31 = 15
    · refine Go.tsw (t := 1086) d_law_40 (by rw [v15]; rfl) ?_
      exact lc_pass hst hp (by omega) hL (by omega) (ih _ (by omega)) lf
    by_cases v16 : xs i &&& 31 = 16
    · refine Go.tsw (t := 1142) d_law_40 (by rw [v16]; rfl) ?_
      exact lc_melt hst hp (by omega) hL (by omega) (ih _ (by omega)) lf
    by_cases v17 : xs i &&& 31 = 17
    · refine Go.tsw (t := 1210) d_law_40 (by rw [v17]; rfl) ?_
      exact lc_until hst hp (by omega) hL (by omega) (ih _ (by omega)) lf
    by_cases v18 : xs i &&& 31 = 18
    · refine Go.tsw (t := 1266) d_law_40 (by rw [v18]; rfl) ?_
      exact lc_foresee hst hp (by omega) hL (by omega) (ih _ (by omega)) lf
    by_cases v19 : xs i &&& 31 = 19
    · refine Go.tsw (t := 1334) d_law_40 (by rw [v19]; rfl) ?_
      by_cases hbv : xs (i + 2) = 0
      · exact lc_safe0 hst hp (by omega) hL (by omega) (ih _ (by omega)) lf hbv
      · exact lc_safe1 hst hp (by omega) hL (by omega) (ih _ (by omega)) lf hbv
    by_cases v20 : xs i &&& 31 = 20
    · refine Go.tsw (t := 1425) d_law_40 (by rw [v20]; rfl) ?_
      exact lc_advise hst hp (by omega) hL (by omega) (ih _ (by omega)) lf
    by_cases v21 : xs i &&& 31 = 21
    · refine Go.tsw (t := 1493) d_law_40 (by rw [v21]; rfl) ?_
      exact lc_mean hst hp (by omega) hL (by omega) (ih _ (by omega)) lf
    by_cases v22 : xs i &&& 31 = 22
    · refine Go.tsw (t := 1534) d_law_40 (by rw [v22]; rfl) ?_
      exact lc_digest hst hp (by omega) hL (by omega) (ih _ (by omega)) lf
    refine Go.tsw (t := 1548) d_law_40 (tsw_out fun n hn => by
      match n, hn with
      | 0, _ => exact fun w => v0 (i32_eq w)
      | 1, _ => exact fun w => v1 (i32_eq w)
      | 2, _ => exact fun w => v2 (i32_eq w)
      | 3, _ => exact fun w => v3 (i32_eq w)
      | 4, _ => exact fun w => v4 (i32_eq w)
      | 5, _ => exact fun w => v5 (i32_eq w)
      | 6, _ => exact fun w => v6 (i32_eq w)
      | 7, _ => exact fun w => v7 (i32_eq w)
      | 8, _ => exact fun w => v8 (i32_eq w)
      | 9, _ => exact fun w => v9 (i32_eq w)
      | 10, _ => exact fun w => v10 (i32_eq w)
      | 11, _ => exact fun w => v11 (i32_eq w)
      | 12, _ => exact fun w => v12 (i32_eq w)
      | 13, _ => exact fun w => v13 (i32_eq w)
      | 14, _ => exact fun w => v14 (i32_eq w)
      | 15, _ => exact fun w => v15 (i32_eq w)
      | 16, _ => exact fun w => v16 (i32_eq w)
      | 17, _ => exact fun w => v17 (i32_eq w)
      | 18, _ => exact fun w => v18 (i32_eq w)
      | 19, _ => exact fun w => v19 (i32_eq w)
      | 20, _ => exact fun w => v20 (i32_eq w)
      | 21, _ => exact fun w => v21 (i32_eq w)
      | 22, _ => exact fun w => v22 (i32_eq w)
      | _ + 23, w => exact absurd w (by simp)) ?_
    obtain ⟨geo, hz, hw0, ho, ho2, rel, hV, hU⟩ := lf
    have hrel := hp.p_none (show n < 512 by omega) rel
    refine Go.iinc_4 d_law_1548 rfl (by rfl) nI_inc6 ?_
    refine Go.goto (t := 23) d_law_1551 (by decide) ?_
    exact Go.room (ih _ rfl _ _ _ _ _ _ _ _ _ _ _ _ _ _ _ _ _ _ _ _ _ _ ⟨geo, hz, hw0, ho, ho2, hrel, hV, hU⟩) (Nat.le_refl _) (by omega) (by omega)
