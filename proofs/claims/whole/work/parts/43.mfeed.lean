/-! the reference: its tape, its mean -/
theorem div4 : ∀ i : Nat, i < 20 → nI i / 4 = nI (i / 4) := by decide +kernel
theorem ms_at_m_1 {Γ : G9} {h : AH} {m q r sb ro : Nat} {M : MO} {H : SH} {Y : SX} (geo : m + 2 ≤ q ∧ m + 2 ≤ r ∧ (q + 24 ≤ r ∨ r + 21 ≤ q)) (hB : sh_ha H 0 ≤ 5) (hS : sh_ha H 3 ≤ 6) (hC : sh_ha H 6 ≤ 4) (hD : sh_ha H 9 ≤ 4) (hE : sh_ha H 11 ≤ 4) : (md_ Γ h m q r r sb ro M H Y) (m + 1) = some (aI Γ 2000 (mo_ta M)) := by
  unfold md_
  exact ((blk_out (by omega)).trans ((blk_out (by omega)).trans (mo_g1)))
theorem ms_arr_m_1 {Γ : G9} {h : AH} {m q r sb ro : Nat} {M : MO} {H : SH} {Y : SX} {v : Nat → Int32} (geo : m + 2 ≤ q ∧ m + 2 ≤ r ∧ (q + 24 ≤ r ∨ r + 21 ≤ q)) (hB : sh_ha H 0 ≤ 5) (hS : sh_ha H 3 ≤ 6) (hC : sh_ha H 6 ≤ 4) (hD : sh_ha H 9 ≤ 4) (hE : sh_ha H 11 ≤ 4) : hup (md_ Γ h m q r r sb ro M H Y) (m + 1) (aI Γ 2000 v) = (md_ Γ h m q r r sb ro (mo_ta' M v) H Y) := by
  unfold md_
  exact ((hup_blk (by omega)).trans (blk_in ((hup_blk (by omega)).trans (blk_in (mo_a_ta (v := v))))))
theorem d_Model_feed_54 : decode M_Model_feed.2.1 54 = .ok (.iload 7, 2) := by decide +kernel
theorem d_Model_feed_56 : decode M_Model_feed.2.1 56 = .ok (.bipush 20, 2) := by decide +kernel
theorem d_Model_feed_58 : decode M_Model_feed.2.1 58 = .ok (.if_icmp .ge 43, 3) := by decide +kernel
theorem d_Model_feed_61 : decode M_Model_feed.2.1 61 = .ok (.aload_n 0, 1) := by decide +kernel
theorem d_Model_feed_62 : decode M_Model_feed.2.1 62 = .ok (.getfield 9, 3) := by decide +kernel
theorem d_Model_feed_65 : decode M_Model_feed.2.1 65 = .ok (.aload_n 0, 1) := by decide +kernel
theorem d_Model_feed_66 : decode M_Model_feed.2.1 66 = .ok (.getfield 47, 3) := by decide +kernel
theorem d_Model_feed_69 : decode M_Model_feed.2.1 69 = .ok (.iload 7, 2) := by decide +kernel
theorem d_Model_feed_71 : decode M_Model_feed.2.1 71 = .ok (.iadd, 1) := by decide +kernel
theorem d_Model_feed_72 : decode M_Model_feed.2.1 72 = .ok (.aload 6, 2) := by decide +kernel
theorem d_Model_feed_74 : decode M_Model_feed.2.1 74 = .ok (.iload 7, 2) := by decide +kernel
theorem d_Model_feed_76 : decode M_Model_feed.2.1 76 = .ok (.iconst 4, 1) := by decide +kernel
theorem d_Model_feed_77 : decode M_Model_feed.2.1 77 = .ok (.idiv, 1) := by decide +kernel
theorem d_Model_feed_78 : decode M_Model_feed.2.1 78 = .ok (.iaload, 1) := by decide +kernel
theorem d_Model_feed_79 : decode M_Model_feed.2.1 79 = .ok (.bipush 24, 2) := by decide +kernel
theorem d_Model_feed_81 : decode M_Model_feed.2.1 81 = .ok (.iload 7, 2) := by decide +kernel
theorem d_Model_feed_83 : decode M_Model_feed.2.1 83 = .ok (.iconst 4, 1) := by decide +kernel
theorem d_Model_feed_84 : decode M_Model_feed.2.1 84 = .ok (.irem, 1) := by decide +kernel
theorem d_Model_feed_85 : decode M_Model_feed.2.1 85 = .ok (.bipush 8, 2) := by decide +kernel
theorem d_Model_feed_87 : decode M_Model_feed.2.1 87 = .ok (.imul, 1) := by decide +kernel
theorem d_Model_feed_88 : decode M_Model_feed.2.1 88 = .ok (.isub, 1) := by decide +kernel
theorem d_Model_feed_89 : decode M_Model_feed.2.1 89 = .ok (.iushr, 1) := by decide +kernel
theorem d_Model_feed_90 : decode M_Model_feed.2.1 90 = .ok (.sipush 255, 3) := by decide +kernel
theorem d_Model_feed_93 : decode M_Model_feed.2.1 93 = .ok (.iand, 1) := by decide +kernel
theorem d_Model_feed_94 : decode M_Model_feed.2.1 94 = .ok (.iastore, 1) := by decide +kernel
theorem d_Model_feed_95 : decode M_Model_feed.2.1 95 = .ok (.iinc 7 1, 3) := by decide +kernel
theorem d_Model_feed_98 : decode M_Model_feed.2.1 98 = .ok (.goto (-44), 3) := by decide +kernel
def l_Model_feed_54 (H : SH) (Y : SX) (g : Nat → Int32) : Nat → Nat → MO → MO
  | 0, _, M => M
  | k + 1, i, M => (l_Model_feed_54 H Y g k (i + 1) (mo_ta' M (upd (mo_ta M) ((mo_sz M) + i) ((((g (i / 4)).toUInt32 >>> ((24 - (((nI i) - (nI i) / 4 * 4) * 8)).toUInt32 &&& Int32.toUInt32 31)).toInt32) &&& 255))))
set_option maxRecDepth 100000 in
set_option maxHeartbeats 800000 in
theorem l_Model_feed_54_go {Γ : G9} {h : AH} {m q r sb ro z : Nat} {x1 x2 x3 x4 x5 : Int32} {n : Nat} {Q : QT} {X : XT} {H : SH} {Y : SX} {g : Nat → Int32} {f5 : Nat} (h5 : h f5 = some (aI Γ 5 g)) (hz5 : q + 24 ≤ f5 ∧ r + 21 ≤ f5) (geo : m + 2 ≤ q ∧ m + 2 ≤ r ∧ (q + 24 ≤ r ∨ r + 21 ≤ q)) (hB : sh_ha H 0 ≤ 5) (hS : sh_ha H 3 ≤ 6) (hC : sh_ha H 6 ≤ 4) (hD : sh_ha H 9 ≤ 4) (hE : sh_ha H 11 ≤ 4) (hn20 : n ≤ 20) : ∀ (k i : Nat) (M : MO), i + k = n → 20 = n → mo_sz M ≤ 1980 → Go Γ M_Model_feed 0 0 0 101 [some (.ref m), some (.int x1), some (.int x2), some (.int x3), some (.int x4), some (.int x5), some (.ref f5), some (.int (nI (i + k)))] [] (md_ Γ h m q r r sb ro (l_Model_feed_54 H Y g k i M) H Y) z Q X → Go Γ M_Model_feed 0 0 0 54 [some (.ref m), some (.int x1), some (.int x2), some (.int x3), some (.int x4), some (.int x5), some (.ref f5), some (.int (nI i))] [] (md_ Γ h m q r r sb ro M H Y) z Q X := by
  intro k
  induction k with
  | zero =>
    intro i M hi hn hs0 hk
    refine Go.iload_7 d_Model_feed_54 rfl ?_
    refine Go.bipush (v := 20) d_Model_feed_56 rfl (by decide) ?_
    refine Go.icmp_ge (t := 101) d_Model_feed_58 (by decide) rfl (fun c58_1 => ?_) (fun c58_1 => ?_)
    · exact hk
    · exact absurd (show nI 20 ≤ nI i from nI_le (by omega) (by omega)) c58_1
  | succ k ih =>
    intro i M hi hn hs0 hk
    unfold l_Model_feed_54 at hk
    rw [show i + (k + 1) = i + 1 + k by omega] at hk
    refine Go.iload_7 d_Model_feed_54 rfl ?_
    refine Go.bipush (v := 20) d_Model_feed_56 rfl (by decide) ?_
    refine Go.icmp_ge (t := 101) d_Model_feed_58 (by decide) rfl (fun c58_1 => ?_) (fun c58_1 => ?_)
    · exact absurd c58_1 (show ¬ nI 20 ≤ nI i from nI_ge (by omega) (by omega))
    · refine Go.aload_0 d_Model_feed_61 rfl ?_
      refine Go.getfield d_Model_feed_62 rfl f_Model_9 (ms_at_m (by omega) hB hS hC hD hE) (by rfl) ?_
      refine Go.aload_0 d_Model_feed_65 rfl ?_
      refine Go.getfield d_Model_feed_66 rfl f_Model_47 (ms_at_m (by omega) hB hS hC hD hE) (by rfl) ?_
      refine Go.iload_7 d_Model_feed_69 rfl ?_
      refine Go.iadd d_Model_feed_71 rfl ?_
      rw [show (nI (mo_sz M)) + (nI i) = nI ((mo_sz M) + i) from nI_add _ _]
      refine Go.aload_6 d_Model_feed_72 rfl ?_
      refine Go.iload_7 d_Model_feed_74 rfl ?_
      refine Go.iconst (v := 4) d_Model_feed_76 rfl (by decide) ?_
      refine Go.idiv d_Model_feed_77 rfl (by decide) ?_
      rw [div4 i (by omega)]
      refine Go.iaload d_Model_feed_78 rfl ((md_outz (by omega) (by omega)).trans h5) (vp_in_nI (by omega) (by omega)) ?_
      rw [nI_clamp (show (i / 4) < 2 ^ 31 by omega)]
      refine Go.bipush (v := 24) d_Model_feed_79 rfl (by decide) ?_
      refine Go.iload_7 d_Model_feed_81 rfl ?_
      refine Go.iconst (v := 4) d_Model_feed_83 rfl (by decide) ?_
      refine Go.irem d_Model_feed_84 rfl (by decide) ?_
      refine Go.bipush (v := 8) d_Model_feed_85 rfl (by decide) ?_
      refine Go.imul d_Model_feed_87 rfl ?_
      refine Go.isub d_Model_feed_88 rfl ?_
      refine Go.iushr d_Model_feed_89 rfl ?_
      refine Go.sipush (v := 255) d_Model_feed_90 rfl (by decide) ?_
      refine Go.iand d_Model_feed_93 rfl ?_
      refine Go.iastore d_Model_feed_94 rfl (ms_at_m_1 (by omega) hB hS hC hD hE) (show vp_in (nI ((mo_sz M) + i)) 2000 from by first | exact vp_in_nI (by omega) (by omega) | exact vp_nle (by assumption) (by omega) (by omega)) ?_
      rw [nI_clamp (show ((mo_sz M) + i) < 2 ^ 31 by omega)]
      refine Go.heq (ms_arr_m_1 (by omega) hB hS hC hD hE) ?_
      refine Go.iinc_7 d_Model_feed_95 rfl (by rfl) (nI_inc _) ?_
      refine Go.goto (t := 54) d_Model_feed_98 (by decide) ?_
      exact ih (i + 1) _ (by omega) (by first | exact hn | (simp only []; exact hn)) hs0 hk
theorem ms_put_m_size {Γ : G9} {h : AH} {m q r sb ro : Nat} {M : MO} {H : SH} {Y : SX} {v : Nat} (geo : m + 2 ≤ q ∧ m + 2 ≤ r ∧ (q + 24 ≤ r ∨ r + 21 ≤ q)) (hB : sh_ha H 0 ≤ 5) (hS : sh_ha H 3 ≤ 6) (hC : sh_ha H 6 ≤ 4) (hD : sh_ha H 9 ≤ 4) (hE : sh_ha H 11 ≤ 4) : hup (md_ Γ h m q r r sb ro M H Y) m (.inr (11, [.int (mo_th M), .ref (m + 1), .int (nI (mo_sz M)), .int (mo_ea M), .int (nI (mo_tk M)), .int (nI (mo_dp M)), .ref q, .ref r, .ref sb, .int (mo_wk M), .ref ro].set 2 (.int (nI v)))) = (md_ Γ h m q r r sb ro (mo_sz' M v) H Y) := by
  unfold md_
  exact ((hup_blk (by omega)).trans (blk_in ((hup_blk (by omega)).trans (blk_in (mo_p_sz (v := v))))))
theorem d_Model_feed_51 : decode M_Model_feed.2.1 51 = .ok (.iconst 0, 1) := by decide +kernel
theorem d_Model_feed_52 : decode M_Model_feed.2.1 52 = .ok (.istore 7, 2) := by decide +kernel
theorem d_Model_feed_101 : decode M_Model_feed.2.1 101 = .ok (.aload_n 0, 1) := by decide +kernel
theorem d_Model_feed_102 : decode M_Model_feed.2.1 102 = .ok (.dup, 1) := by decide +kernel
theorem d_Model_feed_103 : decode M_Model_feed.2.1 103 = .ok (.getfield 47, 3) := by decide +kernel
theorem d_Model_feed_106 : decode M_Model_feed.2.1 106 = .ok (.bipush 20, 2) := by decide +kernel
theorem d_Model_feed_108 : decode M_Model_feed.2.1 108 = .ok (.iadd, 1) := by decide +kernel
theorem d_Model_feed_109 : decode M_Model_feed.2.1 109 = .ok (.putfield 47, 3) := by decide +kernel
theorem d_Model_feed_112 : decode M_Model_feed.2.1 112 = .ok (.aload_n 0, 1) := by decide +kernel
theorem d_Model_feed_113 : decode M_Model_feed.2.1 113 = .ok (.getfield 47, 3) := by decide +kernel
theorem d_Model_feed_116 : decode M_Model_feed.2.1 116 = .ok (.ireturn, 1) := by decide +kernel
def s_Model_feedRest (M : MO) (H : SH) (Y : SX) (g : Nat → Int32) : Nat × MO := (((mo_sz (l_Model_feed_54 H Y g (20) 0 M)) + 20), (mo_sz' (l_Model_feed_54 H Y g (20) 0 M) ((mo_sz (l_Model_feed_54 H Y g (20) 0 M)) + 20)))
set_option maxRecDepth 100000 in
set_option maxHeartbeats 800000 in
theorem g_Model_feedRest {Γ : G9} {h : AH} {m q r sb ro z : Nat} {x1 x2 x3 x4 x5 : Int32} {M : MO} {H : SH} {Y : SX} {g : Nat → Int32} {f5 : Nat} (h5 : h f5 = some (aI Γ 5 g)) (hz5 : q + 24 ≤ f5 ∧ r + 21 ≤ f5) (geo : m + 2 ≤ q ∧ m + 2 ≤ r ∧ (q + 24 ≤ r ∨ r + 21 ≤ q)) (hB : sh_ha H 0 ≤ 5) (hS : sh_ha H 3 ≤ 6) (hC : sh_ha H 6 ≤ 4) (hD : sh_ha H 9 ≤ 4) (hE : sh_ha H 11 ≤ 4) (hs0 : mo_sz M ≤ 1980) : Go Γ M_Model_feed 0 0 0 51 [some (.ref m), some (.int x1), some (.int x2), some (.int x3), some (.int x4), some (.int x5), some (.ref f5), none] [] (md_ Γ h m q r r sb ro M H Y) z (RQ (some (.int (nI (s_Model_feedRest M H Y g).1))) (md_ Γ h m q r r sb ro (s_Model_feedRest M H Y g).2 H Y) z) noX := by
  unfold s_Model_feedRest
  refine Go.iconst (v := 0) d_Model_feed_51 rfl (by decide) ?_
  refine Go.istore_7 d_Model_feed_52 rfl (by rfl) ?_
  refine l_Model_feed_54_go (n := (20)) h5 hz5 geo hB hS hC hD hE (by decide) (20) 0 M (by omega) rfl hs0 ?_
  refine Go.aload_0 d_Model_feed_101 rfl ?_
  refine Go.dup d_Model_feed_102 rfl rfl ?_
  refine Go.getfield d_Model_feed_103 rfl f_Model_47 (ms_at_m (by omega) hB hS hC hD hE) (by rfl) ?_
  refine Go.bipush (v := 20) d_Model_feed_106 rfl (by decide) ?_
  refine Go.iadd d_Model_feed_108 rfl ?_
  rw [show (nI (mo_sz (l_Model_feed_54 H Y g (20) 0 M))) + 20 = nI ((mo_sz (l_Model_feed_54 H Y g (20) 0 M)) + 20) from nI_add _ _]
  refine Go.putfield d_Model_feed_109 rfl f_Model_47_p (Or.inl (fun C T N h => by cases h; rfl)) (ms_at_m (by omega) hB hS hC hD hE) (by exact Nat.le_of_ble_eq_true rfl) rfl rfl ?_
  refine Go.heq (ms_put_m_size (by omega) hB hS hC hD hE) ?_
  refine Go.aload_0 d_Model_feed_112 rfl ?_
  refine Go.getfield d_Model_feed_113 rfl f_Model_47 (ms_at_m (by omega) hB hS hC hD hE) (by rfl) ?_
  exact Go.iret d_Model_feed_116 rfl rfl ⟨rfl, by dsimp only, rfl⟩
def fv5 (a b c d e : Int32) (j : Nat) : Int32 := if j = 0 then a else if j = 1 then b else if j = 2 then c else if j = 3 then d else e
theorem d_Model_feed_0 : decode M_Model_feed.2.1 0 = .ok (.aload_n 0, 1) := by decide +kernel
theorem d_Model_feed_1 : decode M_Model_feed.2.1 1 = .ok (.iconst 0, 1) := by decide +kernel
theorem d_Model_feed_2 : decode M_Model_feed.2.1 2 = .ok (.putfield 37, 3) := by decide +kernel
theorem d_Model_feed_5 : decode M_Model_feed.2.1 5 = .ok (.aload_n 0, 1) := by decide +kernel
theorem d_Model_feed_6 : decode M_Model_feed.2.1 6 = .ok (.getfield 47, 3) := by decide +kernel
theorem d_Model_feed_9 : decode M_Model_feed.2.1 9 = .ok (.bipush 20, 2) := by decide +kernel
theorem d_Model_feed_11 : decode M_Model_feed.2.1 11 = .ok (.iadd, 1) := by decide +kernel
theorem d_Model_feed_12 : decode M_Model_feed.2.1 12 = .ok (.sipush 2000, 3) := by decide +kernel
theorem d_Model_feed_15 : decode M_Model_feed.2.1 15 = .ok (.if_icmp .le 9, 3) := by decide +kernel
theorem d_Model_feed_18 : decode M_Model_feed.2.1 18 = .ok (.aload_n 0, 1) := by decide +kernel
theorem d_Model_feed_19 : decode M_Model_feed.2.1 19 = .ok (.iconst 1, 1) := by decide +kernel
theorem d_Model_feed_20 : decode M_Model_feed.2.1 20 = .ok (.invokevirtual 427, 3) := by decide +kernel
theorem d_Model_feed_23 : decode M_Model_feed.2.1 23 = .ok (.ireturn, 1) := by decide +kernel
theorem d_Model_feed_24 : decode M_Model_feed.2.1 24 = .ok (.iconst 5, 1) := by decide +kernel
theorem d_Model_feed_25 : decode M_Model_feed.2.1 25 = .ok (.newarray .int, 2) := by decide +kernel
theorem d_Model_feed_27 : decode M_Model_feed.2.1 27 = .ok (.dup, 1) := by decide +kernel
theorem d_Model_feed_28 : decode M_Model_feed.2.1 28 = .ok (.iconst 0, 1) := by decide +kernel
theorem d_Model_feed_29 : decode M_Model_feed.2.1 29 = .ok (.iload_n 1, 1) := by decide +kernel
theorem d_Model_feed_30 : decode M_Model_feed.2.1 30 = .ok (.iastore, 1) := by decide +kernel
theorem d_Model_feed_31 : decode M_Model_feed.2.1 31 = .ok (.dup, 1) := by decide +kernel
theorem d_Model_feed_32 : decode M_Model_feed.2.1 32 = .ok (.iconst 1, 1) := by decide +kernel
theorem d_Model_feed_33 : decode M_Model_feed.2.1 33 = .ok (.iload_n 2, 1) := by decide +kernel
theorem d_Model_feed_34 : decode M_Model_feed.2.1 34 = .ok (.iastore, 1) := by decide +kernel
theorem d_Model_feed_35 : decode M_Model_feed.2.1 35 = .ok (.dup, 1) := by decide +kernel
theorem d_Model_feed_36 : decode M_Model_feed.2.1 36 = .ok (.iconst 2, 1) := by decide +kernel
theorem d_Model_feed_37 : decode M_Model_feed.2.1 37 = .ok (.iload_n 3, 1) := by decide +kernel
theorem d_Model_feed_38 : decode M_Model_feed.2.1 38 = .ok (.iastore, 1) := by decide +kernel
theorem d_Model_feed_39 : decode M_Model_feed.2.1 39 = .ok (.dup, 1) := by decide +kernel
theorem d_Model_feed_40 : decode M_Model_feed.2.1 40 = .ok (.iconst 3, 1) := by decide +kernel
theorem d_Model_feed_41 : decode M_Model_feed.2.1 41 = .ok (.iload 4, 2) := by decide +kernel
theorem d_Model_feed_43 : decode M_Model_feed.2.1 43 = .ok (.iastore, 1) := by decide +kernel
theorem d_Model_feed_44 : decode M_Model_feed.2.1 44 = .ok (.dup, 1) := by decide +kernel
theorem d_Model_feed_45 : decode M_Model_feed.2.1 45 = .ok (.iconst 4, 1) := by decide +kernel
theorem d_Model_feed_46 : decode M_Model_feed.2.1 46 = .ok (.iload 5, 2) := by decide +kernel
theorem d_Model_feed_48 : decode M_Model_feed.2.1 48 = .ok (.iastore, 1) := by decide +kernel
theorem d_Model_feed_49 : decode M_Model_feed.2.1 49 = .ok (.astore 6, 2) := by decide +kernel
def s_Model_feed (M : MO) (H : SH) (Y : SX) (x1 x2 x3 x4 x5 : Int32) : Int32 × MO := (if (nI ((mo_sz M) + 20)) ≤ 2000 then (nI (s_Model_feedRest (mo_th' M 0) H Y (fv5 x1 x2 x3 x4 x5)).1, (s_Model_feedRest (mo_th' M 0) H Y (fv5 x1 x2 x3 x4 x5)).2) else ((s_Model_no (mo_th' M 0) H Y 1).1, (s_Model_no (mo_th' M 0) H Y 1).2))
set_option maxRecDepth 100000 in
set_option maxHeartbeats 800000 in
theorem c_Model_feed {Γ : G9} {h : AH} {m q r sb ro z : Nat} {x1 x2 x3 x4 x5 : Int32} {M : MO} {H : SH} {Y : SX} (geo : m + 2 ≤ q ∧ m + 2 ≤ r ∧ (q + 24 ≤ r ∨ r + 21 ≤ q)) (hz : q + 24 ≤ z ∧ r + 21 ≤ z) (hB : sh_ha H 0 ≤ 5) (hS : sh_ha H 3 ≤ 6) (hC : sh_ha H 6 ≤ 4) (hD : sh_ha H 9 ≤ 4) (hE : sh_ha H 11 ≤ 4) (hsz : mo_sz M ≤ 2000) : Call Γ M_Model_feed 1 1 5 [.ref m, .int x1, .int x2, .int x3, .int x4, .int x5] (md_ Γ h m q r r sb ro M H Y) z (fun v h2 z2 => v = some (.int (s_Model_feed M H Y x1 x2 x3 x4 x5).1) ∧ z ≤ z2 ∧ ∃ h3 : AH, (∀ a, a < z → h3 a = h a) ∧ h2 = md_ Γ h3 m q r r sb ro (s_Model_feed M H Y x1 x2 x3 x4 x5).2 H Y) noX := by
  refine Call.of_go (L := [some (.ref m), some (.int x1), some (.int x2), some (.int x3), some (.int x4), some (.int x5), none, none]) (by decide +kernel) rfl (by exact Nat.le_of_ble_eq_true rfl) ?_
  unfold s_Model_feed
  refine Go.aload_0 d_Model_feed_0 rfl ?_
  refine Go.iconst (v := 0) d_Model_feed_1 rfl (by decide) ?_
  refine Go.putfield d_Model_feed_2 rfl f_Model_37_p (Or.inl (fun C T N h => by cases h; rfl)) (ms_at_m (by omega) hB hS hC hD hE) (by exact Nat.le_of_ble_eq_true rfl) rfl rfl ?_
  refine Go.heq (ms_put_m_thrown (by omega) hB hS hC hD hE) ?_
  refine Go.aload_0 d_Model_feed_5 rfl ?_
  refine Go.getfield d_Model_feed_6 rfl f_Model_47 (ms_at_m (by omega) hB hS hC hD hE) (by rfl) ?_
  refine Go.bipush (v := 20) d_Model_feed_9 rfl (by decide) ?_
  refine Go.iadd d_Model_feed_11 rfl ?_
  rw [show (nI (mo_sz M)) + 20 = nI ((mo_sz M) + 20) from nI_add _ _]
  refine Go.sipush (v := 2000) d_Model_feed_12 rfl (by decide) ?_
  refine Go.icmp_le (t := 24) d_Model_feed_15 (by decide) rfl (fun c15_1 => ?_) (fun c15_1 => ?_)
  · refine Go.iconst (v := 5) d_Model_feed_24 rfl (by decide) ?_
    refine Go.newI (C1 := 0) (S1 := 0) (N := 5) d_Model_feed_25 rfl rfl (by decide) (by decide) (by decide) ?_
    refine Go.heq (md_hup (by omega) (by omega)) ?_
    refine Go.dup d_Model_feed_27 rfl rfl ?_
    refine Go.iconst (v := 0) d_Model_feed_28 rfl (by decide) ?_
    refine Go.iload_1 d_Model_feed_29 rfl ?_
    refine Go.iastore d_Model_feed_30 rfl ((md_outz (by omega) (by omega)).trans hup_at) (show vp_in (nI 0) 5 from vp_in_nI (by decide) (by decide)) ?_
    refine Go.heq (md_hup2 (by omega) (by omega)) ?_
    refine Go.dup d_Model_feed_31 rfl rfl ?_
    refine Go.iconst (v := 1) d_Model_feed_32 rfl (by decide) ?_
    refine Go.iload_2 d_Model_feed_33 rfl ?_
    refine Go.iastore d_Model_feed_34 rfl ((md_outz (by omega) (by omega)).trans hup_at) (show vp_in (nI 1) 5 from vp_in_nI (by decide) (by decide)) ?_
    refine Go.heq (md_hup2 (by omega) (by omega)) ?_
    refine Go.dup d_Model_feed_35 rfl rfl ?_
    refine Go.iconst (v := 2) d_Model_feed_36 rfl (by decide) ?_
    refine Go.iload_3 d_Model_feed_37 rfl ?_
    refine Go.iastore d_Model_feed_38 rfl ((md_outz (by omega) (by omega)).trans hup_at) (show vp_in (nI 2) 5 from vp_in_nI (by decide) (by decide)) ?_
    refine Go.heq (md_hup2 (by omega) (by omega)) ?_
    refine Go.dup d_Model_feed_39 rfl rfl ?_
    refine Go.iconst (v := 3) d_Model_feed_40 rfl (by decide) ?_
    refine Go.iload_4 d_Model_feed_41 rfl ?_
    refine Go.iastore d_Model_feed_43 rfl ((md_outz (by omega) (by omega)).trans hup_at) (show vp_in (nI 3) 5 from vp_in_nI (by decide) (by decide)) ?_
    refine Go.heq (md_hup2 (by omega) (by omega)) ?_
    refine Go.dup d_Model_feed_44 rfl rfl ?_
    refine Go.iconst (v := 4) d_Model_feed_45 rfl (by decide) ?_
    refine Go.iload_5 d_Model_feed_46 rfl ?_
    refine Go.iastore d_Model_feed_48 rfl ((md_outz (by omega) (by omega)).trans hup_at) (show vp_in (nI 4) 5 from vp_in_nI (by decide) (by decide)) ?_
    refine Go.heq (md_hup2 (by omega) (by omega)) ?_
    refine Go.astore_6 d_Model_feed_49 rfl (by rfl) ?_
    rw [if_pos c15_1]
    refine Go.pic (g := fv5 x1 x2 x3 x4 x5) ((md_outz (by omega) (by omega)).trans hup_at) (fun j hj => by
      match j, hj with
      | 0, _ => rfl
      | 1, _ => rfl
      | 2, _ => rfl
      | 3, _ => rfl
      | 4, _ => rfl
      | _ + 5, w => exact absurd w (by omega)) ?_
    refine Go.heq (md_hup2 (by omega) (by omega)) ?_
    have hs0 : mo_sz M + 20 ≤ 2000 := (nI_leI (b := 2000) (by omega) (by omega)).mp c15_1
    exact Go.mono (Go.room (g_Model_feedRest (g := fv5 x1 x2 x3 x4 x5) (f5 := z) hup_at hz (by omega) hB hS hC hD hE (show mo_sz M ≤ 1980 by omega)) (Nat.zero_le _) (Nat.zero_le _) (Nat.zero_le _)) (fun v h2 z2 hq => ⟨hq.1, by rw [hq.2.2]; omega, _, fun a ha => hup_ne (Nat.ne_of_lt ha), hq.2.1⟩) (fun _ _ _ hx => hx)
  · refine Go.aload_0 d_Model_feed_18 rfl ?_
    refine Go.iconst (v := 1) d_Model_feed_19 rfl (by decide) ?_
    refine Go.cv1r d_Model_feed_20 rfl l_Model_427 k_Model_no_v (ms_at_m (by omega) hB hS hC hD hE) rfl (c_Model_no (by omega) hB hS hC hD hE) (Nat.ble_eq_true_of_le (by omega)) rfl rfl ?_
    rw [if_neg c15_1]
    exact Go.iret d_Model_feed_23 rfl rfl ⟨rfl, Nat.le_refl _, _, fun _ _ => rfl, rfl⟩
theorem isIn_neg {x b : Int32} (h : x < 0) : s_Model_isIn x 0 b = 0 := by
  unfold s_Model_isIn
  rw [if_pos h]
theorem d_Model_trim_0 : decode M_Model_trim.2.1 0 = .ok (.aload_n 0, 1) := by decide +kernel
theorem d_Model_trim_1 : decode M_Model_trim.2.1 1 = .ok (.iconst 0, 1) := by decide +kernel
theorem d_Model_trim_2 : decode M_Model_trim.2.1 2 = .ok (.putfield 37, 3) := by decide +kernel
theorem d_Model_trim_5 : decode M_Model_trim.2.1 5 = .ok (.iload_n 1, 1) := by decide +kernel
theorem d_Model_trim_6 : decode M_Model_trim.2.1 6 = .ok (.iconst 0, 1) := by decide +kernel
theorem d_Model_trim_7 : decode M_Model_trim.2.1 7 = .ok (.aload_n 0, 1) := by decide +kernel
theorem d_Model_trim_8 : decode M_Model_trim.2.1 8 = .ok (.getfield 47, 3) := by decide +kernel
theorem d_Model_trim_11 : decode M_Model_trim.2.1 11 = .ok (.invokestatic 43, 3) := by decide +kernel
theorem d_Model_trim_14 : decode M_Model_trim.2.1 14 = .ok (.ifCond .ne 9, 3) := by decide +kernel
theorem d_Model_trim_17 : decode M_Model_trim.2.1 17 = .ok (.aload_n 0, 1) := by decide +kernel
theorem d_Model_trim_18 : decode M_Model_trim.2.1 18 = .ok (.iconst 1, 1) := by decide +kernel
theorem d_Model_trim_19 : decode M_Model_trim.2.1 19 = .ok (.invokevirtual 427, 3) := by decide +kernel
theorem d_Model_trim_22 : decode M_Model_trim.2.1 22 = .ok (.ireturn, 1) := by decide +kernel
theorem d_Model_trim_23 : decode M_Model_trim.2.1 23 = .ok (.aload_n 0, 1) := by decide +kernel
theorem d_Model_trim_24 : decode M_Model_trim.2.1 24 = .ok (.iload_n 1, 1) := by decide +kernel
theorem d_Model_trim_25 : decode M_Model_trim.2.1 25 = .ok (.putfield 47, 3) := by decide +kernel
theorem d_Model_trim_28 : decode M_Model_trim.2.1 28 = .ok (.iload_n 1, 1) := by decide +kernel
theorem d_Model_trim_29 : decode M_Model_trim.2.1 29 = .ok (.ireturn, 1) := by decide +kernel
def s_Model_trim (M : MO) (H : SH) (Y : SX) (x1 : Nat) : Int32 × MO := (if (s_Model_isIn (nI x1) 0 (nI (mo_sz M))) = 0 then ((s_Model_no (mo_th' M 0) H Y 1).1, (s_Model_no (mo_th' M 0) H Y 1).2) else ((nI x1), (mo_sz' (mo_th' M 0) x1)))
set_option maxRecDepth 100000 in
set_option maxHeartbeats 800000 in
theorem c_Model_trim {Γ : G9} {h : AH} {m q r sb ro z : Nat} {M : MO} {H : SH} {Y : SX} {x1 : Nat} {vx1 : Int32} (ex1 : vx1 = nI x1) (bx1 : x1 < 2 ^ 31) (geo : m + 2 ≤ q ∧ m + 2 ≤ r ∧ (q + 24 ≤ r ∨ r + 21 ≤ q)) (hB : sh_ha H 0 ≤ 5) (hS : sh_ha H 3 ≤ 6) (hC : sh_ha H 6 ≤ 4) (hD : sh_ha H 9 ≤ 4) (hE : sh_ha H 11 ≤ 4) : CallR Γ M_Model_trim 1 [.ref m, .int vx1] (md_ Γ h m q r r sb ro M H Y) z (some (.int (s_Model_trim M H Y x1).1)) (md_ Γ h m q r r sb ro (s_Model_trim M H Y x1).2 H Y) := by
  subst ex1
  refine Call.of_go (L := [some (.ref m), some (.int (nI x1))]) (by decide +kernel) rfl (by exact Nat.le_of_ble_eq_true rfl) ?_
  unfold s_Model_trim
  refine Go.aload_0 d_Model_trim_0 rfl ?_
  refine Go.iconst (v := 0) d_Model_trim_1 rfl (by decide) ?_
  refine Go.putfield d_Model_trim_2 rfl f_Model_37_p (Or.inl (fun C T N h => by cases h; rfl)) (ms_at_m (by omega) hB hS hC hD hE) (by exact Nat.le_of_ble_eq_true rfl) rfl rfl ?_
  refine Go.heq (ms_put_m_thrown (by omega) hB hS hC hD hE) ?_
  refine Go.iload_1 d_Model_trim_5 rfl ?_
  refine Go.iconst (v := 0) d_Model_trim_6 rfl (by decide) ?_
  refine Go.aload_0 d_Model_trim_7 rfl ?_
  refine Go.getfield d_Model_trim_8 rfl f_Model_47 (ms_at_m (by omega) hB hS hC hD hE) (by rfl) ?_
  refine Go.cs3r d_Model_trim_11 rfl l_Model_43 k_Model_isIn_s rfl (ms_c_Model_isIn_ (by omega) hB hS hC hD hE) (Nat.ble_eq_true_of_le (by omega)) rfl rfl ?_
  refine Go.if_ne (t := 23) d_Model_trim_14 (by decide) rfl (fun c14_1 => ?_) (fun c14_1 => ?_)
  · refine Go.aload_0 d_Model_trim_23 rfl ?_
    refine Go.iload_1 d_Model_trim_24 rfl ?_
    refine Go.putfield d_Model_trim_25 rfl f_Model_47_p (Or.inl (fun C T N h => by cases h; rfl)) (ms_at_m (by omega) hB hS hC hD hE) (by exact Nat.le_of_ble_eq_true rfl) rfl rfl ?_
    refine Go.heq (ms_put_m_size (by omega) hB hS hC hD hE) ?_
    refine Go.iload_1 d_Model_trim_28 rfl ?_
    rw [if_neg c14_1]
    exact Go.iret d_Model_trim_29 rfl rfl ⟨rfl, by dsimp only, rfl⟩
  · refine Go.aload_0 d_Model_trim_17 rfl ?_
    refine Go.iconst (v := 1) d_Model_trim_18 rfl (by decide) ?_
    refine Go.cv1r d_Model_trim_19 rfl l_Model_427 k_Model_no_v (ms_at_m (by omega) hB hS hC hD hE) rfl (c_Model_no (by omega) hB hS hC hD hE) (Nat.ble_eq_true_of_le (by omega)) rfl rfl ?_
    rw [if_pos c14_1]
    exact Go.iret d_Model_trim_22 rfl rfl ⟨rfl, by dsimp only, rfl⟩
def s_Model_trimN (M : MO) (H : SH) (Y : SX) (x1 : Int32) : Int32 × MO := ((s_Model_no (mo_th' M 0) H Y 1).1, (s_Model_no (mo_th' M 0) H Y 1).2)
set_option maxRecDepth 100000 in
set_option maxHeartbeats 800000 in
theorem c_Model_trimN {Γ : G9} {h : AH} {m q r sb ro z : Nat} {M : MO} {H : SH} {Y : SX} {x1 : Int32} (geo : m + 2 ≤ q ∧ m + 2 ≤ r ∧ (q + 24 ≤ r ∨ r + 21 ≤ q)) (hB : sh_ha H 0 ≤ 5) (hS : sh_ha H 3 ≤ 6) (hC : sh_ha H 6 ≤ 4) (hD : sh_ha H 9 ≤ 4) (hE : sh_ha H 11 ≤ 4) (hneg : x1 < 0) : CallR Γ M_Model_trim 1 [.ref m, .int x1] (md_ Γ h m q r r sb ro M H Y) z (some (.int (s_Model_trimN M H Y x1).1)) (md_ Γ h m q r r sb ro (s_Model_trimN M H Y x1).2 H Y) := by
  refine Call.of_go (L := [some (.ref m), some (.int x1)]) (by decide +kernel) rfl (by exact Nat.le_of_ble_eq_true rfl) ?_
  unfold s_Model_trimN
  refine Go.aload_0 d_Model_trim_0 rfl ?_
  refine Go.iconst (v := 0) d_Model_trim_1 rfl (by decide) ?_
  refine Go.putfield d_Model_trim_2 rfl f_Model_37_p (Or.inl (fun C T N h => by cases h; rfl)) (ms_at_m (by omega) hB hS hC hD hE) (by exact Nat.le_of_ble_eq_true rfl) rfl rfl ?_
  refine Go.heq (ms_put_m_thrown (by omega) hB hS hC hD hE) ?_
  refine Go.iload_1 d_Model_trim_5 rfl ?_
  refine Go.iconst (v := 0) d_Model_trim_6 rfl (by decide) ?_
  refine Go.aload_0 d_Model_trim_7 rfl ?_
  refine Go.getfield d_Model_trim_8 rfl f_Model_47 (ms_at_m (by omega) hB hS hC hD hE) (by rfl) ?_
  refine Go.cs3r d_Model_trim_11 rfl l_Model_43 k_Model_isIn_s rfl (ms_c_Model_isIn_ (by omega) hB hS hC hD hE) (Nat.ble_eq_true_of_le (by omega)) rfl rfl ?_
  refine Go.if_ne (t := 23) d_Model_trim_14 (by decide) rfl (fun c14_1 => ?_) (fun c14_1 => ?_)
  · exact absurd (isIn_neg hneg) c14_1
  · refine Go.aload_0 d_Model_trim_17 rfl ?_
    refine Go.iconst (v := 1) d_Model_trim_18 rfl (by decide) ?_
    refine Go.cv1r d_Model_trim_19 rfl l_Model_427 k_Model_no_v (ms_at_m (by omega) hB hS hC hD hE) rfl (c_Model_no (by omega) hB hS hC hD hE) (Nat.ble_eq_true_of_le (by omega)) rfl rfl ?_
    exact Go.iret d_Model_trim_22 rfl rfl ⟨rfl, by dsimp only, rfl⟩
theorem d_Model_mean_9 : decode M_Model_mean.2.1 9 = .ok (.iload_n 2, 1) := by decide +kernel
theorem d_Model_mean_10 : decode M_Model_mean.2.1 10 = .ok (.aload_n 0, 1) := by decide +kernel
theorem d_Model_mean_11 : decode M_Model_mean.2.1 11 = .ok (.getfield 20, 3) := by decide +kernel
theorem d_Model_mean_14 : decode M_Model_mean.2.1 14 = .ok (.getfield 40, 3) := by decide +kernel
theorem d_Model_mean_17 : decode M_Model_mean.2.1 17 = .ok (.iconst 0, 1) := by decide +kernel
theorem d_Model_mean_18 : decode M_Model_mean.2.1 18 = .ok (.iaload, 1) := by decide +kernel
theorem d_Model_mean_19 : decode M_Model_mean.2.1 19 = .ok (.if_icmp .ge 21, 3) := by decide +kernel
theorem d_Model_mean_22 : decode M_Model_mean.2.1 22 = .ok (.iload_n 1, 1) := by decide +kernel
theorem d_Model_mean_23 : decode M_Model_mean.2.1 23 = .ok (.aload_n 0, 1) := by decide +kernel
theorem d_Model_mean_24 : decode M_Model_mean.2.1 24 = .ok (.getfield 27, 3) := by decide +kernel
theorem d_Model_mean_27 : decode M_Model_mean.2.1 27 = .ok (.getfield 303, 3) := by decide +kernel
theorem d_Model_mean_30 : decode M_Model_mean.2.1 30 = .ok (.iload_n 2, 1) := by decide +kernel
theorem d_Model_mean_31 : decode M_Model_mean.2.1 31 = .ok (.iaload, 1) := by decide +kernel
theorem d_Model_mean_32 : decode M_Model_mean.2.1 32 = .ok (.iadd, 1) := by decide +kernel
theorem d_Model_mean_33 : decode M_Model_mean.2.1 33 = .ok (.istore_n 1, 1) := by decide +kernel
theorem d_Model_mean_34 : decode M_Model_mean.2.1 34 = .ok (.iinc 2 1, 3) := by decide +kernel
theorem d_Model_mean_37 : decode M_Model_mean.2.1 37 = .ok (.goto (-28), 3) := by decide +kernel
def l_Model_mean_9 (M : MO) (H : SH) (Y : SX) : Nat → Nat → Int32 → Int32
  | 0, _, s => s
  | k + 1, i, s => (l_Model_mean_9 M H Y k (i + 1) (s + ((sx_sn Y) i)))
set_option maxRecDepth 100000 in
set_option maxHeartbeats 800000 in
theorem l_Model_mean_9_go {Γ : G9} {h : AH} {m q r sb ro z : Nat} {n : Nat} {Q : QT} {X : XT} {M : MO} {H : SH} {Y : SX} (geo : m + 2 ≤ q ∧ m + 2 ≤ r ∧ (q + 24 ≤ r ∨ r + 21 ≤ q)) (hB : sh_ha H 0 ≤ 5) (hS : sh_ha H 3 ≤ 6) (hC : sh_ha H 6 ≤ 4) (hD : sh_ha H 9 ≤ 4) (hE : sh_ha H 11 ≤ 4) (hn20 : n ≤ 20) (hn : sh_ha H 0 = n) : ∀ (k i : Nat) (s : Int32), i + k = n → Go Γ M_Model_mean 0 0 0 40 [some (.ref m), some (.int (l_Model_mean_9 M H Y k i s)), some (.int (nI (i + k)))] [] (md_ Γ h m q r r sb ro M H Y) z Q X → Go Γ M_Model_mean 0 0 0 9 [some (.ref m), some (.int s), some (.int (nI i))] [] (md_ Γ h m q r r sb ro M H Y) z Q X := by
  intro k
  induction k with
  | zero =>
    intro i s hi hk
    refine Go.iload_2 d_Model_mean_9 rfl ?_
    refine Go.aload_0 d_Model_mean_10 rfl ?_
    refine Go.getfield d_Model_mean_11 rfl f_Model_20 (ms_at_m (by omega) hB hS hC hD hE) (by rfl) ?_
    refine Go.getfield d_Model_mean_14 rfl f_Model_40 (ms_at_q (by omega) hB hS hC hD hE) (by rfl) ?_
    refine Go.iconst (v := 0) d_Model_mean_17 rfl (by decide) ?_
    refine Go.iaload d_Model_mean_18 rfl (ms_at_q_5 (by omega) hB hS hC hD hE) (show vp_in (nI 0) 12 from by first | exact vp_in_nI (by omega) (by omega) | exact vp_nle (by assumption) (by omega) (by omega)) ?_
    rw [show (0 : Int32).toNatClampNeg = 0 from by decide]
    refine Go.icmp_ge (t := 40) d_Model_mean_19 (by decide) rfl (fun c19_1 => ?_) (fun c19_1 => ?_)
    · exact hk
    · exact absurd (nI_le (by omega) (by omega)) c19_1
  | succ k ih =>
    intro i s hi hk
    unfold l_Model_mean_9 at hk
    rw [show i + (k + 1) = i + 1 + k by omega] at hk
    refine Go.iload_2 d_Model_mean_9 rfl ?_
    refine Go.aload_0 d_Model_mean_10 rfl ?_
    refine Go.getfield d_Model_mean_11 rfl f_Model_20 (ms_at_m (by omega) hB hS hC hD hE) (by rfl) ?_
    refine Go.getfield d_Model_mean_14 rfl f_Model_40 (ms_at_q (by omega) hB hS hC hD hE) (by rfl) ?_
    refine Go.iconst (v := 0) d_Model_mean_17 rfl (by decide) ?_
    refine Go.iaload d_Model_mean_18 rfl (ms_at_q_5 (by omega) hB hS hC hD hE) (show vp_in (nI 0) 12 from by first | exact vp_in_nI (by omega) (by omega) | exact vp_nle (by assumption) (by omega) (by omega)) ?_
    rw [show (0 : Int32).toNatClampNeg = 0 from by decide]
    refine Go.icmp_ge (t := 40) d_Model_mean_19 (by decide) rfl (fun c19_1 => ?_) (fun c19_1 => ?_)
    · exact absurd c19_1 (nI_ge (by omega) (by omega))
    · refine Go.iload_1 d_Model_mean_22 rfl ?_
      refine Go.aload_0 d_Model_mean_23 rfl ?_
      refine Go.getfield d_Model_mean_24 rfl f_Model_27 (ms_at_m (by omega) hB hS hC hD hE) (by rfl) ?_
      refine Go.getfield d_Model_mean_27 rfl f_Model_303 (ms_at_r (by omega) hB hS hC hD hE) (by rfl) ?_
      refine Go.iload_2 d_Model_mean_30 rfl ?_
      refine Go.iaload d_Model_mean_31 rfl (ms_at_r_2 (by omega) hB hS hC hD hE) (show vp_in (nI i) 5 from by first | exact vp_in_nI (by omega) (by omega) | exact vp_nle (by assumption) (by omega) (by omega)) ?_
      rw [nI_clamp (show i < 2 ^ 31 by omega)]
      refine Go.iadd d_Model_mean_32 rfl ?_
      refine Go.istore_1 d_Model_mean_33 rfl (by rfl) ?_
      refine Go.iinc_2 d_Model_mean_34 rfl (by rfl) (nI_inc _) ?_
      refine Go.goto (t := 9) d_Model_mean_37 (by decide) ?_
      exact ih (i + 1) _ (by omega) hk
theorem d_Model_mean_0 : decode M_Model_mean.2.1 0 = .ok (.aload_n 0, 1) := by decide +kernel
theorem d_Model_mean_1 : decode M_Model_mean.2.1 1 = .ok (.iconst 0, 1) := by decide +kernel
theorem d_Model_mean_2 : decode M_Model_mean.2.1 2 = .ok (.putfield 37, 3) := by decide +kernel
theorem d_Model_mean_5 : decode M_Model_mean.2.1 5 = .ok (.iconst 0, 1) := by decide +kernel
theorem d_Model_mean_6 : decode M_Model_mean.2.1 6 = .ok (.istore_n 1, 1) := by decide +kernel
theorem d_Model_mean_7 : decode M_Model_mean.2.1 7 = .ok (.iconst 0, 1) := by decide +kernel
theorem d_Model_mean_8 : decode M_Model_mean.2.1 8 = .ok (.istore_n 2, 1) := by decide +kernel
theorem d_Model_mean_40 : decode M_Model_mean.2.1 40 = .ok (.aload_n 0, 1) := by decide +kernel
theorem d_Model_mean_41 : decode M_Model_mean.2.1 41 = .ok (.getfield 20, 3) := by decide +kernel
theorem d_Model_mean_44 : decode M_Model_mean.2.1 44 = .ok (.getfield 40, 3) := by decide +kernel
theorem d_Model_mean_47 : decode M_Model_mean.2.1 47 = .ok (.iconst 0, 1) := by decide +kernel
theorem d_Model_mean_48 : decode M_Model_mean.2.1 48 = .ok (.iaload, 1) := by decide +kernel
theorem d_Model_mean_49 : decode M_Model_mean.2.1 49 = .ok (.ifCond .ne 7, 3) := by decide +kernel
theorem d_Model_mean_52 : decode M_Model_mean.2.1 52 = .ok (.dconst 0, 1) := by decide +kernel
theorem d_Model_mean_53 : decode M_Model_mean.2.1 53 = .ok (.goto 16, 3) := by decide +kernel
theorem d_Model_mean_56 : decode M_Model_mean.2.1 56 = .ok (.iload_n 1, 1) := by decide +kernel
theorem d_Model_mean_57 : decode M_Model_mean.2.1 57 = .ok (.i2d, 1) := by decide +kernel
theorem d_Model_mean_58 : decode M_Model_mean.2.1 58 = .ok (.aload_n 0, 1) := by decide +kernel
theorem d_Model_mean_59 : decode M_Model_mean.2.1 59 = .ok (.getfield 20, 3) := by decide +kernel
theorem d_Model_mean_62 : decode M_Model_mean.2.1 62 = .ok (.getfield 40, 3) := by decide +kernel
theorem d_Model_mean_65 : decode M_Model_mean.2.1 65 = .ok (.iconst 0, 1) := by decide +kernel
theorem d_Model_mean_66 : decode M_Model_mean.2.1 66 = .ok (.iaload, 1) := by decide +kernel
theorem d_Model_mean_67 : decode M_Model_mean.2.1 67 = .ok (.i2d, 1) := by decide +kernel
theorem d_Model_mean_68 : decode M_Model_mean.2.1 68 = .ok (.ddiv, 1) := by decide +kernel
theorem d_Model_mean_69 : decode M_Model_mean.2.1 69 = .ok (.dreturn, 1) := by decide +kernel
def s_Model_mean (M : MO) (H : SH) (Y : SX) : UInt64 × MO := (if (nI ((sh_ha H) 0)) = 0 then (0, (mo_th' M 0)) else ((FP.ddiv (FP.i2d (l_Model_mean_9 (mo_th' M 0) H Y (sh_ha H 0) 0 0)) (FP.i2d (nI ((sh_ha H) 0)))), (mo_th' M 0)))
set_option maxRecDepth 100000 in
set_option maxHeartbeats 800000 in
theorem c_Model_mean {Γ : G9} {h : AH} {m q r sb ro z : Nat} {M : MO} {H : SH} {Y : SX} (geo : m + 2 ≤ q ∧ m + 2 ≤ r ∧ (q + 24 ≤ r ∨ r + 21 ≤ q)) (hB : sh_ha H 0 ≤ 5) (hS : sh_ha H 3 ≤ 6) (hC : sh_ha H 6 ≤ 4) (hD : sh_ha H 9 ≤ 4) (hE : sh_ha H 11 ≤ 4) (hnn : ¬ (nI (sh_ha H 0)) = 0 → vf_n64 (FP.ddiv (FP.i2d (l_Model_mean_9 (mo_th' M 0) H Y (sh_ha H 0) 0 0)) (FP.i2d (nI (sh_ha H 0))))) : CallR Γ M_Model_mean 0 [.ref m] (md_ Γ h m q r r sb ro M H Y) z (some (.double (s_Model_mean M H Y).1)) (md_ Γ h m q r r sb ro (s_Model_mean M H Y).2 H Y) := by
  refine Call.of_go (L := [some (.ref m), none, none]) (by decide +kernel) rfl (by exact Nat.le_of_ble_eq_true rfl) ?_
  unfold s_Model_mean
  refine Go.aload_0 d_Model_mean_0 rfl ?_
  refine Go.iconst (v := 0) d_Model_mean_1 rfl (by decide) ?_
  refine Go.putfield d_Model_mean_2 rfl f_Model_37_p (Or.inl (fun C T N h => by cases h; rfl)) (ms_at_m (by omega) hB hS hC hD hE) (by exact Nat.le_of_ble_eq_true rfl) rfl rfl ?_
  refine Go.heq (ms_put_m_thrown (by omega) hB hS hC hD hE) ?_
  refine Go.iconst (v := 0) d_Model_mean_5 rfl (by decide) ?_
  refine Go.istore_1 d_Model_mean_6 rfl (by rfl) ?_
  refine Go.iconst (v := 0) d_Model_mean_7 rfl (by decide) ?_
  refine Go.istore_2 d_Model_mean_8 rfl (by rfl) ?_
  refine l_Model_mean_9_go (n := (sh_ha H 0)) geo hB hS hC hD hE (by omega) rfl (sh_ha H 0) 0 0 (by omega) ?_
  refine Go.aload_0 d_Model_mean_40 rfl ?_
  refine Go.getfield d_Model_mean_41 rfl f_Model_20 (ms_at_m (by omega) hB hS hC hD hE) (by rfl) ?_
  refine Go.getfield d_Model_mean_44 rfl f_Model_40 (ms_at_q (by omega) hB hS hC hD hE) (by rfl) ?_
  refine Go.iconst (v := 0) d_Model_mean_47 rfl (by decide) ?_
  refine Go.iaload d_Model_mean_48 rfl (ms_at_q_5 (by omega) hB hS hC hD hE) (show vp_in (nI 0) 12 from by first | exact vp_in_nI (by omega) (by omega) | exact vp_nle (by assumption) (by omega) (by omega)) ?_
  rw [show (0 : Int32).toNatClampNeg = 0 from by decide]
  refine Go.if_ne (t := 56) d_Model_mean_49 (by decide) rfl (fun c49_1 => ?_) (fun c49_1 => ?_)
  · refine Go.iload_1 d_Model_mean_56 rfl ?_
    refine Go.i2d d_Model_mean_57 rfl ?_
    refine Go.aload_0 d_Model_mean_58 rfl ?_
    refine Go.getfield d_Model_mean_59 rfl f_Model_20 (ms_at_m (by omega) hB hS hC hD hE) (by rfl) ?_
    refine Go.getfield d_Model_mean_62 rfl f_Model_40 (ms_at_q (by omega) hB hS hC hD hE) (by rfl) ?_
    refine Go.iconst (v := 0) d_Model_mean_65 rfl (by decide) ?_
    refine Go.iaload d_Model_mean_66 rfl (ms_at_q_5 (by omega) hB hS hC hD hE) (show vp_in (nI 0) 12 from by first | exact vp_in_nI (by omega) (by omega) | exact vp_nle (by assumption) (by omega) (by omega)) ?_
    rw [show (0 : Int32).toNatClampNeg = 0 from by decide]
    refine Go.i2d d_Model_mean_67 rfl ?_
    refine Go.ddiv d_Model_mean_68 rfl (hnn (by assumption)) ?_
    rw [if_neg c49_1]
    exact Go.dret d_Model_mean_69 rfl ⟨rfl, by dsimp only, rfl⟩
  · refine Go.dconst0 d_Model_mean_52 rfl ?_
    refine Go.goto (t := 69) d_Model_mean_53 (by decide) ?_
    rw [if_pos c49_1]
    exact Go.dret d_Model_mean_69 rfl ⟨rfl, by dsimp only, rfl⟩
def mo0 : MO := (0, fun _ => 0, 0, -1, 0, 0, 0)
theorem n9_fs_Sheet : ∀ j, j < 26 → defaultValue (ty_Sheet j) = vp_V [.null, .null, .null, .null, .null, .null, .int 0, .null, .null, .null, .null, .null, .null, .null, .null, .null, .null, .null, .null, .int 0, .int 0, .null, .null, .null, .null, .null] j := by
  intro j hj
  match j, hj with
  | 0, _ => rfl
  | 1, _ => rfl
  | 2, _ => rfl
  | 3, _ => rfl
  | 4, _ => rfl
  | 5, _ => rfl
  | 6, _ => rfl
  | 7, _ => rfl
  | 8, _ => rfl
  | 9, _ => rfl
  | 10, _ => rfl
  | 11, _ => rfl
  | 12, _ => rfl
  | 13, _ => rfl
  | 14, _ => rfl
  | 15, _ => rfl
  | 16, _ => rfl
  | 17, _ => rfl
  | 18, _ => rfl
  | 19, _ => rfl
  | 20, _ => rfl
  | 21, _ => rfl
  | 22, _ => rfl
  | 23, _ => rfl
  | 24, _ => rfl
  | 25, _ => rfl
  | _ + 26, w => exact absurd w (by omega)
theorem n9_fs_State : ∀ j, j < 24 → defaultValue (ty_State j) = vp_V [.int 0, .int 0, .int 0, .int 0, .null, .null, .null, .null, .null, .null, .null, .null, .null, .null, .null, .null, .null, .null, .null, .null, .null, .null, .null, .null] j := by
  intro j hj
  match j, hj with
  | 0, _ => rfl
  | 1, _ => rfl
  | 2, _ => rfl
  | 3, _ => rfl
  | 4, _ => rfl
  | 5, _ => rfl
  | 6, _ => rfl
  | 7, _ => rfl
  | 8, _ => rfl
  | 9, _ => rfl
  | 10, _ => rfl
  | 11, _ => rfl
  | 12, _ => rfl
  | 13, _ => rfl
  | 14, _ => rfl
  | 15, _ => rfl
  | 16, _ => rfl
  | 17, _ => rfl
  | 18, _ => rfl
  | 19, _ => rfl
  | 20, _ => rfl
  | 21, _ => rfl
  | 22, _ => rfl
  | 23, _ => rfl
  | _ + 24, w => exact absurd w (by omega)
theorem d_Model_init_0 : decode M_Model_init.2.1 0 = .ok (.aload_n 0, 1) := by decide +kernel
theorem d_Model_init_1 : decode M_Model_init.2.1 1 = .ok (.invokespecial 1, 3) := by decide +kernel
theorem d_Model_init_4 : decode M_Model_init.2.1 4 = .ok (.aload_n 0, 1) := by decide +kernel
theorem d_Model_init_5 : decode M_Model_init.2.1 5 = .ok (.sipush 2000, 3) := by decide +kernel
theorem d_Model_init_8 : decode M_Model_init.2.1 8 = .ok (.newarray .int, 2) := by decide +kernel
theorem d_Model_init_10 : decode M_Model_init.2.1 10 = .ok (.putfield 9, 3) := by decide +kernel
theorem d_Model_init_13 : decode M_Model_init.2.1 13 = .ok (.aload_n 0, 1) := by decide +kernel
theorem d_Model_init_14 : decode M_Model_init.2.1 14 = .ok (.iconst (-1), 1) := by decide +kernel
theorem d_Model_init_15 : decode M_Model_init.2.1 15 = .ok (.putfield 13, 3) := by decide +kernel
theorem d_Model_init_18 : decode M_Model_init.2.1 18 = .ok (.aload_n 0, 1) := by decide +kernel
theorem d_Model_init_19 : decode M_Model_init.2.1 19 = .ok (.new 17, 3) := by decide +kernel
theorem d_Model_init_22 : decode M_Model_init.2.1 22 = .ok (.dup, 1) := by decide +kernel
theorem d_Model_init_23 : decode M_Model_init.2.1 23 = .ok (.invokespecial 19, 3) := by decide +kernel
theorem d_Model_init_26 : decode M_Model_init.2.1 26 = .ok (.putfield 20, 3) := by decide +kernel
theorem d_Model_init_29 : decode M_Model_init.2.1 29 = .ok (.aload_n 0, 1) := by decide +kernel
theorem d_Model_init_30 : decode M_Model_init.2.1 30 = .ok (.new 24, 3) := by decide +kernel
theorem d_Model_init_33 : decode M_Model_init.2.1 33 = .ok (.dup, 1) := by decide +kernel
theorem d_Model_init_34 : decode M_Model_init.2.1 34 = .ok (.invokespecial 26, 3) := by decide +kernel
theorem d_Model_init_37 : decode M_Model_init.2.1 37 = .ok (.putfield 27, 3) := by decide +kernel
theorem d_Model_init_40 : decode M_Model_init.2.1 40 = .ok (.aload_n 0, 1) := by decide +kernel
theorem d_Model_init_41 : decode M_Model_init.2.1 41 = .ok (.new 24, 3) := by decide +kernel
theorem d_Model_init_44 : decode M_Model_init.2.1 44 = .ok (.dup, 1) := by decide +kernel
theorem d_Model_init_45 : decode M_Model_init.2.1 45 = .ok (.invokespecial 26, 3) := by decide +kernel
theorem d_Model_init_48 : decode M_Model_init.2.1 48 = .ok (.putfield 31, 3) := by decide +kernel
theorem d_Model_init_51 : decode M_Model_init.2.1 51 = .ok (.aload_n 0, 1) := by decide +kernel
theorem d_Model_init_52 : decode M_Model_init.2.1 52 = .ok (.aload_n 0, 1) := by decide +kernel
theorem d_Model_init_53 : decode M_Model_init.2.1 53 = .ok (.getfield 27, 3) := by decide +kernel
theorem d_Model_init_56 : decode M_Model_init.2.1 56 = .ok (.putfield 34, 3) := by decide +kernel
theorem d_Model_init_59 : decode M_Model_init.2.1 59 = .ok (.return_, 1) := by decide +kernel
set_option maxRecDepth 100000 in
set_option maxHeartbeats 800000 in
theorem c_Model_init {Γ : G9} {h : AH} {t : Nat} (h0 : h t = some (.inr (11, [.int 0, .null, .int 0, .int 0, .int 0, .int 0, .null, .null, .null, .int 0, .null]))) : Call Γ M_Model_init 2 67 4108 [.ref t] h (t + 1) (fun v h2 z2 => v = none ∧ h2 = blk h t 68 (fun j => if j < 2 then moC Γ (t + 2) (t + 26) (t + 47) (t + 26) t mo0 j else if j - 2 < 24 then shC Γ (t + 2) sh0 (j - 2) else if j - 2 - 24 < 21 then sxC Γ (t + 26) sx0 (j - 2 - 24) else sxC Γ (t + 47) sx0 (j - 2 - 24 - 21)) ∧ z2 = t + 68) noX := by
  refine Call.of_go (L := [some (.ref t)]) (by decide +kernel) rfl (by exact Nat.le_of_ble_eq_true rfl) ?_
  refine Go.heq (ct_start h0) ?_
  refine Go.aload_0 d_Model_init_0 rfl ?_
  refine Go.objInit d_Model_init_1 rfl l_Model_1 q_obj1 q_obj2 (by decide) rfl ?_
  refine Go.aload_0 d_Model_init_4 rfl ?_
  refine Go.sipush (v := 2000) d_Model_init_5 rfl (by decide) ?_
  refine Go.newI (C1 := 66) (S1 := 2108) (N := 2000) d_Model_init_8 rfl rfl (by decide) (by decide) (by decide) ?_
  refine Go.heq (ct_push (n := 0) (by omega)) ?_
  refine Go.putfield d_Model_init_10 rfl f_Model_9_p (Or.inr ⟨rfl, fun C T N h => by cases h; exact ⟨rfl, rfl⟩⟩) hup_at (by exact Nat.le_of_ble_eq_true rfl) rfl rfl ?_
  refine Go.heq hup_hup ?_
  simp only [List.set_cons_succ, List.set_cons_zero]
  refine Go.aload_0 d_Model_init_13 rfl ?_
  refine Go.iconst (v := (-1)) d_Model_init_14 rfl (by decide) ?_
  refine Go.putfield d_Model_init_15 rfl f_Model_13_p (Or.inl (fun C T N h => by cases h; rfl)) hup_at (by exact Nat.le_of_ble_eq_true rfl) rfl rfl ?_
  refine Go.heq hup_hup ?_
  simp only [List.set_cons_succ, List.set_cons_zero]
  refine Go.aload_0 d_Model_init_18 rfl ?_
  refine Go.new (ci := 9) (C1 := 65) (S1 := 2082) (fs := [.null, .null, .null, .null, .null, .null, .int 0, .null, .null, .null, .null, .null, .null, .null, .null, .null, .null, .null, .null, .int 0, .int 0, .null, .null, .null, .null, .null]) ty_Sheet d_Model_init_19 rfl rfl cw_Sheet ty_Sheet_ok (gm_5 (List.mem_of_getElem? (i := 197) rfl) rfl) (gm_5 (List.mem_of_getElem? (i := 198) rfl) rfl) (gm_1 (List.mem_of_getElem? (i := 11) rfl) rfl) n9_fs_Sheet (by decide) (by decide) ?_
  refine Go.dup d_Model_init_22 rfl rfl ?_
  refine Go.callI (C1 := 42) (S1 := 236) (as := []) d_Model_init_23 rfl (Or.inr ⟨_, l_Model_19⟩) k_Sheet_init_n rfl rfl (c_Sheet_init (t := t + 2) hup_at) (by decide) (by decide) (by decide) (by decide) (Nat.le_of_ble_eq_true rfl) (fun E h2 z2 hx _ => hx.elim) (fun v h2 z2 hx _ => ?_)
  obtain ⟨rfl, rfl, rfl⟩ := hx
  refine Go.heq (ct_app (n := 1) (m := 24) (by omega) (by decide)) ?_
  refine Go.putfield d_Model_init_26 rfl f_Model_20_p (Or.inl (fun C T N h => by cases h; rfl)) hup_at (by exact Nat.le_of_ble_eq_true rfl) rfl rfl ?_
  refine Go.heq hup_hup ?_
  simp only [List.set_cons_succ, List.set_cons_zero]
  refine Go.aload_0 d_Model_init_29 rfl ?_
  refine Go.new (ci := 10) (C1 := 41) (S1 := 212) (fs := [.int 0, .int 0, .int 0, .int 0, .null, .null, .null, .null, .null, .null, .null, .null, .null, .null, .null, .null, .null, .null, .null, .null, .null, .null, .null, .null]) ty_State d_Model_init_30 rfl rfl cw_State ty_State_ok (gm_6 (List.mem_of_getElem? (i := 65) rfl) rfl) (gm_6 (List.mem_of_getElem? (i := 66) rfl) rfl) (gm_1 (List.mem_of_getElem? (i := 12) rfl) rfl) n9_fs_State (by decide) (by decide) ?_
  refine Go.dup d_Model_init_33 rfl rfl ?_
  refine Go.callI (C1 := 21) (S1 := 118) (as := []) d_Model_init_34 rfl (Or.inr ⟨_, l_Model_26⟩) k_State_init_n rfl rfl (c_State_init (t := t + 26) hup_at) (by decide) (by decide) (by decide) (by decide) (Nat.le_of_ble_eq_true rfl) (fun E h2 z2 hx _ => hx.elim) (fun v h2 z2 hx _ => ?_)
  obtain ⟨rfl, rfl, rfl⟩ := hx
  refine Go.heq (ct_app (n := 25) (m := 21) (by omega) (by decide)) ?_
  refine Go.putfield d_Model_init_37 rfl f_Model_27_p (Or.inr ⟨rfl, fun C T N h => by cases h; exact ⟨rfl, rfl⟩⟩) hup_at (by exact Nat.le_of_ble_eq_true rfl) rfl rfl ?_
  refine Go.heq hup_hup ?_
  simp only [List.set_cons_succ, List.set_cons_zero]
  refine Go.aload_0 d_Model_init_40 rfl ?_
  refine Go.new (ci := 10) (C1 := 20) (S1 := 94) (fs := [.int 0, .int 0, .int 0, .int 0, .null, .null, .null, .null, .null, .null, .null, .null, .null, .null, .null, .null, .null, .null, .null, .null, .null, .null, .null, .null]) ty_State d_Model_init_41 rfl rfl cw_State ty_State_ok (gm_6 (List.mem_of_getElem? (i := 65) rfl) rfl) (gm_6 (List.mem_of_getElem? (i := 66) rfl) rfl) (gm_1 (List.mem_of_getElem? (i := 12) rfl) rfl) n9_fs_State (by decide) (by decide) ?_
  refine Go.dup d_Model_init_44 rfl rfl ?_
  refine Go.callI (C1 := 0) (S1 := 0) (as := []) d_Model_init_45 rfl (Or.inr ⟨_, l_Model_26⟩) k_State_init_n rfl rfl (c_State_init (t := t + 47) hup_at) (by decide) (by decide) (by decide) (by decide) (Nat.le_of_ble_eq_true rfl) (fun E h2 z2 hx _ => hx.elim) (fun v h2 z2 hx _ => ?_)
  obtain ⟨rfl, rfl, rfl⟩ := hx
  refine Go.heq (ct_app (n := 46) (m := 21) (by omega) (by decide)) ?_
  refine Go.putfield d_Model_init_48 rfl f_Model_31_p (Or.inr ⟨rfl, fun C T N h => by cases h; exact ⟨rfl, rfl⟩⟩) hup_at (by exact Nat.le_of_ble_eq_true rfl) rfl rfl ?_
  refine Go.heq hup_hup ?_
  simp only [List.set_cons_succ, List.set_cons_zero]
  refine Go.aload_0 d_Model_init_51 rfl ?_
  refine Go.aload_0 d_Model_init_52 rfl ?_
  refine Go.getfield d_Model_init_53 rfl f_Model_27 hup_at (by rfl) ?_
  refine Go.putfield d_Model_init_56 rfl f_Model_34_p (Or.inl (fun C T N h => by cases h; rfl)) hup_at (by exact Nat.le_of_ble_eq_true rfl) rfl rfl ?_
  refine Go.heq hup_hup ?_
  simp only [List.set_cons_succ, List.set_cons_zero]
  refine Go.vret d_Model_init_59 rfl ⟨rfl, ?_, rfl⟩
  rw [blk_cons]
  refine blk_ext fun j hj => ?_
  match j, hj with
  | 0, _ => rfl
  | 1, _ => rfl
  | 2, _ => rfl
  | 3, _ => rfl
  | 4, _ => rfl
  | 5, _ => rfl
  | 6, _ => rfl
  | 7, _ => rfl
  | 8, _ => rfl
  | 9, _ => rfl
  | 10, _ => rfl
  | 11, _ => rfl
  | 12, _ => rfl
  | 13, _ => rfl
  | 14, _ => rfl
  | 15, _ => rfl
  | 16, _ => rfl
  | 17, _ => rfl
  | 18, _ => rfl
  | 19, _ => rfl
  | 20, _ => rfl
  | 21, _ => rfl
  | 22, _ => rfl
  | 23, _ => rfl
  | 24, _ => rfl
  | 25, _ => rfl
  | 26, _ => rfl
  | 27, _ => rfl
  | 28, _ => rfl
  | 29, _ => rfl
  | 30, _ => rfl
  | 31, _ => rfl
  | 32, _ => rfl
  | 33, _ => rfl
  | 34, _ => rfl
  | 35, _ => rfl
  | 36, _ => rfl
  | 37, _ => rfl
  | 38, _ => rfl
  | 39, _ => rfl
  | 40, _ => rfl
  | 41, _ => rfl
  | 42, _ => rfl
  | 43, _ => rfl
  | 44, _ => rfl
  | 45, _ => rfl
  | 46, _ => rfl
  | 47, _ => rfl
  | 48, _ => rfl
  | 49, _ => rfl
  | 50, _ => rfl
  | 51, _ => rfl
  | 52, _ => rfl
  | 53, _ => rfl
  | 54, _ => rfl
  | 55, _ => rfl
  | 56, _ => rfl
  | 57, _ => rfl
  | 58, _ => rfl
  | 59, _ => rfl
  | 60, _ => rfl
  | 61, _ => rfl
  | 62, _ => rfl
  | 63, _ => rfl
  | 64, _ => rfl
  | 65, _ => rfl
  | 66, _ => rfl
  | 67, _ => rfl
  | _ + 68, w => exact absurd w (by omega)
theorem mf_new {Γ : G9} {h : AH} {t : Nat} : blk h t 68 (fun j => if j < 2 then moC Γ (t + 2) (t + 26) (t + 47) (t + 26) t mo0 j else if j - 2 < 24 then shC Γ (t + 2) sh0 (j - 2) else if j - 2 - 24 < 21 then sxC Γ (t + 26) sx0 (j - 2 - 24) else sxC Γ (t + 47) sx0 (j - 2 - 24 - 21)) = mf_ Γ h t (t + 2) (t + 26) (t + 47) mo0 sh0 sx0 sx0 0 := by
  unfold mf_
  rw [blk_app, show t + 26 = t + (2 + 24) from rfl, blk_app, show t + 47 = t + (2 + 24 + 21) from rfl, blk_app]
  rfl
