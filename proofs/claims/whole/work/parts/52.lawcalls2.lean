/-! the law: feed, teach, errorAt, mean, digest -/
theorem cw_abs {Γ : G9} {sg : Nat → Nat} {h : AH} {c g g2 o o2 m q r r2 w : Nat} {A : TA} {K : TK} {σ τ : GL} {T : TM} {F : FM} {U : TM} {G : FM} {P : CP} {h3 : AH} (geo : c + 7 ≤ g ∧ c + 7 ≤ g2 ∧ (g + 12 ≤ g2 ∨ g2 + 12 ≤ g) ∧ g + 12 ≤ o ∧ g + 12 ≤ o2 ∧ g2 + 12 ≤ o ∧ g2 + 12 ≤ o2 ∧ (o + 7 ≤ o2 ∨ o2 + 7 ≤ o) ∧ o + 7 ≤ m ∧ o2 + 7 ≤ m ∧ m + 2 ≤ q ∧ m + 2 ≤ r ∧ r + 21 ≤ r2 ∧ r2 + 21 ≤ w ∧ (q + 24 ≤ r ∨ w + 1 ≤ q)) (hh : ∀ a, a < m → h3 a = (cw_ Γ sg h c g g2 o o2 A K σ τ T F U G P) a) : (cw_ Γ sg h3 c g g2 o o2 A K σ τ T F U G P) = h3 := by
  rw [cw_]
  rw [blk_self (fun k hk => (hh _ (by omega)).trans (by unfold cw_; rw [blk_out (by omega), blk_out (by omega), blk_out (by omega), blk_out (by omega), blk_out (by omega), blk_out (by omega), blk_out (by omega), blk_out (by omega), blk_at hk])), blk_self (fun k hk => (hh _ (by omega)).trans (by unfold cw_; rw [blk_out (by omega), blk_out (by omega), blk_out (by omega), blk_out (by omega), blk_out (by omega), blk_out (by omega), blk_out (by omega), blk_at hk])), blk_self (fun k hk => (hh _ (by omega)).trans (by unfold cw_; rw [blk_out (by omega), blk_out (by omega), blk_out (by omega), blk_out (by omega), blk_out (by omega), blk_out (by omega), blk_at hk])), blk_self (fun k hk => (hh _ (by omega)).trans (by unfold cw_; rw [blk_out (by omega), blk_out (by omega), blk_out (by omega), blk_out (by omega), blk_out (by omega), blk_at hk])), blk_self (fun k hk => (hh _ (by omega)).trans (by unfold cw_; rw [blk_out (by omega), blk_out (by omega), blk_out (by omega), blk_out (by omega), blk_at hk])), blk_self (fun k hk => (hh _ (by omega)).trans (by unfold cw_; rw [blk_out (by omega), blk_out (by omega), blk_out (by omega), blk_at hk])), blk_self (fun k hk => (hh _ (by omega)).trans (by unfold cw_; rw [blk_out (by omega), blk_out (by omega), blk_at hk])), blk_self (fun k hk => (hh _ (by omega)).trans (by unfold cw_; rw [blk_out (by omega), blk_at hk])), blk_self (fun k hk => (hh _ (by omega)).trans (by unfold cw_; rw [blk_at hk]))]
theorem mf_abs {Γ : G9} {h h3 : AH} {c g g2 o o2 m q r r2 w z : Nat} {M : MO} {H : SH} {Y Ah : SX} {ow : Nat} (geo : c + 7 ≤ g ∧ c + 7 ≤ g2 ∧ (g + 12 ≤ g2 ∨ g2 + 12 ≤ g) ∧ g + 12 ≤ o ∧ g + 12 ≤ o2 ∧ g2 + 12 ≤ o ∧ g2 + 12 ≤ o2 ∧ (o + 7 ≤ o2 ∨ o2 + 7 ≤ o) ∧ o + 7 ≤ m ∧ o2 + 7 ≤ m ∧ m + 2 ≤ q ∧ m + 2 ≤ r ∧ r + 21 ≤ r2 ∧ r2 + 21 ≤ w ∧ (q + 24 ≤ r ∨ w + 1 ≤ q)) (hz : q + 24 ≤ z ∧ w + 1 ≤ z) (hh : ∀ a, m ≤ a → a < z → h3 a = (mf_ Γ h m q r r2 M H Y Ah ow) a) : (mf_ Γ h3 m q r r2 M H Y Ah ow) = h3 := by
  rw [mf_]
  rw [blk_self (fun k hk => (hh _ (by omega) (by omega)).trans (by unfold mf_; rw [blk_out (by omega), blk_out (by omega), blk_out (by omega), blk_at hk])), blk_self (fun k hk => (hh _ (by omega) (by omega)).trans (by unfold mf_; rw [blk_out (by omega), blk_out (by omega), blk_at hk])), blk_self (fun k hk => (hh _ (by omega) (by omega)).trans (by unfold mf_; rw [blk_out (by omega), blk_at hk])), blk_self (fun k hk => (hh _ (by omega) (by omega)).trans (by unfold mf_; rw [blk_at hk]))]
theorem lw_abs {Γ : G9} {sg : Nat → Nat} {h : AH} {c g g2 o o2 m q r r2 w : Nat} {A : TA} {K : TK} {σ τ : GL} {T : TM} {F : FM} {U : TM} {G : FM} {P : CP} {Ah : SX} {ow : Nat} {h3 : AH} {q2 : Nat} {M2 : MO} {H2 : SH} {Y2 : SX} (geo : c + 7 ≤ g ∧ c + 7 ≤ g2 ∧ (g + 12 ≤ g2 ∨ g2 + 12 ≤ g) ∧ g + 12 ≤ o ∧ g + 12 ≤ o2 ∧ g2 + 12 ≤ o ∧ g2 + 12 ≤ o2 ∧ (o + 7 ≤ o2 ∨ o2 + 7 ≤ o) ∧ o + 7 ≤ m ∧ o2 + 7 ≤ m ∧ m + 2 ≤ q ∧ m + 2 ≤ r ∧ r + 21 ≤ r2 ∧ r2 + 21 ≤ w ∧ (q + 24 ≤ r ∨ w + 1 ≤ q)) (geo2 : m + 2 ≤ q2 ∧ (q2 + 24 ≤ r ∨ w + 1 ≤ q2)) (hh : ∀ b, b < w → (b < q ∨ q + 24 ≤ b) → h3 b = blk (cw_ Γ sg h c g g2 o o2 A K σ τ T F U G P) r2 21 (sxC Γ r2 Ah) b) : md_ Γ h3 m q2 r r r2 (roW ow r r2) M2 H2 Y2 = (cw_ Γ sg (mf_ Γ h3 m q2 r r2 M2 H2 Y2 Ah ow) c g g2 o o2 A K σ τ T F U G P) := by
  rw [lw_s (w := w) (q := q2) (by omega)]
  have e1 : (cw_ Γ sg h3 c g g2 o o2 A K σ τ T F U G P) = h3 := cw_abs geo (fun a ha => (hh a (by omega) (by omega)).trans (blk_out (by omega)))
  rw [e1, blk_self (fun k hk => (hh _ (by omega) (by omega)).trans (blk_at hk))]
theorem cw_outo {Γ : G9} {sg : Nat → Nat} {h : AH} {c g g2 o o2 : Nat} {A : TA} {K : TK} {σ τ : GL} {T : TM} {F : FM} {U : TM} {G : FM} {P : CP} (geo : c + 7 ≤ g ∧ c + 7 ≤ g2 ∧ (g + 12 ≤ g2 ∨ g2 + 12 ≤ g) ∧ g + 12 ≤ o ∧ g + 12 ≤ o2 ∧ g2 + 12 ≤ o ∧ g2 + 12 ≤ o2 ∧ (o + 7 ≤ o2 ∨ o2 + 7 ≤ o)) : (cw_ Γ sg h c g g2 o o2 A K σ τ T F U G P) o = h o := by
  unfold cw_
  rw [blk_out (by omega), blk_out (by omega), blk_out (by omega), blk_out (by omega), blk_out (by omega), blk_out (by omega), blk_out (by omega), blk_out (by omega), blk_out (by omega)]
theorem cw_outo2 {Γ : G9} {sg : Nat → Nat} {h : AH} {c g g2 o o2 : Nat} {A : TA} {K : TK} {σ τ : GL} {T : TM} {F : FM} {U : TM} {G : FM} {P : CP} (geo : c + 7 ≤ g ∧ c + 7 ≤ g2 ∧ (g + 12 ≤ g2 ∨ g2 + 12 ≤ g) ∧ g + 12 ≤ o ∧ g + 12 ≤ o2 ∧ g2 + 12 ≤ o ∧ g2 + 12 ≤ o2 ∧ (o + 7 ≤ o2 ∨ o2 + 7 ≤ o)) : (cw_ Γ sg h c g g2 o o2 A K σ τ T F U G P) o2 = h o2 := by
  unfold cw_
  rw [blk_out (by omega), blk_out (by omega), blk_out (by omega), blk_out (by omega), blk_out (by omega), blk_out (by omega), blk_out (by omega), blk_out (by omega), blk_out (by omega)]
set_option maxRecDepth 100000 in
set_option maxHeartbeats 800000 in
theorem lc_feed {R : RelT} {Γ : G9} {sg tx wd ms : Nat → Nat} {sw sa wa sn b L : Nat} {xs : Nat → Int32} {c m r r2 w n i z C S g g2 o o2 q : Nat} {h : AH} {f : Nat → Int64} {Q : QT} {A : TA} {K : TK} {σ τ : GL} {T : TM} {F : FM} {U : TM} {G : FM} {P : CP} {M : MO} {H : SH} {Y Ah : SX} {ow : Nat} (hst : ST Γ sg tx wd ms sw sa wa sn b L xs) (hp : PureOK R) (hi : i + 6 ≤ L) (hL : L ≤ 3072) (hn : n < 512) (k : LHead R Γ sg b c m r r2 w Q (n + 1) (i + 6) C S) (lf : LF R Γ c m r r2 w n z h f g g2 o o2 q A σ τ T F U P M H Y) : Go Γ M_law 200 (C + 40) (S + 2000) 148 [some (.ref b), some (.ref c), some (.ref m), some (.ref w), some (.int (nI i)), none, none, none, none] [] (cw_ Γ sg (mf_ Γ h m q r r2 M H Y Ah ow) c g g2 o o2 A K σ τ T F U G P) z Q noX := by
  obtain ⟨geo, hz, hw0, ho, ho2, rel, hV, hU⟩ := lf
  obtain ⟨hA, hT, hW, hsz, hB, hS, hC, hD, hE, hO, hdy⟩ := hp.bnd rel
  have pf := hp.p_feed (K := K) (τ := τ) (U := U) (G := G) (x1 := (xs (i + 1))) (x2 := (xs (i + 2))) (x3 := (xs (i + 3))) (x4 := (xs (i + 4))) (x5 := (xs (i + 5))) hn rel hV hU
  obtain ⟨hth, hv, hrel⟩ := pf
  refine Go.aload_1 d_law_148 rfl ?_
  refine Go.aload_0 d_law_149 rfl ?_
  refine Go.iload_4 d_law_150 rfl ?_
  refine Go.iconst (v := 1) d_law_152 rfl (by decide) ?_
  refine Go.iadd d_law_153 rfl ?_
  rw [show nI i + 1 = nI (i + 1) from nI_add _ _]
  refine Go.sld d_law_154 rfl hst.hsc (vp_in_nI (by omega) (by omega)) ?_
  rw [nI_clamp (show i + 1 < 2 ^ 31 by omega)]
  refine Go.aload_0 d_law_155 rfl ?_
  refine Go.iload_4 d_law_156 rfl ?_
  refine Go.iconst (v := 2) d_law_158 rfl (by decide) ?_
  refine Go.iadd d_law_159 rfl ?_
  rw [show nI i + 2 = nI (i + 2) from nI_add _ _]
  refine Go.sld d_law_160 rfl hst.hsc (vp_in_nI (by omega) (by omega)) ?_
  rw [nI_clamp (show i + 2 < 2 ^ 31 by omega)]
  refine Go.aload_0 d_law_161 rfl ?_
  refine Go.iload_4 d_law_162 rfl ?_
  refine Go.iconst (v := 3) d_law_164 rfl (by decide) ?_
  refine Go.iadd d_law_165 rfl ?_
  rw [show nI i + 3 = nI (i + 3) from nI_add _ _]
  refine Go.sld d_law_166 rfl hst.hsc (vp_in_nI (by omega) (by omega)) ?_
  rw [nI_clamp (show i + 3 < 2 ^ 31 by omega)]
  refine Go.aload_0 d_law_167 rfl ?_
  refine Go.iload_4 d_law_168 rfl ?_
  refine Go.iconst (v := 4) d_law_170 rfl (by decide) ?_
  refine Go.iadd d_law_171 rfl ?_
  rw [show nI i + 4 = nI (i + 4) from nI_add _ _]
  refine Go.sld d_law_172 rfl hst.hsc (vp_in_nI (by omega) (by omega)) ?_
  rw [nI_clamp (show i + 4 < 2 ^ 31 by omega)]
  refine Go.aload_0 d_law_173 rfl ?_
  refine Go.iload_4 d_law_174 rfl ?_
  refine Go.iconst (v := 5) d_law_176 rfl (by decide) ?_
  refine Go.iadd d_law_177 rfl ?_
  rw [show nI i + 5 = nI (i + 5) from nI_add _ _]
  refine Go.sld d_law_178 rfl hst.hsc (vp_in_nI (by omega) (by omega)) ?_
  rw [nI_clamp (show i + 5 < 2 ^ 31 by omega)]
  refine Go.aload_3 d_law_179 rfl ?_
  refine Go.callSW (C1 := C + 36) (S1 := S + 1976) (as := [.ref c, .int (xs (i + 1)), .int (xs (i + 2)), .int (xs (i + 3)), .int (xs (i + 4)), .int (xs (i + 5)), .ref w]) d_law_180 rfl l_Law_81 k_Law_feed_s (List.cons_ne_nil _ _) rfl rfl (w_feed hst.hs hst.hsn hst.hw (by omega) hA ((mf_outlo (by omega)).trans ho) ((mf_outlo (by omega)).trans ho2) hT hU hW hV hst.hms hst.hth ((mf_outw (by omega)).trans hw0) hst.hnc) (by decide) (by decide) (by omega) (by omega) (Nat.le_of_ble_eq_true rfl) (fun E h9 z9 hx _ => hx.elim) (fun v9 h9 z9 hx hz9 => ?_)
  obtain ⟨hz1, hx⟩ := hx
  obtain ⟨f1, rfl, rfl, hf⟩ := wr_uni (F := fun hh => (cw_ Γ sg hh c g g2 o o2 (s_Camp_feed A K σ τ T F U G P (xs (i + 1)) (xs (i + 2)) (xs (i + 3)) (xs (i + 4)) (xs (i + 5))).2.2 K σ τ T F U G P)) ((mf_outw (by omega)).trans hw0) hx
  refine Go.heq (h' := (cw_ Γ sg (mf_ Γ (hup h w (aJ Γ 1 f1)) m q r r2 M H Y Ah ow) c g g2 o o2 (s_Camp_feed A K σ τ T F U G P (xs (i + 1)) (xs (i + 2)) (xs (i + 3)) (xs (i + 4)) (xs (i + 5))).2.2 K σ τ T F U G P)) (congrArg (fun hh => (cw_ Γ sg hh c g g2 o o2 (s_Camp_feed A K σ τ T F U G P (xs (i + 1)) (xs (i + 2)) (xs (i + 3)) (xs (i + 4)) (xs (i + 5))).2.2 K σ τ T F U G P)) (mf_hup geo)) ?_
  have ho : (hup h w (aJ Γ 1 f1)) o = _ := (hup_ne (by omega)).trans ho
  have ho2 : (hup h w (aJ Γ 1 f1)) o2 = _ := (hup_ne (by omega)).trans ho2
  refine Go.istore_5 d_law_183 rfl (by rfl) ?_
  refine Go.aload_2 d_law_185 rfl ?_
  refine Go.aload_0 d_law_186 rfl ?_
  refine Go.iload_4 d_law_187 rfl ?_
  refine Go.iconst (v := 1) d_law_189 rfl (by decide) ?_
  refine Go.iadd d_law_190 rfl ?_
  rw [show nI i + 1 = nI (i + 1) from nI_add _ _]
  refine Go.sld d_law_191 rfl hst.hsc (vp_in_nI (by omega) (by omega)) ?_
  rw [nI_clamp (show i + 1 < 2 ^ 31 by omega)]
  refine Go.aload_0 d_law_192 rfl ?_
  refine Go.iload_4 d_law_193 rfl ?_
  refine Go.iconst (v := 2) d_law_195 rfl (by decide) ?_
  refine Go.iadd d_law_196 rfl ?_
  rw [show nI i + 2 = nI (i + 2) from nI_add _ _]
  refine Go.sld d_law_197 rfl hst.hsc (vp_in_nI (by omega) (by omega)) ?_
  rw [nI_clamp (show i + 2 < 2 ^ 31 by omega)]
  refine Go.aload_0 d_law_198 rfl ?_
  refine Go.iload_4 d_law_199 rfl ?_
  refine Go.iconst (v := 3) d_law_201 rfl (by decide) ?_
  refine Go.iadd d_law_202 rfl ?_
  rw [show nI i + 3 = nI (i + 3) from nI_add _ _]
  refine Go.sld d_law_203 rfl hst.hsc (vp_in_nI (by omega) (by omega)) ?_
  rw [nI_clamp (show i + 3 < 2 ^ 31 by omega)]
  refine Go.aload_0 d_law_204 rfl ?_
  refine Go.iload_4 d_law_205 rfl ?_
  refine Go.iconst (v := 4) d_law_207 rfl (by decide) ?_
  refine Go.iadd d_law_208 rfl ?_
  rw [show nI i + 4 = nI (i + 4) from nI_add _ _]
  refine Go.sld d_law_209 rfl hst.hsc (vp_in_nI (by omega) (by omega)) ?_
  rw [nI_clamp (show i + 4 < 2 ^ 31 by omega)]
  refine Go.aload_0 d_law_210 rfl ?_
  refine Go.iload_4 d_law_211 rfl ?_
  refine Go.iconst (v := 5) d_law_213 rfl (by decide) ?_
  refine Go.iadd d_law_214 rfl ?_
  rw [show nI i + 5 = nI (i + 5) from nI_add _ _]
  refine Go.sld d_law_215 rfl hst.hsc (vp_in_nI (by omega) (by omega)) ?_
  rw [nI_clamp (show i + 5 < 2 ^ 31 by omega)]
  refine Go.heq (lw_s geo) ?_
  refine Go.callV (C1 := C + 35) (S1 := S + 1971) (as := [.int (xs (i + 1)), .int (xs (i + 2)), .int (xs (i + 3)), .int (xs (i + 4)), .int (xs (i + 5))]) d_law_216 rfl l_Law_86 k_Model_feed_v rfl (ms_at_m (by omega) hB hS hC hD hE) rfl rfl (c_Model_feed (by omega) (by omega) hB hS hC hD hE hsz) (by decide) (by decide) (by omega) (by omega) (Nat.le_of_ble_eq_true rfl) (fun E h9 z8 hx9 _ => hx9.elim) (fun v8 h8 z8 hx9 _ => ?_)
  obtain ⟨rfl, hz2, h3, hh3, rfl⟩ := hx9
  refine Go.heq (lw_abs (H2 := H) (Y2 := Y) geo (by omega) (fun b hb _ => hh3 b (by omega))) ?_
  have hw3 : h3 w = some (aJ Γ 1 f1) := (hh3 w (by omega)).trans ((blk_out (by omega)).trans ((cw_outu (by omega)).trans hup_at))
  have ho := (hh3 o (by omega)).trans ((blk_out (by omega)).trans ((cw_outo (by omega)).trans ho))
  have ho2 := (hh3 o2 (by omega)).trans ((blk_out (by omega)).trans ((cw_outo2 (by omega)).trans ho2))
  refine Go.istore_6 d_law_219 rfl (by rfl) ?_
  refine Go.aload_2 d_law_221 rfl ?_
  refine Go.heq (lw_s geo) ?_
  refine Go.cv0r d_law_222 rfl l_Law_87 k_Model_thrown_v (ms_at_m (by omega) hB hS hC hD hE) rfl (c_Model_thrown (by omega) hB hS hC hD hE) (by rfl) rfl rfl ?_
  refine Go.heq (lw_s geo).symm ?_
  refine Go.iload_5 d_law_225 rfl ?_
  refine Go.icmp_eq (t := 232) d_law_227 (by decide) rfl (fun _ => ?_) (fun ne => absurd hth ne)
  refine Go.iload_5 d_law_232 rfl ?_
  refine Go.if_ne (t := 249) d_law_234 (by decide) rfl (fun c5 => ?_) (fun c5 => ?_)
  · refine Go.goto (t := 1548) d_law_249 (by decide) ?_
    refine Go.iinc_4 d_law_1548 rfl (by rfl) nI_inc6 ?_
    refine Go.goto (t := 23) d_law_1551 (by decide) ?_
    refine Go.fgt [some (.ref b), some (.ref c), some (.ref m), some (.ref w), some (.int (nI (i + 6))), none, none, none, none] (by repeat' (first | exact trivial | refine ⟨rfl, ?_⟩)) ?_
    exact Go.room (k _ _ _ _ _ _ _ _ _ _ _ _ _ _ _ _ _ _ _ _ _ _ ⟨geo, by omega, hw3, ho, ho2, hrel, hV, hU⟩) (Nat.le_refl _) (by omega) (by omega)
  · have ht : (s_Camp_feed A K σ τ T F U G P (xs (i + 1)) (xs (i + 2)) (xs (i + 3)) (xs (i + 4)) (xs (i + 5))).1 = 0 := Classical.byContradiction fun w9 => by
      rw [if_neg w9] at c5
      exact absurd c5 (by decide)
    refine Go.aload_3 d_law_237 rfl ?_
    refine Go.iconst (v := 0) d_law_238 rfl (by decide) ?_
    refine Go.laload d_law_239 rfl ((cw_outu (by omega)).trans ((mf_outw (by omega)).trans hw3)) (show vp_in (nI 0) 1 from vp_in_nI (by decide) (by decide)) ?_
    rw [show (0 : Int32).toNatClampNeg = 0 from by decide, hf ht]
    refine Go.iload_6 d_law_240 rfl ?_
    refine Go.i2l d_law_242 rfl ?_
    refine Go.lcmp d_law_243 rfl ?_
    rw [hv ht, lg_self]
    refine Go.if_eq (t := 249) d_law_244 (by decide) rfl (fun _ => ?_) (fun ne => absurd rfl ne)
    refine Go.goto (t := 1548) d_law_249 (by decide) ?_
    refine Go.iinc_4 d_law_1548 rfl (by rfl) nI_inc6 ?_
    refine Go.goto (t := 23) d_law_1551 (by decide) ?_
    refine Go.fgt [some (.ref b), some (.ref c), some (.ref m), some (.ref w), some (.int (nI (i + 6))), none, none, none, none] (by repeat' (first | exact trivial | refine ⟨rfl, ?_⟩)) ?_
    exact Go.room (k _ _ _ _ _ _ _ _ _ _ _ _ _ _ _ _ _ _ _ _ _ _ ⟨geo, by omega, hw3, ho, ho2, hrel, hV, hU⟩) (Nat.le_refl _) (by omega) (by omega)
set_option maxRecDepth 100000 in
set_option maxHeartbeats 800000 in
theorem lc_errorAt {R : RelT} {Γ : G9} {sg tx wd ms : Nat → Nat} {sw sa wa sn b L : Nat} {xs : Nat → Int32} {c m r r2 w n i z C S g g2 o o2 q : Nat} {h : AH} {f : Nat → Int64} {Q : QT} {A : TA} {K : TK} {σ τ : GL} {T : TM} {F : FM} {U : TM} {G : FM} {P : CP} {M : MO} {H : SH} {Y Ah : SX} {ow : Nat} (hst : ST Γ sg tx wd ms sw sa wa sn b L xs) (hp : PureOK R) (hi : i + 6 ≤ L) (hL : L ≤ 3072) (hn : n < 512) (k : LHead R Γ sg b c m r r2 w Q (n + 1) (i + 6) C S) (lf : LF R Γ c m r r2 w n z h f g g2 o o2 q A σ τ T F U P M H Y) : Go Γ M_law 200 (C + 40) (S + 2000) 321 [some (.ref b), some (.ref c), some (.ref m), some (.ref w), some (.int (nI i)), none, none, none, none] [] (cw_ Γ sg (mf_ Γ h m q r r2 M H Y Ah ow) c g g2 o o2 A K σ τ T F U G P) z Q noX := by
  obtain ⟨geo, hz, hw0, ho, ho2, rel, hV, hU⟩ := lf
  obtain ⟨hA, hT, hW, hsz, hB, hS, hC, hD, hE, hO, hdy⟩ := hp.bnd rel
  obtain ⟨hv, hrel⟩ := hp.p_errorAt (K := K) (τ := τ) (U := U) (G := G) hn rel
  refine Go.aload_1 d_law_321 rfl ?_
  refine Go.cv0r d_law_322 rfl l_Law_99 k_Camp_errorAt_v (cw_at_c hst.hs hst.hsn hst.hw (by omega) hA ((mf_outlo (by omega)).trans ho) ((mf_outlo (by omega)).trans ho2) hT hU hW hV) rfl (c_Camp_errorAt hst.hs hst.hsn hst.hw (by omega) hA ((mf_outlo (by omega)).trans ho) ((mf_outlo (by omega)).trans ho2) hT hU hW hV) (by rfl) rfl rfl ?_
  refine Go.aload_2 d_law_325 rfl ?_
  refine Go.heq (lw_s geo) ?_
  refine Go.cv0r d_law_326 rfl l_Law_102 k_Model_errorAt_v (ms_at_m (by omega) hB hS hC hD hE) rfl (c_Model_errorAt (by omega) hB hS hC hD hE) (by rfl) rfl rfl ?_
  refine Go.heq (lw_s geo).symm ?_
  refine Go.icmp_eq (t := 1548) d_law_329 (by decide) rfl (fun _ => ?_) (fun ne => absurd hv ne)
  refine Go.iinc_4 d_law_1548 rfl (by rfl) nI_inc6 ?_
  refine Go.goto (t := 23) d_law_1551 (by decide) ?_
  refine Go.fgt [some (.ref b), some (.ref c), some (.ref m), some (.ref w), some (.int (nI (i + 6))), none, none, none, none] (by repeat' (first | exact trivial | refine ⟨rfl, ?_⟩)) ?_
  exact Go.room (k _ _ _ _ _ _ _ _ _ _ _ _ _ _ _ _ _ _ _ _ _ _ ⟨geo, hz, hw0, ho, ho2, hrel, hV, hU⟩) (Nat.le_refl _) (by omega) (by omega)
set_option maxRecDepth 100000 in
set_option maxHeartbeats 800000 in
theorem lc_digest {R : RelT} {Γ : G9} {sg tx wd ms : Nat → Nat} {sw sa wa sn b L : Nat} {xs : Nat → Int32} {c m r r2 w n i z C S g g2 o o2 q : Nat} {h : AH} {f : Nat → Int64} {Q : QT} {A : TA} {K : TK} {σ τ : GL} {T : TM} {F : FM} {U : TM} {G : FM} {P : CP} {M : MO} {H : SH} {Y Ah : SX} {ow : Nat} (hst : ST Γ sg tx wd ms sw sa wa sn b L xs) (hp : PureOK R) (hi : i + 6 ≤ L) (hL : L ≤ 3072) (hn : n < 512) (k : LHead R Γ sg b c m r r2 w Q (n + 1) (i + 6) C S) (lf : LF R Γ c m r r2 w n z h f g g2 o o2 q A σ τ T F U P M H Y) : Go Γ M_law 200 (C + 40) (S + 2000) 1534 [some (.ref b), some (.ref c), some (.ref m), some (.ref w), some (.int (nI i)), none, none, none, none] [] (cw_ Γ sg (mf_ Γ h m q r r2 M H Y Ah ow) c g g2 o o2 A K σ τ T F U G P) z Q noX := by
  obtain ⟨geo, hz, hw0, ho, ho2, rel, hV, hU⟩ := lf
  obtain ⟨hA, hT, hW, hsz, hB, hS, hC, hD, hE, hO, hdy⟩ := hp.bnd rel
  obtain ⟨hv, hrel⟩ := hp.p_digest (K := K) (τ := τ) (U := U) (G := G) hn rel
  refine Go.aload_1 d_law_1534 rfl ?_
  refine Go.cv0r d_law_1535 rfl l_Law_161 k_Camp_digest_v (cw_at_c hst.hs hst.hsn hst.hw (by omega) hA ((mf_outlo (by omega)).trans ho) ((mf_outlo (by omega)).trans ho2) hT hU hW hV) rfl (c_Camp_digest hst.hs hst.hsn hst.hw (by omega) hA ((mf_outlo (by omega)).trans ho) ((mf_outlo (by omega)).trans ho2) hT hU hW hV) (by rfl) rfl rfl ?_
  refine Go.aload_2 d_law_1538 rfl ?_
  refine Go.heq (lw_s geo) ?_
  refine Go.cv0r d_law_1539 rfl l_Law_165 k_Model_digest_v (ms_at_m (by omega) hB hS hC hD hE) rfl (c_Model_digest (by omega) hB hS hC hD hE hdy) (by rfl) rfl rfl ?_
  refine Go.heq (lw_s geo).symm ?_
  refine Go.lcmp d_law_1542 rfl ?_
  rw [hv, lg_self]
  refine Go.if_eq (t := 1548) d_law_1543 (by decide) rfl (fun _ => ?_) (fun ne => absurd rfl ne)
  refine Go.iinc_4 d_law_1548 rfl (by rfl) nI_inc6 ?_
  refine Go.goto (t := 23) d_law_1551 (by decide) ?_
  refine Go.fgt [some (.ref b), some (.ref c), some (.ref m), some (.ref w), some (.int (nI (i + 6))), none, none, none, none] (by repeat' (first | exact trivial | refine ⟨rfl, ?_⟩)) ?_
  exact Go.room (k _ _ _ _ _ _ _ _ _ _ _ _ _ _ _ _ _ _ _ _ _ _ ⟨geo, hz, hw0, ho, ho2, hrel, hV, hU⟩) (Nat.le_refl _) (by omega) (by omega)
set_option maxRecDepth 100000 in
set_option maxHeartbeats 800000 in
theorem lc_teach {R : RelT} {Γ : G9} {sg tx wd ms : Nat → Nat} {sw sa wa sn b L : Nat} {xs : Nat → Int32} {c m r r2 w n i z C S g g2 o o2 q : Nat} {h : AH} {f : Nat → Int64} {Q : QT} {A : TA} {K : TK} {σ τ : GL} {T : TM} {F : FM} {U : TM} {G : FM} {P : CP} {M : MO} {H : SH} {Y Ah : SX} {ow : Nat} (hst : ST Γ sg tx wd ms sw sa wa sn b L xs) (hp : PureOK R) (hi : i + 6 ≤ L) (hL : L ≤ 3072) (hn : n < 512) (k : LHead R Γ sg b c m r r2 w Q (n + 1) (i + 6) C S) (lf : LF R Γ c m r r2 w n z h f g g2 o o2 q A σ τ T F U P M H Y) : Go Γ M_law 200 (C + 40) (S + 2000) 308 [some (.ref b), some (.ref c), some (.ref m), some (.ref w), some (.int (nI i)), none, none, none, none] [] (cw_ Γ sg (mf_ Γ h m q r r2 M H Y Ah ow) c g g2 o o2 A K σ τ T F U G P) z Q noX := by
  obtain ⟨geo, hz, hw0, ho, ho2, rel, hV, hU⟩ := lf
  obtain ⟨hA, hT, hW, hsz, hB, hS, hC, hD, hE, hO, hdy⟩ := hp.bnd rel
  obtain ⟨p, hr, hnb, hok, hbad, hV2, hU2⟩ := hp.p_teach (K := K) (τ := τ) (U := U) (G := G) hn rel hV hU
  refine Go.aload_1 d_law_308 rfl ?_
  refine Go.callV (C1 := C + 29) (S1 := S + 1949) (as := []) d_law_309 rfl l_Law_95 k_Camp_teach_v rfl (cw_at_c hst.hs hst.hsn hst.hw (by omega) hA ((mf_outlo (by omega)).trans ho) ((mf_outlo (by omega)).trans ho2) hT hU hW hV) rfl rfl (c_Camp_teach (u := z) hst.hs hst.hsn hst.hw (by omega) hA ((mf_outlo (by omega)).trans ho) ((mf_outlo (by omega)).trans ho2) hT hU hW hV hst.hcs hst.htx hst.hsa hst.hao) (by decide) (by decide) (by omega) (by omega) (Nat.le_of_ble_eq_true rfl) (fun E h9 z8 hx9 _ => hx9.elim) (fun v1 h1 z2 hx1 hz1 => ?_)
  obtain ⟨hz2, hx1⟩ := hx1
  by_cases herr : (s_Teacher_error (s_Teacher_readList (s_Tokens_readFrom A K) (s_Orders_clear U G).2 (0, -1) new_nm new_nm new_nm new_nm new_nm (s_Orders_clear U G).1 (s_Glacier_beginAnew τ (s_Glacier_day σ))).1 (s_Teacher_readList (s_Tokens_readFrom A K) (s_Orders_clear U G).2 (0, -1) new_nm new_nm new_nm new_nm new_nm (s_Orders_clear U G).1 (s_Glacier_beginAnew τ (s_Glacier_day σ))).2.2.1) = 0
  · skip
    obtain ⟨rfl, h3, hh3, rfl⟩ := hx1.1 herr
    obtain ⟨hp1, hrel⟩ := hok herr
    have e3 : (mf_ Γ h3 m q r r2 M H Y Ah ow) = h3 := mf_abs geo hz (fun a ha1 ha2 => hh3 a ha2)
    refine Go.heq (h' := (cw_ Γ sg (mf_ Γ h3 m q r r2 M H Y Ah ow) c g2 g o2 o (s_Tape_cut A 0) (s_Teacher_readList (s_Tokens_readFrom A K) (s_Orders_clear U G).2 (0, -1) new_nm new_nm new_nm new_nm new_nm (s_Orders_clear U G).1 (s_Glacier_beginAnew τ (s_Glacier_day σ))).1 (s_Teacher_readList (s_Tokens_readFrom A K) (s_Orders_clear U G).2 (0, -1) new_nm new_nm new_nm new_nm new_nm (s_Orders_clear U G).1 (s_Glacier_beginAnew τ (s_Glacier_day σ))).2.2.2.2.2.2.2.2.2 σ (s_Teacher_readList (s_Tokens_readFrom A K) (s_Orders_clear U G).2 (0, -1) new_nm new_nm new_nm new_nm new_nm (s_Orders_clear U G).1 (s_Glacier_beginAnew τ (s_Glacier_day σ))).2.2.2.2.2.2.2.2.1 (s_Teacher_readList (s_Tokens_readFrom A K) (s_Orders_clear U G).2 (0, -1) new_nm new_nm new_nm new_nm new_nm (s_Orders_clear U G).1 (s_Glacier_beginAnew τ (s_Glacier_day σ))).2.1 T F (cp_ep' P (s_Teacher_errorPosition (s_Teacher_readList (s_Tokens_readFrom A K) (s_Orders_clear U G).2 (0, -1) new_nm new_nm new_nm new_nm new_nm (s_Orders_clear U G).1 (s_Glacier_beginAnew τ (s_Glacier_day σ))).1 (s_Teacher_readList (s_Tokens_readFrom A K) (s_Orders_clear U G).2 (0, -1) new_nm new_nm new_nm new_nm new_nm (s_Orders_clear U G).1 (s_Glacier_beginAnew τ (s_Glacier_day σ))).2.2.1)))) (congrArg (fun hh => cw_ Γ sg hh c g2 g o2 o (s_Tape_cut A 0) (s_Teacher_readList (s_Tokens_readFrom A K) (s_Orders_clear U G).2 (0, -1) new_nm new_nm new_nm new_nm new_nm (s_Orders_clear U G).1 (s_Glacier_beginAnew τ (s_Glacier_day σ))).1 (s_Teacher_readList (s_Tokens_readFrom A K) (s_Orders_clear U G).2 (0, -1) new_nm new_nm new_nm new_nm new_nm (s_Orders_clear U G).1 (s_Glacier_beginAnew τ (s_Glacier_day σ))).2.2.2.2.2.2.2.2.2 σ (s_Teacher_readList (s_Tokens_readFrom A K) (s_Orders_clear U G).2 (0, -1) new_nm new_nm new_nm new_nm new_nm (s_Orders_clear U G).1 (s_Glacier_beginAnew τ (s_Glacier_day σ))).2.2.2.2.2.2.2.2.1 (s_Teacher_readList (s_Tokens_readFrom A K) (s_Orders_clear U G).2 (0, -1) new_nm new_nm new_nm new_nm new_nm (s_Orders_clear U G).1 (s_Glacier_beginAnew τ (s_Glacier_day σ))).2.1 T F (cp_ep' P (s_Teacher_errorPosition (s_Teacher_readList (s_Tokens_readFrom A K) (s_Orders_clear U G).2 (0, -1) new_nm new_nm new_nm new_nm new_nm (s_Orders_clear U G).1 (s_Glacier_beginAnew τ (s_Glacier_day σ))).1 (s_Teacher_readList (s_Tokens_readFrom A K) (s_Orders_clear U G).2 (0, -1) new_nm new_nm new_nm new_nm new_nm (s_Orders_clear U G).1 (s_Glacier_beginAnew τ (s_Glacier_day σ))).2.2.1))) e3.symm) ?_
    have hw3 : h3 w = some (aJ Γ 1 f) := (hh3 w (by omega)).trans ((mf_outw (by omega)).trans hw0)
    have ho := (hh3 o (by omega)).trans ((mf_outlo (by omega)).trans ho)
    have ho2 := (hh3 o2 (by omega)).trans ((mf_outlo (by omega)).trans ho2)
    have geo' : c + 7 ≤ g2 ∧ c + 7 ≤ g ∧ (g2 + 12 ≤ g ∨ g + 12 ≤ g2) ∧ g2 + 12 ≤ o2 ∧ g2 + 12 ≤ o ∧ g + 12 ≤ o2 ∧ g + 12 ≤ o ∧ (o2 + 7 ≤ o ∨ o + 7 ≤ o2) ∧ o2 + 7 ≤ m ∧ o + 7 ≤ m ∧ m + 2 ≤ q ∧ m + 2 ≤ r ∧ r + 21 ≤ r2 ∧ r2 + 21 ≤ w ∧ (q + 24 ≤ r ∨ w + 1 ≤ q) := by omega
    refine Go.heq (lw_s geo') ?_
    refine Go.aload_2 d_law_312 rfl ?_
    refine Go.callV (C1 := C + 4) (S1 := S + 63) (as := []) d_law_313 rfl l_Law_98 k_Model_teach_v rfl (ms_at_m (by omega) hB hS hC hD hE) rfl rfl (c_Model_teach (z := z2) (by omega) (by omega) hB hS hC hD hE hsz hst.hcs hst.hwd hst.hsg hst.hao hr hnb) (by decide) (by decide) (by omega) (by omega) (Nat.le_of_ble_eq_true rfl) (fun E h9 z8 hx9 _ => hx9.elim) (fun v8 h8 z8 hx9 _ => ?_)
    obtain ⟨hz8, hx9⟩ := hx9
    obtain ⟨rfl, h4, hh4, rfl⟩ := hx9.1 hp1
    refine Go.heq (lw_abs (q2 := z2) (H2 := p.2.2) (Y2 := (s_Model_begin p.2.2 Y)) geo' (by omega) (fun b hb hb2 => hh4 b (by omega) hb2)) ?_
    have hw4 : h4 w = some (aJ Γ 1 f) := (hh4 w (by omega) (by omega)).trans ((blk_out (by omega)).trans ((cw_outu (by omega)).trans hw3))
    have ho := (hh4 o (by omega) (by omega)).trans ((blk_out (by omega)).trans ((cw_outo2 (by omega)).trans ho))
    have ho2 := (hh4 o2 (by omega) (by omega)).trans ((blk_out (by omega)).trans ((cw_outo (by omega)).trans ho2))
    refine Go.icmp_eq (t := 1548) d_law_316 (by decide) rfl (fun _ => ?_) (fun ne => absurd herr ne)
    refine Go.iinc_4 d_law_1548 rfl (by rfl) nI_inc6 ?_
    refine Go.goto (t := 23) d_law_1551 (by decide) ?_
    refine Go.fgt [some (.ref b), some (.ref c), some (.ref m), some (.ref w), some (.int (nI (i + 6))), none, none, none, none] (by repeat' (first | exact trivial | refine ⟨rfl, ?_⟩)) ?_
    exact Go.room (k _ _ _ _ _ _ _ _ _ _ _ _ _ _ _ _ _ _ _ _ _ _ ⟨by omega, by omega, hw4, ho2, ho, hrel, hW, hT⟩) (Nat.le_refl _) (by omega) (by omega)
  · skip
    obtain ⟨rfl, h3, hh3, rfl⟩ := hx1.2 herr
    obtain ⟨hp1, hv, hrel⟩ := hbad herr
    have e3 : (mf_ Γ h3 m q r r2 M H Y Ah ow) = h3 := mf_abs geo hz (fun a ha1 ha2 => hh3 a ha2)
    refine Go.heq (h' := (cw_ Γ sg (mf_ Γ h3 m q r r2 M H Y Ah ow) c g g2 o o2 (s_Tape_cut A 0) (s_Teacher_readList (s_Tokens_readFrom A K) (s_Orders_clear U G).2 (0, -1) new_nm new_nm new_nm new_nm new_nm (s_Orders_clear U G).1 (s_Glacier_beginAnew τ (s_Glacier_day σ))).1 σ (s_Teacher_readList (s_Tokens_readFrom A K) (s_Orders_clear U G).2 (0, -1) new_nm new_nm new_nm new_nm new_nm (s_Orders_clear U G).1 (s_Glacier_beginAnew τ (s_Glacier_day σ))).2.2.2.2.2.2.2.2.2 T F (s_Teacher_readList (s_Tokens_readFrom A K) (s_Orders_clear U G).2 (0, -1) new_nm new_nm new_nm new_nm new_nm (s_Orders_clear U G).1 (s_Glacier_beginAnew τ (s_Glacier_day σ))).2.2.2.2.2.2.2.2.1 (s_Teacher_readList (s_Tokens_readFrom A K) (s_Orders_clear U G).2 (0, -1) new_nm new_nm new_nm new_nm new_nm (s_Orders_clear U G).1 (s_Glacier_beginAnew τ (s_Glacier_day σ))).2.1 (cp_ep' P (s_Teacher_errorPosition (s_Teacher_readList (s_Tokens_readFrom A K) (s_Orders_clear U G).2 (0, -1) new_nm new_nm new_nm new_nm new_nm (s_Orders_clear U G).1 (s_Glacier_beginAnew τ (s_Glacier_day σ))).1 (s_Teacher_readList (s_Tokens_readFrom A K) (s_Orders_clear U G).2 (0, -1) new_nm new_nm new_nm new_nm new_nm (s_Orders_clear U G).1 (s_Glacier_beginAnew τ (s_Glacier_day σ))).2.2.1)))) (congrArg (fun hh => cw_ Γ sg hh c g g2 o o2 (s_Tape_cut A 0) (s_Teacher_readList (s_Tokens_readFrom A K) (s_Orders_clear U G).2 (0, -1) new_nm new_nm new_nm new_nm new_nm (s_Orders_clear U G).1 (s_Glacier_beginAnew τ (s_Glacier_day σ))).1 σ (s_Teacher_readList (s_Tokens_readFrom A K) (s_Orders_clear U G).2 (0, -1) new_nm new_nm new_nm new_nm new_nm (s_Orders_clear U G).1 (s_Glacier_beginAnew τ (s_Glacier_day σ))).2.2.2.2.2.2.2.2.2 T F (s_Teacher_readList (s_Tokens_readFrom A K) (s_Orders_clear U G).2 (0, -1) new_nm new_nm new_nm new_nm new_nm (s_Orders_clear U G).1 (s_Glacier_beginAnew τ (s_Glacier_day σ))).2.2.2.2.2.2.2.2.1 (s_Teacher_readList (s_Tokens_readFrom A K) (s_Orders_clear U G).2 (0, -1) new_nm new_nm new_nm new_nm new_nm (s_Orders_clear U G).1 (s_Glacier_beginAnew τ (s_Glacier_day σ))).2.1 (cp_ep' P (s_Teacher_errorPosition (s_Teacher_readList (s_Tokens_readFrom A K) (s_Orders_clear U G).2 (0, -1) new_nm new_nm new_nm new_nm new_nm (s_Orders_clear U G).1 (s_Glacier_beginAnew τ (s_Glacier_day σ))).1 (s_Teacher_readList (s_Tokens_readFrom A K) (s_Orders_clear U G).2 (0, -1) new_nm new_nm new_nm new_nm new_nm (s_Orders_clear U G).1 (s_Glacier_beginAnew τ (s_Glacier_day σ))).2.2.1))) e3.symm) ?_
    have hw3 : h3 w = some (aJ Γ 1 f) := (hh3 w (by omega)).trans ((mf_outw (by omega)).trans hw0)
    have ho := (hh3 o (by omega)).trans ((mf_outlo (by omega)).trans ho)
    have ho2 := (hh3 o2 (by omega)).trans ((mf_outlo (by omega)).trans ho2)
    have geo' : c + 7 ≤ g ∧ c + 7 ≤ g2 ∧ (g + 12 ≤ g2 ∨ g2 + 12 ≤ g) ∧ g + 12 ≤ o ∧ g + 12 ≤ o2 ∧ g2 + 12 ≤ o ∧ g2 + 12 ≤ o2 ∧ (o + 7 ≤ o2 ∨ o2 + 7 ≤ o) ∧ o + 7 ≤ m ∧ o2 + 7 ≤ m ∧ m + 2 ≤ q ∧ m + 2 ≤ r ∧ r + 21 ≤ r2 ∧ r2 + 21 ≤ w ∧ (q + 24 ≤ r ∨ w + 1 ≤ q) := by omega
    refine Go.heq (lw_s geo') ?_
    refine Go.aload_2 d_law_312 rfl ?_
    refine Go.callV (C1 := C + 4) (S1 := S + 63) (as := []) d_law_313 rfl l_Law_98 k_Model_teach_v rfl (ms_at_m (by omega) hB hS hC hD hE) rfl rfl (c_Model_teach (z := z2) (by omega) (by omega) hB hS hC hD hE hsz hst.hcs hst.hwd hst.hsg hst.hao hr hnb) (by decide) (by decide) (by omega) (by omega) (Nat.le_of_ble_eq_true rfl) (fun E h9 z8 hx9 _ => hx9.elim) (fun v8 h8 z8 hx9 _ => ?_)
    obtain ⟨hz8, hx9⟩ := hx9
    obtain ⟨rfl, h4, hh4, rfl⟩ := hx9.2 hp1
    refine Go.heq (lw_abs (q2 := q) (H2 := H) (Y2 := Y) geo' (by omega) (fun b hb hb2 => hh4 b (by omega) hb2)) ?_
    have hw4 : h4 w = some (aJ Γ 1 f) := (hh4 w (by omega) (by omega)).trans ((blk_out (by omega)).trans ((cw_outu (by omega)).trans hw3))
    have ho := (hh4 o (by omega) (by omega)).trans ((blk_out (by omega)).trans ((cw_outo (by omega)).trans ho))
    have ho2 := (hh4 o2 (by omega) (by omega)).trans ((blk_out (by omega)).trans ((cw_outo2 (by omega)).trans ho2))
    refine Go.icmp_eq (t := 1548) d_law_316 (by decide) rfl (fun _ => ?_) (fun ne => absurd hv ne)
    refine Go.iinc_4 d_law_1548 rfl (by rfl) nI_inc6 ?_
    refine Go.goto (t := 23) d_law_1551 (by decide) ?_
    refine Go.fgt [some (.ref b), some (.ref c), some (.ref m), some (.ref w), some (.int (nI (i + 6))), none, none, none, none] (by repeat' (first | exact trivial | refine ⟨rfl, ?_⟩)) ?_
    exact Go.room (k _ _ _ _ _ _ _ _ _ _ _ _ _ _ _ _ _ _ _ _ _ _ ⟨by omega, by omega, hw4, ho, ho2, hrel, hV2, hU2⟩) (Nat.le_refl _) (by omega) (by omega)
