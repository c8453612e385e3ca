/-! the law: its handlers; what it calls of the class -/
/-- no exception of one of the three classes is one of another -/
def NcOk (Γ : G9) : Prop := SF Γ (fun _ U _ => va_Nc xIS xIO U ∧ va_Nc xIA xIO U ∧ va_Nc xIS xIA U ∧ va_Nc xIO xIA U)
theorem Go.catch {Γ : G9} {M : MI} {d C S pc : Nat} {L : List (Option Value)} {h : AH} {z : Nat} {Q : QT} {X : XT} {E name : String} (pre : List ExceptionTableEntry) (x : ExceptionTableEntry) (suf : List ExceptionTableEntry) (hsplit : tableOf M.2.2.2.2 = pre ++ x :: suf)
    (hpass : ∀ y ∈ pre, covers y pc = false ∨ (y.catchType ≠ 0 ∧ ∃ nm : String, Cond.classLink M.1.cls y.catchType nm ∈ gw ∧ SF Γ (fun _ U _ => va_Nc E nm U))) (hx : covers x pc = true) (h0 : x.catchType ≠ 0) (hlink : Cond.classLink M.1.cls x.catchType name ∈ gw) (hcast : Cond.castable E name ∈ nw)
    (kk : ∀ q : Nat, Go Γ M d C S x.handlerPc L [.ref q] h z Q X) : GoX Γ M d C S pc L E h z Q X := by
  intro p e R s m args below meth c H locs cells slots ls Z rest q ce hc hcell hcv hcl
  have hts := hc.1.2.2.2.2.2.1
  have hH := hc.2.2.1
  exact vx_catch (own := M.1.cls) (name := name) (E := E) hc.1.2.2.2.2.1 pre x suf (by rw [hc.1.2.2.2.2.2.2.2.1]; exact hsplit) (fun y hy => (hpass y hy).imp id (fun ⟨a, nm, b, f⟩ => ⟨a, nm, hts _ b, f _ _ hH.se⟩)) hx h0 (hts _ hlink) (va_Nw.use rfl (hH.1.2.2.2.2.2 _ hcast)) hcell hcv hcl (kk q _ _ _ _ _ _ _ _ _ _ _ _ _ _ _ hc)
theorem ca_IO : Cond.castable xIO xIO ∈ nw := gn_4 (List.mem_of_getElem? (i := 151) rfl) rfl
theorem ca_IA : Cond.castable xIA xIA ∈ nw := gn_4 (List.mem_of_getElem? (i := 124) rfl) rfl
theorem ca_IS : Cond.castable xIS xIS ∈ nw := gn_4 (List.mem_of_getElem? (i := 45) rfl) rfl
theorem lk_IO : Cond.classLink "GlacierCampLaw" 24 xIO ∈ gw := (gm_4 (List.mem_of_getElem? (i := 141) rfl) rfl)
theorem lk_IA : Cond.classLink "GlacierCampLaw" 19 xIA ∈ gw := (gm_4 (List.mem_of_getElem? (i := 117) rfl) rfl)
theorem lk_IS : Cond.classLink "GlacierCampLaw" 13 xIS ∈ gw := (gm_4 (List.mem_of_getElem? (i := 38) rfl) rfl)
theorem needRow_01 {T : TM} {x : Int32} : s_Camp_needRow T x = 0 ∨ s_Camp_needRow T x = 1 := by
  unfold s_Camp_needRow
  (repeat' split) <;> first | exact Or.inl rfl | exact Or.inr rfl
theorem needWhat_01 {x y : Int32} : s_Camp_needWhat x y = 0 ∨ s_Camp_needWhat x y = 1 := by
  unfold s_Camp_needWhat
  (repeat' split) <;> first | exact Or.inl rfl | exact Or.inr rfl
theorem needRange_02 {x y z : Int32} : s_Camp_needRange x y z = 0 ∨ s_Camp_needRange x y z = 2 := by
  unfold s_Camp_needRange
  (repeat' split) <;> first | exact Or.inl rfl | exact Or.inr rfl
theorem or3 {a b c d : Prop} (h : a ∨ b) : a ∨ b ∨ c ∨ d := h.elim Or.inl (fun x => Or.inr (Or.inl x))
/-- 0, or the number of one of the three -/
def t3 (t : Int32) : Prop := t = 0 ∨ t = 1 ∨ t = 2 ∨ t = 3
set_option maxRecDepth 100000 in
set_option maxHeartbeats 800000 in
theorem thr_feed {A : TA} {K : TK} {σ τ : GL} {T : TM} {F : FM} {U : TM} {G : FM} {P : CP} {x1 : Int32} {x2 : Int32} {x3 : Int32} {x4 : Int32} {x5 : Int32} : (s_Camp_feed A K σ τ T F U G P x1 x2 x3 x4 x5).1 = 0 ∨ (s_Camp_feed A K σ τ T F U G P x1 x2 x3 x4 x5).1 = 3 := by
  unfold s_Camp_feed
  (repeat' split) <;> (try dsimp only) <;> first
    | exact Or.inl rfl
    | exact Or.inr (rfl)
theorem d_Law_feed_0 : decode M_Law_feed.2.1 0 = .ok (.aload 6, 2) := by decide +kernel
theorem d_Law_feed_2 : decode M_Law_feed.2.1 2 = .ok (.iconst 0, 1) := by decide +kernel
theorem d_Law_feed_3 : decode M_Law_feed.2.1 3 = .ok (.aload_n 0, 1) := by decide +kernel
theorem d_Law_feed_4 : decode M_Law_feed.2.1 4 = .ok (.iload_n 1, 1) := by decide +kernel
theorem d_Law_feed_5 : decode M_Law_feed.2.1 5 = .ok (.iload_n 2, 1) := by decide +kernel
theorem d_Law_feed_6 : decode M_Law_feed.2.1 6 = .ok (.iload_n 3, 1) := by decide +kernel
theorem d_Law_feed_7 : decode M_Law_feed.2.1 7 = .ok (.iload 4, 2) := by decide +kernel
theorem d_Law_feed_9 : decode M_Law_feed.2.1 9 = .ok (.iload 5, 2) := by decide +kernel
theorem d_Law_feed_11 : decode M_Law_feed.2.1 11 = .ok (.invokevirtual 7, 3) := by decide +kernel
theorem d_Law_feed_14 : decode M_Law_feed.2.1 14 = .ok (.i2l, 1) := by decide +kernel
theorem d_Law_feed_15 : decode M_Law_feed.2.1 15 = .ok (.lastore, 1) := by decide +kernel
theorem d_Law_feed_16 : decode M_Law_feed.2.1 16 = .ok (.goto 7, 3) := by decide +kernel
theorem d_Law_feed_19 : decode M_Law_feed.2.1 19 = .ok (.astore 7, 2) := by decide +kernel
theorem d_Law_feed_21 : decode M_Law_feed.2.1 21 = .ok (.iconst 1, 1) := by decide +kernel
theorem d_Law_feed_22 : decode M_Law_feed.2.1 22 = .ok (.ireturn, 1) := by decide +kernel
theorem d_Law_feed_23 : decode M_Law_feed.2.1 23 = .ok (.iconst 0, 1) := by decide +kernel
theorem d_Law_feed_24 : decode M_Law_feed.2.1 24 = .ok (.ireturn, 1) := by decide +kernel
set_option maxRecDepth 100000 in
set_option maxHeartbeats 800000 in
theorem w_feed {Γ : G9} {sg : Nat → Nat} {sw : Nat} {ms : Nat → Nat} {h : AH} {c g g2 o o2 z : Nat} {w : Nat} {f : Nat → Int64} {A : TA} {K : TK} {σ : GL} {τ : GL} {T : TM} {F : FM} {U : TM} {G : FM} {P : CP} {x1 : Int32} {x2 : Int32} {x3 : Int32} {x4 : Int32} {x5 : Int32} (hs : SgOk Γ sg) (hsn : SgNe sg) (hw : SwOk Γ sw) (geo : c + 7 ≤ g ∧ c + 7 ≤ g2 ∧ (g + 12 ≤ g2 ∨ g2 + 12 ≤ g) ∧ g + 12 ≤ o ∧ g + 12 ≤ o2 ∧ g2 + 12 ≤ o ∧ g2 + 12 ≤ o2 ∧ (o + 7 ≤ o2 ∨ o2 + 7 ≤ o) ∧ g + 12 ≤ w ∧ g2 + 12 ≤ w ∧ o + 7 ≤ w ∧ o2 + 7 ≤ w) (hA : ta_sz A ≤ 2000) (ho : h o = some (.inr (3, [.ref (o + 1), .ref (o + 3)]))) (ho2 : h o2 = some (.inr (3, [.ref (o2 + 1), .ref (o2 + 3)]))) (hT : T.2 ≤ 20) (hU : U.2 ≤ 20) (hW : WFG σ) (hV : WFG τ) (hms : MsOk Γ ms) (hth : ThOk Γ) (hw0 : h w = some (aJ Γ 1 f)) (hnc : NcOk Γ) : Call Γ M_Law_feed 7 4 24 [.ref c, .int x1, .int x2, .int x3, .int x4, .int x5, .ref w] (cw_ Γ sg h c g g2 o o2 A K σ τ T F U G P) z (fun v h2 z2 => z ≤ z2 ∧ ((s_Camp_feed A K σ τ T F U G P x1 x2 x3 x4 x5).1 = 0 → v = some (.int 0) ∧ h2 = (cw_ Γ sg (hup h w (aJ Γ 1 (vp_updL f 0 (nI (s_Camp_feed A K σ τ T F U G P x1 x2 x3 x4 x5).2.1).toInt64))) c g g2 o o2 (s_Camp_feed A K σ τ T F U G P x1 x2 x3 x4 x5).2.2 K σ τ T F U G P)) ∧ (¬ (s_Camp_feed A K σ τ T F U G P x1 x2 x3 x4 x5).1 = 0 → v = some (.int (1)) ∧ h2 = (cw_ Γ sg h c g g2 o o2 (s_Camp_feed A K σ τ T F U G P x1 x2 x3 x4 x5).2.2 K σ τ T F U G P))) noX := by
  refine Call.of_go (L := [some (.ref c), some (.int x1), some (.int x2), some (.int x3), some (.int x4), some (.int x5), some (.ref w), none]) (by decide +kernel) rfl (by exact Nat.le_of_ble_eq_true rfl) ?_
  refine Go.aload_6 d_Law_feed_0 rfl ?_
  refine Go.iconst (v := 0) d_Law_feed_2 rfl (by decide) ?_
  refine Go.aload_0 d_Law_feed_3 rfl ?_
  refine Go.iload_1 d_Law_feed_4 rfl ?_
  refine Go.iload_2 d_Law_feed_5 rfl ?_
  refine Go.iload_3 d_Law_feed_6 rfl ?_
  refine Go.iload_4 d_Law_feed_7 rfl ?_
  refine Go.iload_5 d_Law_feed_9 rfl ?_
  refine Go.callV (C1 := 0) (S1 := 0) (as := [.int x1, .int x2, .int x3, .int x4, .int x5]) d_Law_feed_11 rfl l_Law_7 k_Camp_feed_v rfl (cw_at_c hs hsn hw (by omega) hA ho ho2 hT hU hW hV) rfl rfl (c_Camp_feed hs hsn hw (by omega) hA ho ho2 hT hU hW hV hms hth) (by decide) (by decide) (by decide) (by decide) (Nat.le_of_ble_eq_true rfl) (fun E h9 z9 hx hz9 => ?_) (fun v h9 z9 hx hz9 => ?_)
  · obtain ⟨ht, rfl, rfl, hz⟩ := hx
    have h3 := thr_feed (A := A) (K := K) (σ := σ) (τ := τ) (T := T) (F := F) (U := U) (G := G) (P := P) (x1 := x1) (x2 := x2) (x3 := x3) (x4 := x4) (x5 := x5)
    rcases h3 with h3 | h3
    · exact absurd h3 ht
    · rw [show exn (s_Camp_feed A K σ τ T F U G P x1 x2 x3 x4 x5).1 = xIS from by rw [h3]; rfl]
      refine Go.catch [] ⟨0, 16, 19, 13⟩ [] rfl (fun y hy => by cases hy) (by rfl) (by decide) lk_IS ca_IS (fun q9 => ?_)
      refine Go.astore_7 d_Law_feed_19 rfl (by rfl) ?_
      refine Go.iconst (v := 1) d_Law_feed_21 rfl (by decide) ?_
      exact Go.iret d_Law_feed_22 rfl rfl ⟨hz, fun c => absurd c ht, fun _ => ⟨rfl, rfl⟩⟩
  · obtain ⟨ht, rfl, rfl, rfl⟩ := hx
    refine Go.i2l d_Law_feed_14 rfl ?_
    refine Go.lastore d_Law_feed_15 rfl ((cw_outu (by omega)).trans hw0) (show vp_in (nI 0) 1 from vp_in_nI (by decide) (by decide)) ?_
    refine Go.heq (cw_hup (by omega)) ?_
    refine Go.goto (t := 23) d_Law_feed_16 (by decide) ?_
    refine Go.iconst (v := 0) d_Law_feed_23 rfl (by decide) ?_
    exact Go.iret d_Law_feed_24 rfl rfl ⟨Nat.le_refl _, fun _ => ⟨rfl, rfl⟩, fun c => absurd ht c⟩
set_option maxRecDepth 100000 in
set_option maxHeartbeats 800000 in
theorem thr_trim {A : TA} {K : TK} {σ τ : GL} {T : TM} {F : FM} {U : TM} {G : FM} {P : CP} {x1 : Nat} : (s_Camp_trim A K σ τ T F U G P x1).1 = 0 ∨ (s_Camp_trim A K σ τ T F U G P x1).1 = 2 := by
  unfold s_Camp_trim
  (repeat' split) <;> (try dsimp only) <;> first
    | exact Or.inl rfl
    | exact Or.inr (rfl)
    | exact (needRange_02).elim (fun q => Or.inl q) (fun q => Or.inr (q))
theorem d_Law_trim_0 : decode M_Law_trim.2.1 0 = .ok (.aload_n 2, 1) := by decide +kernel
theorem d_Law_trim_1 : decode M_Law_trim.2.1 1 = .ok (.iconst 0, 1) := by decide +kernel
theorem d_Law_trim_2 : decode M_Law_trim.2.1 2 = .ok (.aload_n 0, 1) := by decide +kernel
theorem d_Law_trim_3 : decode M_Law_trim.2.1 3 = .ok (.iload_n 1, 1) := by decide +kernel
theorem d_Law_trim_4 : decode M_Law_trim.2.1 4 = .ok (.invokevirtual 15, 3) := by decide +kernel
theorem d_Law_trim_7 : decode M_Law_trim.2.1 7 = .ok (.i2l, 1) := by decide +kernel
theorem d_Law_trim_8 : decode M_Law_trim.2.1 8 = .ok (.lastore, 1) := by decide +kernel
theorem d_Law_trim_9 : decode M_Law_trim.2.1 9 = .ok (.goto 6, 3) := by decide +kernel
theorem d_Law_trim_12 : decode M_Law_trim.2.1 12 = .ok (.astore_n 3, 1) := by decide +kernel
theorem d_Law_trim_13 : decode M_Law_trim.2.1 13 = .ok (.iconst 1, 1) := by decide +kernel
theorem d_Law_trim_14 : decode M_Law_trim.2.1 14 = .ok (.ireturn, 1) := by decide +kernel
theorem d_Law_trim_15 : decode M_Law_trim.2.1 15 = .ok (.iconst 0, 1) := by decide +kernel
theorem d_Law_trim_16 : decode M_Law_trim.2.1 16 = .ok (.ireturn, 1) := by decide +kernel
set_option maxRecDepth 100000 in
set_option maxHeartbeats 800000 in
theorem w_trim {Γ : G9} {sg : Nat → Nat} {sw : Nat} {ms : Nat → Nat} {h : AH} {c g g2 o o2 z : Nat} {w : Nat} {f : Nat → Int64} {A : TA} {K : TK} {σ : GL} {τ : GL} {T : TM} {F : FM} {U : TM} {G : FM} {P : CP} {x1 : Nat} {vx1 : Int32} (ex1 : vx1 = nI x1) (bx1 : x1 < 2 ^ 31) (hs : SgOk Γ sg) (hsn : SgNe sg) (hw : SwOk Γ sw) (geo : c + 7 ≤ g ∧ c + 7 ≤ g2 ∧ (g + 12 ≤ g2 ∨ g2 + 12 ≤ g) ∧ g + 12 ≤ o ∧ g + 12 ≤ o2 ∧ g2 + 12 ≤ o ∧ g2 + 12 ≤ o2 ∧ (o + 7 ≤ o2 ∨ o2 + 7 ≤ o) ∧ g + 12 ≤ w ∧ g2 + 12 ≤ w ∧ o + 7 ≤ w ∧ o2 + 7 ≤ w) (hA : ta_sz A ≤ 2000) (ho : h o = some (.inr (3, [.ref (o + 1), .ref (o + 3)]))) (ho2 : h o2 = some (.inr (3, [.ref (o2 + 1), .ref (o2 + 3)]))) (hT : T.2 ≤ 20) (hU : U.2 ≤ 20) (hW : WFG σ) (hV : WFG τ) (hms : MsOk Γ ms) (hth : ThOk Γ) (hw0 : h w = some (aJ Γ 1 f)) (hnc : NcOk Γ) : Call Γ M_Law_trim 7 4 24 [.ref c, .int vx1, .ref w] (cw_ Γ sg h c g g2 o o2 A K σ τ T F U G P) z (fun v h2 z2 => z ≤ z2 ∧ ((s_Camp_trim A K σ τ T F U G P x1).1 = 0 → v = some (.int 0) ∧ h2 = (cw_ Γ sg (hup h w (aJ Γ 1 (vp_updL f 0 (s_Camp_trim A K σ τ T F U G P x1).2.1.toInt64))) c g g2 o o2 (s_Camp_trim A K σ τ T F U G P x1).2.2 K σ τ T F U G P)) ∧ (¬ (s_Camp_trim A K σ τ T F U G P x1).1 = 0 → v = some (.int (1)) ∧ h2 = (cw_ Γ sg h c g g2 o o2 (s_Camp_trim A K σ τ T F U G P x1).2.2 K σ τ T F U G P))) noX := by
  refine Call.of_go (L := [some (.ref c), some (.int vx1), some (.ref w), none]) (by decide +kernel) rfl (by exact Nat.le_of_ble_eq_true rfl) ?_
  refine Go.aload_2 d_Law_trim_0 rfl ?_
  refine Go.iconst (v := 0) d_Law_trim_1 rfl (by decide) ?_
  refine Go.aload_0 d_Law_trim_2 rfl ?_
  refine Go.iload_1 d_Law_trim_3 rfl ?_
  refine Go.callV (C1 := 0) (S1 := 0) (as := [.int vx1]) d_Law_trim_4 rfl l_Law_15 k_Camp_trim_v rfl (cw_at_c hs hsn hw (by omega) hA ho ho2 hT hU hW hV) rfl rfl (c_Camp_trim ex1 bx1 hs hsn hw (by omega) hA ho ho2 hT hU hW hV hms hth) (by decide) (by decide) (by decide) (by decide) (Nat.le_of_ble_eq_true rfl) (fun E h9 z9 hx hz9 => ?_) (fun v h9 z9 hx hz9 => ?_)
  · obtain ⟨ht, rfl, rfl, hz⟩ := hx
    have h3 := thr_trim (A := A) (K := K) (σ := σ) (τ := τ) (T := T) (F := F) (U := U) (G := G) (P := P) (x1 := x1)
    rcases h3 with h3 | h3
    · exact absurd h3 ht
    · rw [show exn (s_Camp_trim A K σ τ T F U G P x1).1 = xIA from by rw [h3]; rfl]
      refine Go.catch [] ⟨0, 9, 12, 19⟩ [] rfl (fun y hy => by cases hy) (by rfl) (by decide) lk_IA ca_IA (fun q9 => ?_)
      refine Go.astore_3 d_Law_trim_12 rfl (by rfl) ?_
      refine Go.iconst (v := 1) d_Law_trim_13 rfl (by decide) ?_
      exact Go.iret d_Law_trim_14 rfl rfl ⟨hz, fun c => absurd c ht, fun _ => ⟨rfl, rfl⟩⟩
  · obtain ⟨ht, rfl, rfl, rfl⟩ := hx
    refine Go.i2l d_Law_trim_7 rfl ?_
    refine Go.lastore d_Law_trim_8 rfl ((cw_outu (by omega)).trans hw0) (show vp_in (nI 0) 1 from vp_in_nI (by decide) (by decide)) ?_
    refine Go.heq (cw_hup (by omega)) ?_
    refine Go.goto (t := 15) d_Law_trim_9 (by decide) ?_
    refine Go.iconst (v := 0) d_Law_trim_15 rfl (by decide) ?_
    exact Go.iret d_Law_trim_16 rfl rfl ⟨Nat.le_refl _, fun _ => ⟨rfl, rfl⟩, fun c => absurd ht c⟩
set_option maxRecDepth 100000 in
set_option maxHeartbeats 800000 in
theorem thr_trimN {A : TA} {K : TK} {σ τ : GL} {T : TM} {F : FM} {U : TM} {G : FM} {P : CP} {x1 : Int32} : (s_Camp_trimN A K σ τ T F U G P x1).1 = 0 ∨ (s_Camp_trimN A K σ τ T F U G P x1).1 = 2 := by
  unfold s_Camp_trimN
  (repeat' split) <;> (try dsimp only) <;> first
    | exact Or.inl rfl
    | exact Or.inr (rfl)
    | exact (needRange_02).elim (fun q => Or.inl q) (fun q => Or.inr (q))
set_option maxRecDepth 100000 in
set_option maxHeartbeats 800000 in
theorem w_trimN {Γ : G9} {sg : Nat → Nat} {sw : Nat} {ms : Nat → Nat} {h : AH} {c g g2 o o2 z : Nat} {w : Nat} {f : Nat → Int64} {A : TA} {K : TK} {σ : GL} {τ : GL} {T : TM} {F : FM} {U : TM} {G : FM} {P : CP} {x1 : Int32} (hneg : x1 < 0) (hs : SgOk Γ sg) (hsn : SgNe sg) (hw : SwOk Γ sw) (geo : c + 7 ≤ g ∧ c + 7 ≤ g2 ∧ (g + 12 ≤ g2 ∨ g2 + 12 ≤ g) ∧ g + 12 ≤ o ∧ g + 12 ≤ o2 ∧ g2 + 12 ≤ o ∧ g2 + 12 ≤ o2 ∧ (o + 7 ≤ o2 ∨ o2 + 7 ≤ o) ∧ g + 12 ≤ w ∧ g2 + 12 ≤ w ∧ o + 7 ≤ w ∧ o2 + 7 ≤ w) (hA : ta_sz A ≤ 2000) (ho : h o = some (.inr (3, [.ref (o + 1), .ref (o + 3)]))) (ho2 : h o2 = some (.inr (3, [.ref (o2 + 1), .ref (o2 + 3)]))) (hT : T.2 ≤ 20) (hU : U.2 ≤ 20) (hW : WFG σ) (hV : WFG τ) (hms : MsOk Γ ms) (hth : ThOk Γ) (hw0 : h w = some (aJ Γ 1 f)) (hnc : NcOk Γ) : Call Γ M_Law_trim 7 4 24 [.ref c, .int x1, .ref w] (cw_ Γ sg h c g g2 o o2 A K σ τ T F U G P) z (fun v h2 z2 => z ≤ z2 ∧ ((s_Camp_trimN A K σ τ T F U G P x1).1 = 0 → v = some (.int 0) ∧ h2 = (cw_ Γ sg (hup h w (aJ Γ 1 (vp_updL f 0 (s_Camp_trimN A K σ τ T F U G P x1).2.1.toInt64))) c g g2 o o2 (s_Camp_trimN A K σ τ T F U G P x1).2.2 K σ τ T F U G P)) ∧ (¬ (s_Camp_trimN A K σ τ T F U G P x1).1 = 0 → v = some (.int (1)) ∧ h2 = (cw_ Γ sg h c g g2 o o2 (s_Camp_trimN A K σ τ T F U G P x1).2.2 K σ τ T F U G P))) noX := by
  refine Call.of_go (L := [some (.ref c), some (.int x1), some (.ref w), none]) (by decide +kernel) rfl (by exact Nat.le_of_ble_eq_true rfl) ?_
  refine Go.aload_2 d_Law_trim_0 rfl ?_
  refine Go.iconst (v := 0) d_Law_trim_1 rfl (by decide) ?_
  refine Go.aload_0 d_Law_trim_2 rfl ?_
  refine Go.iload_1 d_Law_trim_3 rfl ?_
  refine Go.callV (C1 := 0) (S1 := 0) (as := [.int x1]) d_Law_trim_4 rfl l_Law_15 k_Camp_trim_v rfl (cw_at_c hs hsn hw (by omega) hA ho ho2 hT hU hW hV) rfl rfl (c_Camp_trimN hs hsn hw (by omega) hA ho ho2 hT hU hW hV hms hth hneg) (by decide) (by decide) (by decide) (by decide) (Nat.le_of_ble_eq_true rfl) (fun E h9 z9 hx hz9 => ?_) (fun v h9 z9 hx hz9 => ?_)
  · obtain ⟨ht, rfl, rfl, hz⟩ := hx
    have h3 := thr_trimN (A := A) (K := K) (σ := σ) (τ := τ) (T := T) (F := F) (U := U) (G := G) (P := P) (x1 := x1)
    rcases h3 with h3 | h3
    · exact absurd h3 ht
    · rw [show exn (s_Camp_trimN A K σ τ T F U G P x1).1 = xIA from by rw [h3]; rfl]
      refine Go.catch [] ⟨0, 9, 12, 19⟩ [] rfl (fun y hy => by cases hy) (by rfl) (by decide) lk_IA ca_IA (fun q9 => ?_)
      refine Go.astore_3 d_Law_trim_12 rfl (by rfl) ?_
      refine Go.iconst (v := 1) d_Law_trim_13 rfl (by decide) ?_
      exact Go.iret d_Law_trim_14 rfl rfl ⟨hz, fun c => absurd c ht, fun _ => ⟨rfl, rfl⟩⟩
  · obtain ⟨ht, rfl, rfl, rfl⟩ := hx
    refine Go.i2l d_Law_trim_7 rfl ?_
    refine Go.lastore d_Law_trim_8 rfl ((cw_outu (by omega)).trans hw0) (show vp_in (nI 0) 1 from vp_in_nI (by decide) (by decide)) ?_
    refine Go.heq (cw_hup (by omega)) ?_
    refine Go.goto (t := 15) d_Law_trim_9 (by decide) ?_
    refine Go.iconst (v := 0) d_Law_trim_15 rfl (by decide) ?_
    exact Go.iret d_Law_trim_16 rfl rfl ⟨Nat.le_refl _, fun _ => ⟨rfl, rfl⟩, fun c => absurd ht c⟩
set_option maxRecDepth 100000 in
set_option maxHeartbeats 800000 in
theorem thr_count {A : TA} {K : TK} {σ τ : GL} {T : TM} {F : FM} {U : TM} {G : FM} {P : CP} {x1 : Int32} : (s_Camp_count A K σ τ T F U G P x1).1 = 0 ∨ (s_Camp_count A K σ τ T F U G P x1).1 = 1 := by
  unfold s_Camp_count
  (repeat' split) <;> (try dsimp only) <;> first
    | exact Or.inl rfl
    | exact Or.inr (rfl)
    | exact (needRow_01).elim (fun q => Or.inl q) (fun q => Or.inr (q))
    | exact (needWhat_01).elim (fun q => Or.inl q) (fun q => Or.inr (q))
theorem d_Law_count_0 : decode M_Law_count.2.1 0 = .ok (.aload_n 2, 1) := by decide +kernel
theorem d_Law_count_1 : decode M_Law_count.2.1 1 = .ok (.iconst 0, 1) := by decide +kernel
theorem d_Law_count_2 : decode M_Law_count.2.1 2 = .ok (.aload_n 0, 1) := by decide +kernel
theorem d_Law_count_3 : decode M_Law_count.2.1 3 = .ok (.iload_n 1, 1) := by decide +kernel
theorem d_Law_count_4 : decode M_Law_count.2.1 4 = .ok (.invokevirtual 21, 3) := by decide +kernel
theorem d_Law_count_7 : decode M_Law_count.2.1 7 = .ok (.i2l, 1) := by decide +kernel
theorem d_Law_count_8 : decode M_Law_count.2.1 8 = .ok (.lastore, 1) := by decide +kernel
theorem d_Law_count_9 : decode M_Law_count.2.1 9 = .ok (.goto 6, 3) := by decide +kernel
theorem d_Law_count_12 : decode M_Law_count.2.1 12 = .ok (.astore_n 3, 1) := by decide +kernel
theorem d_Law_count_13 : decode M_Law_count.2.1 13 = .ok (.iconst 1, 1) := by decide +kernel
theorem d_Law_count_14 : decode M_Law_count.2.1 14 = .ok (.ireturn, 1) := by decide +kernel
theorem d_Law_count_15 : decode M_Law_count.2.1 15 = .ok (.iconst 0, 1) := by decide +kernel
theorem d_Law_count_16 : decode M_Law_count.2.1 16 = .ok (.ireturn, 1) := by decide +kernel
set_option maxRecDepth 100000 in
set_option maxHeartbeats 800000 in
theorem w_count {Γ : G9} {sg : Nat → Nat} {sw : Nat} {ms : Nat → Nat} {h : AH} {c g g2 o o2 z : Nat} {w : Nat} {f : Nat → Int64} {A : TA} {K : TK} {σ : GL} {τ : GL} {T : TM} {F : FM} {U : TM} {G : FM} {P : CP} {x1 : Int32} (hs : SgOk Γ sg) (hsn : SgNe sg) (hw : SwOk Γ sw) (geo : c + 7 ≤ g ∧ c + 7 ≤ g2 ∧ (g + 12 ≤ g2 ∨ g2 + 12 ≤ g) ∧ g + 12 ≤ o ∧ g + 12 ≤ o2 ∧ g2 + 12 ≤ o ∧ g2 + 12 ≤ o2 ∧ (o + 7 ≤ o2 ∨ o2 + 7 ≤ o) ∧ g + 12 ≤ w ∧ g2 + 12 ≤ w ∧ o + 7 ≤ w ∧ o2 + 7 ≤ w) (hA : ta_sz A ≤ 2000) (ho : h o = some (.inr (3, [.ref (o + 1), .ref (o + 3)]))) (ho2 : h o2 = some (.inr (3, [.ref (o2 + 1), .ref (o2 + 3)]))) (hT : T.2 ≤ 20) (hU : U.2 ≤ 20) (hW : WFG σ) (hV : WFG τ) (hms : MsOk Γ ms) (hth : ThOk Γ) (hw0 : h w = some (aJ Γ 1 f)) (hnc : NcOk Γ) : Call Γ M_Law_count 8 4 24 [.ref c, .int x1, .ref w] (cw_ Γ sg h c g g2 o o2 A K σ τ T F U G P) z (fun v h2 z2 => z ≤ z2 ∧ ((s_Camp_count A K σ τ T F U G P x1).1 = 0 → v = some (.int 0) ∧ h2 = (cw_ Γ sg (hup h w (aJ Γ 1 (vp_updL f 0 (s_Camp_count A K σ τ T F U G P x1).2.toInt64))) c g g2 o o2 A K σ τ T F U G P)) ∧ (¬ (s_Camp_count A K σ τ T F U G P x1).1 = 0 → v = some (.int (1)) ∧ h2 = (cw_ Γ sg h c g g2 o o2 A K σ τ T F U G P))) noX := by
  refine Call.of_go (L := [some (.ref c), some (.int x1), some (.ref w), none]) (by decide +kernel) rfl (by exact Nat.le_of_ble_eq_true rfl) ?_
  refine Go.aload_2 d_Law_count_0 rfl ?_
  refine Go.iconst (v := 0) d_Law_count_1 rfl (by decide) ?_
  refine Go.aload_0 d_Law_count_2 rfl ?_
  refine Go.iload_1 d_Law_count_3 rfl ?_
  refine Go.callV (C1 := 0) (S1 := 0) (as := [.int x1]) d_Law_count_4 rfl l_Law_21 k_Camp_count_v rfl (cw_at_c hs hsn hw (by omega) hA ho ho2 hT hU hW hV) rfl rfl (c_Camp_count hs hsn hw (by omega) hA ho ho2 hT hU hW hV hms hth) (by decide) (by decide) (by decide) (by decide) (Nat.le_of_ble_eq_true rfl) (fun E h9 z9 hx hz9 => ?_) (fun v h9 z9 hx hz9 => ?_)
  · obtain ⟨ht, rfl, rfl, hz⟩ := hx
    have h3 := thr_count (A := A) (K := K) (σ := σ) (τ := τ) (T := T) (F := F) (U := U) (G := G) (P := P) (x1 := x1)
    rcases h3 with h3 | h3
    · exact absurd h3 ht
    · rw [show exn (s_Camp_count A K σ τ T F U G P x1).1 = xIO from by rw [h3]; rfl]
      refine Go.catch [] ⟨0, 9, 12, 24⟩ [] rfl (fun y hy => by cases hy) (by rfl) (by decide) lk_IO ca_IO (fun q9 => ?_)
      refine Go.astore_3 d_Law_count_12 rfl (by rfl) ?_
      refine Go.iconst (v := 1) d_Law_count_13 rfl (by decide) ?_
      exact Go.iret d_Law_count_14 rfl rfl ⟨hz, fun c => absurd c ht, fun _ => ⟨rfl, rfl⟩⟩
  · obtain ⟨ht, rfl, rfl, rfl⟩ := hx
    refine Go.i2l d_Law_count_7 rfl ?_
    refine Go.lastore d_Law_count_8 rfl ((cw_outu (by omega)).trans hw0) (show vp_in (nI 0) 1 from vp_in_nI (by decide) (by decide)) ?_
    refine Go.heq (cw_hup (by omega)) ?_
    refine Go.goto (t := 15) d_Law_count_9 (by decide) ?_
    refine Go.iconst (v := 0) d_Law_count_15 rfl (by decide) ?_
    exact Go.iret d_Law_count_16 rfl rfl ⟨Nat.le_refl _, fun _ => ⟨rfl, rfl⟩, fun c => absurd ht c⟩
set_option maxRecDepth 100000 in
set_option maxHeartbeats 800000 in
theorem thr_band {A : TA} {K : TK} {σ τ : GL} {T : TM} {F : FM} {U : TM} {G : FM} {P : CP} {x1 : Int32} {x2 : Int32} : (s_Camp_band A K σ τ T F U G P x1 x2).1 = 0 ∨ (s_Camp_band A K σ τ T F U G P x1 x2).1 = 1 := by
  unfold s_Camp_band
  (repeat' split) <;> (try dsimp only) <;> first
    | exact Or.inl rfl
    | exact Or.inr (rfl)
    | exact (needRow_01).elim (fun q => Or.inl q) (fun q => Or.inr (q))
    | exact (needWhat_01).elim (fun q => Or.inl q) (fun q => Or.inr (q))
theorem d_Law_band_0 : decode M_Law_band.2.1 0 = .ok (.aload_n 3, 1) := by decide +kernel
theorem d_Law_band_1 : decode M_Law_band.2.1 1 = .ok (.iconst 0, 1) := by decide +kernel
theorem d_Law_band_2 : decode M_Law_band.2.1 2 = .ok (.aload_n 0, 1) := by decide +kernel
theorem d_Law_band_3 : decode M_Law_band.2.1 3 = .ok (.iload_n 1, 1) := by decide +kernel
theorem d_Law_band_4 : decode M_Law_band.2.1 4 = .ok (.iload_n 2, 1) := by decide +kernel
theorem d_Law_band_5 : decode M_Law_band.2.1 5 = .ok (.invokevirtual 26, 3) := by decide +kernel
theorem d_Law_band_8 : decode M_Law_band.2.1 8 = .ok (.i2l, 1) := by decide +kernel
theorem d_Law_band_9 : decode M_Law_band.2.1 9 = .ok (.lastore, 1) := by decide +kernel
theorem d_Law_band_10 : decode M_Law_band.2.1 10 = .ok (.goto 7, 3) := by decide +kernel
theorem d_Law_band_13 : decode M_Law_band.2.1 13 = .ok (.astore 4, 2) := by decide +kernel
theorem d_Law_band_15 : decode M_Law_band.2.1 15 = .ok (.iconst 1, 1) := by decide +kernel
theorem d_Law_band_16 : decode M_Law_band.2.1 16 = .ok (.ireturn, 1) := by decide +kernel
theorem d_Law_band_17 : decode M_Law_band.2.1 17 = .ok (.iconst 0, 1) := by decide +kernel
theorem d_Law_band_18 : decode M_Law_band.2.1 18 = .ok (.ireturn, 1) := by decide +kernel
set_option maxRecDepth 100000 in
set_option maxHeartbeats 800000 in
theorem w_band {Γ : G9} {sg : Nat → Nat} {sw : Nat} {ms : Nat → Nat} {h : AH} {c g g2 o o2 z : Nat} {w : Nat} {f : Nat → Int64} {A : TA} {K : TK} {σ : GL} {τ : GL} {T : TM} {F : FM} {U : TM} {G : FM} {P : CP} {x1 : Int32} {x2 : Int32} (hs : SgOk Γ sg) (hsn : SgNe sg) (hw : SwOk Γ sw) (geo : c + 7 ≤ g ∧ c + 7 ≤ g2 ∧ (g + 12 ≤ g2 ∨ g2 + 12 ≤ g) ∧ g + 12 ≤ o ∧ g + 12 ≤ o2 ∧ g2 + 12 ≤ o ∧ g2 + 12 ≤ o2 ∧ (o + 7 ≤ o2 ∨ o2 + 7 ≤ o) ∧ g + 12 ≤ w ∧ g2 + 12 ≤ w ∧ o + 7 ≤ w ∧ o2 + 7 ≤ w) (hA : ta_sz A ≤ 2000) (ho : h o = some (.inr (3, [.ref (o + 1), .ref (o + 3)]))) (ho2 : h o2 = some (.inr (3, [.ref (o2 + 1), .ref (o2 + 3)]))) (hT : T.2 ≤ 20) (hU : U.2 ≤ 20) (hW : WFG σ) (hV : WFG τ) (hms : MsOk Γ ms) (hth : ThOk Γ) (hw0 : h w = some (aJ Γ 1 f)) (hnc : NcOk Γ) : Call Γ M_Law_band 8 4 24 [.ref c, .int x1, .int x2, .ref w] (cw_ Γ sg h c g g2 o o2 A K σ τ T F U G P) z (fun v h2 z2 => z ≤ z2 ∧ ((s_Camp_band A K σ τ T F U G P x1 x2).1 = 0 → v = some (.int 0) ∧ h2 = (cw_ Γ sg (hup h w (aJ Γ 1 (vp_updL f 0 (s_Camp_band A K σ τ T F U G P x1 x2).2.toInt64))) c g g2 o o2 A K σ τ T F U G P)) ∧ (¬ (s_Camp_band A K σ τ T F U G P x1 x2).1 = 0 → v = some (.int (1)) ∧ h2 = (cw_ Γ sg h c g g2 o o2 A K σ τ T F U G P))) noX := by
  refine Call.of_go (L := [some (.ref c), some (.int x1), some (.int x2), some (.ref w), none]) (by decide +kernel) rfl (by exact Nat.le_of_ble_eq_true rfl) ?_
  refine Go.aload_3 d_Law_band_0 rfl ?_
  refine Go.iconst (v := 0) d_Law_band_1 rfl (by decide) ?_
  refine Go.aload_0 d_Law_band_2 rfl ?_
  refine Go.iload_1 d_Law_band_3 rfl ?_
  refine Go.iload_2 d_Law_band_4 rfl ?_
  refine Go.callV (C1 := 0) (S1 := 0) (as := [.int x1, .int x2]) d_Law_band_5 rfl l_Law_26 k_Camp_band_v rfl (cw_at_c hs hsn hw (by omega) hA ho ho2 hT hU hW hV) rfl rfl (c_Camp_band hs hsn hw (by omega) hA ho ho2 hT hU hW hV hms hth) (by decide) (by decide) (by decide) (by decide) (Nat.le_of_ble_eq_true rfl) (fun E h9 z9 hx hz9 => ?_) (fun v h9 z9 hx hz9 => ?_)
  · obtain ⟨ht, rfl, rfl, hz⟩ := hx
    have h3 := thr_band (A := A) (K := K) (σ := σ) (τ := τ) (T := T) (F := F) (U := U) (G := G) (P := P) (x1 := x1) (x2 := x2)
    rcases h3 with h3 | h3
    · exact absurd h3 ht
    · rw [show exn (s_Camp_band A K σ τ T F U G P x1 x2).1 = xIO from by rw [h3]; rfl]
      refine Go.catch [] ⟨0, 10, 13, 24⟩ [] rfl (fun y hy => by cases hy) (by rfl) (by decide) lk_IO ca_IO (fun q9 => ?_)
      refine Go.astore_4 d_Law_band_13 rfl (by rfl) ?_
      refine Go.iconst (v := 1) d_Law_band_15 rfl (by decide) ?_
      exact Go.iret d_Law_band_16 rfl rfl ⟨hz, fun c => absurd c ht, fun _ => ⟨rfl, rfl⟩⟩
  · obtain ⟨ht, rfl, rfl, rfl⟩ := hx
    refine Go.i2l d_Law_band_8 rfl ?_
    refine Go.lastore d_Law_band_9 rfl ((cw_outu (by omega)).trans hw0) (show vp_in (nI 0) 1 from vp_in_nI (by decide) (by decide)) ?_
    refine Go.heq (cw_hup (by omega)) ?_
    refine Go.goto (t := 17) d_Law_band_10 (by decide) ?_
    refine Go.iconst (v := 0) d_Law_band_17 rfl (by decide) ?_
    exact Go.iret d_Law_band_18 rfl rfl ⟨Nat.le_refl _, fun _ => ⟨rfl, rfl⟩, fun c => absurd ht c⟩
set_option maxRecDepth 100000 in
set_option maxHeartbeats 800000 in
theorem thr_stake {A : TA} {K : TK} {σ τ : GL} {T : TM} {F : FM} {U : TM} {G : FM} {P : CP} {x1 : Int32} {x2 : Int32} : (s_Camp_stake A K σ τ T F U G P x1 x2).1 = 0 ∨ (s_Camp_stake A K σ τ T F U G P x1 x2).1 = 1 := by
  unfold s_Camp_stake
  (repeat' split) <;> (try dsimp only) <;> first
    | exact Or.inl rfl
    | exact Or.inr (rfl)
    | exact (needRow_01).elim (fun q => Or.inl q) (fun q => Or.inr (q))
    | exact (needWhat_01).elim (fun q => Or.inl q) (fun q => Or.inr (q))
theorem d_Law_stake_0 : decode M_Law_stake.2.1 0 = .ok (.aload_n 3, 1) := by decide +kernel
theorem d_Law_stake_1 : decode M_Law_stake.2.1 1 = .ok (.iconst 0, 1) := by decide +kernel
theorem d_Law_stake_2 : decode M_Law_stake.2.1 2 = .ok (.aload_n 0, 1) := by decide +kernel
theorem d_Law_stake_3 : decode M_Law_stake.2.1 3 = .ok (.iload_n 1, 1) := by decide +kernel
theorem d_Law_stake_4 : decode M_Law_stake.2.1 4 = .ok (.iload_n 2, 1) := by decide +kernel
theorem d_Law_stake_5 : decode M_Law_stake.2.1 5 = .ok (.invokevirtual 30, 3) := by decide +kernel
theorem d_Law_stake_8 : decode M_Law_stake.2.1 8 = .ok (.i2l, 1) := by decide +kernel
theorem d_Law_stake_9 : decode M_Law_stake.2.1 9 = .ok (.lastore, 1) := by decide +kernel
theorem d_Law_stake_10 : decode M_Law_stake.2.1 10 = .ok (.goto 7, 3) := by decide +kernel
theorem d_Law_stake_13 : decode M_Law_stake.2.1 13 = .ok (.astore 4, 2) := by decide +kernel
theorem d_Law_stake_15 : decode M_Law_stake.2.1 15 = .ok (.iconst 1, 1) := by decide +kernel
theorem d_Law_stake_16 : decode M_Law_stake.2.1 16 = .ok (.ireturn, 1) := by decide +kernel
theorem d_Law_stake_17 : decode M_Law_stake.2.1 17 = .ok (.iconst 0, 1) := by decide +kernel
theorem d_Law_stake_18 : decode M_Law_stake.2.1 18 = .ok (.ireturn, 1) := by decide +kernel
set_option maxRecDepth 100000 in
set_option maxHeartbeats 800000 in
theorem w_stake {Γ : G9} {sg : Nat → Nat} {sw : Nat} {ms : Nat → Nat} {h : AH} {c g g2 o o2 z : Nat} {w : Nat} {f : Nat → Int64} {A : TA} {K : TK} {σ : GL} {τ : GL} {T : TM} {F : FM} {U : TM} {G : FM} {P : CP} {x1 : Int32} {x2 : Int32} (hs : SgOk Γ sg) (hsn : SgNe sg) (hw : SwOk Γ sw) (geo : c + 7 ≤ g ∧ c + 7 ≤ g2 ∧ (g + 12 ≤ g2 ∨ g2 + 12 ≤ g) ∧ g + 12 ≤ o ∧ g + 12 ≤ o2 ∧ g2 + 12 ≤ o ∧ g2 + 12 ≤ o2 ∧ (o + 7 ≤ o2 ∨ o2 + 7 ≤ o) ∧ g + 12 ≤ w ∧ g2 + 12 ≤ w ∧ o + 7 ≤ w ∧ o2 + 7 ≤ w) (hA : ta_sz A ≤ 2000) (ho : h o = some (.inr (3, [.ref (o + 1), .ref (o + 3)]))) (ho2 : h o2 = some (.inr (3, [.ref (o2 + 1), .ref (o2 + 3)]))) (hT : T.2 ≤ 20) (hU : U.2 ≤ 20) (hW : WFG σ) (hV : WFG τ) (hms : MsOk Γ ms) (hth : ThOk Γ) (hw0 : h w = some (aJ Γ 1 f)) (hnc : NcOk Γ) : Call Γ M_Law_stake 8 4 24 [.ref c, .int x1, .int x2, .ref w] (cw_ Γ sg h c g g2 o o2 A K σ τ T F U G P) z (fun v h2 z2 => z ≤ z2 ∧ ((s_Camp_stake A K σ τ T F U G P x1 x2).1 = 0 → v = some (.int 0) ∧ h2 = (cw_ Γ sg (hup h w (aJ Γ 1 (vp_updL f 0 (s_Camp_stake A K σ τ T F U G P x1 x2).2.toInt64))) c g g2 o o2 A K σ τ T F U G P)) ∧ (¬ (s_Camp_stake A K σ τ T F U G P x1 x2).1 = 0 → v = some (.int (1)) ∧ h2 = (cw_ Γ sg h c g g2 o o2 A K σ τ T F U G P))) noX := by
  refine Call.of_go (L := [some (.ref c), some (.int x1), some (.int x2), some (.ref w), none]) (by decide +kernel) rfl (by exact Nat.le_of_ble_eq_true rfl) ?_
  refine Go.aload_3 d_Law_stake_0 rfl ?_
  refine Go.iconst (v := 0) d_Law_stake_1 rfl (by decide) ?_
  refine Go.aload_0 d_Law_stake_2 rfl ?_
  refine Go.iload_1 d_Law_stake_3 rfl ?_
  refine Go.iload_2 d_Law_stake_4 rfl ?_
  refine Go.callV (C1 := 0) (S1 := 0) (as := [.int x1, .int x2]) d_Law_stake_5 rfl l_Law_30 k_Camp_stake_v rfl (cw_at_c hs hsn hw (by omega) hA ho ho2 hT hU hW hV) rfl rfl (c_Camp_stake hs hsn hw (by omega) hA ho ho2 hT hU hW hV hms hth) (by decide) (by decide) (by decide) (by decide) (Nat.le_of_ble_eq_true rfl) (fun E h9 z9 hx hz9 => ?_) (fun v h9 z9 hx hz9 => ?_)
  · obtain ⟨ht, rfl, rfl, hz⟩ := hx
    have h3 := thr_stake (A := A) (K := K) (σ := σ) (τ := τ) (T := T) (F := F) (U := U) (G := G) (P := P) (x1 := x1) (x2 := x2)
    rcases h3 with h3 | h3
    · exact absurd h3 ht
    · rw [show exn (s_Camp_stake A K σ τ T F U G P x1 x2).1 = xIO from by rw [h3]; rfl]
      refine Go.catch [] ⟨0, 10, 13, 24⟩ [] rfl (fun y hy => by cases hy) (by rfl) (by decide) lk_IO ca_IO (fun q9 => ?_)
      refine Go.astore_4 d_Law_stake_13 rfl (by rfl) ?_
      refine Go.iconst (v := 1) d_Law_stake_15 rfl (by decide) ?_
      exact Go.iret d_Law_stake_16 rfl rfl ⟨hz, fun c => absurd c ht, fun _ => ⟨rfl, rfl⟩⟩
  · obtain ⟨ht, rfl, rfl, rfl⟩ := hx
    refine Go.i2l d_Law_stake_8 rfl ?_
    refine Go.lastore d_Law_stake_9 rfl ((cw_outu (by omega)).trans hw0) (show vp_in (nI 0) 1 from vp_in_nI (by decide) (by decide)) ?_
    refine Go.heq (cw_hup (by omega)) ?_
    refine Go.goto (t := 17) d_Law_stake_10 (by decide) ?_
    refine Go.iconst (v := 0) d_Law_stake_17 rfl (by decide) ?_
    exact Go.iret d_Law_stake_18 rfl rfl ⟨Nat.le_refl _, fun _ => ⟨rfl, rfl⟩, fun c => absurd ht c⟩
set_option maxRecDepth 100000 in
set_option maxHeartbeats 800000 in
theorem thr_crevasse {A : TA} {K : TK} {σ τ : GL} {T : TM} {F : FM} {U : TM} {G : FM} {P : CP} {x1 : Int32} {x2 : Int32} : (s_Camp_crevasse A K σ τ T F U G P x1 x2).1 = 0 ∨ (s_Camp_crevasse A K σ τ T F U G P x1 x2).1 = 1 := by
  unfold s_Camp_crevasse
  (repeat' split) <;> (try dsimp only) <;> first
    | exact Or.inl rfl
    | exact Or.inr (rfl)
    | exact (needRow_01).elim (fun q => Or.inl q) (fun q => Or.inr (q))
    | exact (needWhat_01).elim (fun q => Or.inl q) (fun q => Or.inr (q))
theorem d_Law_crevasse_0 : decode M_Law_crevasse.2.1 0 = .ok (.aload_n 3, 1) := by decide +kernel
theorem d_Law_crevasse_1 : decode M_Law_crevasse.2.1 1 = .ok (.iconst 0, 1) := by decide +kernel
theorem d_Law_crevasse_2 : decode M_Law_crevasse.2.1 2 = .ok (.aload_n 0, 1) := by decide +kernel
theorem d_Law_crevasse_3 : decode M_Law_crevasse.2.1 3 = .ok (.iload_n 1, 1) := by decide +kernel
theorem d_Law_crevasse_4 : decode M_Law_crevasse.2.1 4 = .ok (.iload_n 2, 1) := by decide +kernel
theorem d_Law_crevasse_5 : decode M_Law_crevasse.2.1 5 = .ok (.invokevirtual 33, 3) := by decide +kernel
theorem d_Law_crevasse_8 : decode M_Law_crevasse.2.1 8 = .ok (.i2l, 1) := by decide +kernel
theorem d_Law_crevasse_9 : decode M_Law_crevasse.2.1 9 = .ok (.lastore, 1) := by decide +kernel
theorem d_Law_crevasse_10 : decode M_Law_crevasse.2.1 10 = .ok (.goto 7, 3) := by decide +kernel
theorem d_Law_crevasse_13 : decode M_Law_crevasse.2.1 13 = .ok (.astore 4, 2) := by decide +kernel
theorem d_Law_crevasse_15 : decode M_Law_crevasse.2.1 15 = .ok (.iconst 1, 1) := by decide +kernel
theorem d_Law_crevasse_16 : decode M_Law_crevasse.2.1 16 = .ok (.ireturn, 1) := by decide +kernel
theorem d_Law_crevasse_17 : decode M_Law_crevasse.2.1 17 = .ok (.iconst 0, 1) := by decide +kernel
theorem d_Law_crevasse_18 : decode M_Law_crevasse.2.1 18 = .ok (.ireturn, 1) := by decide +kernel
set_option maxRecDepth 100000 in
set_option maxHeartbeats 800000 in
theorem w_crevasse {Γ : G9} {sg : Nat → Nat} {sw : Nat} {ms : Nat → Nat} {h : AH} {c g g2 o o2 z : Nat} {w : Nat} {f : Nat → Int64} {A : TA} {K : TK} {σ : GL} {τ : GL} {T : TM} {F : FM} {U : TM} {G : FM} {P : CP} {x1 : Int32} {x2 : Int32} (hs : SgOk Γ sg) (hsn : SgNe sg) (hw : SwOk Γ sw) (geo : c + 7 ≤ g ∧ c + 7 ≤ g2 ∧ (g + 12 ≤ g2 ∨ g2 + 12 ≤ g) ∧ g + 12 ≤ o ∧ g + 12 ≤ o2 ∧ g2 + 12 ≤ o ∧ g2 + 12 ≤ o2 ∧ (o + 7 ≤ o2 ∨ o2 + 7 ≤ o) ∧ g + 12 ≤ w ∧ g2 + 12 ≤ w ∧ o + 7 ≤ w ∧ o2 + 7 ≤ w) (hA : ta_sz A ≤ 2000) (ho : h o = some (.inr (3, [.ref (o + 1), .ref (o + 3)]))) (ho2 : h o2 = some (.inr (3, [.ref (o2 + 1), .ref (o2 + 3)]))) (hT : T.2 ≤ 20) (hU : U.2 ≤ 20) (hW : WFG σ) (hV : WFG τ) (hms : MsOk Γ ms) (hth : ThOk Γ) (hw0 : h w = some (aJ Γ 1 f)) (hnc : NcOk Γ) : Call Γ M_Law_crevasse 8 4 24 [.ref c, .int x1, .int x2, .ref w] (cw_ Γ sg h c g g2 o o2 A K σ τ T F U G P) z (fun v h2 z2 => z ≤ z2 ∧ ((s_Camp_crevasse A K σ τ T F U G P x1 x2).1 = 0 → v = some (.int 0) ∧ h2 = (cw_ Γ sg (hup h w (aJ Γ 1 (vp_updL f 0 (s_Camp_crevasse A K σ τ T F U G P x1 x2).2.toInt64))) c g g2 o o2 A K σ τ T F U G P)) ∧ (¬ (s_Camp_crevasse A K σ τ T F U G P x1 x2).1 = 0 → v = some (.int (1)) ∧ h2 = (cw_ Γ sg h c g g2 o o2 A K σ τ T F U G P))) noX := by
  refine Call.of_go (L := [some (.ref c), some (.int x1), some (.int x2), some (.ref w), none]) (by decide +kernel) rfl (by exact Nat.le_of_ble_eq_true rfl) ?_
  refine Go.aload_3 d_Law_crevasse_0 rfl ?_
  refine Go.iconst (v := 0) d_Law_crevasse_1 rfl (by decide) ?_
  refine Go.aload_0 d_Law_crevasse_2 rfl ?_
  refine Go.iload_1 d_Law_crevasse_3 rfl ?_
  refine Go.iload_2 d_Law_crevasse_4 rfl ?_
  refine Go.callV (C1 := 0) (S1 := 0) (as := [.int x1, .int x2]) d_Law_crevasse_5 rfl l_Law_33 k_Camp_crevasse_v rfl (cw_at_c hs hsn hw (by omega) hA ho ho2 hT hU hW hV) rfl rfl (c_Camp_crevasse hs hsn hw (by omega) hA ho ho2 hT hU hW hV hms hth) (by decide) (by decide) (by decide) (by decide) (Nat.le_of_ble_eq_true rfl) (fun E h9 z9 hx hz9 => ?_) (fun v h9 z9 hx hz9 => ?_)
  · obtain ⟨ht, rfl, rfl, hz⟩ := hx
    have h3 := thr_crevasse (A := A) (K := K) (σ := σ) (τ := τ) (T := T) (F := F) (U := U) (G := G) (P := P) (x1 := x1) (x2 := x2)
    rcases h3 with h3 | h3
    · exact absurd h3 ht
    · rw [show exn (s_Camp_crevasse A K σ τ T F U G P x1 x2).1 = xIO from by rw [h3]; rfl]
      refine Go.catch [] ⟨0, 10, 13, 24⟩ [] rfl (fun y hy => by cases hy) (by rfl) (by decide) lk_IO ca_IO (fun q9 => ?_)
      refine Go.astore_4 d_Law_crevasse_13 rfl (by rfl) ?_
      refine Go.iconst (v := 1) d_Law_crevasse_15 rfl (by decide) ?_
      exact Go.iret d_Law_crevasse_16 rfl rfl ⟨hz, fun c => absurd c ht, fun _ => ⟨rfl, rfl⟩⟩
  · obtain ⟨ht, rfl, rfl, rfl⟩ := hx
    refine Go.i2l d_Law_crevasse_8 rfl ?_
    refine Go.lastore d_Law_crevasse_9 rfl ((cw_outu (by omega)).trans hw0) (show vp_in (nI 0) 1 from vp_in_nI (by decide) (by decide)) ?_
    refine Go.heq (cw_hup (by omega)) ?_
    refine Go.goto (t := 17) d_Law_crevasse_10 (by decide) ?_
    refine Go.iconst (v := 0) d_Law_crevasse_17 rfl (by decide) ?_
    exact Go.iret d_Law_crevasse_18 rfl rfl ⟨Nat.le_refl _, fun _ => ⟨rfl, rfl⟩, fun c => absurd ht c⟩
set_option maxRecDepth 100000 in
set_option maxHeartbeats 800000 in
theorem thr_depot {A : TA} {K : TK} {σ τ : GL} {T : TM} {F : FM} {U : TM} {G : FM} {P : CP} {x1 : Int32} {x2 : Int32} : (s_Camp_depot A K σ τ T F U G P x1 x2).1 = 0 ∨ (s_Camp_depot A K σ τ T F U G P x1 x2).1 = 1 := by
  unfold s_Camp_depot
  (repeat' split) <;> (try dsimp only) <;> first
    | exact Or.inl rfl
    | exact Or.inr (rfl)
    | exact (needRow_01).elim (fun q => Or.inl q) (fun q => Or.inr (q))
    | exact (needWhat_01).elim (fun q => Or.inl q) (fun q => Or.inr (q))
theorem d_Law_depot_0 : decode M_Law_depot.2.1 0 = .ok (.aload_n 3, 1) := by decide +kernel
theorem d_Law_depot_1 : decode M_Law_depot.2.1 1 = .ok (.iconst 0, 1) := by decide +kernel
theorem d_Law_depot_2 : decode M_Law_depot.2.1 2 = .ok (.aload_n 0, 1) := by decide +kernel
theorem d_Law_depot_3 : decode M_Law_depot.2.1 3 = .ok (.iload_n 1, 1) := by decide +kernel
theorem d_Law_depot_4 : decode M_Law_depot.2.1 4 = .ok (.iload_n 2, 1) := by decide +kernel
theorem d_Law_depot_5 : decode M_Law_depot.2.1 5 = .ok (.invokevirtual 36, 3) := by decide +kernel
theorem d_Law_depot_8 : decode M_Law_depot.2.1 8 = .ok (.i2l, 1) := by decide +kernel
theorem d_Law_depot_9 : decode M_Law_depot.2.1 9 = .ok (.lastore, 1) := by decide +kernel
theorem d_Law_depot_10 : decode M_Law_depot.2.1 10 = .ok (.goto 7, 3) := by decide +kernel
theorem d_Law_depot_13 : decode M_Law_depot.2.1 13 = .ok (.astore 4, 2) := by decide +kernel
theorem d_Law_depot_15 : decode M_Law_depot.2.1 15 = .ok (.iconst 1, 1) := by decide +kernel
theorem d_Law_depot_16 : decode M_Law_depot.2.1 16 = .ok (.ireturn, 1) := by decide +kernel
theorem d_Law_depot_17 : decode M_Law_depot.2.1 17 = .ok (.iconst 0, 1) := by decide +kernel
theorem d_Law_depot_18 : decode M_Law_depot.2.1 18 = .ok (.ireturn, 1) := by decide +kernel
set_option maxRecDepth 100000 in
set_option maxHeartbeats 800000 in
theorem w_depot {Γ : G9} {sg : Nat → Nat} {sw : Nat} {ms : Nat → Nat} {h : AH} {c g g2 o o2 z : Nat} {w : Nat} {f : Nat → Int64} {A : TA} {K : TK} {σ : GL} {τ : GL} {T : TM} {F : FM} {U : TM} {G : FM} {P : CP} {x1 : Int32} {x2 : Int32} (hs : SgOk Γ sg) (hsn : SgNe sg) (hw : SwOk Γ sw) (geo : c + 7 ≤ g ∧ c + 7 ≤ g2 ∧ (g + 12 ≤ g2 ∨ g2 + 12 ≤ g) ∧ g + 12 ≤ o ∧ g + 12 ≤ o2 ∧ g2 + 12 ≤ o ∧ g2 + 12 ≤ o2 ∧ (o + 7 ≤ o2 ∨ o2 + 7 ≤ o) ∧ g + 12 ≤ w ∧ g2 + 12 ≤ w ∧ o + 7 ≤ w ∧ o2 + 7 ≤ w) (hA : ta_sz A ≤ 2000) (ho : h o = some (.inr (3, [.ref (o + 1), .ref (o + 3)]))) (ho2 : h o2 = some (.inr (3, [.ref (o2 + 1), .ref (o2 + 3)]))) (hT : T.2 ≤ 20) (hU : U.2 ≤ 20) (hW : WFG σ) (hV : WFG τ) (hms : MsOk Γ ms) (hth : ThOk Γ) (hw0 : h w = some (aJ Γ 1 f)) (hnc : NcOk Γ) : Call Γ M_Law_depot 8 4 24 [.ref c, .int x1, .int x2, .ref w] (cw_ Γ sg h c g g2 o o2 A K σ τ T F U G P) z (fun v h2 z2 => z ≤ z2 ∧ ((s_Camp_depot A K σ τ T F U G P x1 x2).1 = 0 → v = some (.int 0) ∧ h2 = (cw_ Γ sg (hup h w (aJ Γ 1 (vp_updL f 0 (s_Camp_depot A K σ τ T F U G P x1 x2).2.toInt64))) c g g2 o o2 A K σ τ T F U G P)) ∧ (¬ (s_Camp_depot A K σ τ T F U G P x1 x2).1 = 0 → v = some (.int (1)) ∧ h2 = (cw_ Γ sg h c g g2 o o2 A K σ τ T F U G P))) noX := by
  refine Call.of_go (L := [some (.ref c), some (.int x1), some (.int x2), some (.ref w), none]) (by decide +kernel) rfl (by exact Nat.le_of_ble_eq_true rfl) ?_
  refine Go.aload_3 d_Law_depot_0 rfl ?_
  refine Go.iconst (v := 0) d_Law_depot_1 rfl (by decide) ?_
  refine Go.aload_0 d_Law_depot_2 rfl ?_
  refine Go.iload_1 d_Law_depot_3 rfl ?_
  refine Go.iload_2 d_Law_depot_4 rfl ?_
  refine Go.callV (C1 := 0) (S1 := 0) (as := [.int x1, .int x2]) d_Law_depot_5 rfl l_Law_36 k_Camp_depot_v rfl (cw_at_c hs hsn hw (by omega) hA ho ho2 hT hU hW hV) rfl rfl (c_Camp_depot hs hsn hw (by omega) hA ho ho2 hT hU hW hV hms hth) (by decide) (by decide) (by decide) (by decide) (Nat.le_of_ble_eq_true rfl) (fun E h9 z9 hx hz9 => ?_) (fun v h9 z9 hx hz9 => ?_)
  · obtain ⟨ht, rfl, rfl, hz⟩ := hx
    have h3 := thr_depot (A := A) (K := K) (σ := σ) (τ := τ) (T := T) (F := F) (U := U) (G := G) (P := P) (x1 := x1) (x2 := x2)
    rcases h3 with h3 | h3
    · exact absurd h3 ht
    · rw [show exn (s_Camp_depot A K σ τ T F U G P x1 x2).1 = xIO from by rw [h3]; rfl]
      refine Go.catch [] ⟨0, 10, 13, 24⟩ [] rfl (fun y hy => by cases hy) (by rfl) (by decide) lk_IO ca_IO (fun q9 => ?_)
      refine Go.astore_4 d_Law_depot_13 rfl (by rfl) ?_
      refine Go.iconst (v := 1) d_Law_depot_15 rfl (by decide) ?_
      exact Go.iret d_Law_depot_16 rfl rfl ⟨hz, fun c => absurd c ht, fun _ => ⟨rfl, rfl⟩⟩
  · obtain ⟨ht, rfl, rfl, rfl⟩ := hx
    refine Go.i2l d_Law_depot_8 rfl ?_
    refine Go.lastore d_Law_depot_9 rfl ((cw_outu (by omega)).trans hw0) (show vp_in (nI 0) 1 from vp_in_nI (by decide) (by decide)) ?_
    refine Go.heq (cw_hup (by omega)) ?_
    refine Go.goto (t := 17) d_Law_depot_10 (by decide) ?_
    refine Go.iconst (v := 0) d_Law_depot_17 rfl (by decide) ?_
    exact Go.iret d_Law_depot_18 rfl rfl ⟨Nat.le_refl _, fun _ => ⟨rfl, rfl⟩, fun c => absurd ht c⟩
set_option maxRecDepth 100000 in
set_option maxHeartbeats 800000 in
theorem thr_team {A : TA} {K : TK} {σ τ : GL} {T : TM} {F : FM} {U : TM} {G : FM} {P : CP} {x1 : Int32} {x2 : Int32} : (s_Camp_team A K σ τ T F U G P x1 x2).1 = 0 ∨ (s_Camp_team A K σ τ T F U G P x1 x2).1 = 1 := by
  unfold s_Camp_team
  (repeat' split) <;> (try dsimp only) <;> first
    | exact Or.inl rfl
    | exact Or.inr (rfl)
    | exact (needRow_01).elim (fun q => Or.inl q) (fun q => Or.inr (q))
    | exact (needWhat_01).elim (fun q => Or.inl q) (fun q => Or.inr (q))
theorem d_Law_team_0 : decode M_Law_team.2.1 0 = .ok (.aload_n 3, 1) := by decide +kernel
theorem d_Law_team_1 : decode M_Law_team.2.1 1 = .ok (.iconst 0, 1) := by decide +kernel
theorem d_Law_team_2 : decode M_Law_team.2.1 2 = .ok (.aload_n 0, 1) := by decide +kernel
theorem d_Law_team_3 : decode M_Law_team.2.1 3 = .ok (.iload_n 1, 1) := by decide +kernel
theorem d_Law_team_4 : decode M_Law_team.2.1 4 = .ok (.iload_n 2, 1) := by decide +kernel
theorem d_Law_team_5 : decode M_Law_team.2.1 5 = .ok (.invokevirtual 39, 3) := by decide +kernel
theorem d_Law_team_8 : decode M_Law_team.2.1 8 = .ok (.i2l, 1) := by decide +kernel
theorem d_Law_team_9 : decode M_Law_team.2.1 9 = .ok (.lastore, 1) := by decide +kernel
theorem d_Law_team_10 : decode M_Law_team.2.1 10 = .ok (.goto 7, 3) := by decide +kernel
theorem d_Law_team_13 : decode M_Law_team.2.1 13 = .ok (.astore 4, 2) := by decide +kernel
theorem d_Law_team_15 : decode M_Law_team.2.1 15 = .ok (.iconst 1, 1) := by decide +kernel
theorem d_Law_team_16 : decode M_Law_team.2.1 16 = .ok (.ireturn, 1) := by decide +kernel
theorem d_Law_team_17 : decode M_Law_team.2.1 17 = .ok (.iconst 0, 1) := by decide +kernel
theorem d_Law_team_18 : decode M_Law_team.2.1 18 = .ok (.ireturn, 1) := by decide +kernel
set_option maxRecDepth 100000 in
set_option maxHeartbeats 800000 in
theorem w_team {Γ : G9} {sg : Nat → Nat} {sw : Nat} {ms : Nat → Nat} {h : AH} {c g g2 o o2 z : Nat} {w : Nat} {f : Nat → Int64} {A : TA} {K : TK} {σ : GL} {τ : GL} {T : TM} {F : FM} {U : TM} {G : FM} {P : CP} {x1 : Int32} {x2 : Int32} (hs : SgOk Γ sg) (hsn : SgNe sg) (hw : SwOk Γ sw) (geo : c + 7 ≤ g ∧ c + 7 ≤ g2 ∧ (g + 12 ≤ g2 ∨ g2 + 12 ≤ g) ∧ g + 12 ≤ o ∧ g + 12 ≤ o2 ∧ g2 + 12 ≤ o ∧ g2 + 12 ≤ o2 ∧ (o + 7 ≤ o2 ∨ o2 + 7 ≤ o) ∧ g + 12 ≤ w ∧ g2 + 12 ≤ w ∧ o + 7 ≤ w ∧ o2 + 7 ≤ w) (hA : ta_sz A ≤ 2000) (ho : h o = some (.inr (3, [.ref (o + 1), .ref (o + 3)]))) (ho2 : h o2 = some (.inr (3, [.ref (o2 + 1), .ref (o2 + 3)]))) (hT : T.2 ≤ 20) (hU : U.2 ≤ 20) (hW : WFG σ) (hV : WFG τ) (hms : MsOk Γ ms) (hth : ThOk Γ) (hw0 : h w = some (aJ Γ 1 f)) (hnc : NcOk Γ) : Call Γ M_Law_team 8 4 24 [.ref c, .int x1, .int x2, .ref w] (cw_ Γ sg h c g g2 o o2 A K σ τ T F U G P) z (fun v h2 z2 => z ≤ z2 ∧ ((s_Camp_team A K σ τ T F U G P x1 x2).1 = 0 → v = some (.int 0) ∧ h2 = (cw_ Γ sg (hup h w (aJ Γ 1 (vp_updL f 0 (s_Camp_team A K σ τ T F U G P x1 x2).2.toInt64))) c g g2 o o2 A K σ τ T F U G P)) ∧ (¬ (s_Camp_team A K σ τ T F U G P x1 x2).1 = 0 → v = some (.int (1)) ∧ h2 = (cw_ Γ sg h c g g2 o o2 A K σ τ T F U G P))) noX := by
  refine Call.of_go (L := [some (.ref c), some (.int x1), some (.int x2), some (.ref w), none]) (by decide +kernel) rfl (by exact Nat.le_of_ble_eq_true rfl) ?_
  refine Go.aload_3 d_Law_team_0 rfl ?_
  refine Go.iconst (v := 0) d_Law_team_1 rfl (by decide) ?_
  refine Go.aload_0 d_Law_team_2 rfl ?_
  refine Go.iload_1 d_Law_team_3 rfl ?_
  refine Go.iload_2 d_Law_team_4 rfl ?_
  refine Go.callV (C1 := 0) (S1 := 0) (as := [.int x1, .int x2]) d_Law_team_5 rfl l_Law_39 k_Camp_team_v rfl (cw_at_c hs hsn hw (by omega) hA ho ho2 hT hU hW hV) rfl rfl (c_Camp_team hs hsn hw (by omega) hA ho ho2 hT hU hW hV hms hth) (by decide) (by decide) (by decide) (by decide) (Nat.le_of_ble_eq_true rfl) (fun E h9 z9 hx hz9 => ?_) (fun v h9 z9 hx hz9 => ?_)
  · obtain ⟨ht, rfl, rfl, hz⟩ := hx
    have h3 := thr_team (A := A) (K := K) (σ := σ) (τ := τ) (T := T) (F := F) (U := U) (G := G) (P := P) (x1 := x1) (x2 := x2)
    rcases h3 with h3 | h3
    · exact absurd h3 ht
    · rw [show exn (s_Camp_team A K σ τ T F U G P x1 x2).1 = xIO from by rw [h3]; rfl]
      refine Go.catch [] ⟨0, 10, 13, 24⟩ [] rfl (fun y hy => by cases hy) (by rfl) (by decide) lk_IO ca_IO (fun q9 => ?_)
      refine Go.astore_4 d_Law_team_13 rfl (by rfl) ?_
      refine Go.iconst (v := 1) d_Law_team_15 rfl (by decide) ?_
      exact Go.iret d_Law_team_16 rfl rfl ⟨hz, fun c => absurd c ht, fun _ => ⟨rfl, rfl⟩⟩
  · obtain ⟨ht, rfl, rfl, rfl⟩ := hx
    refine Go.i2l d_Law_team_8 rfl ?_
    refine Go.lastore d_Law_team_9 rfl ((cw_outu (by omega)).trans hw0) (show vp_in (nI 0) 1 from vp_in_nI (by decide) (by decide)) ?_
    refine Go.heq (cw_hup (by omega)) ?_
    refine Go.goto (t := 17) d_Law_team_10 (by decide) ?_
    refine Go.iconst (v := 0) d_Law_team_17 rfl (by decide) ?_
    exact Go.iret d_Law_team_18 rfl rfl ⟨Nat.le_refl _, fun _ => ⟨rfl, rfl⟩, fun c => absurd ht c⟩
set_option maxRecDepth 100000 in
set_option maxHeartbeats 800000 in
theorem thr_go {A : TA} {K : TK} {σ τ : GL} {T : TM} {F : FM} {U : TM} {G : FM} {P : CP} {x1 : Int32} {x2 : Int32} : (s_Camp_go A K σ τ T F U G P x1 x2).1 = 0 ∨ (s_Camp_go A K σ τ T F U G P x1 x2).1 = 1 ∨ (s_Camp_go A K σ τ T F U G P x1 x2).1 = 3 := by
  unfold s_Camp_go
  (repeat' split) <;> (try dsimp only) <;> first
    | exact Or.inl rfl
    | exact Or.inr (Or.inl rfl)
    | exact Or.inr (Or.inr (rfl))
    | exact (needRow_01).elim (fun q => Or.inl q) (fun q => Or.inr (Or.inl q))
    | exact (needWhat_01).elim (fun q => Or.inl q) (fun q => Or.inr (Or.inl q))
theorem d_Law_go_0 : decode M_Law_go.2.1 0 = .ok (.aload_n 3, 1) := by decide +kernel
theorem d_Law_go_1 : decode M_Law_go.2.1 1 = .ok (.iconst 0, 1) := by decide +kernel
theorem d_Law_go_2 : decode M_Law_go.2.1 2 = .ok (.aload_n 0, 1) := by decide +kernel
theorem d_Law_go_3 : decode M_Law_go.2.1 3 = .ok (.iload_n 1, 1) := by decide +kernel
theorem d_Law_go_4 : decode M_Law_go.2.1 4 = .ok (.iload_n 2, 1) := by decide +kernel
theorem d_Law_go_5 : decode M_Law_go.2.1 5 = .ok (.invokevirtual 42, 3) := by decide +kernel
theorem d_Law_go_8 : decode M_Law_go.2.1 8 = .ok (.i2l, 1) := by decide +kernel
theorem d_Law_go_9 : decode M_Law_go.2.1 9 = .ok (.lastore, 1) := by decide +kernel
theorem d_Law_go_10 : decode M_Law_go.2.1 10 = .ok (.goto 11, 3) := by decide +kernel
theorem d_Law_go_13 : decode M_Law_go.2.1 13 = .ok (.astore 4, 2) := by decide +kernel
theorem d_Law_go_15 : decode M_Law_go.2.1 15 = .ok (.iconst 1, 1) := by decide +kernel
theorem d_Law_go_16 : decode M_Law_go.2.1 16 = .ok (.ireturn, 1) := by decide +kernel
theorem d_Law_go_17 : decode M_Law_go.2.1 17 = .ok (.astore 4, 2) := by decide +kernel
theorem d_Law_go_19 : decode M_Law_go.2.1 19 = .ok (.iconst 2, 1) := by decide +kernel
theorem d_Law_go_20 : decode M_Law_go.2.1 20 = .ok (.ireturn, 1) := by decide +kernel
theorem d_Law_go_21 : decode M_Law_go.2.1 21 = .ok (.iconst 0, 1) := by decide +kernel
theorem d_Law_go_22 : decode M_Law_go.2.1 22 = .ok (.ireturn, 1) := by decide +kernel
set_option maxRecDepth 100000 in
set_option maxHeartbeats 800000 in
theorem w_go {Γ : G9} {sg : Nat → Nat} {sw : Nat} {ms : Nat → Nat} {h : AH} {c g g2 o o2 z : Nat} {w : Nat} {f : Nat → Int64} {A : TA} {K : TK} {σ : GL} {τ : GL} {T : TM} {F : FM} {U : TM} {G : FM} {P : CP} {x1 : Int32} {x2 : Int32} (hs : SgOk Γ sg) (hsn : SgNe sg) (hw : SwOk Γ sw) (geo : c + 7 ≤ g ∧ c + 7 ≤ g2 ∧ (g + 12 ≤ g2 ∨ g2 + 12 ≤ g) ∧ g + 12 ≤ o ∧ g + 12 ≤ o2 ∧ g2 + 12 ≤ o ∧ g2 + 12 ≤ o2 ∧ (o + 7 ≤ o2 ∨ o2 + 7 ≤ o) ∧ g + 12 ≤ w ∧ g2 + 12 ≤ w ∧ o + 7 ≤ w ∧ o2 + 7 ≤ w) (hA : ta_sz A ≤ 2000) (ho : h o = some (.inr (3, [.ref (o + 1), .ref (o + 3)]))) (ho2 : h o2 = some (.inr (3, [.ref (o2 + 1), .ref (o2 + 3)]))) (hT : T.2 ≤ 20) (hU : U.2 ≤ 20) (hW : WFG σ) (hV : WFG τ) (hms : MsOk Γ ms) (hth : ThOk Γ) (hw0 : h w = some (aJ Γ 1 f)) (hnc : NcOk Γ) : Call Γ M_Law_go 8 4 24 [.ref c, .int x1, .int x2, .ref w] (cw_ Γ sg h c g g2 o o2 A K σ τ T F U G P) z (fun v h2 z2 => z ≤ z2 ∧ ((s_Camp_go A K σ τ T F U G P x1 x2).1 = 0 → v = some (.int 0) ∧ h2 = (cw_ Γ sg (hup h w (aJ Γ 1 (vp_updL f 0 (s_Camp_go A K σ τ T F U G P x1 x2).2.1.toInt64))) c g g2 o o2 A K (s_Camp_go A K σ τ T F U G P x1 x2).2.2 τ T F U G P)) ∧ (¬ (s_Camp_go A K σ τ T F U G P x1 x2).1 = 0 → v = some (.int (if (s_Camp_go A K σ τ T F U G P x1 x2).1 = 1 then 1 else 2)) ∧ h2 = (cw_ Γ sg h c g g2 o o2 A K (s_Camp_go A K σ τ T F U G P x1 x2).2.2 τ T F U G P))) noX := by
  refine Call.of_go (L := [some (.ref c), some (.int x1), some (.int x2), some (.ref w), none]) (by decide +kernel) rfl (by exact Nat.le_of_ble_eq_true rfl) ?_
  refine Go.aload_3 d_Law_go_0 rfl ?_
  refine Go.iconst (v := 0) d_Law_go_1 rfl (by decide) ?_
  refine Go.aload_0 d_Law_go_2 rfl ?_
  refine Go.iload_1 d_Law_go_3 rfl ?_
  refine Go.iload_2 d_Law_go_4 rfl ?_
  refine Go.callV (C1 := 0) (S1 := 0) (as := [.int x1, .int x2]) d_Law_go_5 rfl l_Law_42 k_Camp_go_v rfl (cw_at_c hs hsn hw (by omega) hA ho ho2 hT hU hW hV) rfl rfl (c_Camp_go hs hsn hw (by omega) hA ho ho2 hT hU hW hV hms hth) (by decide) (by decide) (by decide) (by decide) (Nat.le_of_ble_eq_true rfl) (fun E h9 z9 hx hz9 => ?_) (fun v h9 z9 hx hz9 => ?_)
  · obtain ⟨ht, rfl, rfl, hz⟩ := hx
    have h3 := thr_go (A := A) (K := K) (σ := σ) (τ := τ) (T := T) (F := F) (U := U) (G := G) (P := P) (x1 := x1) (x2 := x2)
    rcases h3 with h3 | h3 | h3
    · exact absurd h3 ht
    · rw [show exn (s_Camp_go A K σ τ T F U G P x1 x2).1 = xIO from by rw [h3]; rfl]
      refine Go.catch [] ⟨0, 10, 13, 24⟩ [⟨0, 10, 17, 13⟩] rfl (fun y hy => by cases hy) (by rfl) (by decide) lk_IO ca_IO (fun q9 => ?_)
      refine Go.astore_4 d_Law_go_13 rfl (by rfl) ?_
      refine Go.iconst (v := 1) d_Law_go_15 rfl (by decide) ?_
      exact Go.iret d_Law_go_16 rfl rfl ⟨hz, fun c => absurd c ht, fun _ => ⟨by rw [h3]; rfl, rfl⟩⟩
    · rw [show exn (s_Camp_go A K σ τ T F U G P x1 x2).1 = xIS from by rw [h3]; rfl]
      refine Go.catch [⟨0, 10, 13, 24⟩] ⟨0, 10, 17, 13⟩ [] rfl (fun y hy => by
            simp only [List.mem_cons, List.not_mem_nil, or_false] at hy
            rcases hy with rfl
            · exact Or.inr ⟨by decide, xIO, lk_IO, fun U H hs => (hnc U H hs).1⟩) (by rfl) (by decide) lk_IS ca_IS (fun q9 => ?_)
      refine Go.astore_4 d_Law_go_17 rfl (by rfl) ?_
      refine Go.iconst (v := 2) d_Law_go_19 rfl (by decide) ?_
      exact Go.iret d_Law_go_20 rfl rfl ⟨hz, fun c => absurd c ht, fun _ => ⟨by rw [h3]; rfl, rfl⟩⟩
  · obtain ⟨ht, rfl, rfl, rfl⟩ := hx
    refine Go.i2l d_Law_go_8 rfl ?_
    refine Go.lastore d_Law_go_9 rfl ((cw_outu (by omega)).trans hw0) (show vp_in (nI 0) 1 from vp_in_nI (by decide) (by decide)) ?_
    refine Go.heq (cw_hup (by omega)) ?_
    refine Go.goto (t := 21) d_Law_go_10 (by decide) ?_
    refine Go.iconst (v := 0) d_Law_go_21 rfl (by decide) ?_
    exact Go.iret d_Law_go_22 rfl rfl ⟨Nat.le_refl _, fun _ => ⟨rfl, rfl⟩, fun c => absurd ht c⟩
set_option maxRecDepth 100000 in
set_option maxHeartbeats 800000 in
theorem thr_probe {A : TA} {K : TK} {σ τ : GL} {T : TM} {F : FM} {U : TM} {G : FM} {P : CP} {x1 : Int32} {x2 : Int32} : (s_Camp_probe A K σ τ T F U G P x1 x2).1 = 0 ∨ (s_Camp_probe A K σ τ T F U G P x1 x2).1 = 1 ∨ (s_Camp_probe A K σ τ T F U G P x1 x2).1 = 3 := by
  unfold s_Camp_probe
  (repeat' split) <;> (try dsimp only) <;> first
    | exact Or.inl rfl
    | exact Or.inr (Or.inl rfl)
    | exact Or.inr (Or.inr (rfl))
    | exact (needRow_01).elim (fun q => Or.inl q) (fun q => Or.inr (Or.inl q))
    | exact (needWhat_01).elim (fun q => Or.inl q) (fun q => Or.inr (Or.inl q))
theorem d_Law_probe_0 : decode M_Law_probe.2.1 0 = .ok (.aload_n 3, 1) := by decide +kernel
theorem d_Law_probe_1 : decode M_Law_probe.2.1 1 = .ok (.iconst 0, 1) := by decide +kernel
theorem d_Law_probe_2 : decode M_Law_probe.2.1 2 = .ok (.aload_n 0, 1) := by decide +kernel
theorem d_Law_probe_3 : decode M_Law_probe.2.1 3 = .ok (.iload_n 1, 1) := by decide +kernel
theorem d_Law_probe_4 : decode M_Law_probe.2.1 4 = .ok (.iload_n 2, 1) := by decide +kernel
theorem d_Law_probe_5 : decode M_Law_probe.2.1 5 = .ok (.invokevirtual 46, 3) := by decide +kernel
theorem d_Law_probe_8 : decode M_Law_probe.2.1 8 = .ok (.i2l, 1) := by decide +kernel
theorem d_Law_probe_9 : decode M_Law_probe.2.1 9 = .ok (.lastore, 1) := by decide +kernel
theorem d_Law_probe_10 : decode M_Law_probe.2.1 10 = .ok (.goto 11, 3) := by decide +kernel
theorem d_Law_probe_13 : decode M_Law_probe.2.1 13 = .ok (.astore 4, 2) := by decide +kernel
theorem d_Law_probe_15 : decode M_Law_probe.2.1 15 = .ok (.iconst 1, 1) := by decide +kernel
theorem d_Law_probe_16 : decode M_Law_probe.2.1 16 = .ok (.ireturn, 1) := by decide +kernel
theorem d_Law_probe_17 : decode M_Law_probe.2.1 17 = .ok (.astore 4, 2) := by decide +kernel
theorem d_Law_probe_19 : decode M_Law_probe.2.1 19 = .ok (.iconst 2, 1) := by decide +kernel
theorem d_Law_probe_20 : decode M_Law_probe.2.1 20 = .ok (.ireturn, 1) := by decide +kernel
theorem d_Law_probe_21 : decode M_Law_probe.2.1 21 = .ok (.iconst 0, 1) := by decide +kernel
theorem d_Law_probe_22 : decode M_Law_probe.2.1 22 = .ok (.ireturn, 1) := by decide +kernel
set_option maxRecDepth 100000 in
set_option maxHeartbeats 800000 in
theorem w_probe {Γ : G9} {sg : Nat → Nat} {sw : Nat} {ms : Nat → Nat} {h : AH} {c g g2 o o2 z : Nat} {w : Nat} {f : Nat → Int64} {A : TA} {K : TK} {σ : GL} {τ : GL} {T : TM} {F : FM} {U : TM} {G : FM} {P : CP} {x1 : Int32} {x2 : Int32} (hs : SgOk Γ sg) (hsn : SgNe sg) (hw : SwOk Γ sw) (geo : c + 7 ≤ g ∧ c + 7 ≤ g2 ∧ (g + 12 ≤ g2 ∨ g2 + 12 ≤ g) ∧ g + 12 ≤ o ∧ g + 12 ≤ o2 ∧ g2 + 12 ≤ o ∧ g2 + 12 ≤ o2 ∧ (o + 7 ≤ o2 ∨ o2 + 7 ≤ o) ∧ g + 12 ≤ w ∧ g2 + 12 ≤ w ∧ o + 7 ≤ w ∧ o2 + 7 ≤ w) (hA : ta_sz A ≤ 2000) (ho : h o = some (.inr (3, [.ref (o + 1), .ref (o + 3)]))) (ho2 : h o2 = some (.inr (3, [.ref (o2 + 1), .ref (o2 + 3)]))) (hT : T.2 ≤ 20) (hU : U.2 ≤ 20) (hW : WFG σ) (hV : WFG τ) (hms : MsOk Γ ms) (hth : ThOk Γ) (hw0 : h w = some (aJ Γ 1 f)) (hnc : NcOk Γ) : Call Γ M_Law_probe 8 4 24 [.ref c, .int x1, .int x2, .ref w] (cw_ Γ sg h c g g2 o o2 A K σ τ T F U G P) z (fun v h2 z2 => z ≤ z2 ∧ ((s_Camp_probe A K σ τ T F U G P x1 x2).1 = 0 → v = some (.int 0) ∧ h2 = (cw_ Γ sg (hup h w (aJ Γ 1 (vp_updL f 0 (s_Camp_probe A K σ τ T F U G P x1 x2).2.1.toInt64))) c g g2 o o2 A K (s_Camp_probe A K σ τ T F U G P x1 x2).2.2 τ T F U G P)) ∧ (¬ (s_Camp_probe A K σ τ T F U G P x1 x2).1 = 0 → v = some (.int (if (s_Camp_probe A K σ τ T F U G P x1 x2).1 = 1 then 1 else 2)) ∧ h2 = (cw_ Γ sg h c g g2 o o2 A K (s_Camp_probe A K σ τ T F U G P x1 x2).2.2 τ T F U G P))) noX := by
  refine Call.of_go (L := [some (.ref c), some (.int x1), some (.int x2), some (.ref w), none]) (by decide +kernel) rfl (by exact Nat.le_of_ble_eq_true rfl) ?_
  refine Go.aload_3 d_Law_probe_0 rfl ?_
  refine Go.iconst (v := 0) d_Law_probe_1 rfl (by decide) ?_
  refine Go.aload_0 d_Law_probe_2 rfl ?_
  refine Go.iload_1 d_Law_probe_3 rfl ?_
  refine Go.iload_2 d_Law_probe_4 rfl ?_
  refine Go.callV (C1 := 0) (S1 := 0) (as := [.int x1, .int x2]) d_Law_probe_5 rfl l_Law_46 k_Camp_probe_v rfl (cw_at_c hs hsn hw (by omega) hA ho ho2 hT hU hW hV) rfl rfl (c_Camp_probe hs hsn hw (by omega) hA ho ho2 hT hU hW hV hms hth) (by decide) (by decide) (by decide) (by decide) (Nat.le_of_ble_eq_true rfl) (fun E h9 z9 hx hz9 => ?_) (fun v h9 z9 hx hz9 => ?_)
  · obtain ⟨ht, rfl, rfl, hz⟩ := hx
    have h3 := thr_probe (A := A) (K := K) (σ := σ) (τ := τ) (T := T) (F := F) (U := U) (G := G) (P := P) (x1 := x1) (x2 := x2)
    rcases h3 with h3 | h3 | h3
    · exact absurd h3 ht
    · rw [show exn (s_Camp_probe A K σ τ T F U G P x1 x2).1 = xIO from by rw [h3]; rfl]
      refine Go.catch [] ⟨0, 10, 13, 24⟩ [⟨0, 10, 17, 13⟩] rfl (fun y hy => by cases hy) (by rfl) (by decide) lk_IO ca_IO (fun q9 => ?_)
      refine Go.astore_4 d_Law_probe_13 rfl (by rfl) ?_
      refine Go.iconst (v := 1) d_Law_probe_15 rfl (by decide) ?_
      exact Go.iret d_Law_probe_16 rfl rfl ⟨hz, fun c => absurd c ht, fun _ => ⟨by rw [h3]; rfl, rfl⟩⟩
    · rw [show exn (s_Camp_probe A K σ τ T F U G P x1 x2).1 = xIS from by rw [h3]; rfl]
      refine Go.catch [⟨0, 10, 13, 24⟩] ⟨0, 10, 17, 13⟩ [] rfl (fun y hy => by
            simp only [List.mem_cons, List.not_mem_nil, or_false] at hy
            rcases hy with rfl
            · exact Or.inr ⟨by decide, xIO, lk_IO, fun U H hs => (hnc U H hs).1⟩) (by rfl) (by decide) lk_IS ca_IS (fun q9 => ?_)
      refine Go.astore_4 d_Law_probe_17 rfl (by rfl) ?_
      refine Go.iconst (v := 2) d_Law_probe_19 rfl (by decide) ?_
      exact Go.iret d_Law_probe_20 rfl rfl ⟨hz, fun c => absurd c ht, fun _ => ⟨by rw [h3]; rfl, rfl⟩⟩
  · obtain ⟨ht, rfl, rfl, rfl⟩ := hx
    refine Go.i2l d_Law_probe_8 rfl ?_
    refine Go.lastore d_Law_probe_9 rfl ((cw_outu (by omega)).trans hw0) (show vp_in (nI 0) 1 from vp_in_nI (by decide) (by decide)) ?_
    refine Go.heq (cw_hup (by omega)) ?_
    refine Go.goto (t := 21) d_Law_probe_10 (by decide) ?_
    refine Go.iconst (v := 0) d_Law_probe_21 rfl (by decide) ?_
    exact Go.iret d_Law_probe_22 rfl rfl ⟨Nat.le_refl _, fun _ => ⟨rfl, rfl⟩, fun c => absurd ht c⟩
set_option maxRecDepth 100000 in
set_option maxHeartbeats 800000 in
theorem thr_fill {A : TA} {K : TK} {σ τ : GL} {T : TM} {F : FM} {U : TM} {G : FM} {P : CP} {x1 : Int32} {x2 : Int32} : (s_Camp_fill A K σ τ T F U G P x1 x2).1 = 0 ∨ (s_Camp_fill A K σ τ T F U G P x1 x2).1 = 1 ∨ (s_Camp_fill A K σ τ T F U G P x1 x2).1 = 2 ∨ (s_Camp_fill A K σ τ T F U G P x1 x2).1 = 3 := by
  unfold s_Camp_fill
  (repeat' split) <;> (try dsimp only) <;> first
    | exact Or.inl rfl
    | exact Or.inr (Or.inl rfl)
    | exact Or.inr (Or.inr (Or.inl rfl))
    | exact Or.inr (Or.inr (Or.inr (rfl)))
    | exact (needRow_01).elim (fun q => Or.inl q) (fun q => Or.inr (Or.inl q))
    | exact (needWhat_01).elim (fun q => Or.inl q) (fun q => Or.inr (Or.inl q))
    | exact (needRange_02).elim (fun q => Or.inl q) (fun q => Or.inr (Or.inr (Or.inl q)))
theorem d_Law_fill_0 : decode M_Law_fill.2.1 0 = .ok (.aload_n 3, 1) := by decide +kernel
theorem d_Law_fill_1 : decode M_Law_fill.2.1 1 = .ok (.iconst 0, 1) := by decide +kernel
theorem d_Law_fill_2 : decode M_Law_fill.2.1 2 = .ok (.aload_n 0, 1) := by decide +kernel
theorem d_Law_fill_3 : decode M_Law_fill.2.1 3 = .ok (.iload_n 1, 1) := by decide +kernel
theorem d_Law_fill_4 : decode M_Law_fill.2.1 4 = .ok (.iload_n 2, 1) := by decide +kernel
theorem d_Law_fill_5 : decode M_Law_fill.2.1 5 = .ok (.invokevirtual 49, 3) := by decide +kernel
theorem d_Law_fill_8 : decode M_Law_fill.2.1 8 = .ok (.i2l, 1) := by decide +kernel
theorem d_Law_fill_9 : decode M_Law_fill.2.1 9 = .ok (.lastore, 1) := by decide +kernel
theorem d_Law_fill_10 : decode M_Law_fill.2.1 10 = .ok (.goto 15, 3) := by decide +kernel
theorem d_Law_fill_13 : decode M_Law_fill.2.1 13 = .ok (.astore 4, 2) := by decide +kernel
theorem d_Law_fill_15 : decode M_Law_fill.2.1 15 = .ok (.iconst 1, 1) := by decide +kernel
theorem d_Law_fill_16 : decode M_Law_fill.2.1 16 = .ok (.ireturn, 1) := by decide +kernel
theorem d_Law_fill_17 : decode M_Law_fill.2.1 17 = .ok (.astore 4, 2) := by decide +kernel
theorem d_Law_fill_19 : decode M_Law_fill.2.1 19 = .ok (.iconst 2, 1) := by decide +kernel
theorem d_Law_fill_20 : decode M_Law_fill.2.1 20 = .ok (.ireturn, 1) := by decide +kernel
theorem d_Law_fill_21 : decode M_Law_fill.2.1 21 = .ok (.astore 4, 2) := by decide +kernel
theorem d_Law_fill_23 : decode M_Law_fill.2.1 23 = .ok (.iconst 3, 1) := by decide +kernel
theorem d_Law_fill_24 : decode M_Law_fill.2.1 24 = .ok (.ireturn, 1) := by decide +kernel
theorem d_Law_fill_25 : decode M_Law_fill.2.1 25 = .ok (.iconst 0, 1) := by decide +kernel
theorem d_Law_fill_26 : decode M_Law_fill.2.1 26 = .ok (.ireturn, 1) := by decide +kernel
set_option maxRecDepth 100000 in
set_option maxHeartbeats 800000 in
theorem w_fill {Γ : G9} {sg : Nat → Nat} {sw : Nat} {ms : Nat → Nat} {h : AH} {c g g2 o o2 z : Nat} {w : Nat} {f : Nat → Int64} {A : TA} {K : TK} {σ : GL} {τ : GL} {T : TM} {F : FM} {U : TM} {G : FM} {P : CP} {x1 : Int32} {x2 : Int32} (hs : SgOk Γ sg) (hsn : SgNe sg) (hw : SwOk Γ sw) (geo : c + 7 ≤ g ∧ c + 7 ≤ g2 ∧ (g + 12 ≤ g2 ∨ g2 + 12 ≤ g) ∧ g + 12 ≤ o ∧ g + 12 ≤ o2 ∧ g2 + 12 ≤ o ∧ g2 + 12 ≤ o2 ∧ (o + 7 ≤ o2 ∨ o2 + 7 ≤ o) ∧ g + 12 ≤ w ∧ g2 + 12 ≤ w ∧ o + 7 ≤ w ∧ o2 + 7 ≤ w) (hA : ta_sz A ≤ 2000) (ho : h o = some (.inr (3, [.ref (o + 1), .ref (o + 3)]))) (ho2 : h o2 = some (.inr (3, [.ref (o2 + 1), .ref (o2 + 3)]))) (hT : T.2 ≤ 20) (hU : U.2 ≤ 20) (hW : WFG σ) (hV : WFG τ) (hms : MsOk Γ ms) (hth : ThOk Γ) (hw0 : h w = some (aJ Γ 1 f)) (hnc : NcOk Γ) : Call Γ M_Law_fill 8 4 24 [.ref c, .int x1, .int x2, .ref w] (cw_ Γ sg h c g g2 o o2 A K σ τ T F U G P) z (fun v h2 z2 => z ≤ z2 ∧ ((s_Camp_fill A K σ τ T F U G P x1 x2).1 = 0 → v = some (.int 0) ∧ h2 = (cw_ Γ sg (hup h w (aJ Γ 1 (vp_updL f 0 (s_Camp_fill A K σ τ T F U G P x1 x2).2.1.toInt64))) c g g2 o o2 A K (s_Camp_fill A K σ τ T F U G P x1 x2).2.2 τ T F U G P)) ∧ (¬ (s_Camp_fill A K σ τ T F U G P x1 x2).1 = 0 → v = some (.int (if (s_Camp_fill A K σ τ T F U G P x1 x2).1 = 1 then 1 else if (s_Camp_fill A K σ τ T F U G P x1 x2).1 = 2 then 2 else 3)) ∧ h2 = (cw_ Γ sg h c g g2 o o2 A K (s_Camp_fill A K σ τ T F U G P x1 x2).2.2 τ T F U G P))) noX := by
  refine Call.of_go (L := [some (.ref c), some (.int x1), some (.int x2), some (.ref w), none]) (by decide +kernel) rfl (by exact Nat.le_of_ble_eq_true rfl) ?_
  refine Go.aload_3 d_Law_fill_0 rfl ?_
  refine Go.iconst (v := 0) d_Law_fill_1 rfl (by decide) ?_
  refine Go.aload_0 d_Law_fill_2 rfl ?_
  refine Go.iload_1 d_Law_fill_3 rfl ?_
  refine Go.iload_2 d_Law_fill_4 rfl ?_
  refine Go.callV (C1 := 0) (S1 := 0) (as := [.int x1, .int x2]) d_Law_fill_5 rfl l_Law_49 k_Camp_fill_v rfl (cw_at_c hs hsn hw (by omega) hA ho ho2 hT hU hW hV) rfl rfl (c_Camp_fill hs hsn hw (by omega) hA ho ho2 hT hU hW hV hms hth) (by decide) (by decide) (by decide) (by decide) (Nat.le_of_ble_eq_true rfl) (fun E h9 z9 hx hz9 => ?_) (fun v h9 z9 hx hz9 => ?_)
  · obtain ⟨ht, rfl, rfl, hz⟩ := hx
    have h3 := thr_fill (A := A) (K := K) (σ := σ) (τ := τ) (T := T) (F := F) (U := U) (G := G) (P := P) (x1 := x1) (x2 := x2)
    rcases h3 with h3 | h3 | h3 | h3
    · exact absurd h3 ht
    · rw [show exn (s_Camp_fill A K σ τ T F U G P x1 x2).1 = xIO from by rw [h3]; rfl]
      refine Go.catch [] ⟨0, 10, 13, 24⟩ [⟨0, 10, 17, 19⟩, ⟨0, 10, 21, 13⟩] rfl (fun y hy => by cases hy) (by rfl) (by decide) lk_IO ca_IO (fun q9 => ?_)
      refine Go.astore_4 d_Law_fill_13 rfl (by rfl) ?_
      refine Go.iconst (v := 1) d_Law_fill_15 rfl (by decide) ?_
      exact Go.iret d_Law_fill_16 rfl rfl ⟨hz, fun c => absurd c ht, fun _ => ⟨by rw [h3]; rfl, rfl⟩⟩
    · rw [show exn (s_Camp_fill A K σ τ T F U G P x1 x2).1 = xIA from by rw [h3]; rfl]
      refine Go.catch [⟨0, 10, 13, 24⟩] ⟨0, 10, 17, 19⟩ [⟨0, 10, 21, 13⟩] rfl (fun y hy => by
            simp only [List.mem_cons, List.not_mem_nil, or_false] at hy
            rcases hy with rfl
            · exact Or.inr ⟨by decide, xIO, lk_IO, fun U H hs => (hnc U H hs).2.1⟩) (by rfl) (by decide) lk_IA ca_IA (fun q9 => ?_)
      refine Go.astore_4 d_Law_fill_17 rfl (by rfl) ?_
      refine Go.iconst (v := 2) d_Law_fill_19 rfl (by decide) ?_
      exact Go.iret d_Law_fill_20 rfl rfl ⟨hz, fun c => absurd c ht, fun _ => ⟨by rw [h3]; rfl, rfl⟩⟩
    · rw [show exn (s_Camp_fill A K σ τ T F U G P x1 x2).1 = xIS from by rw [h3]; rfl]
      refine Go.catch [⟨0, 10, 13, 24⟩, ⟨0, 10, 17, 19⟩] ⟨0, 10, 21, 13⟩ [] rfl (fun y hy => by
            simp only [List.mem_cons, List.not_mem_nil, or_false] at hy
            rcases hy with rfl | rfl
            · exact Or.inr ⟨by decide, xIO, lk_IO, fun U H hs => (hnc U H hs).1⟩
            · exact Or.inr ⟨by decide, xIA, lk_IA, fun U H hs => (hnc U H hs).2.2.1⟩) (by rfl) (by decide) lk_IS ca_IS (fun q9 => ?_)
      refine Go.astore_4 d_Law_fill_21 rfl (by rfl) ?_
      refine Go.iconst (v := 3) d_Law_fill_23 rfl (by decide) ?_
      exact Go.iret d_Law_fill_24 rfl rfl ⟨hz, fun c => absurd c ht, fun _ => ⟨by rw [h3]; rfl, rfl⟩⟩
  · obtain ⟨ht, rfl, rfl, rfl⟩ := hx
    refine Go.i2l d_Law_fill_8 rfl ?_
    refine Go.lastore d_Law_fill_9 rfl ((cw_outu (by omega)).trans hw0) (show vp_in (nI 0) 1 from vp_in_nI (by decide) (by decide)) ?_
    refine Go.heq (cw_hup (by omega)) ?_
    refine Go.goto (t := 25) d_Law_fill_10 (by decide) ?_
    refine Go.iconst (v := 0) d_Law_fill_25 rfl (by decide) ?_
    exact Go.iret d_Law_fill_26 rfl rfl ⟨Nat.le_refl _, fun _ => ⟨rfl, rfl⟩, fun c => absurd ht c⟩
set_option maxRecDepth 100000 in
set_option maxHeartbeats 800000 in
theorem thr_stock {A : TA} {K : TK} {σ τ : GL} {T : TM} {F : FM} {U : TM} {G : FM} {P : CP} {x1 : Int32} {x2 : Int32} : (s_Camp_stock A K σ τ T F U G P x1 x2).1 = 0 ∨ (s_Camp_stock A K σ τ T F U G P x1 x2).1 = 1 ∨ (s_Camp_stock A K σ τ T F U G P x1 x2).1 = 2 := by
  unfold s_Camp_stock
  (repeat' split) <;> (try dsimp only) <;> first
    | exact Or.inl rfl
    | exact Or.inr (Or.inl rfl)
    | exact Or.inr (Or.inr (rfl))
    | exact (needRow_01).elim (fun q => Or.inl q) (fun q => Or.inr (Or.inl q))
    | exact (needWhat_01).elim (fun q => Or.inl q) (fun q => Or.inr (Or.inl q))
    | exact (needRange_02).elim (fun q => Or.inl q) (fun q => Or.inr (Or.inr (q)))
theorem d_Law_stock_0 : decode M_Law_stock.2.1 0 = .ok (.aload_n 3, 1) := by decide +kernel
theorem d_Law_stock_1 : decode M_Law_stock.2.1 1 = .ok (.iconst 0, 1) := by decide +kernel
theorem d_Law_stock_2 : decode M_Law_stock.2.1 2 = .ok (.aload_n 0, 1) := by decide +kernel
theorem d_Law_stock_3 : decode M_Law_stock.2.1 3 = .ok (.iload_n 1, 1) := by decide +kernel
theorem d_Law_stock_4 : decode M_Law_stock.2.1 4 = .ok (.iload_n 2, 1) := by decide +kernel
theorem d_Law_stock_5 : decode M_Law_stock.2.1 5 = .ok (.invokevirtual 52, 3) := by decide +kernel
theorem d_Law_stock_8 : decode M_Law_stock.2.1 8 = .ok (.i2l, 1) := by decide +kernel
theorem d_Law_stock_9 : decode M_Law_stock.2.1 9 = .ok (.lastore, 1) := by decide +kernel
theorem d_Law_stock_10 : decode M_Law_stock.2.1 10 = .ok (.goto 11, 3) := by decide +kernel
theorem d_Law_stock_13 : decode M_Law_stock.2.1 13 = .ok (.astore 4, 2) := by decide +kernel
theorem d_Law_stock_15 : decode M_Law_stock.2.1 15 = .ok (.iconst 1, 1) := by decide +kernel
theorem d_Law_stock_16 : decode M_Law_stock.2.1 16 = .ok (.ireturn, 1) := by decide +kernel
theorem d_Law_stock_17 : decode M_Law_stock.2.1 17 = .ok (.astore 4, 2) := by decide +kernel
theorem d_Law_stock_19 : decode M_Law_stock.2.1 19 = .ok (.iconst 2, 1) := by decide +kernel
theorem d_Law_stock_20 : decode M_Law_stock.2.1 20 = .ok (.ireturn, 1) := by decide +kernel
theorem d_Law_stock_21 : decode M_Law_stock.2.1 21 = .ok (.iconst 0, 1) := by decide +kernel
theorem d_Law_stock_22 : decode M_Law_stock.2.1 22 = .ok (.ireturn, 1) := by decide +kernel
set_option maxRecDepth 100000 in
set_option maxHeartbeats 800000 in
theorem w_stock {Γ : G9} {sg : Nat → Nat} {sw : Nat} {ms : Nat → Nat} {h : AH} {c g g2 o o2 z : Nat} {w : Nat} {f : Nat → Int64} {A : TA} {K : TK} {σ : GL} {τ : GL} {T : TM} {F : FM} {U : TM} {G : FM} {P : CP} {x1 : Int32} {x2 : Int32} (hs : SgOk Γ sg) (hsn : SgNe sg) (hw : SwOk Γ sw) (geo : c + 7 ≤ g ∧ c + 7 ≤ g2 ∧ (g + 12 ≤ g2 ∨ g2 + 12 ≤ g) ∧ g + 12 ≤ o ∧ g + 12 ≤ o2 ∧ g2 + 12 ≤ o ∧ g2 + 12 ≤ o2 ∧ (o + 7 ≤ o2 ∨ o2 + 7 ≤ o) ∧ g + 12 ≤ w ∧ g2 + 12 ≤ w ∧ o + 7 ≤ w ∧ o2 + 7 ≤ w) (hA : ta_sz A ≤ 2000) (ho : h o = some (.inr (3, [.ref (o + 1), .ref (o + 3)]))) (ho2 : h o2 = some (.inr (3, [.ref (o2 + 1), .ref (o2 + 3)]))) (hT : T.2 ≤ 20) (hU : U.2 ≤ 20) (hW : WFG σ) (hV : WFG τ) (hms : MsOk Γ ms) (hth : ThOk Γ) (hw0 : h w = some (aJ Γ 1 f)) (hnc : NcOk Γ) : Call Γ M_Law_stock 8 4 24 [.ref c, .int x1, .int x2, .ref w] (cw_ Γ sg h c g g2 o o2 A K σ τ T F U G P) z (fun v h2 z2 => z ≤ z2 ∧ ((s_Camp_stock A K σ τ T F U G P x1 x2).1 = 0 → v = some (.int 0) ∧ h2 = (cw_ Γ sg (hup h w (aJ Γ 1 (vp_updL f 0 (s_Camp_stock A K σ τ T F U G P x1 x2).2.1.toInt64))) c g g2 o o2 A K (s_Camp_stock A K σ τ T F U G P x1 x2).2.2 τ T F U G P)) ∧ (¬ (s_Camp_stock A K σ τ T F U G P x1 x2).1 = 0 → v = some (.int (if (s_Camp_stock A K σ τ T F U G P x1 x2).1 = 1 then 1 else 2)) ∧ h2 = (cw_ Γ sg h c g g2 o o2 A K (s_Camp_stock A K σ τ T F U G P x1 x2).2.2 τ T F U G P))) noX := by
  refine Call.of_go (L := [some (.ref c), some (.int x1), some (.int x2), some (.ref w), none]) (by decide +kernel) rfl (by exact Nat.le_of_ble_eq_true rfl) ?_
  refine Go.aload_3 d_Law_stock_0 rfl ?_
  refine Go.iconst (v := 0) d_Law_stock_1 rfl (by decide) ?_
  refine Go.aload_0 d_Law_stock_2 rfl ?_
  refine Go.iload_1 d_Law_stock_3 rfl ?_
  refine Go.iload_2 d_Law_stock_4 rfl ?_
  refine Go.callV (C1 := 0) (S1 := 0) (as := [.int x1, .int x2]) d_Law_stock_5 rfl l_Law_52 k_Camp_stock_v rfl (cw_at_c hs hsn hw (by omega) hA ho ho2 hT hU hW hV) rfl rfl (c_Camp_stock hs hsn hw (by omega) hA ho ho2 hT hU hW hV hms hth) (by decide) (by decide) (by decide) (by decide) (Nat.le_of_ble_eq_true rfl) (fun E h9 z9 hx hz9 => ?_) (fun v h9 z9 hx hz9 => ?_)
  · obtain ⟨ht, rfl, rfl, hz⟩ := hx
    have h3 := thr_stock (A := A) (K := K) (σ := σ) (τ := τ) (T := T) (F := F) (U := U) (G := G) (P := P) (x1 := x1) (x2 := x2)
    rcases h3 with h3 | h3 | h3
    · exact absurd h3 ht
    · rw [show exn (s_Camp_stock A K σ τ T F U G P x1 x2).1 = xIO from by rw [h3]; rfl]
      refine Go.catch [] ⟨0, 10, 13, 24⟩ [⟨0, 10, 17, 19⟩] rfl (fun y hy => by cases hy) (by rfl) (by decide) lk_IO ca_IO (fun q9 => ?_)
      refine Go.astore_4 d_Law_stock_13 rfl (by rfl) ?_
      refine Go.iconst (v := 1) d_Law_stock_15 rfl (by decide) ?_
      exact Go.iret d_Law_stock_16 rfl rfl ⟨hz, fun c => absurd c ht, fun _ => ⟨by rw [h3]; rfl, rfl⟩⟩
    · rw [show exn (s_Camp_stock A K σ τ T F U G P x1 x2).1 = xIA from by rw [h3]; rfl]
      refine Go.catch [⟨0, 10, 13, 24⟩] ⟨0, 10, 17, 19⟩ [] rfl (fun y hy => by
            simp only [List.mem_cons, List.not_mem_nil, or_false] at hy
            rcases hy with rfl
            · exact Or.inr ⟨by decide, xIO, lk_IO, fun U H hs => (hnc U H hs).2.1⟩) (by rfl) (by decide) lk_IA ca_IA (fun q9 => ?_)
      refine Go.astore_4 d_Law_stock_17 rfl (by rfl) ?_
      refine Go.iconst (v := 2) d_Law_stock_19 rfl (by decide) ?_
      exact Go.iret d_Law_stock_20 rfl rfl ⟨hz, fun c => absurd c ht, fun _ => ⟨by rw [h3]; rfl, rfl⟩⟩
  · obtain ⟨ht, rfl, rfl, rfl⟩ := hx
    refine Go.i2l d_Law_stock_8 rfl ?_
    refine Go.lastore d_Law_stock_9 rfl ((cw_outu (by omega)).trans hw0) (show vp_in (nI 0) 1 from vp_in_nI (by decide) (by decide)) ?_
    refine Go.heq (cw_hup (by omega)) ?_
    refine Go.goto (t := 21) d_Law_stock_10 (by decide) ?_
    refine Go.iconst (v := 0) d_Law_stock_21 rfl (by decide) ?_
    exact Go.iret d_Law_stock_22 rfl rfl ⟨Nat.le_refl _, fun _ => ⟨rfl, rfl⟩, fun c => absurd ht c⟩
set_option maxRecDepth 100000 in
set_option maxHeartbeats 800000 in
theorem thr_setWarm {A : TA} {K : TK} {σ τ : GL} {T : TM} {F : FM} {U : TM} {G : FM} {P : CP} {x1 : Int32} {x2 : Int32} : (s_Camp_setWarm A K σ τ T F U G P x1 x2).1 = 0 ∨ (s_Camp_setWarm A K σ τ T F U G P x1 x2).1 = 1 ∨ (s_Camp_setWarm A K σ τ T F U G P x1 x2).1 = 2 := by
  unfold s_Camp_setWarm
  (repeat' split) <;> (try dsimp only) <;> first
    | exact Or.inl rfl
    | exact Or.inr (Or.inl rfl)
    | exact Or.inr (Or.inr (rfl))
    | exact (needRow_01).elim (fun q => Or.inl q) (fun q => Or.inr (Or.inl q))
    | exact (needWhat_01).elim (fun q => Or.inl q) (fun q => Or.inr (Or.inl q))
    | exact (needRange_02).elim (fun q => Or.inl q) (fun q => Or.inr (Or.inr (q)))
theorem d_Law_setWarm_0 : decode M_Law_setWarm.2.1 0 = .ok (.aload_n 3, 1) := by decide +kernel
theorem d_Law_setWarm_1 : decode M_Law_setWarm.2.1 1 = .ok (.iconst 0, 1) := by decide +kernel
theorem d_Law_setWarm_2 : decode M_Law_setWarm.2.1 2 = .ok (.aload_n 0, 1) := by decide +kernel
theorem d_Law_setWarm_3 : decode M_Law_setWarm.2.1 3 = .ok (.iload_n 1, 1) := by decide +kernel
theorem d_Law_setWarm_4 : decode M_Law_setWarm.2.1 4 = .ok (.iload_n 2, 1) := by decide +kernel
theorem d_Law_setWarm_5 : decode M_Law_setWarm.2.1 5 = .ok (.invokevirtual 55, 3) := by decide +kernel
theorem d_Law_setWarm_8 : decode M_Law_setWarm.2.1 8 = .ok (.i2l, 1) := by decide +kernel
theorem d_Law_setWarm_9 : decode M_Law_setWarm.2.1 9 = .ok (.lastore, 1) := by decide +kernel
theorem d_Law_setWarm_10 : decode M_Law_setWarm.2.1 10 = .ok (.goto 11, 3) := by decide +kernel
theorem d_Law_setWarm_13 : decode M_Law_setWarm.2.1 13 = .ok (.astore 4, 2) := by decide +kernel
theorem d_Law_setWarm_15 : decode M_Law_setWarm.2.1 15 = .ok (.iconst 1, 1) := by decide +kernel
theorem d_Law_setWarm_16 : decode M_Law_setWarm.2.1 16 = .ok (.ireturn, 1) := by decide +kernel
theorem d_Law_setWarm_17 : decode M_Law_setWarm.2.1 17 = .ok (.astore 4, 2) := by decide +kernel
theorem d_Law_setWarm_19 : decode M_Law_setWarm.2.1 19 = .ok (.iconst 2, 1) := by decide +kernel
theorem d_Law_setWarm_20 : decode M_Law_setWarm.2.1 20 = .ok (.ireturn, 1) := by decide +kernel
theorem d_Law_setWarm_21 : decode M_Law_setWarm.2.1 21 = .ok (.iconst 0, 1) := by decide +kernel
theorem d_Law_setWarm_22 : decode M_Law_setWarm.2.1 22 = .ok (.ireturn, 1) := by decide +kernel
set_option maxRecDepth 100000 in
set_option maxHeartbeats 800000 in
theorem w_setWarm {Γ : G9} {sg : Nat → Nat} {sw : Nat} {ms : Nat → Nat} {h : AH} {c g g2 o o2 z : Nat} {w : Nat} {f : Nat → Int64} {A : TA} {K : TK} {σ : GL} {τ : GL} {T : TM} {F : FM} {U : TM} {G : FM} {P : CP} {x1 : Int32} {x2 : Int32} (hs : SgOk Γ sg) (hsn : SgNe sg) (hw : SwOk Γ sw) (geo : c + 7 ≤ g ∧ c + 7 ≤ g2 ∧ (g + 12 ≤ g2 ∨ g2 + 12 ≤ g) ∧ g + 12 ≤ o ∧ g + 12 ≤ o2 ∧ g2 + 12 ≤ o ∧ g2 + 12 ≤ o2 ∧ (o + 7 ≤ o2 ∨ o2 + 7 ≤ o) ∧ g + 12 ≤ w ∧ g2 + 12 ≤ w ∧ o + 7 ≤ w ∧ o2 + 7 ≤ w) (hA : ta_sz A ≤ 2000) (ho : h o = some (.inr (3, [.ref (o + 1), .ref (o + 3)]))) (ho2 : h o2 = some (.inr (3, [.ref (o2 + 1), .ref (o2 + 3)]))) (hT : T.2 ≤ 20) (hU : U.2 ≤ 20) (hW : WFG σ) (hV : WFG τ) (hms : MsOk Γ ms) (hth : ThOk Γ) (hw0 : h w = some (aJ Γ 1 f)) (hnc : NcOk Γ) : Call Γ M_Law_setWarm 8 4 24 [.ref c, .int x1, .int x2, .ref w] (cw_ Γ sg h c g g2 o o2 A K σ τ T F U G P) z (fun v h2 z2 => z ≤ z2 ∧ ((s_Camp_setWarm A K σ τ T F U G P x1 x2).1 = 0 → v = some (.int 0) ∧ h2 = (cw_ Γ sg (hup h w (aJ Γ 1 (vp_updL f 0 (s_Camp_setWarm A K σ τ T F U G P x1 x2).2.1.toInt64))) c g g2 o o2 A K (s_Camp_setWarm A K σ τ T F U G P x1 x2).2.2 τ T F U G P)) ∧ (¬ (s_Camp_setWarm A K σ τ T F U G P x1 x2).1 = 0 → v = some (.int (if (s_Camp_setWarm A K σ τ T F U G P x1 x2).1 = 1 then 1 else 2)) ∧ h2 = (cw_ Γ sg h c g g2 o o2 A K (s_Camp_setWarm A K σ τ T F U G P x1 x2).2.2 τ T F U G P))) noX := by
  refine Call.of_go (L := [some (.ref c), some (.int x1), some (.int x2), some (.ref w), none]) (by decide +kernel) rfl (by exact Nat.le_of_ble_eq_true rfl) ?_
  refine Go.aload_3 d_Law_setWarm_0 rfl ?_
  refine Go.iconst (v := 0) d_Law_setWarm_1 rfl (by decide) ?_
  refine Go.aload_0 d_Law_setWarm_2 rfl ?_
  refine Go.iload_1 d_Law_setWarm_3 rfl ?_
  refine Go.iload_2 d_Law_setWarm_4 rfl ?_
  refine Go.callV (C1 := 0) (S1 := 0) (as := [.int x1, .int x2]) d_Law_setWarm_5 rfl l_Law_55 k_Camp_setWarm_v rfl (cw_at_c hs hsn hw (by omega) hA ho ho2 hT hU hW hV) rfl rfl (c_Camp_setWarm hs hsn hw (by omega) hA ho ho2 hT hU hW hV hms hth) (by decide) (by decide) (by decide) (by decide) (Nat.le_of_ble_eq_true rfl) (fun E h9 z9 hx hz9 => ?_) (fun v h9 z9 hx hz9 => ?_)
  · obtain ⟨ht, rfl, rfl, hz⟩ := hx
    have h3 := thr_setWarm (A := A) (K := K) (σ := σ) (τ := τ) (T := T) (F := F) (U := U) (G := G) (P := P) (x1 := x1) (x2 := x2)
    rcases h3 with h3 | h3 | h3
    · exact absurd h3 ht
    · rw [show exn (s_Camp_setWarm A K σ τ T F U G P x1 x2).1 = xIO from by rw [h3]; rfl]
      refine Go.catch [] ⟨0, 10, 13, 24⟩ [⟨0, 10, 17, 19⟩] rfl (fun y hy => by cases hy) (by rfl) (by decide) lk_IO ca_IO (fun q9 => ?_)
      refine Go.astore_4 d_Law_setWarm_13 rfl (by rfl) ?_
      refine Go.iconst (v := 1) d_Law_setWarm_15 rfl (by decide) ?_
      exact Go.iret d_Law_setWarm_16 rfl rfl ⟨hz, fun c => absurd c ht, fun _ => ⟨by rw [h3]; rfl, rfl⟩⟩
    · rw [show exn (s_Camp_setWarm A K σ τ T F U G P x1 x2).1 = xIA from by rw [h3]; rfl]
      refine Go.catch [⟨0, 10, 13, 24⟩] ⟨0, 10, 17, 19⟩ [] rfl (fun y hy => by
            simp only [List.mem_cons, List.not_mem_nil, or_false] at hy
            rcases hy with rfl
            · exact Or.inr ⟨by decide, xIO, lk_IO, fun U H hs => (hnc U H hs).2.1⟩) (by rfl) (by decide) lk_IA ca_IA (fun q9 => ?_)
      refine Go.astore_4 d_Law_setWarm_17 rfl (by rfl) ?_
      refine Go.iconst (v := 2) d_Law_setWarm_19 rfl (by decide) ?_
      exact Go.iret d_Law_setWarm_20 rfl rfl ⟨hz, fun c => absurd c ht, fun _ => ⟨by rw [h3]; rfl, rfl⟩⟩
  · obtain ⟨ht, rfl, rfl, rfl⟩ := hx
    refine Go.i2l d_Law_setWarm_8 rfl ?_
    refine Go.lastore d_Law_setWarm_9 rfl ((cw_outu (by omega)).trans hw0) (show vp_in (nI 0) 1 from vp_in_nI (by decide) (by decide)) ?_
    refine Go.heq (cw_hup (by omega)) ?_
    refine Go.goto (t := 21) d_Law_setWarm_10 (by decide) ?_
    refine Go.iconst (v := 0) d_Law_setWarm_21 rfl (by decide) ?_
    exact Go.iret d_Law_setWarm_22 rfl rfl ⟨Nat.le_refl _, fun _ => ⟨rfl, rfl⟩, fun c => absurd ht c⟩
set_option maxRecDepth 100000 in
set_option maxHeartbeats 800000 in
theorem thr_pass {A : TA} {K : TK} {σ τ : GL} {T : TM} {F : FM} {U : TM} {G : FM} {P : CP} {x1 : Int32} : (s_Camp_pass A K σ τ T F U G P x1).1 = 0 ∨ (s_Camp_pass A K σ τ T F U G P x1).1 = 2 := by
  unfold s_Camp_pass
  (repeat' split) <;> (try dsimp only) <;> first
    | exact Or.inl rfl
    | exact Or.inr (rfl)
    | exact (needRange_02).elim (fun q => Or.inl q) (fun q => Or.inr (q))
theorem d_Law_pass_0 : decode M_Law_pass.2.1 0 = .ok (.aload_n 2, 1) := by decide +kernel
theorem d_Law_pass_1 : decode M_Law_pass.2.1 1 = .ok (.iconst 0, 1) := by decide +kernel
theorem d_Law_pass_2 : decode M_Law_pass.2.1 2 = .ok (.aload_n 0, 1) := by decide +kernel
theorem d_Law_pass_3 : decode M_Law_pass.2.1 3 = .ok (.iload_n 1, 1) := by decide +kernel
theorem d_Law_pass_4 : decode M_Law_pass.2.1 4 = .ok (.invokevirtual 58, 3) := by decide +kernel
theorem d_Law_pass_7 : decode M_Law_pass.2.1 7 = .ok (.i2l, 1) := by decide +kernel
theorem d_Law_pass_8 : decode M_Law_pass.2.1 8 = .ok (.lastore, 1) := by decide +kernel
theorem d_Law_pass_9 : decode M_Law_pass.2.1 9 = .ok (.goto 6, 3) := by decide +kernel
theorem d_Law_pass_12 : decode M_Law_pass.2.1 12 = .ok (.astore_n 3, 1) := by decide +kernel
theorem d_Law_pass_13 : decode M_Law_pass.2.1 13 = .ok (.iconst 1, 1) := by decide +kernel
theorem d_Law_pass_14 : decode M_Law_pass.2.1 14 = .ok (.ireturn, 1) := by decide +kernel
theorem d_Law_pass_15 : decode M_Law_pass.2.1 15 = .ok (.iconst 0, 1) := by decide +kernel
theorem d_Law_pass_16 : decode M_Law_pass.2.1 16 = .ok (.ireturn, 1) := by decide +kernel
set_option maxRecDepth 100000 in
set_option maxHeartbeats 800000 in
theorem w_pass {Γ : G9} {sg : Nat → Nat} {sw : Nat} {ms : Nat → Nat} {h : AH} {c g g2 o o2 z : Nat} {w : Nat} {f : Nat → Int64} {A : TA} {K : TK} {σ : GL} {τ : GL} {T : TM} {F : FM} {U : TM} {G : FM} {P : CP} {x1 : Int32} (hs : SgOk Γ sg) (hsn : SgNe sg) (hw : SwOk Γ sw) (geo : c + 7 ≤ g ∧ c + 7 ≤ g2 ∧ (g + 12 ≤ g2 ∨ g2 + 12 ≤ g) ∧ g + 12 ≤ o ∧ g + 12 ≤ o2 ∧ g2 + 12 ≤ o ∧ g2 + 12 ≤ o2 ∧ (o + 7 ≤ o2 ∨ o2 + 7 ≤ o) ∧ g + 12 ≤ w ∧ g2 + 12 ≤ w ∧ o + 7 ≤ w ∧ o2 + 7 ≤ w) (hA : ta_sz A ≤ 2000) (ho : h o = some (.inr (3, [.ref (o + 1), .ref (o + 3)]))) (ho2 : h o2 = some (.inr (3, [.ref (o2 + 1), .ref (o2 + 3)]))) (hT : T.2 ≤ 20) (hU : U.2 ≤ 20) (hW : WFG σ) (hV : WFG τ) (hms : MsOk Γ ms) (hth : ThOk Γ) (hw0 : h w = some (aJ Γ 1 f)) (hnc : NcOk Γ) : Call Γ M_Law_pass 8 4 24 [.ref c, .int x1, .ref w] (cw_ Γ sg h c g g2 o o2 A K σ τ T F U G P) z (fun v h2 z2 => z ≤ z2 ∧ ((s_Camp_pass A K σ τ T F U G P x1).1 = 0 → v = some (.int 0) ∧ h2 = (cw_ Γ sg (hup h w (aJ Γ 1 (vp_updL f 0 (s_Camp_pass A K σ τ T F U G P x1).2.1.toInt64))) c g g2 o o2 A K (s_Camp_pass A K σ τ T F U G P x1).2.2.1 τ T (s_Camp_pass A K σ τ T F U G P x1).2.2.2 U G P)) ∧ (¬ (s_Camp_pass A K σ τ T F U G P x1).1 = 0 → v = some (.int (1)) ∧ h2 = (cw_ Γ sg h c g g2 o o2 A K (s_Camp_pass A K σ τ T F U G P x1).2.2.1 τ T (s_Camp_pass A K σ τ T F U G P x1).2.2.2 U G P))) noX := by
  refine Call.of_go (L := [some (.ref c), some (.int x1), some (.ref w), none]) (by decide +kernel) rfl (by exact Nat.le_of_ble_eq_true rfl) ?_
  refine Go.aload_2 d_Law_pass_0 rfl ?_
  refine Go.iconst (v := 0) d_Law_pass_1 rfl (by decide) ?_
  refine Go.aload_0 d_Law_pass_2 rfl ?_
  refine Go.iload_1 d_Law_pass_3 rfl ?_
  refine Go.callV (C1 := 0) (S1 := 0) (as := [.int x1]) d_Law_pass_4 rfl l_Law_58 k_Camp_pass_v rfl (cw_at_c hs hsn hw (by omega) hA ho ho2 hT hU hW hV) rfl rfl (c_Camp_pass hs hsn hw (by omega) hA ho ho2 hT hU hW hV hms hth) (by decide) (by decide) (by decide) (by decide) (Nat.le_of_ble_eq_true rfl) (fun E h9 z9 hx hz9 => ?_) (fun v h9 z9 hx hz9 => ?_)
  · obtain ⟨ht, rfl, rfl, hz⟩ := hx
    have h3 := thr_pass (A := A) (K := K) (σ := σ) (τ := τ) (T := T) (F := F) (U := U) (G := G) (P := P) (x1 := x1)
    rcases h3 with h3 | h3
    · exact absurd h3 ht
    · rw [show exn (s_Camp_pass A K σ τ T F U G P x1).1 = xIA from by rw [h3]; rfl]
      refine Go.catch [] ⟨0, 9, 12, 19⟩ [] rfl (fun y hy => by cases hy) (by rfl) (by decide) lk_IA ca_IA (fun q9 => ?_)
      refine Go.astore_3 d_Law_pass_12 rfl (by rfl) ?_
      refine Go.iconst (v := 1) d_Law_pass_13 rfl (by decide) ?_
      exact Go.iret d_Law_pass_14 rfl rfl ⟨hz, fun c => absurd c ht, fun _ => ⟨rfl, rfl⟩⟩
  · obtain ⟨ht, rfl, rfl, rfl⟩ := hx
    refine Go.i2l d_Law_pass_7 rfl ?_
    refine Go.lastore d_Law_pass_8 rfl ((cw_outu (by omega)).trans hw0) (show vp_in (nI 0) 1 from vp_in_nI (by decide) (by decide)) ?_
    refine Go.heq (cw_hup (by omega)) ?_
    refine Go.goto (t := 15) d_Law_pass_9 (by decide) ?_
    refine Go.iconst (v := 0) d_Law_pass_15 rfl (by decide) ?_
    exact Go.iret d_Law_pass_16 rfl rfl ⟨Nat.le_refl _, fun _ => ⟨rfl, rfl⟩, fun c => absurd ht c⟩
set_option maxRecDepth 100000 in
set_option maxHeartbeats 800000 in
theorem thr_melt {A : TA} {K : TK} {σ τ : GL} {T : TM} {F : FM} {U : TM} {G : FM} {P : CP} {x1 : Int32} {x2 : Int32} : (s_Camp_melt A K σ τ T F U G P x1 x2).1 = 0 ∨ (s_Camp_melt A K σ τ T F U G P x1 x2).1 = 1 ∨ (s_Camp_melt A K σ τ T F U G P x1 x2).1 = 2 := by
  unfold s_Camp_melt
  (repeat' split) <;> (try dsimp only) <;> first
    | exact Or.inl rfl
    | exact Or.inr (Or.inl rfl)
    | exact Or.inr (Or.inr (rfl))
    | exact (needRow_01).elim (fun q => Or.inl q) (fun q => Or.inr (Or.inl q))
    | exact (needWhat_01).elim (fun q => Or.inl q) (fun q => Or.inr (Or.inl q))
    | exact (needRange_02).elim (fun q => Or.inl q) (fun q => Or.inr (Or.inr (q)))
theorem d_Law_melt_0 : decode M_Law_melt.2.1 0 = .ok (.aload_n 3, 1) := by decide +kernel
theorem d_Law_melt_1 : decode M_Law_melt.2.1 1 = .ok (.iconst 0, 1) := by decide +kernel
theorem d_Law_melt_2 : decode M_Law_melt.2.1 2 = .ok (.aload_n 0, 1) := by decide +kernel
theorem d_Law_melt_3 : decode M_Law_melt.2.1 3 = .ok (.iload_n 1, 1) := by decide +kernel
theorem d_Law_melt_4 : decode M_Law_melt.2.1 4 = .ok (.iload_n 2, 1) := by decide +kernel
theorem d_Law_melt_5 : decode M_Law_melt.2.1 5 = .ok (.invokevirtual 61, 3) := by decide +kernel
theorem d_Law_melt_8 : decode M_Law_melt.2.1 8 = .ok (.i2l, 1) := by decide +kernel
theorem d_Law_melt_9 : decode M_Law_melt.2.1 9 = .ok (.lastore, 1) := by decide +kernel
theorem d_Law_melt_10 : decode M_Law_melt.2.1 10 = .ok (.goto 11, 3) := by decide +kernel
theorem d_Law_melt_13 : decode M_Law_melt.2.1 13 = .ok (.astore 4, 2) := by decide +kernel
theorem d_Law_melt_15 : decode M_Law_melt.2.1 15 = .ok (.iconst 1, 1) := by decide +kernel
theorem d_Law_melt_16 : decode M_Law_melt.2.1 16 = .ok (.ireturn, 1) := by decide +kernel
theorem d_Law_melt_17 : decode M_Law_melt.2.1 17 = .ok (.astore 4, 2) := by decide +kernel
theorem d_Law_melt_19 : decode M_Law_melt.2.1 19 = .ok (.iconst 2, 1) := by decide +kernel
theorem d_Law_melt_20 : decode M_Law_melt.2.1 20 = .ok (.ireturn, 1) := by decide +kernel
theorem d_Law_melt_21 : decode M_Law_melt.2.1 21 = .ok (.iconst 0, 1) := by decide +kernel
theorem d_Law_melt_22 : decode M_Law_melt.2.1 22 = .ok (.ireturn, 1) := by decide +kernel
set_option maxRecDepth 100000 in
set_option maxHeartbeats 800000 in
theorem w_melt {Γ : G9} {sg : Nat → Nat} {sw : Nat} {ms : Nat → Nat} {h : AH} {c g g2 o o2 z : Nat} {w : Nat} {f : Nat → Int64} {A : TA} {K : TK} {σ : GL} {τ : GL} {T : TM} {F : FM} {U : TM} {G : FM} {P : CP} {x1 : Int32} {x2 : Int32} (hs : SgOk Γ sg) (hsn : SgNe sg) (hw : SwOk Γ sw) (geo : c + 7 ≤ g ∧ c + 7 ≤ g2 ∧ (g + 12 ≤ g2 ∨ g2 + 12 ≤ g) ∧ g + 12 ≤ o ∧ g + 12 ≤ o2 ∧ g2 + 12 ≤ o ∧ g2 + 12 ≤ o2 ∧ (o + 7 ≤ o2 ∨ o2 + 7 ≤ o) ∧ g + 12 ≤ w ∧ g2 + 12 ≤ w ∧ o + 7 ≤ w ∧ o2 + 7 ≤ w) (hA : ta_sz A ≤ 2000) (ho : h o = some (.inr (3, [.ref (o + 1), .ref (o + 3)]))) (ho2 : h o2 = some (.inr (3, [.ref (o2 + 1), .ref (o2 + 3)]))) (hT : T.2 ≤ 20) (hU : U.2 ≤ 20) (hW : WFG σ) (hV : WFG τ) (hms : MsOk Γ ms) (hth : ThOk Γ) (hw0 : h w = some (aJ Γ 1 f)) (hnc : NcOk Γ) : Call Γ M_Law_melt 8 4 24 [.ref c, .int x1, .int x2, .ref w] (cw_ Γ sg h c g g2 o o2 A K σ τ T F U G P) z (fun v h2 z2 => z ≤ z2 ∧ ((s_Camp_melt A K σ τ T F U G P x1 x2).1 = 0 → v = some (.int 0) ∧ h2 = (cw_ Γ sg (hup h w (aJ Γ 1 (vp_updL f 0 (s_Camp_melt A K σ τ T F U G P x1 x2).2.toInt64))) c g g2 o o2 A K σ τ T F U G P)) ∧ (¬ (s_Camp_melt A K σ τ T F U G P x1 x2).1 = 0 → v = some (.int (if (s_Camp_melt A K σ τ T F U G P x1 x2).1 = 1 then 1 else 2)) ∧ h2 = (cw_ Γ sg h c g g2 o o2 A K σ τ T F U G P))) noX := by
  refine Call.of_go (L := [some (.ref c), some (.int x1), some (.int x2), some (.ref w), none]) (by decide +kernel) rfl (by exact Nat.le_of_ble_eq_true rfl) ?_
  refine Go.aload_3 d_Law_melt_0 rfl ?_
  refine Go.iconst (v := 0) d_Law_melt_1 rfl (by decide) ?_
  refine Go.aload_0 d_Law_melt_2 rfl ?_
  refine Go.iload_1 d_Law_melt_3 rfl ?_
  refine Go.iload_2 d_Law_melt_4 rfl ?_
  refine Go.callV (C1 := 0) (S1 := 0) (as := [.int x1, .int x2]) d_Law_melt_5 rfl l_Law_61 k_Camp_melt_v rfl (cw_at_c hs hsn hw (by omega) hA ho ho2 hT hU hW hV) rfl rfl (c_Camp_melt hs hsn hw (by omega) hA ho ho2 hT hU hW hV hms hth) (by decide) (by decide) (by decide) (by decide) (Nat.le_of_ble_eq_true rfl) (fun E h9 z9 hx hz9 => ?_) (fun v h9 z9 hx hz9 => ?_)
  · obtain ⟨ht, rfl, rfl, hz⟩ := hx
    have h3 := thr_melt (A := A) (K := K) (σ := σ) (τ := τ) (T := T) (F := F) (U := U) (G := G) (P := P) (x1 := x1) (x2 := x2)
    rcases h3 with h3 | h3 | h3
    · exact absurd h3 ht
    · rw [show exn (s_Camp_melt A K σ τ T F U G P x1 x2).1 = xIO from by rw [h3]; rfl]
      refine Go.catch [] ⟨0, 10, 13, 24⟩ [⟨0, 10, 17, 19⟩] rfl (fun y hy => by cases hy) (by rfl) (by decide) lk_IO ca_IO (fun q9 => ?_)
      refine Go.astore_4 d_Law_melt_13 rfl (by rfl) ?_
      refine Go.iconst (v := 1) d_Law_melt_15 rfl (by decide) ?_
      exact Go.iret d_Law_melt_16 rfl rfl ⟨hz, fun c => absurd c ht, fun _ => ⟨by rw [h3]; rfl, rfl⟩⟩
    · rw [show exn (s_Camp_melt A K σ τ T F U G P x1 x2).1 = xIA from by rw [h3]; rfl]
      refine Go.catch [⟨0, 10, 13, 24⟩] ⟨0, 10, 17, 19⟩ [] rfl (fun y hy => by
            simp only [List.mem_cons, List.not_mem_nil, or_false] at hy
            rcases hy with rfl
            · exact Or.inr ⟨by decide, xIO, lk_IO, fun U H hs => (hnc U H hs).2.1⟩) (by rfl) (by decide) lk_IA ca_IA (fun q9 => ?_)
      refine Go.astore_4 d_Law_melt_17 rfl (by rfl) ?_
      refine Go.iconst (v := 2) d_Law_melt_19 rfl (by decide) ?_
      exact Go.iret d_Law_melt_20 rfl rfl ⟨hz, fun c => absurd c ht, fun _ => ⟨by rw [h3]; rfl, rfl⟩⟩
  · obtain ⟨ht, rfl, rfl, rfl⟩ := hx
    refine Go.i2l d_Law_melt_8 rfl ?_
    refine Go.lastore d_Law_melt_9 rfl ((cw_outu (by omega)).trans hw0) (show vp_in (nI 0) 1 from vp_in_nI (by decide) (by decide)) ?_
    refine Go.heq (cw_hup (by omega)) ?_
    refine Go.goto (t := 21) d_Law_melt_10 (by decide) ?_
    refine Go.iconst (v := 0) d_Law_melt_21 rfl (by decide) ?_
    exact Go.iret d_Law_melt_22 rfl rfl ⟨Nat.le_refl _, fun _ => ⟨rfl, rfl⟩, fun c => absurd ht c⟩
theorem until_0 {A : TA} {K : TK} {σ : GL} {T : TM} {U : TM} {G : FM} {P : CP} {x1 : Int32} : ∀ (k i : Nat) (τ : GL) (F : FM), (l_Camp_until_24 A K σ T U G P x1 k i τ F).1 = 0 := by
  intro k
  induction k with
  | zero =>
    intros
    unfold l_Camp_until_24
    (repeat' split) <;> rfl
  | succ k ih =>
    intros
    unfold l_Camp_until_24
    (repeat' split) <;> first | rfl | exact ih _ _ _
set_option maxRecDepth 100000 in
set_option maxHeartbeats 800000 in
theorem thr_until {A : TA} {K : TK} {σ τ : GL} {T : TM} {F : FM} {U : TM} {G : FM} {P : CP} {x1 : Int32} : (s_Camp_until A K σ τ T F U G P x1).1 = 0 ∨ (s_Camp_until A K σ τ T F U G P x1).1 = 1 := by
  unfold s_Camp_until
  (repeat' split) <;> (try dsimp only) <;> first
    | exact Or.inl rfl
    | exact Or.inr (rfl)
    | exact Or.inl (until_0 _ _ _ _)
    | exact (needRow_01).elim (fun q => Or.inl q) (fun q => Or.inr (q))
    | exact (needWhat_01).elim (fun q => Or.inl q) (fun q => Or.inr (q))
theorem d_Law_until_0 : decode M_Law_until.2.1 0 = .ok (.aload_n 2, 1) := by decide +kernel
theorem d_Law_until_1 : decode M_Law_until.2.1 1 = .ok (.iconst 0, 1) := by decide +kernel
theorem d_Law_until_2 : decode M_Law_until.2.1 2 = .ok (.aload_n 0, 1) := by decide +kernel
theorem d_Law_until_3 : decode M_Law_until.2.1 3 = .ok (.iload_n 1, 1) := by decide +kernel
theorem d_Law_until_4 : decode M_Law_until.2.1 4 = .ok (.invokevirtual 64, 3) := by decide +kernel
theorem d_Law_until_7 : decode M_Law_until.2.1 7 = .ok (.i2l, 1) := by decide +kernel
theorem d_Law_until_8 : decode M_Law_until.2.1 8 = .ok (.lastore, 1) := by decide +kernel
theorem d_Law_until_9 : decode M_Law_until.2.1 9 = .ok (.goto 6, 3) := by decide +kernel
theorem d_Law_until_12 : decode M_Law_until.2.1 12 = .ok (.astore_n 3, 1) := by decide +kernel
theorem d_Law_until_13 : decode M_Law_until.2.1 13 = .ok (.iconst 1, 1) := by decide +kernel
theorem d_Law_until_14 : decode M_Law_until.2.1 14 = .ok (.ireturn, 1) := by decide +kernel
theorem d_Law_until_15 : decode M_Law_until.2.1 15 = .ok (.iconst 0, 1) := by decide +kernel
theorem d_Law_until_16 : decode M_Law_until.2.1 16 = .ok (.ireturn, 1) := by decide +kernel
set_option maxRecDepth 100000 in
set_option maxHeartbeats 800000 in
theorem w_until {Γ : G9} {sg : Nat → Nat} {sw : Nat} {ms : Nat → Nat} {h : AH} {c g g2 o o2 z : Nat} {w : Nat} {f : Nat → Int64} {A : TA} {K : TK} {σ : GL} {τ : GL} {T : TM} {F : FM} {U : TM} {G : FM} {P : CP} {x1 : Int32} (hs : SgOk Γ sg) (hsn : SgNe sg) (hw : SwOk Γ sw) (geo : c + 7 ≤ g ∧ c + 7 ≤ g2 ∧ (g + 12 ≤ g2 ∨ g2 + 12 ≤ g) ∧ g + 12 ≤ o ∧ g + 12 ≤ o2 ∧ g2 + 12 ≤ o ∧ g2 + 12 ≤ o2 ∧ (o + 7 ≤ o2 ∨ o2 + 7 ≤ o) ∧ g + 12 ≤ w ∧ g2 + 12 ≤ w ∧ o + 7 ≤ w ∧ o2 + 7 ≤ w) (hA : ta_sz A ≤ 2000) (ho : h o = some (.inr (3, [.ref (o + 1), .ref (o + 3)]))) (ho2 : h o2 = some (.inr (3, [.ref (o2 + 1), .ref (o2 + 3)]))) (hT : T.2 ≤ 20) (hU : U.2 ≤ 20) (hW : WFG σ) (hV : WFG τ) (hms : MsOk Γ ms) (hth : ThOk Γ) (hw0 : h w = some (aJ Γ 1 f)) (hnc : NcOk Γ) : Call Γ M_Law_until 8 4 24 [.ref c, .int x1, .ref w] (cw_ Γ sg h c g g2 o o2 A K σ τ T F U G P) z (fun v h2 z2 => z ≤ z2 ∧ ((s_Camp_until A K σ τ T F U G P x1).1 = 0 → v = some (.int 0) ∧ h2 = (cw_ Γ sg (hup h w (aJ Γ 1 (vp_updL f 0 (s_Camp_until A K σ τ T F U G P x1).2.1.toInt64))) c g g2 o o2 A K σ (s_Camp_until A K σ τ T F U G P x1).2.2.1 T (s_Camp_until A K σ τ T F U G P x1).2.2.2 U G P)) ∧ (¬ (s_Camp_until A K σ τ T F U G P x1).1 = 0 → v = some (.int (1)) ∧ h2 = (cw_ Γ sg h c g g2 o o2 A K σ (s_Camp_until A K σ τ T F U G P x1).2.2.1 T (s_Camp_until A K σ τ T F U G P x1).2.2.2 U G P))) noX := by
  refine Call.of_go (L := [some (.ref c), some (.int x1), some (.ref w), none]) (by decide +kernel) rfl (by exact Nat.le_of_ble_eq_true rfl) ?_
  refine Go.aload_2 d_Law_until_0 rfl ?_
  refine Go.iconst (v := 0) d_Law_until_1 rfl (by decide) ?_
  refine Go.aload_0 d_Law_until_2 rfl ?_
  refine Go.iload_1 d_Law_until_3 rfl ?_
  refine Go.callV (C1 := 0) (S1 := 0) (as := [.int x1]) d_Law_until_4 rfl l_Law_64 k_Camp_until_v rfl (cw_at_c hs hsn hw (by omega) hA ho ho2 hT hU hW hV) rfl rfl (c_Camp_until hs hsn hw (by omega) hA ho ho2 hT hU hW hV hms hth) (by decide) (by decide) (by decide) (by decide) (Nat.le_of_ble_eq_true rfl) (fun E h9 z9 hx hz9 => ?_) (fun v h9 z9 hx hz9 => ?_)
  · obtain ⟨ht, rfl, rfl, hz⟩ := hx
    have h3 := thr_until (A := A) (K := K) (σ := σ) (τ := τ) (T := T) (F := F) (U := U) (G := G) (P := P) (x1 := x1)
    rcases h3 with h3 | h3
    · exact absurd h3 ht
    · rw [show exn (s_Camp_until A K σ τ T F U G P x1).1 = xIO from by rw [h3]; rfl]
      refine Go.catch [] ⟨0, 9, 12, 24⟩ [] rfl (fun y hy => by cases hy) (by rfl) (by decide) lk_IO ca_IO (fun q9 => ?_)
      refine Go.astore_3 d_Law_until_12 rfl (by rfl) ?_
      refine Go.iconst (v := 1) d_Law_until_13 rfl (by decide) ?_
      exact Go.iret d_Law_until_14 rfl rfl ⟨hz, fun c => absurd c ht, fun _ => ⟨rfl, rfl⟩⟩
  · obtain ⟨ht, rfl, rfl, rfl⟩ := hx
    refine Go.i2l d_Law_until_7 rfl ?_
    refine Go.lastore d_Law_until_8 rfl ((cw_outu (by omega)).trans hw0) (show vp_in (nI 0) 1 from vp_in_nI (by decide) (by decide)) ?_
    refine Go.heq (cw_hup (by omega)) ?_
    refine Go.goto (t := 15) d_Law_until_9 (by decide) ?_
    refine Go.iconst (v := 0) d_Law_until_15 rfl (by decide) ?_
    exact Go.iret d_Law_until_16 rfl rfl ⟨Nat.le_refl _, fun _ => ⟨rfl, rfl⟩, fun c => absurd ht c⟩
set_option maxRecDepth 100000 in
set_option maxHeartbeats 800000 in
theorem thr_foresee {A : TA} {K : TK} {σ τ : GL} {T : TM} {F : FM} {U : TM} {G : FM} {P : CP} {x1 : Int32} {x2 : Int32} : (s_Camp_foresee A K σ τ T F U G P x1 x2).1 = 0 ∨ (s_Camp_foresee A K σ τ T F U G P x1 x2).1 = 2 ∨ (s_Camp_foresee A K σ τ T F U G P x1 x2).1 = 1 := by
  unfold s_Camp_foresee
  (repeat' split) <;> (try dsimp only) <;> first
    | exact Or.inl rfl
    | exact Or.inr (Or.inl rfl)
    | exact Or.inr (Or.inr (rfl))
    | exact (needRow_01).elim (fun q => Or.inl q) (fun q => Or.inr (Or.inr (q)))
    | exact (needWhat_01).elim (fun q => Or.inl q) (fun q => Or.inr (Or.inr (q)))
    | exact (needRange_02).elim (fun q => Or.inl q) (fun q => Or.inr (Or.inl q))
theorem d_Law_foresee_0 : decode M_Law_foresee.2.1 0 = .ok (.aload_n 3, 1) := by decide +kernel
theorem d_Law_foresee_1 : decode M_Law_foresee.2.1 1 = .ok (.iconst 0, 1) := by decide +kernel
theorem d_Law_foresee_2 : decode M_Law_foresee.2.1 2 = .ok (.aload_n 0, 1) := by decide +kernel
theorem d_Law_foresee_3 : decode M_Law_foresee.2.1 3 = .ok (.iload_n 1, 1) := by decide +kernel
theorem d_Law_foresee_4 : decode M_Law_foresee.2.1 4 = .ok (.iload_n 2, 1) := by decide +kernel
theorem d_Law_foresee_5 : decode M_Law_foresee.2.1 5 = .ok (.invokevirtual 67, 3) := by decide +kernel
theorem d_Law_foresee_8 : decode M_Law_foresee.2.1 8 = .ok (.i2l, 1) := by decide +kernel
theorem d_Law_foresee_9 : decode M_Law_foresee.2.1 9 = .ok (.lastore, 1) := by decide +kernel
theorem d_Law_foresee_10 : decode M_Law_foresee.2.1 10 = .ok (.goto 11, 3) := by decide +kernel
theorem d_Law_foresee_13 : decode M_Law_foresee.2.1 13 = .ok (.astore 4, 2) := by decide +kernel
theorem d_Law_foresee_15 : decode M_Law_foresee.2.1 15 = .ok (.iconst 1, 1) := by decide +kernel
theorem d_Law_foresee_16 : decode M_Law_foresee.2.1 16 = .ok (.ireturn, 1) := by decide +kernel
theorem d_Law_foresee_17 : decode M_Law_foresee.2.1 17 = .ok (.astore 4, 2) := by decide +kernel
theorem d_Law_foresee_19 : decode M_Law_foresee.2.1 19 = .ok (.iconst 2, 1) := by decide +kernel
theorem d_Law_foresee_20 : decode M_Law_foresee.2.1 20 = .ok (.ireturn, 1) := by decide +kernel
theorem d_Law_foresee_21 : decode M_Law_foresee.2.1 21 = .ok (.iconst 0, 1) := by decide +kernel
theorem d_Law_foresee_22 : decode M_Law_foresee.2.1 22 = .ok (.ireturn, 1) := by decide +kernel
set_option maxRecDepth 100000 in
set_option maxHeartbeats 800000 in
theorem w_foresee {Γ : G9} {sg : Nat → Nat} {sw : Nat} {ms : Nat → Nat} {h : AH} {c g g2 o o2 z : Nat} {w : Nat} {f : Nat → Int64} {A : TA} {K : TK} {σ : GL} {τ : GL} {T : TM} {F : FM} {U : TM} {G : FM} {P : CP} {x1 : Int32} {x2 : Int32} (hs : SgOk Γ sg) (hsn : SgNe sg) (hw : SwOk Γ sw) (geo : c + 7 ≤ g ∧ c + 7 ≤ g2 ∧ (g + 12 ≤ g2 ∨ g2 + 12 ≤ g) ∧ g + 12 ≤ o ∧ g + 12 ≤ o2 ∧ g2 + 12 ≤ o ∧ g2 + 12 ≤ o2 ∧ (o + 7 ≤ o2 ∨ o2 + 7 ≤ o) ∧ g + 12 ≤ w ∧ g2 + 12 ≤ w ∧ o + 7 ≤ w ∧ o2 + 7 ≤ w) (hA : ta_sz A ≤ 2000) (ho : h o = some (.inr (3, [.ref (o + 1), .ref (o + 3)]))) (ho2 : h o2 = some (.inr (3, [.ref (o2 + 1), .ref (o2 + 3)]))) (hT : T.2 ≤ 20) (hU : U.2 ≤ 20) (hW : WFG σ) (hV : WFG τ) (hms : MsOk Γ ms) (hth : ThOk Γ) (hw0 : h w = some (aJ Γ 1 f)) (hnc : NcOk Γ) : Call Γ M_Law_foresee 8 4 24 [.ref c, .int x1, .int x2, .ref w] (cw_ Γ sg h c g g2 o o2 A K σ τ T F U G P) z (fun v h2 z2 => z ≤ z2 ∧ ((s_Camp_foresee A K σ τ T F U G P x1 x2).1 = 0 → v = some (.int 0) ∧ h2 = (cw_ Γ sg (hup h w (aJ Γ 1 (vp_updL f 0 (s_Camp_foresee A K σ τ T F U G P x1 x2).2.1.toInt64))) c g g2 o o2 A K σ (s_Camp_foresee A K σ τ T F U G P x1 x2).2.2.1 T (s_Camp_foresee A K σ τ T F U G P x1 x2).2.2.2 U G P)) ∧ (¬ (s_Camp_foresee A K σ τ T F U G P x1 x2).1 = 0 → v = some (.int (if (s_Camp_foresee A K σ τ T F U G P x1 x2).1 = 2 then 1 else 2)) ∧ h2 = (cw_ Γ sg h c g g2 o o2 A K σ (s_Camp_foresee A K σ τ T F U G P x1 x2).2.2.1 T (s_Camp_foresee A K σ τ T F U G P x1 x2).2.2.2 U G P))) noX := by
  refine Call.of_go (L := [some (.ref c), some (.int x1), some (.int x2), some (.ref w), none]) (by decide +kernel) rfl (by exact Nat.le_of_ble_eq_true rfl) ?_
  refine Go.aload_3 d_Law_foresee_0 rfl ?_
  refine Go.iconst (v := 0) d_Law_foresee_1 rfl (by decide) ?_
  refine Go.aload_0 d_Law_foresee_2 rfl ?_
  refine Go.iload_1 d_Law_foresee_3 rfl ?_
  refine Go.iload_2 d_Law_foresee_4 rfl ?_
  refine Go.callV (C1 := 0) (S1 := 0) (as := [.int x1, .int x2]) d_Law_foresee_5 rfl l_Law_67 k_Camp_foresee_v rfl (cw_at_c hs hsn hw (by omega) hA ho ho2 hT hU hW hV) rfl rfl (c_Camp_foresee hs hsn hw (by omega) hA ho ho2 hT hU hW hV hms hth) (by decide) (by decide) (by decide) (by decide) (Nat.le_of_ble_eq_true rfl) (fun E h9 z9 hx hz9 => ?_) (fun v h9 z9 hx hz9 => ?_)
  · obtain ⟨ht, rfl, rfl, hz⟩ := hx
    have h3 := thr_foresee (A := A) (K := K) (σ := σ) (τ := τ) (T := T) (F := F) (U := U) (G := G) (P := P) (x1 := x1) (x2 := x2)
    rcases h3 with h3 | h3 | h3
    · exact absurd h3 ht
    · rw [show exn (s_Camp_foresee A K σ τ T F U G P x1 x2).1 = xIA from by rw [h3]; rfl]
      refine Go.catch [] ⟨0, 10, 13, 19⟩ [⟨0, 10, 17, 24⟩] rfl (fun y hy => by cases hy) (by rfl) (by decide) lk_IA ca_IA (fun q9 => ?_)
      refine Go.astore_4 d_Law_foresee_13 rfl (by rfl) ?_
      refine Go.iconst (v := 1) d_Law_foresee_15 rfl (by decide) ?_
      exact Go.iret d_Law_foresee_16 rfl rfl ⟨hz, fun c => absurd c ht, fun _ => ⟨by rw [h3]; rfl, rfl⟩⟩
    · rw [show exn (s_Camp_foresee A K σ τ T F U G P x1 x2).1 = xIO from by rw [h3]; rfl]
      refine Go.catch [⟨0, 10, 13, 19⟩] ⟨0, 10, 17, 24⟩ [] rfl (fun y hy => by
            simp only [List.mem_cons, List.not_mem_nil, or_false] at hy
            rcases hy with rfl
            · exact Or.inr ⟨by decide, xIA, lk_IA, fun U H hs => (hnc U H hs).2.2.2⟩) (by rfl) (by decide) lk_IO ca_IO (fun q9 => ?_)
      refine Go.astore_4 d_Law_foresee_17 rfl (by rfl) ?_
      refine Go.iconst (v := 2) d_Law_foresee_19 rfl (by decide) ?_
      exact Go.iret d_Law_foresee_20 rfl rfl ⟨hz, fun c => absurd c ht, fun _ => ⟨by rw [h3]; rfl, rfl⟩⟩
  · obtain ⟨ht, rfl, rfl, rfl⟩ := hx
    refine Go.i2l d_Law_foresee_8 rfl ?_
    refine Go.lastore d_Law_foresee_9 rfl ((cw_outu (by omega)).trans hw0) (show vp_in (nI 0) 1 from vp_in_nI (by decide) (by decide)) ?_
    refine Go.heq (cw_hup (by omega)) ?_
    refine Go.goto (t := 21) d_Law_foresee_10 (by decide) ?_
    refine Go.iconst (v := 0) d_Law_foresee_21 rfl (by decide) ?_
    exact Go.iret d_Law_foresee_22 rfl rfl ⟨Nat.le_refl _, fun _ => ⟨rfl, rfl⟩, fun c => absurd ht c⟩
set_option maxRecDepth 100000 in
set_option maxHeartbeats 800000 in
theorem thr_safe {A : TA} {K : TK} {σ τ : GL} {T : TM} {F : FM} {U : TM} {G : FM} {P : CP} {x1 : Int32} {x2 : Int32} : (s_Camp_safe A K σ τ T F U G P x1 x2).1 = 0 ∨ (s_Camp_safe A K σ τ T F U G P x1 x2).1 = 1 := by
  unfold s_Camp_safe
  (repeat' split) <;> (try dsimp only) <;> first
    | exact Or.inl rfl
    | exact Or.inr (rfl)
    | exact (needRow_01).elim (fun q => Or.inl q) (fun q => Or.inr (q))
    | exact (needWhat_01).elim (fun q => Or.inl q) (fun q => Or.inr (q))
theorem d_Law_safe_0 : decode M_Law_safe.2.1 0 = .ok (.aload_n 3, 1) := by decide +kernel
theorem d_Law_safe_1 : decode M_Law_safe.2.1 1 = .ok (.iconst 0, 1) := by decide +kernel
theorem d_Law_safe_2 : decode M_Law_safe.2.1 2 = .ok (.aload_n 0, 1) := by decide +kernel
theorem d_Law_safe_3 : decode M_Law_safe.2.1 3 = .ok (.iload_n 1, 1) := by decide +kernel
theorem d_Law_safe_4 : decode M_Law_safe.2.1 4 = .ok (.iload_n 2, 1) := by decide +kernel
theorem d_Law_safe_5 : decode M_Law_safe.2.1 5 = .ok (.invokevirtual 70, 3) := by decide +kernel
theorem d_Law_safe_8 : decode M_Law_safe.2.1 8 = .ok (.ifCond .eq 7, 3) := by decide +kernel
theorem d_Law_safe_11 : decode M_Law_safe.2.1 11 = .ok (.lconst 1, 1) := by decide +kernel
theorem d_Law_safe_12 : decode M_Law_safe.2.1 12 = .ok (.goto 4, 3) := by decide +kernel
theorem d_Law_safe_15 : decode M_Law_safe.2.1 15 = .ok (.lconst 0, 1) := by decide +kernel
theorem d_Law_safe_16 : decode M_Law_safe.2.1 16 = .ok (.lastore, 1) := by decide +kernel
theorem d_Law_safe_17 : decode M_Law_safe.2.1 17 = .ok (.goto 7, 3) := by decide +kernel
theorem d_Law_safe_20 : decode M_Law_safe.2.1 20 = .ok (.astore 4, 2) := by decide +kernel
theorem d_Law_safe_22 : decode M_Law_safe.2.1 22 = .ok (.iconst 1, 1) := by decide +kernel
theorem d_Law_safe_23 : decode M_Law_safe.2.1 23 = .ok (.ireturn, 1) := by decide +kernel
theorem d_Law_safe_24 : decode M_Law_safe.2.1 24 = .ok (.iconst 0, 1) := by decide +kernel
theorem d_Law_safe_25 : decode M_Law_safe.2.1 25 = .ok (.ireturn, 1) := by decide +kernel
set_option maxRecDepth 100000 in
set_option maxHeartbeats 800000 in
theorem w_safe {Γ : G9} {sg : Nat → Nat} {sw : Nat} {ms : Nat → Nat} {h : AH} {c g g2 o o2 z : Nat} {w : Nat} {f : Nat → Int64} {A : TA} {K : TK} {σ : GL} {τ : GL} {T : TM} {F : FM} {U : TM} {G : FM} {P : CP} {x1 : Int32} {x2 : Int32} (hs : SgOk Γ sg) (hsn : SgNe sg) (hw : SwOk Γ sw) (geo : c + 7 ≤ g ∧ c + 7 ≤ g2 ∧ (g + 12 ≤ g2 ∨ g2 + 12 ≤ g) ∧ g + 12 ≤ o ∧ g + 12 ≤ o2 ∧ g2 + 12 ≤ o ∧ g2 + 12 ≤ o2 ∧ (o + 7 ≤ o2 ∨ o2 + 7 ≤ o) ∧ g + 12 ≤ w ∧ g2 + 12 ≤ w ∧ o + 7 ≤ w ∧ o2 + 7 ≤ w) (hA : ta_sz A ≤ 2000) (ho : h o = some (.inr (3, [.ref (o + 1), .ref (o + 3)]))) (ho2 : h o2 = some (.inr (3, [.ref (o2 + 1), .ref (o2 + 3)]))) (hT : T.2 ≤ 20) (hU : U.2 ≤ 20) (hW : WFG σ) (hV : WFG τ) (hms : MsOk Γ ms) (hth : ThOk Γ) (hw0 : h w = some (aJ Γ 1 f)) (hnc : NcOk Γ) : Call Γ M_Law_safe 8 4 24 [.ref c, .int x1, .int x2, .ref w] (cw_ Γ sg h c g g2 o o2 A K σ τ T F U G P) z (fun v h2 z2 => z ≤ z2 ∧ ((s_Camp_safe A K σ τ T F U G P x1 x2).1 = 0 → v = some (.int 0) ∧ h2 = (cw_ Γ sg (hup h w (aJ Γ 1 (vp_updL f 0 (if (s_Camp_safe A K σ τ T F U G P x1 x2).2 = 0 then 0 else 1)))) c g g2 o o2 A K σ τ T F U G P)) ∧ (¬ (s_Camp_safe A K σ τ T F U G P x1 x2).1 = 0 → v = some (.int (1)) ∧ h2 = (cw_ Γ sg h c g g2 o o2 A K σ τ T F U G P))) noX := by
  refine Call.of_go (L := [some (.ref c), some (.int x1), some (.int x2), some (.ref w), none]) (by decide +kernel) rfl (by exact Nat.le_of_ble_eq_true rfl) ?_
  refine Go.aload_3 d_Law_safe_0 rfl ?_
  refine Go.iconst (v := 0) d_Law_safe_1 rfl (by decide) ?_
  refine Go.aload_0 d_Law_safe_2 rfl ?_
  refine Go.iload_1 d_Law_safe_3 rfl ?_
  refine Go.iload_2 d_Law_safe_4 rfl ?_
  refine Go.callV (C1 := 0) (S1 := 0) (as := [.int x1, .int x2]) d_Law_safe_5 rfl l_Law_70 k_Camp_safe_v rfl (cw_at_c hs hsn hw (by omega) hA ho ho2 hT hU hW hV) rfl rfl (c_Camp_safe hs hsn hw (by omega) hA ho ho2 hT hU hW hV hms hth) (by decide) (by decide) (by decide) (by decide) (Nat.le_of_ble_eq_true rfl) (fun E h9 z9 hx hz9 => ?_) (fun v h9 z9 hx hz9 => ?_)
  · obtain ⟨ht, rfl, rfl, hz⟩ := hx
    have h3 := thr_safe (A := A) (K := K) (σ := σ) (τ := τ) (T := T) (F := F) (U := U) (G := G) (P := P) (x1 := x1) (x2 := x2)
    rcases h3 with h3 | h3
    · exact absurd h3 ht
    · rw [show exn (s_Camp_safe A K σ τ T F U G P x1 x2).1 = xIO from by rw [h3]; rfl]
      refine Go.catch [] ⟨0, 17, 20, 24⟩ [] rfl (fun y hy => by cases hy) (by rfl) (by decide) lk_IO ca_IO (fun q9 => ?_)
      refine Go.astore_4 d_Law_safe_20 rfl (by rfl) ?_
      refine Go.iconst (v := 1) d_Law_safe_22 rfl (by decide) ?_
      exact Go.iret d_Law_safe_23 rfl rfl ⟨hz, fun c => absurd c ht, fun _ => ⟨rfl, rfl⟩⟩
  · obtain ⟨ht, rfl, rfl, rfl⟩ := hx
    refine Go.if_eq (t := 15) d_Law_safe_8 (by decide) rfl (fun c9 => ?_) (fun c9 => ?_)
    · refine Go.lconst (v := 0) d_Law_safe_15 rfl (by decide) ?_
      rw [if_pos c9]
      refine Go.lastore d_Law_safe_16 rfl ((cw_outu (by omega)).trans hw0) (show vp_in (nI 0) 1 from vp_in_nI (by decide) (by decide)) ?_
      refine Go.heq (cw_hup (by omega)) ?_
      refine Go.goto (t := 24) d_Law_safe_17 (by decide) ?_
      refine Go.iconst (v := 0) d_Law_safe_24 rfl (by decide) ?_
      exact Go.iret d_Law_safe_25 rfl rfl ⟨Nat.le_refl _, fun _ => ⟨rfl, rfl⟩, fun c => absurd ht c⟩
    · refine Go.lconst (v := 1) d_Law_safe_11 rfl (by decide) ?_
      rw [if_neg c9]
      refine Go.goto (t := 16) d_Law_safe_12 (by decide) ?_
      refine Go.lastore d_Law_safe_16 rfl ((cw_outu (by omega)).trans hw0) (show vp_in (nI 0) 1 from vp_in_nI (by decide) (by decide)) ?_
      refine Go.heq (cw_hup (by omega)) ?_
      refine Go.goto (t := 24) d_Law_safe_17 (by decide) ?_
      refine Go.iconst (v := 0) d_Law_safe_24 rfl (by decide) ?_
      exact Go.iret d_Law_safe_25 rfl rfl ⟨Nat.le_refl _, fun _ => ⟨rfl, rfl⟩, fun c => absurd ht c⟩
set_option maxRecDepth 100000 in
set_option maxHeartbeats 800000 in
theorem thr_advise {A : TA} {K : TK} {σ τ : GL} {T : TM} {F : FM} {U : TM} {G : FM} {P : CP} {x1 : Int32} {x2 : Int32} : (s_Camp_advise A K σ τ T F U G P x1 x2).1 = 0 ∨ (s_Camp_advise A K σ τ T F U G P x1 x2).1 = 1 ∨ (s_Camp_advise A K σ τ T F U G P x1 x2).1 = 2 ∨ (s_Camp_advise A K σ τ T F U G P x1 x2).1 = 3 := by
  unfold s_Camp_advise
  (repeat' split) <;> (try dsimp only) <;> first
    | exact Or.inl rfl
    | exact Or.inr (Or.inl rfl)
    | exact Or.inr (Or.inr (Or.inl rfl))
    | exact Or.inr (Or.inr (Or.inr (rfl)))
    | exact (needRow_01).elim (fun q => Or.inl q) (fun q => Or.inr (Or.inl q))
    | exact (needWhat_01).elim (fun q => Or.inl q) (fun q => Or.inr (Or.inl q))
    | exact (needRange_02).elim (fun q => Or.inl q) (fun q => Or.inr (Or.inr (Or.inl q)))
theorem d_Law_advise_0 : decode M_Law_advise.2.1 0 = .ok (.aload_n 3, 1) := by decide +kernel
theorem d_Law_advise_1 : decode M_Law_advise.2.1 1 = .ok (.iconst 0, 1) := by decide +kernel
theorem d_Law_advise_2 : decode M_Law_advise.2.1 2 = .ok (.aload_n 0, 1) := by decide +kernel
theorem d_Law_advise_3 : decode M_Law_advise.2.1 3 = .ok (.iload_n 1, 1) := by decide +kernel
theorem d_Law_advise_4 : decode M_Law_advise.2.1 4 = .ok (.iload_n 2, 1) := by decide +kernel
theorem d_Law_advise_5 : decode M_Law_advise.2.1 5 = .ok (.invokevirtual 74, 3) := by decide +kernel
theorem d_Law_advise_8 : decode M_Law_advise.2.1 8 = .ok (.i2l, 1) := by decide +kernel
theorem d_Law_advise_9 : decode M_Law_advise.2.1 9 = .ok (.lastore, 1) := by decide +kernel
theorem d_Law_advise_10 : decode M_Law_advise.2.1 10 = .ok (.goto 15, 3) := by decide +kernel
theorem d_Law_advise_13 : decode M_Law_advise.2.1 13 = .ok (.astore 4, 2) := by decide +kernel
theorem d_Law_advise_15 : decode M_Law_advise.2.1 15 = .ok (.iconst 1, 1) := by decide +kernel
theorem d_Law_advise_16 : decode M_Law_advise.2.1 16 = .ok (.ireturn, 1) := by decide +kernel
theorem d_Law_advise_17 : decode M_Law_advise.2.1 17 = .ok (.astore 4, 2) := by decide +kernel
theorem d_Law_advise_19 : decode M_Law_advise.2.1 19 = .ok (.iconst 2, 1) := by decide +kernel
theorem d_Law_advise_20 : decode M_Law_advise.2.1 20 = .ok (.ireturn, 1) := by decide +kernel
theorem d_Law_advise_21 : decode M_Law_advise.2.1 21 = .ok (.astore 4, 2) := by decide +kernel
theorem d_Law_advise_23 : decode M_Law_advise.2.1 23 = .ok (.iconst 3, 1) := by decide +kernel
theorem d_Law_advise_24 : decode M_Law_advise.2.1 24 = .ok (.ireturn, 1) := by decide +kernel
theorem d_Law_advise_25 : decode M_Law_advise.2.1 25 = .ok (.iconst 0, 1) := by decide +kernel
theorem d_Law_advise_26 : decode M_Law_advise.2.1 26 = .ok (.ireturn, 1) := by decide +kernel
set_option maxRecDepth 100000 in
set_option maxHeartbeats 800000 in
theorem w_advise {Γ : G9} {sg : Nat → Nat} {sw : Nat} {ms : Nat → Nat} {h : AH} {c g g2 o o2 z : Nat} {w : Nat} {f : Nat → Int64} {A : TA} {K : TK} {σ : GL} {τ : GL} {T : TM} {F : FM} {U : TM} {G : FM} {P : CP} {x1 : Int32} {x2 : Int32} (hs : SgOk Γ sg) (hsn : SgNe sg) (hw : SwOk Γ sw) (geo : c + 7 ≤ g ∧ c + 7 ≤ g2 ∧ (g + 12 ≤ g2 ∨ g2 + 12 ≤ g) ∧ g + 12 ≤ o ∧ g + 12 ≤ o2 ∧ g2 + 12 ≤ o ∧ g2 + 12 ≤ o2 ∧ (o + 7 ≤ o2 ∨ o2 + 7 ≤ o) ∧ g + 12 ≤ w ∧ g2 + 12 ≤ w ∧ o + 7 ≤ w ∧ o2 + 7 ≤ w) (hA : ta_sz A ≤ 2000) (ho : h o = some (.inr (3, [.ref (o + 1), .ref (o + 3)]))) (ho2 : h o2 = some (.inr (3, [.ref (o2 + 1), .ref (o2 + 3)]))) (hT : T.2 ≤ 20) (hU : U.2 ≤ 20) (hW : WFG σ) (hV : WFG τ) (hms : MsOk Γ ms) (hth : ThOk Γ) (hw0 : h w = some (aJ Γ 1 f)) (hnc : NcOk Γ) : Call Γ M_Law_advise 8 4 24 [.ref c, .int x1, .int x2, .ref w] (cw_ Γ sg h c g g2 o o2 A K σ τ T F U G P) z (fun v h2 z2 => z ≤ z2 ∧ ((s_Camp_advise A K σ τ T F U G P x1 x2).1 = 0 → v = some (.int 0) ∧ h2 = (cw_ Γ sg (hup h w (aJ Γ 1 (vp_updL f 0 (s_Camp_advise A K σ τ T F U G P x1 x2).2.1.toInt64))) c g g2 o o2 A K σ (s_Camp_advise A K σ τ T F U G P x1 x2).2.2.1 T (s_Camp_advise A K σ τ T F U G P x1 x2).2.2.2 U G P)) ∧ (¬ (s_Camp_advise A K σ τ T F U G P x1 x2).1 = 0 → v = some (.int (if (s_Camp_advise A K σ τ T F U G P x1 x2).1 = 1 then 1 else if (s_Camp_advise A K σ τ T F U G P x1 x2).1 = 2 then 2 else 3)) ∧ h2 = (cw_ Γ sg h c g g2 o o2 A K σ (s_Camp_advise A K σ τ T F U G P x1 x2).2.2.1 T (s_Camp_advise A K σ τ T F U G P x1 x2).2.2.2 U G P))) noX := by
  refine Call.of_go (L := [some (.ref c), some (.int x1), some (.int x2), some (.ref w), none]) (by decide +kernel) rfl (by exact Nat.le_of_ble_eq_true rfl) ?_
  refine Go.aload_3 d_Law_advise_0 rfl ?_
  refine Go.iconst (v := 0) d_Law_advise_1 rfl (by decide) ?_
  refine Go.aload_0 d_Law_advise_2 rfl ?_
  refine Go.iload_1 d_Law_advise_3 rfl ?_
  refine Go.iload_2 d_Law_advise_4 rfl ?_
  refine Go.callV (C1 := 0) (S1 := 0) (as := [.int x1, .int x2]) d_Law_advise_5 rfl l_Law_74 k_Camp_advise_v rfl (cw_at_c hs hsn hw (by omega) hA ho ho2 hT hU hW hV) rfl rfl (c_Camp_advise hs hsn hw (by omega) hA ho ho2 hT hU hW hV hms hth) (by decide) (by decide) (by decide) (by decide) (Nat.le_of_ble_eq_true rfl) (fun E h9 z9 hx hz9 => ?_) (fun v h9 z9 hx hz9 => ?_)
  · obtain ⟨ht, rfl, rfl, hz⟩ := hx
    have h3 := thr_advise (A := A) (K := K) (σ := σ) (τ := τ) (T := T) (F := F) (U := U) (G := G) (P := P) (x1 := x1) (x2 := x2)
    rcases h3 with h3 | h3 | h3 | h3
    · exact absurd h3 ht
    · rw [show exn (s_Camp_advise A K σ τ T F U G P x1 x2).1 = xIO from by rw [h3]; rfl]
      refine Go.catch [] ⟨0, 10, 13, 24⟩ [⟨0, 10, 17, 19⟩, ⟨0, 10, 21, 13⟩] rfl (fun y hy => by cases hy) (by rfl) (by decide) lk_IO ca_IO (fun q9 => ?_)
      refine Go.astore_4 d_Law_advise_13 rfl (by rfl) ?_
      refine Go.iconst (v := 1) d_Law_advise_15 rfl (by decide) ?_
      exact Go.iret d_Law_advise_16 rfl rfl ⟨hz, fun c => absurd c ht, fun _ => ⟨by rw [h3]; rfl, rfl⟩⟩
    · rw [show exn (s_Camp_advise A K σ τ T F U G P x1 x2).1 = xIA from by rw [h3]; rfl]
      refine Go.catch [⟨0, 10, 13, 24⟩] ⟨0, 10, 17, 19⟩ [⟨0, 10, 21, 13⟩] rfl (fun y hy => by
            simp only [List.mem_cons, List.not_mem_nil, or_false] at hy
            rcases hy with rfl
            · exact Or.inr ⟨by decide, xIO, lk_IO, fun U H hs => (hnc U H hs).2.1⟩) (by rfl) (by decide) lk_IA ca_IA (fun q9 => ?_)
      refine Go.astore_4 d_Law_advise_17 rfl (by rfl) ?_
      refine Go.iconst (v := 2) d_Law_advise_19 rfl (by decide) ?_
      exact Go.iret d_Law_advise_20 rfl rfl ⟨hz, fun c => absurd c ht, fun _ => ⟨by rw [h3]; rfl, rfl⟩⟩
    · rw [show exn (s_Camp_advise A K σ τ T F U G P x1 x2).1 = xIS from by rw [h3]; rfl]
      refine Go.catch [⟨0, 10, 13, 24⟩, ⟨0, 10, 17, 19⟩] ⟨0, 10, 21, 13⟩ [] rfl (fun y hy => by
            simp only [List.mem_cons, List.not_mem_nil, or_false] at hy
            rcases hy with rfl | rfl
            · exact Or.inr ⟨by decide, xIO, lk_IO, fun U H hs => (hnc U H hs).1⟩
            · exact Or.inr ⟨by decide, xIA, lk_IA, fun U H hs => (hnc U H hs).2.2.1⟩) (by rfl) (by decide) lk_IS ca_IS (fun q9 => ?_)
      refine Go.astore_4 d_Law_advise_21 rfl (by rfl) ?_
      refine Go.iconst (v := 3) d_Law_advise_23 rfl (by decide) ?_
      exact Go.iret d_Law_advise_24 rfl rfl ⟨hz, fun c => absurd c ht, fun _ => ⟨by rw [h3]; rfl, rfl⟩⟩
  · obtain ⟨ht, rfl, rfl, rfl⟩ := hx
    refine Go.i2l d_Law_advise_8 rfl ?_
    refine Go.lastore d_Law_advise_9 rfl ((cw_outu (by omega)).trans hw0) (show vp_in (nI 0) 1 from vp_in_nI (by decide) (by decide)) ?_
    refine Go.heq (cw_hup (by omega)) ?_
    refine Go.goto (t := 25) d_Law_advise_10 (by decide) ?_
    refine Go.iconst (v := 0) d_Law_advise_25 rfl (by decide) ?_
    exact Go.iret d_Law_advise_26 rfl rfl ⟨Nat.le_refl _, fun _ => ⟨rfl, rfl⟩, fun c => absurd ht c⟩
