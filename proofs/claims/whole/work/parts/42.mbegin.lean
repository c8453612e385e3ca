/-! the reference: a list that is taken over -/
theorem md_hup {Γ : G9} {h : AH} {m q r sa sb ro z : Nat} {M : MO} {H : SH} {Y : SX} {e : va_E} (geo : m + 2 ≤ q ∧ m + 2 ≤ r ∧ (q + 24 ≤ r ∨ r + 21 ≤ q)) (hz : q + 24 ≤ z ∧ r + 21 ≤ z) : hup (md_ Γ h m q r sa sb ro M H Y) z e = md_ Γ (hup h z e) m q r sa sb ro M H Y := by
  unfold md_
  rw [hup_blk (by omega), hup_blk (by omega), hup_blk (by omega)]
theorem md_outz {Γ : G9} {h : AH} {m q r sa sb ro z : Nat} {M : MO} {H : SH} {Y : SX} (geo : m + 2 ≤ q ∧ m + 2 ≤ r ∧ (q + 24 ≤ r ∨ r + 21 ≤ q)) (hz : q + 24 ≤ z ∧ r + 21 ≤ z) : md_ Γ h m q r sa sb ro M H Y z = h z := by
  unfold md_
  rw [blk_out (by omega), blk_out (by omega), blk_out (by omega)]
theorem md_hup2 {Γ : G9} {h : AH} {m q r sa sb ro z : Nat} {M : MO} {H : SH} {Y : SX} {e e' : va_E} (geo : m + 2 ≤ q ∧ m + 2 ≤ r ∧ (q + 24 ≤ r ∨ r + 21 ≤ q)) (hz : q + 24 ≤ z ∧ r + 21 ≤ z) : hup (md_ Γ (hup h z e) m q r sa sb ro M H Y) z e' = md_ Γ (hup h z e') m q r sa sb ro M H Y := by
  rw [md_hup geo hz, hup_hup]
theorem Go.aaldB {Γ : G9} {M : MI} {d C S pc q : Nat} {L : List (Option Value)} {st : List Value} {h : AH} {z : Nat} {Q : QT} {X : XT} {a n b : Nat} {f : Nat → Option Nat} {i : Int32} (hd : decode M.2.1 pc = .ok (.aaload, 1)) (hq : pc + 1 = q) (ho : h a = some (aA Γ n f)) (hin : vp_in i n) (hv : f i.toNatClampNeg = some b) (kk : Go Γ M d C S q L (.ref b :: st) h z Q X) : Go Γ M d C S pc L (.int i :: .ref a :: st) h z Q X :=
  Go.aaldA hd hq ho hin (by rw [hv]; exact kk)
/-- a class method of a class of the same nest -/
theorem Go.callSN {Γ : G9} {M : MI} {d C S pc q : Nat} {L : List (Option Value)} {st : List Value} {h : AH} {z : Nat} {Q : QT} {X : XT} {M' : MI} {n d' C' S' C1 S1 idx : Nat} {host : String} {Q' : QT} {X' : XT} {as rest : List Value} (hd : decode M.2.1 pc = .ok (.invokestatic idx, 3)) (hq : pc + 3 = q) (lk : Cond.methodLinkNest M.1.cls idx M'.1 host ∈ nw) (ok : OkS M' n) (hh : M'.2.2.2.2 = []) (hn : as.length = n) (hst : st = as.reverse ++ rest)
    (hc : Call Γ M' d' C' S' as h z Q' X') (hd' : d' + 1 ≤ d) (hml : M'.2.2.1 ≤ 21) (hC : C' + C1 ≤ C) (hS : S' + S1 ≤ S) (hw : (rest.map fun v => v.category).sum ≤ 8)
    (kx : ∀ E h' z', X' E h' z' → z ≤ z' → GoX Γ M d C1 S1 pc L E h' z' Q X) (kk : ∀ v h' z', Q' v h' z' → z ≤ z' → Go Γ M d C1 S1 q L (v.toList ++ rest) h' z' Q X) : Go Γ M d C S pc L st h z Q X := by
  subst hq
  refine Go.after (Q' := Q') (X' := X') (C' := C') (S' := S') (av := as.toArray) (rest := rest) (fun p e R s m args below meth c H locs cells slots ls Z hx => ?_) hC hS kx kk
  obtain ⟨r1, r2, r3, r4⟩ := hx.2.1
  have hts := hx.1.2.2.2.2.2.1
  have hH := hx.2.2.1
  obtain ⟨⟨g1, g2, g3, g4, g5⟩, g6⟩ := ok
  have g1' := g1
  rw [mi_w_nil hh] at g1
  have hlo : 8 + (M'.2.2.1 + 11) + 40 * d' ≤ R.locals := by omega
  have hlen : ∀ sig, parseMethodDescriptor M'.1.desc = some sig → n = sig.parameters.length := fun sig hsig => by
    rw [hsig] at g5
    exact (Option.some.inj g5).symm
  exact vx_runSN (As := as) (n := n) (Ts := gw) (own := M.1.cls) (host := host) (maxL := M'.2.2.1) (bytes := M'.2.1) ⟨hx.1.1, hx.1.2.1, hx.1.2.2.1, hx.1.2.2.2.2.1, hts⟩ hc ⟨⟨⟨rfl, rfl, (show d' + 1 ≤ R.frames by omega), hlo, gw_pay hts g1', by rw [mi_w_nil hh]; exact List.mem_cons_self⟩, hts _ g1, hts _ g2, ⟨g3, g4⟩, hlen, va_Nw.use rfl (hH.1.2.2.2.2.2 _ lk)⟩, hts _ g6, trivial⟩ ⟨blindP, fun U hU hW => startP hH hx.2.2.2.1 hU hW⟩ rfl hn (by rw [hx.2.2.2.2.1.1]) hst (lv_room hw) hd ⟨by omega, by omega⟩
theorem Go.cs2vN {Γ : G9} {M : MI} {d C S pc q : Nat} {L : List (Option Value)} {st : List Value} {h : AH} {z : Nat} {Q : QT} {X : XT} {M' : MI} {d' idx : Nat} {host : String} {h2 : AH} {a1 a2 : Value} (hd : decode M.2.1 pc = .ok (.invokestatic idx, 3)) (hq : pc + 3 = q) (lk : Cond.methodLinkNest M.1.cls idx M'.1 host ∈ nw) (ok : OkS M' 2) (hh : M'.2.2.2.2 = []) (hc : CallR Γ M' d' [a1, a2] h z (none) h2) (hd' : Nat.ble (d' + 1) d = true) (hml : Nat.ble M'.2.2.1 21 = true) (hw : Nat.ble (st.map fun v => v.category).sum 8 = true) (kk : Go Γ M d C S q L st h2 z Q X) : Go Γ M d C S pc L (a2 :: a1 :: st) h z Q X :=
  Go.callSN (C1 := C) (S1 := S) (as := [a1, a2]) hd hq lk ok hh rfl rfl hc (Nat.le_of_ble_eq_true hd') (Nat.le_of_ble_eq_true hml) (Nat.le_of_eq (Nat.zero_add C)) (Nat.le_of_eq (Nat.zero_add S)) (Nat.le_of_ble_eq_true hw) (fun E h' z' hx _ => hx.elim) (fun v h' z' hx _ => by obtain ⟨rfl, rfl, rfl⟩ := hx; exact kk)
theorem ms_put_r_readings {Γ : G9} {h : AH} {m q r sb ro : Nat} {M : MO} {H : SH} {Y : SX} {v : Int32} (geo : m + 2 ≤ q ∧ m + 2 ≤ r ∧ (q + 24 ≤ r ∨ r + 21 ≤ q)) (hB : sh_ha H 0 ≤ 5) (hS : sh_ha H 3 ≤ 6) (hC : sh_ha H 6 ≤ 4) (hD : sh_ha H 9 ≤ 4) (hE : sh_ha H 11 ≤ 4) : hup (md_ Γ h m q r r sb ro M H Y) r (.inr (10, [.int (nI (sx_dy Y)), .int (sx_rd Y), .int (sx_fa Y), .int (sx_ca Y), .ref (r + 1), .ref (r + 2), .ref (r + 3), .ref (r + 4), .ref (r + 5), .ref (r + 6), .ref (r + 7), .ref (r + 8), .ref (r + 9), .ref (r + 10), .ref (r + 11), .ref (r + 12), .ref (r + 13), .ref (r + 14), .ref (r + 15), .ref (r + 16), .ref (r + 17), .ref (r + 18), .ref (r + 19), .ref (r + 20)].set 1 (.int v))) = (md_ Γ h m q r r sb ro M H (sx_rd' Y v)) := by
  unfold md_
  exact (sx_p_rd (v := v))
theorem ms_put_r_falls {Γ : G9} {h : AH} {m q r sb ro : Nat} {M : MO} {H : SH} {Y : SX} {v : Int32} (geo : m + 2 ≤ q ∧ m + 2 ≤ r ∧ (q + 24 ≤ r ∨ r + 21 ≤ q)) (hB : sh_ha H 0 ≤ 5) (hS : sh_ha H 3 ≤ 6) (hC : sh_ha H 6 ≤ 4) (hD : sh_ha H 9 ≤ 4) (hE : sh_ha H 11 ≤ 4) : hup (md_ Γ h m q r r sb ro M H Y) r (.inr (10, [.int (nI (sx_dy Y)), .int (sx_rd Y), .int (sx_fa Y), .int (sx_ca Y), .ref (r + 1), .ref (r + 2), .ref (r + 3), .ref (r + 4), .ref (r + 5), .ref (r + 6), .ref (r + 7), .ref (r + 8), .ref (r + 9), .ref (r + 10), .ref (r + 11), .ref (r + 12), .ref (r + 13), .ref (r + 14), .ref (r + 15), .ref (r + 16), .ref (r + 17), .ref (r + 18), .ref (r + 19), .ref (r + 20)].set 2 (.int v))) = (md_ Γ h m q r r sb ro M H (sx_fa' Y v)) := by
  unfold md_
  exact (sx_p_fa (v := v))
theorem ms_put_r_carried {Γ : G9} {h : AH} {m q r sb ro : Nat} {M : MO} {H : SH} {Y : SX} {v : Int32} (geo : m + 2 ≤ q ∧ m + 2 ≤ r ∧ (q + 24 ≤ r ∨ r + 21 ≤ q)) (hB : sh_ha H 0 ≤ 5) (hS : sh_ha H 3 ≤ 6) (hC : sh_ha H 6 ≤ 4) (hD : sh_ha H 9 ≤ 4) (hE : sh_ha H 11 ≤ 4) : hup (md_ Γ h m q r r sb ro M H Y) r (.inr (10, [.int (nI (sx_dy Y)), .int (sx_rd Y), .int (sx_fa Y), .int (sx_ca Y), .ref (r + 1), .ref (r + 2), .ref (r + 3), .ref (r + 4), .ref (r + 5), .ref (r + 6), .ref (r + 7), .ref (r + 8), .ref (r + 9), .ref (r + 10), .ref (r + 11), .ref (r + 12), .ref (r + 13), .ref (r + 14), .ref (r + 15), .ref (r + 16), .ref (r + 17), .ref (r + 18), .ref (r + 19), .ref (r + 20)].set 3 (.int v))) = (md_ Γ h m q r r sb ro M H (sx_ca' Y v)) := by
  unfold md_
  exact (sx_p_ca (v := v))
theorem ms_at_q_18 {Γ : G9} {h : AH} {m q r sb ro : Nat} {M : MO} {H : SH} {Y : SX} (geo : m + 2 ≤ q ∧ m + 2 ≤ r ∧ (q + 24 ≤ r ∨ r + 21 ≤ q)) (hB : sh_ha H 0 ≤ 5) (hS : sh_ha H 3 ≤ 6) (hC : sh_ha H 6 ≤ 4) (hD : sh_ha H 9 ≤ 4) (hE : sh_ha H 11 ≤ 4) : (md_ Γ h m q r r sb ro M H Y) (q + 18) = some (aI Γ 8 (sh_wa H)) := by
  unfold md_
  exact ((blk_out (by omega)).trans (sh_g18))
theorem ms_at_q_8 {Γ : G9} {h : AH} {m q r sb ro : Nat} {M : MO} {H : SH} {Y : SX} (geo : m + 2 ≤ q ∧ m + 2 ≤ r ∧ (q + 24 ≤ r ∨ r + 21 ≤ q)) (hB : sh_ha H 0 ≤ 5) (hS : sh_ha H 3 ≤ 6) (hC : sh_ha H 6 ≤ 4) (hD : sh_ha H 9 ≤ 4) (hE : sh_ha H 11 ≤ 4) : (md_ Γ h m q r r sb ro M H Y) (q + 8) = some (aI Γ 5 (sh_sn H)) := by
  unfold md_
  exact ((blk_out (by omega)).trans (sh_g8))
theorem ms_arr_r_2 {Γ : G9} {h : AH} {m q r sb ro : Nat} {M : MO} {H : SH} {Y : SX} {v : Nat → Int32} (geo : m + 2 ≤ q ∧ m + 2 ≤ r ∧ (q + 24 ≤ r ∨ r + 21 ≤ q)) (hB : sh_ha H 0 ≤ 5) (hS : sh_ha H 3 ≤ 6) (hC : sh_ha H 6 ≤ 4) (hD : sh_ha H 9 ≤ 4) (hE : sh_ha H 11 ≤ 4) : hup (md_ Γ h m q r r sb ro M H Y) (r + 2) (aI Γ 5 v) = (md_ Γ h m q r r sb ro M H (sx_sn' Y v)) := by
  unfold md_
  exact (sx_a_sn (v := v))
theorem ms_at_q_12 {Γ : G9} {h : AH} {m q r sb ro : Nat} {M : MO} {H : SH} {Y : SX} (geo : m + 2 ≤ q ∧ m + 2 ≤ r ∧ (q + 24 ≤ r ∨ r + 21 ≤ q)) (hB : sh_ha H 0 ≤ 5) (hS : sh_ha H 3 ≤ 6) (hC : sh_ha H 6 ≤ 4) (hD : sh_ha H 9 ≤ 4) (hE : sh_ha H 11 ≤ 4) : (md_ Γ h m q r r sb ro M H Y) (q + 12) = some (aI Γ 4 (sh_br H)) := by
  unfold md_
  exact ((blk_out (by omega)).trans (sh_g12))
theorem ms_arr_r_8 {Γ : G9} {h : AH} {m q r sb ro : Nat} {M : MO} {H : SH} {Y : SX} {v : Nat → Int32} (geo : m + 2 ≤ q ∧ m + 2 ≤ r ∧ (q + 24 ≤ r ∨ r + 21 ≤ q)) (hB : sh_ha H 0 ≤ 5) (hS : sh_ha H 3 ≤ 6) (hC : sh_ha H 6 ≤ 4) (hD : sh_ha H 9 ≤ 4) (hE : sh_ha H 11 ≤ 4) : hup (md_ Γ h m q r r sb ro M H Y) (r + 8) (aI Γ 4 v) = (md_ Γ h m q r r sb ro M H (sx_br' Y v)) := by
  unfold md_
  exact (sx_a_br (v := v))
theorem ms_at_q_14 {Γ : G9} {h : AH} {m q r sb ro : Nat} {M : MO} {H : SH} {Y : SX} (geo : m + 2 ≤ q ∧ m + 2 ≤ r ∧ (q + 24 ≤ r ∨ r + 21 ≤ q)) (hB : sh_ha H 0 ≤ 5) (hS : sh_ha H 3 ≤ 6) (hC : sh_ha H 6 ≤ 4) (hD : sh_ha H 9 ≤ 4) (hE : sh_ha H 11 ≤ 4) : (md_ Γ h m q r r sb ro M H Y) (q + 14) = some (aI Γ 4 (sh_fo H)) := by
  unfold md_
  exact ((blk_out (by omega)).trans (sh_g14))
theorem ms_at_q_17 {Γ : G9} {h : AH} {m q r sb ro : Nat} {M : MO} {H : SH} {Y : SX} (geo : m + 2 ≤ q ∧ m + 2 ≤ r ∧ (q + 24 ≤ r ∨ r + 21 ≤ q)) (hB : sh_ha H 0 ≤ 5) (hS : sh_ha H 3 ≤ 6) (hC : sh_ha H 6 ≤ 4) (hD : sh_ha H 9 ≤ 4) (hE : sh_ha H 11 ≤ 4) : (md_ Γ h m q r r sb ro M H Y) (q + 17) = some (aI Γ 4 (sh_sk H)) := by
  unfold md_
  exact ((blk_out (by omega)).trans (sh_g17))
theorem ms_arr_r_14 {Γ : G9} {h : AH} {m q r sb ro : Nat} {M : MO} {H : SH} {Y : SX} {v : Nat → Int32} (geo : m + 2 ≤ q ∧ m + 2 ≤ r ∧ (q + 24 ≤ r ∨ r + 21 ≤ q)) (hB : sh_ha H 0 ≤ 5) (hS : sh_ha H 3 ≤ 6) (hC : sh_ha H 6 ≤ 4) (hD : sh_ha H 9 ≤ 4) (hE : sh_ha H 11 ≤ 4) : hup (md_ Γ h m q r r sb ro M H Y) (r + 14) (aI Γ 4 v) = (md_ Γ h m q r r sb ro M H (sx_sk' Y v)) := by
  unfold md_
  exact (sx_a_sk (v := v))
theorem ms_at_q_15 {Γ : G9} {h : AH} {m q r sb ro : Nat} {M : MO} {H : SH} {Y : SX} (geo : m + 2 ≤ q ∧ m + 2 ≤ r ∧ (q + 24 ≤ r ∨ r + 21 ≤ q)) (hB : sh_ha H 0 ≤ 5) (hS : sh_ha H 3 ≤ 6) (hC : sh_ha H 6 ≤ 4) (hD : sh_ha H 9 ≤ 4) (hE : sh_ha H 11 ≤ 4) : (md_ Γ h m q r r sb ro M H Y) (q + 15) = some (aI Γ 4 (sh_ti H)) := by
  unfold md_
  exact ((blk_out (by omega)).trans (sh_g15))
theorem ms_arr_r_15 {Γ : G9} {h : AH} {m q r sb ro : Nat} {M : MO} {H : SH} {Y : SX} {v : Nat → Int32} (geo : m + 2 ≤ q ∧ m + 2 ≤ r ∧ (q + 24 ≤ r ∨ r + 21 ≤ q)) (hB : sh_ha H 0 ≤ 5) (hS : sh_ha H 3 ≤ 6) (hC : sh_ha H 6 ≤ 4) (hD : sh_ha H 9 ≤ 4) (hE : sh_ha H 11 ≤ 4) : hup (md_ Γ h m q r r sb ro M H Y) (r + 15) (aI Γ 4 v) = (md_ Γ h m q r r sb ro M H (sx_pl' Y v)) := by
  unfold md_
  exact (sx_a_pl (v := v))
theorem ms_arr_r_3 {Γ : G9} {h : AH} {m q r sb ro : Nat} {M : MO} {H : SH} {Y : SX} {v : Nat → Int32} (geo : m + 2 ≤ q ∧ m + 2 ≤ r ∧ (q + 24 ≤ r ∨ r + 21 ≤ q)) (hB : sh_ha H 0 ≤ 5) (hS : sh_ha H 3 ≤ 6) (hC : sh_ha H 6 ≤ 4) (hD : sh_ha H 9 ≤ 4) (hE : sh_ha H 11 ≤ 4) : hup (md_ Γ h m q r r sb ro M H Y) (r + 3) (aI Γ 5 v) = (md_ Γ h m q r r sb ro M H (sx_ic' Y v)) := by
  unfold md_
  exact (sx_a_ic (v := v))
theorem ms_arr_r_4 {Γ : G9} {h : AH} {m q r sb ro : Nat} {M : MO} {H : SH} {Y : SX} {v : Nat → Int32} (geo : m + 2 ≤ q ∧ m + 2 ≤ r ∧ (q + 24 ≤ r ∨ r + 21 ≤ q)) (hB : sh_ha H 0 ≤ 5) (hS : sh_ha H 3 ≤ 6) (hC : sh_ha H 6 ≤ 4) (hD : sh_ha H 9 ≤ 4) (hE : sh_ha H 11 ≤ 4) : hup (md_ Γ h m q r r sb ro M H Y) (r + 4) (aI Γ 6 v) = (md_ Γ h m q r r sb ro M H (sx_ou' Y v)) := by
  unfold md_
  exact (sx_a_ou (v := v))
theorem ms_arr_r_7 {Γ : G9} {h : AH} {m q r sb ro : Nat} {M : MO} {H : SH} {Y : SX} {v : Nat → Int32} (geo : m + 2 ≤ q ∧ m + 2 ≤ r ∧ (q + 24 ≤ r ∨ r + 21 ≤ q)) (hB : sh_ha H 0 ≤ 5) (hS : sh_ha H 3 ≤ 6) (hC : sh_ha H 6 ≤ 4) (hD : sh_ha H 9 ≤ 4) (hE : sh_ha H 11 ≤ 4) : hup (md_ Γ h m q r r sb ro M H Y) (r + 7) (aI Γ 6 v) = (md_ Γ h m q r r sb ro M H (sx_re' Y v)) := by
  unfold md_
  exact (sx_a_re (v := v))
theorem ms_arr_r_9 {Γ : G9} {h : AH} {m q r sb ro : Nat} {M : MO} {H : SH} {Y : SX} {v : Nat → Int32} (geo : m + 2 ≤ q ∧ m + 2 ≤ r ∧ (q + 24 ≤ r ∨ r + 21 ≤ q)) (hB : sh_ha H 0 ≤ 5) (hS : sh_ha H 3 ≤ 6) (hC : sh_ha H 6 ≤ 4) (hD : sh_ha H 9 ≤ 4) (hE : sh_ha H 11 ≤ 4) : hup (md_ Γ h m q r r sb ro M H Y) (r + 9) (aI Γ 4 v) = (md_ Γ h m q r r sb ro M H (sx_kn' Y v)) := by
  unfold md_
  exact (sx_a_kn (v := v))
theorem ms_arr_r_11 {Γ : G9} {h : AH} {m q r sb ro : Nat} {M : MO} {H : SH} {Y : SX} {v : Nat → Int32} (geo : m + 2 ≤ q ∧ m + 2 ≤ r ∧ (q + 24 ≤ r ∨ r + 21 ≤ q)) (hB : sh_ha H 0 ≤ 5) (hS : sh_ha H 3 ≤ 6) (hC : sh_ha H 6 ≤ 4) (hD : sh_ha H 9 ≤ 4) (hE : sh_ha H 11 ≤ 4) : hup (md_ Γ h m q r r sb ro M H Y) (r + 11) (aI Γ 4 v) = (md_ Γ h m q r r sb ro M H (sx_cr' Y v)) := by
  unfold md_
  exact (sx_a_cr (v := v))
theorem ms_arr_r_12 {Γ : G9} {h : AH} {m q r sb ro : Nat} {M : MO} {H : SH} {Y : SX} {v : Nat → Int32} (geo : m + 2 ≤ q ∧ m + 2 ≤ r ∧ (q + 24 ≤ r ∨ r + 21 ≤ q)) (hB : sh_ha H 0 ≤ 5) (hS : sh_ha H 3 ≤ 6) (hC : sh_ha H 6 ≤ 4) (hD : sh_ha H 9 ≤ 4) (hE : sh_ha H 11 ≤ 4) : hup (md_ Γ h m q r r sb ro M H Y) (r + 12) (aI Γ 4 v) = (md_ Γ h m q r r sb ro M H (sx_fe' Y v)) := by
  unfold md_
  exact (sx_a_fe (v := v))
theorem ms_arr_r_16 {Γ : G9} {h : AH} {m q r sb ro : Nat} {M : MO} {H : SH} {Y : SX} {v : Nat → Int32} (geo : m + 2 ≤ q ∧ m + 2 ≤ r ∧ (q + 24 ≤ r ∨ r + 21 ≤ q)) (hB : sh_ha H 0 ≤ 5) (hS : sh_ha H 3 ≤ 6) (hC : sh_ha H 6 ≤ 4) (hD : sh_ha H 9 ≤ 4) (hE : sh_ha H 11 ≤ 4) : hup (md_ Γ h m q r r sb ro M H Y) (r + 16) (aI Γ 4 v) = (md_ Γ h m q r r sb ro M H (sx_hu' Y v)) := by
  unfold md_
  exact (sx_a_hu (v := v))
theorem ms_arr_r_18 {Γ : G9} {h : AH} {m q r sb ro : Nat} {M : MO} {H : SH} {Y : SX} {v : Nat → Int32} (geo : m + 2 ≤ q ∧ m + 2 ≤ r ∧ (q + 24 ≤ r ∨ r + 21 ≤ q)) (hB : sh_ha H 0 ≤ 5) (hS : sh_ha H 3 ≤ 6) (hC : sh_ha H 6 ≤ 4) (hD : sh_ha H 9 ≤ 4) (hE : sh_ha H 11 ≤ 4) : hup (md_ Γ h m q r r sb ro M H Y) (r + 18) (aI Γ 4 v) = (md_ Γ h m q r r sb ro M H (sx_ma' Y v)) := by
  unfold md_
  exact (sx_a_ma (v := v))
theorem ms_arr_r_19 {Γ : G9} {h : AH} {m q r sb ro : Nat} {M : MO} {H : SH} {Y : SX} {v : Nat → Int32} (geo : m + 2 ≤ q ∧ m + 2 ≤ r ∧ (q + 24 ≤ r ∨ r + 21 ≤ q)) (hB : sh_ha H 0 ≤ 5) (hS : sh_ha H 3 ≤ 6) (hC : sh_ha H 6 ≤ 4) (hD : sh_ha H 9 ≤ 4) (hE : sh_ha H 11 ≤ 4) : hup (md_ Γ h m q r r sb ro M H Y) (r + 19) (aI Γ 4 v) = (md_ Γ h m q r r sb ro M H (sx_fn' Y v)) := by
  unfold md_
  exact (sx_a_fn (v := v))
theorem ms_arr_r_20 {Γ : G9} {h : AH} {m q r sb ro : Nat} {M : MO} {H : SH} {Y : SX} {v : Nat → Int32} (geo : m + 2 ≤ q ∧ m + 2 ≤ r ∧ (q + 24 ≤ r ∨ r + 21 ≤ q)) (hB : sh_ha H 0 ≤ 5) (hS : sh_ha H 3 ≤ 6) (hC : sh_ha H 6 ≤ 4) (hD : sh_ha H 9 ≤ 4) (hE : sh_ha H 11 ≤ 4) : hup (md_ Γ h m q r r sb ro M H Y) (r + 20) (aI Γ 4 v) = (md_ Γ h m q r r sb ro M H (sx_do' Y v)) := by
  unfold md_
  exact (sx_a_do (v := v))
theorem ms_arr_r_5 {Γ : G9} {h : AH} {m q r sb ro : Nat} {M : MO} {H : SH} {Y : SX} {v : Nat → Int32} (geo : m + 2 ≤ q ∧ m + 2 ≤ r ∧ (q + 24 ≤ r ∨ r + 21 ≤ q)) (hB : sh_ha H 0 ≤ 5) (hS : sh_ha H 3 ≤ 6) (hC : sh_ha H 6 ≤ 4) (hD : sh_ha H 9 ≤ 4) (hE : sh_ha H 11 ≤ 4) : hup (md_ Γ h m q r r sb ro M H Y) (r + 5) (aI Γ 6 v) = (md_ Γ h m q r r sb ro M H (sx_sd' Y v)) := by
  unfold md_
  exact (sx_a_sd (v := v))
theorem ms_arr_r_17 {Γ : G9} {h : AH} {m q r sb ro : Nat} {M : MO} {H : SH} {Y : SX} {v : Nat → Int32} (geo : m + 2 ≤ q ∧ m + 2 ≤ r ∧ (q + 24 ≤ r ∨ r + 21 ≤ q)) (hB : sh_ha H 0 ≤ 5) (hS : sh_ha H 3 ≤ 6) (hC : sh_ha H 6 ≤ 4) (hD : sh_ha H 9 ≤ 4) (hE : sh_ha H 11 ≤ 4) : hup (md_ Γ h m q r r sb ro M H Y) (r + 17) (aI Γ 4 v) = (md_ Γ h m q r r sb ro M H (sx_he' Y v)) := by
  unfold md_
  exact (sx_a_he (v := v))
theorem ms_arr_r_6 {Γ : G9} {h : AH} {m q r sb ro : Nat} {M : MO} {H : SH} {Y : SX} {v : Nat → Int32} (geo : m + 2 ≤ q ∧ m + 2 ≤ r ∧ (q + 24 ≤ r ∨ r + 21 ≤ q)) (hB : sh_ha H 0 ≤ 5) (hS : sh_ha H 3 ≤ 6) (hC : sh_ha H 6 ≤ 4) (hD : sh_ha H 9 ≤ 4) (hE : sh_ha H 11 ≤ 4) : hup (md_ Γ h m q r r sb ro M H Y) (r + 6) (aI Γ 6 v) = (md_ Γ h m q r r sb ro M H (sx_la' Y v)) := by
  unfold md_
  exact (sx_a_la (v := v))
theorem ms_arr_r_10 {Γ : G9} {h : AH} {m q r sb ro : Nat} {M : MO} {H : SH} {Y : SX} {v : Nat → Int32} (geo : m + 2 ≤ q ∧ m + 2 ≤ r ∧ (q + 24 ≤ r ∨ r + 21 ≤ q)) (hB : sh_ha H 0 ≤ 5) (hS : sh_ha H 3 ≤ 6) (hC : sh_ha H 6 ≤ 4) (hD : sh_ha H 9 ≤ 4) (hE : sh_ha H 11 ≤ 4) : hup (md_ Γ h m q r r sb ro M H Y) (r + 10) (aI Γ 4 v) = (md_ Γ h m q r r sb ro M H (sx_pr' Y v)) := by
  unfold md_
  exact (sx_a_pr (v := v))
theorem d_Model_begin_0 : decode M_Model_begin.2.1 0 = .ok (.aload_n 0, 1) := by decide +kernel
theorem d_Model_begin_1 : decode M_Model_begin.2.1 1 = .ok (.getfield 27, 3) := by decide +kernel
theorem d_Model_begin_4 : decode M_Model_begin.2.1 4 = .ok (.iconst 0, 1) := by decide +kernel
theorem d_Model_begin_5 : decode M_Model_begin.2.1 5 = .ok (.putfield 403, 3) := by decide +kernel
theorem d_Model_begin_8 : decode M_Model_begin.2.1 8 = .ok (.aload_n 0, 1) := by decide +kernel
theorem d_Model_begin_9 : decode M_Model_begin.2.1 9 = .ok (.getfield 27, 3) := by decide +kernel
theorem d_Model_begin_12 : decode M_Model_begin.2.1 12 = .ok (.iconst 0, 1) := by decide +kernel
theorem d_Model_begin_13 : decode M_Model_begin.2.1 13 = .ok (.putfield 338, 3) := by decide +kernel
theorem d_Model_begin_16 : decode M_Model_begin.2.1 16 = .ok (.aload_n 0, 1) := by decide +kernel
theorem d_Model_begin_17 : decode M_Model_begin.2.1 17 = .ok (.getfield 27, 3) := by decide +kernel
theorem d_Model_begin_20 : decode M_Model_begin.2.1 20 = .ok (.iconst 0, 1) := by decide +kernel
theorem d_Model_begin_21 : decode M_Model_begin.2.1 21 = .ok (.putfield 406, 3) := by decide +kernel
theorem d_Model_begin_24 : decode M_Model_begin.2.1 24 = .ok (.aload_n 0, 1) := by decide +kernel
theorem d_Model_begin_25 : decode M_Model_begin.2.1 25 = .ok (.getfield 20, 3) := by decide +kernel
theorem d_Model_begin_28 : decode M_Model_begin.2.1 28 = .ok (.getfield 227, 3) := by decide +kernel
theorem d_Model_begin_31 : decode M_Model_begin.2.1 31 = .ok (.aload_n 0, 1) := by decide +kernel
theorem d_Model_begin_32 : decode M_Model_begin.2.1 32 = .ok (.getfield 27, 3) := by decide +kernel
theorem d_Model_begin_35 : decode M_Model_begin.2.1 35 = .ok (.getfield 430, 3) := by decide +kernel
theorem d_Model_begin_38 : decode M_Model_begin.2.1 38 = .ok (.invokestatic 431, 3) := by decide +kernel
theorem d_Model_begin_41 : decode M_Model_begin.2.1 41 = .ok (.aload_n 0, 1) := by decide +kernel
theorem d_Model_begin_42 : decode M_Model_begin.2.1 42 = .ok (.getfield 20, 3) := by decide +kernel
theorem d_Model_begin_45 : decode M_Model_begin.2.1 45 = .ok (.getfield 207, 3) := by decide +kernel
theorem d_Model_begin_48 : decode M_Model_begin.2.1 48 = .ok (.aload_n 0, 1) := by decide +kernel
theorem d_Model_begin_49 : decode M_Model_begin.2.1 49 = .ok (.getfield 27, 3) := by decide +kernel
theorem d_Model_begin_52 : decode M_Model_begin.2.1 52 = .ok (.getfield 303, 3) := by decide +kernel
theorem d_Model_begin_55 : decode M_Model_begin.2.1 55 = .ok (.invokestatic 431, 3) := by decide +kernel
theorem d_Model_begin_58 : decode M_Model_begin.2.1 58 = .ok (.aload_n 0, 1) := by decide +kernel
theorem d_Model_begin_59 : decode M_Model_begin.2.1 59 = .ok (.getfield 20, 3) := by decide +kernel
theorem d_Model_begin_62 : decode M_Model_begin.2.1 62 = .ok (.getfield 213, 3) := by decide +kernel
theorem d_Model_begin_65 : decode M_Model_begin.2.1 65 = .ok (.aload_n 0, 1) := by decide +kernel
theorem d_Model_begin_66 : decode M_Model_begin.2.1 66 = .ok (.getfield 27, 3) := by decide +kernel
theorem d_Model_begin_69 : decode M_Model_begin.2.1 69 = .ok (.getfield 307, 3) := by decide +kernel
theorem d_Model_begin_72 : decode M_Model_begin.2.1 72 = .ok (.invokestatic 431, 3) := by decide +kernel
theorem d_Model_begin_75 : decode M_Model_begin.2.1 75 = .ok (.aload_n 0, 1) := by decide +kernel
theorem d_Model_begin_76 : decode M_Model_begin.2.1 76 = .ok (.getfield 20, 3) := by decide +kernel
theorem d_Model_begin_79 : decode M_Model_begin.2.1 79 = .ok (.getfield 216, 3) := by decide +kernel
theorem d_Model_begin_82 : decode M_Model_begin.2.1 82 = .ok (.aload_n 0, 1) := by decide +kernel
theorem d_Model_begin_83 : decode M_Model_begin.2.1 83 = .ok (.getfield 27, 3) := by decide +kernel
theorem d_Model_begin_86 : decode M_Model_begin.2.1 86 = .ok (.getfield 308, 3) := by decide +kernel
theorem d_Model_begin_89 : decode M_Model_begin.2.1 89 = .ok (.invokestatic 431, 3) := by decide +kernel
theorem d_Model_begin_92 : decode M_Model_begin.2.1 92 = .ok (.aload_n 0, 1) := by decide +kernel
theorem d_Model_begin_93 : decode M_Model_begin.2.1 93 = .ok (.getfield 20, 3) := by decide +kernel
theorem d_Model_begin_96 : decode M_Model_begin.2.1 96 = .ok (.getfield 219, 3) := by decide +kernel
theorem d_Model_begin_99 : decode M_Model_begin.2.1 99 = .ok (.aload_n 0, 1) := by decide +kernel
theorem d_Model_begin_100 : decode M_Model_begin.2.1 100 = .ok (.getfield 27, 3) := by decide +kernel
theorem d_Model_begin_103 : decode M_Model_begin.2.1 103 = .ok (.getfield 309, 3) := by decide +kernel
theorem d_Model_begin_106 : decode M_Model_begin.2.1 106 = .ok (.invokestatic 431, 3) := by decide +kernel
theorem d_Model_begin_109 : decode M_Model_begin.2.1 109 = .ok (.aload_n 0, 1) := by decide +kernel
theorem d_Model_begin_110 : decode M_Model_begin.2.1 110 = .ok (.getfield 20, 3) := by decide +kernel
theorem d_Model_begin_113 : decode M_Model_begin.2.1 113 = .ok (.getfield 184, 3) := by decide +kernel
theorem d_Model_begin_116 : decode M_Model_begin.2.1 116 = .ok (.aload_n 0, 1) := by decide +kernel
theorem d_Model_begin_117 : decode M_Model_begin.2.1 117 = .ok (.getfield 27, 3) := by decide +kernel
theorem d_Model_begin_120 : decode M_Model_begin.2.1 120 = .ok (.getfield 310, 3) := by decide +kernel
theorem d_Model_begin_123 : decode M_Model_begin.2.1 123 = .ok (.invokestatic 431, 3) := by decide +kernel
theorem d_Model_begin_126 : decode M_Model_begin.2.1 126 = .ok (.bipush 10, 2) := by decide +kernel
theorem d_Model_begin_128 : decode M_Model_begin.2.1 128 = .ok (.anewarray 435, 3) := by decide +kernel
theorem d_Model_begin_131 : decode M_Model_begin.2.1 131 = .ok (.dup, 1) := by decide +kernel
theorem d_Model_begin_132 : decode M_Model_begin.2.1 132 = .ok (.iconst 0, 1) := by decide +kernel
theorem d_Model_begin_133 : decode M_Model_begin.2.1 133 = .ok (.aload_n 0, 1) := by decide +kernel
theorem d_Model_begin_134 : decode M_Model_begin.2.1 134 = .ok (.getfield 27, 3) := by decide +kernel
theorem d_Model_begin_137 : decode M_Model_begin.2.1 137 = .ok (.getfield 388, 3) := by decide +kernel
theorem d_Model_begin_140 : decode M_Model_begin.2.1 140 = .ok (.aastore, 1) := by decide +kernel
theorem d_Model_begin_141 : decode M_Model_begin.2.1 141 = .ok (.dup, 1) := by decide +kernel
theorem d_Model_begin_142 : decode M_Model_begin.2.1 142 = .ok (.iconst 1, 1) := by decide +kernel
theorem d_Model_begin_143 : decode M_Model_begin.2.1 143 = .ok (.aload_n 0, 1) := by decide +kernel
theorem d_Model_begin_144 : decode M_Model_begin.2.1 144 = .ok (.getfield 27, 3) := by decide +kernel
theorem d_Model_begin_147 : decode M_Model_begin.2.1 147 = .ok (.getfield 304, 3) := by decide +kernel
theorem d_Model_begin_150 : decode M_Model_begin.2.1 150 = .ok (.aastore, 1) := by decide +kernel
theorem d_Model_begin_151 : decode M_Model_begin.2.1 151 = .ok (.dup, 1) := by decide +kernel
theorem d_Model_begin_152 : decode M_Model_begin.2.1 152 = .ok (.iconst 2, 1) := by decide +kernel
theorem d_Model_begin_153 : decode M_Model_begin.2.1 153 = .ok (.aload_n 0, 1) := by decide +kernel
theorem d_Model_begin_154 : decode M_Model_begin.2.1 154 = .ok (.getfield 27, 3) := by decide +kernel
theorem d_Model_begin_157 : decode M_Model_begin.2.1 157 = .ok (.getfield 397, 3) := by decide +kernel
theorem d_Model_begin_160 : decode M_Model_begin.2.1 160 = .ok (.aastore, 1) := by decide +kernel
theorem d_Model_begin_161 : decode M_Model_begin.2.1 161 = .ok (.dup, 1) := by decide +kernel
theorem d_Model_begin_162 : decode M_Model_begin.2.1 162 = .ok (.iconst 3, 1) := by decide +kernel
theorem d_Model_begin_163 : decode M_Model_begin.2.1 163 = .ok (.aload_n 0, 1) := by decide +kernel
theorem d_Model_begin_164 : decode M_Model_begin.2.1 164 = .ok (.getfield 27, 3) := by decide +kernel
theorem d_Model_begin_167 : decode M_Model_begin.2.1 167 = .ok (.getfield 286, 3) := by decide +kernel
theorem d_Model_begin_170 : decode M_Model_begin.2.1 170 = .ok (.aastore, 1) := by decide +kernel
theorem d_Model_begin_171 : decode M_Model_begin.2.1 171 = .ok (.dup, 1) := by decide +kernel
theorem d_Model_begin_172 : decode M_Model_begin.2.1 172 = .ok (.iconst 4, 1) := by decide +kernel
theorem d_Model_begin_173 : decode M_Model_begin.2.1 173 = .ok (.aload_n 0, 1) := by decide +kernel
theorem d_Model_begin_174 : decode M_Model_begin.2.1 174 = .ok (.getfield 27, 3) := by decide +kernel
theorem d_Model_begin_177 : decode M_Model_begin.2.1 177 = .ok (.getfield 348, 3) := by decide +kernel
theorem d_Model_begin_180 : decode M_Model_begin.2.1 180 = .ok (.aastore, 1) := by decide +kernel
theorem d_Model_begin_181 : decode M_Model_begin.2.1 181 = .ok (.dup, 1) := by decide +kernel
theorem d_Model_begin_182 : decode M_Model_begin.2.1 182 = .ok (.iconst 5, 1) := by decide +kernel
theorem d_Model_begin_183 : decode M_Model_begin.2.1 183 = .ok (.aload_n 0, 1) := by decide +kernel
theorem d_Model_begin_184 : decode M_Model_begin.2.1 184 = .ok (.getfield 27, 3) := by decide +kernel
theorem d_Model_begin_187 : decode M_Model_begin.2.1 187 = .ok (.getfield 332, 3) := by decide +kernel
theorem d_Model_begin_190 : decode M_Model_begin.2.1 190 = .ok (.aastore, 1) := by decide +kernel
theorem d_Model_begin_191 : decode M_Model_begin.2.1 191 = .ok (.dup, 1) := by decide +kernel
theorem d_Model_begin_192 : decode M_Model_begin.2.1 192 = .ok (.bipush 6, 2) := by decide +kernel
theorem d_Model_begin_194 : decode M_Model_begin.2.1 194 = .ok (.aload_n 0, 1) := by decide +kernel
theorem d_Model_begin_195 : decode M_Model_begin.2.1 195 = .ok (.getfield 27, 3) := by decide +kernel
theorem d_Model_begin_198 : decode M_Model_begin.2.1 198 = .ok (.getfield 391, 3) := by decide +kernel
theorem d_Model_begin_201 : decode M_Model_begin.2.1 201 = .ok (.aastore, 1) := by decide +kernel
theorem d_Model_begin_202 : decode M_Model_begin.2.1 202 = .ok (.dup, 1) := by decide +kernel
theorem d_Model_begin_203 : decode M_Model_begin.2.1 203 = .ok (.bipush 7, 2) := by decide +kernel
theorem d_Model_begin_205 : decode M_Model_begin.2.1 205 = .ok (.aload_n 0, 1) := by decide +kernel
theorem d_Model_begin_206 : decode M_Model_begin.2.1 206 = .ok (.getfield 27, 3) := by decide +kernel
theorem d_Model_begin_209 : decode M_Model_begin.2.1 209 = .ok (.getfield 400, 3) := by decide +kernel
theorem d_Model_begin_212 : decode M_Model_begin.2.1 212 = .ok (.aastore, 1) := by decide +kernel
theorem d_Model_begin_213 : decode M_Model_begin.2.1 213 = .ok (.dup, 1) := by decide +kernel
theorem d_Model_begin_214 : decode M_Model_begin.2.1 214 = .ok (.bipush 8, 2) := by decide +kernel
theorem d_Model_begin_216 : decode M_Model_begin.2.1 216 = .ok (.aload_n 0, 1) := by decide +kernel
theorem d_Model_begin_217 : decode M_Model_begin.2.1 217 = .ok (.getfield 27, 3) := by decide +kernel
theorem d_Model_begin_220 : decode M_Model_begin.2.1 220 = .ok (.getfield 335, 3) := by decide +kernel
theorem d_Model_begin_223 : decode M_Model_begin.2.1 223 = .ok (.aastore, 1) := by decide +kernel
theorem d_Model_begin_224 : decode M_Model_begin.2.1 224 = .ok (.dup, 1) := by decide +kernel
theorem d_Model_begin_225 : decode M_Model_begin.2.1 225 = .ok (.bipush 9, 2) := by decide +kernel
theorem d_Model_begin_227 : decode M_Model_begin.2.1 227 = .ok (.aload_n 0, 1) := by decide +kernel
theorem d_Model_begin_228 : decode M_Model_begin.2.1 228 = .ok (.getfield 27, 3) := by decide +kernel
theorem d_Model_begin_231 : decode M_Model_begin.2.1 231 = .ok (.getfield 325, 3) := by decide +kernel
theorem d_Model_begin_234 : decode M_Model_begin.2.1 234 = .ok (.aastore, 1) := by decide +kernel
theorem d_Model_begin_235 : decode M_Model_begin.2.1 235 = .ok (.astore_n 1, 1) := by decide +kernel
theorem d_Model_begin_236 : decode M_Model_begin.2.1 236 = .ok (.aload_n 1, 1) := by decide +kernel
theorem d_Model_begin_237 : decode M_Model_begin.2.1 237 = .ok (.astore_n 2, 1) := by decide +kernel
theorem d_Model_begin_238 : decode M_Model_begin.2.1 238 = .ok (.aload_n 2, 1) := by decide +kernel
theorem d_Model_begin_239 : decode M_Model_begin.2.1 239 = .ok (.arraylength, 1) := by decide +kernel
theorem d_Model_begin_240 : decode M_Model_begin.2.1 240 = .ok (.istore_n 3, 1) := by decide +kernel
theorem d_Model_begin_241 : decode M_Model_begin.2.1 241 = .ok (.iconst 0, 1) := by decide +kernel
theorem d_Model_begin_242 : decode M_Model_begin.2.1 242 = .ok (.istore 4, 2) := by decide +kernel
theorem d_Model_begin_244 : decode M_Model_begin.2.1 244 = .ok (.iload 4, 2) := by decide +kernel
theorem d_Model_begin_246 : decode M_Model_begin.2.1 246 = .ok (.iload_n 3, 1) := by decide +kernel
theorem d_Model_begin_247 : decode M_Model_begin.2.1 247 = .ok (.if_icmp .ge 21, 3) := by decide +kernel
theorem d_Model_begin_250 : decode M_Model_begin.2.1 250 = .ok (.aload_n 2, 1) := by decide +kernel
theorem d_Model_begin_251 : decode M_Model_begin.2.1 251 = .ok (.iload 4, 2) := by decide +kernel
theorem d_Model_begin_253 : decode M_Model_begin.2.1 253 = .ok (.aaload, 1) := by decide +kernel
theorem d_Model_begin_254 : decode M_Model_begin.2.1 254 = .ok (.astore 5, 2) := by decide +kernel
theorem d_Model_begin_256 : decode M_Model_begin.2.1 256 = .ok (.aload 5, 2) := by decide +kernel
theorem d_Model_begin_258 : decode M_Model_begin.2.1 258 = .ok (.iconst 0, 1) := by decide +kernel
theorem d_Model_begin_259 : decode M_Model_begin.2.1 259 = .ok (.invokestatic 436, 3) := by decide +kernel
theorem d_Model_begin_262 : decode M_Model_begin.2.1 262 = .ok (.iinc 4 1, 3) := by decide +kernel
theorem d_Model_begin_265 : decode M_Model_begin.2.1 265 = .ok (.goto (-21), 3) := by decide +kernel
theorem d_Model_begin_268 : decode M_Model_begin.2.1 268 = .ok (.aload_n 0, 1) := by decide +kernel
theorem d_Model_begin_269 : decode M_Model_begin.2.1 269 = .ok (.getfield 27, 3) := by decide +kernel
theorem d_Model_begin_272 : decode M_Model_begin.2.1 272 = .ok (.getfield 277, 3) := by decide +kernel
theorem d_Model_begin_275 : decode M_Model_begin.2.1 275 = .ok (.iconst 1, 1) := by decide +kernel
theorem d_Model_begin_276 : decode M_Model_begin.2.1 276 = .ok (.invokestatic 436, 3) := by decide +kernel
theorem d_Model_begin_279 : decode M_Model_begin.2.1 279 = .ok (.aload_n 0, 1) := by decide +kernel
theorem d_Model_begin_280 : decode M_Model_begin.2.1 280 = .ok (.getfield 27, 3) := by decide +kernel
theorem d_Model_begin_283 : decode M_Model_begin.2.1 283 = .ok (.getfield 283, 3) := by decide +kernel
theorem d_Model_begin_286 : decode M_Model_begin.2.1 286 = .ok (.iconst 1, 1) := by decide +kernel
theorem d_Model_begin_287 : decode M_Model_begin.2.1 287 = .ok (.invokestatic 436, 3) := by decide +kernel
theorem d_Model_begin_290 : decode M_Model_begin.2.1 290 = .ok (.aload_n 0, 1) := by decide +kernel
theorem d_Model_begin_291 : decode M_Model_begin.2.1 291 = .ok (.getfield 27, 3) := by decide +kernel
theorem d_Model_begin_294 : decode M_Model_begin.2.1 294 = .ok (.getfield 394, 3) := by decide +kernel
theorem d_Model_begin_297 : decode M_Model_begin.2.1 297 = .ok (.iconst (-1), 1) := by decide +kernel
theorem d_Model_begin_298 : decode M_Model_begin.2.1 298 = .ok (.invokestatic 436, 3) := by decide +kernel
theorem d_Model_begin_301 : decode M_Model_begin.2.1 301 = .ok (.aload_n 0, 1) := by decide +kernel
theorem d_Model_begin_302 : decode M_Model_begin.2.1 302 = .ok (.getfield 27, 3) := by decide +kernel
theorem d_Model_begin_305 : decode M_Model_begin.2.1 305 = .ok (.getfield 351, 3) := by decide +kernel
theorem d_Model_begin_308 : decode M_Model_begin.2.1 308 = .ok (.iconst (-1), 1) := by decide +kernel
theorem d_Model_begin_309 : decode M_Model_begin.2.1 309 = .ok (.invokestatic 436, 3) := by decide +kernel
theorem d_Model_begin_312 : decode M_Model_begin.2.1 312 = .ok (.return_, 1) := by decide +kernel
def s_Model_begin (H : SH) (Y : SX) : SX := (sx_pr' (sx_la' (sx_he' (sx_sd' (sx_do' (sx_fn' (sx_ma' (sx_hu' (sx_fe' (sx_cr' (sx_kn' (sx_re' (sx_ou' (sx_ic' (sx_pl' (sx_sk' (sx_fo' (sx_br' (sx_sn' (sx_wa' (sx_ca' (sx_fa' (sx_rd' Y 0) 0) 0) (sh_wa H)) (sh_sn H)) (sh_br H)) (sh_fo H)) (sh_sk H)) (sh_ti H)) (fun _ => 0)) (fun _ => 0)) (fun _ => 0)) (fun _ => 0)) (fun _ => 0)) (fun _ => 0)) (fun _ => 0)) (fun _ => 0)) (fun _ => 0)) (fun _ => 0)) (fun _ => 1)) (fun _ => 1)) (fun _ => (-1))) (fun _ => (-1)))
set_option maxRecDepth 100000 in
set_option maxHeartbeats 800000 in
theorem c_Model_begin {Γ : G9} {h : AH} {m q r sb ro z : Nat} {M : MO} {H : SH} {Y : SX} (geo : m + 2 ≤ q ∧ m + 2 ≤ r ∧ (q + 24 ≤ r ∨ r + 21 ≤ q)) (hz : q + 24 ≤ z ∧ r + 21 ≤ z) (hB : sh_ha H 0 ≤ 5) (hS : sh_ha H 3 ≤ 6) (hC : sh_ha H 6 ≤ 4) (hD : sh_ha H 9 ≤ 4) (hE : sh_ha H 11 ≤ 4) (hao : AoOk Γ) : Call Γ M_Model_begin 4 1 10 [.ref m] (md_ Γ h m q r r sb ro M H Y) z (fun v h2 z2 => v = none ∧ z2 = z + 1 ∧ ∃ h3 : AH, (∀ a, a < z → h3 a = h a) ∧ h2 = md_ Γ h3 m q r r sb ro M H (s_Model_begin H Y)) noX := by
  refine Call.of_go (L := [some (.ref m), none, none, none, none, none]) (by decide +kernel) rfl (by exact Nat.le_of_ble_eq_true rfl) ?_
  unfold s_Model_begin
  refine Go.aload_0 d_Model_begin_0 rfl ?_
  refine Go.getfield d_Model_begin_1 rfl f_Model_27 (ms_at_m (by omega) hB hS hC hD hE) (by rfl) ?_
  refine Go.iconst (v := 0) d_Model_begin_4 rfl (by decide) ?_
  refine Go.putfield d_Model_begin_5 rfl f_Model_403_p (Or.inl (fun C T N h => by cases h; rfl)) (ms_at_r (by omega) hB hS hC hD hE) (by exact Nat.le_of_ble_eq_true rfl) rfl rfl ?_
  refine Go.heq (ms_put_r_readings (by omega) hB hS hC hD hE) ?_
  refine Go.aload_0 d_Model_begin_8 rfl ?_
  refine Go.getfield d_Model_begin_9 rfl f_Model_27 (ms_at_m (by omega) hB hS hC hD hE) (by rfl) ?_
  refine Go.iconst (v := 0) d_Model_begin_12 rfl (by decide) ?_
  refine Go.putfield d_Model_begin_13 rfl f_Model_338_p (Or.inl (fun C T N h => by cases h; rfl)) (ms_at_r (by omega) hB hS hC hD hE) (by exact Nat.le_of_ble_eq_true rfl) rfl rfl ?_
  refine Go.heq (ms_put_r_falls (by omega) hB hS hC hD hE) ?_
  refine Go.aload_0 d_Model_begin_16 rfl ?_
  refine Go.getfield d_Model_begin_17 rfl f_Model_27 (ms_at_m (by omega) hB hS hC hD hE) (by rfl) ?_
  refine Go.iconst (v := 0) d_Model_begin_20 rfl (by decide) ?_
  refine Go.putfield d_Model_begin_21 rfl f_Model_406_p (Or.inl (fun C T N h => by cases h; rfl)) (ms_at_r (by omega) hB hS hC hD hE) (by exact Nat.le_of_ble_eq_true rfl) rfl rfl ?_
  refine Go.heq (ms_put_r_carried (by omega) hB hS hC hD hE) ?_
  refine Go.aload_0 d_Model_begin_24 rfl ?_
  refine Go.getfield d_Model_begin_25 rfl f_Model_20 (ms_at_m (by omega) hB hS hC hD hE) (by rfl) ?_
  refine Go.getfield d_Model_begin_28 rfl f_Model_227 (ms_at_q (by omega) hB hS hC hD hE) (by rfl) ?_
  refine Go.aload_0 d_Model_begin_31 rfl ?_
  refine Go.getfield d_Model_begin_32 rfl f_Model_27 (ms_at_m (by omega) hB hS hC hD hE) (by rfl) ?_
  refine Go.getfield d_Model_begin_35 rfl f_Model_430 (ms_at_r (by omega) hB hS hC hD hE) (by rfl) ?_
  refine Go.cs2vN d_Model_begin_38 rfl l_Model_431 k_State_copy_s rfl (c_State_copy (ms_at_q_18 (by omega) hB hS hC hD hE) (ms_at_r_1 (by omega) hB hS hC hD hE) (by decide)) (Nat.ble_eq_true_of_le (by omega)) rfl rfl ?_
  refine Go.heq (ms_arr_r_1 (by omega) hB hS hC hD hE) ?_
  refine Go.aload_0 d_Model_begin_41 rfl ?_
  refine Go.getfield d_Model_begin_42 rfl f_Model_20 (ms_at_m (by omega) hB hS hC hD hE) (by rfl) ?_
  refine Go.getfield d_Model_begin_45 rfl f_Model_207 (ms_at_q (by omega) hB hS hC hD hE) (by rfl) ?_
  refine Go.aload_0 d_Model_begin_48 rfl ?_
  refine Go.getfield d_Model_begin_49 rfl f_Model_27 (ms_at_m (by omega) hB hS hC hD hE) (by rfl) ?_
  refine Go.getfield d_Model_begin_52 rfl f_Model_303 (ms_at_r (by omega) hB hS hC hD hE) (by rfl) ?_
  refine Go.cs2vN d_Model_begin_55 rfl l_Model_431 k_State_copy_s rfl (c_State_copy (ms_at_q_8 (by omega) hB hS hC hD hE) (ms_at_r_2 (by omega) hB hS hC hD hE) (by decide)) (Nat.ble_eq_true_of_le (by omega)) rfl rfl ?_
  refine Go.heq (ms_arr_r_2 (by omega) hB hS hC hD hE) ?_
  refine Go.aload_0 d_Model_begin_58 rfl ?_
  refine Go.getfield d_Model_begin_59 rfl f_Model_20 (ms_at_m (by omega) hB hS hC hD hE) (by rfl) ?_
  refine Go.getfield d_Model_begin_62 rfl f_Model_213 (ms_at_q (by omega) hB hS hC hD hE) (by rfl) ?_
  refine Go.aload_0 d_Model_begin_65 rfl ?_
  refine Go.getfield d_Model_begin_66 rfl f_Model_27 (ms_at_m (by omega) hB hS hC hD hE) (by rfl) ?_
  refine Go.getfield d_Model_begin_69 rfl f_Model_307 (ms_at_r (by omega) hB hS hC hD hE) (by rfl) ?_
  refine Go.cs2vN d_Model_begin_72 rfl l_Model_431 k_State_copy_s rfl (c_State_copy (ms_at_q_12 (by omega) hB hS hC hD hE) (ms_at_r_8 (by omega) hB hS hC hD hE) (by decide)) (Nat.ble_eq_true_of_le (by omega)) rfl rfl ?_
  refine Go.heq (ms_arr_r_8 (by omega) hB hS hC hD hE) ?_
  refine Go.aload_0 d_Model_begin_75 rfl ?_
  refine Go.getfield d_Model_begin_76 rfl f_Model_20 (ms_at_m (by omega) hB hS hC hD hE) (by rfl) ?_
  refine Go.getfield d_Model_begin_79 rfl f_Model_216 (ms_at_q (by omega) hB hS hC hD hE) (by rfl) ?_
  refine Go.aload_0 d_Model_begin_82 rfl ?_
  refine Go.getfield d_Model_begin_83 rfl f_Model_27 (ms_at_m (by omega) hB hS hC hD hE) (by rfl) ?_
  refine Go.getfield d_Model_begin_86 rfl f_Model_308 (ms_at_r (by omega) hB hS hC hD hE) (by rfl) ?_
  refine Go.cs2vN d_Model_begin_89 rfl l_Model_431 k_State_copy_s rfl (c_State_copy (ms_at_q_14 (by omega) hB hS hC hD hE) (ms_at_r_13 (by omega) hB hS hC hD hE) (by decide)) (Nat.ble_eq_true_of_le (by omega)) rfl rfl ?_
  refine Go.heq (ms_arr_r_13 (by omega) hB hS hC hD hE) ?_
  refine Go.aload_0 d_Model_begin_92 rfl ?_
  refine Go.getfield d_Model_begin_93 rfl f_Model_20 (ms_at_m (by omega) hB hS hC hD hE) (by rfl) ?_
  refine Go.getfield d_Model_begin_96 rfl f_Model_219 (ms_at_q (by omega) hB hS hC hD hE) (by rfl) ?_
  refine Go.aload_0 d_Model_begin_99 rfl ?_
  refine Go.getfield d_Model_begin_100 rfl f_Model_27 (ms_at_m (by omega) hB hS hC hD hE) (by rfl) ?_
  refine Go.getfield d_Model_begin_103 rfl f_Model_309 (ms_at_r (by omega) hB hS hC hD hE) (by rfl) ?_
  refine Go.cs2vN d_Model_begin_106 rfl l_Model_431 k_State_copy_s rfl (c_State_copy (ms_at_q_17 (by omega) hB hS hC hD hE) (ms_at_r_14 (by omega) hB hS hC hD hE) (by decide)) (Nat.ble_eq_true_of_le (by omega)) rfl rfl ?_
  refine Go.heq (ms_arr_r_14 (by omega) hB hS hC hD hE) ?_
  refine Go.aload_0 d_Model_begin_109 rfl ?_
  refine Go.getfield d_Model_begin_110 rfl f_Model_20 (ms_at_m (by omega) hB hS hC hD hE) (by rfl) ?_
  refine Go.getfield d_Model_begin_113 rfl f_Model_184 (ms_at_q (by omega) hB hS hC hD hE) (by rfl) ?_
  refine Go.aload_0 d_Model_begin_116 rfl ?_
  refine Go.getfield d_Model_begin_117 rfl f_Model_27 (ms_at_m (by omega) hB hS hC hD hE) (by rfl) ?_
  refine Go.getfield d_Model_begin_120 rfl f_Model_310 (ms_at_r (by omega) hB hS hC hD hE) (by rfl) ?_
  refine Go.cs2vN d_Model_begin_123 rfl l_Model_431 k_State_copy_s rfl (c_State_copy (ms_at_q_15 (by omega) hB hS hC hD hE) (ms_at_r_15 (by omega) hB hS hC hD hE) (by decide)) (Nat.ble_eq_true_of_le (by omega)) rfl rfl ?_
  refine Go.heq (ms_arr_r_15 (by omega) hB hS hC hD hE) ?_
  refine Go.bipush (v := 10) d_Model_begin_126 rfl (by decide) ?_
  refine Go.anewA (C1 := 0) (S1 := 0) (N := 10) d_Model_begin_128 rfl (gm_7 (List.mem_of_getElem? (i := 188) rfl) rfl) hao rfl (by decide) (by decide) (by decide) ?_
  refine Go.heq (md_hup (by omega) (by omega)) ?_
  refine Go.dup d_Model_begin_131 rfl rfl ?_
  refine Go.iconst (v := 0) d_Model_begin_132 rfl (by decide) ?_
  refine Go.aload_0 d_Model_begin_133 rfl ?_
  refine Go.getfield d_Model_begin_134 rfl f_Model_27 (ms_at_m (by omega) hB hS hC hD hE) (by rfl) ?_
  refine Go.getfield d_Model_begin_137 rfl f_Model_388 (ms_at_r (by omega) hB hS hC hD hE) (by rfl) ?_
  refine Go.aastA d_Model_begin_140 rfl ((md_outz (by omega) (by omega)).trans hup_at) (ms_at_r_3 (by omega) hB hS hC hD hE) (show vp_in (nI 0) 10 from vp_in_nI (by decide) (by decide)) hao ?_
  refine Go.heq (md_hup2 (by omega) (by omega)) ?_
  refine Go.dup d_Model_begin_141 rfl rfl ?_
  refine Go.iconst (v := 1) d_Model_begin_142 rfl (by decide) ?_
  refine Go.aload_0 d_Model_begin_143 rfl ?_
  refine Go.getfield d_Model_begin_144 rfl f_Model_27 (ms_at_m (by omega) hB hS hC hD hE) (by rfl) ?_
  refine Go.getfield d_Model_begin_147 rfl f_Model_304 (ms_at_r (by omega) hB hS hC hD hE) (by rfl) ?_
  refine Go.aastA d_Model_begin_150 rfl ((md_outz (by omega) (by omega)).trans hup_at) (ms_at_r_4 (by omega) hB hS hC hD hE) (show vp_in (nI 1) 10 from vp_in_nI (by decide) (by decide)) hao ?_
  refine Go.heq (md_hup2 (by omega) (by omega)) ?_
  refine Go.dup d_Model_begin_151 rfl rfl ?_
  refine Go.iconst (v := 2) d_Model_begin_152 rfl (by decide) ?_
  refine Go.aload_0 d_Model_begin_153 rfl ?_
  refine Go.getfield d_Model_begin_154 rfl f_Model_27 (ms_at_m (by omega) hB hS hC hD hE) (by rfl) ?_
  refine Go.getfield d_Model_begin_157 rfl f_Model_397 (ms_at_r (by omega) hB hS hC hD hE) (by rfl) ?_
  refine Go.aastA d_Model_begin_160 rfl ((md_outz (by omega) (by omega)).trans hup_at) (ms_at_r_7 (by omega) hB hS hC hD hE) (show vp_in (nI 2) 10 from vp_in_nI (by decide) (by decide)) hao ?_
  refine Go.heq (md_hup2 (by omega) (by omega)) ?_
  refine Go.dup d_Model_begin_161 rfl rfl ?_
  refine Go.iconst (v := 3) d_Model_begin_162 rfl (by decide) ?_
  refine Go.aload_0 d_Model_begin_163 rfl ?_
  refine Go.getfield d_Model_begin_164 rfl f_Model_27 (ms_at_m (by omega) hB hS hC hD hE) (by rfl) ?_
  refine Go.getfield d_Model_begin_167 rfl f_Model_286 (ms_at_r (by omega) hB hS hC hD hE) (by rfl) ?_
  refine Go.aastA d_Model_begin_170 rfl ((md_outz (by omega) (by omega)).trans hup_at) (ms_at_r_9 (by omega) hB hS hC hD hE) (show vp_in (nI 3) 10 from vp_in_nI (by decide) (by decide)) hao ?_
  refine Go.heq (md_hup2 (by omega) (by omega)) ?_
  refine Go.dup d_Model_begin_171 rfl rfl ?_
  refine Go.iconst (v := 4) d_Model_begin_172 rfl (by decide) ?_
  refine Go.aload_0 d_Model_begin_173 rfl ?_
  refine Go.getfield d_Model_begin_174 rfl f_Model_27 (ms_at_m (by omega) hB hS hC hD hE) (by rfl) ?_
  refine Go.getfield d_Model_begin_177 rfl f_Model_348 (ms_at_r (by omega) hB hS hC hD hE) (by rfl) ?_
  refine Go.aastA d_Model_begin_180 rfl ((md_outz (by omega) (by omega)).trans hup_at) (ms_at_r_11 (by omega) hB hS hC hD hE) (show vp_in (nI 4) 10 from vp_in_nI (by decide) (by decide)) hao ?_
  refine Go.heq (md_hup2 (by omega) (by omega)) ?_
  refine Go.dup d_Model_begin_181 rfl rfl ?_
  refine Go.iconst (v := 5) d_Model_begin_182 rfl (by decide) ?_
  refine Go.aload_0 d_Model_begin_183 rfl ?_
  refine Go.getfield d_Model_begin_184 rfl f_Model_27 (ms_at_m (by omega) hB hS hC hD hE) (by rfl) ?_
  refine Go.getfield d_Model_begin_187 rfl f_Model_332 (ms_at_r (by omega) hB hS hC hD hE) (by rfl) ?_
  refine Go.aastA d_Model_begin_190 rfl ((md_outz (by omega) (by omega)).trans hup_at) (ms_at_r_12 (by omega) hB hS hC hD hE) (show vp_in (nI 5) 10 from vp_in_nI (by decide) (by decide)) hao ?_
  refine Go.heq (md_hup2 (by omega) (by omega)) ?_
  refine Go.dup d_Model_begin_191 rfl rfl ?_
  refine Go.bipush (v := 6) d_Model_begin_192 rfl (by decide) ?_
  refine Go.aload_0 d_Model_begin_194 rfl ?_
  refine Go.getfield d_Model_begin_195 rfl f_Model_27 (ms_at_m (by omega) hB hS hC hD hE) (by rfl) ?_
  refine Go.getfield d_Model_begin_198 rfl f_Model_391 (ms_at_r (by omega) hB hS hC hD hE) (by rfl) ?_
  refine Go.aastA d_Model_begin_201 rfl ((md_outz (by omega) (by omega)).trans hup_at) (ms_at_r_16 (by omega) hB hS hC hD hE) (show vp_in (nI 6) 10 from vp_in_nI (by decide) (by decide)) hao ?_
  refine Go.heq (md_hup2 (by omega) (by omega)) ?_
  refine Go.dup d_Model_begin_202 rfl rfl ?_
  refine Go.bipush (v := 7) d_Model_begin_203 rfl (by decide) ?_
  refine Go.aload_0 d_Model_begin_205 rfl ?_
  refine Go.getfield d_Model_begin_206 rfl f_Model_27 (ms_at_m (by omega) hB hS hC hD hE) (by rfl) ?_
  refine Go.getfield d_Model_begin_209 rfl f_Model_400 (ms_at_r (by omega) hB hS hC hD hE) (by rfl) ?_
  refine Go.aastA d_Model_begin_212 rfl ((md_outz (by omega) (by omega)).trans hup_at) (ms_at_r_18 (by omega) hB hS hC hD hE) (show vp_in (nI 7) 10 from vp_in_nI (by decide) (by decide)) hao ?_
  refine Go.heq (md_hup2 (by omega) (by omega)) ?_
  refine Go.dup d_Model_begin_213 rfl rfl ?_
  refine Go.bipush (v := 8) d_Model_begin_214 rfl (by decide) ?_
  refine Go.aload_0 d_Model_begin_216 rfl ?_
  refine Go.getfield d_Model_begin_217 rfl f_Model_27 (ms_at_m (by omega) hB hS hC hD hE) (by rfl) ?_
  refine Go.getfield d_Model_begin_220 rfl f_Model_335 (ms_at_r (by omega) hB hS hC hD hE) (by rfl) ?_
  refine Go.aastA d_Model_begin_223 rfl ((md_outz (by omega) (by omega)).trans hup_at) (ms_at_r_19 (by omega) hB hS hC hD hE) (show vp_in (nI 8) 10 from vp_in_nI (by decide) (by decide)) hao ?_
  refine Go.heq (md_hup2 (by omega) (by omega)) ?_
  refine Go.dup d_Model_begin_224 rfl rfl ?_
  refine Go.bipush (v := 9) d_Model_begin_225 rfl (by decide) ?_
  refine Go.aload_0 d_Model_begin_227 rfl ?_
  refine Go.getfield d_Model_begin_228 rfl f_Model_27 (ms_at_m (by omega) hB hS hC hD hE) (by rfl) ?_
  refine Go.getfield d_Model_begin_231 rfl f_Model_325 (ms_at_r (by omega) hB hS hC hD hE) (by rfl) ?_
  refine Go.aastA d_Model_begin_234 rfl ((md_outz (by omega) (by omega)).trans hup_at) (ms_at_r_20 (by omega) hB hS hC hD hE) (show vp_in (nI 9) 10 from vp_in_nI (by decide) (by decide)) hao ?_
  refine Go.heq (md_hup2 (by omega) (by omega)) ?_
  refine Go.astore_1 d_Model_begin_235 rfl (by rfl) ?_
  refine Go.aload_1 d_Model_begin_236 rfl ?_
  refine Go.astore_2 d_Model_begin_237 rfl (by rfl) ?_
  refine Go.aload_2 d_Model_begin_238 rfl ?_
  refine Go.alen (n := 10) d_Model_begin_239 rfl ((md_outz (by omega) (by omega)).trans hup_at) (by rfl) rfl ?_
  refine Go.istore_3 d_Model_begin_240 rfl (by rfl) ?_
  refine Go.iconst (v := 0) d_Model_begin_241 rfl (by decide) ?_
  refine Go.istore_4 d_Model_begin_242 rfl (by rfl) ?_
  refine Go.iload_4 d_Model_begin_244 rfl ?_
  refine Go.iload_3 d_Model_begin_246 rfl ?_
  refine Go.icmp_ge (t := 268) d_Model_begin_247 (by decide) rfl (fun c247_1 => ?_) (fun c247_1 => ?_)
  · exact absurd c247_1 (by decide)
  · refine Go.aload_2 d_Model_begin_250 rfl ?_
    refine Go.iload_4 d_Model_begin_251 rfl ?_
    refine Go.aaldB (b := r + 3) d_Model_begin_253 rfl ((md_outz (by omega) (by omega)).trans hup_at) (show vp_in (nI 0) 10 from vp_in_nI (by decide) (by decide)) (by rfl) ?_
    refine Go.astore_5 d_Model_begin_254 rfl (by rfl) ?_
    refine Go.aload_5 d_Model_begin_256 rfl ?_
    refine Go.iconst (v := 0) d_Model_begin_258 rfl (by decide) ?_
    refine Go.cs2v d_Model_begin_259 rfl l_Model_436 k_Model_fill_1_s rfl (c_Model_fill_1 (ms_at_r_3 (by omega) hB hS hC hD hE) (by decide)) (Nat.ble_eq_true_of_le (by omega)) rfl rfl ?_
    refine Go.heq (ms_arr_r_3 (by omega) hB hS hC hD hE) ?_
    refine Go.iinc_4 d_Model_begin_262 rfl (by rfl) (show _ + Int32.ofInt (1) = (1 : Int32) by decide) ?_
    refine Go.goto (t := 244) d_Model_begin_265 (by decide) ?_
    refine Go.iload_4 d_Model_begin_244 rfl ?_
    refine Go.iload_3 d_Model_begin_246 rfl ?_
    refine Go.icmp_ge (t := 268) d_Model_begin_247 (by decide) rfl (fun c247_2 => ?_) (fun c247_2 => ?_)
    · exact absurd c247_2 (by decide)
    · refine Go.aload_2 d_Model_begin_250 rfl ?_
      refine Go.iload_4 d_Model_begin_251 rfl ?_
      refine Go.aaldB (b := r + 4) d_Model_begin_253 rfl ((md_outz (by omega) (by omega)).trans hup_at) (show vp_in (nI 1) 10 from vp_in_nI (by decide) (by decide)) (by rfl) ?_
      refine Go.astore_5 d_Model_begin_254 rfl (by rfl) ?_
      refine Go.aload_5 d_Model_begin_256 rfl ?_
      refine Go.iconst (v := 0) d_Model_begin_258 rfl (by decide) ?_
      refine Go.cs2v d_Model_begin_259 rfl l_Model_436 k_Model_fill_1_s rfl (c_Model_fill_1 (ms_at_r_4 (by omega) hB hS hC hD hE) (by decide)) (Nat.ble_eq_true_of_le (by omega)) rfl rfl ?_
      refine Go.heq (ms_arr_r_4 (by omega) hB hS hC hD hE) ?_
      refine Go.iinc_4 d_Model_begin_262 rfl (by rfl) (show _ + Int32.ofInt (1) = (2 : Int32) by decide) ?_
      refine Go.goto (t := 244) d_Model_begin_265 (by decide) ?_
      refine Go.iload_4 d_Model_begin_244 rfl ?_
      refine Go.iload_3 d_Model_begin_246 rfl ?_
      refine Go.icmp_ge (t := 268) d_Model_begin_247 (by decide) rfl (fun c247_3 => ?_) (fun c247_3 => ?_)
      · exact absurd c247_3 (by decide)
      · refine Go.aload_2 d_Model_begin_250 rfl ?_
        refine Go.iload_4 d_Model_begin_251 rfl ?_
        refine Go.aaldB (b := r + 7) d_Model_begin_253 rfl ((md_outz (by omega) (by omega)).trans hup_at) (show vp_in (nI 2) 10 from vp_in_nI (by decide) (by decide)) (by rfl) ?_
        refine Go.astore_5 d_Model_begin_254 rfl (by rfl) ?_
        refine Go.aload_5 d_Model_begin_256 rfl ?_
        refine Go.iconst (v := 0) d_Model_begin_258 rfl (by decide) ?_
        refine Go.cs2v d_Model_begin_259 rfl l_Model_436 k_Model_fill_1_s rfl (c_Model_fill_1 (ms_at_r_7 (by omega) hB hS hC hD hE) (by decide)) (Nat.ble_eq_true_of_le (by omega)) rfl rfl ?_
        refine Go.heq (ms_arr_r_7 (by omega) hB hS hC hD hE) ?_
        refine Go.iinc_4 d_Model_begin_262 rfl (by rfl) (show _ + Int32.ofInt (1) = (3 : Int32) by decide) ?_
        refine Go.goto (t := 244) d_Model_begin_265 (by decide) ?_
        refine Go.iload_4 d_Model_begin_244 rfl ?_
        refine Go.iload_3 d_Model_begin_246 rfl ?_
        refine Go.icmp_ge (t := 268) d_Model_begin_247 (by decide) rfl (fun c247_4 => ?_) (fun c247_4 => ?_)
        · exact absurd c247_4 (by decide)
        · refine Go.aload_2 d_Model_begin_250 rfl ?_
          refine Go.iload_4 d_Model_begin_251 rfl ?_
          refine Go.aaldB (b := r + 9) d_Model_begin_253 rfl ((md_outz (by omega) (by omega)).trans hup_at) (show vp_in (nI 3) 10 from vp_in_nI (by decide) (by decide)) (by rfl) ?_
          refine Go.astore_5 d_Model_begin_254 rfl (by rfl) ?_
          refine Go.aload_5 d_Model_begin_256 rfl ?_
          refine Go.iconst (v := 0) d_Model_begin_258 rfl (by decide) ?_
          refine Go.cs2v d_Model_begin_259 rfl l_Model_436 k_Model_fill_1_s rfl (c_Model_fill_1 (ms_at_r_9 (by omega) hB hS hC hD hE) (by decide)) (Nat.ble_eq_true_of_le (by omega)) rfl rfl ?_
          refine Go.heq (ms_arr_r_9 (by omega) hB hS hC hD hE) ?_
          refine Go.iinc_4 d_Model_begin_262 rfl (by rfl) (show _ + Int32.ofInt (1) = (4 : Int32) by decide) ?_
          refine Go.goto (t := 244) d_Model_begin_265 (by decide) ?_
          refine Go.iload_4 d_Model_begin_244 rfl ?_
          refine Go.iload_3 d_Model_begin_246 rfl ?_
          refine Go.icmp_ge (t := 268) d_Model_begin_247 (by decide) rfl (fun c247_5 => ?_) (fun c247_5 => ?_)
          · exact absurd c247_5 (by decide)
          · refine Go.aload_2 d_Model_begin_250 rfl ?_
            refine Go.iload_4 d_Model_begin_251 rfl ?_
            refine Go.aaldB (b := r + 11) d_Model_begin_253 rfl ((md_outz (by omega) (by omega)).trans hup_at) (show vp_in (nI 4) 10 from vp_in_nI (by decide) (by decide)) (by rfl) ?_
            refine Go.astore_5 d_Model_begin_254 rfl (by rfl) ?_
            refine Go.aload_5 d_Model_begin_256 rfl ?_
            refine Go.iconst (v := 0) d_Model_begin_258 rfl (by decide) ?_
            refine Go.cs2v d_Model_begin_259 rfl l_Model_436 k_Model_fill_1_s rfl (c_Model_fill_1 (ms_at_r_11 (by omega) hB hS hC hD hE) (by decide)) (Nat.ble_eq_true_of_le (by omega)) rfl rfl ?_
            refine Go.heq (ms_arr_r_11 (by omega) hB hS hC hD hE) ?_
            refine Go.iinc_4 d_Model_begin_262 rfl (by rfl) (show _ + Int32.ofInt (1) = (5 : Int32) by decide) ?_
            refine Go.goto (t := 244) d_Model_begin_265 (by decide) ?_
            refine Go.iload_4 d_Model_begin_244 rfl ?_
            refine Go.iload_3 d_Model_begin_246 rfl ?_
            refine Go.icmp_ge (t := 268) d_Model_begin_247 (by decide) rfl (fun c247_6 => ?_) (fun c247_6 => ?_)
            · exact absurd c247_6 (by decide)
            · refine Go.aload_2 d_Model_begin_250 rfl ?_
              refine Go.iload_4 d_Model_begin_251 rfl ?_
              refine Go.aaldB (b := r + 12) d_Model_begin_253 rfl ((md_outz (by omega) (by omega)).trans hup_at) (show vp_in (nI 5) 10 from vp_in_nI (by decide) (by decide)) (by rfl) ?_
              refine Go.astore_5 d_Model_begin_254 rfl (by rfl) ?_
              refine Go.aload_5 d_Model_begin_256 rfl ?_
              refine Go.iconst (v := 0) d_Model_begin_258 rfl (by decide) ?_
              refine Go.cs2v d_Model_begin_259 rfl l_Model_436 k_Model_fill_1_s rfl (c_Model_fill_1 (ms_at_r_12 (by omega) hB hS hC hD hE) (by decide)) (Nat.ble_eq_true_of_le (by omega)) rfl rfl ?_
              refine Go.heq (ms_arr_r_12 (by omega) hB hS hC hD hE) ?_
              refine Go.iinc_4 d_Model_begin_262 rfl (by rfl) (show _ + Int32.ofInt (1) = (6 : Int32) by decide) ?_
              refine Go.goto (t := 244) d_Model_begin_265 (by decide) ?_
              refine Go.iload_4 d_Model_begin_244 rfl ?_
              refine Go.iload_3 d_Model_begin_246 rfl ?_
              refine Go.icmp_ge (t := 268) d_Model_begin_247 (by decide) rfl (fun c247_7 => ?_) (fun c247_7 => ?_)
              · exact absurd c247_7 (by decide)
              · refine Go.aload_2 d_Model_begin_250 rfl ?_
                refine Go.iload_4 d_Model_begin_251 rfl ?_
                refine Go.aaldB (b := r + 16) d_Model_begin_253 rfl ((md_outz (by omega) (by omega)).trans hup_at) (show vp_in (nI 6) 10 from vp_in_nI (by decide) (by decide)) (by rfl) ?_
                refine Go.astore_5 d_Model_begin_254 rfl (by rfl) ?_
                refine Go.aload_5 d_Model_begin_256 rfl ?_
                refine Go.iconst (v := 0) d_Model_begin_258 rfl (by decide) ?_
                refine Go.cs2v d_Model_begin_259 rfl l_Model_436 k_Model_fill_1_s rfl (c_Model_fill_1 (ms_at_r_16 (by omega) hB hS hC hD hE) (by decide)) (Nat.ble_eq_true_of_le (by omega)) rfl rfl ?_
                refine Go.heq (ms_arr_r_16 (by omega) hB hS hC hD hE) ?_
                refine Go.iinc_4 d_Model_begin_262 rfl (by rfl) (show _ + Int32.ofInt (1) = (7 : Int32) by decide) ?_
                refine Go.goto (t := 244) d_Model_begin_265 (by decide) ?_
                refine Go.iload_4 d_Model_begin_244 rfl ?_
                refine Go.iload_3 d_Model_begin_246 rfl ?_
                refine Go.icmp_ge (t := 268) d_Model_begin_247 (by decide) rfl (fun c247_8 => ?_) (fun c247_8 => ?_)
                · exact absurd c247_8 (by decide)
                · refine Go.aload_2 d_Model_begin_250 rfl ?_
                  refine Go.iload_4 d_Model_begin_251 rfl ?_
                  refine Go.aaldB (b := r + 18) d_Model_begin_253 rfl ((md_outz (by omega) (by omega)).trans hup_at) (show vp_in (nI 7) 10 from vp_in_nI (by decide) (by decide)) (by rfl) ?_
                  refine Go.astore_5 d_Model_begin_254 rfl (by rfl) ?_
                  refine Go.aload_5 d_Model_begin_256 rfl ?_
                  refine Go.iconst (v := 0) d_Model_begin_258 rfl (by decide) ?_
                  refine Go.cs2v d_Model_begin_259 rfl l_Model_436 k_Model_fill_1_s rfl (c_Model_fill_1 (ms_at_r_18 (by omega) hB hS hC hD hE) (by decide)) (Nat.ble_eq_true_of_le (by omega)) rfl rfl ?_
                  refine Go.heq (ms_arr_r_18 (by omega) hB hS hC hD hE) ?_
                  refine Go.iinc_4 d_Model_begin_262 rfl (by rfl) (show _ + Int32.ofInt (1) = (8 : Int32) by decide) ?_
                  refine Go.goto (t := 244) d_Model_begin_265 (by decide) ?_
                  refine Go.iload_4 d_Model_begin_244 rfl ?_
                  refine Go.iload_3 d_Model_begin_246 rfl ?_
                  refine Go.icmp_ge (t := 268) d_Model_begin_247 (by decide) rfl (fun c247_9 => ?_) (fun c247_9 => ?_)
                  · exact absurd c247_9 (by decide)
                  · refine Go.aload_2 d_Model_begin_250 rfl ?_
                    refine Go.iload_4 d_Model_begin_251 rfl ?_
                    refine Go.aaldB (b := r + 19) d_Model_begin_253 rfl ((md_outz (by omega) (by omega)).trans hup_at) (show vp_in (nI 8) 10 from vp_in_nI (by decide) (by decide)) (by rfl) ?_
                    refine Go.astore_5 d_Model_begin_254 rfl (by rfl) ?_
                    refine Go.aload_5 d_Model_begin_256 rfl ?_
                    refine Go.iconst (v := 0) d_Model_begin_258 rfl (by decide) ?_
                    refine Go.cs2v d_Model_begin_259 rfl l_Model_436 k_Model_fill_1_s rfl (c_Model_fill_1 (ms_at_r_19 (by omega) hB hS hC hD hE) (by decide)) (Nat.ble_eq_true_of_le (by omega)) rfl rfl ?_
                    refine Go.heq (ms_arr_r_19 (by omega) hB hS hC hD hE) ?_
                    refine Go.iinc_4 d_Model_begin_262 rfl (by rfl) (show _ + Int32.ofInt (1) = (9 : Int32) by decide) ?_
                    refine Go.goto (t := 244) d_Model_begin_265 (by decide) ?_
                    refine Go.iload_4 d_Model_begin_244 rfl ?_
                    refine Go.iload_3 d_Model_begin_246 rfl ?_
                    refine Go.icmp_ge (t := 268) d_Model_begin_247 (by decide) rfl (fun c247_10 => ?_) (fun c247_10 => ?_)
                    · exact absurd c247_10 (by decide)
                    · refine Go.aload_2 d_Model_begin_250 rfl ?_
                      refine Go.iload_4 d_Model_begin_251 rfl ?_
                      refine Go.aaldB (b := r + 20) d_Model_begin_253 rfl ((md_outz (by omega) (by omega)).trans hup_at) (show vp_in (nI 9) 10 from vp_in_nI (by decide) (by decide)) (by rfl) ?_
                      refine Go.astore_5 d_Model_begin_254 rfl (by rfl) ?_
                      refine Go.aload_5 d_Model_begin_256 rfl ?_
                      refine Go.iconst (v := 0) d_Model_begin_258 rfl (by decide) ?_
                      refine Go.cs2v d_Model_begin_259 rfl l_Model_436 k_Model_fill_1_s rfl (c_Model_fill_1 (ms_at_r_20 (by omega) hB hS hC hD hE) (by decide)) (Nat.ble_eq_true_of_le (by omega)) rfl rfl ?_
                      refine Go.heq (ms_arr_r_20 (by omega) hB hS hC hD hE) ?_
                      refine Go.iinc_4 d_Model_begin_262 rfl (by rfl) (show _ + Int32.ofInt (1) = (10 : Int32) by decide) ?_
                      refine Go.goto (t := 244) d_Model_begin_265 (by decide) ?_
                      refine Go.iload_4 d_Model_begin_244 rfl ?_
                      refine Go.iload_3 d_Model_begin_246 rfl ?_
                      refine Go.icmp_ge (t := 268) d_Model_begin_247 (by decide) rfl (fun c247_11 => ?_) (fun c247_11 => ?_)
                      · refine Go.aload_0 d_Model_begin_268 rfl ?_
                        refine Go.getfield d_Model_begin_269 rfl f_Model_27 (ms_at_m (by omega) hB hS hC hD hE) (by rfl) ?_
                        refine Go.getfield d_Model_begin_272 rfl f_Model_277 (ms_at_r (by omega) hB hS hC hD hE) (by rfl) ?_
                        refine Go.iconst (v := 1) d_Model_begin_275 rfl (by decide) ?_
                        refine Go.cs2v d_Model_begin_276 rfl l_Model_436 k_Model_fill_1_s rfl (c_Model_fill_1 (ms_at_r_5 (by omega) hB hS hC hD hE) (by decide)) (Nat.ble_eq_true_of_le (by omega)) rfl rfl ?_
                        refine Go.heq (ms_arr_r_5 (by omega) hB hS hC hD hE) ?_
                        refine Go.aload_0 d_Model_begin_279 rfl ?_
                        refine Go.getfield d_Model_begin_280 rfl f_Model_27 (ms_at_m (by omega) hB hS hC hD hE) (by rfl) ?_
                        refine Go.getfield d_Model_begin_283 rfl f_Model_283 (ms_at_r (by omega) hB hS hC hD hE) (by rfl) ?_
                        refine Go.iconst (v := 1) d_Model_begin_286 rfl (by decide) ?_
                        refine Go.cs2v d_Model_begin_287 rfl l_Model_436 k_Model_fill_1_s rfl (c_Model_fill_1 (ms_at_r_17 (by omega) hB hS hC hD hE) (by decide)) (Nat.ble_eq_true_of_le (by omega)) rfl rfl ?_
                        refine Go.heq (ms_arr_r_17 (by omega) hB hS hC hD hE) ?_
                        refine Go.aload_0 d_Model_begin_290 rfl ?_
                        refine Go.getfield d_Model_begin_291 rfl f_Model_27 (ms_at_m (by omega) hB hS hC hD hE) (by rfl) ?_
                        refine Go.getfield d_Model_begin_294 rfl f_Model_394 (ms_at_r (by omega) hB hS hC hD hE) (by rfl) ?_
                        refine Go.iconst (v := (-1)) d_Model_begin_297 rfl (by decide) ?_
                        refine Go.cs2v d_Model_begin_298 rfl l_Model_436 k_Model_fill_1_s rfl (c_Model_fill_1 (ms_at_r_6 (by omega) hB hS hC hD hE) (by decide)) (Nat.ble_eq_true_of_le (by omega)) rfl rfl ?_
                        refine Go.heq (ms_arr_r_6 (by omega) hB hS hC hD hE) ?_
                        refine Go.aload_0 d_Model_begin_301 rfl ?_
                        refine Go.getfield d_Model_begin_302 rfl f_Model_27 (ms_at_m (by omega) hB hS hC hD hE) (by rfl) ?_
                        refine Go.getfield d_Model_begin_305 rfl f_Model_351 (ms_at_r (by omega) hB hS hC hD hE) (by rfl) ?_
                        refine Go.iconst (v := (-1)) d_Model_begin_308 rfl (by decide) ?_
                        refine Go.cs2v d_Model_begin_309 rfl l_Model_436 k_Model_fill_1_s rfl (c_Model_fill_1 (ms_at_r_10 (by omega) hB hS hC hD hE) (by decide)) (Nat.ble_eq_true_of_le (by omega)) rfl rfl ?_
                        refine Go.heq (ms_arr_r_10 (by omega) hB hS hC hD hE) ?_
                        exact Go.vret d_Model_begin_312 rfl ⟨rfl, rfl, _, fun a ha => hup_ne (Nat.ne_of_lt ha), rfl⟩
                      · exact absurd (by decide) c247_11
