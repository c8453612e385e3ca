/-! contracts out of walks, and calls of contracts -/
def posl : List Value → List (Option Value)
  | [] => []
  | .long x :: t => some (.long x) :: none :: posl t
  | .double x :: t => some (.double x) :: none :: posl t
  | v :: t => some v :: posl t
def posn (n : Nat) (vs : List Value) : List (Option Value) := posl vs ++ List.replicate (n - (posl vs).length) none
theorem lvp_none : ∀ (k i : Nat) (q : Nat × Value), q ∉ lvp i (List.replicate k none)
  | 0, _, _, h => by cases h
  | k + 1, i, q, h => lvp_none k (i + 1) q h
theorem posl_args : ∀ (vs : List Value) (i k : Nat) (q : Nat × Value), q ∈ lvp i (posl vs ++ List.replicate k none) → q ∈ lv_args i vs
  | [], i, k, q, h => absurd h (lvp_none k i q)
  | v :: t, i, k, q, h => by
    have ih1 := posl_args t (i + 1) k q
    have ih2 := posl_args t (i + 1 + 1) k q
    cases v <;> first
      | (rcases List.mem_cons.mp (show q ∈ (i, _) :: lvp (i + 1) (posl t ++ List.replicate k none) from h) with h | h
         · exact List.mem_cons.mpr (Or.inl h)
         · exact List.mem_cons_of_mem _ (ih1 h))
      | (rcases List.mem_cons.mp (show q ∈ (i, _) :: lvp (i + 1 + 1) (posl t ++ List.replicate k none) from h) with h | h
         · exact List.mem_cons.mpr (Or.inl h)
         · exact List.mem_cons_of_mem _ (ih2 h))
theorem posl_len : ∀ (vs : List Value), (posl vs).length = (lg_sl vs).length
  | [] => rfl
  | v :: t => by
    have ih := posl_len t
    cases v <;> simp [posl, lg_sl, Value.category] at ih ⊢ <;> omega
abbrev QcOf (Γ : G9) (Q : QT) : Array Value → State → Outcome → State → Prop := fun _ st o t => (∃ (v : Option Value) (h' : AH), o = .returned v ∧ Q v h' t.heap.size ∧ Rp Γ h' t.heap) ∧ st.heap.size ≤ t.heap.size ∧ ∀ q : Nat, q < g_lo Γ → t.heap[q]? = st.heap[q]?
abbrev XcOf (Γ : G9) (X : XT) : String → State → State → Prop := fun E st t => (∃ h' : AH, X E h' t.heap.size ∧ Rp Γ h' t.heap) ∧ st.heap.size ≤ t.heap.size ∧ ∀ q : Nat, q < g_lo Γ → t.heap[q]? = st.heap[q]?
theorem go_ret {Γ : G9} {M : MI} {Q : QT} {X : XT} {C S : Nat} {p : Program} {e : Env} {R : Room} {s : State} {m : MethodId} {args : Array Value} {below : List Frame} {meth : Method} {c : Code} (hF : FC Γ M p s m args meth c) (v : Option Value) (h' : AH) (H' : Heap) (locs' : List Loc) (cells' slots' pc' : Nat) (ls' : Array Slot) (hq : Q v h' H'.size) (hH : HS Γ s H' h' locs') (hc : cells' ≤ C) (hs : slots' ≤ S) (hra : RetAt M pc' v) :
    W p (g_l Γ) e R s m args below meth c H' locs' cells' slots' (vx_MQ below (QcOf Γ Q) (XcOf Γ X) args s C S (g_A Γ)) (F0 m pc' ls' v.toList) := by
  obtain ⟨hx, hb, hml, hr, hown, hts, hlocks, htab, hnm⟩ := hF
  refine W.widen (k := C) (n := S) hc hs (vx_ret ?_)
  have key : ∀ t : State, t.heap = H' → s.WarmedH t.vm → QcOf Γ Q args s (.returned v) t := fun t ht hW => by
    refine ⟨⟨v, h', rfl, by rw [ht]; exact hq, by rw [ht]; exact hH.2.2.1⟩, by rw [ht]; exact hH.2.1.1, fun q hq => ?_⟩
    rw [ht]
    exact hH.2.1.2.1 q (Nat.lt_of_lt_of_le hq hH.2.2.2) (Nat.not_le.mpr hq)
  have hloc := hH.2.1.2.2
  cases v with
  | none => exact W.vret hx hb (hr.trans hra.2) key hloc hra.1
  | some v =>
    cases v with
    | int x =>
      obtain ⟨h1, ty, h2, h3⟩ := hra
      exact W.zret hx hb (hr.trans h2) h3 key hloc h1
    | long x => exact W.lret hx hb (hr.trans hra.2) key hloc hra.1
    | double x => exact W.dret hx hb (hr.trans hra.2) key hloc hra.1
    | ref a =>
      obtain ⟨h1, n, h2, h3⟩ := hra
      exact W.aret hx hb (hr.trans h2) h3 (Or.inr ⟨a, rfl⟩) key hloc h1
    | null =>
      obtain ⟨h1, n, h2, h3⟩ := hra
      exact W.aret hx hb (hr.trans h2) h3 (Or.inl rfl) key hloc h1
    | _ => exact hra.elim
theorem Call.of_go {Γ : G9} {M : MI} {d C S : Nat} {avs : List Value} {L : List (Option Value)} {h : AH} {z : Nat} {Q : QT} {X : XT} (hpl : plainName M.1.cls = true) (hL : posn M.2.2.1 avs = L) (hln : (posl avs).length ≤ M.2.2.1) (k : Go Γ M d C S 0 L [] h z Q X) : Call Γ M d C S avs h z Q X := by
  subst hL
  have fin : ∀ (p : Program) (e : Env) (R : Room) (s : State) (m : MethodId) (args : Array Value) (below : List Frame) (meth : Method) (c : Code), R = ({ frames := d, cells := C, slots := S, locals := 40 * d } : Room) → FC Γ M p s m args meth c → (va_Pc avs (fun U => GS Γ U U.heap ∧ U.heap.size = z ∧ Rp Γ h U.heap)) args s →
      W p (g_l Γ) e R s m args below meth c s.heap [] 0 0 (vx_MQ below (QcOf Γ Q) (XcOf Γ X) args s C S (g_A Γ)) (entryFrame m args M.2.2.1) := by
    intro p e R s m args below meth c hRe hF hv
    subst hRe
    obtain ⟨rfl, hG, hz, hR⟩ := hv
    rw [lg_entry_eq]
    refine k p e _ s m _ below meth c s.heap [] 0 0 _ _ ⟨hF, ⟨Nat.le_refl _, Nat.le_refl _, by simp, by simp⟩, ⟨hG, va_S.rf, hR, hG.2.2.2.2.1⟩, hz, lv_fewer (lv_entry avs (by rw [← posl_len]; exact hln)) (fun q hq => posl_args avs 0 _ q hq), by simp [posn]; omega, ?_, ?_⟩
    · intro v h' H' locs' cells' slots' pc' ls' hq hH hc hs hra
      exact go_ret hF v h' H' locs' cells' slots' pc' ls' hq hH hc hs hra
    · intro E h' H' locs' cells' slots' pc' ls' rest q ce hX hH hc hs hhh hcell hcv hcl
      obtain ⟨hx, hb, hml, hr, hown, hts, hlocks, htab, hnm⟩ := hF
      refine vx_out (fun x hx => ?_) hlocks hcell hcv hcl (fun t ht hal => ?_) hH.2.1.2.2 hc hs
      · rw [htab, hhh] at hx
        cases hx
      · refine ⟨⟨h', by rw [ht]; exact hX, by rw [ht]; exact hH.2.2.1⟩, by rw [ht]; exact hH.2.1.1, fun q hq => ?_⟩
        rw [ht]
        exact hH.2.1.2.1 q (Nat.lt_of_lt_of_le hq hH.2.2.2) (Nat.not_le.mpr hq)
  obtain ⟨y, b, n, r, hh⟩ := M
  cases hh with
  | nil =>
    refine vx_ofW (cc := b) (maxL := n) (ret := r) (ws' := gw) hpl rfl ?_
    intro p e s m args below meth c s₁ B hml ht hv
    have hts := atoms_spec (ws := mi_w (y, b, n, r, []) :: gw) B.pre
    exact fin p e _ s m args below meth c rfl ⟨B.exec, B.bytes, hml, B.returns, findClass_of_methodNamed B.named, fun w hw => hts w (List.mem_cons_of_mem _ hw), B.notSynchronized, List.eq_nil_iff_forall_not_mem.mpr ht, (name_of_methodNamed B.named B.method).1⟩ hv
  | cons x t =>
    refine vx_ofWH (cc := b) (maxL := n) (ret := r) (hh := x :: t) (ws' := gw) hpl rfl ?_
    intro p e s m args below meth c s₁ B hml hv
    have hts := atoms_spec (ws := mi_w (y, b, n, r, x :: t) :: gw) B.pre
    exact fin p e _ s m args below meth c rfl ⟨B.exec, B.bytes, hml, B.returns, findClass_of_methodNamed B.named, fun w hw => hts w (List.mem_cons_of_mem _ hw), B.notSynchronized, vx_table (x := y) (y := y) B (hts _ List.mem_cons_self), (name_of_methodNamed B.named B.method).1⟩ hv
section GoCalls
variable {Γ : G9} {M : MI} {d C S pc q : Nat} {L : List (Option Value)} {st : List Value} {h : AH} {z : Nat} {Q : QT} {X : XT}
theorem Go.after {C' S' C1 S1 : Nat} {Q' : QT} {X' : XT} {rest st0 : List Value} {av : Array Value}
    (hrun : ∀ (p : Program) (e : Env) (R : Room) (s : State) (m : MethodId) (args : Array Value) (below : List Frame) (meth : Method) (c : Code) (H : Heap) (locs : List Loc) (cells slots : Nat) (ls : Array Slot) (Z : State → Prop), Cx Γ M d C S L h z Q X p e R s m args below meth c H locs cells slots ls Z → vx_Run p (g_l Γ) e R s m args below meth c H locs cells slots C' S' (F0 m pc ls st0) rest (QcOf Γ Q' av) (XcOf Γ X') (g_A Γ))
    (hC : C' + C1 ≤ C) (hS : S' + S1 ≤ S) (kx : ∀ E h' z', X' E h' z' → z ≤ z' → GoX Γ M d C1 S1 pc L E h' z' Q X) (kk : ∀ v h' z', Q' v h' z' → z ≤ z' → Go Γ M d C1 S1 (pc + 3) L (v.toList ++ rest) h' z' Q X) : Go Γ M d C S pc L st0 h z Q X := by
  intro p e R s m args below meth c H locs cells slots ls Z hc T hT XT
  obtain ⟨r1, r2, r3, r4⟩ := hc.2.1
  have hH := hc.2.2.1
  have hz := hc.2.2.2.1
  rcases hrun _ _ _ _ _ _ _ _ _ _ _ _ _ _ _ hc T hT XT with ⟨v, st₀, t, T', Ls, h0, X', hL, e1, e2, ⟨⟨v', h', hv, hq, hR'⟩, hsz, hlo⟩, stp⟩ | ⟨qa, st₀, t, T', Ls, E, ce, h0, X', hL, e1, e2, ⟨⟨h', hq, hR'⟩, hsz, hlo⟩, hce, hcv, hcl, stp⟩
  · cases hv
    rw [h0] at hsz hlo
    rw [← e1] at hsz hlo hq hR'
    have hS' : va_S (g_A Γ) s.heap T'.heap (locs ++ Ls) := ⟨Nat.le_trans hH.2.1.1 hsz, fun q h1 h2 => (hlo q (Nat.not_le.mp h2)).trans (hH.2.1.2.1 q h1 h2), fun x hx => (List.mem_append.mp hx).elim (hH.2.1.2.2 x) (hL x)⟩
    obtain ⟨t2, a1, b1⟩ := kk v h' _ hq (by omega) p e R s m args below meth c T'.heap (locs ++ Ls) (cells + C') (slots + S') ls Z ⟨hc.1, ⟨r1, r2, by omega, by omega⟩, ⟨hH.1.heap hlo hsz, hS', hR', hH.2.2.2⟩, rfl, hc.2.2.2.2⟩ T' rfl X'
    exact ⟨t2, stp t2 a1, b1⟩
  · rw [h0] at hsz hlo
    rw [← e1] at hsz hlo hq hR' hce
    have hS' : va_S (g_A Γ) s.heap T'.heap (locs ++ Ls) := ⟨Nat.le_trans hH.2.1.1 hsz, fun q h1 h2 => (hlo q (Nat.not_le.mp h2)).trans (hH.2.1.2.1 q h1 h2), fun x hx => (List.mem_append.mp hx).elim (hH.2.1.2.2 x) (hL x)⟩
    obtain ⟨t2, a1, b1⟩ := kx E h' _ hq (by omega) p e R s m args below meth c T'.heap (locs ++ Ls) (cells + C') (slots + S') ls Z rest qa ce ⟨hc.1, ⟨r1, r2, by omega, by omega⟩, ⟨hH.1.heap hlo hsz, hS', hR', hH.2.2.2⟩, rfl, hc.2.2.2.2⟩ hce hcv hcl T' rfl X'
    exact ⟨t2, stp.trans a1, b1⟩
theorem blindP {avs : List Value} : FrameBlind (va_Pc avs (fun U => GS Γ U U.heap ∧ U.heap.size = z ∧ Rp Γ h U.heap)) := by
  intro a U g mk hp
  exact ⟨hp.1, (hp.2.1.warm (U := U.calling g mk a) (State.WarmedH.refl U)), hp.2.2⟩
theorem gw_good {w : Cond} (h : w ∈ gw) : (w.onTables && w.keeps) = true ∨ ∃ ty, w = .arrayClass ty := good_of_word (List.mem_filter.mp h).2
theorem gw_pay {M' : MI} {s : State} {args : Array Value} (hts : ∀ w ∈ gw, w.before args s = true) (hm : mi_w M' ∈ gw) : ∀ w ∈ mi_w M' :: gw, ∀ (a' : Array Value) (U : State), s.WarmedH U.vm → w.before a' U = true := by
  intro w hw a' U hW
  have hw' : w ∈ gw := by
    rcases List.mem_cons.mp hw with rfl | h
    · exact hm
    · exact h
  exact word_at hW (gw_good hw') (hts w hw')
theorem startP {s U : State} {H : Heap} {locs : List Loc} {avs : List Value} (hH : HS Γ s H h locs) (hz : H.size = z) (hU : U.heap = H) (hW : s.WarmedH U.vm) : va_Pc avs (fun U => GS Γ U U.heap ∧ U.heap.size = z ∧ Rp Γ h U.heap) avs.toArray U := by
  refine ⟨rfl, ?_, ?_, ?_⟩
  · rw [hU]; exact hH.1.warm hW
  · rw [hU]; exact hz
  · rw [hU]; exact hH.2.2.1
theorem mi_w_nil {M' : MI} (hh : M'.2.2.2.2 = []) : mi_w M' = Cond.code M'.1 M'.2.1 M'.2.2.1 M'.2.2.2.1 := by
  obtain ⟨y, b, n, r, t⟩ := M'
  cases t with
  | nil => rfl
  | cons x t => cases hh
/-- an instance method of an object of its own class -/
theorem Go.callV {M' : MI} {n d' C' S' C1 S1 idx b ci : Nat} {Q' : QT} {X' : XT} {as rest fs : List Value} {T : u_T} {N : Nat} (hd : decode M.2.1 pc = .ok (.invokevirtual idx, 3)) (hq : pc + 3 = q) (lk : Cond.methodLink M.1.cls idx M'.1 ∈ gw) (ok : OkV M' n) (hn : as.length = n) (ho : h b = some (.inr (ci, fs))) (hci : vwCl[ci]? = some (M'.1.cls, T, N)) (hst : st = as.reverse ++ .ref b :: rest)
    (hc : Call Γ M' d' C' S' (.ref b :: as) h z Q' X') (hd' : d' + 1 ≤ d) (hml : M'.2.2.1 ≤ 21) (hC : C' + C1 ≤ C) (hS : S' + S1 ≤ S) (hw : (rest.map fun v => v.category).sum ≤ 8)
    (kx : ∀ E h' z', X' E h' z' → z ≤ z' → GoX Γ M d C1 S1 pc L E h' z' Q X) (kk : ∀ v h' z', Q' v h' z' → z ≤ z' → Go Γ M d C1 S1 q L (v.toList ++ rest) h' z' Q X) : Go Γ M d C S pc L st h z Q X := by
  subst hq
  refine Go.after (Q' := Q') (X' := X') (C' := C') (S' := S') (av := (Value.ref b :: as).toArray) (rest := rest) (fun p e R s m args below meth c H locs cells slots ls Z hx => ?_) hC hS kx kk
  obtain ⟨r1, r2, r3, r4⟩ := hx.2.1
  have hts := hx.1.2.2.2.2.2.1
  have hH := hx.2.2.1
  obtain ⟨⟨g1, g2, g3, g4, g5⟩, g6, g7, g8⟩ := ok
  rw [mi_w_nil g6] at g1
  have hcell : ∃ cellB : Cell, H[b]? = some cellB ∧ cellB.vm.isStatics = false ∧ s.vm.findClass M'.1.cls = some cellB.cls := va_recv hH.1.2.2.1 (hH.2.2.1.one ho) hci (q0 := 0) rfl
  refine vx_runV (C := M'.1.cls) (As := as) (n := n) (Ts := gw) (own := M.1.cls) ⟨hx.1.1, hx.1.2.1, hx.1.2.2.1, hx.1.2.2.2.2.1, hts⟩ hc ⟨⟨rfl, rfl, (show d' + 1 ≤ R.frames by omega), ?_, by rw [← mi_w_nil g6] at g1; exact gw_pay hts g1, by rw [mi_w_nil g6]; exact List.mem_cons_self, hts _ g1, hts _ g2, ⟨g3, g4⟩, fun sig hsig => ?_, hts _ lk⟩, hts _ g7, hts _ g8⟩ ⟨blindP, hcell, fun U hU hW => startP hH hx.2.2.2.1 hU hW⟩ rfl hn (by rw [hx.2.2.2.2.1.1]) hst (lv_room hw) hd ⟨by omega, by omega⟩
  · show 8 + (M'.2.2.1 + 11) + 40 * d' ≤ R.locals
    omega
  · rw [hsig] at g5
    exact (Option.some.inj g5).symm
/-- a static method without handlers -/
theorem Go.callS {M' : MI} {n d' C' S' C1 S1 idx : Nat} {Q' : QT} {X' : XT} {as rest : List Value} (hd : decode M.2.1 pc = .ok (.invokestatic idx, 3)) (hq : pc + 3 = q) (lk : Cond.methodLink M.1.cls idx M'.1 ∈ gw) (ok : OkS M' n) (hh : M'.2.2.2.2 = []) (hn : as.length = n) (hst : st = as.reverse ++ rest)
    (hc : Call Γ M' d' C' S' as h z Q' X') (hd' : d' + 1 ≤ d) (hml : M'.2.2.1 ≤ 21) (hC : C' + C1 ≤ C) (hS : S' + S1 ≤ S) (hw : (rest.map fun v => v.category).sum ≤ 8)
    (kx : ∀ E h' z', X' E h' z' → z ≤ z' → GoX Γ M d C1 S1 pc L E h' z' Q X) (kk : ∀ v h' z', Q' v h' z' → z ≤ z' → Go Γ M d C1 S1 q L (v.toList ++ rest) h' z' Q X) : Go Γ M d C S pc L st h z Q X := by
  subst hq
  refine Go.after (Q' := Q') (X' := X') (C' := C') (S' := S') (av := as.toArray) (rest := rest) (fun p e R s m args below meth c H locs cells slots ls Z hx => ?_) hC hS kx kk
  obtain ⟨r1, r2, r3, r4⟩ := hx.2.1
  have hts := hx.1.2.2.2.2.2.1
  have hH := hx.2.2.1
  obtain ⟨⟨g1, g2, g3, g4, g5⟩, g6⟩ := ok
  rw [mi_w_nil hh] at g1
  refine vx_runS (As := as) (n := n) (Ts := gw) (own := M.1.cls) ⟨hx.1.1, hx.1.2.1, hx.1.2.2.1, hx.1.2.2.2.2.1, hts⟩ hc ⟨⟨rfl, rfl, (show d' + 1 ≤ R.frames by omega), ?_, by rw [← mi_w_nil hh] at g1; exact gw_pay hts g1, by rw [mi_w_nil hh]; exact List.mem_cons_self, hts _ g1, hts _ g2, ⟨g3, g4⟩, fun sig hsig => ?_, hts _ lk⟩, hts _ g6⟩ ⟨blindP, fun U hU hW => startP hH hx.2.2.2.1 hU hW⟩ rfl hn (by rw [hx.2.2.2.2.1.1]) hst (lv_room hw) hd ⟨by omega, by omega⟩
  · show 8 + (M'.2.2.1 + 11) + 40 * d' ≤ R.locals
    omega
  · rw [hsig] at g5
    exact (Option.some.inj g5).symm
/-- a constructor -/
theorem Go.callI {M' : MI} {n d' C' S' C1 S1 idx b : Nat} {Q' : QT} {X' : XT} {as rest : List Value} (hd : decode M.2.1 pc = .ok (.invokespecial idx, 3)) (hq : pc + 3 = q) (lk : Cond.methodLink M.1.cls idx M'.1 ∈ gw ∨ ∃ host, Cond.methodLinkNest M.1.cls idx M'.1 host ∈ nw) (ok : OkN M' n) (hn : as.length = n) (hst : st = as.reverse ++ .ref b :: rest)
    (hc : Call Γ M' d' C' S' (.ref b :: as) h z Q' X') (hd' : d' + 1 ≤ d) (hml : M'.2.2.1 ≤ 21) (hC : C' + C1 ≤ C) (hS : S' + S1 ≤ S) (hw : (rest.map fun v => v.category).sum ≤ 8)
    (kx : ∀ E h' z', X' E h' z' → z ≤ z' → GoX Γ M d C1 S1 pc L E h' z' Q X) (kk : ∀ v h' z', Q' v h' z' → z ≤ z' → Go Γ M d C1 S1 q L (v.toList ++ rest) h' z' Q X) : Go Γ M d C S pc L st h z Q X := by
  subst hq
  refine Go.after (Q' := Q') (X' := X') (C' := C') (S' := S') (av := (Value.ref b :: as).toArray) (rest := rest) (fun p e R s m args below meth c H locs cells slots ls Z hx => ?_) hC hS kx kk
  obtain ⟨r1, r2, r3, r4⟩ := hx.2.1
  have hts := hx.1.2.2.2.2.2.1
  have hH := hx.2.2.1
  obtain ⟨⟨g1, g2, g3, g4, g5⟩, g6, g6r, g7, g8⟩ := ok
  rw [mi_w_nil g6] at g1
  have hlo : 8 + (M'.2.2.1 + 11) + 40 * d' ≤ R.locals := by omega
  have hlen : ∀ sig, parseMethodDescriptor M'.1.desc = some sig → n = sig.parameters.length := fun sig hsig => by
    rw [hsig] at g5
    exact (Option.some.inj g5).symm
  have hg1 : Cond.code M'.1 M'.2.1 M'.2.2.1 none ∈ gw := by rw [← g6r]; exact g1
  have hpay := gw_pay (M' := M') hts (by rw [mi_w_nil g6]; exact g1)
  have hmem : Cond.code M'.1 M'.2.1 M'.2.2.1 none ∈ mi_w M' :: gw := by rw [mi_w_nil g6, g6r]; exact List.mem_cons_self
  rcases lk with lk | ⟨host, lk⟩
  · exact vx_runI (As := as) (n := n) (Ts := gw) (own := M.1.cls) (maxL := M'.2.2.1) (bytes := M'.2.1) ⟨hx.1.1, hx.1.2.1, hx.1.2.2.1, hx.1.2.2.2.2.1, hts⟩ hc ⟨⟨rfl, rfl, (show d' + 1 ≤ R.frames by omega), hlo, hpay, hmem, hts _ hg1, hts _ g2, ⟨g3, g4⟩, hlen, hts _ lk⟩, g7, hts _ g8⟩ ⟨blindP, fun U hU hW => startP hH hx.2.2.2.1 hU hW⟩ rfl hn (by rw [hx.2.2.2.2.1.1]) hst (lv_room hw) hd ⟨by omega, by omega⟩
  · exact vx_runIN (As := as) (n := n) (Ts := gw) (own := M.1.cls) (host := host) (maxL := M'.2.2.1) (bytes := M'.2.1) ⟨hx.1.1, hx.1.2.1, hx.1.2.2.1, hx.1.2.2.2.2.1, hts⟩ hc ⟨⟨⟨rfl, rfl, (show d' + 1 ≤ R.frames by omega), hlo, hpay, hmem⟩, hts _ hg1, hts _ g2, ⟨g3, g4⟩, hlen, va_Nw.use rfl (hH.1.2.2.2.2.2 _ lk)⟩, g7, hts _ g8⟩ ⟨blindP, fun U hU hW => startP hH hx.2.2.2.1 hU hW⟩ rfl hn (by rw [hx.2.2.2.2.1.1]) hst (lv_room hw) hd ⟨by omega, by omega⟩
/-- an exception that this method doesn't catch -/
theorem GoX.out {E : String} (hh : M.2.2.2.2 = []) (hX : X E h z) : GoX Γ M d C S pc L E h z Q X := by
  intro p e R s m args below meth c H locs cells slots ls Z rest q ce hc hcell hcv hcl
  have hz := hc.2.2.2.1
  subst hz
  obtain ⟨r1, r2, r3, r4⟩ := hc.2.1
  exact hc.2.2.2.2.2.2.2 E h H locs cells slots pc ls rest q ce hX hc.2.2.1 (by omega) (by omega) hh hcell hcv hcl
abbrev noX : XT := fun _ _ _ => False
theorem GoX.no {E : String} {P : Prop} (h0 : noX E h z) : P := h0.elim
end GoCalls
