/-! builders of text, and strings that are made on the way: rows -/
def FPk2 (own : String) (idx ci k : Nat) (ty : FieldType) : Prop := ∃ (C : String) (T : u_T) (N : Nat) (tys : Nat → FieldType), vwCl[ci]? = some (C, T, N) ∧ k < N ∧ (T k).2.2.2 = false ∧ Cond.fieldLink own idx (T k).1 (T k).2.1 (T k).2.2.1 ∈ gw ∧ (∀ w ∈ u_ws C T N, w ∈ gw) ∧ (∀ k, k < N → parseFieldDescriptor (T k).2.2.1 = some (tys k)) ∧ (∀ a, a < N → ∀ b, b < N → a ≠ b → (T a).2.1 ≠ (T b).2.1) ∧ parseFieldDescriptor (T k).2.2.1 = some ty
theorem f_AbstractStringBuilder_15 : FLk "java/lang/AbstractStringBuilder" 15 10 0 := ⟨R_StringBuilder, T_StringBuilder, 4, rfl, by decide, Or.inl (gm_6 (List.mem_of_getElem? (i := 153) rfl) rfl), cw_StringBuilder⟩
theorem f_AbstractStringBuilder_15_p : FPk2 "java/lang/AbstractStringBuilder" 15 10 0 (ty_StringBuilder 0) := ⟨R_StringBuilder, T_StringBuilder, 4, ty_StringBuilder, rfl, by decide, rfl, gm_6 (List.mem_of_getElem? (i := 153) rfl) rfl, cw_StringBuilder, ty_StringBuilder_ok, nm_StringBuilder, ty_StringBuilder_ok 0 (by decide)⟩
theorem f_AbstractStringBuilder_22 : FLk "java/lang/AbstractStringBuilder" 22 10 1 := ⟨R_StringBuilder, T_StringBuilder, 4, rfl, by decide, Or.inl (gm_6 (List.mem_of_getElem? (i := 154) rfl) rfl), cw_StringBuilder⟩
theorem f_AbstractStringBuilder_22_p : FPk2 "java/lang/AbstractStringBuilder" 22 10 1 (ty_StringBuilder 1) := ⟨R_StringBuilder, T_StringBuilder, 4, ty_StringBuilder, rfl, by decide, rfl, gm_6 (List.mem_of_getElem? (i := 154) rfl) rfl, cw_StringBuilder, ty_StringBuilder_ok, nm_StringBuilder, ty_StringBuilder_ok 1 (by decide)⟩
theorem f_String_1048 : FLk "java/lang/String" 1048 10 2 := ⟨R_StringBuilder, T_StringBuilder, 4, rfl, by decide, Or.inl (gm_6 (List.mem_of_getElem? (i := 155) rfl) rfl), cw_StringBuilder⟩
theorem f_String_1048_p : FPk2 "java/lang/String" 1048 10 2 (ty_StringBuilder 2) := ⟨R_StringBuilder, T_StringBuilder, 4, ty_StringBuilder, rfl, by decide, rfl, gm_6 (List.mem_of_getElem? (i := 155) rfl) rfl, cw_StringBuilder, ty_StringBuilder_ok, nm_StringBuilder, ty_StringBuilder_ok 2 (by decide)⟩
theorem f_AbstractStringBuilder_79 : FLk "java/lang/AbstractStringBuilder" 79 10 3 := ⟨R_StringBuilder, T_StringBuilder, 4, rfl, by decide, Or.inl (gm_6 (List.mem_of_getElem? (i := 156) rfl) rfl), cw_StringBuilder⟩
theorem f_AbstractStringBuilder_79_p : FPk2 "java/lang/AbstractStringBuilder" 79 10 3 (ty_StringBuilder 3) := ⟨R_StringBuilder, T_StringBuilder, 4, ty_StringBuilder, rfl, by decide, rfl, gm_6 (List.mem_of_getElem? (i := 156) rfl) rfl, cw_StringBuilder, ty_StringBuilder_ok, nm_StringBuilder, ty_StringBuilder_ok 3 (by decide)⟩
theorem x_Integer_83 : Cond.fieldLink "java/lang/Integer" 83 "java/lang/Integer" "DigitOnes" "[B" ∈ gw := gm_6 (List.mem_of_getElem? (i := 114) rfl) rfl
theorem x_Integer_87 : Cond.fieldLink "java/lang/Integer" 87 "java/lang/Integer" "DigitTens" "[B" ∈ gw := gm_6 (List.mem_of_getElem? (i := 116) rfl) rfl
theorem x_acA : Cond.methodLink "java/util/Arrays" 150 arraycopyName ∈ gw := gm_6 (List.mem_of_getElem? (i := 35) rfl) rfl
theorem x_acS : Cond.methodLink "java/lang/String" 212 arraycopyName ∈ gw := gm_6 (List.mem_of_getElem? (i := 99) rfl) rfl
theorem x_acini : Cond.initialized "java/lang/System" ∈ gw := gm_1 (List.mem_of_getElem? (i := 18) rfl) rfl
def OkU (Mx M : MI) (n : Nat) : Prop := OkI Mx n ∧ Mx.2.2.2.2 = [] ∧ Cond.instanceMethod Mx.1 ∈ gw ∧ Cond.sameMethod Mx.1.cls Mx.1.cls Mx.1.name Mx.1.desc ∈ gw ∧ OkI M n ∧ M.2.2.2.2 = [] ∧ Cond.instanceMethod M.1 ∈ gw
def OkSu (M : MI) (n : Nat) : Prop := OkI M n ∧ M.2.2.2.2 = [] ∧ Cond.instanceMethod M.1 ∈ gw ∧ Cond.sameMethod M.1.cls M.1.cls M.1.name M.1.desc ∈ gw ∧ M.1.name ≠ "<init>"
theorem u_AbstractStringBuilder_ensureCapacityInternal : OkU M_AbstractStringBuilder_ensureCapacityInternal M_AbstractStringBuilder_ensureCapacityInternal 1 := ⟨k_AbstractStringBuilder_ensureCapacityInternal_ok, rfl, gm_6 (List.mem_of_getElem? (i := 9) rfl) rfl, gm_7 (List.mem_of_getElem? (i := 67) rfl) rfl, k_AbstractStringBuilder_ensureCapacityInternal_ok, rfl, gm_6 (List.mem_of_getElem? (i := 9) rfl) rfl⟩
theorem u_AbstractStringBuilder_newCapacity : OkU M_AbstractStringBuilder_newCapacity M_AbstractStringBuilder_newCapacity 1 := ⟨k_AbstractStringBuilder_newCapacity_ok, rfl, gm_6 (List.mem_of_getElem? (i := 13) rfl) rfl, gm_7 (List.mem_of_getElem? (i := 68) rfl) rfl, k_AbstractStringBuilder_newCapacity_ok, rfl, gm_6 (List.mem_of_getElem? (i := 13) rfl) rfl⟩
theorem u_AbstractStringBuilder_putStringAt : OkU M_AbstractStringBuilder_putStringAt M_AbstractStringBuilder_putStringAt 2 := ⟨k_AbstractStringBuilder_putStringAt_ok, rfl, gm_6 (List.mem_of_getElem? (i := 62) rfl) rfl, gm_7 (List.mem_of_getElem? (i := 69) rfl) rfl, k_AbstractStringBuilder_putStringAt_ok, rfl, gm_6 (List.mem_of_getElem? (i := 62) rfl) rfl⟩
theorem u_AbstractStringBuilder_inflateIfNeededFor : OkU M_AbstractStringBuilder_inflateIfNeededFor M_AbstractStringBuilder_inflateIfNeededFor 1 := ⟨k_AbstractStringBuilder_inflateIfNeededFor_ok, rfl, gm_6 (List.mem_of_getElem? (i := 66) rfl) rfl, gm_7 (List.mem_of_getElem? (i := 70) rfl) rfl, k_AbstractStringBuilder_inflateIfNeededFor_ok, rfl, gm_6 (List.mem_of_getElem? (i := 66) rfl) rfl⟩
theorem u_AbstractStringBuilder_isLatin1 : OkU M_AbstractStringBuilder_isLatin1 M_AbstractStringBuilder_isLatin1 0 := ⟨k_AbstractStringBuilder_isLatin1_ok, rfl, gm_6 (List.mem_of_getElem? (i := 39) rfl) rfl, gm_6 (List.mem_of_getElem? (i := 40) rfl) rfl, k_AbstractStringBuilder_isLatin1_ok, rfl, gm_6 (List.mem_of_getElem? (i := 39) rfl) rfl⟩
theorem u_AbstractStringBuilder_getValue : OkU M_AbstractStringBuilder_getValue M_AbstractStringBuilder_getValue 0 := ⟨k_AbstractStringBuilder_getValue_ok, rfl, gm_6 (List.mem_of_getElem? (i := 180) rfl) rfl, gm_6 (List.mem_of_getElem? (i := 181) rfl) rfl, k_AbstractStringBuilder_getValue_ok, rfl, gm_6 (List.mem_of_getElem? (i := 180) rfl) rfl⟩
theorem u_length : OkU M_AbstractStringBuilder_length M_StringBuilder_length 0 := ⟨k_AbstractStringBuilder_length_ok, rfl, gm_6 (List.mem_of_getElem? (i := 185) rfl) rfl, gm_6 (List.mem_of_getElem? (i := 186) rfl) rfl, k_StringBuilder_length_ok, rfl, gm_6 (List.mem_of_getElem? (i := 188) rfl) rfl⟩
theorem su_AbstractStringBuilder_append_0 : OkSu M_AbstractStringBuilder_append_0 1 := ⟨k_AbstractStringBuilder_append_0_ok, rfl, gm_6 (List.mem_of_getElem? (i := 106) rfl) rfl, gm_7 (List.mem_of_getElem? (i := 72) rfl) rfl, by decide⟩
theorem su_AbstractStringBuilder_append_1 : OkSu M_AbstractStringBuilder_append_1 1 := ⟨k_AbstractStringBuilder_append_1_ok, rfl, gm_6 (List.mem_of_getElem? (i := 1) rfl) rfl, gm_7 (List.mem_of_getElem? (i := 65) rfl) rfl, by decide⟩
theorem su_AbstractStringBuilder_length : OkSu M_AbstractStringBuilder_length 0 := ⟨k_AbstractStringBuilder_length_ok, rfl, gm_6 (List.mem_of_getElem? (i := 185) rfl) rfl, gm_6 (List.mem_of_getElem? (i := 186) rfl) rfl, by decide⟩
theorem x_sup : Cond.superclass "java/lang/StringBuilder" "java/lang/AbstractStringBuilder" ∈ gw := gm_6 (List.mem_of_getElem? (i := 0) rfl) rfl
theorem x_sel_isLatin1 : Cond.selects "java/lang/StringBuilder" M_AbstractStringBuilder_isLatin1.1 M_AbstractStringBuilder_isLatin1.1 ∈ gw := gm_6 (List.mem_of_getElem? (i := 41) rfl) rfl
theorem x_sel_getValue : Cond.selects "java/lang/StringBuilder" M_AbstractStringBuilder_getValue.1 M_AbstractStringBuilder_getValue.1 ∈ gw := gm_6 (List.mem_of_getElem? (i := 182) rfl) rfl
theorem x_sel_length : Cond.selects "java/lang/StringBuilder" M_AbstractStringBuilder_length.1 M_StringBuilder_length.1 ∈ gw := gm_6 (List.mem_of_getElem? (i := 187) rfl) rfl

/-- the private methods of a builder: which one is run, as the launch has it -/
def prvL : List MethodName := [M_AbstractStringBuilder_ensureCapacityInternal.1, M_AbstractStringBuilder_newCapacity.1, M_AbstractStringBuilder_putStringAt.1, M_AbstractStringBuilder_inflateIfNeededFor.1]
def PrOk (Γ : G9) : Prop := ∀ y ∈ prvL, SF Γ (fun _ U _ => (Cond.selects "java/lang/StringBuilder" y y).before #[] U = true)
theorem sel_args {C : String} {x y : MethodName} {a b : Array Value} {s : State} (h : (Cond.selects C x y).before a s = true) : (Cond.selects C x y).before b s = true := by
  simp only [Cond.before, Cond.holds, Cond.value] at h ⊢
  exact h
/-- a private method is its own, on an object of a class below too -/
theorem sel_priv {C : String} {x y : MethodName} {a : Array Value} {s : State} (hc : x.cls = y.cls) (hs : (Cond.selects C x x).before a s = true) (hy : y.cls ≠ "java/lang/invoke/MethodHandle" ∧ y.cls ≠ "java/lang/invoke/VarHandle") (hpriv : (Cond.privateMethod y).before a s = true) (hinst : (Cond.instanceMethod y).before a s = true) : (Cond.selects C y y).before a s = true := by
  obtain ⟨c, r, m, h1, h2, h3, h4, kP, h5, h6⟩ := Cond.selects_spec hs
  obtain ⟨mk, methM, hnamed, hmethM, -, -⟩ := Cond.instanceMethod_spec hinst
  have hfound : s.methodFound? y.cls y.name y.desc = some mk := State.methodFound?_of_named hnamed hy
  have hcls : mk.cls = m.cls := Option.some.inj ((findClass_of_methodNamed hnamed).symm.trans ((congrArg s.vm.findClass hc.symm).trans (findClass_of_methodNamed h3)))
  have hsel : selectMethod {} s.vm c mk = .method mk := selectMethod_private hmethM (Cond.privateMethod_at hpriv mk methM hnamed hmethM)
  simp only [Cond.before, Cond.holds, Cond.value, h1, hfound, hnamed, hsel, hcls, h5]
  simp
  exact h6
theorem Rp.low {Γ : G9} {h : AH} {H : Heap} (hR : Rp Γ h H) : ∀ x : Nat, H.size ≤ x → h x = none := by
  intro x hx
  cases e : h x with
  | none => rfl
  | some v => exact absurd (hR.lt e) (by omega)
section GoSb
variable {Γ : G9} {M : MI} {d C S pc q : Nat} {L : List (Option Value)} {st : List Value} {h : AH} {z : Nat} {Q : QT} {X : XT}
/-- nothing stands behind the heap's end -/
theorem Go.low (k : (∀ x : Nat, z ≤ x → h x = none) → Go Γ M d C S pc L st h z Q X) : Go Γ M d C S pc L st h z Q X := by
  intro p e R s m args below meth c H locs cells slots ls Z hc
  have hz := hc.2.2.2.1
  subst hz
  exact k hc.2.2.1.2.2.1.low _ _ _ _ _ _ _ _ _ _ _ _ _ _ _ hc
/-- what stands in the heap may be forgotten -/
theorem Go.drop {h' : AH} (hs : ∀ (x : Nat) (e : va_E), h' x = some e → h x = some e) (k : Go Γ M d C S pc L st h' z Q X) : Go Γ M d C S pc L st h z Q X := by
  intro p e R s m args below meth c H locs cells slots ls Z hc
  obtain ⟨hF, hr, ⟨h1, h2, h3, h4⟩, hz⟩ := hc
  exact k _ _ _ _ _ _ _ _ _ _ _ _ _ _ _ ⟨hF, hr, ⟨h1, h2, fun a e he => h3 a e (hs a e he), h4⟩, hz⟩
theorem Go.ishl {x y : Int32} (hd : decode M.2.1 pc = .ok (.ishl, 1)) (hq : pc + 1 = q) (k : Go Γ M d C S q L (.int (x <<< (y &&& 31)) :: st) h z Q X) : Go Γ M d C S pc L (.int y :: .int x :: st) h z Q X := by
  subst hq
  exact Go.pure k (fun hx hb _ k => lv_ishl hx hb hd k)
/-- a field of an object whose class has it from the one above -/
theorem Go.putfield2 {idx ci k a : Nat} {fs : List Value} {ty : FieldType} {v : Value} (hd : decode M.2.1 pc = .ok (.putfield idx, 3)) (hq : pc + 3 = q) (lk : FPk2 M.1.cls idx ci k ty) (ho : h a = some (.inr (ci, fs))) (hl : k < fs.length) (hn : narrow ty v = v) (hfit : fits ty v = true) (kk : Go Γ M d C S q L st (hup h a (.inr (ci, fs.set k v))) z Q X) : Go Γ M d C S pc L (v :: .ref a :: st) h z Q X := by
  intro p e R s m args below meth c H locs cells slots ls Z hc
  subst hq
  have hF := hc.1
  have hH := hc.2.2.1
  obtain ⟨Cn, T, N, tys, hci, hk, hfin, h3, hin, hty, hnm, hdsc⟩ := lk
  have hts := hF.2.2.2.2.2.1
  have hown := hF.2.2.2.2.1
  have hK := hH.1.2.2.1
  have hap := va_apart (own := M.1.cls) hts hin tys hty hnm hK hci
  obtain ⟨r, h1, cell, q1, q2, q3, q4⟩ := (hH.2.2.1 a _ ho).2
  have hr : r = (Cn, T, N) := Option.some.inj (h1.symm.trans hci)
  subst hr
  obtain ⟨hSl, hfc, kC, hkC, hkind⟩ := hK.1 ci _ hci
  obtain ⟨cf, kf, fi, f, hi, hsl⟩ := hSl k hk
  have hst := (u_facts hfc hkC (u_lays hts hin hk) hi).1
  have hlay := hts _ (hin _ (u_in_lay hk))
  unfold u_lay at hlay
  have fin : ∀ H' : Heap, H'[a]? = some (cell.setSlot f.slot v) → H'.size = H.size → (∀ q : Nat, q ≠ a → H'[q]? = H[q]?) → W p (g_l Γ) e R s m args below meth c H' (locs ++ [⟨a, f.slot⟩]) cells slots Z (F0 m (pc + 3) ls st) := by
    intro H' e1 e2 e3
    rw [hsl] at e1
    exact kk _ _ _ _ _ _ _ _ _ _ _ _ _ _ _ ⟨hc.1, hc.2.1, hH.wr ho ⟨_, hci, t_OB.to (V := updV (vp_V fs) k v) ⟨_, e1, q2, q3, t_set q4 hap hk v⟩ (fun j _ => vp_updV_set hl v j)⟩ e2 e3, by rw [e2]; exact hc.2.2.2.1, hc.2.2.2.2⟩
  rw [if_neg (by rw [hfin]; decide)] at hlay
  have h6 := u_store hfc hkC hkind hlay hi hdsc hn hfit
  exact W.putK hF.1 hF.2.1 (f := f) ⟨hown, hts _ h3, ⟨_, _, _, hi⟩, hst⟩ (by rw [q2]; exact h6) q1 q3 (by rw [hsl]; exact k2_hasslot (q4 k hk)) rfl rfl hd fin
/-- a builder's method that stands in the class above, or is private there -/
theorem Go.callB {Mx M' : MI} {n d' C' S' C1 S1 idx b : Nat} {Q' : QT} {X' : XT} {as rest fs : List Value} (hd : decode M.2.1 pc = .ok (.invokevirtual idx, 3)) (hq : pc + 3 = q) (lk : Cond.methodLink M.1.cls idx Mx.1 ∈ gw) (ok : OkU Mx M' n) (hsel : Cond.selects "java/lang/StringBuilder" Mx.1 M'.1 ∈ gw ∨ SF Γ (fun _ U _ => (Cond.selects "java/lang/StringBuilder" Mx.1 M'.1).before #[] U = true)) (hn : as.length = n) (ho : h b = some (.inr (10, fs))) (hst : st = as.reverse ++ .ref b :: rest)
    (hc : Call Γ M' d' C' S' (.ref b :: as) h z Q' X') (hd' : d' + 1 ≤ d) (hml : M'.2.2.1 ≤ 21) (hC : C' + C1 ≤ C) (hS : S' + S1 ≤ S) (hw : (rest.map fun v => v.category).sum ≤ 8)
    (kx : ∀ E h' z', X' E h' z' → z ≤ z' → GoX Γ M d C1 S1 pc L E h' z' Q X) (kk : ∀ v h' z', Q' v h' z' → z ≤ z' → Go Γ M d C1 S1 q L (v.toList ++ rest) h' z' Q X) : Go Γ M d C S pc L st h z Q X := by
  subst hq
  refine Go.after (Q' := Q') (X' := X') (C' := C') (S' := S') (av := (Value.ref b :: as).toArray) (rest := rest) (fun p e R s m args below meth c H locs cells slots ls Z hx => ?_) hC hS kx kk
  obtain ⟨r1, r2, r3, r4⟩ := hx.2.1
  have hts := hx.1.2.2.2.2.2.1
  have hH := hx.2.2.1
  obtain ⟨⟨x1, x2, x3, x4, x5⟩, x6, x7, x8, ⟨g1, g2, g3, g4, g5⟩, g6, g7⟩ := ok
  rw [mi_w_nil g6] at g1
  rw [mi_w_nil x6] at x1
  have hs : (Cond.selects "java/lang/StringBuilder" Mx.1 M'.1).before args s = true := hsel.elim (fun w => hts _ w) (fun w => sel_args (w _ _ hH.se))
  have hcell : ∃ cellB : Cell, H[b]? = some cellB ∧ cellB.vm.isStatics = false ∧ s.vm.findClass "java/lang/StringBuilder" = some cellB.cls := va_recv (q := (R_StringBuilder, T_StringBuilder, 4)) hH.1.2.2.1 (hH.2.2.1.one ho) rfl (q0 := 0) rfl
  refine vx_runU (C := "java/lang/StringBuilder") (owner := Mx.1.cls) (x := Mx.1) (As := as) (n := n) (Ts := gw) (own := M.1.cls) ⟨hx.1.1, hx.1.2.1, hx.1.2.2.1, hx.1.2.2.2.2.1, hts⟩ hc ⟨⟨rfl, rfl, (show d' + 1 ≤ R.frames by omega), ?_, by rw [← mi_w_nil g6] at g1; exact gw_pay hts g1, by rw [mi_w_nil g6]; exact List.mem_cons_self⟩, hts _ g1, hts _ g2, ⟨x3, x4⟩, fun sig hsig => ?_, hts _ lk, hts _ x8, va_Decl.of (hts _ x7) (hts _ x1), hs, hts _ g7⟩ ⟨blindP, hcell, fun U hU hW => startP hH hx.2.2.2.1 hU hW⟩ rfl hn (by rw [hx.2.2.2.2.1.1]) hst (lv_room hw) hd ⟨by omega, by omega⟩
  · show 8 + (M'.2.2.1 + 11) + 40 * d' ≤ R.locals
    omega
  · rw [hsig] at x5
    exact (Option.some.inj x5).symm
/-- a builder's super.m(..) -/
theorem Go.callBs {M' : MI} {n d' C' S' C1 S1 idx b : Nat} {Q' : QT} {X' : XT} {as rest fs : List Value} (hd : decode M.2.1 pc = .ok (.invokespecial idx, 3)) (hq : pc + 3 = q) (lk : Cond.methodLink M.1.cls idx M'.1 ∈ gw) (hsup : Cond.superclass M.1.cls M'.1.cls ∈ gw) (ok : OkSu M' n) (hn : as.length = n) (ho : h b = some (.inr (10, fs))) (hst : st = as.reverse ++ .ref b :: rest)
    (hc : Call Γ M' d' C' S' (.ref b :: as) h z Q' X') (hd' : d' + 1 ≤ d) (hml : M'.2.2.1 ≤ 21) (hC : C' + C1 ≤ C) (hS : S' + S1 ≤ S) (hw : (rest.map fun v => v.category).sum ≤ 8)
    (kx : ∀ E h' z', X' E h' z' → z ≤ z' → GoX Γ M d C1 S1 pc L E h' z' Q X) (kk : ∀ v h' z', Q' v h' z' → z ≤ z' → Go Γ M d C1 S1 q L (v.toList ++ rest) h' z' Q X) : Go Γ M d C S pc L st h z Q X := by
  subst hq
  refine Go.after (Q' := Q') (X' := X') (C' := C') (S' := S') (av := (Value.ref b :: as).toArray) (rest := rest) (fun p e R s m args below meth c H locs cells slots ls Z hx => ?_) hC hS kx kk
  obtain ⟨r1, r2, r3, r4⟩ := hx.2.1
  have hts := hx.1.2.2.2.2.2.1
  have hH := hx.2.2.1
  obtain ⟨⟨g1, g2, g3, g4, g5⟩, g6, g7, g8, g9⟩ := ok
  rw [mi_w_nil g6] at g1
  have hat : ClassAt s "java/lang/StringBuilder" ((g_D Γ).1 10) := (hH.1.2.2.1.1 10 (R_StringBuilder, T_StringBuilder, 4) rfl).2
  have hcell : ∃ cellB : Cell, H[b]? = some cellB ∧ cellB.vm.isStatics = false ∧ s.vm.findClass "java/lang/StringBuilder" = some cellB.cls := va_recv (q := (R_StringBuilder, T_StringBuilder, 4)) hH.1.2.2.1 (hH.2.2.1.one ho) rfl (q0 := 0) rfl
  refine vx_runSU (C := "java/lang/StringBuilder") (As := as) (n := n) (Ts := gw) (own := M.1.cls) hat ⟨hx.1.1, hx.1.2.1, hx.1.2.2.1, hx.1.2.2.2.2.1, hts⟩ hc ⟨⟨rfl, rfl, (show d' + 1 ≤ R.frames by omega), ?_, by rw [← mi_w_nil g6] at g1; exact gw_pay hts g1, by rw [mi_w_nil g6]; exact List.mem_cons_self⟩, hts _ lk, hts _ g8, hts _ hsup, hts _ g7, hts _ g2, hts _ g1, g9, fun sig hsig => ?_⟩ ⟨blindP, hcell, fun U hU hW => startP hH hx.2.2.2.1 hU hW⟩ rfl hn (by rw [hx.2.2.2.2.1.1]) hst (lv_room hw) hd ⟨by omega, by omega⟩
  · show 8 + (M'.2.2.1 + 11) + 40 * d' ≤ R.locals
    omega
  · rw [hsig] at g5
    exact (Option.some.inj g5).symm
/-- N bytes at v: a constant's, or ones that were made -/
def BYF (Γ : G9) (h : AH) (v N : Nat) (f : Nat → Int32) : Prop := SF Γ (va_T .byte v N (fun j => .int (f j))) ∨ h v = some (aB Γ N f)
theorem Go.bylen {v N : Nat} {f : Nat → Int32} {n : Int32} (hd : decode M.2.1 pc = .ok (.arraylength, 1)) (hq : pc + 1 = q) (hb : BYF Γ h v N f) (hn : nI N = n) (kk : Go Γ M d C S q L (.int n :: st) h z Q X) : Go Γ M d C S pc L (.ref v :: st) h z Q X := by
  rcases hb with hb | hb
  · exact Go.alenS hd hq hb hn kk
  · exact Go.alen (t := 2) hd hq hb rfl hn kk
theorem Go.byload {v N : Nat} {f : Nat → Int32} {i : Int32} (hd : decode M.2.1 pc = .ok (.baload, 1)) (hq : pc + 1 = q) (hb : BYF Γ h v N f) (hin : vp_in i N) (kk : Go Γ M d C S q L (.int (f i.toNatClampNeg) :: st) h z Q X) : Go Γ M d C S pc L (.int i :: .ref v :: st) h z Q X := by
  rcases hb with hb | hb
  · exact Go.baloadS hd hq hb hin kk
  · exact Go.baload hd hq hb hin kk
theorem by_cell {s : State} {H : Heap} {locs : List Loc} {v N : Nat} {f : Nat → Int32} (hH : HS Γ s H h locs) (hb : BYF Γ h v N f) : ∃ cs : Cell, H[v]? = some cs ∧ s.isArrayOf cs .byte ∧ cs.vm ≠ .unknown ∧ N ≤ cs.slots.size ∧ ∀ j : Nat, j < N → cs.slots.getD j .null = .int (f j) := by
  rcases hb with hb | hb
  · obtain ⟨cell, h1, h2, h3, h4, -, h6, -⟩ := (hb _ _ hH.se).kept hH.2.1.2.1
    exact ⟨cell, h1, h2, h3, h4, fun j hj => by rw [Array.getD_eq_getD_getElem?, h6 j hj]; rfl⟩
  · refine ⟨_, (hH.2.2.1 v _ hb).2, (hH.1.2.2.1.2 2 _ rfl).1 N (fun j => .int (f j)), fun w => (by cases w), ?_, fun j hj => ?_⟩
    · show N ≤ (arrV _ _ _).slots.size
      rw [arrV_size]
      exact Nat.le_refl _
    · show (arrV (g_k Γ 2) N (fun j => .int (f j))).slots.getD _ _ = _
      rw [Array.getD_eq_getD_getElem?, arrV_read _ _ hj]
      rfl
theorem cp_bytes {cs : Cell} {c1 n1 n dp : Nat} {f g : Nat → Int32} (hf : ∀ j : Nat, j < n → cs.slots.getD j .null = .int (f j)) (hdp : dp < 2 ^ 31) (hn : n < 2 ^ 31) : copied cs (arrV c1 n1 (fun j => .int (g j))) 0 (nI dp) (nI n) = arrV c1 n1 (fun j => .int (va_cpy f g 0 dp n j)) := by
  show (arrV c1 n1 (fun j => .int (g j))).storeRun (nI dp).toNatClampNeg (cs.stretch (0 : Int32).toNatClampNeg (nI n).toNatClampNeg) = _
  have e0 : (0 : Int32).toNatClampNeg = 0 := by decide
  rw [nI_clamp hdp, nI_clamp hn, e0, show cs.stretch 0 n = (arrV c1 n (fun j => .int (f j))).stretch 0 n from ?_]
  · exact va_copied (fun z => .int z) c1 c1 f g (Nat.le_of_eq (Nat.zero_add n))
  · unfold Cell.stretch
    refine List.map_congr_left fun i hi => ?_
    have hi := List.mem_range.mp hi
    rw [Nat.zero_add, hf i hi, Array.getD_eq_getD_getElem?, arrV_read _ _ hi]
    rfl
set_option maxHeartbeats 1000000 in
/-- System.arraycopy of the first n bytes of a row into another, from its place dp on -/
theorem Go.bcopy {v a1 N n m dp idx : Nat} {f g : Nat → Int32} (hd : decode M.2.1 pc = .ok (.invokestatic idx, 3)) (hq : pc + 3 = q) (hlink : Cond.methodLink M.1.cls idx arraycopyName ∈ gw) (hb : BYF Γ h v N f) (hbf : ∀ j, j < n → fits .byte (.int (f j)) = true) (h1 : h a1 = some (aB Γ m g)) (hn : n ≤ N) (hm : dp + n ≤ m) (hM : m < 2 ^ 31) (hdd : Nat.ble 3 d = true) (hw : Nat.ble (st.map fun v => v.category).sum 8 = true) (kk : Go Γ M d C S q L st (hup h a1 (aB Γ m (va_cpy f g 0 dp n))) z Q X) : Go Γ M d C S pc L (.int (nI n) :: .int (nI dp) :: .ref a1 :: .int 0 :: .ref v :: st) h z Q X := by
  have hdd := Nat.le_of_ble_eq_true hdd
  have hw := Nat.le_of_ble_eq_true hw
  subst hq
  intro p e R s m' args below meth c H locs cells slots ls Z hc
  obtain ⟨r1, r2, r3, r4⟩ := hc.2.1
  have hts := hc.1.2.2.2.2.2.1
  have hH := hc.2.2.1
  have hK := hH.1.2.2.1
  have hz := hc.2.2.2.1
  obtain ⟨cs, hc0, ⟨hst0, k0, hk0, cm0, hkk0⟩, hun, hsz0, hval⟩ := by_cell hH hb
  have hc1 : H[a1]? = some (arrV (g_k Γ 2) m (fun j => .int (g j))) := (hH.2.2.1 a1 _ h1).2
  intro T hT Y
  have k3 : (0 : Int32).toNatClampNeg = 0 := by decide
  have k4 : (nI n).toNatClampNeg = n := nI_clamp (by omega)
  have k6 : (nI dp).toNatClampNeg = dp := nI_clamp (by omega)
  have k5 : ¬ nI n < 0 := nI_pos (by omega)
  have k7 : ¬ nI dp < 0 := nI_pos (by omega)
  obtain ⟨-, k1, hk1, cm1, hkk1⟩ := (hK.2 2 _ rfl).1 m (fun j => .int (g j))
  obtain ⟨vm', X', step⟩ := Y.arraycopy hc.1.1 (own := M.1.cls) hc.1.2.2.2.2.1 (hts _ hlink) (hts _ x_acn) (hts _ x_acs) (hts _ x_acini) (src := v) (dst := a1) (cs := cs) (cd := arrV (g_k Γ 2) m (fun j => .int (g j))) (srcPos := 0) (destPos := nI dp) (n := nI n) (by rw [hT]; exact hc0) (by rw [hT]; exact hc1)
    hst0 (fun _ h => by cases h) hun (fun h => by cases h) hk0 hk1 hkk0 hkk1 rfl (by decide) k7 k5
    (by rw [nat_of_nn (y := 0) (by decide), nat_of_nn k5, k3, k4]; omega)
    (by rw [nat_of_nn k7, nat_of_nn k5, k6, k4]; show ¬ _ > ((arrV (g_k Γ 2) m (fun j => .int (g j))).slots.size : Int); rw [arrV_size]; omega)
    (fun vm₁ _ i hi => by
      rw [k4] at hi
      rw [k3, Nat.zero_add, hval i (by omega)]
      exact ⟨hbf i hi, trivial⟩)
    (g := F0 m' pc ls (.int (nI n) :: .int (nI dp) :: .ref a1 :: .int 0 :: .ref v :: st)) rfl (by rw [hc.1.2.2.1]; exact hc.2.2.2.2.1.1) (rest := st) rfl (by rw [hc.1.2.1]; exact hd) (by omega) (by
      have : nativeFrameWords "java/lang/System" "arraycopy" 5 + 11 ≤ 60 := by decide
      show 2 * 0 + _ + _ ≤ _
      omega)
  rw [cp_bytes (f := f) (fun j hj => hval j (by omega)) (by omega) (by omega)] at X' step
  have hl : a1 < H.size := (Array.getElem?_eq_some_iff.mp hc1).1
  generalize hcN : arrV (g_k Γ 2) m (fun j => Value.int (va_cpy f g 0 dp n j)) = cN at X' step
  have hheap : ((T.setVm vm').setCell a1 cN).heap = H.setIfInBounds a1 cN := by rw [← hT]; rfl
  have oq : ∀ q : Nat, q ≠ a1 → (H.setIfInBounds a1 cN)[q]? = H[q]? := fun q hq => by simp [Array.getElem?_setIfInBounds, Ne.symm hq]
  have hsz : (H.setIfInBounds a1 cN).size = H.size := by simp
  have hla := (hH.2.2.1 a1 _ h1).1
  obtain ⟨t, b1, b2⟩ := kk _ _ _ _ _ _ _ _ _ (H.setIfInBounds a1 cN) _ _ _ _ _ ⟨hc.1, ⟨r1, r2, r3, r4⟩, ⟨hH.1.heap (fun q hq => oq q (by omega)) (by omega), ⟨by rw [hsz]; exact hH.2.1.1, fun q g1 g2 => by
      rw [oq q (fun e => g2 (by rw [e]; exact hla))]
      exact hH.2.1.2.1 q g1 g2, fun q hq => by
      rcases List.mem_append.mp hq with h | h
      · exact hH.2.1.2.2 q h
      · obtain ⟨y, -, hy⟩ := List.mem_map.mp h
        rw [← hy]
        exact hla⟩, hH.2.2.1.upd1 hla (show (H.setIfInBounds a1 cN)[a1]? = some _ by rw [← hcN]; simp [Array.getElem?_setIfInBounds, hl]; rfl) oq, hH.2.2.2⟩, by rw [hsz]; exact hz, hc.2.2.2.2⟩ _ hheap X'
  exact ⟨t, step t b1, b2⟩
end GoSb

