/-! the builder of text and its strings: contracts -/
theorem x_cl1 : Cond.methodLink "java/util/Arrays" 310 ⟨"[B", "clone", "()Ljava/lang/Object;"⟩ ∈ gw := gm_6 (List.mem_of_getElem? (i := 27) rfl) rfl
theorem x_cl2 : Cond.sameMethod "[B" "java/lang/Object" "clone" "()Ljava/lang/Object;" ∈ gw := gm_6 (List.mem_of_getElem? (i := 28) rfl) rfl
theorem x_cl3 : Cond.native ⟨"java/lang/Object", "clone", "()Ljava/lang/Object;"⟩ ∈ gw := gm_6 (List.mem_of_getElem? (i := 29) rfl) rfl
theorem x_cl4 : Cond.instanceMethod ⟨"java/lang/Object", "clone", "()Ljava/lang/Object;"⟩ ∈ gw := gm_6 (List.mem_of_getElem? (i := 30) rfl) rfl
theorem x_cl5 : Cond.selects "[B" ⟨"[B", "clone", "()Ljava/lang/Object;"⟩ ⟨"java/lang/Object", "clone", "()Ljava/lang/Object;"⟩ ∈ gw := gm_6 (List.mem_of_getElem? (i := 31) rfl) rfl
theorem x_cl6 : Cond.castable "[B" "java/lang/Cloneable" ∈ nw := gn_6 (List.mem_of_getElem? (i := 32) rfl) rfl
theorem x_cl7 : Cond.classLink "java/util/Arrays" 311 "[B" ∈ gw := gm_6 (List.mem_of_getElem? (i := 33) rfl) rfl
theorem x_k200 : Cond.constant "jdk/internal/util/ArraysSupport" 200 2147483639 ∈ gw := gm_6 (List.mem_of_getElem? (i := 19) rfl) rfl
theorem x_k39 : Cond.constant "java/lang/AbstractStringBuilder" 39 2147483647 ∈ gw := gm_6 (List.mem_of_getElem? (i := 23) rfl) rfl
theorem x_ldStr : Cond.classLink "java/lang/StringBuilder" 18 "java/lang/String" ∈ gw := gm_6 (List.mem_of_getElem? (i := 170) rfl) rfl
theorem x_insStr : Cond.instantiable "java/lang/String" 4 ∈ gw := gm_6 (List.mem_of_getElem? (i := 171) rfl) rfl
theorem x_iniStr : Cond.initialized "java/lang/String" ∈ gw := gm_1 (List.mem_of_getElem? (i := 12) rfl) rfl

def iMax_n {x y : Nat} (hx : x < 2 ^ 31) (hy : y < 2 ^ 31) : iMax (nI x) (nI y) = nI (max x y) := by
  unfold iMax
  by_cases h : x < y
  · rw [if_pos (nI_lt h hy), Nat.max_eq_right (Nat.le_of_lt h)]
  · rw [if_neg (nI_nlt (Nat.not_lt.mp h) hx), Nat.max_eq_left (Nat.not_lt.mp h)]
theorem iMin_n {x y : Nat} (hx : x < 2 ^ 31) (hy : y < 2 ^ 31) : iMin (nI x) (nI y) = nI (min x y) := by
  unfold iMin
  by_cases h : y < x
  · rw [if_pos (nI_lt h hx), Nat.min_eq_right (Nat.le_of_lt h)]
  · rw [if_neg (nI_nlt (Nat.not_lt.mp h) hy), Nat.min_eq_left (Nat.not_lt.mp h)]
theorem sh0 (x : Int32) : x <<< ((0 : Int32) &&& 31) = x := by
  have : (0 : Int32) &&& 31 = 0 := by decide
  rw [this]
  exact Int32.shiftLeft_zero
theorem nI_sub {a b : Nat} (h : b ≤ a) : nI a - nI b = nI (a - b) := by
  have e : nI (a - b) + nI b = nI a := by rw [nI_add]; congr 1; omega
  rw [← e, Int32.add_sub_cancel]
theorem fit_b (x : Int32) : fits .byte (.int x.toInt8.toInt32) = true := by
  have h1 : (-128 : Int) ≤ x.toInt8.toInt := Int8.le_toInt _
  have h2 : x.toInt8.toInt < 128 := Int8.toInt_lt _
  simp only [fits, Bool.and_eq_true, decide_eq_true_eq, Int32.le_iff_toInt_le, Int8.toInt_toInt32]
  have e1 : (-128 : Int32).toInt = -128 := by decide
  have e2 : (127 : Int32).toInt = 127 := by decide
  rw [e1, e2]
  omega
/-- h2 holds what h holds -/
def Ext (h h2 : AH) : Prop := ∀ (x : Nat) (e : va_E), h x = some e → h2 x = some e
theorem Ext.rf {h : AH} : Ext h h := fun _ _ w => w
theorem Ext.tr {h h2 h3 : AH} (a : Ext h h2) (b : Ext h2 h3) : Ext h h3 := fun x e w => b x e (a x e w)
theorem Ext.up {h : AH} {z : Nat} {e : va_E} (hz : h z = none) : Ext h (hup h z e) := by
  intro x e' hx
  unfold hup
  by_cases hxz : x = z
  · subst hxz
    rw [hz] at hx
    cases hx
  · rw [if_neg hxz]
    exact hx
section GoBd
variable {Γ : G9} {M : MI} {d C S pc q : Nat} {L : List (Option Value)} {st : List Value} {h : AH} {z : Nat} {Q : QT} {X : XT}
theorem Go.ldcI {idx : Nat} {v : Int32} (hd : decode M.2.1 pc = .ok (.ldc idx, 2)) (hq : pc + 2 = q) (lk : Cond.constant M.1.cls idx v ∈ gw) (kk : Go Γ M d C S q L (.int v :: st) h z Q X) : Go Γ M d C S pc L st h z Q X := by
  subst hq
  intro p e R s m args below meth c H locs cells slots ls Z hc
  exact lv_ldc hc.1.1 hc.1.2.1 hc.1.2.2.2.2.1 (hc.1.2.2.2.2.2.1 _ lk) hd (kk _ _ _ _ _ _ _ _ _ _ _ _ _ _ _ hc)
/-- a row of bytes may be pictured as another one that is the same within the row -/
theorem Go.picB {a n : Nat} {f g : Nat → Int32} (ha : h a = some (aB Γ n f)) (hf : ∀ j, j < n → f j = g j) (kk : Go Γ M d C S pc L st (hup h a (aB Γ n g)) z Q X) : Go Γ M d C S pc L st h z Q X := by
  intro p e R s m args below meth c H locs cells slots ls Z hc
  obtain ⟨hF, hr, ⟨h1, h2, h3, h4⟩, hz⟩ := hc
  refine kk _ _ _ _ _ _ _ _ _ _ _ _ _ _ _ ⟨hF, hr, ⟨h1, h2, fun b e' hb => ?_, h4⟩, hz⟩
  unfold hup at hb
  by_cases hba : b = a
  · rw [if_pos hba] at hb
    cases hb
    subst hba
    obtain ⟨g1, g2⟩ := h3 b _ ha
    refine ⟨g1, ?_⟩
    have g2 : H[b]? = some (vp_cell (g_k Γ 2) (n, .inl f)) := g2
    show H[b]? = some (vp_cell (g_k Γ 2) (n, .inl g))
    rw [g2, vp_cell_i, vp_cell_i, arrV_ext (fun j hj => by rw [hf j hj])]
  · rw [if_neg hba] at hb
    exact h3 b e' hb
/-- a row of bytes is cloned -/
theorem Go.cloneB {a n C1 S1 : Nat} {f : Nat → Int32} (hd : decode M.2.1 pc = .ok (.invokevirtual 310, 3)) (hq : pc + 3 = q) (hM : M.1.cls = "java/util/Arrays") (ho : h a = some (aB Γ n f)) (hf : ∀ j, j < n → fits .byte (.int (f j)) = true) (hC : C1 + 1 ≤ C) (hS : S1 + n ≤ S) (hdd : Nat.ble 3 d = true) (hw : Nat.ble (st.map fun v => v.category).sum 8 = true) (kk : Go Γ M d C1 S1 q L (.ref z :: st) (hup h z (aB Γ n f)) (z + 1) Q X) : Go Γ M d C S pc L (.ref a :: st) h z Q X := by
  have hdd := Nat.le_of_ble_eq_true hdd
  have hw := Nat.le_of_ble_eq_true hw
  subst hq
  intro p e R s m args below meth c H locs cells slots ls Z hc
  obtain ⟨r1, r2, r3, r4⟩ := hc.2.1
  have hts := hc.1.2.2.2.2.2.1
  have hH := hc.2.2.1
  have hK := hH.1.2.2.1
  have hz := hc.2.2.2.1
  subst hz
  have hown := hc.1.2.2.2.2.1
  rw [hM] at hown
  have hnm : s.vm.findClass "[B" = some (g_k Γ 2) := (hK.2 2 _ rfl).2
  have hca : H[a]? = some (arrV (g_k Γ 2) n (fun j => .int (f j))) := (hH.2.2.1 a _ ho).2
  obtain ⟨c0, t0', f1, f2, f3⟩ := Cond.castable_spec (va_Nw.use (A := args) rfl (hH.1.2.2.2.2.2 _ x_cl6))
  cases hnm.symm.trans f1
  intro T hT Y
  obtain ⟨-, kA, hkA, comp, hkind⟩ := State.isArrayOf_alike Y.warmed.alike ((hK.2 2 _ rfl).1 0 (fun _ => .null))
  obtain ⟨-, kS, hkS, compS, hkindS⟩ := (hK.2 2 _ rfl).1 0 (fun _ => .null)
  have hsz : (arrV (g_k Γ 2) n (fun j => Value.int (f j))).slots.size = n := arrV_size _ _ _
  obtain ⟨vm', X', st⟩ := Y.cloneArray hc.1.1 hown (hts _ x_cl1) (hts _ x_cl2) (hts _ x_cl3) (hts _ x_cl4) (hts _ x_cl5) (a := a) (cell := arrV (g_k Γ 2) n (fun j => .int (f j))) (by rw [hT]; exact hca) (fun k h => by cases h) (fun h => by cases h) hnm f2 f3
    (fun i v hv => by
      have hk' : T.vm.classes[g_k Γ 2]? = some kA := hkA
      have hi : i < n := by
        have := (Array.getElem?_eq_some_iff.mp hv).1
        rw [hsz] at this
        exact this
      rw [arrV_read _ _ hi] at hv
      cases hv
      show T.fitsSlot (g_k Γ 2) .none i (.int (f i)) = true
      simpa [State.fitsSlot, State.slotType?, hk', hkind] using hf i hi)
    (g := F0 m pc ls (.ref a :: st)) rfl (by rw [hc.1.2.2.1]; exact hc.2.2.2.2.1.1) rfl (by rw [hc.1.2.1]; exact hd) (by omega) (by show 2 * 0 + _ + 14 ≤ _; omega) (show cells + 1 ≤ R.cells by omega) (by rw [hsz]; omega) (hloader := Vm.clonesLoader_of_array hkS hkindS)
  rw [hsz] at X'
  have hce : ({ cls := (arrV (g_k Γ 2) n (fun j => Value.int (f j))).cls, slots := (arrV (g_k Γ 2) n (fun j => Value.int (f j))).slots } : Cell) = arrV (g_k Γ 2) n (fun j => .int (f j)) := rfl
  rw [hce] at X'
  generalize hH1 : H.push (arrV (g_k Γ 2) n (fun j => Value.int (f j))) = H1
  have z1 : H1.size = H.size + 1 := by rw [← hH1, Array.size_push]
  have e1 : H1[H.size]? = some (arrV (g_k Γ 2) n (fun j => .int (f j))) := by rw [← hH1, Array.getElem?_push_size]
  have o1 : ∀ q : Nat, q < H.size → H1[q]? = H[q]? := fun q hq => by rw [← hH1, Array.getElem?_push, if_neg (Nat.ne_of_lt hq)]
  obtain ⟨t, b1, b2⟩ := kk _ _ _ _ _ _ _ _ _ H1 locs (cells + 1) (slots + n) _ _ ⟨hc.1, ⟨r1, r2, by omega, by omega⟩, hH.mk (e := aB Γ n f) e1 z1 o1, z1, hc.2.2.2.2⟩ ((T.setVm vm').pushCell (arrV (g_k Γ 2) n (fun j => .int (f j)))) (by rw [← hH1, ← hT]; rfl) X'
  refine ⟨t, st t ?_, b2⟩
  rw [hce, hT]
  exact b1
theorem Go.castB {a n : Nat} {f : Nat → Int32} (hd : decode M.2.1 pc = .ok (.checkcast 311, 3)) (hq : pc + 3 = q) (hM : M.1.cls = "java/util/Arrays") (ho : h a = some (aB Γ n f)) (kk : Go Γ M d C S q L (.ref a :: st) h z Q X) : Go Γ M d C S pc L (.ref a :: st) h z Q X := by
  subst hq
  intro p e R s m args below meth c H locs cells slots ls Z hc
  have hown := hc.1.2.2.2.2.1
  rw [hM] at hown
  exact va_castA hc.1.1 hc.1.2.1 hown (hc.1.2.2.2.2.2.1 _ x_cl7) (hc.2.2.1.2.2.1.one ho) 0 rfl (hc.2.2.1.1.2.2.1.2 2 _ rfl).2 hd (kk _ _ _ _ _ _ _ _ _ _ _ _ _ _ _ hc)
end GoBd
/-- a builder, its row at v, n letters long -/
abbrev sbO (v n : Nat) : va_E := .inr (10, [.ref v, .int 0, .int 0, .int (nI n)])
/-- a string that was made -/
abbrev stO (v : Nat) : va_E := .inr (11, [.ref v, .int 0, .int 0, .int 0])
/-- the string l stands at a -/
def STR (Γ : G9) (h : AH) (a : Nat) (l : List Int32) : Prop := StOk Γ a l ∨ ∃ v, h a = some (stO v) ∧ h v = some (aB Γ l.length (fun j => l.getD j 0))
theorem STR.ext {Γ : G9} {h h2 : AH} {a : Nat} {l : List Int32} (hs : STR Γ h a l) (he : Ext h h2) : STR Γ h2 a l := by
  rcases hs with hs | ⟨v, h1, h2⟩
  · exact Or.inl hs
  · exact Or.inr ⟨v, he _ _ h1, he _ _ h2⟩
section GoStr2
variable {Γ : G9} {M : MI} {d C S pc q : Nat} {L : List (Option Value)} {st : List Value} {h : AH} {z : Nat} {Q : QT} {X : XT}
theorem Go.strval {a : Nat} {l : List Int32} (hM : M.1.cls = "java/lang/String") (hd : decode M.2.1 pc = .ok (.getfield 9, 3)) (hq : pc + 3 = q) (hs : STR Γ h a l) (kk : ∀ v : Nat, BYF Γ h v l.length (fun j => l.getD j 0) → Go Γ M d C S q L (.ref v :: st) h z Q X) : Go Γ M d C S pc L (.ref a :: st) h z Q X := by
  rcases hs with ⟨-, -, -, v, hv, ht⟩ | ⟨v, h1, h2⟩
  · exact Go.getfS hd hq (by rw [hM]; exact x_String_9) hv (kk v (Or.inl ht))
  · exact Go.getfield hd hq (by rw [hM]; exact f_String_9) h1 rfl (kk v (Or.inr h2))
theorem Go.strcod {a : Nat} {l : List Int32} (hM : M.1.cls = "java/lang/String") (hd : decode M.2.1 pc = .ok (.getfield 15, 3)) (hq : pc + 3 = q) (hs : STR Γ h a l) (kk : Go Γ M d C S q L (.int 0 :: st) h z Q X) : Go Γ M d C S pc L (.ref a :: st) h z Q X := by
  rcases hs with ⟨-, -, hc, -⟩ | ⟨v, h1, h2⟩
  · exact Go.getfS hd hq (by rw [hM]; exact x_String_15) hc kk
  · exact Go.getfield hd hq (by rw [hM]; exact f_String_15) h1 rfl kk
/-- a method of a string -/
theorem Go.callStr {M' : MI} {n d' idx b : Nat} {V : Option Value} {h2 : AH} {as rest : List Value} {l : List Int32} (hM : M'.1.cls = "java/lang/String") (hd : decode M.2.1 pc = .ok (.invokevirtual idx, 3)) (hq : pc + 3 = q) (lk : Cond.methodLink M.1.cls idx M'.1 ∈ gw) (ok : OkV M' n) (hn : as.length = n) (hs : STR Γ h b l) (hst : st = as.reverse ++ .ref b :: rest)
    (hc : CallR Γ M' d' (.ref b :: as) h z V h2) (hd' : Nat.ble (d' + 1) d = true) (hml : Nat.ble M'.2.2.1 21 = true) (hw : Nat.ble (rest.map fun v => v.category).sum 8 = true)
    (kk : Go Γ M d C S q L (V.toList ++ rest) h2 z Q X) : Go Γ M d C S pc L st h z Q X := by
  rcases hs with ⟨-, ho, -⟩ | ⟨v, h1, h2⟩
  · exact Go.callO hd hq lk ok hn (by rw [hM]; exact ho) hst hc hd' hml hw kk
  · exact Go.callV (C1 := C) (S1 := S) hd hq lk ok hn h1 (by rw [hM]; rfl) hst hc (Nat.le_of_ble_eq_true hd') (Nat.le_of_ble_eq_true hml) (Nat.le_of_eq (Nat.zero_add C)) (Nat.le_of_eq (Nat.zero_add S)) (Nat.le_of_ble_eq_true hw) (fun _ _ _ w _ => w.elim) (fun v h' z' w _ => by obtain ⟨rfl, rfl, rfl⟩ := w; exact kk)
end GoStr2
set_option maxRecDepth 100000 in
set_option maxHeartbeats 4000000 in
theorem c2_coder {Γ : G9} {h : AH} {z a : Nat} {l : List Int32} (hk : CsOk Γ) (ha : STR Γ h a l) : CallR Γ M_String_coder 0 [.ref a] h z (some (.int 0)) h := by
  refine Call.of_go (L := [some (.ref a)]) (by decide +kernel) rfl (by exact Nat.le_of_ble_eq_true rfl) ?_
  refine Go.gets d_String_coder_0 rfl x_String_38 hk.1 ?_
  refine Go.if_eq (t := 13) d_String_coder_3 (by decide) rfl (fun w => absurd w (by decide)) (fun _ => ?_)
  refine Go.aload_0 d_String_coder_6 rfl ?_
  refine Go.strcod rfl d_String_coder_7 rfl ha ?_
  refine Go.goto (t := 14) d_String_coder_10 (by decide) ?_
  exact Go.iret d_String_coder_14 rfl rfl ⟨rfl, rfl, rfl⟩
set_option maxRecDepth 100000 in
set_option maxHeartbeats 4000000 in
theorem c2_isLatin1 {Γ : G9} {h : AH} {z a : Nat} {l : List Int32} (hk : CsOk Γ) (ha : STR Γ h a l) : CallR Γ M_String_isLatin1 0 [.ref a] h z (some (.int 1)) h := by
  refine Call.of_go (L := [some (.ref a)]) (by decide +kernel) rfl (by exact Nat.le_of_ble_eq_true rfl) ?_
  refine Go.gets d_String_isLatin1_0 rfl x_String_38 hk.1 ?_
  refine Go.if_eq (t := 17) d_String_isLatin1_3 (by decide) rfl (fun w => absurd w (by decide)) (fun _ => ?_)
  refine Go.aload_0 d_String_isLatin1_6 rfl ?_
  refine Go.strcod rfl d_String_isLatin1_7 rfl ha ?_
  refine Go.if_ne (t := 17) d_String_isLatin1_10 (by decide) rfl (fun w => absurd w (by decide)) (fun _ => ?_)
  refine Go.iconst (v := 1) d_String_isLatin1_13 rfl (by decide) ?_
  refine Go.goto (t := 18) d_String_isLatin1_14 (by decide) ?_
  exact Go.iret d_String_isLatin1_18 rfl rfl ⟨rfl, rfl, rfl⟩
set_option maxRecDepth 100000 in
set_option maxHeartbeats 4000000 in
theorem c2_length {Γ : G9} {h : AH} {z a : Nat} {l : List Int32} (hk : CsOk Γ) (ha : STR Γ h a l) : CallR Γ M_String_length 1 [.ref a] h z (some (.int (nI l.length))) h := by
  refine Call.of_go (L := [some (.ref a)]) (by decide +kernel) rfl (by exact Nat.le_of_ble_eq_true rfl) ?_
  refine Go.aload_0 d_String_length_0 rfl ?_
  refine Go.strval rfl d_String_length_1 rfl ha (fun v hv => ?_)
  refine Go.bylen d_String_length_4 rfl hv rfl ?_
  refine Go.aload_0 d_String_length_5 rfl ?_
  refine Go.callStr (as := []) rfl d_String_length_6 rfl l_String_335 k_String_coder_v rfl ha rfl (c2_coder hk ha) rfl rfl rfl ?_
  refine Go.ishr d_String_length_9 rfl ?_
  rw [nI_shr0]
  exact Go.iret d_String_length_10 rfl rfl ⟨rfl, rfl, rfl⟩
set_option maxRecDepth 100000 in
set_option maxHeartbeats 4000000 in
theorem c2_Preconditions {Γ : G9} {h : AH} {z i n : Nat} {o : Option Nat} (hi : i < n) (hn : n ≤ 2000) : CallR Γ M_Preconditions_checkIndex 0 [.int (nI i), .int (nI n), va_rf o] h z (some (.int (nI i))) h := by
  cases o with
  | none =>
    refine Call.of_go (L := [some (.int (nI i)), some (.int (nI n)), some .null]) (by decide +kernel) rfl (by exact Nat.le_of_ble_eq_true rfl) ?_
    refine Go.iload_0 d_Preconditions_checkIndex_0 rfl ?_
    refine Go.if_lt (t := 9) d_Preconditions_checkIndex_1 (by decide) rfl (fun w => absurd w (nI_pos (by omega))) (fun _ => ?_)
    refine Go.iload_0 d_Preconditions_checkIndex_4 rfl ?_
    refine Go.iload_1 d_Preconditions_checkIndex_5 rfl ?_
    refine Go.icmp_lt (t := 16) d_Preconditions_checkIndex_6 (by decide) rfl (fun _ => ?_) (fun w => absurd ((nI_ltI (by omega) (by omega)).mpr hi) w)
    refine Go.iload_0 d_Preconditions_checkIndex_16 rfl ?_
    exact Go.iret d_Preconditions_checkIndex_17 rfl rfl ⟨rfl, rfl, rfl⟩
  | some t =>
    refine Call.of_go (L := [some (.int (nI i)), some (.int (nI n)), some (.ref t)]) (by decide +kernel) rfl (by exact Nat.le_of_ble_eq_true rfl) ?_
    refine Go.iload_0 d_Preconditions_checkIndex_0 rfl ?_
    refine Go.if_lt (t := 9) d_Preconditions_checkIndex_1 (by decide) rfl (fun w => absurd w (nI_pos (by omega))) (fun _ => ?_)
    refine Go.iload_0 d_Preconditions_checkIndex_4 rfl ?_
    refine Go.iload_1 d_Preconditions_checkIndex_5 rfl ?_
    refine Go.icmp_lt (t := 16) d_Preconditions_checkIndex_6 (by decide) rfl (fun _ => ?_) (fun w => absurd ((nI_ltI (by omega) (by omega)).mpr hi) w)
    refine Go.iload_0 d_Preconditions_checkIndex_16 rfl ?_
    exact Go.iret d_Preconditions_checkIndex_17 rfl rfl ⟨rfl, rfl, rfl⟩
set_option maxRecDepth 100000 in
set_option maxHeartbeats 4000000 in
theorem c2_checkIndex {Γ : G9} {h : AH} {z i n : Nat} (hk : CsOk Γ) (hi : i < n) (hn : n ≤ 2000) : CallR Γ M_String_checkIndex 1 [.int (nI i), .int (nI n)] h z none h := by
  refine Call.of_go (L := [some (.int (nI i)), some (.int (nI n))]) (by decide +kernel) rfl (by exact Nat.le_of_ble_eq_true rfl) ?_
  refine Go.iload_0 d_String_checkIndex_0 rfl ?_
  refine Go.iload_1 d_String_checkIndex_1 rfl ?_
  refine Go.getsq d_String_checkIndex_2 rfl x_String_1053 hk.2 (fun o => ?_)
  refine Go.cs3r d_String_checkIndex_5 rfl l_String_1059 k_Preconditions_checkIndex_s rfl (c2_Preconditions hi hn) rfl rfl rfl ?_
  refine Go.pop d_String_checkIndex_8 rfl rfl ?_
  exact Go.vret d_String_checkIndex_9 rfl ⟨rfl, rfl, rfl⟩
set_option maxRecDepth 100000 in
set_option maxHeartbeats 4000000 in
theorem c2_charAtL {Γ : G9} {h : AH} {z i v : Nat} {l : List Int32} (hk : CsOk Γ) (ht : BYF Γ h v l.length (fun j => l.getD j 0)) (hi : i < l.length) (hl : l.length ≤ 2000) : CallR Γ M_StringLatin1_charAt 2 [.ref v, .int (nI i)] h z (some (.int (chr l i))) h := by
  refine Call.of_go (L := [some (.ref v), some (.int (nI i))]) (by decide +kernel) rfl (by exact Nat.le_of_ble_eq_true rfl) ?_
  refine Go.iload_1 d_StringLatin1_charAt_0 rfl ?_
  refine Go.aload_0 d_StringLatin1_charAt_1 rfl ?_
  refine Go.bylen d_StringLatin1_charAt_2 rfl ht rfl ?_
  refine Go.cs2v d_StringLatin1_charAt_3 rfl l_StringLatin1_9 k_String_checkIndex_s rfl (c2_checkIndex hk hi hl) rfl rfl rfl ?_
  refine Go.aload_0 d_StringLatin1_charAt_6 rfl ?_
  refine Go.iload_1 d_StringLatin1_charAt_7 rfl ?_
  refine Go.byload d_StringLatin1_charAt_8 rfl ht (vp_in_nI (by omega) (by omega)) ?_
  rw [nI_clamp (show i < 2 ^ 31 by omega)]
  refine Go.sipush (v := 255) d_StringLatin1_charAt_9 rfl (by decide) ?_
  refine Go.iand d_StringLatin1_charAt_12 rfl ?_
  refine Go.i2c d_StringLatin1_charAt_13 rfl ?_
  exact Go.iret d_StringLatin1_charAt_14 rfl (chr_id _) ⟨rfl, rfl, rfl⟩
set_option maxRecDepth 100000 in
set_option maxHeartbeats 4000000 in
theorem c2_charAt {Γ : G9} {h : AH} {z a i : Nat} {l : List Int32} (hk : CsOk Γ) (ha : STR Γ h a l) (hi : i < l.length) (hl : l.length ≤ 2000) : CallR Γ M_String_charAt 3 [.ref a, .int (nI i)] h z (some (.int (chr l i))) h := by
  refine Call.of_go (L := [some (.ref a), some (.int (nI i))]) (by decide +kernel) rfl (by exact Nat.le_of_ble_eq_true rfl) ?_
  refine Go.aload_0 d_String_charAt_0 rfl ?_
  refine Go.callStr (as := []) rfl d_String_charAt_1 rfl l_String_492 k_String_isLatin1_v rfl ha rfl (c2_isLatin1 hk ha) rfl rfl rfl ?_
  refine Go.if_eq (t := 16) d_String_charAt_4 (by decide) rfl (fun w => absurd w (by decide)) (fun _ => ?_)
  refine Go.aload_0 d_String_charAt_7 rfl ?_
  refine Go.strval rfl d_String_charAt_8 rfl ha (fun v hv => ?_)
  refine Go.iload_1 d_String_charAt_11 rfl ?_
  refine Go.cs2r d_String_charAt_12 rfl l_String_495 k_StringLatin1_charAt_s rfl (c2_charAtL hk hv hi hl) rfl rfl rfl ?_
  exact Go.iret d_String_charAt_15 rfl (chr_id _) ⟨rfl, rfl, rfl⟩
theorem d_AbstractStringBuilder_isLatin1_0 : decode M_AbstractStringBuilder_isLatin1.2.1 0 = .ok (.getstatic 18, 3) := by decide +kernel
theorem d_AbstractStringBuilder_isLatin1_3 : decode M_AbstractStringBuilder_isLatin1.2.1 3 = .ok (.ifCond .eq 14, 3) := by decide +kernel
theorem d_AbstractStringBuilder_isLatin1_6 : decode M_AbstractStringBuilder_isLatin1.2.1 6 = .ok (.aload_n 0, 1) := by decide +kernel
theorem d_AbstractStringBuilder_isLatin1_7 : decode M_AbstractStringBuilder_isLatin1.2.1 7 = .ok (.getfield 22, 3) := by decide +kernel
theorem d_AbstractStringBuilder_isLatin1_10 : decode M_AbstractStringBuilder_isLatin1.2.1 10 = .ok (.ifCond .ne 7, 3) := by decide +kernel
theorem d_AbstractStringBuilder_isLatin1_13 : decode M_AbstractStringBuilder_isLatin1.2.1 13 = .ok (.iconst 1, 1) := by decide +kernel
theorem d_AbstractStringBuilder_isLatin1_14 : decode M_AbstractStringBuilder_isLatin1.2.1 14 = .ok (.goto 4, 3) := by decide +kernel
theorem d_AbstractStringBuilder_isLatin1_18 : decode M_AbstractStringBuilder_isLatin1.2.1 18 = .ok (.ireturn, 1) := by decide +kernel
set_option maxRecDepth 100000 in
set_option maxHeartbeats 4000000 in
theorem c_asb_isLatin1 {Γ : G9} {h : AH} {z b v n : Nat} (hk : CsOk Γ) (hb : h b = some (sbO v n)) : CallR Γ M_AbstractStringBuilder_isLatin1 0 [.ref b] h z (some (.int 1)) h := by
  refine Call.of_go (L := [some (.ref b)]) (by decide +kernel) rfl (by exact Nat.le_of_ble_eq_true rfl) ?_
  refine Go.gets d_AbstractStringBuilder_isLatin1_0 rfl x_AbstractStringBuilder_18 hk.1 ?_
  refine Go.if_eq (t := 17) d_AbstractStringBuilder_isLatin1_3 (by decide) rfl (fun w => absurd w (by decide)) (fun _ => ?_)
  refine Go.aload_0 d_AbstractStringBuilder_isLatin1_6 rfl ?_
  refine Go.getfield d_AbstractStringBuilder_isLatin1_7 rfl f_AbstractStringBuilder_22 hb rfl ?_
  refine Go.if_ne (t := 17) d_AbstractStringBuilder_isLatin1_10 (by decide) rfl (fun w => absurd w (by decide)) (fun _ => ?_)
  refine Go.iconst (v := 1) d_AbstractStringBuilder_isLatin1_13 rfl (by decide) ?_
  refine Go.goto (t := 18) d_AbstractStringBuilder_isLatin1_14 (by decide) ?_
  exact Go.iret d_AbstractStringBuilder_isLatin1_18 rfl rfl ⟨rfl, rfl, rfl⟩
theorem d_AbstractStringBuilder_getValue_0 : decode M_AbstractStringBuilder_getValue.2.1 0 = .ok (.aload_n 0, 1) := by decide +kernel
theorem d_AbstractStringBuilder_getValue_1 : decode M_AbstractStringBuilder_getValue.2.1 1 = .ok (.getfield 15, 3) := by decide +kernel
theorem d_AbstractStringBuilder_getValue_4 : decode M_AbstractStringBuilder_getValue.2.1 4 = .ok (.areturn, 1) := by decide +kernel
set_option maxRecDepth 100000 in
set_option maxHeartbeats 4000000 in
theorem c_asb_getValue {Γ : G9} {h : AH} {z b v n : Nat} (hb : h b = some (sbO v n)) : CallR Γ M_AbstractStringBuilder_getValue 0 [.ref b] h z (some (.ref v)) h := by
  refine Call.of_go (L := [some (.ref b)]) (by decide +kernel) rfl (by exact Nat.le_of_ble_eq_true rfl) ?_
  refine Go.aload_0 d_AbstractStringBuilder_getValue_0 rfl ?_
  refine Go.getfield d_AbstractStringBuilder_getValue_1 rfl f_AbstractStringBuilder_15 hb rfl ?_
  exact Go.aretA d_AbstractStringBuilder_getValue_4 rfl ⟨rfl, rfl, rfl⟩
theorem d_AbstractStringBuilder_length_0 : decode M_AbstractStringBuilder_length.2.1 0 = .ok (.aload_n 0, 1) := by decide +kernel
theorem d_AbstractStringBuilder_length_1 : decode M_AbstractStringBuilder_length.2.1 1 = .ok (.getfield 79, 3) := by decide +kernel
theorem d_AbstractStringBuilder_length_4 : decode M_AbstractStringBuilder_length.2.1 4 = .ok (.ireturn, 1) := by decide +kernel
set_option maxRecDepth 100000 in
set_option maxHeartbeats 4000000 in
theorem c_asb_length {Γ : G9} {h : AH} {z b v n : Nat} (hb : h b = some (sbO v n)) : CallR Γ M_AbstractStringBuilder_length 0 [.ref b] h z (some (.int (nI n))) h := by
  refine Call.of_go (L := [some (.ref b)]) (by decide +kernel) rfl (by exact Nat.le_of_ble_eq_true rfl) ?_
  refine Go.aload_0 d_AbstractStringBuilder_length_0 rfl ?_
  refine Go.getfield d_AbstractStringBuilder_length_1 rfl f_AbstractStringBuilder_79 hb rfl ?_
  exact Go.iret d_AbstractStringBuilder_length_4 rfl rfl ⟨rfl, rfl, rfl⟩
theorem d_StringBuilder_length_0 : decode M_StringBuilder_length.2.1 0 = .ok (.aload_n 0, 1) := by decide +kernel
theorem d_StringBuilder_length_1 : decode M_StringBuilder_length.2.1 1 = .ok (.invokespecial 343, 3) := by decide +kernel
theorem d_StringBuilder_length_4 : decode M_StringBuilder_length.2.1 4 = .ok (.ireturn, 1) := by decide +kernel
set_option maxRecDepth 100000 in
set_option maxHeartbeats 4000000 in
theorem c_sb_length {Γ : G9} {h : AH} {z b v n : Nat} (hb : h b = some (sbO v n)) : CallR Γ M_StringBuilder_length 1 [.ref b] h z (some (.int (nI n))) h := by
  refine Call.of_go (L := [some (.ref b)]) (by decide +kernel) rfl (by exact Nat.le_of_ble_eq_true rfl) ?_
  refine Go.aload_0 d_StringBuilder_length_0 rfl ?_
  refine Go.callBs (C1 := 0) (S1 := 0) (as := []) d_StringBuilder_length_1 rfl l_StringBuilder_343 x_sup su_AbstractStringBuilder_length rfl hb rfl (c_asb_length hb) (by omega) (by decide) (by omega) (by omega) (by exact Nat.le_of_ble_eq_true rfl) (fun _ _ _ w _ => w.elim) (fun v9 h9 z9 w9 hz9 => ?_)
  obtain ⟨rfl, rfl, rfl⟩ := w9
  exact Go.iret d_StringBuilder_length_4 rfl rfl ⟨rfl, rfl, rfl⟩
theorem d_ArraysSupport_newLength_0 : decode M_ArraysSupport_newLength.2.1 0 = .ok (.iload_n 0, 1) := by decide +kernel
theorem d_ArraysSupport_newLength_1 : decode M_ArraysSupport_newLength.2.1 1 = .ok (.iload_n 1, 1) := by decide +kernel
theorem d_ArraysSupport_newLength_2 : decode M_ArraysSupport_newLength.2.1 2 = .ok (.iload_n 2, 1) := by decide +kernel
theorem d_ArraysSupport_newLength_3 : decode M_ArraysSupport_newLength.2.1 3 = .ok (.invokestatic 194, 3) := by decide +kernel
theorem d_ArraysSupport_newLength_6 : decode M_ArraysSupport_newLength.2.1 6 = .ok (.iadd, 1) := by decide +kernel
theorem d_ArraysSupport_newLength_7 : decode M_ArraysSupport_newLength.2.1 7 = .ok (.istore_n 3, 1) := by decide +kernel
theorem d_ArraysSupport_newLength_8 : decode M_ArraysSupport_newLength.2.1 8 = .ok (.iconst 0, 1) := by decide +kernel
theorem d_ArraysSupport_newLength_9 : decode M_ArraysSupport_newLength.2.1 9 = .ok (.iload_n 3, 1) := by decide +kernel
theorem d_ArraysSupport_newLength_10 : decode M_ArraysSupport_newLength.2.1 10 = .ok (.if_icmp .ge 11, 3) := by decide +kernel
theorem d_ArraysSupport_newLength_13 : decode M_ArraysSupport_newLength.2.1 13 = .ok (.iload_n 3, 1) := by decide +kernel
theorem d_ArraysSupport_newLength_14 : decode M_ArraysSupport_newLength.2.1 14 = .ok (.ldc 200, 2) := by decide +kernel
theorem d_ArraysSupport_newLength_16 : decode M_ArraysSupport_newLength.2.1 16 = .ok (.if_icmp .gt 5, 3) := by decide +kernel
theorem d_ArraysSupport_newLength_19 : decode M_ArraysSupport_newLength.2.1 19 = .ok (.iload_n 3, 1) := by decide +kernel
theorem d_ArraysSupport_newLength_20 : decode M_ArraysSupport_newLength.2.1 20 = .ok (.ireturn, 1) := by decide +kernel
set_option maxRecDepth 100000 in
set_option maxHeartbeats 4000000 in
theorem c_newLength {Γ : G9} {h : AH} {z m x y : Nat} (hm : m + max x y ≤ 100000) (h0 : 0 < m + max x y) : CallR Γ M_ArraysSupport_newLength 1 [.int (nI m), .int (nI x), .int (nI y)] h z (some (.int (nI (m + max x y)))) h := by
  refine Call.of_go (L := [some (.int (nI m)), some (.int (nI x)), some (.int (nI y)), none]) (by decide +kernel) rfl (by exact Nat.le_of_ble_eq_true rfl) ?_
  refine Go.iload_0 d_ArraysSupport_newLength_0 rfl ?_
  refine Go.iload_1 d_ArraysSupport_newLength_1 rfl ?_
  refine Go.iload_2 d_ArraysSupport_newLength_2 rfl ?_
  refine Go.imax d_ArraysSupport_newLength_3 rfl l_ArraysSupport_194 (by decide) rfl ?_
  rw [iMax_n (show x < 2 ^ 31 by omega) (show y < 2 ^ 31 by omega)]
  refine Go.iadd d_ArraysSupport_newLength_6 rfl ?_
  rw [nI_add]
  refine Go.istore_3 d_ArraysSupport_newLength_7 rfl (by rfl) ?_
  refine Go.iconst (v := 0) d_ArraysSupport_newLength_8 rfl (by decide) ?_
  refine Go.iload_3 d_ArraysSupport_newLength_9 rfl ?_
  refine Go.icmp_ge (t := 21) d_ArraysSupport_newLength_10 (by decide) rfl (fun w => absurd w (nI_nle h0 (by omega))) (fun _ => ?_)
  refine Go.iload_3 d_ArraysSupport_newLength_13 rfl ?_
  refine Go.ldcI d_ArraysSupport_newLength_14 rfl x_k200 ?_
  refine Go.icmp_gt (t := 21) d_ArraysSupport_newLength_16 (by decide) rfl (fun w => absurd w (show ¬ nI 2147483639 < nI (m + max x y) from nI_nlt (by omega) (by decide))) (fun _ => ?_)
  refine Go.iload_3 d_ArraysSupport_newLength_19 rfl ?_
  exact Go.iret d_ArraysSupport_newLength_20 rfl rfl ⟨rfl, rfl, rfl⟩
/-- a builder's new capacity -/
def cap2 (m q : Nat) : Nat := m + max (q - m) (m + 2)
theorem d_AbstractStringBuilder_newCapacity_0 : decode M_AbstractStringBuilder_newCapacity.2.1 0 = .ok (.aload_n 0, 1) := by decide +kernel
theorem d_AbstractStringBuilder_newCapacity_1 : decode M_AbstractStringBuilder_newCapacity.2.1 1 = .ok (.getfield 15, 3) := by decide +kernel
theorem d_AbstractStringBuilder_newCapacity_4 : decode M_AbstractStringBuilder_newCapacity.2.1 4 = .ok (.arraylength, 1) := by decide +kernel
theorem d_AbstractStringBuilder_newCapacity_5 : decode M_AbstractStringBuilder_newCapacity.2.1 5 = .ok (.istore_n 2, 1) := by decide +kernel
theorem d_AbstractStringBuilder_newCapacity_6 : decode M_AbstractStringBuilder_newCapacity.2.1 6 = .ok (.iload_n 1, 1) := by decide +kernel
theorem d_AbstractStringBuilder_newCapacity_7 : decode M_AbstractStringBuilder_newCapacity.2.1 7 = .ok (.aload_n 0, 1) := by decide +kernel
theorem d_AbstractStringBuilder_newCapacity_8 : decode M_AbstractStringBuilder_newCapacity.2.1 8 = .ok (.getfield 22, 3) := by decide +kernel
theorem d_AbstractStringBuilder_newCapacity_11 : decode M_AbstractStringBuilder_newCapacity.2.1 11 = .ok (.ishl, 1) := by decide +kernel
theorem d_AbstractStringBuilder_newCapacity_12 : decode M_AbstractStringBuilder_newCapacity.2.1 12 = .ok (.istore_n 3, 1) := by decide +kernel
theorem d_AbstractStringBuilder_newCapacity_13 : decode M_AbstractStringBuilder_newCapacity.2.1 13 = .ok (.iload_n 3, 1) := by decide +kernel
theorem d_AbstractStringBuilder_newCapacity_14 : decode M_AbstractStringBuilder_newCapacity.2.1 14 = .ok (.iload_n 2, 1) := by decide +kernel
theorem d_AbstractStringBuilder_newCapacity_15 : decode M_AbstractStringBuilder_newCapacity.2.1 15 = .ok (.isub, 1) := by decide +kernel
theorem d_AbstractStringBuilder_newCapacity_16 : decode M_AbstractStringBuilder_newCapacity.2.1 16 = .ok (.istore 4, 2) := by decide +kernel
theorem d_AbstractStringBuilder_newCapacity_18 : decode M_AbstractStringBuilder_newCapacity.2.1 18 = .ok (.iload_n 2, 1) := by decide +kernel
theorem d_AbstractStringBuilder_newCapacity_19 : decode M_AbstractStringBuilder_newCapacity.2.1 19 = .ok (.iload 4, 2) := by decide +kernel
theorem d_AbstractStringBuilder_newCapacity_21 : decode M_AbstractStringBuilder_newCapacity.2.1 21 = .ok (.iload_n 2, 1) := by decide +kernel
theorem d_AbstractStringBuilder_newCapacity_22 : decode M_AbstractStringBuilder_newCapacity.2.1 22 = .ok (.iconst 2, 1) := by decide +kernel
theorem d_AbstractStringBuilder_newCapacity_23 : decode M_AbstractStringBuilder_newCapacity.2.1 23 = .ok (.aload_n 0, 1) := by decide +kernel
theorem d_AbstractStringBuilder_newCapacity_24 : decode M_AbstractStringBuilder_newCapacity.2.1 24 = .ok (.getfield 22, 3) := by decide +kernel
theorem d_AbstractStringBuilder_newCapacity_27 : decode M_AbstractStringBuilder_newCapacity.2.1 27 = .ok (.ishl, 1) := by decide +kernel
theorem d_AbstractStringBuilder_newCapacity_28 : decode M_AbstractStringBuilder_newCapacity.2.1 28 = .ok (.iadd, 1) := by decide +kernel
theorem d_AbstractStringBuilder_newCapacity_29 : decode M_AbstractStringBuilder_newCapacity.2.1 29 = .ok (.invokestatic 114, 3) := by decide +kernel
theorem d_AbstractStringBuilder_newCapacity_32 : decode M_AbstractStringBuilder_newCapacity.2.1 32 = .ok (.istore 5, 2) := by decide +kernel
theorem d_AbstractStringBuilder_newCapacity_34 : decode M_AbstractStringBuilder_newCapacity.2.1 34 = .ok (.iload 5, 2) := by decide +kernel
theorem d_AbstractStringBuilder_newCapacity_36 : decode M_AbstractStringBuilder_newCapacity.2.1 36 = .ok (.ldc 39, 2) := by decide +kernel
theorem d_AbstractStringBuilder_newCapacity_38 : decode M_AbstractStringBuilder_newCapacity.2.1 38 = .ok (.if_icmp .ne 13, 3) := by decide +kernel
theorem d_AbstractStringBuilder_newCapacity_51 : decode M_AbstractStringBuilder_newCapacity.2.1 51 = .ok (.iload 5, 2) := by decide +kernel
theorem d_AbstractStringBuilder_newCapacity_53 : decode M_AbstractStringBuilder_newCapacity.2.1 53 = .ok (.aload_n 0, 1) := by decide +kernel
theorem d_AbstractStringBuilder_newCapacity_54 : decode M_AbstractStringBuilder_newCapacity.2.1 54 = .ok (.getfield 22, 3) := by decide +kernel
theorem d_AbstractStringBuilder_newCapacity_57 : decode M_AbstractStringBuilder_newCapacity.2.1 57 = .ok (.ishr, 1) := by decide +kernel
theorem d_AbstractStringBuilder_newCapacity_58 : decode M_AbstractStringBuilder_newCapacity.2.1 58 = .ok (.ireturn, 1) := by decide +kernel
set_option maxRecDepth 100000 in
set_option maxHeartbeats 4000000 in
theorem c_newCapacity {Γ : G9} {h : AH} {z b v n m q : Nat} {f : Nat → Int32} (hb : h b = some (sbO v n)) (hv : h v = some (aB Γ m f)) (hm : m < q) (hw : q ≤ 2500) : CallR Γ M_AbstractStringBuilder_newCapacity 2 [.ref b, .int (nI q)] h z (some (.int (nI (cap2 m q)))) h := by
  refine Call.of_go (L := [some (.ref b), some (.int (nI q)), none, none, none, none]) (by decide +kernel) rfl (by exact Nat.le_of_ble_eq_true rfl) ?_
  refine Go.aload_0 d_AbstractStringBuilder_newCapacity_0 rfl ?_
  refine Go.getfield d_AbstractStringBuilder_newCapacity_1 rfl f_AbstractStringBuilder_15 hb rfl ?_
  refine Go.alen (t := 2) (n := nI m) d_AbstractStringBuilder_newCapacity_4 rfl hv rfl rfl ?_
  refine Go.istore_2 d_AbstractStringBuilder_newCapacity_5 rfl (by rfl) ?_
  refine Go.iload_1 d_AbstractStringBuilder_newCapacity_6 rfl ?_
  refine Go.aload_0 d_AbstractStringBuilder_newCapacity_7 rfl ?_
  refine Go.getfield d_AbstractStringBuilder_newCapacity_8 rfl f_AbstractStringBuilder_22 hb rfl ?_
  refine Go.ishl d_AbstractStringBuilder_newCapacity_11 rfl ?_
  rw [sh0]
  refine Go.istore_3 d_AbstractStringBuilder_newCapacity_12 rfl (by rfl) ?_
  refine Go.iload_3 d_AbstractStringBuilder_newCapacity_13 rfl ?_
  refine Go.iload_2 d_AbstractStringBuilder_newCapacity_14 rfl ?_
  refine Go.isub d_AbstractStringBuilder_newCapacity_15 rfl ?_
  rw [nI_sub (Nat.le_of_lt hm)]
  refine Go.istore_4 d_AbstractStringBuilder_newCapacity_16 rfl (by rfl) ?_
  refine Go.iload_2 d_AbstractStringBuilder_newCapacity_18 rfl ?_
  refine Go.iload_4 d_AbstractStringBuilder_newCapacity_19 rfl ?_
  refine Go.iload_2 d_AbstractStringBuilder_newCapacity_21 rfl ?_
  refine Go.iconst (v := 2) d_AbstractStringBuilder_newCapacity_22 rfl (by decide) ?_
  refine Go.aload_0 d_AbstractStringBuilder_newCapacity_23 rfl ?_
  refine Go.getfield d_AbstractStringBuilder_newCapacity_24 rfl f_AbstractStringBuilder_22 hb rfl ?_
  refine Go.ishl d_AbstractStringBuilder_newCapacity_27 rfl ?_
  rw [sh0]
  refine Go.iadd d_AbstractStringBuilder_newCapacity_28 rfl ?_
  rw [show nI m + 2 = nI (m + 2) from nI_add m 2]
  refine Go.cs3r d_AbstractStringBuilder_newCapacity_29 rfl l_AbstractStringBuilder_114 k_ArraysSupport_newLength_s rfl (c_newLength (by omega) (by omega)) rfl rfl rfl ?_
  refine Go.istore_5 d_AbstractStringBuilder_newCapacity_32 rfl (by rfl) ?_
  refine Go.iload_5 d_AbstractStringBuilder_newCapacity_34 rfl ?_
  refine Go.ldcI d_AbstractStringBuilder_newCapacity_36 rfl x_k39 ?_
  refine Go.icmp_ne (t := 51) d_AbstractStringBuilder_newCapacity_38 (by decide) rfl (fun _ => ?_) (fun w => absurd w (fun w9 => by have := (nI_eq (a := m + max (q - m) (m + 2)) (b := 2147483647) (by omega) (by decide)).mp w9; omega))
  refine Go.iload_5 d_AbstractStringBuilder_newCapacity_51 rfl ?_
  refine Go.aload_0 d_AbstractStringBuilder_newCapacity_53 rfl ?_
  refine Go.getfield d_AbstractStringBuilder_newCapacity_54 rfl f_AbstractStringBuilder_22 hb rfl ?_
  refine Go.ishr d_AbstractStringBuilder_newCapacity_57 rfl ?_
  rw [nI_shr0]
  exact Go.iret d_AbstractStringBuilder_newCapacity_58 rfl rfl ⟨rfl, rfl, rfl⟩
theorem d_Arrays_copyOf_0 : decode M_Arrays_copyOf.2.1 0 = .ok (.iload_n 1, 1) := by decide +kernel
theorem d_Arrays_copyOf_1 : decode M_Arrays_copyOf.2.1 1 = .ok (.aload_n 0, 1) := by decide +kernel
theorem d_Arrays_copyOf_2 : decode M_Arrays_copyOf.2.1 2 = .ok (.arraylength, 1) := by decide +kernel
theorem d_Arrays_copyOf_3 : decode M_Arrays_copyOf.2.1 3 = .ok (.if_icmp .ne 11, 3) := by decide +kernel
theorem d_Arrays_copyOf_14 : decode M_Arrays_copyOf.2.1 14 = .ok (.iload_n 1, 1) := by decide +kernel
theorem d_Arrays_copyOf_15 : decode M_Arrays_copyOf.2.1 15 = .ok (.newarray .byte, 2) := by decide +kernel
theorem d_Arrays_copyOf_17 : decode M_Arrays_copyOf.2.1 17 = .ok (.astore_n 2, 1) := by decide +kernel
theorem d_Arrays_copyOf_18 : decode M_Arrays_copyOf.2.1 18 = .ok (.aload_n 0, 1) := by decide +kernel
theorem d_Arrays_copyOf_19 : decode M_Arrays_copyOf.2.1 19 = .ok (.iconst 0, 1) := by decide +kernel
theorem d_Arrays_copyOf_20 : decode M_Arrays_copyOf.2.1 20 = .ok (.aload_n 2, 1) := by decide +kernel
theorem d_Arrays_copyOf_21 : decode M_Arrays_copyOf.2.1 21 = .ok (.iconst 0, 1) := by decide +kernel
theorem d_Arrays_copyOf_22 : decode M_Arrays_copyOf.2.1 22 = .ok (.aload_n 0, 1) := by decide +kernel
theorem d_Arrays_copyOf_23 : decode M_Arrays_copyOf.2.1 23 = .ok (.arraylength, 1) := by decide +kernel
theorem d_Arrays_copyOf_24 : decode M_Arrays_copyOf.2.1 24 = .ok (.iload_n 1, 1) := by decide +kernel
theorem d_Arrays_copyOf_25 : decode M_Arrays_copyOf.2.1 25 = .ok (.invokestatic 304, 3) := by decide +kernel
theorem d_Arrays_copyOf_28 : decode M_Arrays_copyOf.2.1 28 = .ok (.invokestatic 150, 3) := by decide +kernel
theorem d_Arrays_copyOf_31 : decode M_Arrays_copyOf.2.1 31 = .ok (.aload_n 2, 1) := by decide +kernel
theorem d_Arrays_copyOf_32 : decode M_Arrays_copyOf.2.1 32 = .ok (.areturn, 1) := by decide +kernel
set_option maxRecDepth 100000 in
set_option maxHeartbeats 4000000 in
theorem c_copyOf {Γ : G9} {h : AH} {z v m N : Nat} {f : Nat → Int32} (hv : h v = some (aB Γ m f)) (hf : ∀ j, fits .byte (.int (f j)) = true) (hm : m < N) (hN : N ≤ 10000) : Call Γ M_Arrays_copyOf 3 1 N [.ref v, .int (nI N)] h z (fun w h2 z2 => w = some (.ref z) ∧ h2 = hup h z (aB Γ N (va_cpy f (fun _ => 0) 0 0 m)) ∧ z2 = z + 1) noX := by
  refine Call.of_go (L := [some (.ref v), some (.int (nI N)), none]) (by decide +kernel) rfl (by exact Nat.le_of_ble_eq_true rfl) ?_
  refine Go.low (fun hlow => ?_)
  refine Go.iload_1 d_Arrays_copyOf_0 rfl ?_
  refine Go.aload_0 d_Arrays_copyOf_1 rfl ?_
  refine Go.alen (t := 2) (n := nI m) d_Arrays_copyOf_2 rfl hv rfl rfl ?_
  refine Go.icmp_ne (t := 14) d_Arrays_copyOf_3 (by decide) rfl (fun _ => ?_) (fun w => absurd w (fun w9 => by have := (nI_eq (by omega) (by omega)).mp w9; omega))
  refine Go.iload_1 d_Arrays_copyOf_14 rfl ?_
  refine Go.newarr (C1 := 0) (S1 := 0) (t := 2) (N := N) (a0 := (N, .inl (fun _ => 0))) d_Arrays_copyOf_15 rfl q_arr_byte rfl (fun _ w => by cases w) (fun _ => rfl) (nI_pos (by omega)) (nI_clamp (by omega)) (by show N * 1 ≤ _; omega) (by omega) (by omega) ?_
  have hvz : v ≠ z := fun w => (by rw [w, hlow z (Nat.le_refl z)] at hv; cases hv)
  refine Go.astore_2 d_Arrays_copyOf_17 rfl (by rfl) ?_
  refine Go.aload_0 d_Arrays_copyOf_18 rfl ?_
  refine Go.iconst (v := 0) d_Arrays_copyOf_19 rfl (by decide) ?_
  refine Go.aload_2 d_Arrays_copyOf_20 rfl ?_
  refine Go.iconst (v := 0) d_Arrays_copyOf_21 rfl (by decide) ?_
  refine Go.aload_0 d_Arrays_copyOf_22 rfl ?_
  refine Go.alen (t := 2) (n := nI m) d_Arrays_copyOf_23 rfl ((hup_ne hvz).trans hv) rfl rfl ?_
  refine Go.iload_1 d_Arrays_copyOf_24 rfl ?_
  refine Go.imin d_Arrays_copyOf_25 rfl l_Arrays_304 (by decide) rfl ?_
  rw [iMin_n (show m < 2 ^ 31 by omega) (show N < 2 ^ 31 by omega), Nat.min_eq_left (Nat.le_of_lt hm)]
  refine Go.bcopy (dp := 0) d_Arrays_copyOf_28 rfl x_acA (Or.inr ((hup_ne hvz).trans hv)) (fun j _ => hf j) hup_at (Nat.le_refl m) (by omega) (by omega) rfl rfl ?_
  rw [hup_hup]
  refine Go.aload_2 d_Arrays_copyOf_31 rfl ?_
  exact Go.aretA d_Arrays_copyOf_32 rfl ⟨rfl, rfl, rfl⟩
