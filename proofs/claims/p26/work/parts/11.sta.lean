/-! statics, constant objects, and the rows that read them -/
def SF (Γ : G9) (P : (Nat → Prop) → State → Heap → Prop) : Prop := ∀ U H, g_se Γ U H → P (g_A Γ) U H
theorem HS.se {Γ : G9} {s : State} {H : Heap} {h : AH} {locs : List Loc} (hH : HS Γ s H h locs) : g_se Γ s s.heap :=
  hH.1.1.2 s H s.heap (fun q hq => (hH.2.1.2.1 q (Nat.lt_of_lt_of_le hq hH.2.2.2) (Nat.not_le.mpr hq)).symm) hH.1.2.2.2.1
section GoStat
variable {Γ : G9} {M : MI} {d C S pc q : Nat} {L : List (Option Value)} {st : List Value} {h : AH} {z : Nat} {Q : QT} {X : XT}
theorem Go.gets {idx : Nat} {Cn n ds : String} {v : Value} (hd : decode M.2.1 pc = .ok (.getstatic idx, 3)) (hq : pc + 3 = q) (lk : Cond.fieldLink M.1.cls idx Cn n ds ∈ gw) (hz : SF Γ (va_Z Cn n ds v)) (kk : Go Γ M d C S q L (v :: st) h z Q X) : Go Γ M d C S pc L st h z Q X := by
  subst hq
  intro p e R s m args below meth c H locs cells slots ls Z hc
  exact va_gets hc.1.1 hc.1.2.1 (hz _ _ hc.2.2.1.se) hc.2.2.1.2.1 hc.1.2.2.2.2.1 (hc.1.2.2.2.2.2.1 _ lk) (fun x hx => hx) hd (kk _ _ _ _ _ _ _ _ _ _ _ _ _ _ _ hc)
theorem Go.getsN {idx : Nat} {Cn n ds host : String} {v : Value} (hd : decode M.2.1 pc = .ok (.getstatic idx, 3)) (hq : pc + 3 = q) (lk : Cond.fieldLinkNest M.1.cls idx Cn n ds host ∈ nw) (hz : SF Γ (va_Z Cn n ds v)) (kk : Go Γ M d C S q L (v :: st) h z Q X) : Go Γ M d C S pc L st h z Q X := by
  subst hq
  intro p e R s m args below meth c H locs cells slots ls Z hc
  exact va_getsN hc.1.1 hc.1.2.1 (hz _ _ hc.2.2.1.se) hc.2.2.1.2.1 hc.1.2.2.2.2.1 (va_Nw.use rfl (hc.2.2.1.1.2.2.2.2.2 _ lk)) (fun x hx => hx) hd (kk _ _ _ _ _ _ _ _ _ _ _ _ _ _ _ hc)
theorem Go.getfS {idx a : Nat} {o n ds : String} {v : Value} (hd : decode M.2.1 pc = .ok (.getfield idx, 3)) (hq : pc + 3 = q) (lk : Cond.fieldLink M.1.cls idx o n ds ∈ gw) (hz : SF Γ (va_OF o n ds v a)) (kk : Go Γ M d C S q L (v :: st) h z Q X) : Go Γ M d C S pc L (.ref a :: st) h z Q X := by
  subst hq
  intro p e R s m args below meth c H locs cells slots ls Z hc
  exact vk_getf hc.1.1 hc.1.2.1 (hz _ _ hc.2.2.1.se) hc.2.2.1.2.1 hc.1.2.2.2.2.1 (hc.1.2.2.2.2.2.1 _ lk) (fun x hx => hx) hd (kk _ _ _ _ _ _ _ _ _ _ _ _ _ _ _ hc)
theorem Go.getfSN {idx a : Nat} {o n ds host : String} {v : Value} (hd : decode M.2.1 pc = .ok (.getfield idx, 3)) (hq : pc + 3 = q) (lk : Cond.fieldLinkNest M.1.cls idx o n ds host ∈ nw) (hz : SF Γ (va_OF o n ds v a)) (kk : Go Γ M d C S q L (v :: st) h z Q X) : Go Γ M d C S pc L (.ref a :: st) h z Q X := by
  subst hq
  intro p e R s m args below meth c H locs cells slots ls Z hc
  obtain ⟨cf, k, fi, f, cell, h1, h2, h3, h4, h5, h6⟩ := (hz _ _ hc.2.2.1.se).kept hc.2.2.1.2.1.2.1
  exact va_Wgetf hc.1.1 hc.1.2.1 hc.1.2.2.2.2.1 (va_Nw.use rfl (hc.2.2.1.1.2.2.2.2.2 _ lk)) h1 h2 h3 h4 (v := v) h5 rfl rfl hd (kk _ _ _ _ _ _ _ _ _ _ _ _ _ _ _ hc)
theorem Go.ialoadS {a n : Nat} {f : Nat → Int32} {i : Int32} (hd : decode M.2.1 pc = .ok (.iaload, 1)) (hq : pc + 1 = q) (hz : SF Γ (va_T .int a n (fun j => .int (f j)))) (hin : vp_in i n) (kk : Go Γ M d C S q L (.int (f i.toNatClampNeg) :: st) h z Q X) : Go Γ M d C S pc L (.int i :: .ref a :: st) h z Q X := by
  subst hq
  intro p e R s m args below meth c H locs cells slots ls Z hc
  exact va_ti hc.1.1 hc.1.2.1 (hz _ _ hc.2.2.1.se) hc.2.2.1.2.1 hin rfl hd (kk _ _ _ _ _ _ _ _ _ _ _ _ _ _ _ hc)
theorem Go.baloadS {a n : Nat} {f : Nat → Int32} {i : Int32} (hd : decode M.2.1 pc = .ok (.baload, 1)) (hq : pc + 1 = q) (hz : SF Γ (va_T .byte a n (fun j => .int (f j)))) (hin : vp_in i n) (kk : Go Γ M d C S q L (.int (f i.toNatClampNeg) :: st) h z Q X) : Go Γ M d C S pc L (.int i :: .ref a :: st) h z Q X := by
  subst hq
  intro p e R s m args below meth c H locs cells slots ls Z hc
  exact va_tb hc.1.1 hc.1.2.1 (hz _ _ hc.2.2.1.se) hc.2.2.1.2.1 hin rfl hd (kk _ _ _ _ _ _ _ _ _ _ _ _ _ _ _ hc)
theorem Go.aaloadS {a n : Nat} {Cn : String} {f : Nat → Nat} {i : Int32} (hd : decode M.2.1 pc = .ok (.aaload, 1)) (hq : pc + 1 = q) (hz : SF Γ (va_T (.object Cn) a n (fun j => .ref (f j)))) (hin : vp_in i n) (kk : Go Γ M d C S q L (.ref (f i.toNatClampNeg) :: st) h z Q X) : Go Γ M d C S pc L (.int i :: .ref a :: st) h z Q X := by
  subst hq
  intro p e R s m args below meth c H locs cells slots ls Z hc
  exact vb_tq hc.1.1 hc.1.2.1 (hz _ _ hc.2.2.1.se) hc.2.2.1.2.1 hin rfl hd (kk _ _ _ _ _ _ _ _ _ _ _ _ _ _ _ hc)
theorem Go.alenS {a n : Nat} {ty : FieldType} {f : Nat → Value} {v : Int32} (hd : decode M.2.1 pc = .ok (.arraylength, 1)) (hq : pc + 1 = q) (hz : SF Γ (va_T ty a n f)) (hv : Int32.ofNat n = v) (kk : Go Γ M d C S q L (.int v :: st) h z Q X) : Go Γ M d C S pc L (.ref a :: st) h z Q X := by
  subst hq
  intro p e R s m args below meth c H locs cells slots ls Z hc
  exact va_tlen hc.1.1 hc.1.2.1 (hz _ _ hc.2.2.1.se) hc.2.2.1.2.1 hv hd (kk _ _ _ _ _ _ _ _ _ _ _ _ _ _ _ hc)
theorem Go.ldcS {idx a : Nat} {own tx : String} (hd : decode M.2.1 pc = .ok (.ldc idx, 2)) (hq : pc + 2 = q) (ho : own = M.1.cls) (hz : SF Γ (fun _ U _ => vk_R own idx tx a U)) (kk : Go Γ M d C S q L (.ref a :: st) h z Q X) : Go Γ M d C S pc L st h z Q X := by
  subst hq
  subst ho
  intro p e R s m args below meth c H locs cells slots ls Z hc
  exact va_ldcS hc.1.1 hc.1.2.1 hc.1.2.2.2.2.1 (hz _ _ hc.2.2.1.se) hd (kk _ _ _ _ _ _ _ _ _ _ _ _ _ _ _ hc)
theorem Go.ldc2 {idx : Nat} {v : Int64} (hd : decode M.2.1 pc = .ok (.ldc2_w idx, 3)) (hq : pc + 3 = q) (lk : Cond.constantLong M.1.cls idx v ∈ gw) (kk : Go Γ M d C S q L (.long v :: st) h z Q X) : Go Γ M d C S pc L st h z Q X := by
  subst hq
  intro p e R s m args below meth c H locs cells slots ls Z hc
  exact lv_ldc2 hc.1.1 hc.1.2.1 hc.1.2.2.2.2.1 (hc.1.2.2.2.2.2.1 _ lk) hd (kk _ _ _ _ _ _ _ _ _ _ _ _ _ _ _ hc)
/-- an instance method of a constant object, asked for by a class below its own -/
theorem Go.callU {M' : MI} {x : MethodName} {owner Cr : String} {n d' idx b : Nat} {as rest : List Value} {V : Option Value} {h2 : AH} (hd : decode M.2.1 pc = .ok (.invokevirtual idx, 3)) (hq : pc + 3 = q) (lk : Cond.methodLink M.1.cls idx x ∈ gw) (ok : OkI M' n) (hh : M'.2.2.2.2 = []) (hpn : parseMethodDescriptor x.desc = parseMethodDescriptor M'.1.desc) (how : owner ≠ "java/lang/invoke/MethodHandle" ∧ owner ≠ "java/lang/invoke/VarHandle") (hsm : Cond.sameMethod x.cls owner x.name x.desc ∈ gw) (hdc : Cond.declares ⟨owner, x.name, x.desc⟩ ∈ nw) (hsl : Cond.selects Cr x M'.1 ∈ gw) (him : Cond.instanceMethod M'.1 ∈ gw) (hn : as.length = n) (hst : st = as.reverse ++ .ref b :: rest)
    (hO : SF Γ (va_O Cr b)) (hc : CallR Γ M' d' (.ref b :: as) h z V h2) (hd' : d' + 1 ≤ d) (hml : M'.2.2.1 ≤ 21) (hw : (rest.map fun v => v.category).sum ≤ 8)
    (kk : Go Γ M d C S q L (V.toList ++ rest) h2 z Q X) : Go Γ M d C S pc L st h z Q X := by
  subst hq
  refine Go.after (Q' := RQ V h2 z) (X' := noX) (C' := 0) (S' := 0) (C1 := C) (S1 := S) (av := (Value.ref b :: as).toArray) (rest := rest) (fun p e R s m args below meth c H locs cells slots ls Z hx => ?_) (by omega) (by omega) (fun E h' z' hx _ => hx.elim) (fun v h' z' hx _ => by obtain ⟨rfl, rfl, rfl⟩ := hx; exact kk)
  obtain ⟨r1, r2, r3, r4⟩ := hx.2.1
  have hts := hx.1.2.2.2.2.2.1
  have hH := hx.2.2.1
  obtain ⟨g1, g2, g3, g4, g5⟩ := ok
  rw [mi_w_nil hh] at g1
  have hcell := va_Orecv (hO _ _ hH.se) hH.2.1
  refine vx_runU (C := Cr) (owner := owner) (x := x) (As := as) (n := n) (Ts := gw) (own := M.1.cls) ⟨hx.1.1, hx.1.2.1, hx.1.2.2.1, hx.1.2.2.2.2.1, hts⟩ hc ⟨⟨rfl, rfl, (show d' + 1 ≤ R.frames by omega), ?_, by rw [← mi_w_nil hh] at g1; exact gw_pay hts g1, by rw [mi_w_nil hh]; exact List.mem_cons_self⟩, hts _ g1, hts _ g2, how, fun sig hsig => ?_, hts _ lk, hts _ hsm, ?_, hts _ hsl, hts _ him⟩ ⟨blindP, hcell, fun U hU hW => startP hH hx.2.2.2.1 hU hW⟩ rfl hn (by rw [hx.2.2.2.2.1.1]) hst (lv_room hw) hd ⟨by omega, by omega⟩
  · show 8 + (M'.2.2.1 + 11) + 40 * d' ≤ R.locals
    omega
  · rw [← hpn, hsig] at g5
    exact (Option.some.inj g5).symm
  · exact va_Decl.abs (hH.1.2.2.2.2.2 _ hdc)
end GoStat
abbrev sgN : List String := ["BAND", "HEIGHT", "SNOW", "STAKE", "IN", "DEEP", "CREVASSE", "ABOVE", "BRIDGE", "DEPOT", "FOOD", "TEAM", "SIZE", "DAY", "WARM", "CLIMB", "DESCEND", "PROBE", "BY", "FILL", "WITH", "DRILL", "WHEN", "OUT", "STOCK", "SACK", "PLACE", "STANDING", "HERE", "KNOWN", "NOT", "AND", "OR", "MIN", "MAX", "OPEN", "CLOSE", "OPEN_TEST", "CLOSE_TEST", "LINE_END", "COMMA", "PLUS", "MINUS", "TIMES", "OVER", "LESS", "GREATER", "EQUAL", "AT_MOST", "AT_LEAST", "NAME", "NUMBER", "END", "WRONG"]
abbrev sgO : List Int32 := [0, 1, 2, 3, 4, 5, 6, 7, 8, 9, 10, 11, 12, 13, 14, 15, 16, 17, 18, 19, 20, 21, 22, 23, 24, 25, 26, 27, 28, 29, 30, 31, 32, 33, 34, 35, 36, 37, 38, 39, 40, 41, 42, 43, 44, 45, 46, 47, 48, 49, 50, 51, 52, 53]
abbrev sgT : List Int32 := [0, 0, 0, 0, 0, 0, 0, 0, 0, 0, 0, 0, 0, 0, 0, 0, 0, 0, 0, 0, 0, 0, 0, 0, 0, 0, 0, 0, 0, 0, 1, 2, 2, 2, 2, 0, 0, 0, 0, 0, 0, 2, 2, 2, 2, 2, 2, 2, 2, 2, 0, 0, 0, 0]
abbrev swL : List Int32 := [1, 0, 14, 2, 0, 0, 3, 0, 16, 4, 0, 5, 0, 6, 13, 7, 8, 9, 0, 10, 0, 11, 0, 15, 17, 18, 19, 32, 33, 0, 0, 31, 0, 24, 25, 0, 0, 0, 0, 0, 0, 20, 21, 22, 23, 26, 27, 28, 29, 30, 0, 12, 0, 0]
def sgk (i : Nat) : Int32 := sgT.getD i 0
def swf (i : Nat) : Int32 := swL.getD i 0
abbrev clSign : String := "GlacierCamp$Sign"
def SgOk (Γ : G9) (sg : Nat → Nat) : Prop := SF Γ (va_En clSign "LGlacierCamp$Sign;" sgN [("java/lang/Enum", "ordinal", "I", sgO), (clSign, "takes", "I", sgT)] sg)
def SwOk (Γ : G9) (sw : Nat) : Prop := SF Γ (va_Z "GlacierCamp$1" "$SwitchMap$GlacierCamp$Sign" "[I" (.ref sw)) ∧ SF Γ (va_T .int sw 54 (fun j => .int (swf j)))
def SaOk (Γ : G9) (sg : Nat → Nat) (sa : Nat) : Prop := SF Γ (va_Z "GlacierCamp$Tokens" "SIGNS" "[LGlacierCamp$Sign;" (.ref sa)) ∧ SF Γ (va_T (.object clSign) sa 54 (fun j => .ref (sg j)))
theorem SgOk.z {Γ : G9} {sg : Nat → Nat} (h : SgOk Γ sg) {i : Nat} {n : String} (hi : sgN[i]? = some n) : SF Γ (va_Z clSign n "LGlacierCamp$Sign;" (.ref (sg i))) := by
  intro U H hU
  have hi' : i < sgN.length := (List.getElem?_eq_some_iff.mp hi).1
  have := ((h U H hU).1 i hi').1
  rw [List.getD_eq_getElem?_getD, hi] at this
  exact this
theorem SgOk.o {Γ : G9} {sg : Nat → Nat} (h : SgOk Γ sg) {i : Nat} (hi : i < 54) : SF Γ (va_O clSign (sg i)) := fun U H hU => ((h U H hU).1 i hi).2.1
theorem sgO_at : ∀ i : Fin 54, sgO.getD i.val 0 = nI i.val := by decide +kernel
theorem SgOk.ord {Γ : G9} {sg : Nat → Nat} (h : SgOk Γ sg) {i : Nat} (hi : i < 54) : SF Γ (va_OF "java/lang/Enum" "ordinal" "I" (.int (nI i)) (sg i)) := fun U H hU => by
  have := ((h U H hU).1 i hi).2.2 _ List.mem_cons_self
  dsimp only at this
  rw [sgO_at ⟨i, hi⟩] at this
  exact this
theorem SgOk.takes {Γ : G9} {sg : Nat → Nat} (h : SgOk Γ sg) {i : Nat} (hi : i < 54) : SF Γ (va_OF clSign "takes" "I" (.int (sgk i)) (sg i)) := fun U H hU => ((h U H hU).1 i hi).2.2 _ (List.mem_cons_of_mem _ List.mem_cons_self)
/-- the constants differ -/
def SgNe (sg : Nat → Nat) : Prop := ∀ i j : Nat, i < 54 → j < 54 → sg i = sg j → i = j
theorem x_Tokens_25 : Cond.fieldLink "GlacierCamp$Tokens" 25 "GlacierCamp$Sign" "END" "LGlacierCamp$Sign;" ∈ gw := gm_1 (List.mem_of_getElem? (i := 61) rfl) rfl
theorem x_Formulas_31 : Cond.fieldLink "GlacierCamp$Formulas" 31 "GlacierCamp$Sign" "NUMBER" "LGlacierCamp$Sign;" ∈ gw := gm_2 (List.mem_of_getElem? (i := 224) rfl) rfl
theorem x_Glacier_84 : Cond.fieldLink "GlacierCamp$Glacier" 84 "GlacierCamp$1" "$SwitchMap$GlacierCamp$Sign" "[I" ∈ gw := gm_2 (List.mem_of_getElem? (i := 234) rfl) rfl
theorem x_Formulas_56 : Cond.fieldLink "GlacierCamp$Formulas" 56 "GlacierCamp$1" "$SwitchMap$GlacierCamp$Sign" "[I" ∈ gw := gm_3 (List.mem_of_getElem? (i := 11) rfl) rfl
theorem x_String_38 : Cond.fieldLink "java/lang/String" 38 "java/lang/String" "COMPACT_STRINGS" "Z" ∈ gw := gm_3 (List.mem_of_getElem? (i := 206) rfl) rfl
theorem x_Tokens_93 : Cond.fieldLink "GlacierCamp$Tokens" 93 "GlacierCamp$Sign" "NUMBER" "LGlacierCamp$Sign;" ∈ gw := gm_4 (List.mem_of_getElem? (i := 53) rfl) rfl
theorem x_Tokens_63 : Cond.fieldLink "GlacierCamp$Tokens" 63 "GlacierCamp$Sign" "WRONG" "LGlacierCamp$Sign;" ∈ gw := gm_4 (List.mem_of_getElem? (i := 54) rfl) rfl
theorem x_Tokens_96 : Cond.fieldLink "GlacierCamp$Tokens" 96 "GlacierCamp$Tokens" "SIGNS" "[LGlacierCamp$Sign;" ∈ gw := gm_4 (List.mem_of_getElem? (i := 56) rfl) rfl
theorem x_Tokens_107 : Cond.fieldLink "GlacierCamp$Tokens" 107 "GlacierCamp$Sign" "NAME" "LGlacierCamp$Sign;" ∈ gw := gm_4 (List.mem_of_getElem? (i := 63) rfl) rfl
theorem x_Teacher_66 : Cond.fieldLink "GlacierCamp$Teacher" 66 "GlacierCamp$Sign" "END" "LGlacierCamp$Sign;" ∈ gw := gm_4 (List.mem_of_getElem? (i := 146) rfl) rfl
theorem x_Teacher_72 : Cond.fieldLink "GlacierCamp$Teacher" 72 "GlacierCamp$1" "$SwitchMap$GlacierCamp$Sign" "[I" ∈ gw := gm_4 (List.mem_of_getElem? (i := 151) rfl) rfl
theorem x_Teacher_339 : Cond.fieldLink "GlacierCamp$Teacher" 339 "GlacierCamp$Sign" "NAME" "LGlacierCamp$Sign;" ∈ gw := gm_4 (List.mem_of_getElem? (i := 164) rfl) rfl
theorem x_Teacher_146 : Cond.fieldLink "GlacierCamp$Teacher" 146 "GlacierCamp$Sign" "HEIGHT" "LGlacierCamp$Sign;" ∈ gw := gm_4 (List.mem_of_getElem? (i := 193) rfl) rfl
theorem x_Teacher_321 : Cond.fieldLink "GlacierCamp$Teacher" 321 "GlacierCamp$Sign" "NUMBER" "LGlacierCamp$Sign;" ∈ gw := gm_4 (List.mem_of_getElem? (i := 204) rfl) rfl
theorem x_Teacher_153 : Cond.fieldLink "GlacierCamp$Teacher" 153 "GlacierCamp$Sign" "SNOW" "LGlacierCamp$Sign;" ∈ gw := gm_4 (List.mem_of_getElem? (i := 205) rfl) rfl
theorem x_Teacher_160 : Cond.fieldLink "GlacierCamp$Teacher" 160 "GlacierCamp$Sign" "IN" "LGlacierCamp$Sign;" ∈ gw := gm_4 (List.mem_of_getElem? (i := 219) rfl) rfl
theorem x_Teacher_167 : Cond.fieldLink "GlacierCamp$Teacher" 167 "GlacierCamp$Sign" "DEEP" "LGlacierCamp$Sign;" ∈ gw := gm_4 (List.mem_of_getElem? (i := 225) rfl) rfl
theorem x_Teacher_173 : Cond.fieldLink "GlacierCamp$Teacher" 173 "GlacierCamp$Sign" "ABOVE" "LGlacierCamp$Sign;" ∈ gw := gm_4 (List.mem_of_getElem? (i := 235) rfl) rfl
theorem x_Teacher_176 : Cond.fieldLink "GlacierCamp$Teacher" 176 "GlacierCamp$Sign" "BRIDGE" "LGlacierCamp$Sign;" ∈ gw := gm_4 (List.mem_of_getElem? (i := 237) rfl) rfl
theorem x_Teacher_182 : Cond.fieldLink "GlacierCamp$Teacher" 182 "GlacierCamp$Sign" "FOOD" "LGlacierCamp$Sign;" ∈ gw := gm_5 (List.mem_of_getElem? (i := 7) rfl) rfl
theorem x_Teacher_188 : Cond.fieldLink "GlacierCamp$Teacher" 188 "GlacierCamp$Sign" "SIZE" "LGlacierCamp$Sign;" ∈ gw := gm_5 (List.mem_of_getElem? (i := 17) rfl) rfl
theorem x_Teacher_195 : Cond.fieldLink "GlacierCamp$Teacher" 195 "GlacierCamp$Sign" "DAY" "LGlacierCamp$Sign;" ∈ gw := gm_5 (List.mem_of_getElem? (i := 27) rfl) rfl
theorem x_Teacher_198 : Cond.fieldLink "GlacierCamp$Teacher" 198 "GlacierCamp$Sign" "WARM" "LGlacierCamp$Sign;" ∈ gw := gm_5 (List.mem_of_getElem? (i := 29) rfl) rfl
theorem x_Teacher_112 : Cond.fieldLink "GlacierCamp$Teacher" 112 "GlacierCamp$Sign" "WHEN" "LGlacierCamp$Sign;" ∈ gw := gm_5 (List.mem_of_getElem? (i := 57) rfl) rfl
theorem x_Teacher_255 : Cond.fieldLink "GlacierCamp$Teacher" 255 "GlacierCamp$Sign" "NOT" "LGlacierCamp$Sign;" ∈ gw := gm_5 (List.mem_of_getElem? (i := 75) rfl) rfl
theorem x_Teacher_262 : Cond.fieldLink "GlacierCamp$Teacher" 262 "GlacierCamp$Sign" "OPEN_TEST" "LGlacierCamp$Sign;" ∈ gw := gm_5 (List.mem_of_getElem? (i := 85) rfl) rfl
theorem x_Teacher_265 : Cond.fieldLink "GlacierCamp$Teacher" 265 "GlacierCamp$Sign" "CLOSE_TEST" "LGlacierCamp$Sign;" ∈ gw := gm_5 (List.mem_of_getElem? (i := 87) rfl) rfl
theorem x_Teacher_268 : Cond.fieldLink "GlacierCamp$Teacher" 268 "GlacierCamp$Sign" "STANDING" "LGlacierCamp$Sign;" ∈ gw := gm_5 (List.mem_of_getElem? (i := 89) rfl) rfl
theorem x_Teacher_271 : Cond.fieldLink "GlacierCamp$Teacher" 271 "GlacierCamp$Sign" "HERE" "LGlacierCamp$Sign;" ∈ gw := gm_5 (List.mem_of_getElem? (i := 91) rfl) rfl
theorem x_Teacher_274 : Cond.fieldLink "GlacierCamp$Teacher" 274 "GlacierCamp$Sign" "KNOWN" "LGlacierCamp$Sign;" ∈ gw := gm_5 (List.mem_of_getElem? (i := 93) rfl) rfl
theorem x_Teacher_302 : Cond.fieldLink "GlacierCamp$Teacher" 302 "GlacierCamp$Sign" "MINUS" "LGlacierCamp$Sign;" ∈ gw := gm_5 (List.mem_of_getElem? (i := 111) rfl) rfl
theorem x_Teacher_324 : Cond.fieldLink "GlacierCamp$Teacher" 324 "GlacierCamp$Sign" "OPEN" "LGlacierCamp$Sign;" ∈ gw := gm_5 (List.mem_of_getElem? (i := 113) rfl) rfl
theorem x_Teacher_327 : Cond.fieldLink "GlacierCamp$Teacher" 327 "GlacierCamp$Sign" "CLOSE" "LGlacierCamp$Sign;" ∈ gw := gm_5 (List.mem_of_getElem? (i := 115) rfl) rfl
theorem x_Teacher_330 : Cond.fieldLink "GlacierCamp$Teacher" 330 "GlacierCamp$Sign" "MIN" "LGlacierCamp$Sign;" ∈ gw := gm_5 (List.mem_of_getElem? (i := 117) rfl) rfl
theorem x_Teacher_333 : Cond.fieldLink "GlacierCamp$Teacher" 333 "GlacierCamp$Sign" "MAX" "LGlacierCamp$Sign;" ∈ gw := gm_5 (List.mem_of_getElem? (i := 119) rfl) rfl
theorem x_Teacher_336 : Cond.fieldLink "GlacierCamp$Teacher" 336 "GlacierCamp$Sign" "COMMA" "LGlacierCamp$Sign;" ∈ gw := gm_5 (List.mem_of_getElem? (i := 121) rfl) rfl
theorem x_Teacher_308 : Cond.fieldLink "GlacierCamp$Teacher" 308 "GlacierCamp$Sign" "TIMES" "LGlacierCamp$Sign;" ∈ gw := gm_5 (List.mem_of_getElem? (i := 123) rfl) rfl
theorem x_Teacher_311 : Cond.fieldLink "GlacierCamp$Teacher" 311 "GlacierCamp$Sign" "OVER" "LGlacierCamp$Sign;" ∈ gw := gm_5 (List.mem_of_getElem? (i := 125) rfl) rfl
theorem x_Teacher_299 : Cond.fieldLink "GlacierCamp$Teacher" 299 "GlacierCamp$Sign" "PLUS" "LGlacierCamp$Sign;" ∈ gw := gm_5 (List.mem_of_getElem? (i := 127) rfl) rfl
theorem x_Teacher_281 : Cond.fieldLink "GlacierCamp$Teacher" 281 "GlacierCamp$Sign" "LESS" "LGlacierCamp$Sign;" ∈ gw := gm_5 (List.mem_of_getElem? (i := 132) rfl) rfl
theorem x_Teacher_284 : Cond.fieldLink "GlacierCamp$Teacher" 284 "GlacierCamp$Sign" "GREATER" "LGlacierCamp$Sign;" ∈ gw := gm_5 (List.mem_of_getElem? (i := 134) rfl) rfl
theorem x_Teacher_287 : Cond.fieldLink "GlacierCamp$Teacher" 287 "GlacierCamp$Sign" "EQUAL" "LGlacierCamp$Sign;" ∈ gw := gm_5 (List.mem_of_getElem? (i := 136) rfl) rfl
theorem x_Teacher_290 : Cond.fieldLink "GlacierCamp$Teacher" 290 "GlacierCamp$Sign" "AT_MOST" "LGlacierCamp$Sign;" ∈ gw := gm_5 (List.mem_of_getElem? (i := 138) rfl) rfl
theorem x_Teacher_293 : Cond.fieldLink "GlacierCamp$Teacher" 293 "GlacierCamp$Sign" "AT_LEAST" "LGlacierCamp$Sign;" ∈ gw := gm_5 (List.mem_of_getElem? (i := 140) rfl) rfl
theorem x_Teacher_252 : Cond.fieldLink "GlacierCamp$Teacher" 252 "GlacierCamp$Sign" "AND" "LGlacierCamp$Sign;" ∈ gw := gm_5 (List.mem_of_getElem? (i := 142) rfl) rfl
theorem x_Teacher_239 : Cond.fieldLink "GlacierCamp$Teacher" 239 "GlacierCamp$Sign" "OR" "LGlacierCamp$Sign;" ∈ gw := gm_5 (List.mem_of_getElem? (i := 144) rfl) rfl
theorem x_Teacher_210 : Cond.fieldLink "GlacierCamp$Teacher" 210 "GlacierCamp$Sign" "PROBE" "LGlacierCamp$Sign;" ∈ gw := gm_5 (List.mem_of_getElem? (i := 150) rfl) rfl
theorem x_Teacher_213 : Cond.fieldLink "GlacierCamp$Teacher" 213 "GlacierCamp$Sign" "BY" "LGlacierCamp$Sign;" ∈ gw := gm_5 (List.mem_of_getElem? (i := 152) rfl) rfl
theorem x_Teacher_216 : Cond.fieldLink "GlacierCamp$Teacher" 216 "GlacierCamp$Sign" "FILL" "LGlacierCamp$Sign;" ∈ gw := gm_5 (List.mem_of_getElem? (i := 158) rfl) rfl
theorem x_Teacher_219 : Cond.fieldLink "GlacierCamp$Teacher" 219 "GlacierCamp$Sign" "WITH" "LGlacierCamp$Sign;" ∈ gw := gm_5 (List.mem_of_getElem? (i := 160) rfl) rfl
theorem x_Teacher_230 : Cond.fieldLink "GlacierCamp$Teacher" 230 "GlacierCamp$Sign" "DRILL" "LGlacierCamp$Sign;" ∈ gw := gm_5 (List.mem_of_getElem? (i := 166) rfl) rfl
theorem x_Teacher_121 : Cond.fieldLink "GlacierCamp$Teacher" 121 "GlacierCamp$Sign" "LINE_END" "LGlacierCamp$Sign;" ∈ gw := gm_5 (List.mem_of_getElem? (i := 168) rfl) rfl
theorem x_AbstractStringBuilder_18 : Cond.fieldLink "java/lang/AbstractStringBuilder" 18 "java/lang/String" "COMPACT_STRINGS" "Z" ∈ gw := gm_6 (List.mem_of_getElem? (i := 43) rfl) rfl
theorem x_String_9 : Cond.fieldLink "java/lang/String" 9 "java/lang/String" "value" "[B" ∈ gw := gm_6 (List.mem_of_getElem? (i := 212) rfl) rfl
theorem x_String_15 : Cond.fieldLink "java/lang/String" 15 "java/lang/String" "coder" "B" ∈ gw := gm_6 (List.mem_of_getElem? (i := 213) rfl) rfl
theorem x_Enum_7 : Cond.fieldLink "java/lang/Enum" 7 "java/lang/Enum" "ordinal" "I" ∈ gw := gm_7 (List.mem_of_getElem? (i := 74) rfl) rfl
theorem x_Tokens_99 : Cond.fieldLinkNest "GlacierCamp$Tokens" 99 "GlacierCamp$Sign" "text" "Ljava/lang/String;" "GlacierCamp" ∈ nw := gn_7 (List.mem_of_getElem? (i := 73) rfl) rfl
theorem x_Formulas_39 : Cond.fieldLinkNest "GlacierCamp$Formulas" 39 "GlacierCamp$Sign" "takes" "I" "GlacierCamp" ∈ nw := gn_7 (List.mem_of_getElem? (i := 75) rfl) rfl
theorem x_Camp_225 : Cond.constantLong "GlacierCamp" 225 907 ∈ gw := gm_3 (List.mem_of_getElem? (i := 96) rfl) rfl
theorem x_Camp_227 : Cond.constantLong "GlacierCamp" 227 31 ∈ gw := gm_3 (List.mem_of_getElem? (i := 97) rfl) rfl
theorem x_Tokens_126 : Cond.constantLong "GlacierCamp$Tokens" 126 10 ∈ gw := gm_4 (List.mem_of_getElem? (i := 71) rfl) rfl
theorem x_Tokens_128 : Cond.constantLong "GlacierCamp$Tokens" 128 48 ∈ gw := gm_4 (List.mem_of_getElem? (i := 72) rfl) rfl
theorem x_Tokens_130 : Cond.constantLong "GlacierCamp$Tokens" 130 37 ∈ gw := gm_4 (List.mem_of_getElem? (i := 76) rfl) rfl
theorem x_ord_same : (Jvm.Cond.sameMethod "GlacierCamp$Sign" "java/lang/Enum" "ordinal" "()I") ∈ gw := gm_2 (List.mem_of_getElem? (i := 237) rfl) rfl
theorem x_ord_decl : (Jvm.Cond.declares ({ cls := "java/lang/Enum", name := "ordinal", desc := "()I" } : Jvm.MethodName)) ∈ nw := gn_2 (List.mem_of_getElem? (i := 238) rfl) rfl
theorem x_ord_sel : (Jvm.Cond.selects "GlacierCamp$Sign" ({ cls := "GlacierCamp$Sign", name := "ordinal", desc := "()I" } : Jvm.MethodName) ({ cls := "java/lang/Enum", name := "ordinal", desc := "()I" } : Jvm.MethodName)) ∈ gw := gm_2 (List.mem_of_getElem? (i := 239) rfl) rfl
theorem x_Glacier_89 : (Jvm.Cond.methodLink "GlacierCamp$Glacier" (89 : Nat) ({ cls := "GlacierCamp$Sign", name := "ordinal", desc := "()I" } : Jvm.MethodName)) ∈ gw := gm_2 (List.mem_of_getElem? (i := 236) rfl) rfl
theorem x_Formulas_61 : (Jvm.Cond.methodLink "GlacierCamp$Formulas" (61 : Nat) ({ cls := "GlacierCamp$Sign", name := "ordinal", desc := "()I" } : Jvm.MethodName)) ∈ gw := gm_3 (List.mem_of_getElem? (i := 12) rfl) rfl
theorem x_Teacher_78 : (Jvm.Cond.methodLink "GlacierCamp$Teacher" (78 : Nat) ({ cls := "GlacierCamp$Sign", name := "ordinal", desc := "()I" } : Jvm.MethodName)) ∈ gw := gm_4 (List.mem_of_getElem? (i := 152) rfl) rfl
theorem x_ord_im : (Jvm.Cond.instanceMethod ({ cls := "java/lang/Enum", name := "ordinal", desc := "()I" } : Jvm.MethodName)) ∈ gw := gm_3 (List.mem_of_getElem? (i := 0) rfl) rfl
theorem d_Enum_ordinal_0 : decode M_Enum_ordinal.2.1 0 = .ok (.aload_n 0, 1) := by decide +kernel
theorem d_Enum_ordinal_1 : decode M_Enum_ordinal.2.1 1 = .ok (.getfield 7, 3) := by decide +kernel
theorem d_Enum_ordinal_4 : decode M_Enum_ordinal.2.1 4 = .ok (.ireturn, 1) := by decide +kernel
set_option maxRecDepth 100000 in
set_option maxHeartbeats 4000000 in
theorem c_Enum_ordinal {Γ : G9} {h : AH} {z i : Nat} {sg : Nat → Nat} (hs : SgOk Γ sg) (hi : i < 54) : CallR Γ M_Enum_ordinal 0 [.ref (sg i)] h z (some (.int (nI i))) h := by
  refine Call.of_go (L := [some (.ref (sg i))]) (by decide +kernel) rfl (by exact Nat.le_of_ble_eq_true rfl) ?_
  refine Go.aload_0 d_Enum_ordinal_0 rfl ?_
  refine Go.getfS d_Enum_ordinal_1 rfl x_Enum_7 (hs.ord hi) ?_
  exact Go.iret d_Enum_ordinal_4 rfl rfl ⟨rfl, rfl, rfl⟩
theorem Go.ordinal {Γ : G9} {M : MI} {d C S pc q i : Nat} {L : List (Option Value)} {st : List Value} {h : AH} {z : Nat} {Q : QT} {X : XT} {idx : Nat} {sg : Nat → Nat} (hd : decode M.2.1 pc = .ok (.invokevirtual idx, 3)) (hq : pc + 3 = q) (lk : Cond.methodLink M.1.cls idx ⟨clSign, "ordinal", "()I"⟩ ∈ gw) (hs : SgOk Γ sg) (hi : i < 54) (hd' : Nat.ble 1 d = true) (hw : Nat.ble (st.map fun v => v.category).sum 8 = true) (kk : Go Γ M d C S q L (.int (nI i) :: st) h z Q X) : Go Γ M d C S pc L (.ref (sg i) :: st) h z Q X :=
  Go.callU (M' := M_Enum_ordinal) (x := ⟨clSign, "ordinal", "()I"⟩) (owner := "java/lang/Enum") (Cr := clSign) (as := []) (d' := 0) hd hq lk k_Enum_ordinal_ok rfl rfl ⟨by decide, by decide⟩ x_ord_same x_ord_decl x_ord_sel x_ord_im rfl rfl (hs.o hi) (c_Enum_ordinal hs hi) (Nat.le_of_ble_eq_true hd') (by decide) (Nat.le_of_ble_eq_true hw) kk
