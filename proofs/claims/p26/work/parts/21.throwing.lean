/-! exceptions that are made and thrown; gx_makeS follows vx_makeS of the kit, with the cell itself told -/
section GXM
variable {p : Program} {l : Launch} {e : Env} {R : Room} {s : State} {m : MethodId} {args : Array Value} {below : List Frame} {meth : Method} {c : Code} {H : Heap} {locs : List Loc} {cells slots : Nat} {Q : State → Prop} {ls : Array Slot} {rest : List Value}
set_option maxHeartbeats 1000000 in
theorem gx_makeS {cc : ByteArray} {pc : Nat} (hexec : p.tables.exec = Jvm.exec) (hb : c.code = cc) (hl : l.stackTraces = false) {own cls text : String} {names : List String} {ik is ic sa : Nat} {A : Nat → Prop}
    (hown : s.vm.findClass own = some m.cls) (hcls : Bundle.fit cls = true) (hnames : ∀ n ∈ names, Bundle.fit n = true)
    (hk : (Cond.classLink own ik cls).before args s = true) (hini : (Cond.initialized cls).before args s = true) (hstr : vk_R own is text sa s) (hat : ∀ w ∈ vx_atS own ic cls names, w.before args s = true)
    (hgood : ∀ w ∈ Cond.classLink own ik cls :: Cond.initialized cls :: vx_atS own ic cls names, vx_ot w = true)
    (hU : vx_Zq Bundle.tN "UNASSIGNED_STACK" Bundle.steD A s s.heap) (hN : vx_Zq Bundle.tN "SUPPRESSED_SENTINEL" Bundle.listD A s s.heap) (hS : va_S A s.heap H locs) (hsize : ls.size = c.maxLocals)
    (d0 : decode cc pc = .ok (.new ik, 3)) (d3 : decode cc (pc + 3) = .ok (.dup, 1)) (d4 : decode cc (pc + 4) = .ok (.ldc is, 2)) (d6 : decode cc (pc + 6) = .ok (.invokespecial ic, 3))
    (hRframes : names.length + 3 < R.frames) (hRlocals : (rest.map fun v => v.category).sum + (13 * (names.length + 1) + 43) ≤ R.locals) (hRcells : cells + 1 ≤ R.cells) (hRslots : slots + 6 ≤ R.slots)
    (kk : ∀ (H1 : Heap) (ce : Cell), H.size + 1 ≤ H1.size → (∀ q : Nat, q < H.size → H1[q]? = H[q]?) → H1[H.size]? = some ce → ce.vm = .none → s.vm.findClass cls = some ce.cls → W p l e R s m args below meth c H1 locs (cells + 1) (slots + 6) Q (F0 m (pc + 9) ls (.ref H.size :: rest))) :
    W p l e R s m args below meth c H locs cells slots Q (F0 m pc ls rest) := by
  intro T hT X
  subst hT
  have htr : e.platform.stackTraces = false := (show e.platform.stackTraces = l.stackTraces by rw [X.admits.platform]).trans hl
  have Y := vx_rebase X (R' := { frames := R.frames, locals := R.locals, cells := 1, slots := 6 }) (Nat.le_refl _) (Nat.le_refl _) hRcells hRslots
  obtain ⟨s', hA'⟩ : ∃ z, z = (T.setVm s.vm).setFrames (.invoking m args :: below) := ⟨_, rfl⟩
  rw [← hA'] at Y
  have hvm : s'.vm = s.vm := by rw [hA']; rfl
  have hhp : s'.heap = T.heap := by rw [hA']; rfl
  have hW0 : s.WarmedH s'.vm := by rw [hvm]; exact State.WarmedH.refl s
  have hat' : ∀ w ∈ vx_atS own ic cls names, w.before args s' = true := fun w hw => vx_ot_at hW0 hvm.symm (hgood w (List.mem_cons_of_mem _ (List.mem_cons_of_mem _ hw))) (hat w hw)
  have hk' : (Cond.classLink own ik cls).before args s' = true := vx_ot_at hW0 hvm.symm (hgood _ List.mem_cons_self) hk
  have hini' : (Cond.initialized cls).before args s' = true := vx_ot_at hW0 hvm.symm (hgood _ (List.mem_cons_of_mem _ List.mem_cons_self)) hini
  have hU' : vx_Zq Bundle.tN "UNASSIGNED_STACK" Bundle.steD A s' s'.heap := by rw [hhp]; exact vx_Zq.moved hW0.alike (hU.kept hS.2.1)
  have hN' : vx_Zq Bundle.tN "SUPPRESSED_SENTINEL" Bundle.listD A s' s'.heap := by rw [hhp]; exact vx_Zq.moved hW0.alike (hN.kept hS.2.1)
  have h : ∀ w ∈ Bundle.ownAtoms own ic cls names, w.before args s' = true := vx_own hat' (vx_isRefq hU'.1) (vx_isRefq hN'.1) hU'.2.word hN'.2.word
  have hown' : s'.vm.findClass own = some m.cls := by rw [hvm]; exact hown
  have hins : (Cond.instantiable cls 6).before args s' = true := h _ (by simp [Bundle.ownAtoms])
  obtain ⟨vm₁, cX, kX, hfX, hkX, -, -, X₁, st1⟩ := Y.newCold hexec (own := own) (C := cls) (index := ik) (n := 6) hown' hk' hins hini'
    (g := F0 m pc ls rest) rfl (by rw [hb]; exact d0) (Nat.le_refl _) (Nat.le_refl _)
  generalize hT1 : (T.setVm vm₁).pushCell { cls := cX, slots := kX.instanceTypes.map defaultValue, vm := .none } = T1 at X₁ st1
  have hcat : (Value.ref T.heap.size).category = 1 := rfl
  have hcellA : T1.heap[T.heap.size]? = some (freshCell cX kX) := by rw [← hT1]; exact State.heap_pushCell_size _ _
  have d3' : decode c.code (pc + 3) = .ok (.dup, 1) := by rw [hb]; exact d3
  have d4' : decode c.code (pc + 4) = .ok (.ldc is, 2) := by rw [hb]; exact d4
  have hstr' : vk_R own is text sa s' := vk_R.warm hW0 hstr
  obtain ⟨V, ce, L, Z, hL, hlt, hcl9, hvm9, st⟩ := vx_ctorMadeS X₁ hexec htr (own := own) (cls := cls) (names := names) (ic := ic) hown' hcls hnames h (fun x hx => nomatch hx) hfX hkX hcellA (by rw [hhp]; exact Nat.le_refl _) (msg := .ref sa) rfl
    (g := { method := m, pc := pc + 6, locals := ls, stack := .ref sa :: .ref T.heap.size :: .ref T.heap.size :: rest, locked := none }) rfl hsize (rest := rest) rfl
    (by rw [hb]; exact d6) hRframes (by simp only [List.map_cons, List.sum_cons, hcat]; omega)
  have Z0 := Stand.forget (locs := []) Z (fun y hy => by rw [hL y hy, hhp]; exact Nat.le_refl _)
  obtain ⟨f1, f2⟩ := vx_frame Z0.same
  rw [hhp] at f1 f2
  have hcid : s.vm.findClass cls = some ce.cls := by
    rw [hcl9]
    rw [hvm] at hfX
    exact hfX
  have hh : (V.setCell T.heap.size ce).heap[T.heap.size]? = some ce := heapAt_setCell_self (s := V) ce hlt
  subst hA'
  have X5 := vx_back9 X Y Z0
  have X6 : Stand p l e R s m args below meth c (V.setCell T.heap.size ce) locs (cells + 1) (slots + 6) := { X5 with same := X5.same.mono (by omega) (by omega) }
  obtain ⟨t, a1, b1⟩ := kk (V.setCell T.heap.size ce).heap ce (by
      have := (Array.getElem?_eq_some_iff.mp hh).1
      omega) (fun q hq => f2 q hq (fun z hz => nomatch hz)) hh hvm9 hcid _ rfl X6
  refine ⟨t, st1 _ ?_, b1⟩
  show Steps p.tables e below (T1.setTop { method := m, pc := pc + 3, locals := ls, stack := .ref T.heap.size :: rest, locked := none }) _
  jvm_step X₁.here [X₁.here.top, hexec, d3', Value.category]
  exact X₁.ldcString hexec (own := own) (text := text) (index := is) (a := sa) hown' hstr'.1 hstr'.2
    (g := { method := m, pc := pc + 4, locals := ls, stack := .ref T.heap.size :: .ref T.heap.size :: rest, locked := none }) rfl d4' _ (st _ a1)
end GXM
def ThOk (Γ : G9) : Prop := SF Γ (vx_Zq Bundle.tN "UNASSIGNED_STACK" Bundle.steD) ∧ SF Γ (vx_Zq Bundle.tN "SUPPRESSED_SENTINEL" Bundle.listD)
theorem gw_ot {w : Cond} (h : w ∈ gw) : vx_ot w = true := by
  unfold vx_ot
  rw [(List.mem_filter.mp h).2]
  simp
set_option maxHeartbeats 4000000 in
theorem Go.throwS {Γ : G9} {M : MI} {d C S pc : Nat} {L : List (Option Value)} {st : List Value} {h : AH} {z : Nat} {Q : QT} {X : XT} {cls text : String} {names : List String} {ik is ic sa : Nat}
    (d0 : decode M.2.1 pc = .ok (.new ik, 3)) (d3 : decode M.2.1 (pc + 3) = .ok (.dup, 1)) (d4 : decode M.2.1 (pc + 4) = .ok (.ldc is, 2)) (d6 : decode M.2.1 (pc + 6) = .ok (.invokespecial ic, 3)) (d9 : decode M.2.1 (pc + 9) = .ok (.athrow, 1))
    (hk : Cond.classLink M.1.cls ik cls ∈ gw) (hini : Cond.initialized cls ∈ gw) (hat : ∀ w ∈ vx_atS M.1.cls ic cls names, w ∈ gw ∨ (w ∈ nw ∧ w.onTables = true)) (hcls : Bundle.fit cls = true) (hnames : ∀ n ∈ names, Bundle.fit n = true)
    (hstr : SF Γ (fun _ U _ => vk_R M.1.cls is text sa U)) (hth : ThOk Γ) (hh : M.2.2.2.2 = []) (hd : Nat.ble (names.length + 4) d = true) (hn : names.length ≤ 3) (hC : Nat.ble 1 C = true) (hS : Nat.ble 6 S = true) (hw : Nat.ble (st.map fun v => v.category).sum 8 = true) (hX : ∀ z', z ≤ z' → X cls h z') : Go Γ M d C S pc L st h z Q X := by
  have hd := Nat.le_of_ble_eq_true hd
  have hC := Nat.le_of_ble_eq_true hC
  have hS := Nat.le_of_ble_eq_true hS
  have hw := Nat.le_of_ble_eq_true hw
  intro p e R s m args below meth c H locs cells slots ls Z hc
  obtain ⟨r1, r2, r3, r4⟩ := hc.2.1
  have hts := hc.1.2.2.2.2.2.1
  have hH := hc.2.2.1
  have hz := hc.2.2.2.1
  refine gx_makeS (A := g_A Γ) (names := names) hc.1.1 hc.1.2.1 hH.1.2.1 hc.1.2.2.2.2.1 hcls hnames (hts _ hk) (hts _ hini) (hstr _ _ hH.se) (fun w hw => (hat w hw).elim (fun h => hts _ h) (fun h => va_Nw.use h.2 (hH.1.2.2.2.2.2 _ h.1))) (fun w hw => ?_) (hth.1 _ _ hH.se) (hth.2 _ _ hH.se) hH.2.1 (by rw [hc.1.2.2.1]; exact hc.2.2.2.2.1.1) d0 d3 d4 d6 (by omega) (by omega) (by omega) (by omega) (fun H1 ce hsz hq hce hcv hcl => ?_)
  · rcases List.mem_cons.mp hw with rfl | hw
    · exact gw_ot hk
    · rcases List.mem_cons.mp hw with rfl | hw
      · exact gw_ot hini
      · rcases hat w hw with h | h
        · exact gw_ot h
        · unfold vx_ot
          rw [h.2]
          rfl
  · have h1 : g_lo Γ ≤ H.size := hH.1.2.2.2.2.1
    have hH1 : HS Γ s H1 h locs := ⟨hH.1.heap (fun q hq' => hq q (by omega)) (by omega), ⟨Nat.le_trans hH.2.1.1 (by omega), fun q h2 h3 => (hq q (Nat.lt_of_lt_of_le h2 hH.2.1.1)).trans (hH.2.1.2.1 q h2 h3), hH.2.1.2.2⟩, fun a e' ha => ⟨(hH.2.2.1 a e' ha).1, (hH.2.2.1 a e' ha).2.kept (hq a (hH.2.2.1.lt ha))⟩, hH.2.2.2⟩
    exact vx_athrow hc.1.1 hc.1.2.1 d9 (hc.2.2.2.2.2.2.2 cls h H1 locs (cells + 1) (slots + 6) (pc + 9) ls st H.size ce (hX _ (by omega)) hH1 (by omega) (by omega) hh hce hcv hcl)
abbrev xIO : String := "java/lang/IndexOutOfBoundsException"
abbrev xIA : String := "java/lang/IllegalArgumentException"
abbrev xIS : String := "java/lang/IllegalStateException"
def exn (t : Int32) : String := if t = 1 then xIO else if t = 2 then xIA else xIS
abbrev xnm : List String := ["java/lang/RuntimeException", "java/lang/Exception"]
abbrev TQ (t : Int32) (V : Option Value) (h2 : AH) (z : Nat) : QT := fun v h' z' => t = 0 ∧ v = V ∧ h' = h2 ∧ z' = z
abbrev TX (t : Int32) (h2 : AH) (z : Nat) : XT := fun E h' z' => ¬ t = 0 ∧ E = exn t ∧ h' = h2 ∧ z ≤ z'
abbrev CallT (Γ : G9) (M : MI) (d C S : Nat) (avs : List Value) (h : AH) (z : Nat) (t : Int32) (V : Option Value) (h2 : AH) : Prop := Call Γ M d C S avs h z (TQ t V h2 z) (TX t h2 z)
theorem x_Camp_k153 : (Jvm.Cond.classLink "GlacierCamp" (153 : Nat) "java/lang/IndexOutOfBoundsException") ∈ gw := gm_1 (List.mem_of_getElem? (i := 219) rfl) rfl
theorem x_Camp_k51 : (Jvm.Cond.classLink "GlacierCamp" (51 : Nat) "java/lang/IllegalStateException") ∈ gw := gm_2 (List.mem_of_getElem? (i := 170) rfl) rfl
theorem x_Camp_k62 : (Jvm.Cond.classLink "GlacierCamp" (62 : Nat) "java/lang/IllegalArgumentException") ∈ gw := gm_2 (List.mem_of_getElem? (i := 193) rfl) rfl
theorem x_ini_Exception : (Jvm.Cond.initialized "java/lang/Exception") ∈ gw := gm_1 (List.mem_of_getElem? (i := 23) rfl) rfl
theorem x_ini_RuntimeException : (Jvm.Cond.initialized "java/lang/RuntimeException") ∈ gw := gm_1 (List.mem_of_getElem? (i := 24) rfl) rfl
theorem x_ini_IllegalArgumentException : (Jvm.Cond.initialized "java/lang/IllegalArgumentException") ∈ gw := gm_1 (List.mem_of_getElem? (i := 25) rfl) rfl
theorem x_ini_IllegalStateException : (Jvm.Cond.initialized "java/lang/IllegalStateException") ∈ gw := gm_1 (List.mem_of_getElem? (i := 26) rfl) rfl
theorem x_ini_IndexOutOfBoundsException : (Jvm.Cond.initialized "java/lang/IndexOutOfBoundsException") ∈ gw := gm_1 (List.mem_of_getElem? (i := 30) rfl) rfl
set_option maxRecDepth 100000 in
theorem xw_xIO : ∀ w ∈ vx_atS "GlacierCamp" 157 xIO xnm, w ∈ gw ∨ (w ∈ nw ∧ w.onTables = true) := by
  have h : ∀ w ∈ vx_atS "GlacierCamp" 157 xIO xnm, (w ∈ tables_1_2 ∨ w ∈ tables_1_1) ∧ (goodWord w = true ∨ (nwOk w = true ∧ w.onTables = true)) := by decide +kernel
  intro w hw
  obtain ⟨h1, h2⟩ := h w hw
  rcases h2 with h2 | h2
  · exact Or.inl (h1.elim (fun h1 => gm_2 h1 h2) (fun h1 => gm_1 h1 h2))
  · exact Or.inr ⟨h1.elim (fun h1 => gn_2 h1 h2.1) (fun h1 => gn_1 h1 h2.1), h2.2⟩
set_option maxRecDepth 100000 in
theorem xw_xIS : ∀ w ∈ vx_atS "GlacierCamp" 55 xIS xnm, w ∈ gw ∨ (w ∈ nw ∧ w.onTables = true) := by
  have h : ∀ w ∈ vx_atS "GlacierCamp" 55 xIS xnm, (w ∈ tables_1_2 ∨ w ∈ tables_1_1) ∧ (goodWord w = true ∨ (nwOk w = true ∧ w.onTables = true)) := by decide +kernel
  intro w hw
  obtain ⟨h1, h2⟩ := h w hw
  rcases h2 with h2 | h2
  · exact Or.inl (h1.elim (fun h1 => gm_2 h1 h2) (fun h1 => gm_1 h1 h2))
  · exact Or.inr ⟨h1.elim (fun h1 => gn_2 h1 h2.1) (fun h1 => gn_1 h1 h2.1), h2.2⟩
set_option maxRecDepth 100000 in
theorem xw_xIA : ∀ w ∈ vx_atS "GlacierCamp" 66 xIA xnm, w ∈ gw ∨ (w ∈ nw ∧ w.onTables = true) := by
  have h : ∀ w ∈ vx_atS "GlacierCamp" 66 xIA xnm, (w ∈ tables_1_2 ∨ w ∈ tables_1_1) ∧ (goodWord w = true ∨ (nwOk w = true ∧ w.onTables = true)) := by decide +kernel
  intro w hw
  obtain ⟨h1, h2⟩ := h w hw
  rcases h2 with h2 | h2
  · exact Or.inl (h1.elim (fun h1 => gm_2 h1 h2) (fun h1 => gm_1 h1 h2))
  · exact Or.inr ⟨h1.elim (fun h1 => gn_2 h1 h2.1) (fun h1 => gn_1 h1 h2.1), h2.2⟩
