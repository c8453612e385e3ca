/-! from the law's walk to its entry: what the start holds is carried along, the classes and arrays, the end -/
def gS0 (s : State) : State → Heap → Prop := fun U H => s.WarmedH U.vm ∧ ∀ q : Nat, q < s.heap.size → H[q]? = s.heap[q]?
def gOf (l : Launch) (D : va_G) (kf : Nat → ClassId) (s : State) : G9 := (l, D, kf, s.heap.size, gS0 s)
theorem gS0_ok {l : Launch} {D : va_G} {kf : Nat → ClassId} {s : State} : SEok (gOf l D kf s) :=
  ⟨fun u U H hW h => ⟨State.WarmedH.trans h.1 hW, h.2⟩, fun U H H1 hq h => ⟨h.1, fun q hl => (hq q hl).trans (h.2 q hl)⟩⟩
/-- what holds at the start and is moved and kept, holds along -/
theorem SF.of {l : Launch} {D : va_G} {kf : Nat → ClassId} {s : State} {P : (Nat → Prop) → State → Heap → Prop} (mv : ∀ {A : Nat → Prop} {u U : State} {H : Heap}, u.vm.Alike U.vm → P A u H → P A U H) (kp : ∀ {A : Nat → Prop} {U : State} {H H1 : Heap}, P A U H → (∀ a : Nat, a < H.size → ¬ A a → H1[a]? = H[a]?) → P A U H1) (h : P (fun q => s.heap.size ≤ q) s s.heap) : SF (gOf l D kf s) P :=
  fun U H hU => mv hU.1.alike (kp h (fun a ha _ => hU.2 a ha))
theorem SF.ofU {l : Launch} {D : va_G} {kf : Nat → ClassId} {s : State} {P : State → Prop} (mv : ∀ {u U : State}, u.vm.Alike U.vm → P u → P U) (h : P s) : SF (gOf l D kf s) (fun _ U _ => P U) :=
  fun U H hU => mv hU.1.alike h
theorem SF.ofW {l : Launch} {D : va_G} {kf : Nat → ClassId} {s : State} {P : State → Prop} (mv : ∀ {u U : State}, u.WarmedH U.vm → P u → P U) (h : P s) : SF (gOf l D kf s) (fun _ U _ => P U) :=
  fun U H hU => mv hU.1 h
theorem arrOfT_of {s : State} {c : ClassId} {ty : FieldType} {k : Class} {comp : ClassId} (h1 : s.vm.classes[c]? = some k) (h2 : k.kind = .array comp ty) : ArrOfT s c ty := fun n z => ⟨fun k h => (by cases h), k, h1, comp, h2⟩
theorem aclass_k {s : State} {A : Array Value} {ty : FieldType} (hn : ∀ C, ty ≠ .object C) (h : (Cond.arrayClass ty).before A s = true) : ∃ c, ArrOfT s c ty ∧ va_RA s c ty := by
  obtain ⟨c, k, comp, h1, h2, h3⟩ := Cond.arrayClass_spec h
  refine ⟨c, arrOfT_of h2 h3, ?_⟩
  cases ty with
  | object C => exact absurd rfl (hn C)
  | _ => exact h1
theorem aover_k {s : State} {A : Array Value} {C : String} (h : (Cond.arrayOver (.object C)).before A s = true) : ∃ c, ArrOfT s c (.object C) ∧ va_RA s c (.object C) := by
  obtain ⟨comp, c, k, h1, h2, h3, h4, h5⟩ := Cond.arrayOver_spec h
  exact ⟨c, arrOfT_of h3 h4, k, comp, h3, h4, h1, h5⟩
theorem aoverA_spec {args : Array Value} {s : State} {t : FieldType} (h : (Cond.arrayOver (.array t)).before args s = true) : ∃ comp c k, s.vm.findClass (FieldType.array t).toString = some comp ∧ s.vm.classes[c]? = some k ∧ k.kind = .array comp (.array t) ∧ s.vm.findClass ("[" ++ (FieldType.array t).toString) = some c := by
  simp only [Cond.before, Cond.holds, Cond.value, beq_iff_eq] at h
  cases hc : s.vm.findClass (FieldType.array t).toString with
  | none => simp [hc] at h
  | some comp =>
    simp only [hc, Option.bind_some, Option.bind_eq_some_iff, Option.map_eq_some_iff] at h
    obtain ⟨c, hf, hh⟩ := h
    cases hk : s.vm.classes[c]? with
    | none => simp [hk] at hh
    | some k =>
      simp only [hk, Option.some.injEq, exists_eq_left'] at hh
      cases hkind : k.kind with
      | array component ty =>
        simp [hkind] at hh
        obtain ⟨hlt, hp, -⟩ := Array.findIdx?_eq_some_iff_getElem.mp hf
        rw [(Array.getElem?_eq_some_iff.mp hk).2, hkind] at hp
        have hp : component = comp := by simpa using hp
        exact ⟨comp, c, k, rfl, hk, by rw [hkind, hp, hh.1], hh.2⟩
      | _ => simp [hkind] at hh
theorem aoverA_k {s : State} {A : Array Value} {t : FieldType} (h : (Cond.arrayOver (.array t)).before A s = true) : ∃ c, ArrOfT s c (.array t) ∧ va_RA s c (.array t) := by
  obtain ⟨comp, c, k, h1, h2, h3, h4⟩ := aoverA_spec h
  exact ⟨c, arrOfT_of h2 h3, h4⟩
theorem va_K0 {s : State} {A : Array Value} (hts : ∀ w ∈ gw, w.before A s = true) (hq : (Cond.arrayOver (.object "GlacierCamp$Sign")).before A s = true) (hr : (Cond.arrayOver (.array .int)).before A s = true) (hs : (Cond.arrayOver (.object "java/lang/String")).before A s = true) : ∃ (D : va_G) (kf : Nat → ClassId), va_K D vwCl [(kf 0, .int), (kf 1, .long), (kf 2, .byte), (kf 3, .object "GlacierCamp$Sign"), (kf 4, .array .int), (kf 5, .boolean), (kf 6, .object "java/lang/String")] s := by
  obtain ⟨c0, i0, h0⟩ := u_known (C := R_Formulas) (T := T_Formulas) (N := 5) hts cw_Formulas (hts _ (gm_1 (List.mem_of_getElem? (i := 160) rfl) rfl))
  obtain ⟨c1, i1, h1⟩ := u_known (C := R_Glacier) (T := T_Glacier) (N := 8) hts cw_Glacier (hts _ (gm_1 (List.mem_of_getElem? (i := 94) rfl) rfl))
  obtain ⟨c2, i2, h2⟩ := u_known (C := R_Names) (T := T_Names) (N := 2) hts cw_Names (hts _ (gm_4 (List.mem_of_getElem? (i := 92) rfl) rfl))
  obtain ⟨c3, i3, h3⟩ := u_known (C := R_Orders) (T := T_Orders) (N := 2) hts cw_Orders (hts _ (gm_1 (List.mem_of_getElem? (i := 152) rfl) rfl))
  obtain ⟨c4, i4, h4⟩ := u_known (C := R_Table) (T := T_Table) (N := 2) hts cw_Table (hts _ (gm_1 (List.mem_of_getElem? (i := 100) rfl) rfl))
  obtain ⟨c5, i5, h5⟩ := u_known (C := R_Tape) (T := T_Tape) (N := 2) hts cw_Tape (hts _ (gm_1 (List.mem_of_getElem? (i := 40) rfl) rfl))
  obtain ⟨c6, i6, h6⟩ := u_known (C := R_Teacher) (T := T_Teacher) (N := 11) hts cw_Teacher (hts _ (gm_4 (List.mem_of_getElem? (i := 86) rfl) rfl))
  obtain ⟨c7, i7, h7⟩ := u_known (C := R_Tokens) (T := T_Tokens) (N := 9) hts cw_Tokens (hts _ (gm_1 (List.mem_of_getElem? (i := 54) rfl) rfl))
  obtain ⟨c8, i8, h8⟩ := u_known (C := R_Camp) (T := T_Camp) (N := 7) hts cw_Camp (hts _ (gm_1 (List.mem_of_getElem? (i := 32) rfl) rfl))
  obtain ⟨c9, i9, h9⟩ := u_known (C := R_Sim) (T := T_Sim) (N := 11) hts cw_Sim (hts _ (gm_3 (List.mem_of_getElem? (i := 151) rfl) rfl))
  obtain ⟨c10, i10, h10⟩ := u_known (C := R_StringBuilder) (T := T_StringBuilder) (N := 4) hts cw_StringBuilder (hts _ (gm_6 (List.mem_of_getElem? (i := 145) rfl) rfl))
  obtain ⟨c11, i11, h11⟩ := u_known (C := R_String) (T := T_String) (N := 4) hts cw_String (hts _ (gm_6 (List.mem_of_getElem? (i := 171) rfl) rfl))
  obtain ⟨k0, a0, b0⟩ := aclass_k (ty := .int) (by intro C h; cases h) (hts _ q_arr_int)
  obtain ⟨k1, a1, b1⟩ := aclass_k (ty := .long) (by intro C h; cases h) (hts _ q_arr_long)
  obtain ⟨k2, a2, b2⟩ := aclass_k (ty := .byte) (by intro C h; cases h) (hts _ q_arr_byte)
  obtain ⟨k3, a3, b3⟩ := aover_k hq
  obtain ⟨k4, a4, b4⟩ := aoverA_k hr
  obtain ⟨k5, a5, b5⟩ := aclass_k (ty := .boolean) (by intro C h; cases h) (hts _ q_arr_boolean)
  obtain ⟨k6, a6, b6⟩ := aover_k hs
  refine ⟨(fun k => if k = 0 then c0 else if k = 1 then c1 else if k = 2 then c2 else if k = 3 then c3 else if k = 4 then c4 else if k = 5 then c5 else if k = 6 then c6 else if k = 7 then c7 else if k = 8 then c8 else if k = 9 then c9 else if k = 10 then c10 else c11, fun k => if k = 0 then i0 else if k = 1 then i1 else if k = 2 then i2 else if k = 3 then i3 else if k = 4 then i4 else if k = 5 then i5 else if k = 6 then i6 else if k = 7 then i7 else if k = 8 then i8 else if k = 9 then i9 else if k = 10 then i10 else i11), fun k => if k = 0 then k0 else if k = 1 then k1 else if k = 2 then k2 else if k = 3 then k3 else if k = 4 then k4 else if k = 5 then k5 else k6, ?_, ?_⟩
  · intro k q hq
    match k, hq with
    | 0, hq => cases hq; exact h0
    | 1, hq => cases hq; exact h1
    | 2, hq => cases hq; exact h2
    | 3, hq => cases hq; exact h3
    | 4, hq => cases hq; exact h4
    | 5, hq => cases hq; exact h5
    | 6, hq => cases hq; exact h6
    | 7, hq => cases hq; exact h7
    | 8, hq => cases hq; exact h8
    | 9, hq => cases hq; exact h9
    | 10, hq => cases hq; exact h10
    | 11, hq => cases hq; exact h11
    | k + 12, hq => simp [vwCl] at hq
  · intro k q hq
    match k, hq with
    | 0, hq => cases hq; exact ⟨a0, b0⟩
    | 1, hq => cases hq; exact ⟨a1, b1⟩
    | 2, hq => cases hq; exact ⟨a2, b2⟩
    | 3, hq => cases hq; exact ⟨a3, b3⟩
    | 4, hq => cases hq; exact ⟨a4, b4⟩
    | 5, hq => cases hq; exact ⟨a5, b5⟩
    | 6, hq => cases hq; exact ⟨a6, b6⟩
    | k + 7, hq => simp at hq
theorem nwTab {w : Cond} (h : nwOk w = true) : w.onTables = true := by cases w <;> first | rfl | (simp [nwOk] at h)
theorem st_flags {l : Launch} (h : l.flags = flags0) : l.stackTraces = false := by
  unfold Launch.stackTraces
  rw [h]
  decide +kernel
theorem go_entry {p : Program} {e : Env} {s : State} {m : MethodId} {below : List Frame} {meth : Method} {c : Code} {l : Launch} (hflags : l.flags = flags0) {b L : Nat} {xs : Nat → Int32} (C0 : lw_At p s m meth c b L xs) (htab : c.exceptionTable.toList = []) (hnm : meth.name = "law") {D : va_G} {kf : Nat → ClassId} (hK : va_K D vwCl [(kf 0, .int), (kf 1, .long), (kf 2, .byte), (kf 3, .object "GlacierCamp$Sign"), (kf 4, .array .int), (kf 5, .boolean), (kf 6, .object "java/lang/String")] s)
    (hgo : Go (gOf l D kf s) M_law 80 80000 2000000 0 [some (.ref b), none, none, none, none, none, none, none, none, none, none, none, none, none, none, none, none, none, none, none, none, none, none, none, none, none, none, none, none, none, none] [] (fun _ => none) s.heap.size (fun v _ _ => v = some (.int 1)) noX) : W p l e room_1 s m #[Value.ref b] below meth c s.heap [] 0 0 (lw_Z below #[Value.ref b] s) (entryFrame m ([Value.ref b] : List Value).toArray 31) := by
  obtain ⟨hx, hb, hr, hml, hown, hts, hX, hbl, hlocks, hgv⟩ := id C0
  have hF : FC (gOf l D kf s) M_law p s m #[Value.ref b] meth c := ⟨hx, hb, hml, hr, hown, fun w hw => hts w (List.mem_filter.mp hw).1, hlocks, htab, hnm⟩
  have hG : GS (gOf l D kf s) s s.heap := ⟨gS0_ok, st_flags hflags, hK, ⟨State.WarmedH.refl s, fun _ _ => rfl⟩, Nat.le_refl _, fun w hw => va_Nw.of (nwTab (List.mem_filter.mp hw).2) (hts w (List.mem_append_right _ (List.mem_filter.mp hw).1))⟩
  have hR : room_1.frames = 2048 ∧ room_1.locals = 84000 ∧ room_1.cells = 600086 ∧ room_1.slots = 7301442 := ⟨rfl, rfl, rfl, rfl⟩
  rw [lg_entry_eq]
  refine hgo p e room_1 s m _ below meth c s.heap [] 0 0 _ _ ⟨hF, ⟨by rw [hR.1]; decide, by rw [hR.2.1]; decide, by rw [hR.2.2.1]; omega, by rw [hR.2.2.2]; omega⟩, ⟨hG, va_S.rf, fun a e h => (by cases h), Nat.le_refl _⟩, rfl, lv_fewer (lv_entry [.ref b] (n := 31) (Nat.le_of_ble_eq_true rfl)) (fun q hq => hq), rfl, ?_, ?_⟩
  · intro v h' H' locs' cells' slots' pc' ls' hq hH hc hs hra
    subst hq
    refine va_forget hH.2.1.2.2 (W.widen (k := 600086) (n := 7301442) hc hs (W.base ?_))
    exact lw_ret (Drawn.sameBut.refl s.drawn lw_cs) hx hb hr hlocks hra.1
  · intro E h' H' locs' cells' slots' pc' ls' rest q ce hX
    exact hX.elim
