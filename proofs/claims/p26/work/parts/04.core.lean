/-! a judgement of one method's walk over a heap of pictures (Go), a method's contract in it (Call), and the row of each instruction -/
abbrev AH : Type := Nat → Option va_E
abbrev G9 : Type := Launch × va_G × (Nat → ClassId) × Nat × (State → Heap → Prop)
def g_l (Γ : G9) : Launch := Γ.1
def g_D (Γ : G9) : va_G := Γ.2.1
def g_k (Γ : G9) : Nat → ClassId := Γ.2.2.1
def g_lo (Γ : G9) : Nat := Γ.2.2.2.1
def g_se (Γ : G9) : State → Heap → Prop := Γ.2.2.2.2
def g_A (Γ : G9) : Nat → Prop := fun q => g_lo Γ ≤ q
def g_T (Γ : G9) : List (ClassId × FieldType) := [(g_k Γ 0, .int), (g_k Γ 1, .long), (g_k Γ 2, .byte), (g_k Γ 3, .object "GlacierCamp$Sign"), (g_k Γ 4, .array .int), (g_k Γ 5, .boolean), (g_k Γ 6, .object "java/lang/String")]
abbrev aI (Γ : G9) (n : Nat) (f : Nat → Int32) : va_E := .inl (g_k Γ 0, n, .inl f)
abbrev aJ (Γ : G9) (n : Nat) (f : Nat → Int64) : va_E := .inl (g_k Γ 1, n, .inr (.inl f))
abbrev aB (Γ : G9) (n : Nat) (f : Nat → Int32) : va_E := .inl (g_k Γ 2, n, .inl f)
abbrev aQ (Γ : G9) (n : Nat) (f : Nat → Option Nat) : va_E := .inl (g_k Γ 3, n, .inr (.inr (.inr (.inr f))))
abbrev aZ (Γ : G9) (n : Nat) (f : Nat → Int32) : va_E := .inl (g_k Γ 5, n, .inl f)
abbrev aT (Γ : G9) (n : Nat) (f : Nat → Option Nat) : va_E := .inl (g_k Γ 6, n, .inr (.inr (.inr (.inr f))))
abbrev aA (Γ : G9) (n : Nat) (f : Nat → Option Nat) : va_E := .inl (g_k Γ 4, n, .inr (.inr (.inr (.inr f))))
def hup (h : AH) (a : Nat) (e : va_E) : AH := fun b => if b = a then some e else h b
def Rp (Γ : G9) (h : AH) (H : Heap) : Prop := ∀ (a : Nat) (e : va_E), h a = some e → g_lo Γ ≤ a ∧ va_at (g_D Γ) vwCl (a, e) H
def SEok (Γ : G9) : Prop := (∀ (u U : State) (H : Heap), u.WarmedH U.vm → g_se Γ u H → g_se Γ U H) ∧ ∀ (U : State) (H H1 : Heap), (∀ q : Nat, q < g_lo Γ → H1[q]? = H[q]?) → g_se Γ U H → g_se Γ U H1
def GS (Γ : G9) (U : State) (H : Heap) : Prop := SEok Γ ∧ (g_l Γ).stackTraces = false ∧ va_K (g_D Γ) vwCl (g_T Γ) U ∧ g_se Γ U H ∧ g_lo Γ ≤ H.size ∧ ∀ w ∈ nw, va_Nw w U
theorem nw_warm {w : Cond} {s U : State} (hn : nwOk w = true) (hW : s.WarmedH U.vm) (h : va_Nw w s) : va_Nw w U := by
  cases w <;> first | exact va_Nw.warmF hW h | exact va_Nw.warmM hW h | exact va_Nw.warmC hW h | exact va_Nw.warmD hW h | (simp [nwOk] at hn)
theorem GS.warm {Γ : G9} {s U : State} {H : Heap} (h : GS Γ s H) (hW : s.WarmedH U.vm) : GS Γ U H :=
  ⟨h.1, h.2.1, va_K.moved hW.alike h.2.2.1, h.1.1 _ _ _ hW h.2.2.2.1, h.2.2.2.2.1, fun w hw => nw_warm (List.mem_filter.mp hw).2 hW (h.2.2.2.2.2 w hw)⟩
theorem GS.heap {Γ : G9} {s : State} {H H1 : Heap} (h : GS Γ s H) (hq : ∀ q : Nat, q < g_lo Γ → H1[q]? = H[q]?) (hz : H.size ≤ H1.size) : GS Γ s H1 :=
  ⟨h.1, h.2.1, h.2.2.1, h.1.2 _ _ _ hq h.2.2.2.1, Nat.le_trans h.2.2.2.2.1 hz, h.2.2.2.2.2⟩
def FC (Γ : G9) (M : MI) (p : Program) (s : State) (m : MethodId) (args : Array Value) (meth : Method) (c : Code) : Prop :=
  p.tables.exec = Jvm.exec ∧ c.code = M.2.1 ∧ c.maxLocals = M.2.2.1 ∧ meth.sig.returnType = M.2.2.2.1 ∧ s.vm.findClass M.1.cls = some m.cls ∧ (∀ w ∈ gw, w.before args s = true) ∧ meth.locks = false ∧ c.exceptionTable.toList = tableOf M.2.2.2.2 ∧ meth.name = M.1.name
def HS (Γ : G9) (s : State) (H : Heap) (h : AH) (locs : List Loc) : Prop := GS Γ s H ∧ va_S (g_A Γ) s.heap H locs ∧ Rp Γ h H ∧ g_lo Γ ≤ s.heap.size
def RetAt (M : MI) (pc : Nat) : Option Value → Prop
  | none => decode M.2.1 pc = .ok (.return_, 1) ∧ M.2.2.2.1 = none
  | some (.int x) => decode M.2.1 pc = .ok (.ireturn, 1) ∧ ∃ ty, M.2.2.2.1 = some ty ∧ narrow ty (.int x) = .int x
  | some (.long _) => decode M.2.1 pc = .ok (.lreturn, 1) ∧ M.2.2.2.1 = some .long
  | some (.double _) => decode M.2.1 pc = .ok (.dreturn, 1) ∧ M.2.2.2.1 = some .double
  | some (.ref _) => decode M.2.1 pc = .ok (.areturn, 1) ∧ ∃ n, M.2.2.2.1 = some n ∧ ((∃ c, n = .object c) ∨ ∃ t, n = .array t)
  | some .null => decode M.2.1 pc = .ok (.areturn, 1) ∧ ∃ n, M.2.2.2.1 = some n ∧ ((∃ c, n = .object c) ∨ ∃ t, n = .array t)
  | _ => False
def lvp : Nat → List (Option Value) → List (Nat × Value)
  | _, [] => []
  | i, none :: t => lvp (i + 1) t
  | i, some v :: t => (i, v) :: lvp (i + 1) t
theorem lvp_mem : ∀ (L : List (Option Value)) (i : Nat) (q : Nat × Value), q ∈ lvp i L ↔ ∃ j, q.1 = i + j ∧ L[j]? = some (some q.2)
  | [], i, q => by simp [lvp]
  | none :: t, i, q => by
    rw [show lvp i (none :: t) = lvp (i + 1) t from rfl, lvp_mem t (i + 1) q]
    constructor
    · rintro ⟨j, h1, h2⟩; exact ⟨j + 1, by omega, by simpa using h2⟩
    · rintro ⟨j, h1, h2⟩
      cases j with
      | zero => simp at h2
      | succ j => exact ⟨j, by omega, by simpa using h2⟩
  | some v :: t, i, q => by
    rw [show lvp i (some v :: t) = (i, v) :: lvp (i + 1) t from rfl, List.mem_cons, lvp_mem t (i + 1) q]
    constructor
    · rintro (rfl | ⟨j, h1, h2⟩)
      · exact ⟨0, rfl, rfl⟩
      · exact ⟨j + 1, by omega, by simpa using h2⟩
    · rintro ⟨j, h1, h2⟩
      cases j with
      | zero => exact Or.inl (by obtain ⟨a, b⟩ := q; simp at h1 h2; rw [h1, h2])
      | succ j => exact Or.inr ⟨j, by omega, by simpa using h2⟩
theorem lvp_at {L : List (Option Value)} {ls : Array Slot} {n k : Nat} {v : Value} (h : lv_has ls n (lvp 0 L)) (hk : L[k]? = some (some v)) : ls[k]? = some (.val v) :=
  h.2.2 (k, v) ((lvp_mem L 0 (k, v)).mpr ⟨k, by simp, hk⟩)
/-- the place ahead holds no value of two slots -/
def l_c1 (L : List (Option Value)) (k : Nat) : Bool := match k with
  | 0 => true
  | j + 1 => match L[j]? with
    | some (some v) => v.category == 1
    | _ => true
theorem lvp_set1 {L : List (Option Value)} {k : Nat} {v : Value} (hp : l_c1 L k = true) (q : Nat × Value) (hq : q ∈ lvp 0 (L.set k (some v))) : q ∈ (k, v) :: (lvp 0 L).filter (fun q => !(q.1 == k) && !(q.1 + 1 == k && q.2.category == 2)) := by
  obtain ⟨j, h1, h2⟩ := (lvp_mem _ 0 q).mp hq
  obtain ⟨a, w⟩ := q
  have h1 : a = j := by simpa using h1
  subst h1
  by_cases hk : a = k
  · subst hk
    by_cases hl : a < L.length
    · rw [List.getElem?_set_self hl] at h2
      cases h2
      exact List.mem_cons_self
    · rw [List.getElem?_eq_none (by simp; omega)] at h2
      cases h2
  · rw [List.getElem?_set_ne (Ne.symm hk)] at h2
    refine List.mem_cons_of_mem _ (List.mem_filter.mpr ⟨(lvp_mem L 0 (a, w)).mpr ⟨a, by simp, h2⟩, ?_⟩)
    simp only [Bool.and_eq_true, Bool.not_eq_true', beq_eq_false_iff_ne, ne_eq, Bool.and_eq_false_iff]
    refine ⟨hk, ?_⟩
    by_cases hz : a + 1 = k
    · right
      subst hz
      have h2' : L[a]? = some (some w) := h2
      simp only [l_c1, h2'] at hp
      have : w.category = 1 := by simpa using hp
      omega
    · exact Or.inl hz
theorem lvp_set2 {L : List (Option Value)} {k : Nat} {v : Value} (hp : l_c1 L k = true) (q : Nat × Value) (hq : q ∈ lvp 0 ((L.set k (some v)).set (k + 1) none)) : q ∈ (k, v) :: (lvp 0 L).filter (fun q => !(q.1 == k) && (!(q.1 == k + 1) && !(q.1 + 1 == k && q.2.category == 2))) := by
  obtain ⟨j, h1, h2⟩ := (lvp_mem _ 0 q).mp hq
  obtain ⟨a, w⟩ := q
  have h1 : a = j := by simpa using h1
  subst h1
  have hn : a ≠ k + 1 := by
    intro h
    subst h
    by_cases hl : k + 1 < L.length
    · rw [List.getElem?_set_self (by simpa using hl)] at h2
      cases h2
    · rw [List.getElem?_eq_none (by simp; omega)] at h2
      cases h2
  rw [List.getElem?_set_ne (Ne.symm hn)] at h2
  by_cases hk : a = k
  · subst hk
    by_cases hl : a < L.length
    · rw [List.getElem?_set_self hl] at h2
      cases h2
      exact List.mem_cons_self
    · rw [List.getElem?_eq_none (by simp; omega)] at h2
      cases h2
  · rw [List.getElem?_set_ne (Ne.symm hk)] at h2
    refine List.mem_cons_of_mem _ (List.mem_filter.mpr ⟨(lvp_mem L 0 (a, w)).mpr ⟨a, by simp, h2⟩, ?_⟩)
    simp only [Bool.and_eq_true, Bool.not_eq_true', beq_eq_false_iff_ne, ne_eq, Bool.and_eq_false_iff]
    refine ⟨hk, hn, ?_⟩
    by_cases hz : a + 1 = k
    · right
      subst hz
      have h2' : L[a]? = some (some w) := h2
      simp only [l_c1, h2'] at hp
      have : w.category = 1 := by simpa using hp
      omega
    · exact Or.inl hz
theorem lv_fewer {ls : Array Slot} {n : Nat} {l l' : List (Nat × Value)} (h : lv_has ls n l) (hs : ∀ q ∈ l', q ∈ l) : lv_has ls n l' := ⟨h.1, h.2.1, fun q hq => h.2.2 q (hs q hq)⟩
abbrev QT : Type := Option Value → AH → Nat → Prop
abbrev XT : Type := String → AH → Nat → Prop
def Cx (Γ : G9) (M : MI) (d C S : Nat) (L : List (Option Value)) (h : AH) (z : Nat) (Q : QT) (X : XT) (p : Program) (e : Env) (R : Room) (s : State) (m : MethodId) (args : Array Value) (below : List Frame) (meth : Method) (c : Code) (H : Heap) (locs : List Loc) (cells slots : Nat) (ls : Array Slot) (Z : State → Prop) : Prop :=
  FC Γ M p s m args meth c ∧ (d ≤ R.frames ∧ 40 * d ≤ R.locals ∧ cells + C ≤ R.cells ∧ slots + S ≤ R.slots) ∧ HS Γ s H h locs ∧ H.size = z ∧ lv_has ls M.2.2.1 (lvp 0 L) ∧ L.length = M.2.2.1 ∧
  (∀ (v : Option Value) (h' : AH) (H' : Heap) (locs' : List Loc) (cells' slots' pc' : Nat) (ls' : Array Slot), Q v h' H'.size → HS Γ s H' h' locs' → cells' ≤ R.cells → slots' ≤ R.slots → RetAt M pc' v → W p (g_l Γ) e R s m args below meth c H' locs' cells' slots' Z (F0 m pc' ls' v.toList)) ∧
  (∀ (E : String) (h' : AH) (H' : Heap) (locs' : List Loc) (cells' slots' pc' : Nat) (ls' : Array Slot) (rest : List Value) (q : Nat) (ce : Cell), X E h' H'.size → HS Γ s H' h' locs' → cells' ≤ R.cells → slots' ≤ R.slots → M.2.2.2.2 = [] → H'[q]? = some ce → ce.vm = .none → s.vm.findClass E = some ce.cls → vx_W p (g_l Γ) e R s m args below meth c H' locs' cells' slots' Z (F0 m pc' ls' rest) q)
/-- from pc, with these locals, this stack, this heap of size z: the method ends, Q says with what and over what heap; or throws, X says what -/
def Go (Γ : G9) (M : MI) (d C S pc : Nat) (L : List (Option Value)) (st : List Value) (h : AH) (z : Nat) (Q : QT) (X : XT) : Prop :=
  ∀ (p : Program) (e : Env) (R : Room) (s : State) (m : MethodId) (args : Array Value) (below : List Frame) (meth : Method) (c : Code) (H : Heap) (locs : List Loc) (cells slots : Nat) (ls : Array Slot) (Z : State → Prop),
    Cx Γ M d C S L h z Q X p e R s m args below meth c H locs cells slots ls Z → W p (g_l Γ) e R s m args below meth c H locs cells slots Z (F0 m pc ls st)
/-- the same, an exception of the class E at hand -/
def GoX (Γ : G9) (M : MI) (d C S pc : Nat) (L : List (Option Value)) (E : String) (h : AH) (z : Nat) (Q : QT) (X : XT) : Prop :=
  ∀ (p : Program) (e : Env) (R : Room) (s : State) (m : MethodId) (args : Array Value) (below : List Frame) (meth : Method) (c : Code) (H : Heap) (locs : List Loc) (cells slots : Nat) (ls : Array Slot) (Z : State → Prop) (rest : List Value) (q : Nat) (ce : Cell),
    Cx Γ M d C S L h z Q X p e R s m args below meth c H locs cells slots ls Z → H[q]? = some ce → ce.vm = .none → s.vm.findClass E = some ce.cls → vx_W p (g_l Γ) e R s m args below meth c H locs cells slots Z (F0 m pc ls rest) q
/-- a method's contract: called with these arguments over this heap, with room for d more frames, C cells and S slots -/
def Call (Γ : G9) (M : MI) (d C S : Nat) (avs : List Value) (h : AH) (z : Nat) (Q : QT) (X : XT) : Prop :=
  vx_Met (g_l Γ) M.1 (mi_w M :: gw) ({ frames := d, cells := C, slots := S, locals := 40 * d })
    (va_Pc avs (fun U => GS Γ U U.heap ∧ U.heap.size = z ∧ Rp Γ h U.heap))
    (fun _ st o t => (∃ (v : Option Value) (h' : AH), o = .returned v ∧ Q v h' t.heap.size ∧ Rp Γ h' t.heap) ∧ st.heap.size ≤ t.heap.size ∧ ∀ q : Nat, q < g_lo Γ → t.heap[q]? = st.heap[q]?)
    (fun E st t => (∃ h' : AH, X E h' t.heap.size ∧ Rp Γ h' t.heap) ∧ st.heap.size ≤ t.heap.size ∧ ∀ q : Nat, q < g_lo Γ → t.heap[q]? = st.heap[q]?)
    C S (g_A Γ)
section GoRules
variable {Γ : G9} {M : MI} {d C S pc q : Nat} {L : List (Option Value)} {st : List Value} {h : AH} {z : Nat} {Q : QT} {X : XT}
theorem Go.pure {q : Nat} {st' : List Value} (k : Go Γ M d C S q L st' h z Q X)
    (hs : ∀ {p : Program} {l : Launch} {e : Env} {R : Room} {s : State} {m : MethodId} {args : Array Value} {below : List Frame} {meth : Method} {c : Code} {H : Heap} {locs : List Loc} {cells slots : Nat} {Z : State → Prop} {ls : Array Slot}, p.tables.exec = Jvm.exec → c.code = M.2.1 → lv_has ls M.2.2.1 (lvp 0 L) → W p l e R s m args below meth c H locs cells slots Z (F0 m q ls st') → W p l e R s m args below meth c H locs cells slots Z (F0 m pc ls st)) : Go Γ M d C S pc L st h z Q X := by
  intro p e R s m args below meth c H locs cells slots ls Z hc
  exact hs hc.1.1 hc.1.2.1 hc.2.2.2.2.1 (k _ _ _ _ _ _ _ _ _ _ _ _ _ _ _ hc)
theorem Go.sto {q : Nat} {L' : List (Option Value)} {st' : List Value} (k : Go Γ M d C S q L' st' h z Q X) (hlen : L'.length = L.length)
    (hs : ∀ {p : Program} {l : Launch} {e : Env} {R : Room} {s : State} {m : MethodId} {args : Array Value} {below : List Frame} {meth : Method} {c : Code} {H : Heap} {locs : List Loc} {cells slots : Nat} {Z : State → Prop} {ls : Array Slot}, p.tables.exec = Jvm.exec → c.code = M.2.1 → L.length = M.2.2.1 → lv_has ls M.2.2.1 (lvp 0 L) → (∀ ls', lv_has ls' M.2.2.1 (lvp 0 L') → W p l e R s m args below meth c H locs cells slots Z (F0 m q ls' st')) → W p l e R s m args below meth c H locs cells slots Z (F0 m pc ls st)) : Go Γ M d C S pc L st h z Q X := by
  intro p e R s m args below meth c H locs cells slots ls Z hc
  exact hs hc.1.1 hc.1.2.1 hc.2.2.2.2.2.1 hc.2.2.2.2.1 (fun ls' hl => k _ _ _ _ _ _ _ _ _ _ _ _ _ _ _ ⟨hc.1, hc.2.1, hc.2.2.1, hc.2.2.2.1, hl, hlen.trans hc.2.2.2.2.2.1, hc.2.2.2.2.2.2⟩)
/-- a local is forgotten -/
theorem Go.loc {L' : List (Option Value)} (k : Go Γ M d C S pc L' st h z Q X) (hlen : L'.length = L.length) (hs : ∀ q ∈ lvp 0 L', q ∈ lvp 0 L) : Go Γ M d C S pc L st h z Q X := by
  intro p e R s m args below meth c H locs cells slots ls Z hc
  exact k _ _ _ _ _ _ _ _ _ _ _ _ _ _ _ ⟨hc.1, hc.2.1, hc.2.2.1, hc.2.2.2.1, lv_fewer hc.2.2.2.2.1 hs, hlen.trans hc.2.2.2.2.2.1, hc.2.2.2.2.2.2⟩
theorem Go.ret {v : Option Value} (hr : RetAt M pc v) (hq : Q v h z) : Go Γ M d C S pc L v.toList h z Q X := by
  intro p e R s m args below meth c H locs cells slots ls Z hc
  obtain ⟨hF, ⟨r1, r2, r3, r4⟩, hH, hz, hl, hlen, hR, hX⟩ := hc
  subst hz
  exact hR v h H locs cells slots pc ls hq hH (by omega) (by omega) hr
/-- Q and X may be weakened -/
theorem Go.mono {Q' : QT} {X' : XT} (k : Go Γ M d C S pc L st h z Q' X') (hQ : ∀ v h' z', Q' v h' z' → Q v h' z') (hX : ∀ E h' z', X' E h' z' → X E h' z') : Go Γ M d C S pc L st h z Q X := by
  intro p e R s m args below meth c H locs cells slots ls Z hc
  obtain ⟨hF, hr, hH, hz, hl, hlen, hR, hx⟩ := hc
  exact k _ _ _ _ _ _ _ _ _ _ _ _ _ _ _ ⟨hF, hr, hH, hz, hl, hlen, fun v h' H' locs' c' s' pc' ls' hq => hR v h' H' locs' c' s' pc' ls' (hQ _ _ _ hq), fun E h' H' locs' c' s' pc' ls' rest q ce hq => hx E h' H' locs' c' s' pc' ls' rest q ce (hX _ _ _ hq)⟩
theorem Go.room {d' C' S' : Nat} (k : Go Γ M d' C' S' pc L st h z Q X) (hd : d' ≤ d) (hC : C' ≤ C) (hS : S' ≤ S) : Go Γ M d C S pc L st h z Q X := by
  intro p e R s m args below meth c H locs cells slots ls Z hc
  obtain ⟨hF, ⟨r1, r2, r3, r4⟩, hr⟩ := hc
  exact k _ _ _ _ _ _ _ _ _ _ _ _ _ _ _ ⟨hF, ⟨by omega, by omega, by omega, by omega⟩, hr⟩
/-- a heap that is the same at each place -/
theorem Go.heq {h' : AH} (e : h = h') (k : Go Γ M d C S pc L st h' z Q X) : Go Γ M d C S pc L st h z Q X := by rw [e]; exact k
end GoRules
