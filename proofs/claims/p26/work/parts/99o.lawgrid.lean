/-! rows of rows, made at once -/
/-- the outer row, when i of its rows were made -/
def oF9 (z i : Nat) : Nat → Option Nat := fun j => if j < i then some (z + 1 + j) else none
def oC9 (cA N z i : Nat) : Cell := arrV cA N (fun j => va_rf (oF9 z i j))
def iC9 (cC K : Nat) : Cell := arrV cC K (fun _ => .int 0)
theorem oC9_set (cA N z i : Nat) : (oC9 cA N z i).setSlot i (.ref (z + 1 + i)) = oC9 cA N z (i + 1) := by
  unfold oC9
  rw [arrV_store]
  refine arrV_ext fun j _ => ?_
  unfold updV oF9
  by_cases e : j = i
  · subst e
    rw [if_pos rfl, if_pos (Nat.lt_succ_self _)]
    rfl
  · rw [if_neg e]
    show va_rf (if j < i then some (z + 1 + j) else none) = va_rf (if j < i + 1 then some (z + 1 + j) else none)
    by_cases h : j < i
    · rw [if_pos h, if_pos (by omega)]
    · rw [if_neg h, if_neg (by omega)]
def hg9 (cA cC N K z : Nat) (H : Heap) : Nat → Heap
  | 0 => H.push (oC9 cA N z 0)
  | i + 1 => ((hg9 cA cC N K z H i).push (iC9 cC K)).setIfInBounds z (oC9 cA N z (i + 1))
def mg9 (cA cC N K z : Nat) (T : State) : Nat → State
  | 0 => T.pushCell (oC9 cA N z 0)
  | i + 1 => ((mg9 cA cC N K z T i).pushCell (iC9 cC K)).setCell z (oC9 cA N z (i + 1))
section Mg
variable {cA cC N K z : Nat} {T : State} {H : Heap}
theorem mg9_heap : ∀ i, (mg9 cA cC N K z T i).heap = hg9 cA cC N K z T.heap i
  | 0 => rfl
  | i + 1 => by
    show ((mg9 cA cC N K z T i).heap.push _).setIfInBounds z _ = _
    rw [mg9_heap i]
    rfl
theorem mg9_vm : ∀ i, (mg9 cA cC N K z T i).vm = T.vm
  | 0 => rfl
  | i + 1 => mg9_vm i
theorem mg9_used : ∀ i, (mg9 cA cC N K z T i).slotsUsed = T.slotsUsed + N + i * K
  | 0 => by
    show T.slotsUsed + (oC9 cA N z 0).slots.size = _
    rw [show (oC9 cA N z 0).slots.size = N from arrV_size _ _ _, Nat.zero_mul]
    rfl
  | i + 1 => by
    show (mg9 cA cC N K z T i).slotsUsed + (iC9 cC K).slots.size = _
    rw [mg9_used i, show (iC9 cC K).slots.size = K from arrV_size _ _ _, Nat.succ_mul]
    omega
theorem mg9_top (f : JFrame) : ∀ i, mg9 cA cC N K z (T.setTop f) i = (mg9 cA cC N K z T i).setTop f
  | 0 => rfl
  | i + 1 => by
    show ((mg9 cA cC N K z (T.setTop f) i).pushCell _).setCell z _ = _
    rw [mg9_top f i]
    rfl
theorem hg9_f (hz : z = H.size) : ∀ i, (hg9 cA cC N K z H i).size = z + 1 + i ∧ (hg9 cA cC N K z H i)[z]? = some (oC9 cA N z i)
  | 0 => by
    subst hz
    exact ⟨Array.size_push .., Array.getElem?_push_size⟩
  | i + 1 => by
    obtain ⟨h1, h2⟩ := hg9_f hz i
    refine ⟨?_, ?_⟩
    · show (((hg9 cA cC N K z H i).push (iC9 cC K)).setIfInBounds z _).size = _
      rw [Array.size_setIfInBounds, Array.size_push, h1]
      omega
    · show (((hg9 cA cC N K z H i).push (iC9 cC K)).setIfInBounds z _)[z]? = _
      rw [Array.getElem?_setIfInBounds, if_pos rfl, if_pos (by rw [Array.size_push]; omega)]
end Mg
section MgS
variable {p : Program} {l : Launch} {e : Env} {R : Room} {s : State} {m : MethodId} {args : Array Value} {below : List Frame} {meth : Method} {c : Code} {T : State} {locs : List Loc} {cells slots : Nat} {cA cC N K : Nat}
def lo9 (z : Nat) (locs : List Loc) : Nat → List Loc
  | 0 => locs
  | i + 1 => lo9 z locs i ++ [⟨z, i⟩]
theorem mg9_stand (X : Stand p l e R s m args below meth c T locs cells slots) : ∀ i, Stand p l e R s m args below meth c (mg9 cA cC N K T.heap.size T i) (lo9 T.heap.size locs i) (cells + 1 + i) (slots + N + i * K)
  | 0 => by
    have h := X.pushed (oC9 cA N T.heap.size 0)
    rw [show (oC9 cA N T.heap.size 0).slots.size = N from arrV_size _ _ _] at h
    rw [Nat.zero_mul]
    exact h
  | i + 1 => by
    obtain ⟨f1, f2⟩ := hg9_f (cA := cA) (cC := cC) (N := N) (K := K) (H := T.heap) rfl i
    have hlt : T.heap.size < (mg9 cA cC N K T.heap.size T i).heap.size := by
      rw [mg9_heap, f1]
      omega
    have hcell : ((mg9 cA cC N K T.heap.size T i).pushCell (iC9 cC K)).heap[T.heap.size]? = some (oC9 cA N T.heap.size i) := by
      rw [State.heap_pushCell_of_lt (h := hlt), mg9_heap]
      exact f2
    have h := ((mg9_stand X i).pushed (iC9 cC K)).stored hcell i (.ref (T.heap.size + 1 + i))
    rw [oC9_set, show (iC9 cC K).slots.size = K from arrV_size _ _ _] at h
    rw [show slots + N + (i + 1) * K = slots + N + i * K + K by rw [Nat.succ_mul]; omega]
    exact h
end MgS
section MgW
variable {E : CtlPost} {e : Env} {d : Bool} {acts : List Action} {s : State}
theorem wpA9 {c comp : ClassId} {k : Class} {type : FieldType} {len : Nat} {init : Value} (hk : s.vm.classes[c]? = some k) (hkind : k.kind = .array comp type)
    (hlimit : ¬ len > e.platform.arrayLengthLimit) (hheap : ¬ len * componentBytes type > e.platform.maxHeapBytes) (hfit : fits type init = true) (hdef : init.isDefault = true) {Q : Addr → Pre}
    (h1 : s.heap.size < e.platform.maxCells) (h2 : s.slotsUsed + len ≤ e.platform.maxSlots)
    (hq : ∀ acts', Q s.heap.size d acts' (s.pushCell (arrV c len (fun _ => init)))) : wp (Jvm.newArray c len init) Q E e d acts s := by
  have hf : ∀ i v, (Array.replicate len init)[i]? = some v → s.fitsSlot c .none i v = true := by
    intro i v hv
    rw [Array.getElem?_replicate] at hv
    by_cases h : i < len
    · rw [if_pos h] at hv
      cases hv
      simp [State.fitsSlot, State.slotType?, hk, hkind, hfit]
    · rw [if_neg h] at hv
      cases hv
  simp only [Jvm.newArray, Jvm.arrayFits, wp_bind', W.ask, W.ite, hlimit, if_false, wp_pure', W.theClass, hk, hkind, hheap, W.alloc, W.stop, Option.some.injEq, exists_eq_left', Array.size_replicate]
  rw [if_neg (by omega), arrV_new]
  exact ⟨h1, h2, hf, hq _⟩
theorem wpM1 {cC cE : ClassId} {kC : Class} {K : Nat} {m : Int32} (hkC : s.vm.classes[cC]? = some kC) (hkindC : kC.kind = .array cE .int) (hm0 : ¬ m < 0) (hm : m.toNatClampNeg = K)
    (hl : ¬ K > e.platform.arrayLengthLimit) (hh : ¬ K * 4 > e.platform.maxHeapBytes) (h1 : s.heap.size < e.platform.maxCells) (h2 : s.slotsUsed + K ≤ e.platform.maxSlots)
    {Q : Addr → Pre} (hq : ∀ acts', Q s.heap.size d acts' (s.pushCell (iC9 cC K))) : wp (multianewarray.make cC [m]) Q E e d acts s := by
  rw [multianewarray.make]
  simp only [wp_bind', W.ite, hm0, if_false, wp_pure', W.theClass, hkC, hkindC, Option.some.injEq, exists_eq_left', hm]
  exact wpA9 (type := .int) hkC hkindC hl hh rfl rfl h1 h2 hq
theorem wpM2 {cA cC cE : ClassId} {kA kC : Class} {N K : Nat} {n m : Int32} (hkA : s.vm.classes[cA]? = some kA) (hkindA : kA.kind = .array cC (.array .int)) (hkC : s.vm.classes[cC]? = some kC) (hkindC : kC.kind = .array cE .int) (hn0 : ¬ n < 0) (hn : n.toNatClampNeg = N) (hm0 : ¬ m < 0) (hm : m.toNatClampNeg = K)
    (hl1 : ¬ N > e.platform.arrayLengthLimit) (hh1 : ¬ N * 4 > e.platform.maxHeapBytes) (hl : ¬ K > e.platform.arrayLengthLimit) (hh : ¬ K * 4 > e.platform.maxHeapBytes) (h1 : s.heap.size + 1 + N ≤ e.platform.maxCells) (h2 : s.slotsUsed + N + N * K ≤ e.platform.maxSlots)
    {Q : Addr → Pre} (hq : ∀ d' acts', Q s.heap.size d' acts' (mg9 cA cC N K s.heap.size s N)) : wp (multianewarray.make cA [n, m]) Q E e d acts s := by
  have hfind : ([m].find? (· < 0)) = none := by simp [hm0]
  rw [multianewarray.make]
  simp only [wp_bind', W.ite, hn0, if_false, wp_pure', W.theClass, hkA, hkindA, Option.some.injEq, exists_eq_left', hn]
  refine wpA9 (type := .array .int) hkA hkindA hl1 hh1 rfl rfl (by omega) (by omega) (fun acts' => ?_)
  simp only [hfind]
  rw [ite_self, wp_bind', Std.Legacy.Range.forIn_eq_forIn_range']
  rw [show ([:N] : Std.Legacy.Range).size = N by simp [Std.Legacy.Range.size]]
  show wp (forIn (List.range' 0 N 1) PUnit.unit _) _ E e d acts' _
  refine wp_forIn_inv (fun rest s' => ∃ i, i + rest.length = N ∧ rest = List.range' i rest.length ∧ s' = mg9 cA cC N K s.heap.size s i) _ _ ⟨0, by simp, by simp, ?_⟩ ?_ ?_
  · show s.pushCell _ = s.pushCell _
    congr 1
  · rintro x rest s' d' acts'' Q' ⟨i, hi, hl9, rfl⟩ hnext
    rw [List.length_cons, List.range'_succ] at hl9
    obtain ⟨rfl, hrest⟩ := List.cons.inj hl9
    rw [List.length_cons] at hi
    obtain ⟨f1, f2⟩ := hg9_f (cA := cA) (cC := cC) (N := N) (K := K) (H := s.heap) rfl x
    have hmul : x * K + K ≤ N * K := by
      have := Nat.mul_le_mul_right K (show x + 1 ≤ N by omega)
      rw [Nat.succ_mul] at this
      exact this
    simp only [wp_bind']
    refine wpM1 (by rw [mg9_vm]; exact hkC) hkindC hm0 hm hl hh (by rw [mg9_heap, f1]; omega) (by rw [mg9_used]; omega) (fun acts3 => ?_)
    have hlt : s.heap.size < (mg9 cA cC N K s.heap.size s x).heap.size := by
      rw [mg9_heap, f1]
      omega
    simp only [wp_bind', W.writeLoc, wp_pure']
    refine ⟨oC9 cA N s.heap.size x, by rw [State.heap_pushCell_of_lt (h := hlt), mg9_heap]; exact f2, fun w => (by cases w), by rw [show (oC9 cA N s.heap.size x).slots.size = N from arrV_size _ _ _]; omega, ?_, hnext _ _ _ ⟨x + 1, by omega, hrest, ?_⟩⟩
    · show State.fitsSlot _ cA .none x _ = true
      simp [State.fitsSlot, State.slotType?, mg9_vm, hkA, hkindA, fits]
    · rw [mg9_heap, f1, oC9_set]
      rfl
  · rintro s' d' acts'' ⟨i, hi, -, rfl⟩
    have e9 : i = N := by simpa using hi
    subst e9
    simp only [wp_pure']
    exact hq _ _
end MgW
section MgX
variable {p : Program} {l : Launch} {e : Env} {R : Room} {s : State} {m : MethodId} {args : Array Value} {below : List Frame} {meth : Method} {c : Code} {H : Heap} {locs : List Loc} {cells slots : Nat} {Q : State → Prop}
theorem W.mgrid {cc : ByteArray} (hexec : p.tables.exec = Jvm.exec) (hb : c.code = cc) {own : String} {index : Nat} (hown : s.vm.findClass own = some m.cls) (hclink : (Cond.classLink own index ("[" ++ (FieldType.array .int).toString)).before args s = true) (hover : (Cond.arrayOver (.array .int)).before args s = true) (harr : (Cond.arrayClass .int).before args s = true)
    {g : JFrame} (hg : g.method = m) (hdg : decode cc g.pc = .ok (.multianewarray index 2, 4)) {n k : Int32} {N K : Nat} {rest : List Value} (hstack : g.stack = .int k :: .int n :: rest) (hn0 : ¬ n < 0) (hn : n.toNatClampNeg = N) (hk0 : ¬ k < 0) (hk : k.toNatClampNeg = K) (hN : N < 1000) (hK : K < 1000) (hcells : cells + (1 + N) ≤ R.cells) (hslots : slots + (N + N * K) ≤ R.slots)
    (kk : ∀ (cA : ClassId) (kA : Class) (cC : ClassId), s.vm.findClass ("[" ++ (FieldType.array .int).toString) = some cA → s.vm.classes[cA]? = some kA → kA.kind = .array cC (.array .int) → s.vm.findClass (FieldType.array .int).toString = some cC →
      W p l e R s m args below meth c (hg9 cA cC N K H.size H N) (lo9 H.size locs N) (cells + 1 + N) (slots + N + N * K) Q { g with pc := g.pc + 4, stack := .ref H.size :: rest }) : W p l e R s m args below meth c H locs cells slots Q g := by
  intro T hT X
  subst hT; subst hb; subst hg
  have hpl : e.platform.magicAccessors = ({} : Platform).magicAccessors := by rw [X.admits.platform]
  obtain ⟨cC, cA, kA, hcomp, -, hkA, hkindA, hnameA⟩ := arrayOverA_spec hover
  obtain ⟨cC', kC, cE, hcC', hkC, hkindC⟩ := Cond.arrayClass_spec harr
  have e2 : cC' = cC := Option.some.inj (hcC'.symm.trans hcomp)
  subst e2
  obtain ⟨c0, hfc0, hcl⟩ := Cond.classLink_spec hown hclink e.platform hpl
  cases hnameA.symm.trans hfc0
  obtain ⟨hg₁, hwarm₁, hready₁⟩ := State.classEntry (e := e) X.warmed hcl
  generalize T.vm.noted g.method.cls index (.cls cA) = vm₁ at hg₁ hwarm₁ hready₁
  have hal : s.vm.Alike vm₁ := hwarm₁.alike
  obtain ⟨kA₁, hkA₁, heA⟩ := hal.2.2 _ _ hkA
  obtain ⟨kC₁, hkC₁, heC⟩ := hal.2.2 _ _ hkC
  have hkindA₁ : kA₁.kind = .array cC' (.array .int) := by rw [heA]; exact hkindA
  have hkindC₁ : kC₁.kind = .array cE .int := by rw [heC]; exact hkindC
  have X₁ := X.noted hwarm₁
  obtain ⟨hr1, hr2⟩ := X.roomAbove hcells hslots
  have XF := mg9_stand (cA := cA) (cC := cC') (N := N) (K := K) X₁ N
  obtain ⟨t', a1, b1⟩ := kk cA kA cC' hnameA hkA hkindA hcomp (mg9 cA cC' N K T.heap.size (T.setVm vm₁) N) (mg9_heap N) XF
  refine ⟨t', ?_, b1⟩
  have hl1 : ¬ N > e.platform.arrayLengthLimit := by rw [Launch.admits_arrayLengthLimit X.admits]; omega
  have hh1 : ¬ N * 4 > e.platform.maxHeapBytes := by rw [Launch.admits_maxHeapBytes X.admits]; omega
  have hl2 : ¬ K > e.platform.arrayLengthLimit := by rw [Launch.admits_arrayLengthLimit X.admits]; omega
  have hh2 : ¬ K * 4 > e.platform.maxHeapBytes := by rw [Launch.admits_maxHeapBytes X.admits]; omega
  jvm_step X.here [hexec, hdg]
  simp only [multianewarray.sem, wp_bind', W.resolveClassAt_links (State.method?_setTop g X.here.top) hg₁]
  rw [W.popN, if_neg (by decide)]
  refine ⟨g, State.topJava?_setTop' (s := T.setVm vm₁) g X.here.top, [.int n, .int k], rest, rfl, hstack, ?_⟩
  simp only [List.mapM_cons, List.mapM_nil, wp_bind', wp_pure']
  refine wpM2 (kA := kA₁) (kC := kC₁) (cC := cC') (cE := cE) (N := N) (K := K) hkA₁ hkindA₁ hkC₁ hkindC₁ hn0 hn hk0 hk hl1 hh1 hl2 hh2 (by show T.heap.size + 1 + N ≤ _; omega) (by show T.slotsUsed + N + N * K ≤ _; omega) (fun d' acts' => ?_)
  have eS : ((T.setTop g).setVm vm₁).setTop { g with stack := rest } = (T.setVm vm₁).setTop { g with stack := rest } := by
    show ((T.setVm vm₁).setTop g).setTop _ = _
    rw [State.setTop_setTop]
  rw [eS, mg9_top]
  simp only [wp_bind', W.mark, W.pushRef, State.topJava?_setTop' _ XF.here.top, Option.some.injEq, exists_eq_left', State.setTop_setTop, State.heap_setTop]
  intro acts
  simp [jvm, XF.here.top]
  exact a1
end MgX
/-- the heap's picture, as the rows come -/
def hu9 (Γ : G9) (h : AH) (z N K : Nat) : Nat → AH
  | 0 => hup h z (aA Γ N (oF9 z 0))
  | i + 1 => hup (hup (hu9 Γ h z N K i) (z + 1 + i) (aI Γ K (fun _ => 0))) z (aA Γ N (oF9 z (i + 1)))
theorem hu9_f {Γ : G9} {h : AH} {z N K : Nat} : ∀ i, hu9 Γ h z N K i z = some (aA Γ N (oF9 z i)) ∧ (∀ j, j < i → hu9 Γ h z N K i (z + 1 + j) = some (aI Γ K (fun _ => 0))) ∧ ∀ x, x < z ∨ z + 1 + i ≤ x → hu9 Γ h z N K i x = h x
  | 0 => ⟨hup_at, fun j w => absurd w (by omega), fun x hx => hup_ne (by omega)⟩
  | i + 1 => by
    obtain ⟨h1, h2, h3⟩ := hu9_f (Γ := Γ) (h := h) (z := z) (N := N) (K := K) i
    refine ⟨hup_at, fun j hj => (hup_ne (by omega)).trans ?_, fun x hx => (hup_ne (by omega)).trans ((hup_ne (by omega)).trans (h3 x (by omega)))⟩
    by_cases e : j = i
    · subst e
      exact hup_at
    · exact (hup_ne (by omega)).trans (h2 j (by omega))
theorem hs9 {Γ : G9} {s : State} {H : Heap} {h : AH} {locs : List Loc} {cA cC N K : Nat} (hA : cA = g_k Γ 4) (hC : cC = g_k Γ 0) (hH : HS Γ s H h locs) : ∀ i, HS Γ s (hg9 cA cC N K H.size H i) (hu9 Γ h H.size N K i) (lo9 H.size locs i)
  | 0 => by
    refine hH.mk (e := aA Γ N (oF9 H.size 0)) ?_ (Array.size_push ..) (fun q hq => by show (H.push _)[q]? = _; rw [Array.getElem?_push, if_neg (Nat.ne_of_lt hq)])
    show (H.push (oC9 cA N H.size 0))[H.size]? = some (vp_cell _ _)
    rw [Array.getElem?_push_size, vp_cell_q, hA]
    rfl
  | i + 1 => by
    have hI := hs9 (N := N) (K := K) hA hC hH i
    obtain ⟨f1, f2⟩ := hg9_f (cA := cA) (cC := cC) (N := N) (K := K) (H := H) rfl i
    obtain ⟨g1, -, -⟩ := hu9_f (Γ := Γ) (h := h) (z := H.size) (N := N) (K := K) i
    generalize hU : hg9 cA cC N K H.size H i = U at hI f1 f2
    have hJ : HS Γ s (U.push (iC9 cC K)) (hup (hu9 Γ h H.size N K i) U.size (aI Γ K (fun _ => 0))) (lo9 H.size locs i) := by
      refine hI.mk (e := aI Γ K (fun _ => 0)) ?_ (Array.size_push ..) (fun q hq => by rw [Array.getElem?_push, if_neg (Nat.ne_of_lt hq)])
      show (U.push (iC9 cC K))[U.size]? = some (vp_cell _ _)
      rw [Array.getElem?_push_size, vp_cell_i, hC]
      rfl
    rw [f1] at hJ
    have hz : (U.push (iC9 cC K)).size = H.size + 1 + i + 1 := by rw [Array.size_push, f1]
    have hK := hJ.wr (a := H.size) (i := i) (e := aA Γ N (oF9 H.size (i + 1))) (H1 := (U.push (iC9 cC K)).setIfInBounds H.size (oC9 cA N H.size (i + 1))) ((hup_ne (by omega)).trans g1) (by
      show ((U.push (iC9 cC K)).setIfInBounds H.size _)[H.size]? = some (vp_cell _ _)
      rw [Array.getElem?_setIfInBounds, if_pos rfl, if_pos (by omega), vp_cell_q, hA]
      rfl) (by simp) (fun q hq => by rw [Array.getElem?_setIfInBounds, if_neg (Ne.symm hq)])
    show HS Γ s ((hg9 cA cC N K H.size H i).push (iC9 cC K) |>.setIfInBounds H.size (oC9 cA N H.size (i + 1))) _ _
    rw [hU]
    exact hK
section GoMg
variable {Γ : G9} {M : MI} {d C S pc q : Nat} {L : List (Option Value)} {st : List Value} {h : AH} {z : Nat} {Q : QT} {X : XT}
theorem Go.mgrid {C1 S1 N K idx : Nat} {n k : Int32} (hd : decode M.2.1 pc = .ok (.multianewarray idx 2, 4)) (hq : pc + 4 = q) (hcl : Cond.classLink M.1.cls idx "[[I" ∈ gw) (hao : AoOk Γ) (hn : n = nI N) (hk : k = nI K) (hN : N < 1000) (hK : K < 1000) (hC : C1 + (1 + N) ≤ C) (hS : S1 + (N + N * K) ≤ S) (kk : Go Γ M d C1 S1 q L (.ref z :: st) (hu9 Γ h z N K N) (z + 1 + N) Q X) : Go Γ M d C S pc L (.int k :: .int n :: st) h z Q X := by
  intro p e R s m args below meth c H locs cells slots ls Z hc
  subst hq
  subst hn hk
  have hH := hc.2.2.1
  have hts := hc.1.2.2.2.2.2.1
  obtain ⟨r1, r2, r3, r4⟩ := hc.2.1
  refine W.mgrid (N := N) (K := K) hc.1.1 hc.1.2.1 hc.1.2.2.2.2.1 (hts _ hcl) (hao.2 _ _ hH.se) (hts _ q_arr_int) rfl hd rfl (nI_pos (by omega)) (nI_clamp (by omega)) (nI_pos (by omega)) (nI_clamp (by omega)) hN hK (by omega) (by omega) fun cA kA cC f1 f2 f3 f4 => ?_
  have hcA : cA = g_k Γ 4 := Option.some.inj (f1.symm.trans (hH.1.2.2.1.2 4 _ rfl).2)
  have hcC : cC = g_k Γ 0 := Option.some.inj (f4.symm.trans (hH.1.2.2.1.2 0 _ rfl).2)
  have hz := hc.2.2.2.1
  subst hz
  refine kk _ _ _ _ _ _ _ _ _ (hg9 cA cC N K H.size H N) _ _ _ _ _ ⟨hc.1, ⟨r1, r2, by omega, by omega⟩, hs9 hcA hcC hH N, (hg9_f rfl N).1, hc.2.2.2.2⟩
end GoMg
theorem xq_A283 : Cond.classLink "GlacierCampLaw" 283 "[[I" ∈ gw := gm_7 (List.mem_of_getElem? (i := 62) rfl) rfl
section Lw
variable {Γ : G9} {A : AD} {c z0 z sa it : Nat} {Y : SM} {N : Nat} {dg : Int64} {h h' : AH} {ms : Nat → Nat} {Q : QT} {X : XT} {w8 : Int32}
theorem JW.hu (hj : AJ A c z0) (hJ : JW Γ A c Y Y N dg h h') (hz : z0 ≤ z) {K M : Nat} : ∀ i, JW Γ A c Y Y N dg (hu9 Γ h z M K i) (hu9 Γ h' z M K i)
  | 0 => hJ.up hj hz
  | i + 1 => ((JW.hu hj hJ hz i).up hj (by omega)).up hj hz
theorem d_law_399 : decode M_law.2.1 399 = .ok (.iconst 0, 1) := by decide +kernel
theorem d_law_400 : decode M_law.2.1 400 = .ok (.istore 17, 2) := by decide +kernel
theorem d_law_402 : decode M_law.2.1 402 = .ok (.iconst 0, 1) := by decide +kernel
theorem d_law_403 : decode M_law.2.1 403 = .ok (.istore 18, 2) := by decide +kernel
theorem d_law_405 : decode M_law.2.1 405 = .ok (.iconst 0, 1) := by decide +kernel
theorem d_law_406 : decode M_law.2.1 406 = .ok (.istore 19, 2) := by decide +kernel
theorem d_law_408 : decode M_law.2.1 408 = .ok (.iload 6, 2) := by decide +kernel
theorem d_law_410 : decode M_law.2.1 410 = .ok (.bipush 8, 2) := by decide +kernel
theorem d_law_412 : decode M_law.2.1 412 = .ok (.multianewarray 283 2, 4) := by decide +kernel
theorem d_law_416 : decode M_law.2.1 416 = .ok (.astore 20, 2) := by decide +kernel
theorem d_law_418 : decode M_law.2.1 418 = .ok (.iconst 0, 1) := by decide +kernel
theorem d_law_419 : decode M_law.2.1 419 = .ok (.istore 21, 2) := by decide +kernel
set_option maxRecDepth 100000 in
set_option maxHeartbeats 4000000 in
theorem law_399 (hj : AJ A c z0) (hms : MsOk Γ ms) (hth : ThOk Γ) (J : JW Γ A c Y Y N dg h h') (hao : AoOk Γ) (hz : z0 ≤ z) {am as ai aw C S : Nat} (hC : 140 ≤ C) (hS : 820 ≤ S) (kx : ∀ (h2 h3 : AH) (z aH C2 S2 : Nat), JW Γ A c Y Y N dg h2 h3 → z0 ≤ z → HD Γ A Y z0 h2 aH → Ext h h2 → C ≤ C2 + 140 → S ≤ S2 + 820 → Go Γ M_law 80 C2 S2 584 [some (.ref sa), some (.ref c), none, some (.ref ((ad A 6 0))), some (.int ((nI (cn A 0)))), some (.int ((nI (cn A 1)))), some (.int ((nI (cn A 4)))), some (.int ((nI it))), some (.int w8), some (.long dg), none, some (.ref am), some (.ref as), some (.ref ai), none, some (.ref aw), some (.int ((sumN (fun s => sm_v Y 1 s 5) (cn A 1)))), some (.int ((sumN (fun t => sm_v Y 4 t 5) (cn A 4)))), some (.int ((sumN (fun t => sm_v Y 4 t 1) (cn A 4)))), some (.int ((sumN (fun t => sm_v Y 4 t 6) (cn A 4)))), some (.ref aH), some (.int ((nI (cn A 4)))), none, none, none, none, none, none, none, none, none] [] h3 z Q X) : Go Γ M_law 80 C S 399 [some (.ref sa), some (.ref c), none, some (.ref ((ad A 6 0))), some (.int ((nI (cn A 0)))), some (.int ((nI (cn A 1)))), some (.int ((nI (cn A 4)))), some (.int ((nI it))), some (.int w8), some (.long dg), none, some (.ref am), some (.ref as), some (.ref ai), none, some (.ref aw), some (.int ((sumN (fun s => sm_v Y 1 s 5) (cn A 1)))), some (.int ((nI (cn A 1)))), none, none, none, none, none, none, none, none, none, none, none, none, none] [] h' z Q X := by
  obtain ⟨p0, p1, p2, p3, p4⟩ := aj_p hj
  refine Go.low (fun hlow => ?_)
  have hno : ∀ x, z ≤ x → h x = none := fun x hx => (J.rd hj (by omega)).symm.trans (hlow x hx)
  refine Go.iconst (v := 0) d_law_399 rfl (by decide) ?_
  refine Go.istore_17 d_law_400 rfl (by rfl) ?_
  refine Go.iconst (v := 0) d_law_402 rfl (by decide) ?_
  refine Go.istore_18 d_law_403 rfl (by rfl) ?_
  refine Go.iconst (v := 0) d_law_405 rfl (by decide) ?_
  refine Go.istore_19 d_law_406 rfl (by rfl) ?_
  refine Go.iload_6 d_law_408 rfl ?_
  refine Go.bipush (v := 8) d_law_410 rfl (by decide) ?_
  refine Go.mgrid (C1 := C - 5) (S1 := S - 36) (N := cn A 4) (K := 8) d_law_412 rfl xq_A283 hao rfl rfl (by omega) (by decide) (by omega) (by omega) ?_
  have J2 := JW.hu hj J hz (M := cn A 4) (K := 8) (cn A 4)
  have J3 := J2.up hj hz (e := aA Γ (cn A 4) (fun t => some (z + 1 + t)))
  obtain ⟨u1, u2, u3⟩ := hu9_f (Γ := Γ) (h := h) (z := z) (N := cn A 4) (K := 8) (cn A 4)
  obtain ⟨u4, -, -⟩ := hu9_f (Γ := Γ) (h := h') (z := z) (N := cn A 4) (K := 8) (cn A 4)
  refine Go.alike (h' := hup (hu9 Γ h' z (cn A 4) 8 (cn A 4)) z (aA Γ (cn A 4) (fun t => some (z + 1 + t)))) (fun x e' hx => ?_) ?_
  · by_cases e : x = z
    · subst e
      cases hup_at.symm.trans hx
      exact ⟨_, u4, aA_alike (fun j hj => if_pos hj)⟩
    · exact ⟨e', (hup_ne e).symm.trans hx, fun _ w => w⟩
  have hb : HB Γ A z0 (hup (hu9 Γ h z (cn A 4) 8 (cn A 4)) z (aA Γ (cn A 4) (fun t => some (z + 1 + t)))) z (fun t => z + 1 + t) (fun _ _ => 0) := ⟨hz, fun t ht => ⟨show z0 ≤ z + 1 + t by omega, show z + 1 + t ≠ z by omega⟩, fun t u _ _ (w : z + 1 + t = z + 1 + u) => by omega, hup_at, fun t ht => (hup_ne (show z + 1 + t ≠ z by omega)).trans (u2 t ht)⟩
  refine Go.astore_20 d_law_416 rfl (by rfl) ?_
  refine Go.iconst (v := 0) d_law_418 rfl (by decide) ?_
  refine Go.istore_21 d_law_419 rfl (by rfl) ?_
  refine Go.fgt [some (.ref sa), some (.ref c), none, some (.ref ((ad A 6 0))), some (.int ((nI (cn A 0)))), some (.int ((nI (cn A 1)))), some (.int ((nI (cn A 4)))), some (.int ((nI it))), some (.int w8), some (.long dg), none, some (.ref am), some (.ref as), some (.ref ai), none, some (.ref aw), some (.int ((sumN (fun s => sm_v Y 1 s 5) (cn A 1)))), some (.int ((sumN (fun t => sm_v Y 4 t 5) 0))), some (.int ((sumN (fun t => sm_v Y 4 t 1) 0))), some (.int ((sumN (fun t => sm_v Y 4 t 6) 0))), some (.ref z), some (.int ((nI 0))), none, none, none, none, none, none, none, none, none] (by repeat' (first | exact trivial | refine ⟨rfl, ?_⟩)) ?_
  refine law_421 hj hms hth (C0 := C - 133) (S0 := S - 804) (fun h2 h3 C2 S2 J4 hC2 hS2 hd hk => ?_) (cn A 4) 0 _ _ _ _ _ (Nat.zero_add _) J3 hb (fun t w => absurd w (by omega)) (fun _ _ => rfl) (by omega) (by omega)
  refine kx h2 h3 _ z C2 S2 J4 (show z0 ≤ z + 1 + cn A 4 by omega) hd (fun x e hx => ?_) (by omega) (by omega)
  have hxz : x < z := Nat.not_le.mp (fun w => by rw [hno x w] at hx; cases hx)
  exact (hk x (fun t _ => by omega)).trans ((hup_ne (by omega)).trans ((u3 x (Or.inl hxz)).trans hx))
end Lw
