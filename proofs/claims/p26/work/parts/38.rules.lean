/-! arrays: copied, filled; arrays of arrays -/
theorem x_acs : Cond.static arraycopyName ∈ gw := gm_6 (List.mem_of_getElem? (i := 36) rfl) rfl
theorem x_acn : Cond.native arraycopyName ∈ gw := gm_6 (List.mem_of_getElem? (i := 37) rfl) rfl
theorem arrV_ext {c n : Nat} {f g : Nat → Value} (hf : ∀ j, j < n → f j = g j) : arrV c n f = arrV c n g := by
  unfold arrV
  congr 1
  exact congrArg Array.ofFn (funext fun j => hf j.val j.isLt)
theorem asg_self {s : State} {c : ClassId} {k : Class} {comp : ClassId} {ty : FieldType} (hk : s.vm.classes[c]? = some k) (hkind : k.kind = .array comp ty) : s.vm.assignable c c = true := by
  unfold Vm.assignable
  rw [Vm.assignableAux]
  simp [hk, hkind]
section GoArr
variable {Γ : G9} {M : MI} {d C S pc q : Nat} {L : List (Option Value)} {st : List Value} {h : AH} {z : Nat} {Q : QT} {X : XT}
/-- a row's picture may be another one that is the same within the row -/
theorem Go.pic {a n : Nat} {f g : Nat → Int32} (ha : h a = some (aI Γ n f)) (hf : ∀ j, j < n → f j = g j) (kk : Go Γ M d C S pc L st (hup h a (aI Γ n g)) z Q X) : Go Γ M d C S pc L st h z Q X := by
  intro p e R s m args below meth c H locs cells slots ls Z hc
  obtain ⟨hF, hr, ⟨h1, h2, h3, h4⟩, hz⟩ := hc
  refine kk _ _ _ _ _ _ _ _ _ _ _ _ _ _ _ ⟨hF, hr, ⟨h1, h2, fun b e' hb => ?_, h4⟩, hz⟩
  unfold hup at hb
  by_cases hba : b = a
  · rw [if_pos hba] at hb
    cases hb
    subst hba
    obtain ⟨g1, g2⟩ := h3 b _ ha
    refine ⟨g1, ?_⟩
    have g2 : H[b]? = some (vp_cell (g_k Γ 0) (n, .inl f)) := g2
    show H[b]? = some (vp_cell (g_k Γ 0) (n, .inl g))
    rw [g2, vp_cell_i, vp_cell_i, arrV_ext (fun j hj => by rw [hf j hj])]
  · rw [if_neg hba] at hb
    exact h3 b e' hb
theorem nat_of_nn {y : Int32} (hy : ¬ y < 0) : y.toInt = (y.toNatClampNeg : Int) := by
  have h0 : (0 : Int) ≤ y.toInt := by
    have := Int32.not_lt.mp hy
    simpa using Int32.le_iff_toInt_le.mp this
  show y.toInt = ((y.toInt.toNat : Nat) : Int)
  omega
set_option maxHeartbeats 1000000 in
/-- System.arraycopy of a whole row into another that is as long; the steps are those of va_copyi -/
theorem Go.copyi {a0 a1 n idx : Nat} {f g : Nat → Int32} (hd : decode M.2.1 pc = .ok (.invokestatic idx, 3)) (hq : pc + 3 = q) (hlink : Cond.methodLink M.1.cls idx arraycopyName ∈ gw) (hini : Cond.initialized "java/lang/System" ∈ gw) (h0 : h a0 = some (aI Γ n f)) (h1 : h a1 = some (aI Γ n g)) (hn : n < 2 ^ 31) (hdd : Nat.ble 3 d = true) (hw : Nat.ble (st.map fun v => v.category).sum 8 = true) (kk : Go Γ M d C S q L st (hup h a1 (aI Γ n f)) z Q X) : Go Γ M d C S pc L (.int (nI n) :: .int 0 :: .ref a1 :: .int 0 :: .ref a0 :: st) h z Q X := by
  have hdd := Nat.le_of_ble_eq_true hdd
  have hw := Nat.le_of_ble_eq_true hw
  subst hq
  intro p e R s m args below meth c H locs cells slots ls Z hc
  obtain ⟨r1, r2, r3, r4⟩ := hc.2.1
  have hts := hc.1.2.2.2.2.2.1
  have hH := hc.2.2.1
  have hK := hH.1.2.2.1
  have hz := hc.2.2.2.1
  have hc0 : H[a0]? = some (vp_cell (g_k Γ 0) (n, .inl f)) := (hH.2.2.1 a0 _ h0).2
  have hc1 : H[a1]? = some (vp_cell (g_k Γ 0) (n, .inl g)) := (hH.2.2.1 a1 _ h1).2
  intro T hT Y
  have k3 : (0 : Int32).toNatClampNeg = 0 := by decide
  have k4 : (nI n).toNatClampNeg = n := nI_clamp hn
  have k5 : ¬ nI n < 0 := nI_pos hn
  obtain ⟨-, k0, hk0, cm0, hkk0⟩ := (hK.2 0 _ rfl).1 n (fun j => .int (f j))
  obtain ⟨-, k1, hk1, cm1, hkk1⟩ := (hK.2 0 _ rfl).1 n (fun j => .int (g j))
  obtain ⟨vm', X', step⟩ := Y.arraycopy hc.1.1 (own := M.1.cls) hc.1.2.2.2.2.1 (hts _ hlink) (hts _ x_acn) (hts _ x_acs) (hts _ hini) (src := a0) (dst := a1) (cs := vp_cell (g_k Γ 0) (n, .inl f)) (cd := vp_cell (g_k Γ 0) (n, .inl g)) (srcPos := 0) (destPos := 0) (n := nI n) (by rw [hT]; exact hc0) (by rw [hT]; exact hc1)
    (fun _ h => by cases h) (fun _ h => by cases h) (fun h => by cases h) (fun h => by cases h) hk0 hk1 hkk0 hkk1 rfl (by decide) (by decide) k5
    (by rw [nat_of_nn (y := 0) (by decide), nat_of_nn k5, k3, k4]; show ¬ _ > ((arrV (g_k Γ 0) n (fun j => .int (f j))).slots.size : Int); rw [arrV_size]; omega)
    (by rw [nat_of_nn (y := 0) (by decide), nat_of_nn k5, k3, k4]; show ¬ _ > ((arrV (g_k Γ 0) n (fun j => .int (g j))).slots.size : Int); rw [arrV_size]; omega)
    (fun vm₁ _ i hi => by
      rw [k4] at hi
      have e : (vp_cell (g_k Γ 0) (n, .inl f)).slots.getD ((0 : Int32).toNatClampNeg + i) .null = .int (f ((0 : Int32).toNatClampNeg + i)) := by
        show (arrV (g_k Γ 0) n (fun j => .int (f j))).slots.getD _ _ = _
        rw [Array.getD_eq_getD_getElem?, arrV_read _ _ (by rw [k3]; omega)]
        rfl
      exact ⟨by rw [e]; rfl, by rw [e]; exact trivial⟩)
    (g := F0 m pc ls (.int (nI n) :: .int 0 :: .ref a1 :: .int 0 :: .ref a0 :: st)) rfl (by rw [hc.1.2.2.1]; exact hc.2.2.2.2.1.1) (rest := st) rfl (by rw [hc.1.2.1]; exact hd) (by omega) (by
      have : nativeFrameWords "java/lang/System" "arraycopy" 5 + 11 ≤ 60 := by decide
      show 2 * 0 + _ + _ ≤ _
      omega)
  have e1 : copied (vp_cell (g_k Γ 0) (n, .inl f)) (vp_cell (g_k Γ 0) (n, .inl g)) 0 0 (nI n) = vp_cell (g_k Γ 0) (n, .inl f) := by
    rw [show copied (vp_cell (g_k Γ 0) (n, .inl f)) (vp_cell (g_k Γ 0) (n, .inl g)) 0 0 (nI n) = vp_cell (g_k Γ 0) (n, .inl (va_cpy f g (0 : Int32).toNatClampNeg (0 : Int32).toNatClampNeg (nI n).toNatClampNeg)) from va_copied (fun z => .int z) (g_k Γ 0) (g_k Γ 0) f g (by rw [k3, k4]; omega), vp_cell_i, vp_cell_i]
    refine arrV_ext fun j hj => ?_
    rw [k3, k4]
    unfold va_cpy
    rw [if_pos ⟨Nat.zero_le _, by omega⟩, show 0 + (j - 0) = j by omega]
  rw [e1] at X' step
  have hl : a1 < H.size := (Array.getElem?_eq_some_iff.mp hc1).1
  have hheap : ((T.setVm vm').setCell a1 (vp_cell (g_k Γ 0) (n, .inl f))).heap = H.setIfInBounds a1 (vp_cell (g_k Γ 0) (n, .inl f)) := by rw [← hT]; rfl
  have oq : ∀ q : Nat, q ≠ a1 → (H.setIfInBounds a1 (vp_cell (g_k Γ 0) (n, .inl f)))[q]? = H[q]? := fun q hq => by simp [Array.getElem?_setIfInBounds, Ne.symm hq]
  have hsz : (H.setIfInBounds a1 (vp_cell (g_k Γ 0) (n, .inl f))).size = H.size := by simp
  have hla := (hH.2.2.1 a1 _ h1).1
  obtain ⟨t, b1, b2⟩ := kk _ _ _ _ _ _ _ _ _ (H.setIfInBounds a1 (vp_cell (g_k Γ 0) (n, .inl f))) _ _ _ _ _ ⟨hc.1, ⟨r1, r2, r3, r4⟩, ⟨hH.1.heap (fun q hq => oq q (by omega)) (by omega), ⟨by rw [hsz]; exact hH.2.1.1, fun q g1 g2 => by
      rw [oq q (fun e => g2 (by rw [e]; exact hla))]
      exact hH.2.1.2.1 q g1 g2, fun q hq => by
      rcases List.mem_append.mp hq with h | h
      · exact hH.2.1.2.2 q h
      · obtain ⟨y, -, hy⟩ := List.mem_map.mp h
        rw [← hy]
        exact hla⟩, hH.2.2.1.upd1 hla (show (H.setIfInBounds a1 _)[a1]? = some _ by simp [Array.getElem?_setIfInBounds, hl]) oq, hH.2.2.2⟩, by rw [hsz]; exact hz, hc.2.2.2.2⟩ _ hheap X'
  exact ⟨t, step t b1, b2⟩
/-- what the launch has of arrays over arrays and over signs -/
def AoOk (Γ : G9) : Prop := SF Γ (fun _ U _ => va_AO "GlacierCamp$Sign" U) ∧ SF Γ (fun _ U _ => (Cond.arrayOver (.array .int)).before #[] U = true)
/-- a new row of rows -/
theorem Go.anewA {C1 S1 N idx : Nat} {n : Int32} (hd : decode M.2.1 pc = .ok (.anewarray idx, 3)) (hq : pc + 3 = q) (hcl : Cond.classLink M.1.cls idx "[I" ∈ gw) (hao : AoOk Γ) (hn : n = nI N) (hN : N < 2 ^ 20) (hC : C1 + 1 ≤ C) (hS : S1 + N ≤ S) (kk : Go Γ M d C1 S1 q L (.ref z :: st) (hup h z (aA Γ N (fun _ => none))) (z + 1) Q X) : Go Γ M d C S pc L (.int n :: st) h z Q X := by
  intro p e R s m args below meth c H locs cells slots ls Z hc
  subst hq
  subst hn
  have hH := hc.2.2.1
  have hts := hc.1.2.2.2.2.2.1
  obtain ⟨r1, r2, r3, r4⟩ := hc.2.1
  have k4 : (nI N).toNatClampNeg = N := nI_clamp (by omega)
  refine W.anewA (t := .int) hc.1.1 hc.1.2.1 hc.1.2.2.2.2.1 (hts _ hcl) (hao.2 _ _ hH.se) rfl hd rfl (nI_pos (by omega)) (by rw [k4]; omega) (by omega) (by rw [k4]; omega) fun cA kA comp f1 f2 f3 f4 => ?_
  rw [k4]
  generalize hH1 : H.push ({ cls := cA, slots := Array.replicate N .null, vm := .none } : Cell) = H1
  have z1 : H1.size = H.size + 1 := by rw [← hH1, Array.size_push]
  have e1 : H1[H.size]? = some (arrV cA N (fun _ => .null)) := by rw [← hH1, Array.getElem?_push_size, ← arrV_new]
  have o1 : ∀ q : Nat, q < H.size → H1[q]? = H[q]? := fun q hq => by rw [← hH1, Array.getElem?_push, if_neg (Nat.ne_of_lt hq)]
  have hcA : cA = g_k Γ 4 := Option.some.inj (f1.symm.trans (hH.1.2.2.1.2 4 _ rfl).2)
  subst hcA
  have hz := hc.2.2.2.1
  subst hz
  refine kk _ _ _ _ _ _ _ _ _ H1 _ _ _ _ _ ⟨hc.1, ⟨r1, r2, by omega, by omega⟩, hH.mk (e := aA Γ N (fun _ => none)) ?_ z1 o1, z1, hc.2.2.2.2⟩
  show H1[H.size]? = some (vp_cell _ _)
  rw [vp_cell_q]
  exact e1
/-- a new row of signs -/
theorem Go.anewS {C1 S1 N idx : Nat} {n : Int32} (hd : decode M.2.1 pc = .ok (.anewarray idx, 3)) (hq : pc + 3 = q) (hcl : Cond.classLink M.1.cls idx "GlacierCamp$Sign" ∈ gw) (hao : AoOk Γ) (hn : n = nI N) (hN : N < 2 ^ 20) (hC : C1 + 1 ≤ C) (hS : S1 + N ≤ S) (kk : Go Γ M d C1 S1 q L (.ref z :: st) (hup h z (aQ Γ N (fun _ => none))) (z + 1) Q X) : Go Γ M d C S pc L (.int n :: st) h z Q X := by
  intro p e R s m args below meth c H locs cells slots ls Z hc
  subst hq
  subst hn
  have hH := hc.2.2.1
  have hts := hc.1.2.2.2.2.2.1
  obtain ⟨r1, r2, r3, r4⟩ := hc.2.1
  have k4 : (nI N).toNatClampNeg = N := nI_clamp (by omega)
  refine W.anew (C := "GlacierCamp$Sign") hc.1.1 hc.1.2.1 hc.1.2.2.2.2.1 (hts _ hcl) (va_AO.use (hao.1 _ _ hH.se)) rfl hd rfl (nI_pos (by omega)) (by rw [k4]; omega) (by omega) (by rw [k4]; omega) fun cA kA comp f1 f2 f3 f4 => ?_
  rw [k4]
  generalize hH1 : H.push ({ cls := cA, slots := Array.replicate N .null, vm := .none } : Cell) = H1
  have z1 : H1.size = H.size + 1 := by rw [← hH1, Array.size_push]
  have e1 : H1[H.size]? = some (arrV cA N (fun _ => .null)) := by rw [← hH1, Array.getElem?_push_size, ← arrV_new]
  have o1 : ∀ q : Nat, q < H.size → H1[q]? = H[q]? := fun q hq => by rw [← hH1, Array.getElem?_push, if_neg (Nat.ne_of_lt hq)]
  obtain ⟨-, -, -, -, -, k5⟩ := (hH.1.2.2.1.2 3 _ rfl).2
  have hcA : cA = g_k Γ 3 := Option.some.inj (f1.symm.trans k5)
  subst hcA
  have hz := hc.2.2.2.1
  subst hz
  refine kk _ _ _ _ _ _ _ _ _ H1 _ _ _ _ _ ⟨hc.1, ⟨r1, r2, by omega, by omega⟩, hH.mk (e := aQ Γ N (fun _ => none)) ?_ z1 o1, z1, hc.2.2.2.2⟩
  show H1[H.size]? = some (vp_cell _ _)
  rw [vp_cell_q]
  exact e1
/-- a row is put into a row of rows -/
theorem Go.aastA {a b n N : Nat} {f : Nat → Option Nat} {g : Nat → Int32} {i : Int32} (hd : decode M.2.1 pc = .ok (.aastore, 1)) (hq : pc + 1 = q) (ho : h a = some (aA Γ n f)) (hb : h b = some (aI Γ N g)) (hin : vp_in i n) (hao : AoOk Γ) (kk : Go Γ M d C S q L st (hup h a (aA Γ n (va_up f i.toNatClampNeg (some b)))) z Q X) : Go Γ M d C S pc L (.ref b :: .int i :: .ref a :: st) h z Q X := by
  intro p e R s m args below meth c H locs cells slots ls Z hc
  subst hq
  have hH := hc.2.2.1
  have hlt : i.toNatClampNeg < n := Nat.not_le.mp fun q => hin (Or.inr q)
  have h0 : ¬ i < 0 := fun q => hin (Or.inl q)
  obtain ⟨comp, cA, kA, f1, f2, f3, f4, f5⟩ := arrayOverA_spec (hao.2 _ _ hH.se)
  have hcA : cA = g_k Γ 4 := Option.some.inj (f5.symm.trans (hH.1.2.2.1.2 4 _ rfl).2)
  subst hcA
  have hcmp : comp = g_k Γ 0 := Option.some.inj (f1.symm.trans (hH.1.2.2.1.2 0 _ rfl).2)
  subst hcmp
  obtain ⟨-, k0, hk0, cm0, hkk0⟩ := (hH.1.2.2.1.2 0 _ rfl).1 N (fun j => .int (g j))
  refine W.aast hc.1.1 hc.1.2.1 (hH.2.2.1 a _ ho).2 (fun q h => by cases h) (fun h => by cases h) f3 f4 rfl hk0 ⟨h0, by show _ < (arrV _ _ _).slots.size; rw [arrV_size]; exact hlt⟩ (hH.2.2.1 b _ hb).2 (fun q h => by cases h) hk0 (asg_self hk0 hkk0) rfl rfl hd fun H1 e1 z1 oq => ?_
  refine kk _ _ _ _ _ _ _ _ _ H1 _ _ _ _ _ ⟨hc.1, hc.2.1, hH.wr ho ?_ z1 oq, by rw [z1]; exact hc.2.2.2.1, hc.2.2.2.2⟩
  show H1[a]? = some (vp_cell _ _)
  rw [e1, vp_cell_q, vp_cell_q, arrV_store]
  congr 2
  funext j
  by_cases hj : j = i.toNatClampNeg
  · subst hj; simp [updV, va_up, va_rf]
  · simp [updV, va_up, hj]
/-- a row of a row of rows -/
theorem Go.aaldA {a n : Nat} {f : Nat → Option Nat} {i : Int32} (hd : decode M.2.1 pc = .ok (.aaload, 1)) (hq : pc + 1 = q) (ho : h a = some (aA Γ n f)) (hin : vp_in i n) (kk : Go Γ M d C S q L (va_rf (f i.toNatClampNeg) :: st) h z Q X) : Go Γ M d C S pc L (.int i :: .ref a :: st) h z Q X := by
  intro p e R s m args below meth c H locs cells slots ls Z hc
  subst hq
  have hH := hc.2.2.1
  have hlt : i.toNatClampNeg < n := Nat.not_le.mp fun q => hin (Or.inr q)
  exact W.aald (v := va_rf (f i.toNatClampNeg)) (ty := .array .int) hc.1.1 hc.1.2.1 (hH.2.2.1 a _ ho).2 ((hH.1.2.2.1.2 4 _ rfl).1 n (fun j => va_rf (f j))) rfl (fun q => by cases q) (by show ¬ (i < 0 ∨ (arrV _ _ _).slots.size ≤ _); rw [arrV_size]; exact hin) (by show (arrV _ _ _).slots[_]? = _; rw [arrV_read _ _ hlt]) rfl rfl hd (kk _ _ _ _ _ _ _ _ _ _ _ _ _ _ _ hc)
end GoArr
