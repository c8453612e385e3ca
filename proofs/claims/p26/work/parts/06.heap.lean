/-! rows of Go that read and write the heap, make cells, call, throw -/
theorem va_at.keep {D : va_G} {cl : List vw_C} {q : Nat × va_E} {H H1 : Heap} (h : va_at D cl q H) (hq : H1[q.1]? = H[q.1]?) : va_at D cl q H1 := h.kept hq
theorem Rp.lt {Γ : G9} {h : AH} {H : Heap} (hR : Rp Γ h H) {a : Nat} {e : va_E} (ha : h a = some e) : a < H.size := (hR a e ha).2.lt
theorem Rp.one {Γ : G9} {h : AH} {H : Heap} (hR : Rp Γ h H) {a : Nat} {e : va_E} (ha : h a = some e) : va_P (g_D Γ) vwCl [(a, e)] H := by
  intro k q hk
  match k, hk with
  | 0, hk => cases hk; exact (hR a e ha).2
  | k + 1, hk => simp at hk
theorem Rp.upd1 {Γ : G9} {h : AH} {H H1 : Heap} {a : Nat} {e : va_E} (hR : Rp Γ h H) (hlo : g_lo Γ ≤ a) (he : va_at (g_D Γ) vwCl (a, e) H1) (oq : ∀ q : Nat, q ≠ a → H1[q]? = H[q]?) : Rp Γ (hup h a e) H1 := by
  intro b e' hb
  unfold hup at hb
  by_cases hba : b = a
  · rw [if_pos hba] at hb
    cases hb
    subst hba
    exact ⟨hlo, he⟩
  · rw [if_neg hba] at hb
    exact ⟨(hR b e' hb).1, (hR b e' hb).2.kept (oq b hba)⟩
theorem Rp.push {Γ : G9} {h : AH} {H H1 : Heap} {e : va_E} (hR : Rp Γ h H) (hlo : g_lo Γ ≤ H.size) (he : va_at (g_D Γ) vwCl (H.size, e) H1) (oq : ∀ q : Nat, q < H.size → H1[q]? = H[q]?) : Rp Γ (hup h H.size e) H1 := by
  intro b e' hb
  unfold hup at hb
  by_cases hba : b = H.size
  · rw [if_pos hba] at hb
    cases hb
    subst hba
    exact ⟨hlo, he⟩
  · rw [if_neg hba] at hb
    exact ⟨(hR b e' hb).1, (hR b e' hb).2.kept (oq b (hR.lt hb))⟩
theorem HS.wr {Γ : G9} {s : State} {H H1 : Heap} {h : AH} {locs : List Loc} {a i : Nat} {e0 e : va_E} (hH : HS Γ s H h locs) (ha : h a = some e0) (he : va_at (g_D Γ) vwCl (a, e) H1) (z : H1.size = H.size) (oq : ∀ q : Nat, q ≠ a → H1[q]? = H[q]?) : HS Γ s H1 (hup h a e) (locs ++ [⟨a, i⟩]) := by
  obtain ⟨hG, hS, hR, hlo⟩ := hH
  have hla := (hR a e0 ha).1
  exact ⟨hG.heap (fun q hq => oq q (by omega)) (by omega), hS.put z oq hla, hR.upd1 hla he oq, hlo⟩
theorem HS.mk {Γ : G9} {s : State} {H H1 : Heap} {h : AH} {locs : List Loc} {e : va_E} (hH : HS Γ s H h locs) (he : va_at (g_D Γ) vwCl (H.size, e) H1) (z : H1.size = H.size + 1) (oq : ∀ q : Nat, q < H.size → H1[q]? = H[q]?) : HS Γ s H1 (hup h H.size e) locs := by
  obtain ⟨hG, hS, hR, hlo⟩ := hH
  have h1 : g_lo Γ ≤ H.size := hG.2.2.2.2.1
  exact ⟨hG.heap (fun q hq => oq q (by omega)) (by omega), ⟨Nat.le_trans hS.1 (by omega), fun q h2 h3 => (oq q (Nat.lt_of_lt_of_le h2 hS.1)).trans (hS.2.1 q h2 h3), hS.2.2⟩, hR.push h1 he oq, hlo⟩
section GoHeap
variable {Γ : G9} {M : MI} {d C S pc q : Nat} {L : List (Option Value)} {st : List Value} {h : AH} {z : Nat} {Q : QT} {X : XT}
theorem Go.getfield {idx ci k a : Nat} {fs : List Value} {v : Value} (hd : decode M.2.1 pc = .ok (.getfield idx, 3)) (hq : pc + 3 = q) (lk : FLk M.1.cls idx ci k) (ho : h a = some (.inr (ci, fs))) (hv : fs[k]? = some v) (kk : Go Γ M d C S q L (v :: st) h z Q X) : Go Γ M d C S pc L (.ref a :: st) h z Q X := by
  intro p e R s m args below meth c H locs cells slots ls Z hc
  subst hq
  have hF := hc.1
  have hH := hc.2.2.1
  obtain ⟨Cn, T, N, h1, h2, h3, h4⟩ := lk
  rcases h3 with h3 | ⟨host, h3⟩
  · exact va_get hF.1 hF.2.1 hF.2.2.2.2.2.1 h4 hF.2.2.2.2.1 hH.1.2.2.1 (hH.2.2.1.one ho) 0 rfl h1 k h2 (hF.2.2.2.2.2.1 _ h3) (fun _ h => h) hv hd (kk _ _ _ _ _ _ _ _ _ _ _ _ _ _ _ hc)
  · exact va_getN hF.1 hF.2.1 hF.2.2.2.2.2.1 h4 hF.2.2.2.2.1 hH.1.2.2.1 (hH.2.2.1.one ho) 0 rfl h1 k h2 (va_Nw.use rfl (hH.1.2.2.2.2.2 _ h3)) (fun _ h => h) hv hd (kk _ _ _ _ _ _ _ _ _ _ _ _ _ _ _ hc)
theorem Go.putfield {idx ci k a : Nat} {fs : List Value} {ty : FieldType} {v : Value} (hd : decode M.2.1 pc = .ok (.putfield idx, 3)) (hq : pc + 3 = q) (lk : FPk M.1.cls idx ci k ty) (hfin : (∀ C T N, vwCl[ci]? = some (C, T, N) → (T k).2.2.2 = false) ∨ (M.1.name = "<init>" ∧ (∀ C T N, vwCl[ci]? = some (C, T, N) → (T k).2.2.2 = true ∧ (T k).1 = M.1.cls))) (ho : h a = some (.inr (ci, fs))) (hl : k < fs.length) (hn : narrow ty v = v) (hfit : fits ty v = true) (kk : Go Γ M d C S q L st (hup h a (.inr (ci, fs.set k v))) z Q X) : Go Γ M d C S pc L (v :: .ref a :: st) h z Q X := by
  intro p e R s m args below meth c H locs cells slots ls Z hc
  subst hq
  have hF := hc.1
  have hH := hc.2.2.1
  obtain ⟨Cn, T, N, tys, hci, hk, hlink, hin, hty, hnm, hdsc, -⟩ := lk
  have hts := hF.2.2.2.2.2.1
  have hown := hF.2.2.2.2.1
  have hK := hH.1.2.2.1
  have hap := va_apart (own := M.1.cls) hts hin tys hty hnm hK hci
  obtain ⟨r, h1, cell, q1, q2, q3, q4⟩ := (hH.2.2.1 a _ ho).2
  have hr : r = (Cn, T, N) := Option.some.inj (h1.symm.trans hci)
  subst hr
  obtain ⟨hSl, hfc, kC, hkC, hkind⟩ := hK.1 ci _ hci
  obtain ⟨cf, kf, fi, f, hi, hsl⟩ := hSl k hk
  have hst := (u_facts hfc hkC (u_lays hts hin hk) hi).1
  have hlay := hts _ (hin _ (u_in_lay hk))
  unfold u_lay at hlay
  have fin : ∀ H' : Heap, H'[a]? = some (cell.setSlot f.slot v) → H'.size = H.size → (∀ q : Nat, q ≠ a → H'[q]? = H[q]?) → W p (g_l Γ) e R s m args below meth c H' (locs ++ [⟨a, f.slot⟩]) cells slots Z (F0 m (pc + 3) ls st) := by
    intro H' e1 e2 e3
    rw [hsl] at e1
    exact kk _ _ _ _ _ _ _ _ _ _ _ _ _ _ _ ⟨hc.1, hc.2.1, hH.wr ho ⟨_, hci, t_OB.to (V := updV (vp_V fs) k v) ⟨_, e1, q2, q3, t_set q4 hap hk v⟩ (fun j _ => vp_updV_set hl v j)⟩ e2 e3, by rw [e2]; exact hc.2.2.2.1, hc.2.2.2.2⟩
  rcases hfin with hfin | ⟨hini, hfin⟩
  · rw [if_neg (by rw [hfin _ _ _ hci]; decide)] at hlay
    have h6 := u_store hfc hkC hkind hlay hi hdsc hn hfit
    rcases hlink with h3 | ⟨-, host, h3⟩
    · exact W.putK hF.1 hF.2.1 (f := f) ⟨hown, hts _ h3, ⟨_, _, _, hi⟩, hst⟩ (by rw [q2]; exact h6) q1 q3 (by rw [hsl]; exact k2_hasslot (q4 k hk)) rfl rfl hd fin
    · exact va_WputK hF.1 hF.2.1 (f := f) hown (va_Nw.use rfl (hH.1.2.2.2.2.2 _ h3)) hi hst (by rw [q2]; exact h6) q1 q3 (by rw [hsl]; exact k2_hasslot (q4 k hk)) rfl rfl hd fin
  · obtain ⟨hft, hdecl⟩ := hfin _ _ _ hci
    rw [if_pos hft] at hlay
    have hcf : m.cls = cf := by
      obtain ⟨_, _, c', _, _, _, -, -, hf', -, -, -, hown2, -⟩ := Cond.laysFinal_spec hlay
      have e1 : c' = cf := by have := hi.symm.trans hf'; simp at this; exact this.1.symm
      rw [hdecl] at hown2
      rw [← e1]; exact Option.some.inj (hown.symm.trans hown2)
    have h6 := u_fits hfc hkC hkind (Or.inr hlay) hi hdsc hn hfit
    rcases hlink with h3 | ⟨hnf, -⟩
    · exact W.putFinK hF.1 hF.2.1 hown (hts _ h3) hi hst hcf (hF.2.2.2.2.2.2.2.2.trans hini) (by rw [q2]; exact h6) q1 q3 (by rw [hsl]; exact k2_hasslot (q4 k hk)) rfl rfl hd fin
    · exact absurd (hft.symm.trans hnf) (by decide)
/-- an array of ints, longs, bytes, references: a place is read -/
theorem Go.iaload {a n : Nat} {f : Nat → Int32} {i : Int32} (hd : decode M.2.1 pc = .ok (.iaload, 1)) (hq : pc + 1 = q) (ho : h a = some (aI Γ n f)) (hin : vp_in i n) (kk : Go Γ M d C S q L (.int (f i.toNatClampNeg) :: st) h z Q X) : Go Γ M d C S pc L (.int i :: .ref a :: st) h z Q X := by
  intro p e R s m args below meth c H locs cells slots ls Z hc
  subst hq
  exact va_iald hc.1.1 hc.1.2.1 hc.2.2.1.1.2.2.1 (hc.2.2.1.2.2.1.one ho) 0 0 rfl rfl hin hd (kk _ _ _ _ _ _ _ _ _ _ _ _ _ _ _ hc)
theorem Go.laload {a n : Nat} {f : Nat → Int64} {i : Int32} (hd : decode M.2.1 pc = .ok (.laload, 1)) (hq : pc + 1 = q) (ho : h a = some (aJ Γ n f)) (hin : vp_in i n) (kk : Go Γ M d C S q L (.long (f i.toNatClampNeg) :: st) h z Q X) : Go Γ M d C S pc L (.int i :: .ref a :: st) h z Q X := by
  intro p e R s m args below meth c H locs cells slots ls Z hc
  subst hq
  exact va_lald hc.1.1 hc.1.2.1 hc.2.2.1.1.2.2.1 (hc.2.2.1.2.2.1.one ho) 0 1 rfl rfl hin hd (kk _ _ _ _ _ _ _ _ _ _ _ _ _ _ _ hc)
theorem Go.baload {a n : Nat} {f : Nat → Int32} {i : Int32} (hd : decode M.2.1 pc = .ok (.baload, 1)) (hq : pc + 1 = q) (ho : h a = some (aB Γ n f)) (hin : vp_in i n) (kk : Go Γ M d C S q L (.int (f i.toNatClampNeg) :: st) h z Q X) : Go Γ M d C S pc L (.int i :: .ref a :: st) h z Q X := by
  intro p e R s m args below meth c H locs cells slots ls Z hc
  subst hq
  exact va_bald hc.1.1 hc.1.2.1 hc.2.2.1.1.2.2.1 (hc.2.2.1.2.2.1.one ho) 0 2 rfl rfl hin hd (kk _ _ _ _ _ _ _ _ _ _ _ _ _ _ _ hc)
theorem Go.aaload {a n : Nat} {f : Nat → Option Nat} {i : Int32} (hd : decode M.2.1 pc = .ok (.aaload, 1)) (hq : pc + 1 = q) (ho : h a = some (aQ Γ n f)) (hin : vp_in i n) (kk : Go Γ M d C S q L (va_rf (f i.toNatClampNeg) :: st) h z Q X) : Go Γ M d C S pc L (.int i :: .ref a :: st) h z Q X := by
  intro p e R s m args below meth c H locs cells slots ls Z hc
  subst hq
  exact va_aldq hc.1.1 hc.1.2.1 hc.2.2.1.1.2.2.1 (hc.2.2.1.2.2.1.one ho) 0 3 rfl rfl hin hd (kk _ _ _ _ _ _ _ _ _ _ _ _ _ _ _ hc)
theorem Go.alen {a t : Nat} {x : vp_A} {ty : FieldType} {n : Int32} (hd : decode M.2.1 pc = .ok (.arraylength, 1)) (hq : pc + 1 = q) (ho : h a = some (.inl (g_k Γ t, x))) (ht : (g_T Γ)[t]? = some (g_k Γ t, ty)) (hn : Int32.ofNat x.1 = n) (kk : Go Γ M d C S q L (.int n :: st) h z Q X) : Go Γ M d C S pc L (.ref a :: st) h z Q X := by
  intro p e R s m args below meth c H locs cells slots ls Z hc
  subst hq
  exact va_alen hc.1.1 hc.1.2.1 hc.2.2.1.1.2.2.1 (hc.2.2.1.2.2.1.one ho) 0 t rfl ht hn hd (kk _ _ _ _ _ _ _ _ _ _ _ _ _ _ _ hc)
theorem Go.iastore {a n : Nat} {f : Nat → Int32} {i x : Int32} (hd : decode M.2.1 pc = .ok (.iastore, 1)) (hq : pc + 1 = q) (ho : h a = some (aI Γ n f)) (hin : vp_in i n) (kk : Go Γ M d C S q L st (hup h a (aI Γ n (upd f i.toNatClampNeg x))) z Q X) : Go Γ M d C S pc L (.int x :: .int i :: .ref a :: st) h z Q X := by
  intro p e R s m args below meth c H locs cells slots ls Z hc
  subst hq
  have hH := hc.2.2.1
  refine W.iast hc.1.1 hc.1.2.1 (hH.2.2.1 a _ ho).2 ((hH.1.2.2.1.2 0 _ rfl).1 n (fun j => .int (f j))) (fun w => by cases w) (by show ¬ (i < 0 ∨ (arrV _ _ _).slots.size ≤ _); rw [arrV_size]; exact hin) rfl rfl hd fun H1 e1 z1 oq => ?_
  refine kk _ _ _ _ _ _ _ _ _ H1 _ _ _ _ _ ⟨hc.1, hc.2.1, hH.wr ho ?_ z1 oq, by rw [z1]; exact hc.2.2.2.1, hc.2.2.2.2⟩
  show H1[a]? = some (vp_cell _ _)
  rw [e1, vp_cell_i, vp_cell_i, arrV_store]
  congr 2
  funext j
  by_cases hj : j = i.toNatClampNeg
  · subst hj; simp [updV, upd]
  · simp [updV, upd, hj]
theorem Go.bastore {a n : Nat} {f : Nat → Int32} {i x : Int32} (hd : decode M.2.1 pc = .ok (.bastore, 1)) (hq : pc + 1 = q) (ho : h a = some (aB Γ n f)) (hin : vp_in i n) (kk : Go Γ M d C S q L st (hup h a (aB Γ n (upd f i.toNatClampNeg x.toInt8.toInt32))) z Q X) : Go Γ M d C S pc L (.int x :: .int i :: .ref a :: st) h z Q X := by
  intro p e R s m args below meth c H locs cells slots ls Z hc
  subst hq
  have hH := hc.2.2.1
  refine W.bast hc.1.1 hc.1.2.1 (hH.2.2.1 a _ ho).2 ((hH.1.2.2.1.2 2 _ rfl).1 n (fun j => .int (f j))) (fun w => by cases w) (by show ¬ (i < 0 ∨ (arrV _ _ _).slots.size ≤ _); rw [arrV_size]; exact hin) rfl rfl hd fun H1 e1 z1 oq => ?_
  refine kk _ _ _ _ _ _ _ _ _ H1 _ _ _ _ _ ⟨hc.1, hc.2.1, hH.wr ho ?_ z1 oq, by rw [z1]; exact hc.2.2.2.1, hc.2.2.2.2⟩
  show H1[a]? = some (vp_cell _ _)
  rw [e1, vp_cell_i, vp_cell_i, arrV_store]
  congr 2
  funext j
  by_cases hj : j = i.toNatClampNeg
  · subst hj; simp [updV, upd, narrow]
  · simp [updV, upd, hj]
theorem Go.lastore {a n : Nat} {f : Nat → Int64} {i : Int32} {x : Int64} (hd : decode M.2.1 pc = .ok (.lastore, 1)) (hq : pc + 1 = q) (ho : h a = some (aJ Γ n f)) (hin : vp_in i n) (kk : Go Γ M d C S q L st (hup h a (aJ Γ n (vp_updL f i.toNatClampNeg x))) z Q X) : Go Γ M d C S pc L (.long x :: .int i :: .ref a :: st) h z Q X := by
  intro p e R s m args below meth c H locs cells slots ls Z hc
  subst hq
  have hH := hc.2.2.1
  refine W.last hc.1.1 hc.1.2.1 (hH.2.2.1 a _ ho).2 ((hH.1.2.2.1.2 1 _ rfl).1 n (fun j => .long (f j))) (fun w => by cases w) (by show ¬ (i < 0 ∨ (arrV _ _ _).slots.size ≤ _); rw [arrV_size]; exact hin) rfl rfl hd fun H1 e1 z1 oq => ?_
  refine kk _ _ _ _ _ _ _ _ _ H1 _ _ _ _ _ ⟨hc.1, hc.2.1, hH.wr ho ?_ z1 oq, by rw [z1]; exact hc.2.2.2.1, hc.2.2.2.2⟩
  show H1[a]? = some (vp_cell _ _)
  rw [e1, vp_cell_l, vp_cell_l, arrV_store]
  congr 2
  funext j
  by_cases hj : j = i.toNatClampNeg
  · subst hj; simp [updV, vp_updL]
  · simp [updV, vp_updL, hj]
/-- a new object: all its fields as they begin -/
theorem Go.new {idx ci N C1 S1 : Nat} {Cn : String} {T : u_T} {fs : List Value} (tys : Nat → FieldType) (hd : decode M.2.1 pc = .ok (.new idx, 3)) (hq : pc + 3 = q) (hci : vwCl[ci]? = some (Cn, T, N)) (hin : ∀ w ∈ u_ws Cn T N, w ∈ gw) (hty : ∀ k, k < N → parseFieldDescriptor (T k).2.2.1 = some (tys k)) (h1 : Cond.classLink M.1.cls idx Cn ∈ gw) (h2 : Cond.instantiable Cn N ∈ gw) (h3 : Cond.initialized Cn ∈ gw) (hfs : ∀ j, j < N → defaultValue (tys j) = vp_V fs j) (hC : C1 + 1 ≤ C) (hS : S1 + N ≤ S) (kk : Go Γ M d C1 S1 q L (.ref z :: st) (hup h z (.inr (ci, fs))) (z + 1) Q X) : Go Γ M d C S pc L st h z Q X := by
  intro p e R s m args below meth c H locs cells slots ls Z hc
  subst hq
  have hH := hc.2.2.1
  have hts := hc.1.2.2.2.2.2.1
  have hKn := hH.1.2.2.1.1 ci _ hci
  obtain ⟨r1, r2, r3, r4⟩ := hc.2.1
  refine W.newcK hc.1.1 hc.1.2.1 hc.1.2.2.2.2.1 (hts _ h1) (hts _ h2) (hts _ h3) rfl hd (by omega) (by omega) hKn.2.1 hc.2.2.2.1 fun H1 kC hkC e1 z1 o1 => ?_
  have hz := hc.2.2.2.1
  subst hz
  refine kk _ _ _ _ _ _ _ _ _ H1 _ _ _ _ _ ⟨hc.1, ⟨r1, r2, by omega, by omega⟩, hH.mk ⟨_, hci, (u_born tys hts hin hKn hkC e1 hty).to hfs⟩ z1 o1, z1, hc.2.2.2.2⟩
theorem arr_kind {Γ : G9} {s : State} {t : Nat} {ty : FieldType} {cA : ClassId} (hK : va_K (g_D Γ) vwCl (g_T Γ) s) (ht : (g_T Γ)[t]? = some (g_k Γ t, ty)) (hno : ∀ c, ty ≠ .object c) (hf : s.vm.findClass ("[" ++ ty.toString) = some cA) : cA = g_k Γ t := by
  have h1 := (hK.2 t _ ht).2
  cases ty with
  | object c => exact absurd rfl (hno c)
  | _ => exact Option.some.inj (hf.symm.trans h1)
/-- a new array of numbers of kind t -/
theorem Go.newarr {atype : ArrayType} {t C1 S1 N : Nat} {n : Int32} {a0 : vp_A} (hd : decode M.2.1 pc = .ok (.newarray atype, 2)) (hq : pc + 2 = q) (harr : Cond.arrayClass (newarray.typeOf atype) ∈ gw) (ht : (g_T Γ)[t]? = some (g_k Γ t, newarray.typeOf atype)) (hno : ∀ c, newarray.typeOf atype ≠ .object c) (ha : ∀ cA : ClassId, vp_cell cA a0 = arrV cA N (fun _ => defaultValue (newarray.typeOf atype))) (hn : ¬ n < 0) (hN : n.toNatClampNeg = N) (hb : N * componentBytes (newarray.typeOf atype) ≤ 536870912) (hC : C1 + 1 ≤ C) (hS : S1 + N ≤ S) (kk : Go Γ M d C1 S1 q L (.ref z :: st) (hup h z (.inl (g_k Γ t, a0))) (z + 1) Q X) : Go Γ M d C S pc L (.int n :: st) h z Q X := by
  intro p e R s m args below meth c H locs cells slots ls Z hc
  subst hq
  have hH := hc.2.2.1
  have hts := hc.1.2.2.2.2.2.1
  obtain ⟨r1, r2, r3, r4⟩ := hc.2.1
  refine va_newaK hc.1.1 hc.1.2.1 (hts _ harr) rfl hd rfl hn hN hb (by omega) (by omega) hc.2.2.2.1 fun H1 cA e1 z1 o1 hAr hNm => ?_
  have hz := hc.2.2.2.1
  subst hz
  have hcA := arr_kind hH.1.2.2.1 ht hno hNm
  subst hcA
  refine kk _ _ _ _ _ _ _ _ _ H1 _ _ _ _ _ ⟨hc.1, ⟨r1, r2, by omega, by omega⟩, hH.mk ?_ z1 o1, z1, hc.2.2.2.2⟩
  show H1[H.size]? = some (vp_cell _ _)
  rw [ha]
  exact e1
end GoHeap
