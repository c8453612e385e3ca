/-! more rows: holes in a switch, constants kept in arrays, blocks within blocks -/
theorem tsw_d {pc : Nat} {dflt lo hi : Int} {offs : Array Int} {x : Int32} {t : Int} (h : ∀ n : Nat, n < (hi - lo + 1).toNat → offs[n]? = some dflt ∨ ¬ x.toInt = lo + n) (e : (pc : Int) + dflt = t := by decide) : tswitch pc dflt lo hi offs x.toInt = some t := by
  unfold tswitch
  by_cases hx : x.toInt < lo ∨ hi < x.toInt
  · rw [if_pos hx, e]
  · rw [if_neg hx]
    have h1 : lo ≤ x.toInt := Int.not_lt.mp fun q => hx (Or.inl q)
    have h2 : x.toInt ≤ hi := Int.not_lt.mp fun q => hx (Or.inr q)
    rcases h (x.toInt - lo).toNat (by omega) with h3 | h3
    · rw [h3, ← e]
      rfl
    · exact absurd (show x.toInt = lo + ((x.toInt - lo).toNat : Int) by omega) h3
theorem vp_ofL {x m : Int32} {n : Nat} (h0 : ¬ x < 0) (h1 : ¬ m ≤ x) (hm : m = nI n) (hn : n < 2 ^ 31) : vp_in x n := by
  subst hm
  exact vp_of h0 h1 hn
theorem vp_nle {i n : Nat} (h : ¬ nI n ≤ nI i) (hi : i < 2 ^ 31) (hn : n < 2 ^ 31) : vp_in (nI i) n := vp_in_nI (Nat.not_le.mp fun w => h (nI_le w hi)) hn
theorem vp_dec {x m : Int32} {n : Nat} (h0 : ¬ x ≤ 0) (h1 : x ≤ m) (hm : m = nI n) (hn : n < 2 ^ 31) : vp_in (x - 1) n := by
  subst hm
  have h2 : ¬ x < 0 := fun w => h0 (Int32.le_of_lt w)
  obtain ⟨j, hj, rfl⟩ := nI_of h2
  cases j with
  | zero => exact absurd (show nI 0 ≤ 0 by rw [nI_0]; exact Int32.le_refl 0) h0
  | succ j =>
    rw [nI_pred]
    have h3 := (nI_leI hj hn).mp h1
    exact vp_in_nI (by omega) (by omega)
theorem blk_in {h h' : AH} {g n : Nat} {f : Nat → Option va_E} (e : h = h') : blk h g n f = blk h' g n f := by rw [e]
theorem hup_blk {h : AH} {g n a : Nat} {f : Nat → Option va_E} {e : va_E} (ha : a < g ∨ g + n ≤ a) : hup (blk h g n f) a e = blk (hup h a e) g n f := by
  funext q
  unfold hup blk
  by_cases h1 : q = a
  · rw [if_pos h1, if_neg (show ¬ (g ≤ q ∧ q < g + n) by omega)]
    exact (if_pos h1).symm
  · rw [if_neg h1]
    by_cases h2 : g ≤ q ∧ q < g + n
    · rw [if_pos h2, if_pos h2]
    · rw [if_neg h2, if_neg h2]
      exact (if_neg h1).symm
def updS (f : Nat → Option (Fin 54)) (k : Nat) (v : Fin 54) : Nat → Option (Fin 54) := fun j => if j = k then some v else f j
theorem va_rf_none {E : Option (Fin 54)} {g : Fin 54 → Nat} (h : E = none) : va_rf (Option.map g E) = .null := by rw [h]; rfl
theorem va_rf_some {E : Option (Fin 54)} {g : Fin 54 → Nat} (d : Fin 54) (h : ¬ E = none) : va_rf (Option.map g E) = .ref (g (E.getD d)) := by
  cases E with
  | none => exact absurd rfl h
  | some w => rfl
section GoMore
variable {Γ : G9} {M : MI} {d C S pc q : Nat} {L : List (Option Value)} {st : List Value} {h : AH} {z : Nat} {Q : QT} {X : XT}
theorem Go.aaldS {a n : Nat} {sg : Nat → Nat} {f : Nat → Option (Fin 54)} {i : Int32} (hd : decode M.2.1 pc = .ok (.aaload, 1)) (hq : pc + 1 = q) (ho : h a = some (aQ Γ n (fun j => (f j).map fun w => sg w.val))) (hin : vp_in i n) (kk : Go Γ M d C S q L (va_rf (Option.map (fun w => sg w.val) (f i.toNatClampNeg)) :: st) h z Q X) : Go Γ M d C S pc L (.int i :: .ref a :: st) h z Q X := Go.aaload hd hq ho hin kk
theorem Go.aastoreS {a n : Nat} {sg : Nat → Nat} {f : Nat → Option (Fin 54)} {i : Int32} {v : Fin 54} (hd : decode M.2.1 pc = .ok (.aastore, 1)) (hq : pc + 1 = q) (ho : h a = some (aQ Γ n (fun j => (f j).map fun w => sg w.val))) (hin : vp_in i n) (hs : SgOk Γ sg) (kk : Go Γ M d C S q L st (hup h a (aQ Γ n (fun j => (updS f i.toNatClampNeg v j).map fun w => sg w.val))) z Q X) : Go Γ M d C S pc L (.ref (sg v.val) :: .int i :: .ref a :: st) h z Q X := by
  intro p e R s m args below meth c H locs cells slots ls Z hc
  subst hq
  have hH := hc.2.2.1
  have hlt : i.toNatClampNeg < n := Nat.not_le.mp fun q => hin (Or.inr q)
  have h0 : ¬ i < 0 := fun q => hin (Or.inl q)
  obtain ⟨cellV, g1, g3, g2⟩ := va_Orecv (hs.o v.isLt _ _ hH.se) hH.2.1
  obtain ⟨kA, comp, k1, k2, k3, -⟩ := (hH.1.2.2.1.2 3 _ rfl).2
  obtain ⟨kE, hkE, -⟩ := Vm.findClass_spec k3
  obtain ⟨kC, hkC, -⟩ := Vm.findClass_spec g2
  refine W.aast hc.1.1 hc.1.2.1 (hH.2.2.1 a _ ho).2 (fun q h => by cases h) (fun h => by cases h) k1 k2 rfl hkE ⟨h0, by show _ < (arrV _ _ _).slots.size; rw [arrV_size]; exact hlt⟩ g1 (fun q h => by rw [h] at g3; cases g3) hkC (vb_asgS _ _ k3 g2) rfl rfl hd fun H1 e1 z1 oq => ?_
  refine kk _ _ _ _ _ _ _ _ _ H1 _ _ _ _ _ ⟨hc.1, hc.2.1, hH.wr ho ?_ z1 oq, by rw [z1]; exact hc.2.2.2.1, hc.2.2.2.2⟩
  show H1[a]? = some (vp_cell _ _)
  rw [e1, vp_cell_q, vp_cell_q, arrV_store]
  congr 2
  funext j
  by_cases hj : j = i.toNatClampNeg
  · subst hj; simp [updV, updS, va_rf]
  · simp [updV, updS, hj]
theorem Go.i2c {x : Int32} (hd : decode M.2.1 pc = .ok (.i2c, 1)) (hq : pc + 1 = q) (k : Go Γ M d C S q L (.int (x.toUInt32 % 65536).toInt32 :: st) h z Q X) : Go Γ M d C S pc L (.int x :: st) h z Q X := by
  subst hq
  exact Go.pure k (fun hx hb hl k => lv_i2c hx hb hd rfl k)
end GoMore
