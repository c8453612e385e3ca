/-! the law's list: its orders -/
/-- a row of texts may be made -/
def AtOk (Γ : G9) : Prop := SF Γ (fun _ U _ => va_AO "java/lang/String" U)
section Lw
variable {Γ : G9} {C S pc q : Nat} {L : List (Option Value)} {st : List Value} {h hb : AH} {z b sim : Nat} {t : List Int32} {B : BS} {Q : QT} {X : XT}
theorem Go.anewT {M : MI} {d C1 S1 N idx : Nat} {n : Int32} (hd : decode M.2.1 pc = .ok (.anewarray idx, 3)) (hq : pc + 3 = q) (hcl : Cond.classLink M.1.cls idx "java/lang/String" ∈ gw) (hat : AtOk Γ) (hn : n = nI N) (hN : N < 2 ^ 20) (hC : C1 + 1 ≤ C) (hS : S1 + N ≤ S) (kk : Go Γ M d C1 S1 q L (.ref z :: st) (hup h z (aT Γ N (fun _ => none))) (z + 1) Q X) : Go Γ M d C S pc L (.int n :: st) h z Q X := by
  intro p e R s m args below meth c H locs cells slots ls Z hc
  subst hq
  subst hn
  have hH := hc.2.2.1
  have hts := hc.1.2.2.2.2.2.1
  obtain ⟨r1, r2, r3, r4⟩ := hc.2.1
  have k4 : (nI N).toNatClampNeg = N := nI_clamp (by omega)
  refine W.anew (C := "java/lang/String") hc.1.1 hc.1.2.1 hc.1.2.2.2.2.1 (hts _ hcl) (va_AO.use (hat _ _ hH.se)) rfl hd rfl (nI_pos (by omega)) (by rw [k4]; omega) (by omega) (by rw [k4]; omega) fun cA kA comp f1 f2 f3 f4 => ?_
  rw [k4]
  generalize hH1 : H.push ({ cls := cA, slots := Array.replicate N .null, vm := .none } : Cell) = H1
  have z1 : H1.size = H.size + 1 := by rw [← hH1, Array.size_push]
  have e1 : H1[H.size]? = some (arrV cA N (fun _ => .null)) := by rw [← hH1, Array.getElem?_push_size, ← arrV_new]
  have o1 : ∀ q : Nat, q < H.size → H1[q]? = H[q]? := fun q hq => by rw [← hH1, Array.getElem?_push, if_neg (Nat.ne_of_lt hq)]
  obtain ⟨-, -, -, -, -, k5⟩ := (hH.1.2.2.1.2 6 _ rfl).2
  have hcA : cA = g_k Γ 6 := Option.some.inj (f1.symm.trans k5)
  subst hcA
  have hz := hc.2.2.2.1
  subst hz
  refine kk _ _ _ _ _ _ _ _ _ H1 _ _ _ _ _ ⟨hc.1, ⟨r1, r2, by omega, by omega⟩, hH.mk (e := aT Γ N (fun _ => none)) ?_ z1 o1, z1, hc.2.2.2.2⟩
  show H1[H.size]? = some (vp_cell _ _)
  rw [vp_cell_q]
  exact e1
theorem Go.aastT {M : MI} {d a c n : Nat} {f : Nat → Option Nat} {fs : List Value} {i : Int32} (hd : decode M.2.1 pc = .ok (.aastore, 1)) (hq : pc + 1 = q) (ho : h a = some (aT Γ n f)) (hv : h c = some (.inr (11, fs))) (hin : vp_in i n) (kk : Go Γ M d C S q L st (hup h a (aT Γ n (va_up f i.toNatClampNeg (some c)))) z Q X) : Go Γ M d C S pc L (.ref c :: .int i :: .ref a :: st) h z Q X := by
  intro p e R s m args below meth cc H locs cells slots ls Z hc
  subst hq
  have hH := hc.2.2.1
  have hlt : i.toNatClampNeg < n := Nat.not_le.mp fun q => hin (Or.inr q)
  have h0 : ¬ i < 0 := fun q => hin (Or.inl q)
  obtain ⟨cellV, g1, g3, g2⟩ : ∃ cellB : Cell, H[c]? = some cellB ∧ cellB.vm.isStatics = false ∧ s.vm.findClass "java/lang/String" = some cellB.cls := va_recv hH.1.2.2.1 (hH.2.2.1.one hv) (show vwCl[11]? = some ("java/lang/String", T_String, 4) from rfl) (q0 := 0) rfl
  obtain ⟨kA, comp, k1, k2, k3, -⟩ := (hH.1.2.2.1.2 6 _ rfl).2
  obtain ⟨kE, hkE, -⟩ := Vm.findClass_spec k3
  obtain ⟨kC, hkC, -⟩ := Vm.findClass_spec g2
  refine W.aast hc.1.1 hc.1.2.1 (hH.2.2.1 a _ ho).2 (fun q h => by cases h) (fun h => by cases h) k1 k2 rfl hkE ⟨h0, by show _ < (arrV _ _ _).slots.size; rw [arrV_size]; exact hlt⟩ g1 (fun q h => by rw [h] at g3; cases g3) hkC (vb_asgS _ _ k3 g2) rfl rfl hd fun H1 e1 z1 oq => ?_
  refine kk _ _ _ _ _ _ _ _ _ H1 _ _ _ _ _ ⟨hc.1, hc.2.1, hH.wr ho ?_ z1 oq, by rw [z1]; exact hc.2.2.2.1, hc.2.2.2.2⟩
  show H1[a]? = some (vp_cell _ _)
  rw [e1, vp_cell_q, vp_cell_q, arrV_store]
  congr 2
  funext j
  by_cases hj : j = i.toNatClampNeg
  · subst hj; simp [updV, va_up, va_rf]
  · simp [updV, va_up, hj]
theorem Go.aaldT {M : MI} {d a n : Nat} {f : Nat → Option Nat} {i : Int32} (hd : decode M.2.1 pc = .ok (.aaload, 1)) (hq : pc + 1 = q) (ho : h a = some (aT Γ n f)) (hin : vp_in i n) (kk : Go Γ M d C S q L (va_rf (f i.toNatClampNeg) :: st) h z Q X) : Go Γ M d C S pc L (.int i :: .ref a :: st) h z Q X := by
  intro p e R s m args below meth c H locs cells slots ls Z hc
  subst hq
  exact va_aldq hc.1.1 hc.1.2.1 hc.2.2.1.1.2.2.1 (hc.2.2.1.2.2.1.one ho) 0 6 rfl rfl hin hd (kk _ _ _ _ _ _ _ _ _ _ _ _ _ _ _ hc)
/-- a row of texts, so many of them set -/
def WD (Γ : G9) (hb : AH) (w : Nat) (f : Nat → Option Nat) (Ts : List (List Int32)) : Prop := hb w = some (aT Γ 5 f) ∧ ∀ j, j < Ts.length → ∃ c, f j = some c ∧ STR Γ hb c (Ts.getD j [])
theorem STR.upw {w c : Nat} {f f' : Nat → Option Nat} {l : List Int32} (hs : STR Γ hb c l) (hw : hb w = some (aT Γ 5 f)) : STR Γ (hup hb w (aT Γ 5 f')) c l := by
  rcases hs with h1 | ⟨v, e1, e2⟩
  · exact Or.inl h1
  · have n1 : c ≠ w := fun e => by rw [e, hw] at e1; cases e1
    have n2 : v ≠ w := fun e => by
      rw [e, hw] at e2
      have := Option.some.inj e2
      injection this with this
      injection this with _ this
      injection this with _ this
      cases this
    exact Or.inr ⟨v, (hup_ne n1).trans e1, (hup_ne n2).trans e2⟩
theorem WD.ext {hb2 : AH} {w : Nat} {f : Nat → Option Nat} {Ts : List (List Int32)} (hw : WD Γ hb w f Ts) (he : Ext hb hb2) : WD Γ hb2 w f Ts := ⟨he _ _ hw.1, fun j hj => by
  obtain ⟨c, e1, e2⟩ := hw.2 j hj
  exact ⟨c, e1, e2.ext he⟩⟩
theorem WD.add {w c : Nat} {f : Nat → Option Nat} {Ts : List (List Int32)} {T : List Int32} (hw : WD Γ hb w f Ts) (hc : STR Γ hb c T) : WD Γ (hup hb w (aT Γ 5 (va_up f Ts.length (some c)))) w (va_up f Ts.length (some c)) (Ts ++ [T]) := by
  refine ⟨hup_at, fun j hj => ?_⟩
  rw [List.length_append, List.length_singleton] at hj
  unfold va_up
  by_cases e : j = Ts.length
  · refine ⟨c, if_pos e, ?_⟩
    rw [e, List.getD_eq_getElem?_getD, List.getElem?_append_right (Nat.le_refl _), Nat.sub_self]
    exact hc.upw hw.1
  · obtain ⟨c', e1, e2⟩ := hw.2 j (by omega)
    refine ⟨c', (if_neg e).trans e1, ?_⟩
    rw [List.getD_eq_getElem?_getD, List.getElem?_append_left (by omega), ← List.getD_eq_getElem?_getD]
    exact e2.upw hw.1
theorem Go.lwd {hb0 h2 : AH} {w c : Nat} {f : Nat → Option Nat} {Ts : List (List Int32)} {T : List Int32} {vj : Int32} (hd : decode M_Law_list.2.1 pc = .ok (.aastore, 1)) (hq : pc + 1 = q) (hs : LSt Γ h b hb t B) (hwd : WD Γ hb w f Ts) (hx : Ext hb0 hb) (h0w : hb0 w = none) (he : Ext h h2) (hst : STW Γ h h2 c T) (ej : vj = nI Ts.length) (h5 : Ts.length < 5) (kk : ∀ (h3 hb3 : AH) (f3 : Nat → Option Nat), LSt Γ h3 b hb3 t B → WD Γ hb3 w f3 (Ts ++ [T]) → Ext hb0 hb3 → Go Γ M_Law_list 9 C S q L st h3 z Q X) : Go Γ M_Law_list 9 C S pc L (.ref c :: .int vj :: .ref w :: st) h2 z Q X := by
  subst ej
  obtain ⟨hb2, hs2, hst2, hx2⟩ := hs.str he (Or.inr hst)
  obtain ⟨v, -, -, e3, -⟩ := hst
  refine Go.aastT hd hq (hs2.base _ _ (hwd.ext hx2).1) e3 (vp_in_nI h5 (by decide)) ?_
  rw [nI_clamp (by omega)]
  refine kk _ _ _ (hs2.upb (hwd.ext hx2).1) ((hwd.ext hx2).add hst2) (fun x e hxx => ?_)
  have hne : x ≠ w := fun e' => by rw [e', h0w] at hxx; cases hxx
  exact (hup_ne hne).trans (hx2 _ _ (hx _ _ hxx))
theorem Go.lwr {w i : Nat} {f : Nat → Option Nat} {Ts : List (List Int32)} {vi : Int32} (hd : decode M_Law_list.2.1 pc = .ok (.aaload, 1)) (hq : pc + 1 = q) (hs : LSt Γ h b hb t B) (hwd : WD Γ hb w f Ts) (ei : vi = nI i) (hi : i < Ts.length) (h5 : Ts.length ≤ 5) (kk : ∀ c : Nat, STR Γ hb c (Ts.getD i []) → Go Γ M_Law_list 9 C S q L (.ref c :: st) h z Q X) : Go Γ M_Law_list 9 C S pc L (.int vi :: .ref w :: st) h z Q X := by
  subst ei
  obtain ⟨c, e1, e2⟩ := hwd.2 i hi
  refine Go.aaldT hd hq (hs.base _ _ hwd.1) (vp_in_nI (by omega) (by decide)) ?_
  rw [nI_clamp (by omega), e1]
  exact kk c e2
theorem Go.bel3 {u v w : Value} (pr : Nat → Prop) (kk : ∀ y : Nat, pr y → Go Γ M_Law_list 9 C S q L (.int (nI y) :: st) h z Q X) (hb' : (∀ y : Nat, pr y → Go Γ M_Law_list 9 C S q L (.int (nI y) :: st) h z Q X) → Go Γ M_Law_list 9 C S pc L (u :: v :: w :: st) h z Q X) : Go Γ M_Law_list 9 C S pc L (u :: v :: w :: st) h z Q X := hb' kk
theorem Go.bel5 {u v : Value} (pr : Int32 → Prop) (kk : ∀ y : Int32, pr y → Go Γ M_Law_list 9 C S q L (.int y :: st) h z Q X) (hb' : (∀ y : Int32, pr y → Go Γ M_Law_list 9 C S q L (.int y :: st) h z Q X) → Go Γ M_Law_list 9 C S pc L (u :: v :: st) h z Q X) : Go Γ M_Law_list 9 C S pc L (u :: v :: st) h z Q X := hb' kk
/-- a new row into a matrix, and where it stands -/
theorem Go.laas2 {k y i : Nat} {f : Nat → Int32} {vi : Int32} (hd : decode M_Law_list.2.1 pc = .ok (.aastore, 1)) (hq : pc + 1 = q) (hao : AoOk Γ) (hs : LSt Γ h b hb t B) (es : b_ad B 6 0 = sim) (hl : ∀ x, y ≤ x → h x = none) (hk : k < 6) (ei : vi = nI i) (hlen : (b_rs B k).length = i) (hi : i < b_cn B k) (hcn : b_cn B k < 100)
    (kk : ∀ (h2 : AH) (B' : BS), LSt Γ h2 b hb t B' → b_rs B' = (fun k' => if k' = k then b_rs B k ++ [f] else b_rs B k') → b_cn B' = b_cn B → b_wa B' = b_wa B → b_ad B' 6 0 = sim → (b_rs B' k).length = i + 1 → (b_rs B' k).getD i (fun _ => 0) = f → b_ad B' k i = y → Go Γ M_Law_list 9 C S q L st h2 z Q X) : Go Γ M_Law_list 9 C S pc L (.ref y :: .int vi :: .ref (b_ad B 8 k) :: st) (hup h y (aI Γ (wdt k) f)) z Q X := by
  subst ei
  subst es
  refine Go.aastA hd hq ((hup_ne (hs.nobj hl (Or.inr (Or.inr (Or.inr ⟨rfl, hk⟩))))).trans (hs.out hk)) hup_at (vp_in_nI hi (by omega)) hao ?_
  rw [nI_clamp (by omega), ← hlen]
  refine kk _ (bsRow B k y f) (hs.addRow hl hk) rfl rfl rfl (if_neg (fun w => absurd w.1 (by omega))) ?_ ?_ (if_pos ⟨rfl, hlen.symm⟩)
  · show (if k = k then b_rs B k ++ [f] else b_rs B k).length = _
    rw [if_pos rfl, List.length_append, List.length_singleton, hlen]
  · show (if k = k then b_rs B k ++ [f] else b_rs B k).getD i _ = _
    rw [if_pos rfl, ← hlen, getD_app_r]
end Lw
theorem nI_eqn {a c : Nat} (ha : a < 100) (hc : c < 100) (w : nI a = nI c) : a = c := by
  have := congrArg Int32.toNatClampNeg w
  rwa [nI_clamp (by omega), nI_clamp (by omega)] at this
theorem STN.vis {Γ : G9} {h h2 h0 : AH} {c : Nat} {l : List Int32} (hs : STN Γ h h2 c l) (hv : ∀ x e, h x = none → h2 x = some e → h0 x = some e) : STR Γ h0 c l := by
  rcases hs with h1 | ⟨v, e1, e2, e3, e4⟩
  · exact Or.inl h1
  · exact Or.inr ⟨v, hv _ _ e1 e3, hv _ _ e2 e4⟩
abbrev RO := List Nat × Int32
abbrev oF (a : RO) : Nat → Nat := fun j => a.1.getD j 0
def rOrd (a : RO) : Nat → Int32 := fun j => if j = 5 then a.2 else nI (oF a j)
theorem rOrd_eq {y0 y1 y2 y3 y4 y6 y7 y8 y9 y10 y11 : Nat} {x : Int32} : rL [nI y0, nI y1, nI y2, nI y3, nI y4, x, nI y6, nI y7, nI y8, nI y9, nI y10, nI y11] = rOrd ([y0, y1, y2, y3, y4, 0, y6, y7, y8, y9, y10, y11], x) := by
  funext j
  match j with
  | 0 => rfl
  | 1 => rfl
  | 2 => rfl
  | 3 => rfl
  | 4 => rfl
  | 5 => rfl
  | 6 => rfl
  | 7 => rfl
  | 8 => rfl
  | 9 => rfl
  | 10 => rfl
  | 11 => rfl
  | n + 12 =>
    unfold rOrd
    rw [if_neg (by omega)]
    rfl
def w0T (v : Nat) : List Int32 := (([] ++ tx187) ++ dec v)
def w1T (v : Nat) : List Int32 := (([] ++ tx189) ++ dec v)
def w2T (v u : Nat) : List Int32 := (((([] ++ tx191) ++ dec v) ++ tx193) ++ dec u)
def w3T (v : Nat) (T : List Int32) : List Int32 := (((([] ++ tx195) ++ dec v) ++ tx197) ++ T)
def w4T (v : Nat) : List Int32 := (([] ++ tx203) ++ dec v)
def wsT (o : Nat → Nat) : List (List Int32) := [w0T (o 1), w1T (o 1), w2T (o 1) (o 2), w3T (o 1) (sumT o), w4T (o 1)]
def tOrd (_ : Nat) (a : RO) : List Int32 := (((wsT (oF a)).getD (oF a 0) [] ++ whenT (oF a) a.2) ++ tx208)
def o5Ok (x : Int32) : Prop := x = -1 ∨ x = 0 ∨ x = 1 ∨ x = 2 ∨ x = 3 ∨ x = 4 ∨ x = 5 ∨ x = 6 ∨ x = 7 ∨ x = 8
theorem o5_of {x : Int32} {y1 y3 : Nat} (hy : y3 < 9) (h : (x = -1 ∧ y1 = 3) ∨ x = nI y3) : o5Ok x := by
  rcases h with ⟨h, -⟩ | h
  · exact Or.inl h
  · subst h
    unfold o5Ok
    rcases (show y3 = 0 ∨ y3 = 1 ∨ y3 = 2 ∨ y3 = 3 ∨ y3 = 4 ∨ y3 = 5 ∨ y3 = 6 ∨ y3 = 7 ∨ y3 = 8 by omega) with rfl | rfl | rfl | rfl | rfl | rfl | rfl | rfl | rfl
    · exact Or.inr (Or.inl rfl)
    · exact Or.inr (Or.inr (Or.inl rfl))
    · exact Or.inr (Or.inr (Or.inr (Or.inl rfl)))
    · exact Or.inr (Or.inr (Or.inr (Or.inr (Or.inl rfl))))
    · exact Or.inr (Or.inr (Or.inr (Or.inr (Or.inr (Or.inl rfl)))))
    · exact Or.inr (Or.inr (Or.inr (Or.inr (Or.inr (Or.inr (Or.inl rfl))))))
    · exact Or.inr (Or.inr (Or.inr (Or.inr (Or.inr (Or.inr (Or.inr (Or.inl rfl)))))))
    · exact Or.inr (Or.inr (Or.inr (Or.inr (Or.inr (Or.inr (Or.inr (Or.inr (Or.inl rfl))))))))
    · exact Or.inr (Or.inr (Or.inr (Or.inr (Or.inr (Or.inr (Or.inr (Or.inr (Or.inr (rfl)))))))))
def okOrd (nb ns nc nd nt : Nat) (a : RO) : Prop := (∀ j, oF a j < 100) ∧ oF a 0 < 5 ∧ (oF a 0 = 2 → oF a 1 < nc) ∧ (oF a 0 = 4 → oF a 1 < ns) ∧ (oF a 0 ≠ 2 → oF a 0 ≠ 4 → oF a 1 < nt) ∧ oF a 1 < 10 ∧ oF a 2 < nt ∧ oF a 3 < 8 ∧ oF a 4 < 12 ∧ o5Ok a.2 ∧ (a.2 = -1 → oF a 0 = 3) ∧ oF a 6 < 9 ∧ oF a 7 < ns ∧ oF a 8 < nc ∧ oF a 9 < nt ∧ oF a 10 < nd ∧ oF a 11 < nb
theorem LB_sumT {o : Nat → Nat} (hob : ∀ j, o j < 100) : LB (sumT o) := by
  have hd : ∀ j, LB (dec (o j)) := fun j => LB_dec (Nat.lt_trans (hob j) (by decide))
  unfold sumT
  split
  · exact (LB_app (LB_app LB_nil LB_tx35) (hd 4))
  split
  · exact (LB_app (LB_app LB_nil LB_tx48) (hd 9))
  split
  · exact (LB_app (LB_app (LB_app (LB_app (LB_app LB_nil LB_tx50) (hd 10)) LB_tx52) (hd 4)) LB_tx54)
  split
  · exact (LB_app (LB_app LB_nil LB_tx56) (hd 4))
  split
  · exact (LB_app (LB_app (LB_app (LB_app LB_nil LB_tx58) (hd 9)) LB_tx60) (hd 4))
  split
  · exact (LB_app (LB_app (LB_app (LB_app LB_nil LB_tx62) (hd 7)) LB_tx64) (hd 4))
  split
  · exact (LB_app (LB_app (LB_app (LB_app LB_nil LB_tx66) (hd 11)) LB_tx68) (hd 4))
  exact (LB_app (LB_app (LB_app (LB_app (LB_app LB_nil LB_tx70) (hd 8)) LB_tx72) (hd 4)) LB_tx54)
theorem LB_whenT {o : Nat → Nat} {x : Int32} (hob : ∀ j, o j < 100) (h6 : o 6 < 9) : LB (whenT o x) := by
  have hd : ∀ j, LB (dec (o j)) := fun j => LB_dec (Nat.lt_trans (hob j) (by decide))
  have hd6 : LB (dec (6 * o 6)) := LB_dec (by omega)
  have hd3 : LB (dec (o 6 % 3)) := LB_dec (by omega)
  unfold whenT
  split
  · exact LB_tx74
  split
  · exact (LB_app (LB_app LB_nil LB_tx76) (hd 6))
  split
  · exact (LB_app (LB_app (LB_app (LB_app (LB_app LB_nil LB_tx78) (hd 9)) LB_tx80) (hd 6)) LB_tx82)
  split
  · exact (LB_app (LB_app LB_nil LB_tx84) (hd 7))
  split
  · exact (LB_app (LB_app (LB_app (LB_app (LB_app (LB_app LB_nil LB_tx86) (hd 7)) LB_tx88) (hd 7)) LB_tx90) (hd 6))
  split
  · exact (LB_app (LB_app (LB_app (LB_app (LB_app (LB_app LB_nil LB_tx92) (hd 8)) LB_tx94) (hd 8)) LB_tx96) hd6)
  split
  · exact (LB_app (LB_app (LB_app LB_nil LB_tx98) (hd 8)) LB_tx100)
  split
  · exact (LB_app (LB_app (LB_app (LB_app (LB_app (LB_app LB_nil LB_tx102) (hd 9)) LB_tx104) (hd 6)) LB_tx106) (hd 6))
  split
  · exact (LB_app (LB_app (LB_app (LB_app LB_nil LB_tx108) (hd 9)) LB_tx110) hd3)
  exact (LB_app (LB_app (LB_app (LB_app LB_nil LB_tx112) (hd 6)) LB_tx114) (hd 6))
theorem LB_wsT {o : Nat → Nat} {j : Nat} (hob : ∀ j, o j < 100) : LB ((wsT o).getD j []) := by
  have hd : ∀ j, LB (dec (o j)) := fun j => LB_dec (Nat.lt_trans (hob j) (by decide))
  have hsm := LB_sumT hob
  unfold wsT
  match j with
  | 0 => exact LB_app (LB_app LB_nil LB_tx187) (hd 1)
  | 1 => exact LB_app (LB_app LB_nil LB_tx189) (hd 1)
  | 2 => exact LB_app (LB_app (LB_app (LB_app LB_nil LB_tx191) (hd 1)) LB_tx193) (hd 2)
  | 3 => exact LB_app (LB_app (LB_app (LB_app LB_nil LB_tx195) (hd 1)) LB_tx197) hsm
  | 4 => exact LB_app (LB_app LB_nil LB_tx203) (hd 1)
  | n + 5 => exact LB_nil
theorem len_sumT {o : Nat → Nat} (hob : ∀ j, o j < 100) (h7 : o 7 < 4 ∧ o 8 < 4 ∧ o 9 < 4 ∧ o 10 < 4 ∧ o 11 < 4) : (sumT o).length ≤ 19 := by
  have d4 := dec_2 (hob 4)
  have d7 := dec_1 (show o 7 < 10 by omega)
  have d8 := dec_1 (show o 8 < 10 by omega)
  have d9 := dec_1 (show o 9 < 10 by omega)
  have d10 := dec_1 (show o 10 < 10 by omega)
  have d11 := dec_1 (show o 11 < 10 by omega)
  unfold sumT
  repeat' split
  all_goals simp only [List.length_append, List.length_nil, len_tx35, len_tx48, len_tx50, len_tx52, len_tx54, len_tx56, len_tx58, len_tx60, len_tx62, len_tx64, len_tx66, len_tx68, len_tx70, len_tx72, len_tx74, len_tx76, len_tx78, len_tx80, len_tx82, len_tx84, len_tx86, len_tx88, len_tx90, len_tx92, len_tx94, len_tx96, len_tx98, len_tx100, len_tx102, len_tx104, len_tx106, len_tx108, len_tx110, len_tx112, len_tx114, len_tx135, len_tx137, len_tx139, len_tx141, len_tx143, len_tx148, len_tx150, len_tx152, len_tx157, len_tx159, len_tx161, len_tx166, len_tx168, len_tx173, len_tx175, len_tx180, len_tx182, len_tx187, len_tx189, len_tx191, len_tx193, len_tx195, len_tx197, len_tx203, len_tx208]
  all_goals omega
theorem len_whenT {o : Nat → Nat} {x : Int32} (hob : ∀ j, o j < 100) (h6 : o 6 < 9) (h7 : o 7 < 4 ∧ o 8 < 4 ∧ o 9 < 4 ∧ o 10 < 4 ∧ o 11 < 4) : (whenT o x).length ≤ 38 := by
  have d4 := dec_2 (hob 4)
  have d7 := dec_1 (show o 7 < 10 by omega)
  have d8 := dec_1 (show o 8 < 10 by omega)
  have d9 := dec_1 (show o 9 < 10 by omega)
  have d10 := dec_1 (show o 10 < 10 by omega)
  have d11 := dec_1 (show o 11 < 10 by omega)
  have d6 := dec_1 (show o 6 < 10 by omega)
  have d66 := dec_2 (show 6 * o 6 < 100 by omega)
  have d63 := dec_1 (show o 6 % 3 < 10 by omega)
  unfold whenT
  repeat' split
  all_goals simp only [List.length_append, List.length_nil, len_tx35, len_tx48, len_tx50, len_tx52, len_tx54, len_tx56, len_tx58, len_tx60, len_tx62, len_tx64, len_tx66, len_tx68, len_tx70, len_tx72, len_tx74, len_tx76, len_tx78, len_tx80, len_tx82, len_tx84, len_tx86, len_tx88, len_tx90, len_tx92, len_tx94, len_tx96, len_tx98, len_tx100, len_tx102, len_tx104, len_tx106, len_tx108, len_tx110, len_tx112, len_tx114, len_tx135, len_tx137, len_tx139, len_tx141, len_tx143, len_tx148, len_tx150, len_tx152, len_tx157, len_tx159, len_tx161, len_tx166, len_tx168, len_tx173, len_tx175, len_tx180, len_tx182, len_tx187, len_tx189, len_tx191, len_tx193, len_tx195, len_tx197, len_tx203, len_tx208]
  all_goals omega
theorem len_wsT {o : Nat → Nat} {j : Nat} (hob : ∀ j, o j < 100) (h1 : o 1 < 10) (h2 : o 2 < 10) (h7 : o 7 < 4 ∧ o 8 < 4 ∧ o 9 < 4 ∧ o 10 < 4 ∧ o 11 < 4) : ((wsT o).getD j []).length ≤ 31 := by
  have hsm := len_sumT hob h7
  have d1 := dec_1 h1
  have d2 := dec_1 h2
  unfold wsT
  match j with
  | 0 =>
    show (w0T (o 1)).length ≤ 31
    unfold w0T
    simp only [List.length_append, List.length_nil, len_tx35, len_tx48, len_tx50, len_tx52, len_tx54, len_tx56, len_tx58, len_tx60, len_tx62, len_tx64, len_tx66, len_tx68, len_tx70, len_tx72, len_tx74, len_tx76, len_tx78, len_tx80, len_tx82, len_tx84, len_tx86, len_tx88, len_tx90, len_tx92, len_tx94, len_tx96, len_tx98, len_tx100, len_tx102, len_tx104, len_tx106, len_tx108, len_tx110, len_tx112, len_tx114, len_tx135, len_tx137, len_tx139, len_tx141, len_tx143, len_tx148, len_tx150, len_tx152, len_tx157, len_tx159, len_tx161, len_tx166, len_tx168, len_tx173, len_tx175, len_tx180, len_tx182, len_tx187, len_tx189, len_tx191, len_tx193, len_tx195, len_tx197, len_tx203, len_tx208]
    omega
  | 1 =>
    show (w1T (o 1)).length ≤ 31
    unfold w1T
    simp only [List.length_append, List.length_nil, len_tx35, len_tx48, len_tx50, len_tx52, len_tx54, len_tx56, len_tx58, len_tx60, len_tx62, len_tx64, len_tx66, len_tx68, len_tx70, len_tx72, len_tx74, len_tx76, len_tx78, len_tx80, len_tx82, len_tx84, len_tx86, len_tx88, len_tx90, len_tx92, len_tx94, len_tx96, len_tx98, len_tx100, len_tx102, len_tx104, len_tx106, len_tx108, len_tx110, len_tx112, len_tx114, len_tx135, len_tx137, len_tx139, len_tx141, len_tx143, len_tx148, len_tx150, len_tx152, len_tx157, len_tx159, len_tx161, len_tx166, len_tx168, len_tx173, len_tx175, len_tx180, len_tx182, len_tx187, len_tx189, len_tx191, len_tx193, len_tx195, len_tx197, len_tx203, len_tx208]
    omega
  | 2 =>
    show (w2T (o 1) (o 2)).length ≤ 31
    unfold w2T
    simp only [List.length_append, List.length_nil, len_tx35, len_tx48, len_tx50, len_tx52, len_tx54, len_tx56, len_tx58, len_tx60, len_tx62, len_tx64, len_tx66, len_tx68, len_tx70, len_tx72, len_tx74, len_tx76, len_tx78, len_tx80, len_tx82, len_tx84, len_tx86, len_tx88, len_tx90, len_tx92, len_tx94, len_tx96, len_tx98, len_tx100, len_tx102, len_tx104, len_tx106, len_tx108, len_tx110, len_tx112, len_tx114, len_tx135, len_tx137, len_tx139, len_tx141, len_tx143, len_tx148, len_tx150, len_tx152, len_tx157, len_tx159, len_tx161, len_tx166, len_tx168, len_tx173, len_tx175, len_tx180, len_tx182, len_tx187, len_tx189, len_tx191, len_tx193, len_tx195, len_tx197, len_tx203, len_tx208]
    omega
  | 3 =>
    show (w3T (o 1) (sumT o)).length ≤ 31
    unfold w3T
    simp only [List.length_append, List.length_nil, len_tx35, len_tx48, len_tx50, len_tx52, len_tx54, len_tx56, len_tx58, len_tx60, len_tx62, len_tx64, len_tx66, len_tx68, len_tx70, len_tx72, len_tx74, len_tx76, len_tx78, len_tx80, len_tx82, len_tx84, len_tx86, len_tx88, len_tx90, len_tx92, len_tx94, len_tx96, len_tx98, len_tx100, len_tx102, len_tx104, len_tx106, len_tx108, len_tx110, len_tx112, len_tx114, len_tx135, len_tx137, len_tx139, len_tx141, len_tx143, len_tx148, len_tx150, len_tx152, len_tx157, len_tx159, len_tx161, len_tx166, len_tx168, len_tx173, len_tx175, len_tx180, len_tx182, len_tx187, len_tx189, len_tx191, len_tx193, len_tx195, len_tx197, len_tx203, len_tx208]
    omega
  | 4 =>
    show (w4T (o 1)).length ≤ 31
    unfold w4T
    simp only [List.length_append, List.length_nil, len_tx35, len_tx48, len_tx50, len_tx52, len_tx54, len_tx56, len_tx58, len_tx60, len_tx62, len_tx64, len_tx66, len_tx68, len_tx70, len_tx72, len_tx74, len_tx76, len_tx78, len_tx80, len_tx82, len_tx84, len_tx86, len_tx88, len_tx90, len_tx92, len_tx94, len_tx96, len_tx98, len_tx100, len_tx102, len_tx104, len_tx106, len_tx108, len_tx110, len_tx112, len_tx114, len_tx135, len_tx137, len_tx139, len_tx141, len_tx143, len_tx148, len_tx150, len_tx152, len_tx157, len_tx159, len_tx161, len_tx166, len_tx168, len_tx173, len_tx175, len_tx180, len_tx182, len_tx187, len_tx189, len_tx191, len_tx193, len_tx195, len_tx197, len_tx203, len_tx208]
    omega
  | n + 5 => exact Nat.zero_le _
theorem len_tOrd {nb ns nc nd nt k : Nat} {a : RO} (hm : nb ≤ 4 ∧ ns ≤ 4 ∧ nc ≤ 4 ∧ nd ≤ 4 ∧ nt ≤ 4) (_ : k < 10) (ha : okOrd nb ns nc nd nt a) : (tOrd k a).length ≤ 71 := by
  obtain ⟨hob, q0, q1, q2, q3, q4, q5, q6, q7, q8, q9, q10, q11, q12, q13, q14, q15⟩ := ha
  have e1 := len_wsT (j := oF a 0) hob q4 (by omega) ⟨by omega, by omega, by omega, by omega, by omega⟩
  have e2 := len_whenT (x := a.2) hob q10 ⟨by omega, by omega, by omega, by omega, by omega⟩
  unfold tOrd
  simp only [List.length_append, len_tx208]
  omega
