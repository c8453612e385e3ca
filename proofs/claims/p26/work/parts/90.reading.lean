/-! the class reads sums and tests out of tokens: what it takes, what it puts down -/
abbrev CD9 : Type := List (Fin 54 × Int32)
/-- behind the first n signs c was put down -/
def FA (n : Nat) (F F' : FM) (c : CD9) : Prop := fm_sz F' = nI (n + c.length) ∧ (∀ j, j < n → fm_sg F' j = fm_sg F j ∧ fm_op F' j = fm_op F j) ∧ ∀ j p, c[j]? = some p → fm_sg F' (n + j) = some p.1 ∧ fm_op F' (n + j) = p.2
theorem FA.rf {n : Nat} {F : FM} (h : fm_sz F = nI n) : FA n F F [] := ⟨h, fun _ _ => ⟨rfl, rfl⟩, fun j p hj => by cases hj⟩
theorem FA.tr {n : Nat} {F F1 F2 : FM} {c1 c2 : CD9} (h1 : FA n F F1 c1) (h2 : FA (n + c1.length) F1 F2 c2) : FA n F F2 (c1 ++ c2) := by
  obtain ⟨a1, a2, a3⟩ := h1
  obtain ⟨b1, b2, b3⟩ := h2
  refine ⟨by rw [b1, List.length_append, Nat.add_assoc], fun j hj => ?_, fun j p hj => ?_⟩
  · obtain ⟨e1, e2⟩ := b2 j (by omega)
    obtain ⟨e3, e4⟩ := a2 j hj
    exact ⟨e1.trans e3, e2.trans e4⟩
  · by_cases e : j < c1.length
    · rw [List.getElem?_append_left e] at hj
      obtain ⟨e1, e2⟩ := b2 (n + j) (by omega)
      obtain ⟨e3, e4⟩ := a3 j p hj
      exact ⟨e1.trans e3, e2.trans e4⟩
    · rw [List.getElem?_append_right (by omega)] at hj
      have := b3 (j - c1.length) p hj
      rw [show n + c1.length + (j - c1.length) = n + j by omega] at this
      exact this
theorem FA.put {n : Nat} {F : FM} (h : fm_sz F = nI n) (hn : n < 800) {s : Fin 54} {o : Int32} : FA n F (s_Formulas_put F s o) [(s, o)] := by
  unfold s_Formulas_put
  rw [h, if_neg (nI_pos (show n < 2 ^ 31 by omega)), if_neg (nI_ge (show n < 800 by omega) (by omega)), nI_clamp (show n < 2 ^ 31 by omega)]
  refine ⟨nI_1 n, fun j hj => ⟨?_, ?_⟩, fun j p hj => ?_⟩
  · show updS (fm_sg F) n s j = _
    unfold updS
    rw [if_neg (by omega)]
  · show upd (fm_op F) n o j = _
    unfold upd
    rw [if_neg (by omega)]
  · match j, hj with
    | 0, hj =>
      cases hj
      refine ⟨?_, ?_⟩
      · show updS (fm_sg F) n s n = _
        unfold updS
        rw [if_pos rfl]
      · show upd (fm_op F) n o n = _
        unfold upd
        rw [if_pos rfl]
    | j + 1, hj => cases hj
theorem FA.sz {n : Nat} {F F' : FM} {c : CD9} (h : FA n F F' c) : fm_sz F' = nI (n + c.length) := h.1
/-- f takes the tokens from r to r2, and puts c down -/
def Rd (f : RS → RS) (r r2 : List TKN) (c : CD9) : Prop := ∀ (K : TK) (F : FM) (E : TE) (n : Nat), KR r K → fm_sz F = nI n → n + c.length ≤ 800 → ∃ K2 F2, f (K, F, E) = (K2, F2, E) ∧ KR r2 K2 ∧ FA n F F2 c
theorem KR.sn {p : TKN} {t : List TKN} {K : TK} (h : KR (p :: t) K) : tk_sn K = p.1 ∧ tk_w K = p.2 ∧ tk_br K = -1 := by
  obtain ⟨h1, ⟨s, w, t', e, h2, h3⟩, -⟩ := h
  cases e
  exact ⟨h2, h3, h1⟩
theorem KR.exp {p q : TKN} {t : List TKN} {K : TK} (h : KR (p :: q :: t) K) {s : Fin 54} (e : p.1 = s) : KR (q :: t) (s_Tokens_expect K s) := by
  unfold s_Tokens_expect
  rw [h.sn.1, e, if_pos rfl]
  exact h.adv
theorem KR.deep {p q : TKN} {t : List TKN} {K : TK} (h : KR (p :: q :: t) K) {E : TE} {x : Nat} (hx : x < 8) : (s_Teacher_goesDeeper K E x).1 = 1 ∧ KR (q :: t) (s_Teacher_goesDeeper K E x).2 := by
  unfold s_Teacher_goesDeeper
  rw [if_pos (show nI x < 8 from (nI_ltI (b := 8) (by omega) (by omega)).mpr hx)]
  exact ⟨rfl, h.adv⟩
theorem KR.old {p : TKN} {nm : Int64} {q : TKN} {t : List TKN} {K : TK} (h : KR (p :: (50, nm) :: q :: t) K) {E : TE} {N : NM} {s : Fin 54} (e : p.1 = s) {j : Nat} (hj : j < 2 ^ 31) (hf : s_Names_find N nm = nI j) : (s_Teacher_oldName K E N s).1 = nI j ∧ KR (q :: t) (s_Teacher_oldName K E N s).2.1 ∧ (s_Teacher_oldName K E N s).2.2 = E := by
  have h1 := h.exp e
  have h2 := h1.adv
  unfold s_Teacher_oldName s_Tokens_sign s_Tokens_worth
  rw [h1.sn.1, if_pos (show (50 : Fin 54).val = 50 from rfl), h1.sn.2.1, hf, if_pos (nI_pos' hj)]
  exact ⟨rfl, h2, rfl⟩
theorem KR.num {p : TKN} {v : Int64} {q : TKN} {t : List TKN} {K : TK} (h : KR (p :: (51, v) :: q :: t) K) {E : TE} {s : Fin 54} (e : p.1 = s) {a b : Int32} {va vb n : Nat} (hv : v.toInt32 = nI n) (ha : a = nI va) (hb : b = nI vb) (h1 : va ≤ n) (h2 : n ≤ vb) (h3 : vb < 2 ^ 31) : (s_Teacher_number K E s a b).1 = nI n ∧ KR (q :: t) (s_Teacher_number K E s a b).2.1 ∧ (s_Teacher_number K E s a b).2.2 = E := by
  have g1 := h.exp e
  have g2 := g1.adv
  subst ha hb
  unfold s_Teacher_number s_Tokens_sign s_Tokens_worth
  rw [g1.sn.1, if_pos (show (51 : Fin 54).val = 51 from rfl), g1.sn.2.1, hv, if_neg (fun w => absurd ((nI_ltI (by omega) (by omega)).mp w) (by omega)), if_pos (nI_le h2 h3)]
  exact ⟨rfl, g2, rfl⟩
theorem KR.new {p : TKN} {nm : Int64} {q : TKN} {t : List TKN} {K : TK} (h : KR (p :: (50, nm) :: q :: t) K) {E : TE} {N : NM} {m : Int32} {vm : Nat} (hm : m = nI vm) (hN : nm_sz N < vm) (hv : vm < 2 ^ 31) (hf : s_Names_find N nm = -1) : KR (q :: t) (s_Teacher_newName K E N m).1 ∧ (s_Teacher_newName K E N m).2.1 = E ∧ (s_Teacher_newName K E N m).2.2 = s_Names_add N nm := by
  have h1 := h.adv
  have h2 := h1.adv
  subst hm
  unfold s_Teacher_newName s_Tokens_sign s_Tokens_worth
  rw [h1.sn.1, if_pos (show (50 : Fin 54).val = 50 from rfl), h1.sn.2.1, hf, if_pos (by decide), if_pos ((nI_ltI (by omega) hv).mpr hN)]
  exact ⟨h2, rfl, rfl⟩
theorem KR.oldE {p : TKN} {nm : Int64} {q : TKN} {t : List TKN} {K : TK} (h : KR (p :: (50, nm) :: q :: t) K) {E : TE} {N : NM} {s : Fin 54} (e : p.1 = s) {j : Nat} (hj : j < 2 ^ 31) (hf : s_Names_find N nm = nI j) : ∃ K1, s_Teacher_oldName K E N s = (nI j, K1, E) ∧ KR (q :: t) K1 := by
  obtain ⟨a, b, c⟩ := h.old (E := E) e hj hf
  exact ⟨_, Prod.ext a (Prod.ext rfl c), b⟩
theorem KR.numE {p : TKN} {v : Int64} {q : TKN} {t : List TKN} {K : TK} (h : KR (p :: (51, v) :: q :: t) K) {E : TE} {s : Fin 54} (e : p.1 = s) {a b : Int32} {va vb n : Nat} (hv : v.toInt32 = nI n) (ha : a = nI va) (hb : b = nI vb) (h1 : va ≤ n) (h2 : n ≤ vb) (h3 : vb < 2 ^ 31) : ∃ K1, s_Teacher_number K E s a b = (nI n, K1, E) ∧ KR (q :: t) K1 := by
  obtain ⟨x, y, z⟩ := h.num (E := E) e hv ha hb h1 h2 h3
  exact ⟨_, Prod.ext x (Prod.ext rfl z), y⟩
theorem KR.newE {p : TKN} {nm : Int64} {q : TKN} {t : List TKN} {K : TK} (h : KR (p :: (50, nm) :: q :: t) K) {E : TE} {N : NM} {m : Int32} {vm : Nat} (hm : m = nI vm) (hN : nm_sz N < vm) (hv : vm < 2 ^ 31) (hf : s_Names_find N nm = -1) : ∃ K1, s_Teacher_newName K E N m = (K1, E, s_Names_add N nm) ∧ KR (q :: t) K1 := by
  obtain ⟨x, y, z⟩ := h.new (E := E) hm hN hv hf
  exact ⟨_, Prod.ext rfl (Prod.ext y z), x⟩
section Rw
variable {N0 N1 N2 N3 N4 : NM} {m x : Nat} {r r1 r2 r3 : List TKN} {c c1 c2 : CD9} {p q : TKN} {t : List TKN}
theorem Rd.ext {f g : RS → RS} (h : Rd f r r2 c) (e : ∀ K F E, g (K, F, E) = f (K, F, E)) : Rd g r r2 c := fun K F E n h1 h2 h3 => by
  rw [e]
  exact h K F E n h1 h2 h3
theorem Rd.code {f : RS → RS} (h : Rd f r r2 c) (e : c = c1) : Rd f r r2 c1 := e ▸ h

theorem rv_2 {w nm : Int64} {j : Nat} (hj : j < 2 ^ 31) (hf : s_Names_find N0 nm = nI j) : Rd (rd_ N0 N1 N2 N3 N4 (m + 1) 5 x 0) ((2, w) :: (50, nm) :: q :: t) (q :: t) [(2, nI j)] := by
  intro K F E n hK hF hn
  have hn : n + 1 ≤ 800 := hn
  have h1 : tk_sn K = 2 := hK.sn.1
  obtain ⟨K1, e1, k1⟩ := hK.oldE (E := E) (N := N0) (s := 2) rfl hj hf
  refine ⟨K1, s_Formulas_put F 2 (nI j), ?_, k1, FA.put hF (by omega)⟩
  show s_Teacher_readValue K F E N0 N1 N2 N3 N4 (rd_ N0 N1 N2 N3 N4 m) x = _
  unfold s_Teacher_readValue s_Tokens_sign
  rw [h1, if_neg (by decide), if_neg (by decide), if_neg (by decide), if_pos (by decide), e1]
theorem rv_23 {w nm : Int64} {j : Nat} (hj : j < 2 ^ 31) (hf : s_Names_find N1 nm = nI j) : Rd (rd_ N0 N1 N2 N3 N4 (m + 1) 5 x 0) ((23, w) :: (50, nm) :: q :: t) (q :: t) [(23, nI j)] := by
  intro K F E n hK hF hn
  have hn : n + 1 ≤ 800 := hn
  have h1 : tk_sn K = 23 := hK.sn.1
  obtain ⟨K1, e1, k1⟩ := hK.oldE (E := E) (N := N1) (s := 23) rfl hj hf
  refine ⟨K1, s_Formulas_put F 23 (nI j), ?_, k1, FA.put hF (by omega)⟩
  show s_Teacher_readValue K F E N0 N1 N2 N3 N4 (rd_ N0 N1 N2 N3 N4 m) x = _
  unfold s_Teacher_readValue s_Tokens_sign
  rw [h1, if_neg (by decide), if_neg (by decide), if_neg (by decide), if_neg (by decide), if_pos (by decide), e1]
theorem rv_8 {w nm : Int64} {j : Nat} (hj : j < 2 ^ 31) (hf : s_Names_find N2 nm = nI j) : Rd (rd_ N0 N1 N2 N3 N4 (m + 1) 5 x 0) ((8, w) :: (50, nm) :: q :: t) (q :: t) [(8, nI j)] := by
  intro K F E n hK hF hn
  have hn : n + 1 ≤ 800 := hn
  have h1 : tk_sn K = 8 := hK.sn.1
  obtain ⟨K1, e1, k1⟩ := hK.oldE (E := E) (N := N2) (s := 8) rfl hj hf
  refine ⟨K1, s_Formulas_put F 8 (nI j), ?_, k1, FA.put hF (by omega)⟩
  show s_Teacher_readValue K F E N0 N1 N2 N3 N4 (rd_ N0 N1 N2 N3 N4 m) x = _
  unfold s_Teacher_readValue s_Tokens_sign
  rw [h1, if_neg (by decide), if_neg (by decide), if_neg (by decide), if_neg (by decide), if_neg (by decide), if_pos (by decide), e1]
theorem rv_24 {w nm : Int64} {j : Nat} (hj : j < 2 ^ 31) (hf : s_Names_find N3 nm = nI j) : Rd (rd_ N0 N1 N2 N3 N4 (m + 1) 5 x 0) ((24, w) :: (50, nm) :: q :: t) (q :: t) [(24, nI j)] := by
  intro K F E n hK hF hn
  have hn : n + 1 ≤ 800 := hn
  have h1 : tk_sn K = 24 := hK.sn.1
  obtain ⟨K1, e1, k1⟩ := hK.oldE (E := E) (N := N3) (s := 24) rfl hj hf
  refine ⟨K1, s_Formulas_put F 24 (nI j), ?_, k1, FA.put hF (by omega)⟩
  show s_Teacher_readValue K F E N0 N1 N2 N3 N4 (rd_ N0 N1 N2 N3 N4 m) x = _
  unfold s_Teacher_readValue s_Tokens_sign
  rw [h1, if_neg (by decide), if_neg (by decide), if_neg (by decide), if_neg (by decide), if_neg (by decide), if_neg (by decide), if_pos (by decide), e1]
theorem rv_25 {w nm : Int64} {j : Nat} (hj : j < 2 ^ 31) (hf : s_Names_find N4 nm = nI j) : Rd (rd_ N0 N1 N2 N3 N4 (m + 1) 5 x 0) ((25, w) :: (50, nm) :: q :: t) (q :: t) [(25, nI j)] := by
  intro K F E n hK hF hn
  have hn : n + 1 ≤ 800 := hn
  have h1 : tk_sn K = 25 := hK.sn.1
  obtain ⟨K1, e1, k1⟩ := hK.oldE (E := E) (N := N4) (s := 25) rfl hj hf
  refine ⟨K1, s_Formulas_put F 25 (nI j), ?_, k1, FA.put hF (by omega)⟩
  show s_Teacher_readValue K F E N0 N1 N2 N3 N4 (rd_ N0 N1 N2 N3 N4 m) x = _
  unfold s_Teacher_readValue s_Tokens_sign
  rw [h1, if_neg (by decide), if_neg (by decide), if_neg (by decide), if_neg (by decide), if_neg (by decide), if_neg (by decide), if_neg (by decide), if_pos (by decide), e1]
theorem rv_26 {w nm : Int64} {j : Nat} (hj : j < 2 ^ 31) (hf : s_Names_find N4 nm = nI j) : Rd (rd_ N0 N1 N2 N3 N4 (m + 1) 5 x 0) ((26, w) :: (50, nm) :: q :: t) (q :: t) [(26, nI j)] := by
  intro K F E n hK hF hn
  have hn : n + 1 ≤ 800 := hn
  have h1 : tk_sn K = 26 := hK.sn.1
  obtain ⟨K1, e1, k1⟩ := hK.oldE (E := E) (N := N4) (s := 26) rfl hj hf
  refine ⟨K1, s_Formulas_put F 26 (nI j), ?_, k1, FA.put hF (by omega)⟩
  show s_Teacher_readValue K F E N0 N1 N2 N3 N4 (rd_ N0 N1 N2 N3 N4 m) x = _
  unfold s_Teacher_readValue s_Tokens_sign
  rw [h1, if_neg (by decide), if_neg (by decide), if_neg (by decide), if_neg (by decide), if_neg (by decide), if_neg (by decide), if_neg (by decide), if_neg (by decide), if_pos (by decide), e1]
theorem rv_13 {w : Int64} : Rd (rd_ N0 N1 N2 N3 N4 (m + 1) 5 x 0) ((13, w) :: q :: t) (q :: t) [(13, 0)] := by
  intro K F E n hK hF hn
  have hn : n + 1 ≤ 800 := hn
  have h1 : tk_sn K = 13 := hK.sn.1
  refine ⟨s_Tokens_advance K, s_Formulas_put F 13 0, ?_, hK.adv, FA.put hF (by omega)⟩
  show s_Teacher_readValue K F E N0 N1 N2 N3 N4 (rd_ N0 N1 N2 N3 N4 m) x = _
  unfold s_Teacher_readValue s_Tokens_sign
  rw [h1, if_pos (by decide)]
theorem rv_14 {w : Int64} : Rd (rd_ N0 N1 N2 N3 N4 (m + 1) 5 x 0) ((14, w) :: q :: t) (q :: t) [(14, 0)] := by
  intro K F E n hK hF hn
  have hn : n + 1 ≤ 800 := hn
  have h1 : tk_sn K = 14 := hK.sn.1
  refine ⟨s_Tokens_advance K, s_Formulas_put F 14 0, ?_, hK.adv, FA.put hF (by omega)⟩
  show s_Teacher_readValue K F E N0 N1 N2 N3 N4 (rd_ N0 N1 N2 N3 N4 m) x = _
  unfold s_Teacher_readValue s_Tokens_sign
  rw [h1, if_neg (by decide), if_neg (by decide), if_pos (by decide)]
theorem rv_51 {w : Int64} {v : Int32} (hw : w.toInt32 = v) : Rd (rd_ N0 N1 N2 N3 N4 (m + 1) 5 x 0) ((51, w) :: q :: t) (q :: t) [(51, v)] := by
  intro K F E n hK hF hn
  have hn : n + 1 ≤ 800 := hn
  have h1 : tk_sn K = 51 := hK.sn.1
  have h2 : tk_w K = w := hK.sn.2.1
  refine ⟨s_Tokens_advance K, s_Formulas_put F 51 v, ?_, hK.adv, FA.put hF (by omega)⟩
  show s_Teacher_readValue K F E N0 N1 N2 N3 N4 (rd_ N0 N1 N2 N3 N4 m) x = _
  unfold s_Teacher_readValue s_Tokens_sign s_Tokens_worth
  rw [h1, h2, hw, if_neg (by decide), if_pos (by decide)]
theorem rv_33 {w w1 w2 w3 : Int64} {q1 q2 q3 : TKN} {t1 t2 t3 : List TKN} (hx : x < 8) (h1 : Rd (rd_ N0 N1 N2 N3 N4 m 3 (x + 1) 0) (q1 :: t1) ((40, w2) :: q2 :: t2) c1) (h2 : Rd (rd_ N0 N1 N2 N3 N4 m 3 (x + 1) 0) (q2 :: t2) ((36, w3) :: q3 :: t3) c2) : Rd (rd_ N0 N1 N2 N3 N4 (m + 1 + 1) 5 x 0) ((33, w) :: (35, w1) :: q1 :: t1) (q3 :: t3) (c1 ++ (c2 ++ [(33, 0)])) := by
  intro K F E n hK hF hn
  rw [List.length_append, List.length_append, List.length_singleton] at hn
  have s1 : tk_sn K = 33 := hK.sn.1
  have k1 := hK.adv
  have s2 : tk_sn (s_Tokens_advance K) = 35 := k1.sn.1
  obtain ⟨d1, d2⟩ := k1.deep (E := E) hx
  obtain ⟨K2, F2, e2, k2, f2⟩ := h1 _ F E n d2 hF (by omega)
  obtain ⟨K3, F3, e3, k3, f3⟩ := h2 _ F2 E _ (k2.exp (s := 40) rfl) f2.sz (by omega)
  refine ⟨s_Tokens_expect K3 36, s_Formulas_put F3 33 0, ?_, k3.exp rfl, f2.tr (f3.tr (FA.put f3.sz (by omega)))⟩
  show s_Teacher_readValue K F E N0 N1 N2 N3 N4 (rd_ N0 N1 N2 N3 N4 (m + 1)) x = _
  unfold s_Teacher_readValue s_Tokens_sign
  rw [s1, if_neg (by decide), if_neg (by decide), if_neg (by decide), if_neg (by decide), if_neg (by decide), if_neg (by decide), if_neg (by decide), if_neg (by decide), if_neg (by decide)]
  have e9 : rd_ N0 N1 N2 N3 N4 (m + 1) 6 x 33 (K, F, E) = (s_Tokens_expect K3 36, s_Formulas_put F3 33 0, E) := by
    show s_Teacher_readNested K F E N0 N1 N2 N3 N4 (rd_ N0 N1 N2 N3 N4 m) 33 x = _
    unfold s_Teacher_readNested s_Tokens_sign
    rw [if_neg (by decide), if_neg (by decide), if_pos (by decide), s2, if_pos (by decide), d1, if_neg (by decide), e2]
    dsimp only
    rw [e3]
  rw [e9]
theorem rv_34 {w w1 w2 w3 : Int64} {q1 q2 q3 : TKN} {t1 t2 t3 : List TKN} (hx : x < 8) (h1 : Rd (rd_ N0 N1 N2 N3 N4 m 3 (x + 1) 0) (q1 :: t1) ((40, w2) :: q2 :: t2) c1) (h2 : Rd (rd_ N0 N1 N2 N3 N4 m 3 (x + 1) 0) (q2 :: t2) ((36, w3) :: q3 :: t3) c2) : Rd (rd_ N0 N1 N2 N3 N4 (m + 1 + 1) 5 x 0) ((34, w) :: (35, w1) :: q1 :: t1) (q3 :: t3) (c1 ++ (c2 ++ [(34, 0)])) := by
  intro K F E n hK hF hn
  rw [List.length_append, List.length_append, List.length_singleton] at hn
  have s1 : tk_sn K = 34 := hK.sn.1
  have k1 := hK.adv
  have s2 : tk_sn (s_Tokens_advance K) = 35 := k1.sn.1
  obtain ⟨d1, d2⟩ := k1.deep (E := E) hx
  obtain ⟨K2, F2, e2, k2, f2⟩ := h1 _ F E n d2 hF (by omega)
  obtain ⟨K3, F3, e3, k3, f3⟩ := h2 _ F2 E _ (k2.exp (s := 40) rfl) f2.sz (by omega)
  refine ⟨s_Tokens_expect K3 36, s_Formulas_put F3 34 0, ?_, k3.exp rfl, f2.tr (f3.tr (FA.put f3.sz (by omega)))⟩
  show s_Teacher_readValue K F E N0 N1 N2 N3 N4 (rd_ N0 N1 N2 N3 N4 (m + 1)) x = _
  unfold s_Teacher_readValue s_Tokens_sign
  rw [s1, if_neg (by decide), if_neg (by decide), if_neg (by decide), if_neg (by decide), if_neg (by decide), if_neg (by decide), if_neg (by decide), if_neg (by decide), if_neg (by decide)]
  have e9 : rd_ N0 N1 N2 N3 N4 (m + 1) 6 x 34 (K, F, E) = (s_Tokens_expect K3 36, s_Formulas_put F3 34 0, E) := by
    show s_Teacher_readNested K F E N0 N1 N2 N3 N4 (rd_ N0 N1 N2 N3 N4 m) 34 x = _
    unfold s_Teacher_readNested s_Tokens_sign
    rw [if_neg (by decide), if_neg (by decide), if_neg (by decide), if_pos (by decide), s2, if_pos (by decide), d1, if_neg (by decide), e2]
    dsimp only
    rw [e3]
  rw [e9]
theorem ite_val {a b : Fin 54} {α : Type} {y z : α} (h : ¬ a.val = b.val) : (if a.val = b.val then y else z) = z := if_neg h
def LpProduct (N0 N1 N2 N3 N4 : NM) (m x k : Nat) (r r2 : List TKN) (c : CD9) : Prop := ∀ (i : Nat) (K : TK) (F : FM) (E : TE) (n : Nat), KR r K → fm_sz F = nI n → n + c.length ≤ 800 → ∃ K2 F2, l_Teacher_readProduct_15 N0 N1 N2 N3 N4 (rd_ N0 N1 N2 N3 N4 m) x k i (tk_sn K) K F E = (K2, F2, E) ∧ KR r2 K2 ∧ FA n F F2 c
theorem lpProduct_stop {k : Nat} {s : Fin 54} {w : Int64} (hp : ¬ s.val = 43 ∧ ¬ s.val = 44) : LpProduct N0 N1 N2 N3 N4 m x k ((s, w) :: t) ((s, w) :: t) [] := by
  intro i K F E n hK hF hn
  refine ⟨K, F, ?_, hK, FA.rf hF⟩
  cases k with
  | zero => rfl
  | succ k =>
    unfold l_Teacher_readProduct_15
    rw [show tk_sn K = s from hK.sn.1, if_neg hp.1, if_neg hp.2]
theorem lpProduct_43 {k : Nat} {w : Int64} (h1 : Rd (rd_ N0 N1 N2 N3 N4 m 5 x 0) (q :: t) r2 c1) (h2 : LpProduct N0 N1 N2 N3 N4 m x k r2 r3 c2) : LpProduct N0 N1 N2 N3 N4 m x (k + 1) ((43, w) :: q :: t) r3 (c1 ++ ([(43, 0)] ++ c2)) := by
  intro i K F E n hK hF hn
  rw [List.length_append, List.length_append, List.length_singleton] at hn
  obtain ⟨K2, F2, e2, k2, f2⟩ := h1 _ F E n hK.adv hF (by omega)
  have f3 := FA.put (s := 43) (o := 0) f2.sz (by omega)
  obtain ⟨K3, F3, e3, k3, f4⟩ := h2 (i + 1) K2 _ E _ k2 f3.sz (by rw [List.length_singleton]; omega)
  refine ⟨K3, F3, ?_, k3, f2.tr (f3.tr f4)⟩
  unfold l_Teacher_readProduct_15
  simp only [s_Tokens_sign]
  rw [show tk_sn K = 43 from hK.sn.1, if_pos (by decide), e2]
  exact e3
theorem lpProduct_44 {k : Nat} {w : Int64} (h1 : Rd (rd_ N0 N1 N2 N3 N4 m 5 x 0) (q :: t) r2 c1) (h2 : LpProduct N0 N1 N2 N3 N4 m x k r2 r3 c2) : LpProduct N0 N1 N2 N3 N4 m x (k + 1) ((44, w) :: q :: t) r3 (c1 ++ ([(44, 0)] ++ c2)) := by
  intro i K F E n hK hF hn
  rw [List.length_append, List.length_append, List.length_singleton] at hn
  obtain ⟨K2, F2, e2, k2, f2⟩ := h1 _ F E n hK.adv hF (by omega)
  have f3 := FA.put (s := 44) (o := 0) f2.sz (by omega)
  obtain ⟨K3, F3, e3, k3, f4⟩ := h2 (i + 1) K2 _ E _ k2 f3.sz (by rw [List.length_singleton]; omega)
  refine ⟨K3, F3, ?_, k3, f2.tr (f3.tr f4)⟩
  unfold l_Teacher_readProduct_15
  simp only [s_Tokens_sign]
  rw [show tk_sn K = 44 from hK.sn.1, if_neg (by decide), if_pos (by decide), e2]
  exact e3
theorem rdProduct (h1 : Rd (rd_ N0 N1 N2 N3 N4 m 5 x 0) r r1 c1) (h2 : LpProduct N0 N1 N2 N3 N4 m x 400 r1 r2 c2) : Rd (rd_ N0 N1 N2 N3 N4 (m + 1) 4 x 0) r r2 (c1 ++ c2) := by
  intro K F E n hK hF hn
  rw [List.length_append] at hn
  obtain ⟨K2, F2, e2, k2, f2⟩ := h1 K F E n hK hF (by omega)
  obtain ⟨K3, F3, e3, k3, f3⟩ := h2 0 K2 F2 E _ k2 f2.sz (by omega)
  refine ⟨K3, F3, ?_, k3, f2.tr f3⟩
  show s_Teacher_readProduct K F E N0 N1 N2 N3 N4 (rd_ N0 N1 N2 N3 N4 m) x = _
  unfold s_Teacher_readProduct
  simp only [s_Tokens_sign, e2]
  exact e3
def LpSum (N0 N1 N2 N3 N4 : NM) (m x k : Nat) (r r2 : List TKN) (c : CD9) : Prop := ∀ (i : Nat) (K : TK) (F : FM) (E : TE) (n : Nat), KR r K → fm_sz F = nI n → n + c.length ≤ 800 → ∃ K2 F2, l_Teacher_readSum_15 N0 N1 N2 N3 N4 (rd_ N0 N1 N2 N3 N4 m) x k i (tk_sn K) K F E = (K2, F2, E) ∧ KR r2 K2 ∧ FA n F F2 c
theorem lpSum_stop {k : Nat} {s : Fin 54} {w : Int64} (hp : ¬ s.val = 41 ∧ ¬ s.val = 42) : LpSum N0 N1 N2 N3 N4 m x k ((s, w) :: t) ((s, w) :: t) [] := by
  intro i K F E n hK hF hn
  refine ⟨K, F, ?_, hK, FA.rf hF⟩
  cases k with
  | zero => rfl
  | succ k =>
    unfold l_Teacher_readSum_15
    rw [show tk_sn K = s from hK.sn.1, if_neg hp.1, if_neg hp.2]
theorem lpSum_41 {k : Nat} {w : Int64} (h1 : Rd (rd_ N0 N1 N2 N3 N4 m 4 x 0) (q :: t) r2 c1) (h2 : LpSum N0 N1 N2 N3 N4 m x k r2 r3 c2) : LpSum N0 N1 N2 N3 N4 m x (k + 1) ((41, w) :: q :: t) r3 (c1 ++ ([(41, 0)] ++ c2)) := by
  intro i K F E n hK hF hn
  rw [List.length_append, List.length_append, List.length_singleton] at hn
  obtain ⟨K2, F2, e2, k2, f2⟩ := h1 _ F E n hK.adv hF (by omega)
  have f3 := FA.put (s := 41) (o := 0) f2.sz (by omega)
  obtain ⟨K3, F3, e3, k3, f4⟩ := h2 (i + 1) K2 _ E _ k2 f3.sz (by rw [List.length_singleton]; omega)
  refine ⟨K3, F3, ?_, k3, f2.tr (f3.tr f4)⟩
  unfold l_Teacher_readSum_15
  simp only [s_Tokens_sign]
  rw [show tk_sn K = 41 from hK.sn.1, if_pos (by decide), e2]
  exact e3
theorem lpSum_42 {k : Nat} {w : Int64} (h1 : Rd (rd_ N0 N1 N2 N3 N4 m 4 x 0) (q :: t) r2 c1) (h2 : LpSum N0 N1 N2 N3 N4 m x k r2 r3 c2) : LpSum N0 N1 N2 N3 N4 m x (k + 1) ((42, w) :: q :: t) r3 (c1 ++ ([(42, 0)] ++ c2)) := by
  intro i K F E n hK hF hn
  rw [List.length_append, List.length_append, List.length_singleton] at hn
  obtain ⟨K2, F2, e2, k2, f2⟩ := h1 _ F E n hK.adv hF (by omega)
  have f3 := FA.put (s := 42) (o := 0) f2.sz (by omega)
  obtain ⟨K3, F3, e3, k3, f4⟩ := h2 (i + 1) K2 _ E _ k2 f3.sz (by rw [List.length_singleton]; omega)
  refine ⟨K3, F3, ?_, k3, f2.tr (f3.tr f4)⟩
  unfold l_Teacher_readSum_15
  simp only [s_Tokens_sign]
  rw [show tk_sn K = 42 from hK.sn.1, if_neg (by decide), if_pos (by decide), e2]
  exact e3
theorem rdSum (h1 : Rd (rd_ N0 N1 N2 N3 N4 m 4 x 0) r r1 c1) (h2 : LpSum N0 N1 N2 N3 N4 m x 400 r1 r2 c2) : Rd (rd_ N0 N1 N2 N3 N4 (m + 1) 3 x 0) r r2 (c1 ++ c2) := by
  intro K F E n hK hF hn
  rw [List.length_append] at hn
  obtain ⟨K2, F2, e2, k2, f2⟩ := h1 K F E n hK hF (by omega)
  obtain ⟨K3, F3, e3, k3, f3⟩ := h2 0 K2 F2 E _ k2 f2.sz (by omega)
  refine ⟨K3, F3, ?_, k3, f2.tr f3⟩
  show s_Teacher_readSum K F E N0 N1 N2 N3 N4 (rd_ N0 N1 N2 N3 N4 m) x = _
  unfold s_Teacher_readSum
  simp only [s_Tokens_sign, e2]
  exact e3
def LpBoth (N0 N1 N2 N3 N4 : NM) (m x k : Nat) (r r2 : List TKN) (c : CD9) : Prop := ∀ (i : Nat) (K : TK) (F : FM) (E : TE) (n : Nat), KR r K → fm_sz F = nI n → n + c.length ≤ 800 → ∃ K2 F2, l_Teacher_readBoth_7 N0 N1 N2 N3 N4 (rd_ N0 N1 N2 N3 N4 m) x k i K F E = (K2, F2, E) ∧ KR r2 K2 ∧ FA n F F2 c
theorem lpBoth_stop {k : Nat} {s : Fin 54} {w : Int64} (hp : ¬ s.val = 31) : LpBoth N0 N1 N2 N3 N4 m x k ((s, w) :: t) ((s, w) :: t) [] := by
  intro i K F E n hK hF hn
  refine ⟨K, F, ?_, hK, FA.rf hF⟩
  cases k with
  | zero => rfl
  | succ k =>
    unfold l_Teacher_readBoth_7 s_Tokens_sign
    rw [show tk_sn K = s from hK.sn.1, if_neg hp]
theorem lpBoth_31 {k : Nat} {w : Int64} (h1 : Rd (rd_ N0 N1 N2 N3 N4 m 2 x 0) (q :: t) r2 c1) (h2 : LpBoth N0 N1 N2 N3 N4 m x k r2 r3 c2) : LpBoth N0 N1 N2 N3 N4 m x (k + 1) ((31, w) :: q :: t) r3 (c1 ++ ([(31, 0)] ++ c2)) := by
  intro i K F E n hK hF hn
  rw [List.length_append, List.length_append, List.length_singleton] at hn
  obtain ⟨K2, F2, e2, k2, f2⟩ := h1 _ F E n hK.adv hF (by omega)
  have f3 := FA.put (s := 31) (o := 0) f2.sz (by omega)
  obtain ⟨K3, F3, e3, k3, f4⟩ := h2 (i + 1) K2 _ E _ k2 f3.sz (by rw [List.length_singleton]; omega)
  refine ⟨K3, F3, ?_, k3, f2.tr (f3.tr f4)⟩
  unfold l_Teacher_readBoth_7
  rw [show s_Tokens_sign K = 31 from hK.sn.1, if_pos (by decide), e2]
  exact e3
theorem rdBoth (h1 : Rd (rd_ N0 N1 N2 N3 N4 m 2 x 0) r r1 c1) (h2 : LpBoth N0 N1 N2 N3 N4 m x 400 r1 r2 c2) : Rd (rd_ N0 N1 N2 N3 N4 (m + 1) 1 x 0) r r2 (c1 ++ c2) := by
  intro K F E n hK hF hn
  rw [List.length_append] at hn
  obtain ⟨K2, F2, e2, k2, f2⟩ := h1 K F E n hK hF (by omega)
  obtain ⟨K3, F3, e3, k3, f3⟩ := h2 0 K2 F2 E _ k2 f2.sz (by omega)
  refine ⟨K3, F3, ?_, k3, f2.tr f3⟩
  show s_Teacher_readBoth K F E N0 N1 N2 N3 N4 (rd_ N0 N1 N2 N3 N4 m) x = _
  unfold s_Teacher_readBoth
  simp only [s_Tokens_sign, e2]
  exact e3
def LpTest (N0 N1 N2 N3 N4 : NM) (m x k : Nat) (r r2 : List TKN) (c : CD9) : Prop := ∀ (i : Nat) (K : TK) (F : FM) (E : TE) (n : Nat), KR r K → fm_sz F = nI n → n + c.length ≤ 800 → ∃ K2 F2, l_Teacher_readTest_7 N0 N1 N2 N3 N4 (rd_ N0 N1 N2 N3 N4 m) x k i K F E = (K2, F2, E) ∧ KR r2 K2 ∧ FA n F F2 c
theorem lpTest_stop {k : Nat} {s : Fin 54} {w : Int64} (hp : ¬ s.val = 32) : LpTest N0 N1 N2 N3 N4 m x k ((s, w) :: t) ((s, w) :: t) [] := by
  intro i K F E n hK hF hn
  refine ⟨K, F, ?_, hK, FA.rf hF⟩
  cases k with
  | zero => rfl
  | succ k =>
    unfold l_Teacher_readTest_7 s_Tokens_sign
    rw [show tk_sn K = s from hK.sn.1, if_neg hp]
theorem lpTest_32 {k : Nat} {w : Int64} (h1 : Rd (rd_ N0 N1 N2 N3 N4 m 1 x 0) (q :: t) r2 c1) (h2 : LpTest N0 N1 N2 N3 N4 m x k r2 r3 c2) : LpTest N0 N1 N2 N3 N4 m x (k + 1) ((32, w) :: q :: t) r3 (c1 ++ ([(32, 0)] ++ c2)) := by
  intro i K F E n hK hF hn
  rw [List.length_append, List.length_append, List.length_singleton] at hn
  obtain ⟨K2, F2, e2, k2, f2⟩ := h1 _ F E n hK.adv hF (by omega)
  have f3 := FA.put (s := 32) (o := 0) f2.sz (by omega)
  obtain ⟨K3, F3, e3, k3, f4⟩ := h2 (i + 1) K2 _ E _ k2 f3.sz (by rw [List.length_singleton]; omega)
  refine ⟨K3, F3, ?_, k3, f2.tr (f3.tr f4)⟩
  unfold l_Teacher_readTest_7
  rw [show s_Tokens_sign K = 32 from hK.sn.1, if_pos (by decide), e2]
  exact e3
theorem rdTest (h1 : Rd (rd_ N0 N1 N2 N3 N4 m 1 x 0) r r1 c1) (h2 : LpTest N0 N1 N2 N3 N4 m x 400 r1 r2 c2) : Rd (rd_ N0 N1 N2 N3 N4 (m + 1) 0 x 0) r r2 (c1 ++ c2) := by
  intro K F E n hK hF hn
  rw [List.length_append] at hn
  obtain ⟨K2, F2, e2, k2, f2⟩ := h1 K F E n hK hF (by omega)
  obtain ⟨K3, F3, e3, k3, f3⟩ := h2 0 K2 F2 E _ k2 f2.sz (by omega)
  refine ⟨K3, F3, ?_, k3, f2.tr f3⟩
  show s_Teacher_readTest K F E N0 N1 N2 N3 N4 (rd_ N0 N1 N2 N3 N4 m) x = _
  unfold s_Teacher_readTest
  simp only [s_Tokens_sign, e2]
  exact e3
theorem rs_not {w : Int64} (hx : x < 8) (h : Rd (rd_ N0 N1 N2 N3 N4 m 2 (x + 1) 0) (q :: t) r2 c) : Rd (rd_ N0 N1 N2 N3 N4 (m + 1) 2 x 0) ((30, w) :: q :: t) r2 (c ++ [(30, 0)]) := by
  intro K F E n hK hF hn
  rw [List.length_append, List.length_singleton] at hn
  obtain ⟨d1, d2⟩ := hK.deep (E := E) hx
  obtain ⟨K2, F2, e2, k2, f2⟩ := h _ F E n d2 hF (by omega)
  refine ⟨K2, s_Formulas_put F2 30 0, ?_, k2, f2.tr (FA.put f2.sz (by omega))⟩
  show s_Teacher_readSingle K F E N0 N1 N2 N3 N4 (rd_ N0 N1 N2 N3 N4 m) x = _
  unfold s_Teacher_readSingle s_Tokens_sign
  rw [show tk_sn K = 30 from hK.sn.1, if_pos (by decide), d1, if_neg (by decide), e2]
theorem rs_open {w w2 : Int64} {q2 : TKN} {t2 : List TKN} (hx : x < 8) (h : Rd (rd_ N0 N1 N2 N3 N4 m 0 (x + 1) 0) (q :: t) ((38, w2) :: q2 :: t2) c) : Rd (rd_ N0 N1 N2 N3 N4 (m + 1) 2 x 0) ((37, w) :: q :: t) (q2 :: t2) c := by
  intro K F E n hK hF hn
  obtain ⟨d1, d2⟩ := hK.deep (E := E) hx
  obtain ⟨K2, F2, e2, k2, f2⟩ := h _ F E n d2 hF (by omega)
  refine ⟨s_Tokens_expect K2 38, F2, ?_, k2.exp rfl, f2⟩
  show s_Teacher_readSingle K F E N0 N1 N2 N3 N4 (rd_ N0 N1 N2 N3 N4 m) x = _
  unfold s_Teacher_readSingle s_Tokens_sign
  rw [show tk_sn K = 37 from hK.sn.1, if_neg (by decide), if_pos (by decide), d1, if_neg (by decide), e2]
theorem rs_27 {w nm : Int64} {j : Nat} (hj : j < 2 ^ 31) (hf : s_Names_find N1 nm = nI j) : Rd (rd_ N0 N1 N2 N3 N4 (m + 1) 2 x 0) ((27, w) :: (50, nm) :: q :: t) (q :: t) [(27, nI j)] := by
  intro K F E n hK hF hn
  have hn : n + 1 ≤ 800 := hn
  have h1 : tk_sn K = 27 := hK.sn.1
  obtain ⟨K1, e1, k1⟩ := hK.oldE (E := E) (N := N1) (s := 27) rfl hj hf
  refine ⟨K1, s_Formulas_put F 27 (nI j), ?_, k1, FA.put hF (by omega)⟩
  show s_Teacher_readSingle K F E N0 N1 N2 N3 N4 (rd_ N0 N1 N2 N3 N4 m) x = _
  unfold s_Teacher_readSingle s_Tokens_sign
  rw [h1, if_neg (by decide), if_neg (by decide), if_pos (by decide), e1]
theorem rs_28 {w nm : Int64} {j : Nat} (hj : j < 2 ^ 31) (hf : s_Names_find N4 nm = nI j) : Rd (rd_ N0 N1 N2 N3 N4 (m + 1) 2 x 0) ((28, w) :: (50, nm) :: q :: t) (q :: t) [(28, nI j)] := by
  intro K F E n hK hF hn
  have hn : n + 1 ≤ 800 := hn
  have h1 : tk_sn K = 28 := hK.sn.1
  obtain ⟨K1, e1, k1⟩ := hK.oldE (E := E) (N := N4) (s := 28) rfl hj hf
  refine ⟨K1, s_Formulas_put F 28 (nI j), ?_, k1, FA.put hF (by omega)⟩
  show s_Teacher_readSingle K F E N0 N1 N2 N3 N4 (rd_ N0 N1 N2 N3 N4 m) x = _
  unfold s_Teacher_readSingle s_Tokens_sign
  rw [h1, if_neg (by decide), if_neg (by decide), if_neg (by decide), if_pos (by decide), e1]
theorem rs_29 {w nm : Int64} {j : Nat} (hj : j < 2 ^ 31) (hf : s_Names_find N2 nm = nI j) : Rd (rd_ N0 N1 N2 N3 N4 (m + 1) 2 x 0) ((29, w) :: (50, nm) :: q :: t) (q :: t) [(29, nI j)] := by
  intro K F E n hK hF hn
  have hn : n + 1 ≤ 800 := hn
  have h1 : tk_sn K = 29 := hK.sn.1
  obtain ⟨K1, e1, k1⟩ := hK.oldE (E := E) (N := N2) (s := 29) rfl hj hf
  refine ⟨K1, s_Formulas_put F 29 (nI j), ?_, k1, FA.put hF (by omega)⟩
  show s_Teacher_readSingle K F E N0 N1 N2 N3 N4 (rd_ N0 N1 N2 N3 N4 m) x = _
  unfold s_Teacher_readSingle s_Tokens_sign
  rw [h1, if_neg (by decide), if_neg (by decide), if_neg (by decide), if_neg (by decide), if_pos (by decide), e1]
theorem rs_cmp {s o : Fin 54} {w9 w : Int64} (hp : ¬ s.val = 30 ∧ ¬ s.val = 37 ∧ ¬ s.val = 27 ∧ ¬ s.val = 28 ∧ ¬ s.val = 29) (ho : s_Teacher_isComparison o = 1) (h1 : Rd (rd_ N0 N1 N2 N3 N4 m 3 x 0) ((s, w9) :: r1) ((o, w) :: q :: t) c1) (h2 : Rd (rd_ N0 N1 N2 N3 N4 m 3 x 0) (q :: t) r2 c2) : Rd (rd_ N0 N1 N2 N3 N4 (m + 1) 2 x 0) ((s, w9) :: r1) r2 (c1 ++ (c2 ++ [(o, 0)])) := by
  intro K F E n hK hF hn
  rw [List.length_append, List.length_append, List.length_singleton] at hn
  obtain ⟨K2, F2, e2, k2, f2⟩ := h1 K F E n hK hF (by omega)
  obtain ⟨K3, F3, e3, k3, f3⟩ := h2 _ F2 E _ k2.adv f2.sz (by omega)
  refine ⟨K3, s_Formulas_put F3 o 0, ?_, k3, f2.tr (f3.tr (FA.put f3.sz (by omega)))⟩
  show s_Teacher_readSingle K F E N0 N1 N2 N3 N4 (rd_ N0 N1 N2 N3 N4 m) x = _
  unfold s_Teacher_readSingle s_Tokens_sign
  rw [hK.sn.1, if_neg hp.1, if_neg hp.2.1, if_neg hp.2.2.1, if_neg hp.2.2.2.1, if_neg hp.2.2.2.2, e2]
  dsimp only
  rw [k2.sn.1, ho, if_neg (by decide), e3]
end Rw
