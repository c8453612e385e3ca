/-! a token's kind: the class's sign, the reference's number -/
def kOf (g : Fin 54) : Int32 := if g.val < 35 then nI g.val else if g.val < 50 then nI (g.val + 5) else if g.val = 50 then 36 else if g.val = 51 then 37 else if g.val = 52 then 70 else 71
def bm (M : MO) (f n : Nat) : List Int32 := (List.range n).map fun j => mo_ta M (f + j)
theorem bm_len {M : MO} {f n : Nat} : (bm M f n).length = n := by simp [bm]
theorem bm_get {M : MO} {f n j : Nat} (h : j < n) : (bm M f n).getD j 0 = mo_ta M (f + j) := by
  simp [bm, List.getD_eq_getElem?_getD, h]
theorem bm_eq {M : MO} {f n : Nat} {t : List Int32} : t = bm M f n ↔ t.length = n ∧ ∀ j, j < n → t.getD j 0 = mo_ta M (f + j) := by
  constructor
  · rintro rfl
    exact ⟨bm_len, fun j h => bm_get h⟩
  · rintro ⟨h1, h2⟩
    apply List.ext_getElem (by rw [bm_len, h1])
    intro j a b
    have h3 := h2 j (by omega)
    rw [show t.getD j 0 = t[j] by simp [List.getD_eq_getElem?_getD, a]] at h3
    rw [h3]
    simp [bm]
/-- plain signs alone -/
def asc (t : List Int32) : Prop := ∀ j, j < t.length → (t.getD j 0).toNatClampNeg < 128 ∧ t.getD j 0 = nI (t.getD j 0).toNatClampNeg ∧ chr t j = t.getD j 0
instance (t : List Int32) : Decidable (asc t) := by unfold asc; exact inferInstance
theorem asc_sg : ∀ i, i < 54 → asc (sgX i) := by decide +kernel
theorem asc_wd : ∀ i, i < 35 → asc (wdX i) := by decide +kernel
theorem sg_wd : ∀ i, i < 35 → sgX i = wdX i := by decide +kernel
theorem sg_hi : ∀ i, i < 54 → 35 ≤ i → sgX i = [] ∨ s_Model_isLetter ((sgX i).getD 0 0) = 0 := by decide +kernel
theorem f54 {i : Nat} (h : i < 54) : (fin54 i).val = i := Nat.mod_eq_of_lt h
theorem reads_loop {A : TA} {P : CP} {M : MO} (hT : RT A P M) (H : SH) {x1 x2 : Nat} {t : List Int32} (ht : asc t) (hb : x1 + t.length ≤ mo_sz M) : ∀ k i, i + k = t.length → (l_Tokens_reads_15 A x1 x2 t k i = 1 ∧ ∀ j, i ≤ j → j < t.length → t.getD j 0 = mo_ta M (x1 + j)) ∨ (l_Tokens_reads_15 A x1 x2 t k i = 0 ∧ ¬ ∀ j, i ≤ j → j < t.length → t.getD j 0 = mo_ta M (x1 + j)) := by
  have h2000 := hT.2.1
  intro k
  induction k with
  | zero =>
    intro i hi
    exact .inl ⟨rfl, fun j h1 h2 => absurd h2 (by omega)⟩
  | succ k ih =>
    intro i hi
    obtain ⟨c1, c2, c3⟩ := ht i (by omega)
    rw [l_Tokens_reads_15, c3]
    rcases bt hT H (x1 + i) (by omega) with ⟨h, -, -⟩ | ⟨-, u, hu, h1, -, h3⟩
    · omega
    have e := eqc_u u hu _ c1
    rw [← c2, ← h3, ← h1] at e
    by_cases hq : t.getD i 0 = s_Tape_byteAt A (nI (x1 + i))
    · rw [if_pos hq]
      have hq2 : t.getD i 0 = mo_ta M (x1 + i) := (e.mp hq.symm).symm
      rcases ih (i + 1) (by omega) with ⟨r1, r2⟩ | ⟨r1, r2⟩
      · refine .inl ⟨r1, fun j a b => ?_⟩
        by_cases ej : j = i
        · rw [ej]; exact hq2
        · exact r2 j (by omega) b
      · exact .inr ⟨r1, fun w => r2 fun j a b => w j (by omega) b⟩
    · rw [if_neg hq]
      exact .inr ⟨rfl, fun w => hq (e.mpr (w i (Nat.le_refl _) (by omega)).symm).symm⟩
theorem reads_iff {A : TA} {P : CP} {M : MO} (hT : RT A P M) (H : SH) {x1 x2 : Nat} {t : List Int32} (ht : asc t) (h12 : x1 ≤ x2) (hb : x2 ≤ mo_sz M) (hl : t.length ≤ 1000) : s_Tokens_reads A x1 x2 t = (if t = bm M x1 (x2 - x1) then 1 else 0) := by
  have h2000 := hT.2.1
  unfold s_Tokens_reads
  rw [nI_subn h12]
  by_cases e : t.length = x2 - x1
  · rw [if_pos (by rw [e])]
    rcases reads_loop (x1 := x1) (x2 := x2) hT H ht (by omega) t.length 0 (by omega) with ⟨r1, r2⟩ | ⟨r1, r2⟩
    · rw [r1, if_pos (bm_eq.mpr ⟨e, fun j h => r2 j (by omega) (by omega)⟩)]
    · rw [r1, if_neg (fun hq => r2 fun j _ h => (bm_eq.mp hq).2 j (by omega))]
  · rw [if_neg (fun w => e ((nI_eq (by omega) (by omega)).mp w)), if_neg (fun w => e (bm_eq.mp w).1)]
def sgnF (wd : Int32) (bs : List Int32) : Nat → Nat → Fin 54
  | 0, _ => if wd = 0 then 53 else 50
  | k + 1, i => if sgX (fin54 i).val = bs then fin54 i else sgnF wd bs k (i + 1)
def wrdF (bs : List Int32) : Nat → Nat → Int32
  | 0, _ => 36
  | k + 1, i => if wdX i = bs then nI i else wrdF bs k (i + 1)
theorem sg_len : ∀ i, i < 54 → (sgX i).length ≤ 1000 := by decide +kernel
theorem wd_len : ∀ i, i < 35 → (wdX i).length ≤ 9 := by decide +kernel
theorem signs_eq {A : TA} {P : CP} {M : MO} (hT : RT A P M) (H : SH) {x1 x2 : Nat} {wd : Int32} (h12 : x1 ≤ x2) (hb : x2 ≤ mo_sz M) : ∀ k i, i + k = 54 → l_Tokens_signOf_67 A x1 x2 wd k i = sgnF wd (bm M x1 (x2 - x1)) k i := by
  intro k
  induction k with
  | zero => intro i _; rfl
  | succ k ih =>
    intro i hi
    rw [l_Tokens_signOf_67, sgnF, f54 (by omega), reads_iff hT H (asc_sg i (by omega)) h12 hb (sg_len i (by omega)), ih (i + 1) (by omega)]
    by_cases e : sgX i = bm M x1 (x2 - x1)
    · rw [if_pos e, if_pos e, if_neg (by decide)]
    · rw [if_neg e, if_neg e, if_pos rfl]
theorem word_loop {M : MO} {H : SH} {x1 n w : Nat} (hw : w < 35) (hb : x1 + n ≤ 2000) (hn : n ≤ 10) : ∀ k s, s + k = 12 → s ≤ n → s ≤ (wdX w).length → (∀ j, j < s → (wdX w).getD j 0 = mo_ta M (x1 + j)) → ∃ q, l_Model_wordAt_13 M H x1 n w k s = some q ∧ q ≤ 12 ∧ ((q = n ∧ q = (wdX w).length) ↔ wdX w = bm M x1 n) := by
  have hl := wd_len w hw
  have ha := asc_wd w hw
  intro k
  induction k with
  | zero => intro s h1 h2 h3; omega
  | succ k ih =>
    intro s h1 h2 h3 h4
    rw [l_Model_wordAt_13]
    by_cases e1 : n ≤ s
    · rw [if_pos (nI_le e1 (by omega))]
      refine ⟨s, rfl, by omega, ⟨fun w => bm_eq.mpr ⟨by omega, fun j hj => h4 j (by omega)⟩, fun w => ⟨by omega, ?_⟩⟩⟩
      have := (bm_eq.mp w).1
      omega
    · rw [if_neg (fun w => e1 ((nI_leI (by omega) (by omega)).mp w)), if_pos hw]
      by_cases e2 : (wdX w).length ≤ s
      · rw [if_pos (nI_le e2 (by omega))]
        refine ⟨s, rfl, by omega, ⟨fun w => absurd w.1 (by omega), fun w => ?_⟩⟩
        have := (bm_eq.mp w).1
        omega
      · rw [if_neg (fun w => e2 ((nI_leI (by omega) (by omega)).mp w)), if_pos hw, if_pos (by omega), if_pos (by omega), (ha s (by omega)).2.2]
        by_cases e3 : (wdX w).getD s 0 = mo_ta M (x1 + s)
        · rw [if_pos e3]
          refine ih (s + 1) (by omega) (by omega) (by omega) fun j hj => ?_
          by_cases e : j = s
          · rw [e]; exact e3
          · exact h4 j (by omega)
        · rw [if_neg e3]
          exact ⟨s, rfl, by omega, ⟨fun w => absurd w.1 (by omega), fun w => absurd ((bm_eq.mp w).2 s (by omega)) e3⟩⟩
theorem word_eq {M : MO} {H : SH} {x1 n : Nat} (hb : x1 + n ≤ 2000) (hn : n ≤ 10) : ∀ k w, w + k = 35 → l_Model_wordAt_2 M H x1 n (k + 1) w = some (wrdF (bm M x1 n) k w) := by
  intro k
  induction k with
  | zero =>
    intro w h
    rw [l_Model_wordAt_2, if_pos (nI_le (by omega) (by omega))]
    rfl
  | succ k ih =>
    intro w h
    have hw : w < 35 := by omega
    have hl := wd_len w hw
    rw [l_Model_wordAt_2, if_neg (fun w => absurd ((nI_leI (by omega) (by omega)).mp w) (by omega)), wrdF]
    obtain ⟨q, q1, q2, q3⟩ := word_loop (M := M) (H := H) hw hb hn 12 0 rfl (by omega) (by omega) (fun j hj => absurd hj (by omega))
    rw [q1]
    show (if nI q = nI n then (if w < 35 then (if nI q = nI (wdX w).length then some (nI w) else l_Model_wordAt_2 M H x1 n (k + 1) (w + 1)) else none) else l_Model_wordAt_2 M H x1 n (k + 1) (w + 1)) = _
    rw [if_pos hw, ih (w + 1) (by omega)]
    by_cases e : wdX w = bm M x1 n
    · obtain ⟨r1, r2⟩ := q3.mpr e
      rw [if_pos e, if_pos (by rw [r1]), if_pos (by rw [r2])]
    · rw [if_neg e]
      by_cases e1 : nI q = nI n
      · rw [if_pos e1, if_neg]
        exact fun w => e (q3.mp ⟨(nI_eq (by omega) (by omega)).mp e1, (nI_eq (by omega) (by omega)).mp w⟩)
      · rw [if_neg e1]
theorem kOf_lo : ∀ i, i < 35 → kOf (fin54 i) = nI i := by decide +kernel
theorem sgn_hi {bs : List Int32} (h0 : ¬ bs = []) (hl : ¬ s_Model_isLetter (bs.getD 0 0) = 0) : ∀ k i, i + k = 54 → 35 ≤ i → sgnF 1 bs k i = 50 := by
  intro k
  induction k with
  | zero => intro i _ _; rfl
  | succ k ih =>
    intro i h1 h2
    rw [sgnF, f54 (by omega), if_neg, ih (i + 1) (by omega) (by omega)]
    intro w
    rcases sg_hi i (by omega) h2 with h | h
    · exact h0 (w ▸ h)
    · exact hl (w ▸ h)
theorem sgn_lo {bs : List Int32} (h0 : ¬ bs = []) (hl : ¬ s_Model_isLetter (bs.getD 0 0) = 0) : ∀ k i, i + k = 35 → kOf (sgnF 1 bs (k + 19) i) = wrdF bs k i := by
  intro k
  induction k with
  | zero =>
    intro i h
    rw [sgn_hi h0 hl 19 i (by omega) (by omega)]
    rfl
  | succ k ih =>
    intro i h
    rw [show k + 1 + 19 = (k + 19) + 1 by omega, sgnF, wrdF, f54 (by omega), sg_wd i (by omega)]
    by_cases e : wdX i = bs
    · rw [if_pos e, if_pos e, kOf_lo i (by omega)]
    · rw [if_neg e, if_neg e, ih (i + 1) (by omega)]
theorem one_sign : ∀ u, u < 256 → s_Model_isLetter (nI u) = 0 → s_Model_isDigit (nI u) = 0 → (if 0 ≤ ixS snX (nI u) then some (40 + ixS snX (nI u)) else some (71 : Int32)) = some (kOf (sgnF 0 [nI u] 54 0)) := by decide +kernel
theorem two_sign : kOf (sgnF 0 [60, 61] 54 0) = 53 ∧ kOf (sgnF 0 [62, 61] 54 0) = 54 := by decide +kernel
theorem u_ne : ∀ u, u < 256 → ¬ nI u = -1 := by decide +kernel
theorem bm1 {M : MO} {f : Nat} : bm M f 1 = [mo_ta M f] := rfl
theorem bm2 {M : MO} {f : Nat} : bm M f 2 = [mo_ta M f, mo_ta M (f + 1)] := rfl
theorem let01 (x : Int32) : s_Model_isLetter x = 0 ∨ s_Model_isLetter x = 1 := by
  unfold s_Model_isLetter
  split
  · exact .inl rfl
  · split
    · exact .inl rfl
    · exact .inr rfl
theorem kind_eq {A : TA} {P : CP} {M : MO} (hT : RT A P M) (H : SH) {f : Nat} (hf : f < mo_sz M) : s_Model_kindAt M H f (s_Tokens_tokenEnd A f - f) = some (kOf (s_Tokens_signOf A f (s_Tokens_tokenEnd A f))) := by
  have h2000 := hT.2.1
  obtain ⟨-, t1, t2, t3, t4, t5⟩ := tok_end hT H hf
  generalize s_Tokens_tokenEnd A f = e at t1 t2 t3 t4 t5 ⊢
  rcases bt hT H f (by omega) with ⟨h, -, -⟩ | ⟨-, u, hu, u1, u2, u3⟩
  · omega
  unfold s_Model_kindAt s_Tokens_signOf
  rw [if_pos (by omega), u2, if_neg (u_ne u hu), u3, dig_u u hu, let_u u hu]
  rw [u2] at t3 t4 t5
  by_cases hd : s_Model_isDigit (nI u) = 0
  · rw [if_pos hd, if_pos hd]
    by_cases hl : s_Model_isLetter (nI u) = 0
    · rw [if_pos hl, if_pos hl, hl, signs_eq hT H (by omega) t2 54 0 rfl]
      rcases t5 hl hd with h | ⟨h, h60, h61⟩
      · rw [h, show f + 1 - f = 1 by omega, bm1, u1, if_neg (by decide)]
        exact one_sign u hu hl hd
      · rw [h, show f + 2 - f = 2 by omega, bm2, if_pos (c := nI 2 = 2) rfl, u1]
        rcases bt hT H (f + 1) (by omega) with ⟨-, -, g⟩ | ⟨-, u', hu', v1, v2, v3⟩
        · rw [g] at h61; exact absurd h61 (by decide)
        · rw [v2] at h61
          rw [v1, h61]
          rcases h60 with g | g
          · rw [g, if_pos rfl, two_sign.1]
          · rw [g, if_neg (by decide), two_sign.2]
    · have i10a : nI (e - f) ≤ 10 ↔ e - f ≤ 10 := nI_leI (b := 10) (by omega) (by omega)
      rw [if_neg hl, if_neg hl, nI_subn (by omega)]
      have hl1 : s_Model_isLetter (nI u) = 1 := (let01 _).resolve_left hl
      by_cases h10 : e - f ≤ 10
      · rw [if_pos (i10a.mpr h10), if_pos (by omega), if_pos (i10a.mpr h10), signs_eq hT H (by omega) t2 54 0 rfl, hl1]
        unfold s_Model_wordAt
        rw [word_eq (by omega) h10 35 0 rfl, ← sgn_lo _ _ 35 0 rfl]
        · rfl
        · intro w
          have := congrArg List.length w
          rw [bm_len] at this
          simp at this
          omega
        · rw [bm_get (by omega), Nat.add_zero, u1]
          exact hl
      · rw [if_neg (fun w => h10 (i10a.mp w)), if_neg (fun w => h10 (i10a.mp w))]
        rfl
  · have i6a : nI (e - f) ≤ 6 ↔ e - f ≤ 6 := nI_leI (b := 6) (by omega) (by omega)
    have i6b : 6 < nI (e - f) ↔ 6 < e - f := nI_ltI (a := 6) (by omega) (by omega)
    rw [if_neg hd, if_neg hd, nI_subn (by omega)]
    by_cases h6 : e - f ≤ 6
    · rw [if_pos (i6a.mpr h6), if_neg (fun w => absurd (i6b.mp w) (by omega))]
      rfl
    · rw [if_neg (fun w => h6 (i6a.mp w)), if_pos (i6b.mpr (by omega))]
      rfl
