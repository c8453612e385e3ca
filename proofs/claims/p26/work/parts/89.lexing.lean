/-! the tokens of a text, as the class cuts them -/
abbrev TKN : Type := Fin 54 × Int64
/-- from p on the tape holds r, and no more -/
def Sfx (A : TA) (p : Nat) (r : List Int32) : Prop := p + r.length = ta_sz A ∧ ta_sz A ≤ 2000 ∧ ∀ j, j < r.length → ta_by A (p + j) = r.getD j 0
section Lx
variable {A : TA} {p : Nat} {r : List Int32}
theorem Sfx.at (h : Sfx A p r) : s_Tape_byteAt A (nI p) = r.headD (-1) := by
  obtain ⟨h1, h2, h3⟩ := h
  unfold s_Tape_byteAt
  rw [if_neg (nI_pos (show p < 2 ^ 31 by omega)), nI_clamp (show p < 2 ^ 31 by omega)]
  cases r with
  | nil =>
    rw [List.length_nil] at h1
    rw [if_pos (nI_le (show ta_sz A ≤ p by omega) (by omega))]
    rfl
  | cons c r =>
    rw [List.length_cons] at h1
    rw [if_neg (nI_ge (show p < ta_sz A by omega) (by omega)), if_neg (nI_ge (show p < 2000 by omega) (by omega))]
    exact h3 0 (by rw [List.length_cons]; omega)
theorem Sfx.tail {c : Int32} (h : Sfx A p (c :: r)) : Sfx A (p + 1) r := by
  obtain ⟨h1, h2, h3⟩ := h
  rw [List.length_cons] at h1 h3
  refine ⟨by omega, h2, fun j hj => ?_⟩
  have := h3 (j + 1) (by omega)
  rw [show p + 1 + j = p + (j + 1) by omega]
  exact this
theorem Sfx.app : ∀ {x : List Int32} {p : Nat}, Sfx A p (x ++ r) → Sfx A (p + x.length) r
  | [], p, h => h
  | c :: x, p, h => by
    have := Sfx.app (x := x) (p := p + 1) h.tail
    rw [List.length_cons, show p + (x.length + 1) = p + 1 + x.length by omega]
    exact this
theorem Sfx.get {x : List Int32} {q : List Int32} (h : Sfx A p (x ++ q)) {j : Nat} (hj : j < x.length) : s_Tape_byteAt A (nI (p + j)) = x.getD j 0 := by
  have e : x = x.take j ++ x.drop j := (List.take_append_drop j x).symm
  have hl : (x.take j).length = j := by rw [List.length_take]; omega
  rw [e, List.append_assoc] at h
  have h2 := h.app
  rw [hl] at h2
  rw [h2.at, List.getD_eq_getElem?_getD, List.getElem?_eq_getElem hj]
  rw [List.drop_eq_getElem_cons hj]
  rfl
abbrev isB (c : Int32) : Prop := c = 32 ∨ c = 10
theorem isB_no : ¬ isB (-1) := fun w => w.elim (fun h => absurd h (by decide)) (fun h => absurd h (by decide))
theorem past_stop {x1 k : Nat} (h : Sfx A p r) (hb : ¬ isB (r.headD (-1))) : l_Tokens_pastBlanks_2 A x1 k p = p := by
  cases k with
  | zero => rfl
  | succ k =>
    unfold l_Tokens_pastBlanks_2
    rw [h.at]
    by_cases c : nI (ta_sz A) ≤ nI p
    · rw [if_pos c]
    · rw [if_neg c, if_neg (fun w => hb (Or.inl w)), if_neg (fun w => hb (Or.inr w))]
theorem past_b {x1 : Nat} : ∀ (b : List Int32) (p k : Nat), Sfx A p (b ++ r) → (∀ c ∈ b, isB c) → ¬ isB (r.headD (-1)) → b.length ≤ k → l_Tokens_pastBlanks_2 A x1 k p = p + b.length
  | [], p, k, h, _, hr, _ => past_stop h hr
  | c :: b, p, k, h, hb, hr, hk => by
    rw [List.length_cons] at hk
    obtain ⟨k', rfl⟩ : ∃ k', k = k' + 1 := ⟨k - 1, by omega⟩
    have ih := past_b (x1 := x1) b (p + 1) k' h.tail (fun c hc => hb c (List.mem_cons_of_mem _ hc)) hr (by omega)
    have h0 := h.at
    have h1 := h.1
    have h2 := h.2.1
    rw [List.cons_append, List.length_cons] at h1
    unfold l_Tokens_pastBlanks_2
    rw [if_neg (nI_ge (show p < ta_sz A by omega) (by omega)), h0, ih, List.length_cons, show p + (b.length + 1) = p + 1 + b.length by omega]
    show (if c = 32 then _ else if c = 10 then _ else p) = _
    rcases hb c List.mem_cons_self with e | e
    · rw [if_pos e]
    · rw [e, if_neg (by decide), if_pos rfl]
theorem pastB_eq {b : List Int32} (h : Sfx A p (b ++ r)) (hb : ∀ c ∈ b, isB c) (hr : ¬ isB (r.headD (-1))) : s_Tokens_pastBlanks A p = p + b.length := by
  have h1 := h.1
  rw [List.length_append] at h1
  unfold s_Tokens_pastBlanks
  exact past_b b p _ h hb hr (by omega)
abbrev ltr (c : Int32) : Prop := ¬ s_Tokens_isLetter c = 0
abbrev dgt (c : Int32) : Prop := ¬ s_Tokens_isDigit c = 0
theorem end17 {x1 : Nat} {q : List Int32} (hq : ¬ (ltr (q.headD (-1)) ∨ dgt (q.headD (-1)))) : ∀ (y : List Int32) (p k : Nat), Sfx A p (y ++ q) → (∀ d ∈ y, ltr d ∨ dgt d) → y.length ≤ k → l_Tokens_tokenEnd_17 A x1 k p = p + y.length
  | [], p, k, h, _, _ => by
    have h0 : Sfx A p q := h
    cases k with
    | zero => rfl
    | succ k =>
      unfold l_Tokens_tokenEnd_17
      rw [h0.at]
      by_cases c : nI (ta_sz A) ≤ nI p
      · rw [if_pos c]
        rfl
      · rw [if_neg c, if_pos (Decidable.not_not.mp (fun w => hq (Or.inl w))), if_pos (Decidable.not_not.mp (fun w => hq (Or.inr w)))]
        rfl
  | d :: y, p, k, h, hy, hk => by
    rw [List.length_cons] at hk
    obtain ⟨k', rfl⟩ : ∃ k', k = k' + 1 := ⟨k - 1, by omega⟩
    have ih := end17 (x1 := x1) hq y (p + 1) k' h.tail (fun c hc => hy c (List.mem_cons_of_mem _ hc)) (by omega)
    have h0 : s_Tape_byteAt A (nI p) = d := h.at
    have h1 := h.1
    have h2 := h.2.1
    rw [List.cons_append, List.length_cons] at h1
    unfold l_Tokens_tokenEnd_17
    rw [if_neg (nI_ge (show p < ta_sz A by omega) (by omega)), h0, ih, List.length_cons, show p + (y.length + 1) = p + 1 + y.length by omega]
    by_cases c1 : s_Tokens_isLetter d = 0
    · rw [if_pos c1, if_neg ((hy d List.mem_cons_self).resolve_left (fun w => w c1))]
    · rw [if_neg c1]
theorem end60 {x1 : Nat} {q : List Int32} (hq : ¬ dgt (q.headD (-1))) : ∀ (y : List Int32) (p k : Nat), Sfx A p (y ++ q) → (∀ d ∈ y, dgt d) → y.length ≤ k → l_Tokens_tokenEnd_60 A x1 k p = p + y.length
  | [], p, k, h, _, _ => by
    have h0 : Sfx A p q := h
    cases k with
    | zero => rfl
    | succ k =>
      unfold l_Tokens_tokenEnd_60
      rw [h0.at]
      by_cases c : nI (ta_sz A) ≤ nI p
      · rw [if_pos c]
        rfl
      · rw [if_neg c, if_pos (Decidable.not_not.mp hq)]
        rfl
  | d :: y, p, k, h, hy, hk => by
    rw [List.length_cons] at hk
    obtain ⟨k', rfl⟩ : ∃ k', k = k' + 1 := ⟨k - 1, by omega⟩
    have ih := end60 (x1 := x1) hq y (p + 1) k' h.tail (fun c hc => hy c (List.mem_cons_of_mem _ hc)) (by omega)
    have h0 : s_Tape_byteAt A (nI p) = d := h.at
    have h1 := h.1
    have h2 := h.2.1
    rw [List.cons_append, List.length_cons] at h1
    unfold l_Tokens_tokenEnd_60
    rw [if_neg (nI_ge (show p < ta_sz A by omega) (by omega)), h0, ih, List.length_cons, show p + (y.length + 1) = p + 1 + y.length by omega, if_neg (hy d List.mem_cons_self)]
/-- the worth of digits, of a name -/
def numV (l : List Int32) (v : Int64) : Int64 := l.foldl (fun v d => ((v * 10) + d.toInt64) - 48) v
def namV (l : List Int32) (v : Int64) : Int64 := l.foldl (fun v d => if s_Tokens_isDigit d = 0 then (v * 37) + ((d - 97) + 1).toInt64 else (v * 37) + ((d - 48) + 27).toInt64) v
theorem num_go {x1 x2 : Nat} {q : List Int32} : ∀ (y : List Int32) (p : Nat) (v : Int64), Sfx A p (y ++ q) → l_Tokens_numberOf_5 A x1 x2 y.length p v = numV y v
  | [], _, _, _ => rfl
  | d :: y, p, v, h => by
    have h0 : s_Tape_byteAt A (nI p) = d := h.at
    rw [List.length_cons]
    unfold l_Tokens_numberOf_5
    rw [h0]
    exact num_go y (p + 1) _ h.tail
theorem nam_go {x1 x2 : Nat} {q : List Int32} : ∀ (y : List Int32) (p : Nat) (v : Int64), Sfx A p (y ++ q) → l_Tokens_nameOf_5 A x1 x2 y.length p v = namV y v
  | [], _, _, _ => rfl
  | d :: y, p, v, h => by
    have h0 : s_Tape_byteAt A (nI p) = d := h.at
    rw [List.length_cons]
    unfold l_Tokens_nameOf_5
    rw [h0]
    have ih := fun v => nam_go (x1 := x1) (x2 := x2) y (p + 1) v h.tail
    show _ = namV y (if s_Tokens_isDigit d = 0 then (v * 37) + ((d - 97) + 1).toInt64 else (v * 37) + ((d - 48) + 27).toInt64)
    by_cases c : s_Tokens_isDigit d = 0
    · rw [if_pos c, if_pos c, ih]
    · rw [if_neg c, if_neg c, ih]
abbrev ascX (t : List Int32) : Prop := ∀ j, j < t.length → chr t j = t.getD j 0
theorem asc_sgX : ∀ i, i < 54 → ascX (sgX i) := by decide +kernel
theorem len_sgX : ∀ i, i < 54 → (sgX i).length ≤ 10 := by decide +kernel
theorem rd_loop {x q : List Int32} (h : Sfx A p (x ++ q)) {x2 : Nat} {t : List Int32} (ht : ascX t) (hl : t.length = x.length) : ∀ k i, i + k = t.length → (l_Tokens_reads_15 A p x2 t k i = 1 ∧ ∀ j, i ≤ j → j < t.length → t.getD j 0 = x.getD j 0) ∨ (l_Tokens_reads_15 A p x2 t k i = 0 ∧ ¬ ∀ j, i ≤ j → j < t.length → t.getD j 0 = x.getD j 0)
  | 0, i, hi => Or.inl ⟨rfl, fun j h1 h2 => absurd h2 (by omega)⟩
  | k + 1, i, hi => by
    unfold l_Tokens_reads_15
    rw [ht i (by omega), h.get (j := i) (by omega)]
    by_cases e : t.getD i 0 = x.getD i 0
    · rw [if_pos e]
      rcases rd_loop h (x2 := x2) ht hl k (i + 1) (by omega) with ⟨r1, r2⟩ | ⟨r1, r2⟩
      · refine Or.inl ⟨r1, fun j a b => ?_⟩
        by_cases ej : j = i
        · rw [ej]
          exact e
        · exact r2 j (by omega) b
      · exact Or.inr ⟨r1, fun w => r2 fun j a b => w j (by omega) b⟩
    · rw [if_neg e]
      exact Or.inr ⟨rfl, fun w => e (w i (Nat.le_refl _) (by omega))⟩
theorem list_ext {t x : List Int32} (hl : t.length = x.length) (h : ∀ j, j < t.length → t.getD j 0 = x.getD j 0) : t = x := by
  apply List.ext_getElem hl
  intro j a b
  have h3 := h j a
  rw [show t.getD j 0 = t[j] by simp [List.getD_eq_getElem?_getD, a], show x.getD j 0 = x[j] by simp [List.getD_eq_getElem?_getD, b]] at h3
  exact h3
theorem rd_iff {x q : List Int32} (h : Sfx A p (x ++ q)) {t : List Int32} (ht : ascX t) (h10 : t.length ≤ 10) : s_Tokens_reads A p (p + x.length) t = if t = x then 1 else 0 := by
  have h1 := h.1
  have h2 := h.2.1
  rw [List.length_append] at h1
  unfold s_Tokens_reads
  rw [nI_sub (show p ≤ p + x.length by omega), Nat.add_sub_cancel_left]
  by_cases e : t.length = x.length
  · rw [if_pos (by rw [e])]
    rcases rd_loop h (x2 := p + x.length) ht e t.length 0 (by omega) with ⟨r1, r2⟩ | ⟨r1, r2⟩
    · rw [r1, if_pos (list_ext e fun j hj => r2 j (by omega) hj)]
    · rw [r1, if_neg]
      intro w
      exact r2 fun j _ _ => by rw [w]
  · rw [if_neg (fun w => e ((nI_eq (by omega) (by omega)).mp w)), if_neg (fun w => e (by rw [w]))]
def sgnX (wd : Int32) (x : List Int32) : Nat → Nat → Fin 54
  | 0, _ => if wd = 0 then 53 else 50
  | k + 1, i => if sgX i = x then fin54 i else sgnX wd x k (i + 1)
theorem f54v {i : Nat} (h : i < 54) : (fin54 i).val = i := Nat.mod_eq_of_lt h
theorem sgn_eq {x q : List Int32} (h : Sfx A p (x ++ q)) {wd : Int32} : ∀ k i, i + k = 54 → l_Tokens_signOf_67 A p (p + x.length) wd k i = sgnX wd x k i
  | 0, i, _ => rfl
  | k + 1, i, hi => by
    unfold l_Tokens_signOf_67 sgnX
    rw [f54v (show i < 54 by omega), rd_iff h (asc_sgX i (by omega)) (len_sgX i (by omega)), sgn_eq h k (i + 1) (by omega)]
    by_cases e : sgX i = x
    · rw [if_pos e, if_pos e, if_neg (by decide)]
    · rw [if_neg e, if_neg e, if_pos rfl]
/-- what must follow: 0 nothing, 1 no letter and no digit, 2 no = -/
def fo (e : Nat) (q : List Int32) : Prop := match e with
  | 0 => True
  | 1 => ¬ (ltr (q.headD (-1)) ∨ dgt (q.headD (-1)))
  | _ => ¬ q.headD (-1) = 61
/-- x, so followed, is a token -/
def TW (e : Nat) (x : List Int32) (s : Fin 54) (w : Int64) : Prop := (∃ c y, x = c :: y ∧ ¬ isB c) ∧ ∀ (A : TA) (p : Nat) (q : List Int32), Sfx A p (x ++ q) → fo e q → s_Tokens_tokenEnd A p = p + x.length ∧ s_Tokens_signOf A p (p + x.length) = s ∧ s_Tokens_worthOf A s p (p + x.length) = w
theorem tw_word {c : Int32} {y : List Int32} {s : Fin 54} {w : Int64} (hc : ltr c) (hy : ∀ d ∈ y, ltr d ∨ dgt d) (hl : y.length ≤ 9) (hs : sgnX 1 (c :: y) 54 0 = s) (hw : (if s.val = 51 then (0 : Int64) else if s.val = 50 then namV (c :: y) 0 else 0) = w) (h51 : ¬ s.val = 51) (hB : ¬ isB c) (hd : s_Tokens_isDigit c = 0) (h1 : s_Tokens_isLetter c = 1) : TW 1 (c :: y) s w := by
  refine ⟨⟨c, y, rfl, hB⟩, fun A p q h hf => ?_⟩
  have h0 : s_Tape_byteAt A (nI p) = c := h.at
  have g1 := h.1
  have g2 := h.2.1
  rw [List.length_append, List.length_cons] at g1
  refine ⟨?_, ?_, ?_⟩
  · unfold s_Tokens_tokenEnd
    rw [h0, if_neg hc]
    have := end17 (x1 := p) hf y (p + 1) (ta_sz A - (p + 1)) h.tail hy (by omega)
    rw [this, List.length_cons]
    omega
  · unfold s_Tokens_signOf
    rw [h0, if_pos hd, if_neg hc, nI_sub (show p ≤ p + (c :: y).length by omega), Nat.add_sub_cancel_left, if_pos (show nI (c :: y).length ≤ 10 from (nI_leI (b := 10) (by rw [List.length_cons]; omega) (by omega)).mpr (by rw [List.length_cons]; omega)), sgn_eq h 54 0 rfl, h1]
    exact hs
  · unfold s_Tokens_worthOf
    rw [if_neg h51] at hw
    rw [if_neg h51, ← hw]
    by_cases c50 : s.val = 50
    · rw [if_pos c50, if_pos c50]
      unfold s_Tokens_nameOf
      rw [Nat.add_sub_cancel_left]
      exact nam_go (c :: y) p 0 h
    · rw [if_neg c50, if_neg c50]
theorem tw_num {c : Int32} {y : List Int32} {w : Int64} (hl0 : s_Tokens_isLetter c = 0) (hc : dgt c) (hy : ∀ d ∈ y, dgt d) (hl : y.length ≤ 5) (hw : numV (c :: y) 0 = w) (hB : ¬ isB c) : TW 1 (c :: y) 51 w := by
  refine ⟨⟨c, y, rfl, hB⟩, fun A p q h hf => ?_⟩
  have h0 : s_Tape_byteAt A (nI p) = c := h.at
  have g1 := h.1
  have g2 := h.2.1
  rw [List.length_append, List.length_cons] at g1
  refine ⟨?_, ?_, ?_⟩
  · unfold s_Tokens_tokenEnd
    rw [h0, if_pos hl0, if_neg hc]
    have := end60 (x1 := p) (fun w => hf (Or.inr w)) y (p + 1) (ta_sz A - (p + 1)) h.tail hy (by omega)
    rw [this, List.length_cons]
    omega
  · unfold s_Tokens_signOf
    rw [h0, if_neg hc, nI_sub (show p ≤ p + (c :: y).length by omega), Nat.add_sub_cancel_left, if_neg (show ¬ 6 < nI (c :: y).length from fun w => absurd ((nI_ltI (a := 6) (b := (c :: y).length) (by omega) (by rw [List.length_cons]; omega)).mp w) (by rw [List.length_cons]; omega))]
  · unfold s_Tokens_worthOf
    rw [if_pos (show (51 : Fin 54).val = 51 from rfl), ← hw]
    unfold s_Tokens_numberOf
    rw [Nat.add_sub_cancel_left]
    exact num_go (c :: y) p 0 h
theorem tw_sym {c : Int32} {s : Fin 54} (hl : s_Tokens_isLetter c = 0) (hd : s_Tokens_isDigit c = 0) (h60 : ¬ c = 60) (h62 : ¬ c = 62) (hs : sgnX 0 [c] 54 0 = s) (h51 : ¬ s.val = 51) (h50 : ¬ s.val = 50) (hB : ¬ isB c) : TW 0 [c] s 0 := by
  refine ⟨⟨c, [], rfl, hB⟩, fun A p q h hf => ?_⟩
  have h0 : s_Tape_byteAt A (nI p) = c := h.at
  refine ⟨?_, ?_, ?_⟩
  · unfold s_Tokens_tokenEnd
    rw [h0, if_pos hl, if_pos hd, if_neg h60, if_neg h62]
    rfl
  · unfold s_Tokens_signOf
    rw [h0, if_pos hd, if_pos hl, sgn_eq h 54 0 rfl, hl]
    exact hs
  · unfold s_Tokens_worthOf
    rw [if_neg h51, if_neg h50]
theorem tw_lt {c : Int32} {s : Fin 54} (hl : s_Tokens_isLetter c = 0) (hd : s_Tokens_isDigit c = 0) (hs : sgnX 0 [c] 54 0 = s) (h51 : ¬ s.val = 51) (h50 : ¬ s.val = 50) (hB : ¬ isB c) : TW 2 [c] s 0 := by
  refine ⟨⟨c, [], rfl, hB⟩, fun A p q h hf => ?_⟩
  have h0 : s_Tape_byteAt A (nI p) = c := h.at
  have h9 : s_Tape_byteAt A (nI (p + 1)) = q.headD (-1) := h.tail.at
  have hf : ¬ q.headD (-1) = 61 := hf
  refine ⟨?_, ?_, ?_⟩
  · unfold s_Tokens_tokenEnd
    rw [h0, if_pos hl, if_pos hd, h9, if_neg hf, ite_self, ite_self]
    rfl
  · unfold s_Tokens_signOf
    rw [h0, if_pos hd, if_pos hl, sgn_eq h 54 0 rfl, hl]
    exact hs
  · unfold s_Tokens_worthOf
    rw [if_neg h51, if_neg h50]
theorem tw_le {c : Int32} {s : Fin 54} (hl : s_Tokens_isLetter c = 0) (hd : s_Tokens_isDigit c = 0) (h6 : c = 60 ∨ c = 62) (hs : sgnX 0 [c, 61] 54 0 = s) (h51 : ¬ s.val = 51) (h50 : ¬ s.val = 50) (hB : ¬ isB c) : TW 0 [c, 61] s 0 := by
  refine ⟨⟨c, [61], rfl, hB⟩, fun A p q h hf => ?_⟩
  have h0 : s_Tape_byteAt A (nI p) = c := h.at
  have h9 : s_Tape_byteAt A (nI (p + 1)) = 61 := h.tail.at
  refine ⟨?_, ?_, ?_⟩
  · unfold s_Tokens_tokenEnd
    rw [h0, if_pos hl, if_pos hd, h9, if_pos rfl]
    rcases h6 with e | e
    · rw [if_pos e]
      rfl
    · rw [e, if_neg (by decide), if_pos rfl]
      rfl
  · unfold s_Tokens_signOf
    rw [h0, if_pos hd, if_pos hl, sgn_eq h 54 0 rfl, hl]
    exact hs
  · unfold s_Tokens_worthOf
    rw [if_neg h51, if_neg h50]
/-- the text r, which begins with no blank, reads so -/
def Lx0 : List TKN → List Int32 → Prop
  | [], r => r = []
  | (s, w) :: l, r => ∃ (e : Nat) (x b q : List Int32), r = x ++ (b ++ q) ∧ TW e x s w ∧ fo e (b ++ q) ∧ (∀ c ∈ b, isB c) ∧ Lx0 l q
def Lx (l : List TKN) (t : List Int32) : Prop := ∃ b q, t = b ++ q ∧ (∀ c ∈ b, isB c) ∧ Lx0 l q
theorem lx_nil : Lx [] [] := ⟨[], [], rfl, fun c h => absurd h List.not_mem_nil, rfl⟩
theorem lx_b {l : List TKN} {t : List Int32} {c : Int32} (hc : isB c) (h : Lx l t) : Lx l (c :: t) := by
  obtain ⟨b, q, rfl, h2, h3⟩ := h
  exact ⟨c :: b, q, rfl, fun d hd => (List.mem_cons.mp hd).elim (fun e => e ▸ hc) (h2 d), h3⟩
theorem lx_t {l : List TKN} {t x : List Int32} {e : Nat} {s : Fin 54} {w : Int64} (hx : TW e x s w) (hf : fo e t) (h : Lx l t) : Lx ((s, w) :: l) (x ++ t) := by
  obtain ⟨b, q, rfl, h2, h3⟩ := h
  exact ⟨[], x ++ (b ++ q), rfl, fun c h => absurd h List.not_mem_nil, e, x, b, q, rfl, hx, hf, h2, h3⟩
theorem lx0_head : ∀ {l : List TKN} {q : List Int32}, Lx0 l q → ¬ isB (q.headD (-1))
  | [], q, h => by
    rw [show q = [] from h]
    exact isB_no
  | (s, w) :: l, q, ⟨e, x, b, q', h1, h2, _⟩ => by
    obtain ⟨⟨c, y, e1, e2⟩, -⟩ := h2
    rw [h1, e1]
    exact e2
/-- the tokens that are put down so far -/
def KT (K : TK) (L : List TKN) : Prop := tk_sz K = nI L.length ∧ L.length ≤ 401 ∧ ∀ j p, L[j]? = some p → tk_sg K j = some p.1 ∧ tk_wo K j = p.2
theorem KT.put {K : TK} {L : List TKN} (h : KT K L) (hl : L.length < 401) {s : Fin 54} {st : Int32} {w : Int64} : KT (s_Tokens_put K s st w) (L ++ [(s, w)]) := by
  obtain ⟨h1, h2, h3⟩ := h
  unfold s_Tokens_put
  rw [h1, if_neg (nI_pos (show L.length < 2 ^ 31 by omega)), if_neg (nI_ge (show L.length < 401 by omega) (by omega)), nI_clamp (show L.length < 2 ^ 31 by omega)]
  refine ⟨?_, by rw [List.length_append, List.length_singleton]; omega, fun j p hj => ?_⟩
  · rw [List.length_append, List.length_singleton]
    exact nI_1 _
  · show updS (tk_sg K) L.length s j = some p.1 ∧ vp_updL (tk_wo K) L.length w j = p.2
    unfold updS vp_updL
    by_cases e : j = L.length
    · rw [if_pos e, if_pos e]
      rw [e, List.getElem?_append_right (Nat.le_refl _), Nat.sub_self] at hj
      cases hj
      exact ⟨rfl, rfl⟩
    · rw [if_neg e, if_neg e]
      by_cases e2 : j < L.length
      · rw [List.getElem?_append_left e2] at hj
        exact h3 j p hj
      · rw [List.getElem?_eq_none (by rw [List.length_append, List.length_singleton]; omega)] at hj
        cases hj
theorem lex_loop : ∀ (l : List TKN) (r : List Int32) (p k i : Nat) (K : TK) (L : List TKN), Sfx A p r → Lx0 l r → KT K L → L.length + l.length ≤ 400 → l.length ≤ k → ∃ K2, l_Tokens_readFrom_13 A k i p K = (ta_sz A, K2) ∧ KT K2 (L ++ l)
  | [], r, p, k, i, K, L, h, hr, hK, _, _ => by
    have hr : r = [] := hr
    have h1 := h.1
    have h2 := h.2.1
    rw [hr, List.length_nil] at h1
    have e : p = ta_sz A := by omega
    refine ⟨K, ?_, by rw [List.append_nil]; exact hK⟩
    cases k with
    | zero => rw [e]; rfl
    | succ k =>
      unfold l_Tokens_readFrom_13
      rw [e, if_pos (nI_le (Nat.le_refl _) (by omega))]
  | (s, w) :: l, r, p, k, i, K, L, h, hr, hK, hn, hk => by
    obtain ⟨e, x, b, q, rfl, hx, hf, hb, hq⟩ := hr
    rw [List.length_cons] at hn hk
    obtain ⟨k', rfl⟩ : ∃ k', k = k' + 1 := ⟨k - 1, by omega⟩
    have h1 := h.1
    have h2 := h.2.1
    obtain ⟨⟨c, y, e1, -⟩, hx2⟩ := hx
    obtain ⟨t1, t2, t3⟩ := hx2 A p _ h hf
    have hl : 1 ≤ x.length := by rw [e1, List.length_cons]; omega
    rw [List.length_append] at h1
    unfold l_Tokens_readFrom_13
    rw [if_neg (nI_ge (show p < ta_sz A by omega) (by omega)), t1, t2, t3, pastB_eq h.app hb (lx0_head hq)]
    obtain ⟨K2, g1, g2⟩ := lex_loop l q (p + x.length + b.length) k' (i + 1) _ _ h.app.app hq (hK.put (s := s) (st := nI p) (w := w) (by omega)) (by rw [List.length_append, List.length_singleton]; omega) (by omega)
    exact ⟨K2, g1, by rw [List.append_assoc] at g2; exact g2⟩
/-- the class stands at the first of the tokens r -/
def KR (r : List TKN) (K : TK) : Prop := tk_br K = -1 ∧ (∃ s w t, r = (s, w) :: t ∧ tk_sn K = s ∧ tk_w K = w) ∧ ∃ i : Nat, tk_at K = nI i ∧ tk_sz K = nI (i + r.length) ∧ i + r.length ≤ 401 ∧ ∀ j p, r[j]? = some p → tk_sg K (i + j) = some p.1 ∧ tk_wo K (i + j) = p.2
theorem adv_go {K : TK} {L : List TKN} {i : Nat} {s : Fin 54} {w : Int64} (ha : tk_at K + 1 = nI i) (hi : i + L.length + 1 ≤ 401) (hz : tk_sz K = nI (i + L.length + 1)) (hs : tk_sg K i = some s) (hw : tk_wo K i = w) : tk_at (s_Tokens_advance K) = nI i ∧ tk_sn (s_Tokens_advance K) = s ∧ tk_w (s_Tokens_advance K) = w ∧ tk_br (s_Tokens_advance K) = tk_br K ∧ tk_sz (s_Tokens_advance K) = tk_sz K ∧ tk_sg (s_Tokens_advance K) = tk_sg K ∧ tk_wo (s_Tokens_advance K) = tk_wo K := by
  unfold s_Tokens_advance
  rw [ha, if_neg (nI_pos (show i < 2 ^ 31 by omega)), hz, if_neg (nI_ge (show i < i + L.length + 1 by omega) (by omega)), if_neg (nI_ge (show i < 401 by omega) (by omega)), nI_clamp (show i < 2 ^ 31 by omega), hs, if_neg (fun w => by cases w)]
  exact ⟨rfl, rfl, hw, rfl, hz, rfl, rfl⟩
theorem KR.adv {K : TK} {p q : TKN} {t : List TKN} (h : KR (p :: q :: t) K) : KR (q :: t) (s_Tokens_advance K) := by
  obtain ⟨h1, -, i, h3, h4, h5, h6⟩ := h
  rw [List.length_cons, List.length_cons] at h4 h5
  obtain ⟨g1, g2⟩ := h6 1 q rfl
  obtain ⟨a1, a2, a3, a4, a5, a6, a7⟩ := adv_go (K := K) (L := t) (i := i + 1) (s := q.1) (w := q.2) (by rw [h3]; exact nI_1 i) (by omega) (by rw [h4]; congr 1; omega) g1 g2
  refine ⟨a4.trans h1, ⟨q.1, q.2, t, rfl, a2, a3⟩, i + 1, a1, ?_, by rw [List.length_cons]; omega, fun j p' hj => ?_⟩
  · rw [a5, h4, List.length_cons]
    congr 1
    omega
  · rw [a6, a7, show i + 1 + j = i + (j + 1) by omega]
    exact h6 (j + 1) p' hj
theorem lex_all {t : List Int32} {l : List TKN} {K : TK} (h : Sfx A 0 t) (hl : Lx l t) (hn : l.length ≤ 400) : KR (l ++ [(52, 0)]) (s_Tokens_readFrom A K) := by
  obtain ⟨b, q, rfl, hb, hq⟩ := hl
  have h2 := h.2.1
  have e0 := pastB_eq h hb (lx0_head hq)
  obtain ⟨K2, g1, g2⟩ := lex_loop l q (0 + b.length) 400 0 (tk_sz' K 0) [] h.app hq ⟨rfl, by decide, fun j p hj => by cases hj⟩ (by rw [List.length_nil]; omega) hn
  rw [List.nil_append] at g2
  unfold s_Tokens_readFrom
  rw [e0, g1]
  dsimp only
  rw [if_pos (nI_le (Nat.le_refl _) (by omega))]
  have g3 := g2.put (s := 52) (st := nI (ta_sz A)) (w := 0) (by omega)
  generalize s_Tokens_put K2 52 (nI (ta_sz A)) 0 = K3 at g3
  obtain ⟨k1, k2, k3⟩ := g3
  obtain ⟨p, L, eL⟩ : ∃ p L, l ++ [((52 : Fin 54), (0 : Int64))] = p :: L := by
    cases l with
    | nil => exact ⟨_, _, rfl⟩
    | cons a l => exact ⟨_, _, rfl⟩
  rw [eL] at k1 k2 k3 ⊢
  rw [List.length_cons] at k1 k2
  obtain ⟨s1, s2⟩ := k3 0 p rfl
  obtain ⟨a1, a2, a3, a4, a5, a6, a7⟩ := adv_go (K := tk_br' (tk_at' K3 (-1)) (-1)) (L := L) (i := 0) (s := p.1) (w := p.2) (show (-1 : Int32) + 1 = nI 0 by decide) (by omega) (by rw [Nat.zero_add]; exact k1) s1 s2
  refine ⟨a4, ⟨p.1, p.2, L, rfl, a2, a3⟩, 0, a1, ?_, by rw [List.length_cons]; omega, fun j p' hj => ?_⟩
  · rw [a5, List.length_cons, Nat.zero_add]
    exact k1
  · rw [a6, a7, Nat.zero_add]
    exact k3 j p' hj
end Lx
