/-! the tape's bytes: as the class and as the reference sees them -/
/-- a byte as the class has it -/
def cB (u : Nat) : Int32 := (nI u).toInt8.toInt32
theorem bt {A : TA} {P : CP} {M : MO} (hT : RT A P M) (H : SH) (i : Nat) (hi : i < 2 ^ 31) : (mo_sz M ≤ i ∧ s_Tape_byteAt A (nI i) = -1 ∧ s_Model_byteAt M H i = -1) ∨ (i < mo_sz M ∧ ∃ u, u < 256 ∧ mo_ta M i = nI u ∧ s_Model_byteAt M H i = nI u ∧ s_Tape_byteAt A (nI i) = cB u) := by
  obtain ⟨t1, t2, -, t3⟩ := hT
  unfold s_Tape_byteAt s_Model_byteAt
  rw [if_neg (nI_pos hi), t1, nI_clamp hi]
  by_cases h : mo_sz M ≤ i
  · rw [if_pos (nI_le h hi), if_pos (nI_le h hi)]
    exact .inl ⟨h, rfl, rfl⟩
  · obtain ⟨⟨u, u1, -, u2⟩, t4⟩ := t3 i (by omega)
    rw [if_neg (fun w => h ((nI_leI (by omega) (by omega)).mp w)), if_neg (fun w => h ((nI_leI (by omega) (by omega)).mp w)), if_neg (fun w => absurd ((nI_leI (a := 2000) (by omega) (by omega)).mp w) (by omega))]
    refine .inr ⟨by omega, u, by omega, u1, u1, ?_⟩
    rw [t4, u1]
    rfl
theorem let_u : ∀ u, u < 256 → s_Tokens_isLetter (cB u) = s_Model_isLetter (nI u) := by decide +kernel
theorem dig_u : ∀ u, u < 256 → s_Tokens_isDigit (cB u) = s_Model_isDigit (nI u) := by decide +kernel
theorem eqc_u : ∀ u, u < 256 → ∀ c, c < 128 → (cB u = nI c ↔ nI u = nI c) := by decide +kernel
theorem let_eq {A : TA} {P : CP} {M : MO} (hT : RT A P M) (H : SH) {i : Nat} (hi : i < 2 ^ 31) : s_Tokens_isLetter (s_Tape_byteAt A (nI i)) = s_Model_isLetter (s_Model_byteAt M H i) := by
  rcases bt hT H i hi with ⟨-, h1, h2⟩ | ⟨-, u, hu, -, h1, h2⟩
  · rw [h1, h2]; rfl
  · rw [h1, h2, let_u u hu]
theorem dig_eq {A : TA} {P : CP} {M : MO} (hT : RT A P M) (H : SH) {i : Nat} (hi : i < 2 ^ 31) : s_Tokens_isDigit (s_Tape_byteAt A (nI i)) = s_Model_isDigit (s_Model_byteAt M H i) := by
  rcases bt hT H i hi with ⟨-, h1, h2⟩ | ⟨-, u, hu, -, h1, h2⟩
  · rw [h1, h2]; rfl
  · rw [h1, h2, dig_u u hu]
theorem chr_eq {A : TA} {P : CP} {M : MO} (hT : RT A P M) (H : SH) {i c : Nat} (hi : i < 2 ^ 31) (hc : c < 128) : s_Tape_byteAt A (nI i) = nI c ↔ s_Model_byteAt M H i = nI c := by
  rcases bt hT H i hi with ⟨-, h1, h2⟩ | ⟨-, u, hu, -, h1, h2⟩
  · rw [h1, h2]
  · rw [h1, h2]; exact eqc_u u hu c hc
theorem out_let {A : TA} {P : CP} {M : MO} (hT : RT A P M) (H : SH) {i : Nat} (hi : i < 2 ^ 31) (h : mo_sz M ≤ i) : s_Model_byteAt M H i = -1 := by
  rcases bt hT H i hi with ⟨-, h1, h2⟩ | ⟨h3, -⟩
  · exact h2
  · omega
/-- over the blanks -/
theorem past_eq {A : TA} {P : CP} {M : MO} (hT : RT A P M) (H : SH) {x1 kk : Nat} : ∀ k i m, i ≤ 2000 → k = mo_sz M - i → k < m → l_Model_cut_11 M H kk m i = some (l_Tokens_pastBlanks_2 A x1 k i) ∧ i ≤ l_Tokens_pastBlanks_2 A x1 k i ∧ (l_Tokens_pastBlanks_2 A x1 k i ≤ mo_sz M ∨ l_Tokens_pastBlanks_2 A x1 k i = i) := by
  have h2000 := hT.2.1
  have hsz := hT.1
  intro k
  induction k with
  | zero =>
    intro i m hi hk hm
    obtain ⟨m', rfl⟩ := Nat.exists_eq_succ_of_ne_zero (show m ≠ 0 by omega)
    rw [l_Model_cut_11, if_pos (by omega), out_let hT H (by omega) (by omega), if_neg (by decide), if_neg (by decide)]
    exact ⟨rfl, Nat.le_refl _, .inr rfl⟩
  | succ k ih =>
    intro i m hi hk hm
    obtain ⟨m', rfl⟩ := Nat.exists_eq_succ_of_ne_zero (show m ≠ 0 by omega)
    rw [l_Model_cut_11, if_pos (by omega), l_Tokens_pastBlanks_2, hsz, if_neg (fun w => absurd ((nI_leI (by omega) (by omega)).mp w) (by omega))]
    have e32 : s_Tape_byteAt A (nI i) = 32 ↔ s_Model_byteAt M H i = 32 := chr_eq hT H (i := i) (c := 32) (by omega) (by omega)
    have e10 : s_Tape_byteAt A (nI i) = 10 ↔ s_Model_byteAt M H i = 10 := chr_eq hT H (i := i) (c := 10) (by omega) (by omega)
    obtain ⟨j1, j2, j3⟩ := ih (i + 1) m' (by omega) (by omega) (by omega)
    have j4 : i ≤ l_Tokens_pastBlanks_2 A x1 k (i + 1) ∧ (l_Tokens_pastBlanks_2 A x1 k (i + 1) ≤ mo_sz M ∨ l_Tokens_pastBlanks_2 A x1 k (i + 1) = i) := by
      refine ⟨by omega, .inl ?_⟩
      rcases j3 with j3 | j3 <;> omega
    by_cases h32 : s_Model_byteAt M H i = 32
    · rw [if_pos h32, if_pos (e32.mpr h32)]
      exact ⟨j1, j4⟩
    · rw [if_neg h32, if_neg (fun w => h32 (e32.mp w))]
      by_cases h10 : s_Model_byteAt M H i = 10
      · rw [if_pos h10, if_pos (e10.mpr h10)]
        exact ⟨j1, j4⟩
      · rw [if_neg h10, if_neg (fun w => h10 (e10.mp w))]
        exact ⟨rfl, Nat.le_refl _, .inr rfl⟩
theorem pastB {A : TA} {P : CP} {M : MO} (hT : RT A P M) (H : SH) {kk i : Nat} (hi : i ≤ 2000) : l_Model_cut_11 M H kk 2001 i = some (s_Tokens_pastBlanks A i) ∧ i ≤ s_Tokens_pastBlanks A i ∧ (s_Tokens_pastBlanks A i ≤ mo_sz M ∨ s_Tokens_pastBlanks A i = i) := by
  have h2000 := hT.2.1
  unfold s_Tokens_pastBlanks
  rw [hT.1]
  exact past_eq hT H (mo_sz M - i) i 2001 hi rfl (by omega)
/-- a word's, a number's end -/
theorem end_let {A : TA} {P : CP} {M : MO} (hT : RT A P M) (H : SH) {x1 : Nat} {b : Int32} (hb : ¬ s_Model_isLetter b = 0) : ∀ k i m, x1 ≤ i → i ≤ mo_sz M → k = mo_sz M - i → k < m → l_Model_lengthAt_24 M H x1 b m i = some (l_Tokens_tokenEnd_17 A x1 k i - x1) ∧ i ≤ l_Tokens_tokenEnd_17 A x1 k i ∧ l_Tokens_tokenEnd_17 A x1 k i ≤ mo_sz M ∧ ∀ j, i ≤ j → j < l_Tokens_tokenEnd_17 A x1 k i → ¬ (s_Model_isLetter (s_Model_byteAt M H j) = 0 ∧ s_Model_isDigit (s_Model_byteAt M H j) = 0) := by
  have h2000 := hT.2.1
  have hsz := hT.1
  intro k
  induction k with
  | zero =>
    intro i m hx hi hk hm
    obtain ⟨m', rfl⟩ := Nat.exists_eq_succ_of_ne_zero (show m ≠ 0 by omega)
    rw [l_Model_lengthAt_24, if_pos (by omega), out_let hT H (by omega) (by omega), if_pos (by decide), if_neg hb, if_pos (by decide), if_pos hx]
    exact ⟨rfl, Nat.le_refl _, hi, fun j h1 h2 => absurd h2 (by rw [l_Tokens_tokenEnd_17]; omega)⟩
  | succ k ih =>
    intro i m hx hi hk hm
    obtain ⟨m', rfl⟩ := Nat.exists_eq_succ_of_ne_zero (show m ≠ 0 by omega)
    obtain ⟨j1, j2, j3, j4⟩ := ih (i + 1) m' (by omega) (by omega) (by omega) (by omega)
    have hm2 : l_Model_lengthAt_24 M H x1 b (m' + 1) i = if s_Model_isLetter (s_Model_byteAt M H i) = 0 ∧ s_Model_isDigit (s_Model_byteAt M H i) = 0 then some (i - x1) else l_Model_lengthAt_24 M H x1 b m' (i + 1) := by
      rw [l_Model_lengthAt_24, if_pos (by omega)]
      by_cases hd : s_Model_isDigit (s_Model_byteAt M H i) = 0
      · rw [if_pos hd, if_neg hb]
        by_cases hl : s_Model_isLetter (s_Model_byteAt M H i) = 0
        · rw [if_pos hl, if_pos hx, if_pos ⟨hl, hd⟩]
        · rw [if_neg hl, if_neg (fun w => hl w.1)]
      · rw [if_neg hd, if_neg (fun w => hd w.2)]
    have hc2 : l_Tokens_tokenEnd_17 A x1 (k + 1) i = if s_Model_isLetter (s_Model_byteAt M H i) = 0 ∧ s_Model_isDigit (s_Model_byteAt M H i) = 0 then i else l_Tokens_tokenEnd_17 A x1 k (i + 1) := by
      rw [l_Tokens_tokenEnd_17, hsz, if_neg (fun w => absurd ((nI_leI (by omega) (by omega)).mp w) (by omega)), let_eq hT H (by omega), dig_eq hT H (by omega)]
      by_cases hl : s_Model_isLetter (s_Model_byteAt M H i) = 0
      · rw [if_pos hl]
        by_cases hd : s_Model_isDigit (s_Model_byteAt M H i) = 0
        · rw [if_pos hd, if_pos ⟨hl, hd⟩]
        · rw [if_neg hd, if_neg (fun w => hd w.2)]
      · rw [if_neg hl, if_neg (fun w => hl w.1)]
    rw [hm2, hc2]
    by_cases hq : s_Model_isLetter (s_Model_byteAt M H i) = 0 ∧ s_Model_isDigit (s_Model_byteAt M H i) = 0
    · rw [if_pos hq, if_pos hq]
      exact ⟨rfl, Nat.le_refl _, hi, fun j h1 h2 => absurd h2 (by omega)⟩
    · rw [if_neg hq, if_neg hq]
      refine ⟨j1, by omega, j3, fun j h1 h2 => ?_⟩
      by_cases e : j = i
      · rw [e]; exact hq
      · exact j4 j (by omega) h2
theorem end_dig {A : TA} {P : CP} {M : MO} (hT : RT A P M) (H : SH) {x1 : Nat} {b : Int32} (hb : s_Model_isLetter b = 0) : ∀ k i m, x1 ≤ i → i ≤ mo_sz M → k = mo_sz M - i → k < m → l_Model_lengthAt_24 M H x1 b m i = some (l_Tokens_tokenEnd_60 A x1 k i - x1) ∧ i ≤ l_Tokens_tokenEnd_60 A x1 k i ∧ l_Tokens_tokenEnd_60 A x1 k i ≤ mo_sz M ∧ ∀ j, i ≤ j → j < l_Tokens_tokenEnd_60 A x1 k i → ¬ s_Model_isDigit (s_Model_byteAt M H j) = 0 := by
  have h2000 := hT.2.1
  have hsz := hT.1
  intro k
  induction k with
  | zero =>
    intro i m hx hi hk hm
    obtain ⟨m', rfl⟩ := Nat.exists_eq_succ_of_ne_zero (show m ≠ 0 by omega)
    rw [l_Model_lengthAt_24, if_pos (by omega), out_let hT H (by omega) (by omega), if_pos (by decide), if_pos hb, if_pos hx]
    exact ⟨rfl, Nat.le_refl _, hi, fun j h1 h2 => absurd h2 (by rw [l_Tokens_tokenEnd_60]; omega)⟩
  | succ k ih =>
    intro i m hx hi hk hm
    obtain ⟨m', rfl⟩ := Nat.exists_eq_succ_of_ne_zero (show m ≠ 0 by omega)
    obtain ⟨j1, j2, j3, j4⟩ := ih (i + 1) m' (by omega) (by omega) (by omega) (by omega)
    rw [l_Model_lengthAt_24, if_pos (by omega), l_Tokens_tokenEnd_60, hsz, if_neg (fun w => absurd ((nI_leI (by omega) (by omega)).mp w) (by omega)), dig_eq hT H (by omega)]
    by_cases hd : s_Model_isDigit (s_Model_byteAt M H i) = 0
    · rw [if_pos hd, if_pos hd, if_pos hb, if_pos hx]
      exact ⟨rfl, Nat.le_refl _, hi, fun j h1 h2 => absurd h2 (by omega)⟩
    · rw [if_neg hd, if_neg hd]
      refine ⟨j1, by omega, j3, fun j h1 h2 => ?_⟩
      by_cases e : j = i
      · rw [e]; exact hd
      · exact j4 j (by omega) h2
/-- a token's end -/
theorem tok_end {A : TA} {P : CP} {M : MO} (hT : RT A P M) (H : SH) {f : Nat} (hf : f < mo_sz M) : s_Model_lengthAt M H f = some (s_Tokens_tokenEnd A f - f) ∧ f < s_Tokens_tokenEnd A f ∧ s_Tokens_tokenEnd A f ≤ mo_sz M ∧ (¬ s_Model_isLetter (s_Model_byteAt M H f) = 0 → ∀ j, f ≤ j → j < s_Tokens_tokenEnd A f → ¬ (s_Model_isLetter (s_Model_byteAt M H j) = 0 ∧ s_Model_isDigit (s_Model_byteAt M H j) = 0)) ∧ (s_Model_isLetter (s_Model_byteAt M H f) = 0 → ¬ s_Model_isDigit (s_Model_byteAt M H f) = 0 → ∀ j, f ≤ j → j < s_Tokens_tokenEnd A f → ¬ s_Model_isDigit (s_Model_byteAt M H j) = 0) ∧ (s_Model_isLetter (s_Model_byteAt M H f) = 0 → s_Model_isDigit (s_Model_byteAt M H f) = 0 → s_Tokens_tokenEnd A f = f + 1 ∨ (s_Tokens_tokenEnd A f = f + 2 ∧ (s_Model_byteAt M H f = 60 ∨ s_Model_byteAt M H f = 62) ∧ s_Model_byteAt M H (f + 1) = 61)) := by
  have h2000 := hT.2.1
  have hsz := hT.1
  unfold s_Model_lengthAt s_Tokens_tokenEnd
  rw [if_pos (show f ≤ 5000 by omega), let_eq hT H (by omega), dig_eq hT H (by omega), hsz]
  have e60 : s_Tape_byteAt A (nI f) = 60 ↔ s_Model_byteAt M H f = 60 := chr_eq hT H (i := f) (c := 60) (by omega) (by omega)
  have e62 : s_Tape_byteAt A (nI f) = 62 ↔ s_Model_byteAt M H f = 62 := chr_eq hT H (i := f) (c := 62) (by omega) (by omega)
  have e61 : s_Tape_byteAt A (nI (f + 1)) = 61 ↔ s_Model_byteAt M H (f + 1) = 61 := chr_eq hT H (i := f + 1) (c := 61) (by omega) (by omega)
  have big : ∀ {a : Nat}, a ≤ 1 + 1 + f → a ≤ 5000 := fun h => by omega
  by_cases hl : s_Model_isLetter (s_Model_byteAt M H f) = 0
  · rw [if_pos hl, if_pos hl]
    by_cases hd : s_Model_isDigit (s_Model_byteAt M H f) = 0
    · rw [if_pos hd, if_pos hd]
      have lt61 : s_Model_byteAt M H (f + 1) = 61 → f + 2 ≤ mo_sz M := by
        intro h
        rcases bt hT H (f + 1) (by omega) with ⟨-, -, h1⟩ | ⟨h1, -⟩
        · rw [h1] at h; exact absurd h (by decide)
        · omega
      have one : some (f + 1 - f) = some (f + 1 - f) ∧ f < f + 1 ∧ f + 1 ≤ mo_sz M ∧ (¬ s_Model_isLetter (s_Model_byteAt M H f) = 0 → ∀ j, f ≤ j → j < f + 1 → ¬ (s_Model_isLetter (s_Model_byteAt M H j) = 0 ∧ s_Model_isDigit (s_Model_byteAt M H j) = 0)) ∧ (s_Model_isLetter (s_Model_byteAt M H f) = 0 → ¬ s_Model_isDigit (s_Model_byteAt M H f) = 0 → ∀ j, f ≤ j → j < f + 1 → ¬ s_Model_isDigit (s_Model_byteAt M H j) = 0) ∧ (s_Model_isLetter (s_Model_byteAt M H f) = 0 → s_Model_isDigit (s_Model_byteAt M H f) = 0 → f + 1 = f + 1 ∨ (f + 1 = f + 2 ∧ (s_Model_byteAt M H f = 60 ∨ s_Model_byteAt M H f = 62) ∧ s_Model_byteAt M H (f + 1) = 61)) :=
        ⟨rfl, by omega, by omega, fun w => absurd hl w, fun _ w => absurd hd w, fun _ _ => .inl rfl⟩
      have two : s_Model_byteAt M H (f + 1) = 61 → (s_Model_byteAt M H f = 60 ∨ s_Model_byteAt M H f = 62) → some (f + 1 + 1 - f) = some (f + 1 + 1 - f) ∧ f < f + 1 + 1 ∧ f + 1 + 1 ≤ mo_sz M ∧ (¬ s_Model_isLetter (s_Model_byteAt M H f) = 0 → ∀ j, f ≤ j → j < f + 1 + 1 → ¬ (s_Model_isLetter (s_Model_byteAt M H j) = 0 ∧ s_Model_isDigit (s_Model_byteAt M H j) = 0)) ∧ (s_Model_isLetter (s_Model_byteAt M H f) = 0 → ¬ s_Model_isDigit (s_Model_byteAt M H f) = 0 → ∀ j, f ≤ j → j < f + 1 + 1 → ¬ s_Model_isDigit (s_Model_byteAt M H j) = 0) ∧ (s_Model_isLetter (s_Model_byteAt M H f) = 0 → s_Model_isDigit (s_Model_byteAt M H f) = 0 → f + 1 + 1 = f + 1 ∨ (f + 1 + 1 = f + 2 ∧ (s_Model_byteAt M H f = 60 ∨ s_Model_byteAt M H f = 62) ∧ s_Model_byteAt M H (f + 1) = 61)) :=
        fun w1 w2 => ⟨rfl, by omega, lt61 w1, fun w => absurd hl w, fun _ w => absurd hd w, fun _ _ => .inr ⟨rfl, w2, w1⟩⟩
      have br : ∀ (c : Prop) [Decidable c], (c ↔ s_Model_byteAt M H (f + 1) = 61) → True := fun _ _ _ => trivial
      by_cases h60 : s_Model_byteAt M H f = 60
      · rw [if_pos h60, if_pos (e60.mpr h60), if_pos (big (by omega))]
        by_cases h61 : s_Model_byteAt M H (f + 1) = 61
        · rw [if_pos h61, if_pos (e61.mpr h61), if_pos (by omega)]
          exact two h61 (.inl h60)
        · rw [if_neg h61, if_neg (fun w => h61 (e61.mp w)), if_pos (by omega)]
          exact one
      · rw [if_neg h60, if_neg (fun w => h60 (e60.mp w))]
        by_cases h62 : s_Model_byteAt M H f = 62
        · rw [if_pos h62, if_pos (e62.mpr h62), if_pos (big (by omega))]
          by_cases h61 : s_Model_byteAt M H (f + 1) = 61
          · rw [if_pos h61, if_pos (e61.mpr h61), if_pos (by omega)]
            exact two h61 (.inr h62)
          · rw [if_neg h61, if_neg (fun w => h61 (e61.mp w)), if_pos (by omega)]
            exact one
        · rw [if_neg h62, if_neg (fun w => h62 (e62.mp w)), if_pos (by omega)]
          exact one
    · rw [if_neg hd, if_neg hd]
      obtain ⟨j1, j2, j3, j4⟩ := end_dig (A := A) (x1 := f) hT H hl (mo_sz M - (f + 1)) (f + 1) 2001 (by omega) (by omega) rfl (by omega)
      refine ⟨j1, by omega, j3, fun w => absurd hl w, fun _ _ j h1 h2 => ?_, fun _ w => absurd w hd⟩
      by_cases e : j = f
      · rw [e]; exact hd
      · exact j4 j (by omega) h2
  · rw [if_neg hl, if_neg hl]
    obtain ⟨j1, j2, j3, j4⟩ := end_let (A := A) (x1 := f) hT H hl (mo_sz M - (f + 1)) (f + 1) 2001 (by omega) (by omega) rfl (by omega)
    refine ⟨j1, by omega, j3, fun _ j h1 h2 => ?_, fun w => absurd w hl, fun w => absurd w hl⟩
    by_cases e : j = f
    · rw [e]; exact fun w => hl w.1
    · exact j4 j (by omega) h2
/-! a token's kind: the class's sign, the reference's number -/
def kOf (g : Fin 54) : Int32 := if g.val < 35 then nI g.val else if g.val < 50 then nI (g.val + 5) else if g.val = 50 then 36 else if g.val = 51 then 37 else if g.val = 52 then 70 else 71
def bm (M : MO) (f n : Nat) : List Int32 := (List.range n).map fun j => mo_ta M (f + j)
theorem bm_len {M : MO} {f n : Nat} : (bm M f n).length = n := by simp [bm]
theorem bm_get {M : MO} {f n j : Nat} (h : j < n) : (bm M f n).getD j 0 = mo_ta M (f + j) := by
  simp [bm, List.getD_eq_getElem?_getD, h]
theorem bm_eq {M : MO} {f n : Nat} {t : List Int32} : t = bm M f n ↔ t.length = n ∧ ∀ j, j < n → t.getD j 0 = mo_ta M (f + j) := by
  constructor
  · rintro rfl
    exact ⟨bm_len, fun j h => bm_get h⟩
  · rintro ⟨h1, h2⟩
    apply List.ext_getElem (by rw [bm_len, h1])
    intro j a b
    have h3 := h2 j (by omega)
    rw [show t.getD j 0 = t[j] by simp [List.getD_eq_getElem?_getD, a]] at h3
    rw [h3]
    simp [bm]
/-- plain signs alone -/
abbrev asc (t : List Int32) : Prop := ∀ j, j < t.length → (t.getD j 0).toNatClampNeg < 128 ∧ t.getD j 0 = nI (t.getD j 0).toNatClampNeg ∧ chr t j = t.getD j 0
theorem asc_sg : ∀ i, i < 54 → asc (sgX i) := by decide +kernel
theorem asc_wd : ∀ i, i < 35 → asc (wdX i) := by decide +kernel
theorem sg_wd : ∀ i, i < 35 → sgX i = wdX i := by decide +kernel
theorem sg_hi : ∀ i, i < 54 → 35 ≤ i → sgX i = [] ∨ s_Model_isLetter ((sgX i).getD 0 0) = 0 := by decide +kernel
theorem f54 {i : Nat} (h : i < 54) : (fin54 i).val = i := Nat.mod_eq_of_lt h
theorem reads_loop {A : TA} {P : CP} {M : MO} (hT : RT A P M) (H : SH) {x1 x2 : Nat} {t : List Int32} (ht : asc t) (hb : x1 + t.length ≤ mo_sz M) : ∀ k i, i + k = t.length → (l_Tokens_reads_15 A x1 x2 t k i = 1 ∧ ∀ j, i ≤ j → j < t.length → t.getD j 0 = mo_ta M (x1 + j)) ∨ (l_Tokens_reads_15 A x1 x2 t k i = 0 ∧ ¬ ∀ j, i ≤ j → j < t.length → t.getD j 0 = mo_ta M (x1 + j)) := by
  have h2000 := hT.2.1
  intro k
  induction k with
  | zero =>
    intro i hi
    exact .inl ⟨rfl, fun j h1 h2 => absurd h2 (by omega)⟩
  | succ k ih =>
    intro i hi
    obtain ⟨c1, c2, c3⟩ := ht i (by omega)
    rw [l_Tokens_reads_15, c3]
    rcases bt hT H (x1 + i) (by omega) with ⟨h, -, -⟩ | ⟨-, u, hu, h1, -, h3⟩
    · omega
    have e := eqc_u u hu _ c1
    rw [← c2, ← h3, ← h1] at e
    by_cases hq : t.getD i 0 = s_Tape_byteAt A (nI (x1 + i))
    · rw [if_pos hq]
      have hq2 : t.getD i 0 = mo_ta M (x1 + i) := (e.mp hq.symm).symm
      rcases ih (i + 1) (by omega) with ⟨r1, r2⟩ | ⟨r1, r2⟩
      · refine .inl ⟨r1, fun j a b => ?_⟩
        by_cases ej : j = i
        · rw [ej]; exact hq2
        · exact r2 j (by omega) b
      · exact .inr ⟨r1, fun w => r2 fun j a b => w j (by omega) b⟩
    · rw [if_neg hq]
      exact .inr ⟨rfl, fun w => hq (e.mpr (w i (Nat.le_refl _) (by omega)).symm).symm⟩
theorem reads_iff {A : TA} {P : CP} {M : MO} (hT : RT A P M) (H : SH) {x1 x2 : Nat} {t : List Int32} (ht : asc t) (h12 : x1 ≤ x2) (hb : x2 ≤ mo_sz M) (hl : t.length ≤ 1000) : s_Tokens_reads A x1 x2 t = (if t = bm M x1 (x2 - x1) then 1 else 0) := by
  have h2000 := hT.2.1
  unfold s_Tokens_reads
  rw [nI_subn h12]
  by_cases e : t.length = x2 - x1
  · rw [if_pos (by rw [e])]
    rcases reads_loop (x1 := x1) (x2 := x2) hT H ht (by omega) t.length 0 (by omega) with ⟨r1, r2⟩ | ⟨r1, r2⟩
    · rw [r1, if_pos (bm_eq.mpr ⟨e, fun j h => r2 j (by omega) (by omega)⟩)]
    · rw [r1, if_neg (fun hq => r2 fun j _ h => (bm_eq.mp hq).2 j (by omega))]
  · rw [if_neg (fun w => e ((nI_eq (by omega) (by omega)).mp w)), if_neg (fun w => e (bm_eq.mp w).1)]
def sgnF (wd : Int32) (bs : List Int32) : Nat → Nat → Fin 54
  | 0, _ => if wd = 0 then 53 else 50
  | k + 1, i => if sgX (fin54 i).val = bs then fin54 i else sgnF wd bs k (i + 1)
def wrdF (bs : List Int32) : Nat → Nat → Int32
  | 0, _ => 36
  | k + 1, i => if wdX i = bs then nI i else wrdF bs k (i + 1)
theorem sg_len : ∀ i, i < 54 → (sgX i).length ≤ 1000 := by decide +kernel
theorem wd_len : ∀ i, i < 35 → (wdX i).length ≤ 9 := by decide +kernel
theorem signs_eq {A : TA} {P : CP} {M : MO} (hT : RT A P M) (H : SH) {x1 x2 : Nat} {wd : Int32} (h12 : x1 ≤ x2) (hb : x2 ≤ mo_sz M) : ∀ k i, i + k = 54 → l_Tokens_signOf_67 A x1 x2 wd k i = sgnF wd (bm M x1 (x2 - x1)) k i := by
  intro k
  induction k with
  | zero => intro i _; rfl
  | succ k ih =>
    intro i hi
    rw [l_Tokens_signOf_67, sgnF, f54 (by omega), reads_iff hT H (asc_sg i (by omega)) h12 hb (sg_len i (by omega)), ih (i + 1) (by omega)]
    by_cases e : sgX i = bm M x1 (x2 - x1)
    · rw [if_pos e, if_pos e, if_neg (by decide)]
    · rw [if_neg e, if_neg e, if_pos rfl]
theorem word_loop {M : MO} {H : SH} {x1 n w : Nat} (hw : w < 35) (hb : x1 + n ≤ 2000) (hn : n ≤ 10) : ∀ k s, s + k = 12 → s ≤ n → s ≤ (wdX w).length → (∀ j, j < s → (wdX w).getD j 0 = mo_ta M (x1 + j)) → ∃ q, l_Model_wordAt_13 M H x1 n w k s = some q ∧ q ≤ 12 ∧ ((q = n ∧ q = (wdX w).length) ↔ wdX w = bm M x1 n) := by
  have hl := wd_len w hw
  have ha := asc_wd w hw
  intro k
  induction k with
  | zero => intro s h1 h2 h3; omega
  | succ k ih =>
    intro s h1 h2 h3 h4
    rw [l_Model_wordAt_13]
    by_cases e1 : n ≤ s
    · rw [if_pos (nI_le e1 (by omega))]
      refine ⟨s, rfl, by omega, ⟨fun w => bm_eq.mpr ⟨by omega, fun j hj => h4 j (by omega)⟩, fun w => ⟨by omega, ?_⟩⟩⟩
      have := (bm_eq.mp w).1
      omega
    · rw [if_neg (fun w => e1 ((nI_leI (by omega) (by omega)).mp w)), if_pos hw]
      by_cases e2 : (wdX w).length ≤ s
      · rw [if_pos (nI_le e2 (by omega))]
        refine ⟨s, rfl, by omega, ⟨fun w => absurd w.1 (by omega), fun w => ?_⟩⟩
        have := (bm_eq.mp w).1
        omega
      · rw [if_neg (fun w => e2 ((nI_leI (by omega) (by omega)).mp w)), if_pos hw, if_pos (by omega), if_pos (by omega), (ha s (by omega)).2.2]
        by_cases e3 : (wdX w).getD s 0 = mo_ta M (x1 + s)
        · rw [if_pos e3]
          refine ih (s + 1) (by omega) (by omega) (by omega) fun j hj => ?_
          by_cases e : j = s
          · rw [e]; exact e3
          · exact h4 j (by omega)
        · rw [if_neg e3]
          exact ⟨s, rfl, by omega, ⟨fun w => absurd w.1 (by omega), fun w => absurd ((bm_eq.mp w).2 s (by omega)) e3⟩⟩
theorem word_eq {M : MO} {H : SH} {x1 n : Nat} (hb : x1 + n ≤ 2000) (hn : n ≤ 10) : ∀ k w, w + k = 35 → l_Model_wordAt_2 M H x1 n (k + 1) w = some (wrdF (bm M x1 n) k w) := by
  intro k
  induction k with
  | zero =>
    intro w h
    rw [l_Model_wordAt_2, if_pos (nI_le (by omega) (by omega))]
    rfl
  | succ k ih =>
    intro w h
    have hw : w < 35 := by omega
    have hl := wd_len w hw
    rw [l_Model_wordAt_2, if_neg (fun w => absurd ((nI_leI (by omega) (by omega)).mp w) (by omega)), wrdF]
    obtain ⟨q, q1, q2, q3⟩ := word_loop (M := M) (H := H) hw hb hn 12 0 rfl (by omega) (by omega) (fun j hj => absurd hj (by omega))
    rw [q1]
    show (if nI q = nI n then (if w < 35 then (if nI q = nI (wdX w).length then some (nI w) else l_Model_wordAt_2 M H x1 n (k + 1) (w + 1)) else none) else l_Model_wordAt_2 M H x1 n (k + 1) (w + 1)) = _
    rw [if_pos hw, ih (w + 1) (by omega)]
    by_cases e : wdX w = bm M x1 n
    · obtain ⟨r1, r2⟩ := q3.mpr e
      rw [if_pos e, if_pos (by rw [r1]), if_pos (by rw [r2])]
    · rw [if_neg e]
      by_cases e1 : nI q = nI n
      · rw [if_pos e1, if_neg]
        exact fun w => e (q3.mp ⟨(nI_eq (by omega) (by omega)).mp e1, (nI_eq (by omega) (by omega)).mp w⟩)
      · rw [if_neg e1]
theorem kOf_lo : ∀ i, i < 35 → kOf (fin54 i) = nI i := by decide +kernel
theorem sgn_hi {bs : List Int32} (h0 : ¬ bs = []) (hl : ¬ s_Model_isLetter (bs.getD 0 0) = 0) : ∀ k i, i + k = 54 → 35 ≤ i → sgnF 1 bs k i = 50 := by
  intro k
  induction k with
  | zero => intro i _ _; rfl
  | succ k ih =>
    intro i h1 h2
    rw [sgnF, f54 (by omega), if_neg, ih (i + 1) (by omega) (by omega)]
    intro w
    rcases sg_hi i (by omega) h2 with h | h
    · exact h0 (w ▸ h)
    · exact hl (w ▸ h)
theorem sgn_lo {bs : List Int32} (h0 : ¬ bs = []) (hl : ¬ s_Model_isLetter (bs.getD 0 0) = 0) : ∀ k i, i + k = 35 → kOf (sgnF 1 bs (k + 19) i) = wrdF bs k i := by
  intro k
  induction k with
  | zero =>
    intro i h
    rw [sgn_hi h0 hl 19 i (by omega) (by omega)]
    rfl
  | succ k ih =>
    intro i h
    rw [show k + 1 + 19 = (k + 19) + 1 by omega, sgnF, wrdF, f54 (by omega), sg_wd i (by omega)]
    by_cases e : wdX i = bs
    · rw [if_pos e, if_pos e, kOf_lo i (by omega)]
    · rw [if_neg e, if_neg e, ih (i + 1) (by omega)]
theorem one_sign : ∀ u, u < 256 → s_Model_isLetter (nI u) = 0 → s_Model_isDigit (nI u) = 0 → (if 0 ≤ ixS snX (nI u) then some (40 + ixS snX (nI u)) else some (71 : Int32)) = some (kOf (sgnF 0 [nI u] 54 0)) := by decide +kernel
theorem two_sign : kOf (sgnF 0 [60, 61] 54 0) = 53 ∧ kOf (sgnF 0 [62, 61] 54 0) = 54 := by decide +kernel
theorem u_ne : ∀ u, u < 256 → ¬ nI u = -1 := by decide +kernel
theorem bm1 {M : MO} {f : Nat} : bm M f 1 = [mo_ta M f] := rfl
theorem bm2 {M : MO} {f : Nat} : bm M f 2 = [mo_ta M f, mo_ta M (f + 1)] := rfl
theorem let01 (x : Int32) : s_Model_isLetter x = 0 ∨ s_Model_isLetter x = 1 := by
  unfold s_Model_isLetter
  split
  · exact .inl rfl
  · split
    · exact .inl rfl
    · exact .inr rfl
theorem kind_eq {A : TA} {P : CP} {M : MO} (hT : RT A P M) (H : SH) {f : Nat} (hf : f < mo_sz M) : s_Model_kindAt M H f (s_Tokens_tokenEnd A f - f) = some (kOf (s_Tokens_signOf A f (s_Tokens_tokenEnd A f))) := by
  have h2000 := hT.2.1
  obtain ⟨-, t1, t2, t3, t4, t5⟩ := tok_end hT H hf
  generalize s_Tokens_tokenEnd A f = e at t1 t2 t3 t4 t5 ⊢
  rcases bt hT H f (by omega) with ⟨h, -, -⟩ | ⟨-, u, hu, u1, u2, u3⟩
  · omega
  unfold s_Model_kindAt s_Tokens_signOf
  rw [if_pos (by omega), u2, if_neg (u_ne u hu), u3, dig_u u hu, let_u u hu]
  rw [u2] at t3 t4 t5
  by_cases hd : s_Model_isDigit (nI u) = 0
  · rw [if_pos hd, if_pos hd]
    by_cases hl : s_Model_isLetter (nI u) = 0
    · rw [if_pos hl, if_pos hl, hl, signs_eq hT H (by omega) t2 54 0 rfl]
      rcases t5 hl hd with h | ⟨h, h60, h61⟩
      · rw [h, show f + 1 - f = 1 by omega, bm1, u1, if_neg (by decide)]
        exact one_sign u hu hl hd
      · rw [h, show f + 2 - f = 2 by omega, bm2, if_pos (c := nI 2 = 2) rfl, u1]
        rcases bt hT H (f + 1) (by omega) with ⟨-, -, g⟩ | ⟨-, u', hu', v1, v2, v3⟩
        · rw [g] at h61; exact absurd h61 (by decide)
        · rw [v2] at h61
          rw [v1, h61]
          rcases h60 with g | g
          · rw [g, if_pos rfl, two_sign.1]
          · rw [g, if_neg (by decide), two_sign.2]
    · have i10a : nI (e - f) ≤ 10 ↔ e - f ≤ 10 := nI_leI (b := 10) (by omega) (by omega)
      rw [if_neg hl, if_neg hl, nI_subn (by omega)]
      have hl1 : s_Model_isLetter (nI u) = 1 := (let01 _).resolve_left hl
      by_cases h10 : e - f ≤ 10
      · rw [if_pos (i10a.mpr h10), if_pos (by omega), if_pos (i10a.mpr h10), signs_eq hT H (by omega) t2 54 0 rfl, hl1]
        unfold s_Model_wordAt
        rw [word_eq (by omega) h10 35 0 rfl, ← sgn_lo _ _ 35 0 rfl]
        · rfl
        · intro w
          have := congrArg List.length w
          rw [bm_len] at this
          simp at this
          omega
        · rw [bm_get (by omega), Nat.add_zero, u1]
          exact hl
      · rw [if_neg (fun w => h10 (i10a.mp w)), if_neg (fun w => h10 (i10a.mp w))]
        rfl
  · have i6a : nI (e - f) ≤ 6 ↔ e - f ≤ 6 := nI_leI (b := 6) (by omega) (by omega)
    have i6b : 6 < nI (e - f) ↔ 6 < e - f := nI_ltI (a := 6) (by omega) (by omega)
    rw [if_neg hd, if_neg hd, nI_subn (by omega)]
    by_cases h6 : e - f ≤ 6
    · rw [if_pos (i6a.mpr h6), if_neg (fun w => absurd (i6b.mp w) (by omega))]
      rfl
    · rw [if_neg (fun w => h6 (i6a.mp w)), if_pos (i6b.mpr (by omega))]
      rfl
