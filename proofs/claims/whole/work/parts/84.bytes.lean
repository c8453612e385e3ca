/-! the tape's bytes: as the class and as the reference sees them -/
/-- a byte as the class has it -/
def cB (u : Nat) : Int32 := (nI u).toInt8.toInt32
theorem bt {A : TA} {P : CP} {M : MO} (hT : RT A P M) (H : SH) (i : Nat) (hi : i < 2 ^ 31) : (mo_sz M ≤ i ∧ s_Tape_byteAt A (nI i) = -1 ∧ s_Model_byteAt M H i = -1) ∨ (i < mo_sz M ∧ ∃ u, u < 256 ∧ mo_ta M i = nI u ∧ s_Model_byteAt M H i = nI u ∧ s_Tape_byteAt A (nI i) = cB u) := by
  obtain ⟨t1, t2, -, t3⟩ := hT
  unfold s_Tape_byteAt s_Model_byteAt
  rw [if_neg (nI_pos hi), t1, nI_clamp hi]
  by_cases h : mo_sz M ≤ i
  · rw [if_pos (nI_le h hi), if_pos (nI_le h hi)]
    exact .inl ⟨h, rfl, rfl⟩
  · obtain ⟨⟨u, u1, -, u2⟩, t4⟩ := t3 i (by omega)
    rw [if_neg (fun w => h ((nI_leI (by omega) (by omega)).mp w)), if_neg (fun w => h ((nI_leI (by omega) (by omega)).mp w)), if_neg (fun w => absurd ((nI_leI (a := 2000) (by omega) (by omega)).mp w) (by omega))]
    refine .inr ⟨by omega, u, by omega, u1, u1, ?_⟩
    rw [t4, u1]
    rfl
theorem let_u : ∀ u, u < 256 → s_Tokens_isLetter (cB u) = s_Model_isLetter (nI u) := by decide +kernel
theorem dig_u : ∀ u, u < 256 → s_Tokens_isDigit (cB u) = s_Model_isDigit (nI u) := by decide +kernel
theorem eqc_u : ∀ u, u < 256 → ∀ c, c < 128 → (cB u = nI c ↔ nI u = nI c) := by decide +kernel
theorem let_eq {A : TA} {P : CP} {M : MO} (hT : RT A P M) (H : SH) {i : Nat} (hi : i < 2 ^ 31) : s_Tokens_isLetter (s_Tape_byteAt A (nI i)) = s_Model_isLetter (s_Model_byteAt M H i) := by
  rcases bt hT H i hi with ⟨-, h1, h2⟩ | ⟨-, u, hu, -, h1, h2⟩
  · rw [h1, h2]; rfl
  · rw [h1, h2, let_u u hu]
theorem dig_eq {A : TA} {P : CP} {M : MO} (hT : RT A P M) (H : SH) {i : Nat} (hi : i < 2 ^ 31) : s_Tokens_isDigit (s_Tape_byteAt A (nI i)) = s_Model_isDigit (s_Model_byteAt M H i) := by
  rcases bt hT H i hi with ⟨-, h1, h2⟩ | ⟨-, u, hu, -, h1, h2⟩
  · rw [h1, h2]; rfl
  · rw [h1, h2, dig_u u hu]
theorem chr_eq {A : TA} {P : CP} {M : MO} (hT : RT A P M) (H : SH) {i c : Nat} (hi : i < 2 ^ 31) (hc : c < 128) : s_Tape_byteAt A (nI i) = nI c ↔ s_Model_byteAt M H i = nI c := by
  rcases bt hT H i hi with ⟨-, h1, h2⟩ | ⟨-, u, hu, -, h1, h2⟩
  · rw [h1, h2]
  · rw [h1, h2]; exact eqc_u u hu c hc
theorem out_let {A : TA} {P : CP} {M : MO} (hT : RT A P M) (H : SH) {i : Nat} (hi : i < 2 ^ 31) (h : mo_sz M ≤ i) : s_Model_byteAt M H i = -1 := by
  rcases bt hT H i hi with ⟨-, h1, h2⟩ | ⟨h3, -⟩
  · exact h2
  · omega
/-- over the blanks -/
theorem past_eq {A : TA} {P : CP} {M : MO} (hT : RT A P M) (H : SH) {x1 kk : Nat} : ∀ k i m, i ≤ 2000 → k = mo_sz M - i → k < m → l_Model_cut_11 M H kk m i = some (l_Tokens_pastBlanks_2 A x1 k i) ∧ i ≤ l_Tokens_pastBlanks_2 A x1 k i ∧ (l_Tokens_pastBlanks_2 A x1 k i ≤ mo_sz M ∨ l_Tokens_pastBlanks_2 A x1 k i = i) := by
  have h2000 := hT.2.1
  have hsz := hT.1
  intro k
  induction k with
  | zero =>
    intro i m hi hk hm
    obtain ⟨m', rfl⟩ := Nat.exists_eq_succ_of_ne_zero (show m ≠ 0 by omega)
    rw [l_Model_cut_11, if_pos (by omega), out_let hT H (by omega) (by omega), if_neg (by decide), if_neg (by decide)]
    exact ⟨rfl, Nat.le_refl _, .inr rfl⟩
  | succ k ih =>
    intro i m hi hk hm
    obtain ⟨m', rfl⟩ := Nat.exists_eq_succ_of_ne_zero (show m ≠ 0 by omega)
    rw [l_Model_cut_11, if_pos (by omega), l_Tokens_pastBlanks_2, hsz, if_neg (fun w => absurd ((nI_leI (by omega) (by omega)).mp w) (by omega))]
    have e32 : s_Tape_byteAt A (nI i) = 32 ↔ s_Model_byteAt M H i = 32 := chr_eq hT H (i := i) (c := 32) (by omega) (by omega)
    have e10 : s_Tape_byteAt A (nI i) = 10 ↔ s_Model_byteAt M H i = 10 := chr_eq hT H (i := i) (c := 10) (by omega) (by omega)
    obtain ⟨j1, j2, j3⟩ := ih (i + 1) m' (by omega) (by omega) (by omega)
    have j4 : i ≤ l_Tokens_pastBlanks_2 A x1 k (i + 1) ∧ (l_Tokens_pastBlanks_2 A x1 k (i + 1) ≤ mo_sz M ∨ l_Tokens_pastBlanks_2 A x1 k (i + 1) = i) := by
      refine ⟨by omega, .inl ?_⟩
      rcases j3 with j3 | j3 <;> omega
    by_cases h32 : s_Model_byteAt M H i = 32
    · rw [if_pos h32, if_pos (e32.mpr h32)]
      exact ⟨j1, j4⟩
    · rw [if_neg h32, if_neg (fun w => h32 (e32.mp w))]
      by_cases h10 : s_Model_byteAt M H i = 10
      · rw [if_pos h10, if_pos (e10.mpr h10)]
        exact ⟨j1, j4⟩
      · rw [if_neg h10, if_neg (fun w => h10 (e10.mp w))]
        exact ⟨rfl, Nat.le_refl _, .inr rfl⟩
theorem pastB {A : TA} {P : CP} {M : MO} (hT : RT A P M) (H : SH) {kk i : Nat} (hi : i ≤ 2000) : l_Model_cut_11 M H kk 2001 i = some (s_Tokens_pastBlanks A i) ∧ i ≤ s_Tokens_pastBlanks A i ∧ (s_Tokens_pastBlanks A i ≤ mo_sz M ∨ s_Tokens_pastBlanks A i = i) := by
  have h2000 := hT.2.1
  unfold s_Tokens_pastBlanks
  rw [hT.1]
  exact past_eq hT H (mo_sz M - i) i 2001 hi rfl (by omega)
/-- a word's, a number's end -/
theorem end_let {A : TA} {P : CP} {M : MO} (hT : RT A P M) (H : SH) {x1 : Nat} {b : Int32} (hb : ¬ s_Model_isLetter b = 0) : ∀ k i m, x1 ≤ i → i ≤ mo_sz M → k = mo_sz M - i → k < m → l_Model_lengthAt_24 M H x1 b m i = some (l_Tokens_tokenEnd_17 A x1 k i - x1) ∧ i ≤ l_Tokens_tokenEnd_17 A x1 k i ∧ l_Tokens_tokenEnd_17 A x1 k i ≤ mo_sz M ∧ ∀ j, i ≤ j → j < l_Tokens_tokenEnd_17 A x1 k i → ¬ (s_Model_isLetter (s_Model_byteAt M H j) = 0 ∧ s_Model_isDigit (s_Model_byteAt M H j) = 0) := by
  have h2000 := hT.2.1
  have hsz := hT.1
  intro k
  induction k with
  | zero =>
    intro i m hx hi hk hm
    obtain ⟨m', rfl⟩ := Nat.exists_eq_succ_of_ne_zero (show m ≠ 0 by omega)
    rw [l_Model_lengthAt_24, if_pos (by omega), out_let hT H (by omega) (by omega), if_pos (by decide), if_neg hb, if_pos (by decide), if_pos hx]
    exact ⟨rfl, Nat.le_refl _, hi, fun j h1 h2 => absurd h2 (by rw [l_Tokens_tokenEnd_17]; omega)⟩
  | succ k ih =>
    intro i m hx hi hk hm
    obtain ⟨m', rfl⟩ := Nat.exists_eq_succ_of_ne_zero (show m ≠ 0 by omega)
    obtain ⟨j1, j2, j3, j4⟩ := ih (i + 1) m' (by omega) (by omega) (by omega) (by omega)
    have hm2 : l_Model_lengthAt_24 M H x1 b (m' + 1) i = if s_Model_isLetter (s_Model_byteAt M H i) = 0 ∧ s_Model_isDigit (s_Model_byteAt M H i) = 0 then some (i - x1) else l_Model_lengthAt_24 M H x1 b m' (i + 1) := by
      rw [l_Model_lengthAt_24, if_pos (by omega)]
      by_cases hd : s_Model_isDigit (s_Model_byteAt M H i) = 0
      · rw [if_pos hd, if_neg hb]
        by_cases hl : s_Model_isLetter (s_Model_byteAt M H i) = 0
        · rw [if_pos hl, if_pos hx, if_pos ⟨hl, hd⟩]
        · rw [if_neg hl, if_neg (fun w => hl w.1)]
      · rw [if_neg hd, if_neg (fun w => hd w.2)]
    have hc2 : l_Tokens_tokenEnd_17 A x1 (k + 1) i = if s_Model_isLetter (s_Model_byteAt M H i) = 0 ∧ s_Model_isDigit (s_Model_byteAt M H i) = 0 then i else l_Tokens_tokenEnd_17 A x1 k (i + 1) := by
      rw [l_Tokens_tokenEnd_17, hsz, if_neg (fun w => absurd ((nI_leI (by omega) (by omega)).mp w) (by omega)), let_eq hT H (by omega), dig_eq hT H (by omega)]
      by_cases hl : s_Model_isLetter (s_Model_byteAt M H i) = 0
      · rw [if_pos hl]
        by_cases hd : s_Model_isDigit (s_Model_byteAt M H i) = 0
        · rw [if_pos hd, if_pos ⟨hl, hd⟩]
        · rw [if_neg hd, if_neg (fun w => hd w.2)]
      · rw [if_neg hl, if_neg (fun w => hl w.1)]
    rw [hm2, hc2]
    by_cases hq : s_Model_isLetter (s_Model_byteAt M H i) = 0 ∧ s_Model_isDigit (s_Model_byteAt M H i) = 0
    · rw [if_pos hq, if_pos hq]
      exact ⟨rfl, Nat.le_refl _, hi, fun j h1 h2 => absurd h2 (by omega)⟩
    · rw [if_neg hq, if_neg hq]
      refine ⟨j1, by omega, j3, fun j h1 h2 => ?_⟩
      by_cases e : j = i
      · rw [e]; exact hq
      · exact j4 j (by omega) h2
theorem end_dig {A : TA} {P : CP} {M : MO} (hT : RT A P M) (H : SH) {x1 : Nat} {b : Int32} (hb : s_Model_isLetter b = 0) : ∀ k i m, x1 ≤ i → i ≤ mo_sz M → k = mo_sz M - i → k < m → l_Model_lengthAt_24 M H x1 b m i = some (l_Tokens_tokenEnd_60 A x1 k i - x1) ∧ i ≤ l_Tokens_tokenEnd_60 A x1 k i ∧ l_Tokens_tokenEnd_60 A x1 k i ≤ mo_sz M ∧ ∀ j, i ≤ j → j < l_Tokens_tokenEnd_60 A x1 k i → ¬ s_Model_isDigit (s_Model_byteAt M H j) = 0 := by
  have h2000 := hT.2.1
  have hsz := hT.1
  intro k
  induction k with
  | zero =>
    intro i m hx hi hk hm
    obtain ⟨m', rfl⟩ := Nat.exists_eq_succ_of_ne_zero (show m ≠ 0 by omega)
    rw [l_Model_lengthAt_24, if_pos (by omega), out_let hT H (by omega) (by omega), if_pos (by decide), if_pos hb, if_pos hx]
    exact ⟨rfl, Nat.le_refl _, hi, fun j h1 h2 => absurd h2 (by rw [l_Tokens_tokenEnd_60]; omega)⟩
  | succ k ih =>
    intro i m hx hi hk hm
    obtain ⟨m', rfl⟩ := Nat.exists_eq_succ_of_ne_zero (show m ≠ 0 by omega)
    obtain ⟨j1, j2, j3, j4⟩ := ih (i + 1) m' (by omega) (by omega) (by omega) (by omega)
    rw [l_Model_lengthAt_24, if_pos (by omega), l_Tokens_tokenEnd_60, hsz, if_neg (fun w => absurd ((nI_leI (by omega) (by omega)).mp w) (by omega)), dig_eq hT H (by omega)]
    by_cases hd : s_Model_isDigit (s_Model_byteAt M H i) = 0
    · rw [if_pos hd, if_pos hd, if_pos hb, if_pos hx]
      exact ⟨rfl, Nat.le_refl _, hi, fun j h1 h2 => absurd h2 (by omega)⟩
    · rw [if_neg hd, if_neg hd]
      refine ⟨j1, by omega, j3, fun j h1 h2 => ?_⟩
      by_cases e : j = i
      · rw [e]; exact hd
      · exact j4 j (by omega) h2
/-- a token's end -/
theorem tok_end {A : TA} {P : CP} {M : MO} (hT : RT A P M) (H : SH) {f : Nat} (hf : f < mo_sz M) : s_Model_lengthAt M H f = some (s_Tokens_tokenEnd A f - f) ∧ f < s_Tokens_tokenEnd A f ∧ s_Tokens_tokenEnd A f ≤ mo_sz M ∧ (¬ s_Model_isLetter (s_Model_byteAt M H f) = 0 → ∀ j, f ≤ j → j < s_Tokens_tokenEnd A f → ¬ (s_Model_isLetter (s_Model_byteAt M H j) = 0 ∧ s_Model_isDigit (s_Model_byteAt M H j) = 0)) ∧ (s_Model_isLetter (s_Model_byteAt M H f) = 0 → ¬ s_Model_isDigit (s_Model_byteAt M H f) = 0 → ∀ j, f ≤ j → j < s_Tokens_tokenEnd A f → ¬ s_Model_isDigit (s_Model_byteAt M H j) = 0) ∧ (s_Model_isLetter (s_Model_byteAt M H f) = 0 → s_Model_isDigit (s_Model_byteAt M H f) = 0 → s_Tokens_tokenEnd A f = f + 1 ∨ (s_Tokens_tokenEnd A f = f + 2 ∧ (s_Model_byteAt M H f = 60 ∨ s_Model_byteAt M H f = 62) ∧ s_Model_byteAt M H (f + 1) = 61)) := by
  have h2000 := hT.2.1
  have hsz := hT.1
  unfold s_Model_lengthAt s_Tokens_tokenEnd
  rw [if_pos (show f ≤ 5000 by omega), let_eq hT H (by omega), dig_eq hT H (by omega), hsz]
  have e60 : s_Tape_byteAt A (nI f) = 60 ↔ s_Model_byteAt M H f = 60 := chr_eq hT H (i := f) (c := 60) (by omega) (by omega)
  have e62 : s_Tape_byteAt A (nI f) = 62 ↔ s_Model_byteAt M H f = 62 := chr_eq hT H (i := f) (c := 62) (by omega) (by omega)
  have e61 : s_Tape_byteAt A (nI (f + 1)) = 61 ↔ s_Model_byteAt M H (f + 1) = 61 := chr_eq hT H (i := f + 1) (c := 61) (by omega) (by omega)
  have big : ∀ {a : Nat}, a ≤ 1 + 1 + f → a ≤ 5000 := fun h => by omega
  by_cases hl : s_Model_isLetter (s_Model_byteAt M H f) = 0
  · rw [if_pos hl, if_pos hl]
    by_cases hd : s_Model_isDigit (s_Model_byteAt M H f) = 0
    · rw [if_pos hd, if_pos hd]
      have lt61 : s_Model_byteAt M H (f + 1) = 61 → f + 2 ≤ mo_sz M := by
        intro h
        rcases bt hT H (f + 1) (by omega) with ⟨-, -, h1⟩ | ⟨h1, -⟩
        · rw [h1] at h; exact absurd h (by decide)
        · omega
      have one : some (f + 1 - f) = some (f + 1 - f) ∧ f < f + 1 ∧ f + 1 ≤ mo_sz M ∧ (¬ s_Model_isLetter (s_Model_byteAt M H f) = 0 → ∀ j, f ≤ j → j < f + 1 → ¬ (s_Model_isLetter (s_Model_byteAt M H j) = 0 ∧ s_Model_isDigit (s_Model_byteAt M H j) = 0)) ∧ (s_Model_isLetter (s_Model_byteAt M H f) = 0 → ¬ s_Model_isDigit (s_Model_byteAt M H f) = 0 → ∀ j, f ≤ j → j < f + 1 → ¬ s_Model_isDigit (s_Model_byteAt M H j) = 0) ∧ (s_Model_isLetter (s_Model_byteAt M H f) = 0 → s_Model_isDigit (s_Model_byteAt M H f) = 0 → f + 1 = f + 1 ∨ (f + 1 = f + 2 ∧ (s_Model_byteAt M H f = 60 ∨ s_Model_byteAt M H f = 62) ∧ s_Model_byteAt M H (f + 1) = 61)) :=
        ⟨rfl, by omega, by omega, fun w => absurd hl w, fun _ w => absurd hd w, fun _ _ => .inl rfl⟩
      have two : s_Model_byteAt M H (f + 1) = 61 → (s_Model_byteAt M H f = 60 ∨ s_Model_byteAt M H f = 62) → some (f + 1 + 1 - f) = some (f + 1 + 1 - f) ∧ f < f + 1 + 1 ∧ f + 1 + 1 ≤ mo_sz M ∧ (¬ s_Model_isLetter (s_Model_byteAt M H f) = 0 → ∀ j, f ≤ j → j < f + 1 + 1 → ¬ (s_Model_isLetter (s_Model_byteAt M H j) = 0 ∧ s_Model_isDigit (s_Model_byteAt M H j) = 0)) ∧ (s_Model_isLetter (s_Model_byteAt M H f) = 0 → ¬ s_Model_isDigit (s_Model_byteAt M H f) = 0 → ∀ j, f ≤ j → j < f + 1 + 1 → ¬ s_Model_isDigit (s_Model_byteAt M H j) = 0) ∧ (s_Model_isLetter (s_Model_byteAt M H f) = 0 → s_Model_isDigit (s_Model_byteAt M H f) = 0 → f + 1 + 1 = f + 1 ∨ (f + 1 + 1 = f + 2 ∧ (s_Model_byteAt M H f = 60 ∨ s_Model_byteAt M H f = 62) ∧ s_Model_byteAt M H (f + 1) = 61)) :=
        fun w1 w2 => ⟨rfl, by omega, lt61 w1, fun w => absurd hl w, fun _ w => absurd hd w, fun _ _ => .inr ⟨rfl, w2, w1⟩⟩
      have br : ∀ (c : Prop) [Decidable c], (c ↔ s_Model_byteAt M H (f + 1) = 61) → True := fun _ _ _ => trivial
      by_cases h60 : s_Model_byteAt M H f = 60
      · rw [if_pos h60, if_pos (e60.mpr h60), if_pos (big (by omega))]
        by_cases h61 : s_Model_byteAt M H (f + 1) = 61
        · rw [if_pos h61, if_pos (e61.mpr h61), if_pos (by omega)]
          exact two h61 (.inl h60)
        · rw [if_neg h61, if_neg (fun w => h61 (e61.mp w)), if_pos (by omega)]
          exact one
      · rw [if_neg h60, if_neg (fun w => h60 (e60.mp w))]
        by_cases h62 : s_Model_byteAt M H f = 62
        · rw [if_pos h62, if_pos (e62.mpr h62), if_pos (big (by omega))]
          by_cases h61 : s_Model_byteAt M H (f + 1) = 61
          · rw [if_pos h61, if_pos (e61.mpr h61), if_pos (by omega)]
            exact two h61 (.inr h62)
          · rw [if_neg h61, if_neg (fun w => h61 (e61.mp w)), if_pos (by omega)]
            exact one
        · rw [if_neg h62, if_neg (fun w => h62 (e62.mp w)), if_pos (by omega)]
          exact one
    · rw [if_neg hd, if_neg hd]
      obtain ⟨j1, j2, j3, j4⟩ := end_dig (A := A) (x1 := f) hT H hl (mo_sz M - (f + 1)) (f + 1) 2001 (by omega) (by omega) rfl (by omega)
      refine ⟨j1, by omega, j3, fun w => absurd hl w, fun _ _ j h1 h2 => ?_, fun _ w => absurd w hd⟩
      by_cases e : j = f
      · rw [e]; exact hd
      · exact j4 j (by omega) h2
  · rw [if_neg hl, if_neg hl]
    obtain ⟨j1, j2, j3, j4⟩ := end_let (A := A) (x1 := f) hT H hl (mo_sz M - (f + 1)) (f + 1) 2001 (by omega) (by omega) rfl (by omega)
    refine ⟨j1, by omega, j3, fun _ j h1 h2 => ?_, fun w => absurd w hl, fun w => absurd w hl⟩
    by_cases e : j = f
    · rw [e]; exact fun w => hl w.1
    · exact j4 j (by omega) h2
