/-! names and numbers: the class's worth of a token against the reference's bytes -/
def uB (M : MO) (i : Nat) : Nat := (mo_ta M i).toNatClampNeg
def cd (u : Nat) : Nat := if 48 ≤ u ∧ u ≤ 57 then u - 21 else u - 96
def dc (c : Nat) : Nat := if c ≤ 26 then c + 96 else c + 21
abbrev isC (u : Nat) : Prop := ¬ (s_Model_isLetter (nI u) = 0 ∧ s_Model_isDigit (nI u) = 0)
theorem cd_u : ∀ u, u < 256 → isC u → 1 ≤ cd u ∧ cd u ≤ 36 ∧ dc (cd u) = u := by decide +kernel
theorem cd_c : ∀ u, u < 256 → isC u → (if s_Tokens_isDigit (cB u) = 0 then (((cB u) - 97) + 1).toInt64 else (((cB u) - 48) + 27).toInt64) = lN (cd u) := by decide +kernel
theorem dg_u : ∀ u, u < 256 → ¬ s_Model_isDigit (nI u) = 0 → 48 ≤ u ∧ u ≤ 57 ∧ (cB u).toInt64 = lN u := by decide +kernel
theorem uB_of {A : TA} {P : CP} {M : MO} (hT : RT A P M) (H : SH) {i : Nat} (hi : i < mo_sz M) : uB M i < 256 ∧ mo_ta M i = nI (uB M i) ∧ s_Model_byteAt M H i = nI (uB M i) ∧ s_Tape_byteAt A (nI i) = cB (uB M i) := by
  have h2000 := hT.2.1
  rcases bt hT H i (by omega) with ⟨h, -, -⟩ | ⟨-, u, hu, h1, h2, h3⟩
  · omega
  · have e : uB M i = u := by unfold uB; rw [h1, nI_clamp (by omega)]
    rw [e]
    exact ⟨hu, h1, h2, h3⟩
theorem lN_in {n : Nat} (h : n < 2 ^ 64) : (lN n).toBitVec.toNat = n := by
  show (BitVec.ofNat 64 n).toNat = n
  rw [BitVec.toNat_ofNat]
  exact Nat.mod_eq_of_lt h
def NV (M : MO) : Nat → Nat → Nat → Nat
  | 0, _, v => v
  | k + 1, i, v => NV M k (i + 1) (v * 37 + cd (uB M i))
def DV (M : MO) : Nat → Nat → Nat → Nat
  | 0, _, v => v
  | k + 1, i, v => DV M k (i + 1) (v * 10 + (uB M i - 48))
theorem lN_c37 : (37 : Int64) = lN 37 := rfl
theorem lN_c10 : (10 : Int64) = lN 10 := rfl
theorem lN_c48 : (48 : Int64) = lN 48 := rfl
theorem name_loop {A : TA} {P : CP} {M : MO} (hT : RT A P M) (H : SH) {x1 x2 : Nat} (hb : x2 ≤ mo_sz M) : ∀ k i v, i + k = x2 → (∀ j, i ≤ j → j < x2 → isC (uB M j)) → l_Tokens_nameOf_5 A x1 x2 k i (lN v) = lN (NV M k i v) := by
  intro k
  induction k with
  | zero => intro i v _ _; rfl
  | succ k ih =>
    intro i v hi hc
    obtain ⟨u1, -, -, u2⟩ := uB_of hT H (show i < mo_sz M by omega)
    have c := cd_c _ u1 (hc i (Nat.le_refl _) (by omega))
    rw [l_Tokens_nameOf_5, NV, u2]
    by_cases hd : s_Tokens_isDigit (cB (uB M i)) = 0
    · rw [if_pos hd] at c ⊢
      rw [c, lN_c37, lN_mul, lN_add]
      exact ih (i + 1) _ (by omega) fun j a b => hc j (by omega) b
    · rw [if_neg hd] at c ⊢
      rw [c, lN_c37, lN_mul, lN_add]
      exact ih (i + 1) _ (by omega) fun j a b => hc j (by omega) b
theorem name_v {A : TA} {P : CP} {M : MO} (hT : RT A P M) (H : SH) {f e : Nat} (hf : f ≤ e) (hb : e ≤ mo_sz M) (hc : ∀ j, f ≤ j → j < e → isC (uB M j)) : s_Tokens_nameOf A f e = lN (NV M (e - f) f 0) :=
  name_loop hT H hb (e - f) f 0 (by omega) hc
theorem num_loop {A : TA} {P : CP} {M : MO} (hT : RT A P M) (H : SH) {x1 x2 : Nat} (hb : x2 ≤ mo_sz M) : ∀ k i v, i + k = x2 → (∀ j, i ≤ j → j < x2 → ¬ s_Model_isDigit (nI (uB M j)) = 0) → l_Tokens_numberOf_5 A x1 x2 k i (lN v) = lN (DV M k i v) := by
  intro k
  induction k with
  | zero => intro i v _ _; rfl
  | succ k ih =>
    intro i v hi hc
    obtain ⟨u1, -, -, u2⟩ := uB_of hT H (show i < mo_sz M by omega)
    obtain ⟨c1, c2, c3⟩ := dg_u _ u1 (hc i (Nat.le_refl _) (by omega))
    rw [l_Tokens_numberOf_5, DV, u2, c3, lN_c10, lN_mul, lN_add, lN_c48, lN_sub (by omega), show v * 10 + uB M i - 48 = v * 10 + (uB M i - 48) by omega]
    exact ih (i + 1) _ (by omega) fun j a b => hc j (by omega) b
theorem num_v {A : TA} {P : CP} {M : MO} (hT : RT A P M) (H : SH) {f e : Nat} (hf : f ≤ e) (hb : e ≤ mo_sz M) (hc : ∀ j, f ≤ j → j < e → ¬ s_Model_isDigit (nI (uB M j)) = 0) : s_Tokens_numberOf A f e = lN (DV M (e - f) f 0) :=
  num_loop hT H hb (e - f) f 0 (by omega) hc
theorem dv_lt {M : MO} : ∀ k i v, (∀ j, i ≤ j → j < i + k → uB M j ≤ 57) → DV M k i v < (v + 1) * 10 ^ k := by
  intro k
  induction k with
  | zero => intro i v _; show v < (v + 1) * 1; omega
  | succ k ih =>
    intro i v h
    have := h i (Nat.le_refl _) (by omega)
    refine Nat.lt_of_lt_of_le (ih (i + 1) _ fun j a b => h j (by omega) (by omega)) ?_
    rw [Nat.pow_succ, Nat.mul_comm (10 ^ k) 10, ← Nat.mul_assoc]
    exact Nat.mul_le_mul_right _ (by omega)
theorem dv_6 {M : MO} {k i : Nat} (hk : k ≤ 6) (h : ∀ j, i ≤ j → j < i + k → uB M j ≤ 57) : DV M k i 0 < 1000000 := by
  refine Nat.lt_of_lt_of_le (dv_lt k i 0 h) ?_
  rw [Nat.zero_add, Nat.one_mul]
  exact Nat.pow_le_pow_right (n := 10) (by decide) hk
theorem mnum_loop {A : TA} {P : CP} {M : MO} (hT : RT A P M) (H : SH) {x f n : Nat} (hx : x < 401) (hf : sh_fr H x = f) (hn : sh_mn H x = n) (hb : f + n ≤ mo_sz M) (hd : ∀ j, f ≤ j → j < f + n → ¬ s_Model_isDigit (nI (uB M j)) = 0) : ∀ k i v m, i + k = n → k < m → l_Model_number_5 M H x m (nI v) i = some (nI (DV M k (f + i) v)) := by
  have h2000 := hT.2.1
  intro k
  induction k with
  | zero =>
    intro i v m h1 h2
    obtain ⟨m', rfl⟩ := Nat.exists_eq_succ_of_ne_zero (show m ≠ 0 by omega)
    rw [l_Model_number_5, if_pos hx, hn, if_pos (nI_le (by omega) (by omega))]
    rfl
  | succ k ih =>
    intro i v m h1 h2
    obtain ⟨m', rfl⟩ := Nat.exists_eq_succ_of_ne_zero (show m ≠ 0 by omega)
    obtain ⟨u1, u2, -, -⟩ := uB_of hT H (show f + i < mo_sz M by omega)
    obtain ⟨c1, c2, -⟩ := dg_u _ u1 (hd (f + i) (by omega) (by omega))
    rw [l_Model_number_5, if_pos hx, hn, hf, if_neg (fun w => absurd ((nI_leI (by omega) (by omega)).mp w) (by omega)), if_pos hx, if_pos (by omega), u2, show (10 : Int32) * nI v = nI (10 * v) from (Int32.ofNat_mul 10 v).symm, nI_add, show (48 : Int32) = nI 48 from rfl, nI_subn (by omega), show 10 * v + uB M (f + i) - 48 = v * 10 + (uB M (f + i) - 48) by omega, DV]
    exact ih (i + 1) _ m' (by omega) (by omega)
theorem mnum_eq {A : TA} {P : CP} {M : MO} (hT : RT A P M) (H : SH) {x f n : Nat} (hx : x < 401) (hf : sh_fr H x = f) (hn : sh_mn H x = n) (hb : f + n ≤ mo_sz M) (hd : ∀ j, f ≤ j → j < f + n → ¬ s_Model_isDigit (nI (uB M j)) = 0) : s_Model_number M H x = some (nI (DV M n f 0)) := by
  have h2000 := hT.2.1
  exact mnum_loop hT H hx hf hn hb hd n 0 0 2001 (by omega) (by omega)
/-! a name's number: no other name has it -/
def val : List Nat → Nat
  | [] => 0
  | c :: t => c + 37 * val t
theorem val_inj : ∀ (l l' : List Nat), (∀ c, c ∈ l → 1 ≤ c ∧ c ≤ 36) → (∀ c, c ∈ l' → 1 ≤ c ∧ c ≤ 36) → val l = val l' → l = l'
  | [], [], _, _, _ => rfl
  | [], c :: t, _, h, e => by
    have := h c (List.mem_cons_self ..)
    unfold val at e
    omega
  | c :: t, [], h, _, e => by
    have := h c (List.mem_cons_self ..)
    unfold val at e
    omega
  | c :: t, c' :: t', h, h', e => by
    have a := h c (List.mem_cons_self ..)
    have b := h' c' (List.mem_cons_self ..)
    rw [val, val] at e
    rw [show c = c' by omega, val_inj t t' (fun x m => h x (List.mem_cons_of_mem _ m)) (fun x m => h' x (List.mem_cons_of_mem _ m)) (by omega)]
theorem val_lt : ∀ (l : List Nat), (∀ c, c ∈ l → c ≤ 36) → val l < 37 ^ l.length
  | [], _ => by decide
  | c :: t, h => by
    have a := h c (List.mem_cons_self ..)
    have b := val_lt t (fun x m => h x (List.mem_cons_of_mem _ m))
    rw [val, List.length_cons, Nat.pow_succ]
    omega
def LC (M : MO) : Nat → Nat → List Nat → List Nat
  | 0, _, acc => acc
  | k + 1, i, acc => LC M k (i + 1) (cd (uB M i) :: acc)
theorem nv_val {M : MO} : ∀ k i acc, NV M k i (val acc) = val (LC M k i acc)
  | 0, _, _ => rfl
  | k + 1, i, acc => by
    rw [NV, LC, ← nv_val k (i + 1), val, show val acc * 37 + cd (uB M i) = cd (uB M i) + 37 * val acc by omega]
theorem lc_app {M : MO} : ∀ k i acc, LC M k i acc = LC M k i [] ++ acc
  | 0, _, _ => rfl
  | k + 1, i, acc => by
    rw [LC, LC, lc_app k (i + 1) (cd (uB M i) :: acc), lc_app k (i + 1) [cd (uB M i)], List.append_assoc]
    rfl
theorem lc_len {M : MO} : ∀ k i, (LC M k i []).length = k
  | 0, _ => rfl
  | k + 1, i => by rw [LC, lc_app, List.length_append, lc_len k]; rfl
theorem lc_mem {M : MO} : ∀ k i, (∀ j, i ≤ j → j < i + k → 1 ≤ cd (uB M j) ∧ cd (uB M j) ≤ 36) → ∀ c, c ∈ LC M k i [] → 1 ≤ c ∧ c ≤ 36
  | 0, _, _, c, h => by cases h
  | k + 1, i, hc, c, h => by
    rw [LC, lc_app, List.mem_append] at h
    rcases h with h | h
    · exact lc_mem k (i + 1) (fun j a b => hc j (by omega) (by omega)) c h
    · rw [List.mem_singleton] at h
      rw [h]
      exact hc i (Nat.le_refl _) (by omega)
theorem lc_inj {M : MO} : ∀ k k' i i', LC M k i [] = LC M k' i' [] → k = k' ∧ ∀ j, j < k → cd (uB M (i + j)) = cd (uB M (i' + j)) := by
  intro k
  induction k with
  | zero =>
    intro k' i i' h
    have := congrArg List.length h
    rw [lc_len, lc_len] at this
    exact ⟨this, fun j hj => absurd hj (by omega)⟩
  | succ k ih =>
    intro k' i i' h
    have hl := congrArg List.length h
    rw [lc_len, lc_len] at hl
    subst hl
    rw [LC, LC, lc_app k (i + 1), lc_app k (i' + 1)] at h
    obtain ⟨h1, h2⟩ := List.append_inj' h (by rw [List.length_singleton, List.length_singleton])
    obtain ⟨-, h3⟩ := ih k (i + 1) (i' + 1) h1
    refine ⟨rfl, fun j hj => ?_⟩
    match j, hj with
    | 0, _ => exact (List.cons.inj h2).1
    | j + 1, hj =>
      have := h3 j (by omega)
      rw [show i + (j + 1) = i + 1 + j by omega, show i' + (j + 1) = i' + 1 + j by omega]
      exact this
theorem nv_congr {M : MO} : ∀ k i i' v, (∀ j, j < k → uB M (i + j) = uB M (i' + j)) → NV M k i v = NV M k i' v
  | 0, _, _, _, _ => rfl
  | k + 1, i, i', v, h => by
    rw [NV, NV, show uB M i = uB M i' from h 0 (by omega)]
    exact nv_congr k _ _ _ fun j hj => by
      have := h (j + 1) (by omega)
      rw [show i + 1 + j = i + (j + 1) by omega, show i' + 1 + j = i' + (j + 1) by omega]
      exact this
theorem name_iff {A : TA} {P : CP} {M : MO} (hT : RT A P M) (H : SH) {f n f' n' : Nat} (hb : f + n ≤ mo_sz M) (hb' : f' + n' ≤ mo_sz M) (h10 : n ≤ 10) (h10' : n' ≤ 10) (hc : ∀ j, f ≤ j → j < f + n → isC (uB M j)) (hc' : ∀ j, f' ≤ j → j < f' + n' → isC (uB M j)) : lN (NV M n f 0) = lN (NV M n' f' 0) ↔ (n = n' ∧ ∀ j, j < n → mo_ta M (f + j) = mo_ta M (f' + j)) := by
  constructor
  · intro h
    have bnd : ∀ {n f : Nat}, f + n ≤ mo_sz M → n ≤ 10 → (∀ j, f ≤ j → j < f + n → isC (uB M j)) → (∀ c, c ∈ LC M n f [] → 1 ≤ c ∧ c ≤ 36) ∧ NV M n f 0 < 2 ^ 64 := by
      intro n f a b c
      have m := lc_mem (M := M) n f fun j h1 h2 => by
        obtain ⟨u1, -⟩ := uB_of hT H (show j < mo_sz M by omega)
        obtain ⟨d1, d2, -⟩ := cd_u _ u1 (c j h1 h2)
        exact ⟨d1, d2⟩
      refine ⟨m, ?_⟩
      have e : NV M n f 0 = val (LC M n f []) := nv_val n f []
      rw [e]
      refine Nat.lt_of_lt_of_le (val_lt _ fun c h => (m c h).2) ?_
      rw [lc_len]
      exact Nat.le_trans (Nat.pow_le_pow_right (n := 37) (by decide) b) (by decide)
    obtain ⟨m1, b1⟩ := bnd hb h10 hc
    obtain ⟨m2, b2⟩ := bnd hb' h10' hc'
    have e : NV M n f 0 = NV M n' f' 0 := by rw [← lN_in b1, ← lN_in b2, h]
    rw [show NV M n f 0 = val (LC M n f []) from nv_val n f [], show NV M n' f' 0 = val (LC M n' f' []) from nv_val n' f' []] at e
    obtain ⟨q1, q2⟩ := lc_inj _ _ _ _ (val_inj _ _ m1 m2 e)
    refine ⟨q1, fun j hj => ?_⟩
    obtain ⟨u1, u2, -⟩ := uB_of hT H (show f + j < mo_sz M by omega)
    obtain ⟨v1, v2, -⟩ := uB_of hT H (show f' + j < mo_sz M by omega)
    obtain ⟨-, -, d1⟩ := cd_u _ u1 (hc _ (by omega) (by omega))
    obtain ⟨-, -, d2⟩ := cd_u _ v1 (hc' _ (by omega) (by omega))
    rw [u2, v2, ← d1, ← d2, q2 j hj]
  · rintro ⟨rfl, h⟩
    rw [nv_congr n f f' 0 fun j hj => by unfold uB; rw [h j hj]]
theorem same_loop {A : TA} {P : CP} {M : MO} (hT : RT A P M) (H : SH) {x y f f' n : Nat} (hx : x < 401) (hy : y < 401) (hf : sh_fr H x = f) (hn : sh_mn H x = n) (hf' : sh_fr H y = f') (hb : f + n ≤ 2000) (hb' : f' + n ≤ 2000) : ∀ k i m, i + k = n → k + 1 < m → (l_Model_areSame_25 M H x y m 1 i = some 1 ∧ ∀ j, i ≤ j → j < n → mo_ta M (f + j) = mo_ta M (f' + j)) ∨ (l_Model_areSame_25 M H x y m 1 i = some 0 ∧ ¬ ∀ j, i ≤ j → j < n → mo_ta M (f + j) = mo_ta M (f' + j)) := by
  intro k
  induction k with
  | zero =>
    intro i m h1 h2
    obtain ⟨m', rfl⟩ := Nat.exists_eq_succ_of_ne_zero (show m ≠ 0 by omega)
    rw [l_Model_areSame_25, if_neg (by decide), if_pos hx, hn, if_pos (nI_le (by omega) (by omega)), if_pos (by decide)]
    exact .inl ⟨rfl, fun j a b => absurd b (by omega)⟩
  | succ k ih =>
    intro i m h1 h2
    obtain ⟨m', rfl⟩ := Nat.exists_eq_succ_of_ne_zero (show m ≠ 0 by omega)
    rw [l_Model_areSame_25, if_neg (by decide), if_pos hx, hn, if_neg (fun w => absurd ((nI_leI (by omega) (by omega)).mp w) (by omega)), if_pos hx, hf, if_pos (by omega), if_pos hy, hf', if_pos (by omega)]
    by_cases e : mo_ta M (f + i) = mo_ta M (f' + i)
    · rw [if_pos e]
      rcases ih (i + 1) m' (by omega) (by omega) with ⟨r1, r2⟩ | ⟨r1, r2⟩
      · refine .inl ⟨r1, fun j a b => ?_⟩
        by_cases ej : j = i
        · rw [ej]; exact e
        · exact r2 j (by omega) b
      · exact .inr ⟨r1, fun w => r2 fun j a b => w j (by omega) b⟩
    · rw [if_neg e]
      refine .inr ⟨?_, fun w => e (w i (Nat.le_refl _) (by omega))⟩
      obtain ⟨m2, rfl⟩ := Nat.exists_eq_succ_of_ne_zero (show m' ≠ 0 by omega)
      rw [l_Model_areSame_25, if_pos rfl, if_pos (by decide)]
theorem same_eq {A : TA} {P : CP} {M : MO} (hT : RT A P M) (H : SH) {x y f f' n n' : Nat} (hx : x < 401) (hy : y < 401) (hf : sh_fr H x = f) (hn : sh_mn H x = n) (hf' : sh_fr H y = f') (hn' : sh_mn H y = n') (hb : f + n ≤ 2000) (hb' : f' + n' ≤ 2000) (h1000 : n ≤ 1000) : (s_Model_areSame M H x y = some 1 ∧ n = n' ∧ ∀ j, j < n → mo_ta M (f + j) = mo_ta M (f' + j)) ∨ (s_Model_areSame M H x y = some 0 ∧ ¬ (n = n' ∧ ∀ j, j < n → mo_ta M (f + j) = mo_ta M (f' + j))) := by
  unfold s_Model_areSame
  rw [if_pos hx, if_pos hy, hn, hn']
  by_cases e : n = n'
  · subst e
    rw [if_pos rfl]
    rcases same_loop hT H hx hy hf hn hf' hb hb' n 0 2001 (by omega) (by omega) with ⟨r1, r2⟩ | ⟨r1, r2⟩
    · exact .inl ⟨r1, rfl, fun j h => r2 j (by omega) h⟩
    · exact .inr ⟨r1, fun w => r2 fun j _ h => w.2 j h⟩
  · rw [if_neg (fun w => e ((nI_eq (by omega) (by omega)).mp w))]
    exact .inr ⟨by rw [l_Model_areSame_25, if_pos rfl, if_pos (by decide)], fun w => e w.1⟩
/-! the tokens: the class's arrays against the reference's sheet -/
def ps (A : TA) : Nat → Nat
  | 0 => s_Tokens_pastBlanks A 0
  | k + 1 => s_Tokens_pastBlanks A (s_Tokens_tokenEnd A (ps A k))
def sgn (A : TA) (k : Nat) : Fin 54 := s_Tokens_signOf A (ps A k) (s_Tokens_tokenEnd A (ps A k))
theorem updN_at (f : Nat → Nat) (k v : Nat) : updN f k v k = v := if_pos rfl
theorem updN_ne (f : Nat → Nat) {k j : Nat} (v : Nat) (h : j ≠ k) : updN f k v j = f j := if_neg h
theorem updS_at (f : Nat → Option (Fin 54)) (k : Nat) (v : Fin 54) : updS f k v k = some v := if_pos rfl
theorem updS_ne (f : Nat → Option (Fin 54)) {k j : Nat} (v : Fin 54) (h : j ≠ k) : updS f k v j = f j := if_neg h
theorem updL_at (f : Nat → Int64) (k : Nat) (v : Int64) : vp_updL f k v k = v := if_pos rfl
theorem updL_ne (f : Nat → Int64) {k j : Nat} (v : Int64) (h : j ≠ k) : vp_updL f k v j = f j := if_neg h
theorem put_eq {K : TK} {i : Nat} {g : Fin 54} {x : Int32} {w : Int64} (h : tk_sz K = nI i) (hi : i ≤ 400) : s_Tokens_put K g x w = (tk_sz' (tk_wo' (tk_st' (tk_sg' K (updS (tk_sg K) i g)) (upd (tk_st K) i x)) (vp_updL (tk_wo K) i w)) (nI (i + 1))) := by
  unfold s_Tokens_put
  rw [h, if_neg (nI_pos (by omega)), if_neg (fun w => absurd ((nI_leI (by omega) (by omega)).mp w) (by omega)), nI_clamp (by omega), nI_1]
/-- a token, as the class keeps it -/
def TKj (A : TA) (K : TK) (j : Nat) (g : Fin 54) : Prop := tk_sg K j = some g ∧ tk_st K j = nI (ps A j) ∧ tk_wo K j = s_Tokens_worthOf A g (ps A j) (s_Tokens_tokenEnd A (ps A j))
theorem rf_loop {A : TA} {P : CP} {M : MO} (hT : RT A P M) (H : SH) : ∀ k i (K : TK), i + k = 400 → ps A i ≤ 2000 → tk_sz K = nI i → (∀ j, j < i → ps A j < mo_sz M ∧ TKj A K j (sgn A j)) → ∃ c K', l_Tokens_readFrom_13 A k i (ps A i) K = (ps A c, K') ∧ c ≤ 400 ∧ ps A c ≤ 2000 ∧ tk_sz K' = nI c ∧ (∀ j, j < c → ps A j < mo_sz M ∧ TKj A K' j (sgn A j)) ∧ (c = 400 ∨ mo_sz M ≤ ps A c) := by
  have h2000 := hT.2.1
  intro k
  induction k with
  | zero =>
    intro i K hi hp hs hj
    exact ⟨i, K, rfl, by omega, hp, hs, hj, .inl (by omega)⟩
  | succ k ih =>
    intro i K hi hp hs hj
    rw [l_Tokens_readFrom_13, hT.1]
    by_cases h : mo_sz M ≤ ps A i
    · rw [if_pos (nI_le h (by omega))]
      exact ⟨i, K, rfl, by omega, hp, hs, hj, .inr h⟩
    · rw [if_neg (fun w => h ((nI_leI (by omega) (by omega)).mp w)), put_eq hs (by omega)]
      obtain ⟨-, t1, t2, -⟩ := tok_end hT H (show ps A i < mo_sz M by omega)
      obtain ⟨-, p2, p3⟩ := pastB (kk := 0) hT H (show s_Tokens_tokenEnd A (ps A i) ≤ 2000 by omega)
      refine ih (i + 1) _ (by omega) ?_ rfl ?_
      · show s_Tokens_pastBlanks A (s_Tokens_tokenEnd A (ps A i)) ≤ 2000
        rcases p3 with p3 | p3 <;> omega
      · intro j hj2
        by_cases e : j = i
        · subst e
          exact ⟨by omega, updS_at _ _ _, upd_at _ _ _, updL_at _ _ _⟩
        · obtain ⟨a, b1, b2, b3⟩ := hj j (by omega)
          exact ⟨a, (updS_ne _ _ e).trans b1, (upd_ne _ _ e).trans b2, (updL_ne _ _ e).trans b3⟩
/-- the class at a token; the class broken at a token -/
def tA (K : TK) (t : Nat) : TK := (tk_sg K, tk_st K, tk_wo K, tk_sz K, nI t, (tk_sg K t).getD 0, tk_st K t, tk_wo K t, -1)
def tB (K : TK) (t : Nat) : TK := (tk_sg K, tk_st K, tk_wo K, tk_sz K, nI t, 53, tk_st K t, tk_wo K t, tk_st K t)
theorem m1_1 : (-1 : Int32) + 1 = nI 0 := by decide
theorem adv_gen {Z : TK} {w : Fin 54} {i s : Nat} (hi : tk_at Z + 1 = nI i) (hw : tk_sg Z i = some w) (hs : tk_sz Z = nI s) (his : i < s) (h401 : s ≤ 401) : s_Tokens_advance Z = (tk_sg Z, tk_st Z, tk_wo Z, tk_sz Z, nI i, (tk_sg Z i).getD 0, tk_st Z i, tk_wo Z i, tk_br Z) := by
  unfold s_Tokens_advance
  rw [hi, if_neg (nI_pos (by omega)), if_neg (by rw [hs]; exact fun w => absurd ((nI_leI (by omega) (by omega)).mp w) (by omega)), if_neg (fun w => absurd ((nI_leI (by omega) (by omega)).mp w) (by omega)), nI_clamp (by omega), if_neg (by rw [hw]; exact fun w => by cases w)]
theorem adv_m1 {Z : TK} {w : Fin 54} {c : Nat} (hw : tk_sg Z 0 = some w) (z4 : tk_sz Z = nI (c + 1)) (hc : c ≤ 400) : s_Tokens_advance (tk_br' (tk_at' Z (-1)) (-1)) = tA Z 0 :=
  adv_gen (Z := tk_br' (tk_at' Z (-1)) (-1)) m1_1 hw z4 (by omega) (by omega)
theorem lex_c {A : TA} {P : CP} {M : MO} (hT : RT A P M) (H : SH) (K : TK) : ∃ c K', s_Tokens_readFrom A K = tA K' 0 ∧ c ≤ 400 ∧ tk_sz K' = nI (c + 1) ∧ ps A c ≤ 2000 ∧ (∀ j, j < c → ps A j < mo_sz M ∧ TKj A K' j (sgn A j)) ∧ tk_sg K' c = some (if mo_sz M ≤ ps A c then 52 else 53) ∧ tk_st K' c = nI (ps A c) ∧ (c = 400 ∨ mo_sz M ≤ ps A c) := by
  have h2000 := hT.2.1
  have hp0 : ps A 0 ≤ 2000 := by
    obtain ⟨-, -, p3⟩ := pastB (kk := 0) hT H (i := 0) (by omega)
    show s_Tokens_pastBlanks A 0 ≤ 2000
    rcases p3 with p3 | p3 <;> omega
  obtain ⟨c, K1, a1, a2, a3, a4, a5, a6⟩ := rf_loop hT H 400 0 (tk_sz' K 0) rfl hp0 rfl (fun j hj => absurd hj (by omega))
  unfold s_Tokens_readFrom
  rw [show l_Tokens_readFrom_13 A 400 0 (s_Tokens_pastBlanks A 0) (tk_sz' K 0) = (ps A c, K1) from a1, hT.1]
  have fin : ∀ g : Fin 54, ∃ K', s_Tokens_advance (tk_br' (tk_at' (s_Tokens_put K1 g (nI (ps A c)) 0) (-1)) (-1)) = tA K' 0 ∧ tk_sz K' = nI (c + 1) ∧ (∀ j, j < c → ps A j < mo_sz M ∧ TKj A K' j (sgn A j)) ∧ tk_sg K' c = some g ∧ tk_st K' c = nI (ps A c) := by
    intro g
    rw [put_eq a4 a2]
    obtain ⟨Z, hZ⟩ : ∃ Z, Z = (tk_sz' (tk_wo' (tk_st' (tk_sg' K1 (updS (tk_sg K1) c g)) (upd (tk_st K1) c (nI (ps A c)))) (vp_updL (tk_wo K1) c 0)) (nI (c + 1))) := ⟨_, rfl⟩
    have z1 : tk_sg Z = updS (tk_sg K1) c g := by rw [hZ]
    have z2 : tk_st Z = upd (tk_st K1) c (nI (ps A c)) := by rw [hZ]
    have z3 : tk_wo Z = vp_updL (tk_wo K1) c 0 := by rw [hZ]
    have z4 : tk_sz Z = nI (c + 1) := by rw [hZ]
    rw [← hZ]
    have hall : ∀ j, j < c → ps A j < mo_sz M ∧ TKj A Z j (sgn A j) := by
      intro j hj
      obtain ⟨b0, b1, b2, b3⟩ := a5 j hj
      exact ⟨b0, by rw [z1, updS_ne _ _ (by omega)]; exact b1, by rw [z2, upd_ne _ _ (by omega)]; exact b2, by rw [z3, updL_ne _ _ (by omega)]; exact b3⟩
    have hsome : ∃ w, tk_sg Z 0 = some w := by
      by_cases e : c = 0
      · rw [z1, e, updS_at]; exact ⟨g, rfl⟩
      · exact ⟨_, (hall 0 (by omega)).2.1⟩
    obtain ⟨w, hw⟩ := hsome
    exact ⟨Z, adv_m1 hw z4 a2, z4, hall, by rw [z1, updS_at], by rw [z2, upd_at]⟩
  by_cases h : mo_sz M ≤ ps A c
  · rw [if_pos (nI_le h (by omega))]
    obtain ⟨K', b1, b2, b3, b4, b5⟩ := fin 52
    exact ⟨c, K', b1, a2, b2, a3, b3, by rw [if_pos h]; exact b4, b5, a6⟩
  · rw [if_neg (fun w => h ((nI_leI (by omega) (by omega)).mp w))]
    obtain ⟨K', b1, b2, b3, b4, b5⟩ := fin 53
    exact ⟨c, K', b1, a2, b2, a3, b3, by rw [if_neg h]; exact b4, b5, a6⟩
theorem sgn_or {wd : Int32} {bs : List Int32} : ∀ k i, i + k = 54 → (sgnF wd bs k i = (if wd = 0 then 53 else 50)) ∨ ∃ j, j < 54 ∧ sgnF wd bs k i = fin54 j ∧ sgX j = bs := by
  intro k
  induction k with
  | zero => intro i _; exact .inl rfl
  | succ k ih =>
    intro i h
    rw [sgnF, f54 (by omega)]
    by_cases e : sgX i = bs
    · rw [if_pos e]; exact .inr ⟨i, by omega, rfl, e⟩
    · rw [if_neg e]; exact ih (i + 1) (by omega)
theorem sg_nil : ∀ i, i < 54 → 50 ≤ i → sgX i = [] := by decide +kernel
/-- what a token's sign says of its bytes -/
theorem sign_f {A : TA} {P : CP} {M : MO} (hT : RT A P M) (H : SH) {f : Nat} (hf : f < mo_sz M) : ¬ (s_Tokens_signOf A f (s_Tokens_tokenEnd A f)).val = 52 ∧ ((s_Tokens_signOf A f (s_Tokens_tokenEnd A f)).val = 50 → ¬ s_Model_isLetter (s_Model_byteAt M H f) = 0 ∧ s_Tokens_tokenEnd A f - f ≤ 10) ∧ ((s_Tokens_signOf A f (s_Tokens_tokenEnd A f)).val = 51 → ¬ s_Model_isDigit (s_Model_byteAt M H f) = 0 ∧ s_Tokens_tokenEnd A f - f ≤ 6) := by
  have h2000 := hT.2.1
  obtain ⟨-, t1, t2, -⟩ := tok_end hT H hf
  generalize s_Tokens_tokenEnd A f = e at t1 t2 ⊢
  have i10a : nI (e - f) ≤ 10 ↔ e - f ≤ 10 := nI_leI (b := 10) (by omega) (by omega)
  have i6b : 6 < nI (e - f) ↔ 6 < e - f := nI_ltI (a := 6) (by omega) (by omega)
  unfold s_Tokens_signOf
  rw [dig_eq hT H (by omega), let_eq hT H (by omega), nI_subn (by omega)]
  by_cases hd : s_Model_isDigit (s_Model_byteAt M H f) = 0
  · rw [if_pos hd]
    have nn : ∀ {wd : Int32} {j : Nat}, j < 54 → 50 ≤ j → sgX j = bm M f (e - f) → False := by
      intro _ j a b c
      have := congrArg List.length c
      rw [bm_len, sg_nil j a b] at this
      simp at this
      omega
    by_cases hl : s_Model_isLetter (s_Model_byteAt M H f) = 0
    · rw [if_pos hl, hl, signs_eq hT H (by omega) t2 54 0 rfl]
      rcases sgn_or (wd := 0) (bs := bm M f (e - f)) 54 0 rfl with h | ⟨j, j1, j2, j3⟩
      · rw [h]; exact ⟨by decide, fun w => absurd w (by decide), fun w => absurd w (by decide)⟩
      · rw [j2, f54 j1]
        exact ⟨fun w => nn (wd := 0) j1 (by omega) j3, fun w => (nn (wd := 0) j1 (by omega) j3).elim, fun w => (nn (wd := 0) j1 (by omega) j3).elim⟩
    · rw [if_neg hl]
      by_cases h10 : e - f ≤ 10
      · rw [if_pos (i10a.mpr h10), signs_eq hT H (by omega) t2 54 0 rfl]
        rcases sgn_or (wd := s_Model_isLetter (s_Model_byteAt M H f)) (bs := bm M f (e - f)) 54 0 rfl with h | ⟨j, j1, j2, j3⟩
        · rw [h, if_neg hl]; exact ⟨by decide, fun _ => ⟨hl, h10⟩, fun w => absurd w (by decide)⟩
        · rw [j2, f54 j1]
          exact ⟨fun w => nn (wd := 0) j1 (by omega) j3, fun _ => ⟨hl, h10⟩, fun w => (nn (wd := 0) j1 (by omega) j3).elim⟩
      · rw [if_neg (fun w => h10 (i10a.mp w))]
        exact ⟨by decide, fun w => absurd w (by decide), fun w => absurd w (by decide)⟩
  · rw [if_neg hd]
    by_cases h6 : 6 < e - f
    · rw [if_pos (i6b.mpr h6)]
      exact ⟨by decide, fun w => absurd w (by decide), fun w => absurd w (by decide)⟩
    · rw [if_neg (fun w => h6 (i6b.mp w))]
      exact ⟨by decide, fun w => absurd w (by decide), fun _ => ⟨hd, by omega⟩⟩
theorem kOf_70 : ∀ g : Fin 54, ¬ g.val = 52 → (g.val < 52 ∧ kOf g < 70 ∧ ¬ kOf g = 70) ∨ (g = 53 ∧ kOf g = 71) := by decide +kernel
set_option maxRecDepth 20000 in
theorem cut_loop {A : TA} {P : CP} {M : MO} (hT : RT A P M) : ∀ k kk pl (H : SH), kk + k = 400 → pl ≤ 2000 → s_Tokens_pastBlanks A pl = ps A kk → ∃ n fr mn kd, l_Model_cut_4 M (k + 2) pl kk H = some (sh_kd' (sh_mn' (sh_fr' H fr) mn) kd) ∧ kk ≤ n ∧ n ≤ 400 ∧ (∀ j, j < kk → fr j = sh_fr H j ∧ mn j = sh_mn H j ∧ kd j = sh_kd H j) ∧ (∀ j, kk ≤ j → j < n → ps A j < mo_sz M ∧ fr j = ps A j ∧ mn j = s_Tokens_tokenEnd A (ps A j) - ps A j ∧ kd j = kOf (sgn A j) ∧ (sgn A j).val < 52) ∧ fr n = ps A n ∧ ((mo_sz M ≤ ps A n ∧ kd n = 70) ∨ (ps A n < mo_sz M ∧ kd n = 71 ∧ (n = 400 ∨ sgn A n = 53))) := by
  have h2000 := hT.2.1
  intro k
  induction k with
  | zero =>
    intro kk pl H hk hpl hq
    have e400 : kk = 400 := by omega
    subst e400
    obtain ⟨p1, p2, p3⟩ := pastB (kk := 400) hT H hpl
    rw [l_Model_cut_4, if_neg (by decide), p1, hq]
    rw [hq] at p2 p3
    have q2 : ps A 400 ≤ 2000 := by rcases p3 with p3 | p3 <;> omega
    simp only [Option.bind_some, if_pos (show (400 : Nat) < 401 by decide), if_pos (show nI 400 = (400 : Int32) from rfl), updN_at, upd_at]
    rw [if_pos (by omega)]
    by_cases h : mo_sz M ≤ ps A 400
    · have hb := out_let hT (sh_fr' H (updN (sh_fr H) 400 (ps A 400))) (show ps A 400 < 2 ^ 31 by omega) h
      have hl : s_Model_lengthAt M (sh_fr' H (updN (sh_fr H) 400 (ps A 400))) (ps A 400) = some 1 := by
        unfold s_Model_lengthAt
        rw [if_pos (by omega), hb, if_pos (by decide), if_pos (by decide), if_neg (by decide), if_neg (by decide), if_pos (by omega), Nat.add_sub_cancel_left]
      rw [hl]
      simp only [Option.bind_some, updN_at]
      have hk : ∀ H', s_Model_kindAt M H' (ps A 400) 1 = some 70 := by
        intro H'
        have hb := out_let hT H' (show ps A 400 < 2 ^ 31 by omega) h
        unfold s_Model_kindAt
        rw [if_pos (by omega), hb, if_pos rfl]
      rw [hk]
      simp only [Option.bind_some, upd_at]
      exact ⟨400, _, _, _, rfl, by omega, by omega, fun j hj => ⟨updN_ne _ _ (by omega), updN_ne _ _ (by omega), upd_ne _ _ (by omega)⟩, fun j a b => absurd b (by omega), updN_at _ _ _, .inl ⟨h, upd_at _ _ _⟩⟩
    · obtain ⟨t0, t1, t2, -⟩ := tok_end hT (sh_fr' H (updN (sh_fr H) 400 (ps A 400))) (show ps A 400 < mo_sz M by omega)
      rw [t0]
      simp only [Option.bind_some, updN_at]
      rw [if_pos (by omega), kind_eq hT _ (by omega)]
      simp only [Option.bind_some, upd_at]
      have hs := (sign_f hT H (show ps A 400 < mo_sz M by omega)).1
      have h70 : ¬ kOf (s_Tokens_signOf A (ps A 400) (s_Tokens_tokenEnd A (ps A 400))) = 70 := by
        rcases kOf_70 _ hs with ⟨-, -, h3⟩ | ⟨-, h3⟩
        · exact h3
        · rw [h3]; decide
      rw [if_neg h70]
      generalize kOf (s_Tokens_signOf A (ps A 400) (s_Tokens_tokenEnd A (ps A 400))) = kk
      refine ⟨400, updN (sh_fr H) 400 (ps A 400), updN (sh_mn H) 400 (s_Tokens_tokenEnd A (ps A 400) - ps A 400), upd (upd (sh_kd H) 400 kk) 400 71, rfl, by omega, by omega, fun j hj => ⟨updN_ne _ _ (by omega), updN_ne _ _ (by omega), ?_⟩, fun j a b => absurd b (by omega), updN_at _ _ _, .inr ⟨by omega, upd_at _ _ _, .inl rfl⟩⟩
      rw [upd_ne _ _ (by omega), upd_ne _ _ (by omega)]
  | succ k ih =>
    intro kk pl H hk hpl hq
    obtain ⟨p1, p2, p3⟩ := pastB (kk := kk) hT H hpl
    have h4 : ¬ (400 : Int32) < nI kk := fun w => absurd ((nI_ltI (a := 400) (b := kk) (by decide) (by omega)).mp w) (by omega)
    have h5 : ¬ nI kk = (400 : Int32) := fun w => absurd ((nI_eq (a := kk) (b := 400) (by omega) (by decide)).mp w) (by omega)
    have hkk : kk < 401 := by omega
    rw [l_Model_cut_4, if_neg h4, p1, hq]
    rw [hq] at p2 p3
    have q2 : ps A kk ≤ 2000 := by rcases p3 with p3 | p3 <;> omega
    simp only [Option.bind_some, if_pos hkk, if_neg h5, updN_at, upd_at]
    rw [if_pos (by omega)]
    by_cases h : mo_sz M ≤ ps A kk
    · have hb := out_let hT (sh_fr' H (updN (sh_fr H) kk (ps A kk))) (show ps A kk < 2 ^ 31 by omega) h
      have hl : s_Model_lengthAt M (sh_fr' H (updN (sh_fr H) kk (ps A kk))) (ps A kk) = some 1 := by
        unfold s_Model_lengthAt
        rw [if_pos (by omega), hb, if_pos (by decide), if_pos (by decide), if_neg (by decide), if_neg (by decide), if_pos (by omega), Nat.add_sub_cancel_left]
      rw [hl]
      simp only [Option.bind_some, updN_at]
      have hk : ∀ H', s_Model_kindAt M H' (ps A kk) 1 = some 70 := by
        intro H'
        have hb := out_let hT H' (show ps A kk < 2 ^ 31 by omega) h
        unfold s_Model_kindAt
        rw [if_pos (by omega), hb, if_pos rfl]
      rw [hk]
      simp only [Option.bind_some, upd_at]
      exact ⟨kk, _, _, _, rfl, by omega, by omega, fun j hj => ⟨updN_ne _ _ (by omega), updN_ne _ _ (by omega), upd_ne _ _ (by omega)⟩, fun j a b => absurd b (by omega), updN_at _ _ _, .inl ⟨h, upd_at _ _ _⟩⟩
    · obtain ⟨t0, t1, t2, -⟩ := tok_end hT (sh_fr' H (updN (sh_fr H) kk (ps A kk))) (show ps A kk < mo_sz M by omega)
      rw [t0]
      simp only [Option.bind_some, updN_at]
      rw [if_pos (by omega), kind_eq hT _ (by omega)]
      simp only [Option.bind_some, upd_at]
      have hs := (sign_f hT H (show ps A kk < mo_sz M by omega)).1
      rcases kOf_70 _ hs with ⟨h1, h2, -⟩ | ⟨h1, h2⟩
      · rw [if_pos h2]
        obtain ⟨n, fr, mn, kd, r1, r2, r3, r4, r5, r6, r7⟩ := ih (kk + 1) (ps A kk + (s_Tokens_tokenEnd A (ps A kk) - ps A kk)) (sh_kd' (sh_mn' (sh_fr' H (updN (sh_fr H) kk (ps A kk))) (updN (sh_mn H) kk (s_Tokens_tokenEnd A (ps A kk) - ps A kk))) (upd (sh_kd H) kk (kOf (s_Tokens_signOf A (ps A kk) (s_Tokens_tokenEnd A (ps A kk)))))) (by omega) (by omega) (by rw [show ps A kk + (s_Tokens_tokenEnd A (ps A kk) - ps A kk) = s_Tokens_tokenEnd A (ps A kk) by omega]; rfl)
        refine ⟨n, fr, mn, kd, r1, by omega, r3, fun j hj => ?_, fun j a b => ?_, r6, r7⟩
        · obtain ⟨w1, w2, w3⟩ := r4 j (by omega)
          exact ⟨w1.trans (updN_ne _ _ (by omega)), w2.trans (updN_ne _ _ (by omega)), w3.trans (upd_ne _ _ (by omega))⟩
        · by_cases e : j = kk
          · subst e
            obtain ⟨w1, w2, w3⟩ := r4 j (by omega)
            exact ⟨by omega, w1.trans (updN_at _ _ _), w2.trans (updN_at _ _ _), w3.trans (upd_at _ _ _), h1⟩
          · exact r5 j (by omega) b
      · rw [if_neg (by rw [h2]; decide)]
        exact ⟨kk, _, _, _, rfl, by omega, by omega, fun j hj => ⟨updN_ne _ _ (by omega), updN_ne _ _ (by omega), upd_ne _ _ (by omega)⟩, fun j a b => absurd b (by omega), updN_at _ _ _, .inr ⟨by omega, (upd_at _ _ _).trans h2, .inr h1⟩⟩
