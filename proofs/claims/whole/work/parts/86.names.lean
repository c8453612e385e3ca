/-! names and numbers: the class's worth of a token against the reference's bytes -/
def uB (M : MO) (i : Nat) : Nat := (mo_ta M i).toNatClampNeg
def cd (u : Nat) : Nat := if 48 ≤ u ∧ u ≤ 57 then u - 21 else u - 96
def dc (c : Nat) : Nat := if c ≤ 26 then c + 96 else c + 21
def isC (u : Nat) : Prop := ¬ (s_Model_isLetter (nI u) = 0 ∧ s_Model_isDigit (nI u) = 0)
instance (u : Nat) : Decidable (isC u) := by unfold isC; exact inferInstance
theorem cd_u : ∀ u, u < 256 → isC u → 1 ≤ cd u ∧ cd u ≤ 36 ∧ dc (cd u) = u := by decide +kernel
theorem cd_c : ∀ u, u < 256 → isC u → (if s_Tokens_isDigit (cB u) = 0 then (((cB u) - 97) + 1).toInt64 else (((cB u) - 48) + 27).toInt64) = lN (cd u) := by decide +kernel
theorem dg_u : ∀ u, u < 256 → ¬ s_Model_isDigit (nI u) = 0 → 48 ≤ u ∧ u ≤ 57 ∧ (cB u).toInt64 = lN u := by decide +kernel
theorem uB_of {A : TA} {P : CP} {M : MO} (hT : RT A P M) (H : SH) {i : Nat} (hi : i < mo_sz M) : uB M i < 256 ∧ mo_ta M i = nI (uB M i) ∧ s_Model_byteAt M H i = nI (uB M i) ∧ s_Tape_byteAt A (nI i) = cB (uB M i) := by
  have h2000 := hT.2.1
  rcases bt hT H i (by omega) with ⟨h, -, -⟩ | ⟨-, u, hu, h1, h2, h3⟩
  · omega
  · have e : uB M i = u := by unfold uB; rw [h1, nI_clamp (by omega)]
    rw [e]
    exact ⟨hu, h1, h2, h3⟩
theorem lN_in {n : Nat} (h : n < 2 ^ 64) : (lN n).toBitVec.toNat = n := by
  show (BitVec.ofNat 64 n).toNat = n
  rw [BitVec.toNat_ofNat]
  exact Nat.mod_eq_of_lt h
def NV (M : MO) : Nat → Nat → Nat → Nat
  | 0, _, v => v
  | k + 1, i, v => NV M k (i + 1) (v * 37 + cd (uB M i))
def DV (M : MO) : Nat → Nat → Nat → Nat
  | 0, _, v => v
  | k + 1, i, v => DV M k (i + 1) (v * 10 + (uB M i - 48))
theorem lN_c37 : (37 : Int64) = lN 37 := rfl
theorem lN_c10 : (10 : Int64) = lN 10 := rfl
theorem lN_c48 : (48 : Int64) = lN 48 := rfl
theorem name_loop {A : TA} {P : CP} {M : MO} (hT : RT A P M) (H : SH) {x1 x2 : Nat} (hb : x2 ≤ mo_sz M) : ∀ k i v, i + k = x2 → (∀ j, i ≤ j → j < x2 → isC (uB M j)) → l_Tokens_nameOf_5 A x1 x2 k i (lN v) = lN (NV M k i v) := by
  intro k
  induction k with
  | zero => intro i v _ _; rfl
  | succ k ih =>
    intro i v hi hc
    obtain ⟨u1, -, -, u2⟩ := uB_of hT H (show i < mo_sz M by omega)
    have c := cd_c _ u1 (hc i (Nat.le_refl _) (by omega))
    rw [l_Tokens_nameOf_5, NV, u2]
    by_cases hd : s_Tokens_isDigit (cB (uB M i)) = 0
    · rw [if_pos hd] at c ⊢
      rw [c, lN_c37, lN_mul, lN_add]
      exact ih (i + 1) _ (by omega) fun j a b => hc j (by omega) b
    · rw [if_neg hd] at c ⊢
      rw [c, lN_c37, lN_mul, lN_add]
      exact ih (i + 1) _ (by omega) fun j a b => hc j (by omega) b
theorem name_v {A : TA} {P : CP} {M : MO} (hT : RT A P M) (H : SH) {f e : Nat} (hf : f ≤ e) (hb : e ≤ mo_sz M) (hc : ∀ j, f ≤ j → j < e → isC (uB M j)) : s_Tokens_nameOf A f e = lN (NV M (e - f) f 0) :=
  name_loop hT H hb (e - f) f 0 (by omega) hc
theorem num_loop {A : TA} {P : CP} {M : MO} (hT : RT A P M) (H : SH) {x1 x2 : Nat} (hb : x2 ≤ mo_sz M) : ∀ k i v, i + k = x2 → (∀ j, i ≤ j → j < x2 → ¬ s_Model_isDigit (nI (uB M j)) = 0) → l_Tokens_numberOf_5 A x1 x2 k i (lN v) = lN (DV M k i v) := by
  intro k
  induction k with
  | zero => intro i v _ _; rfl
  | succ k ih =>
    intro i v hi hc
    obtain ⟨u1, -, -, u2⟩ := uB_of hT H (show i < mo_sz M by omega)
    obtain ⟨c1, c2, c3⟩ := dg_u _ u1 (hc i (Nat.le_refl _) (by omega))
    rw [l_Tokens_numberOf_5, DV, u2, c3, lN_c10, lN_mul, lN_add, lN_c48, lN_sub (by omega), show v * 10 + uB M i - 48 = v * 10 + (uB M i - 48) by omega]
    exact ih (i + 1) _ (by omega) fun j a b => hc j (by omega) b
theorem num_v {A : TA} {P : CP} {M : MO} (hT : RT A P M) (H : SH) {f e : Nat} (hf : f ≤ e) (hb : e ≤ mo_sz M) (hc : ∀ j, f ≤ j → j < e → ¬ s_Model_isDigit (nI (uB M j)) = 0) : s_Tokens_numberOf A f e = lN (DV M (e - f) f 0) :=
  num_loop hT H hb (e - f) f 0 (by omega) hc
theorem dv_lt {M : MO} : ∀ k i v, (∀ j, i ≤ j → j < i + k → uB M j ≤ 57) → DV M k i v < (v + 1) * 10 ^ k := by
  intro k
  induction k with
  | zero => intro i v _; show v < (v + 1) * 1; omega
  | succ k ih =>
    intro i v h
    have := h i (Nat.le_refl _) (by omega)
    refine Nat.lt_of_lt_of_le (ih (i + 1) _ fun j a b => h j (by omega) (by omega)) ?_
    rw [Nat.pow_succ, Nat.mul_comm (10 ^ k) 10, ← Nat.mul_assoc]
    exact Nat.mul_le_mul_right _ (by omega)
theorem dv_6 {M : MO} {k i : Nat} (hk : k ≤ 6) (h : ∀ j, i ≤ j → j < i + k → uB M j ≤ 57) : DV M k i 0 < 1000000 := by
  refine Nat.lt_of_lt_of_le (dv_lt k i 0 h) ?_
  rw [Nat.zero_add, Nat.one_mul]
  exact Nat.pow_le_pow_right (n := 10) (by decide) hk
theorem mnum_loop {A : TA} {P : CP} {M : MO} (hT : RT A P M) (H : SH) {x f n : Nat} (hx : x < 401) (hf : sh_fr H x = f) (hn : sh_mn H x = n) (hb : f + n ≤ mo_sz M) (hd : ∀ j, f ≤ j → j < f + n → ¬ s_Model_isDigit (nI (uB M j)) = 0) : ∀ k i v m, i + k = n → k < m → l_Model_number_5 M H x m (nI v) i = some (nI (DV M k (f + i) v)) := by
  have h2000 := hT.2.1
  intro k
  induction k with
  | zero =>
    intro i v m h1 h2
    obtain ⟨m', rfl⟩ := Nat.exists_eq_succ_of_ne_zero (show m ≠ 0 by omega)
    rw [l_Model_number_5, if_pos hx, hn, if_pos (nI_le (by omega) (by omega))]
    rfl
  | succ k ih =>
    intro i v m h1 h2
    obtain ⟨m', rfl⟩ := Nat.exists_eq_succ_of_ne_zero (show m ≠ 0 by omega)
    obtain ⟨u1, u2, -, -⟩ := uB_of hT H (show f + i < mo_sz M by omega)
    obtain ⟨c1, c2, -⟩ := dg_u _ u1 (hd (f + i) (by omega) (by omega))
    rw [l_Model_number_5, if_pos hx, hn, hf, if_neg (fun w => absurd ((nI_leI (by omega) (by omega)).mp w) (by omega)), if_pos hx, if_pos (by omega), u2, show (10 : Int32) * nI v = nI (10 * v) from (Int32.ofNat_mul 10 v).symm, nI_add, show (48 : Int32) = nI 48 from rfl, nI_subn (by omega), show 10 * v + uB M (f + i) - 48 = v * 10 + (uB M (f + i) - 48) by omega, DV]
    exact ih (i + 1) _ m' (by omega) (by omega)
theorem mnum_eq {A : TA} {P : CP} {M : MO} (hT : RT A P M) (H : SH) {x f n : Nat} (hx : x < 401) (hf : sh_fr H x = f) (hn : sh_mn H x = n) (hb : f + n ≤ mo_sz M) (hd : ∀ j, f ≤ j → j < f + n → ¬ s_Model_isDigit (nI (uB M j)) = 0) : s_Model_number M H x = some (nI (DV M n f 0)) := by
  have h2000 := hT.2.1
  exact mnum_loop hT H hx hf hn hb hd n 0 0 2001 (by omega) (by omega)
/-! a name's number: no other name has it -/
def val : List Nat → Nat
  | [] => 0
  | c :: t => c + 37 * val t
theorem val_inj : ∀ (l l' : List Nat), (∀ c, c ∈ l → 1 ≤ c ∧ c ≤ 36) → (∀ c, c ∈ l' → 1 ≤ c ∧ c ≤ 36) → val l = val l' → l = l'
  | [], [], _, _, _ => rfl
  | [], c :: t, _, h, e => by
    have := h c (List.mem_cons_self ..)
    unfold val at e
    omega
  | c :: t, [], h, _, e => by
    have := h c (List.mem_cons_self ..)
    unfold val at e
    omega
  | c :: t, c' :: t', h, h', e => by
    have a := h c (List.mem_cons_self ..)
    have b := h' c' (List.mem_cons_self ..)
    rw [val, val] at e
    rw [show c = c' by omega, val_inj t t' (fun x m => h x (List.mem_cons_of_mem _ m)) (fun x m => h' x (List.mem_cons_of_mem _ m)) (by omega)]
theorem val_lt : ∀ (l : List Nat), (∀ c, c ∈ l → c ≤ 36) → val l < 37 ^ l.length
  | [], _ => by decide
  | c :: t, h => by
    have a := h c (List.mem_cons_self ..)
    have b := val_lt t (fun x m => h x (List.mem_cons_of_mem _ m))
    rw [val, List.length_cons, Nat.pow_succ]
    omega
def LC (M : MO) : Nat → Nat → List Nat → List Nat
  | 0, _, acc => acc
  | k + 1, i, acc => LC M k (i + 1) (cd (uB M i) :: acc)
theorem nv_val {M : MO} : ∀ k i acc, NV M k i (val acc) = val (LC M k i acc)
  | 0, _, _ => rfl
  | k + 1, i, acc => by
    rw [NV, LC, ← nv_val k (i + 1), val, show val acc * 37 + cd (uB M i) = cd (uB M i) + 37 * val acc by omega]
theorem lc_app {M : MO} : ∀ k i acc, LC M k i acc = LC M k i [] ++ acc
  | 0, _, _ => rfl
  | k + 1, i, acc => by
    rw [LC, LC, lc_app k (i + 1) (cd (uB M i) :: acc), lc_app k (i + 1) [cd (uB M i)], List.append_assoc]
    rfl
theorem lc_len {M : MO} : ∀ k i, (LC M k i []).length = k
  | 0, _ => rfl
  | k + 1, i => by rw [LC, lc_app, List.length_append, lc_len k]; rfl
theorem lc_mem {M : MO} : ∀ k i, (∀ j, i ≤ j → j < i + k → 1 ≤ cd (uB M j) ∧ cd (uB M j) ≤ 36) → ∀ c, c ∈ LC M k i [] → 1 ≤ c ∧ c ≤ 36
  | 0, _, _, c, h => by cases h
  | k + 1, i, hc, c, h => by
    rw [LC, lc_app, List.mem_append] at h
    rcases h with h | h
    · exact lc_mem k (i + 1) (fun j a b => hc j (by omega) (by omega)) c h
    · rw [List.mem_singleton] at h
      rw [h]
      exact hc i (Nat.le_refl _) (by omega)
theorem lc_inj {M : MO} : ∀ k k' i i', LC M k i [] = LC M k' i' [] → k = k' ∧ ∀ j, j < k → cd (uB M (i + j)) = cd (uB M (i' + j)) := by
  intro k
  induction k with
  | zero =>
    intro k' i i' h
    have := congrArg List.length h
    rw [lc_len, lc_len] at this
    exact ⟨this, fun j hj => absurd hj (by omega)⟩
  | succ k ih =>
    intro k' i i' h
    have hl := congrArg List.length h
    rw [lc_len, lc_len] at hl
    subst hl
    rw [LC, LC, lc_app k (i + 1), lc_app k (i' + 1)] at h
    obtain ⟨h1, h2⟩ := List.append_inj' h (by rw [List.length_singleton, List.length_singleton])
    obtain ⟨-, h3⟩ := ih k (i + 1) (i' + 1) h1
    refine ⟨rfl, fun j hj => ?_⟩
    match j, hj with
    | 0, _ => exact (List.cons.inj h2).1
    | j + 1, hj =>
      have := h3 j (by omega)
      rw [show i + (j + 1) = i + 1 + j by omega, show i' + (j + 1) = i' + 1 + j by omega]
      exact this
theorem nv_congr {M : MO} : ∀ k i i' v, (∀ j, j < k → uB M (i + j) = uB M (i' + j)) → NV M k i v = NV M k i' v
  | 0, _, _, _, _ => rfl
  | k + 1, i, i', v, h => by
    rw [NV, NV, show uB M i = uB M i' from h 0 (by omega)]
    exact nv_congr k _ _ _ fun j hj => by
      have := h (j + 1) (by omega)
      rw [show i + 1 + j = i + (j + 1) by omega, show i' + 1 + j = i' + (j + 1) by omega]
      exact this
theorem name_iff {A : TA} {P : CP} {M : MO} (hT : RT A P M) (H : SH) {f n f' n' : Nat} (hb : f + n ≤ mo_sz M) (hb' : f' + n' ≤ mo_sz M) (h10 : n ≤ 10) (h10' : n' ≤ 10) (hc : ∀ j, f ≤ j → j < f + n → isC (uB M j)) (hc' : ∀ j, f' ≤ j → j < f' + n' → isC (uB M j)) : lN (NV M n f 0) = lN (NV M n' f' 0) ↔ (n = n' ∧ ∀ j, j < n → mo_ta M (f + j) = mo_ta M (f' + j)) := by
  constructor
  · intro h
    have bnd : ∀ {n f : Nat}, f + n ≤ mo_sz M → n ≤ 10 → (∀ j, f ≤ j → j < f + n → isC (uB M j)) → (∀ c, c ∈ LC M n f [] → 1 ≤ c ∧ c ≤ 36) ∧ NV M n f 0 < 2 ^ 64 := by
      intro n f a b c
      have m := lc_mem (M := M) n f fun j h1 h2 => by
        obtain ⟨u1, -⟩ := uB_of hT H (show j < mo_sz M by omega)
        obtain ⟨d1, d2, -⟩ := cd_u _ u1 (c j h1 h2)
        exact ⟨d1, d2⟩
      refine ⟨m, ?_⟩
      have e : NV M n f 0 = val (LC M n f []) := nv_val n f []
      rw [e]
      refine Nat.lt_of_lt_of_le (val_lt _ fun c h => (m c h).2) ?_
      rw [lc_len]
      exact Nat.le_trans (Nat.pow_le_pow_right (n := 37) (by decide) b) (by decide)
    obtain ⟨m1, b1⟩ := bnd hb h10 hc
    obtain ⟨m2, b2⟩ := bnd hb' h10' hc'
    have e : NV M n f 0 = NV M n' f' 0 := by rw [← lN_in b1, ← lN_in b2, h]
    rw [show NV M n f 0 = val (LC M n f []) from nv_val n f [], show NV M n' f' 0 = val (LC M n' f' []) from nv_val n' f' []] at e
    obtain ⟨q1, q2⟩ := lc_inj _ _ _ _ (val_inj _ _ m1 m2 e)
    refine ⟨q1, fun j hj => ?_⟩
    obtain ⟨u1, u2, -⟩ := uB_of hT H (show f + j < mo_sz M by omega)
    obtain ⟨v1, v2, -⟩ := uB_of hT H (show f' + j < mo_sz M by omega)
    obtain ⟨-, -, d1⟩ := cd_u _ u1 (hc _ (by omega) (by omega))
    obtain ⟨-, -, d2⟩ := cd_u _ v1 (hc' _ (by omega) (by omega))
    rw [u2, v2, ← d1, ← d2, q2 j hj]
  · rintro ⟨rfl, h⟩
    rw [nv_congr n f f' 0 fun j hj => by unfold uB; rw [h j hj]]
theorem same_loop {A : TA} {P : CP} {M : MO} (hT : RT A P M) (H : SH) {x y f f' n : Nat} (hx : x < 401) (hy : y < 401) (hf : sh_fr H x = f) (hn : sh_mn H x = n) (hf' : sh_fr H y = f') (hb : f + n ≤ 2000) (hb' : f' + n ≤ 2000) : ∀ k i m, i + k = n → k + 1 < m → (l_Model_areSame_25 M H x y m 1 i = some 1 ∧ ∀ j, i ≤ j → j < n → mo_ta M (f + j) = mo_ta M (f' + j)) ∨ (l_Model_areSame_25 M H x y m 1 i = some 0 ∧ ¬ ∀ j, i ≤ j → j < n → mo_ta M (f + j) = mo_ta M (f' + j)) := by
  intro k
  induction k with
  | zero =>
    intro i m h1 h2
    obtain ⟨m', rfl⟩ := Nat.exists_eq_succ_of_ne_zero (show m ≠ 0 by omega)
    rw [l_Model_areSame_25, if_neg (by decide), if_pos hx, hn, if_pos (nI_le (by omega) (by omega)), if_pos (by decide)]
    exact .inl ⟨rfl, fun j a b => absurd b (by omega)⟩
  | succ k ih =>
    intro i m h1 h2
    obtain ⟨m', rfl⟩ := Nat.exists_eq_succ_of_ne_zero (show m ≠ 0 by omega)
    rw [l_Model_areSame_25, if_neg (by decide), if_pos hx, hn, if_neg (fun w => absurd ((nI_leI (by omega) (by omega)).mp w) (by omega)), if_pos hx, hf, if_pos (by omega), if_pos hy, hf', if_pos (by omega)]
    by_cases e : mo_ta M (f + i) = mo_ta M (f' + i)
    · rw [if_pos e]
      rcases ih (i + 1) m' (by omega) (by omega) with ⟨r1, r2⟩ | ⟨r1, r2⟩
      · refine .inl ⟨r1, fun j a b => ?_⟩
        by_cases ej : j = i
        · rw [ej]; exact e
        · exact r2 j (by omega) b
      · exact .inr ⟨r1, fun w => r2 fun j a b => w j (by omega) b⟩
    · rw [if_neg e]
      refine .inr ⟨?_, fun w => e (w i (Nat.le_refl _) (by omega))⟩
      obtain ⟨m2, rfl⟩ := Nat.exists_eq_succ_of_ne_zero (show m' ≠ 0 by omega)
      rw [l_Model_areSame_25, if_pos rfl, if_pos (by decide)]
theorem same_eq {A : TA} {P : CP} {M : MO} (hT : RT A P M) (H : SH) {x y f f' n n' : Nat} (hx : x < 401) (hy : y < 401) (hf : sh_fr H x = f) (hn : sh_mn H x = n) (hf' : sh_fr H y = f') (hn' : sh_mn H y = n') (hb : f + n ≤ 2000) (hb' : f' + n' ≤ 2000) (h1000 : n ≤ 1000) : (s_Model_areSame M H x y = some 1 ∧ n = n' ∧ ∀ j, j < n → mo_ta M (f + j) = mo_ta M (f' + j)) ∨ (s_Model_areSame M H x y = some 0 ∧ ¬ (n = n' ∧ ∀ j, j < n → mo_ta M (f + j) = mo_ta M (f' + j))) := by
  unfold s_Model_areSame
  rw [if_pos hx, if_pos hy, hn, hn']
  by_cases e : n = n'
  · subst e
    rw [if_pos rfl]
    rcases same_loop hT H hx hy hf hn hf' hb hb' n 0 2001 (by omega) (by omega) with ⟨r1, r2⟩ | ⟨r1, r2⟩
    · exact .inl ⟨r1, rfl, fun j h => r2 j (by omega) h⟩
    · exact .inr ⟨r1, fun w => r2 fun j _ h => w.2 j h⟩
  · rw [if_neg (fun w => e ((nI_eq (by omega) (by omega)).mp w))]
    exact .inr ⟨by rw [l_Model_areSame_25, if_pos rfl, if_pos (by decide)], fun w => e w.1⟩
