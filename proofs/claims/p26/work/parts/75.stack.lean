/-! sums and tests: the class's stack of values as a list, its stretches of signs as steps on it -/
theorem upd_at (f : Nat → Int32) (n : Nat) (x : Int32) : upd f n x n = x := if_pos rfl
theorem upd_ne (f : Nat → Int32) (x : Int32) {n i : Nat} (h : i ≠ n) : upd f n x i = f i := if_neg h
def stk (f : Nat → Int32) : List Int32 → Prop
  | [] => True
  | v :: t => f t.length = v ∧ stk f t
theorem stk_upd {f : Nat → Int32} {n : Nat} {x : Int32} : ∀ {l : List Int32}, l.length ≤ n → stk f l → stk (upd f n x) l
  | [], _, _ => trivial
  | v :: t, hn, h => by
    rw [List.length_cons] at hn
    exact ⟨(upd_ne _ _ (by omega)).trans h.1, stk_upd (by omega) h.2⟩
/-- the signs stay as they are -/
def FK (F F' : FM) : Prop := fm_sg F' = fm_sg F ∧ fm_op F' = fm_op F ∧ fm_sz F' = fm_sz F
theorem FK.refl (F : FM) : FK F F := ⟨rfl, rfl, rfl⟩
theorem FK.trans {F F' F'' : FM} (h : FK F F') (h2 : FK F' F'') : FK F F'' := ⟨h2.1.trans h.1, h2.2.1.trans h.2.1, h2.2.2.trans h.2.2⟩
theorem push_eq {F : FM} {l : List Int32} {x : Int32} (h : stk (fm_st F) l) (ht : fm_top F = nI l.length) (hl : l.length < 800) : FK F (s_Formulas_push F x) ∧ stk (fm_st (s_Formulas_push F x)) (x :: l) ∧ fm_top (s_Formulas_push F x) = nI (l.length + 1) := by
  unfold s_Formulas_push
  rw [ht, if_neg (nI_pos (by omega)), if_neg (fun w => absurd ((nI_leI (by omega) (by omega)).mp w) (by omega)), nI_clamp (by omega)]
  exact ⟨⟨rfl, rfl, rfl⟩, ⟨upd_at _ _ _, stk_upd (Nat.le_refl _) h⟩, nI_1 _⟩
theorem pop_eq {F : FM} {l : List Int32} (h : stk (fm_st F) l) (ht : fm_top F = nI l.length) (hl : l.length ≤ 800) : (s_Formulas_pop F).1 = l.headD 0 ∧ FK F (s_Formulas_pop F).2 ∧ stk (fm_st (s_Formulas_pop F).2) l.tail ∧ fm_top (s_Formulas_pop F).2 = nI l.tail.length := by
  unfold s_Formulas_pop
  match l, h, ht, hl with
  | [], _, ht, _ =>
    rw [if_pos (show fm_top F ≤ 0 by rw [ht]; decide)]
    exact ⟨rfl, FK.refl _, trivial, ht⟩
  | v :: t, h, ht, hl =>
    rw [List.length_cons] at ht hl
    rw [ht, if_neg (nI_nle (by omega) (by omega)), if_pos (nI_le (by omega) (by omega)), nI_pred, nI_clamp (by omega)]
    exact ⟨h.1, ⟨rfl, rfl, rfl⟩, h.2, rfl⟩
def stp (σ : GL) (g : Fin 54) (o : Int32) (l : List Int32) : List Int32 := if g.val = 51 then o :: l else if sgk g.val = 0 then s_Glacier_valueOf σ g o :: l else if sgk g.val = 1 then (1 - l.headD 0) :: l.tail else s_Formulas_joined g (l.tail.headD 0) (l.headD 0) :: l.tail.tail
def run (σ : GL) (F : FM) : Nat → Nat → List Int32 → List Int32
  | 0, _, l => l
  | k + 1, i, l => run σ F k (i + 1) (stp σ ((fm_sg F i).getD 0) (fm_op F i) l)
theorem run_ext {σ : GL} {F F' : FM} : ∀ k i l, (∀ j, i ≤ j → j < i + k → fm_sg F' j = fm_sg F j ∧ fm_op F' j = fm_op F j) → run σ F' k i l = run σ F k i l
  | 0, _, _, _ => rfl
  | k + 1, i, l, h => by
    unfold run
    rw [(h i (by omega) (by omega)).1, (h i (by omega) (by omega)).2]
    exact run_ext k (i + 1) _ (fun j h1 h2 => h j (by omega) (by omega))
theorem run_fk {σ : GL} {F F' : FM} (h : FK F F') (k i : Nat) (l : List Int32) : run σ F' k i l = run σ F k i l :=
  run_ext k i l (fun j _ _ => ⟨by rw [h.1], by rw [h.2.1]⟩)
theorem run_add {σ : GL} {F : FM} : ∀ m n i l, run σ F (m + n) i l = run σ F n (i + m) (run σ F m i l)
  | 0, n, i, l => by rw [Nat.zero_add]; rfl
  | m + 1, n, i, l => by
    rw [show m + 1 + n = (m + n) + 1 from by omega]
    show run σ F (m + n) (i + 1) _ = run σ F n (i + (m + 1)) (run σ F m (i + 1) _)
    rw [run_add m n (i + 1), show i + 1 + m = i + (m + 1) from by omega]
theorem tail_len (l : List Int32) : l.tail.length ≤ l.length := by cases l <;> simp
theorem worth_loop {σ : GL} {x1 : Int32} {b : Nat} (hb : b ≤ 800) : ∀ k i (F : FM) (l : List Int32), i + k = 800 → l.length ≤ i → stk (fm_st F) l → fm_top F = nI l.length → (∀ j, i ≤ j → j < b → ¬ fm_sg F j = none) → (l_Formulas_worth_8 σ x1 (nI b) k i F).1 = (run σ F (b - i) i l).headD 0 ∧ FK F (l_Formulas_worth_8 σ x1 (nI b) k i F).2 := by
  intro k
  induction k with
  | zero =>
    intro i F l hi hl h ht hs
    unfold l_Formulas_worth_8
    rw [ite_self, show b - i = 0 by omega]
    obtain ⟨p1, p2, -, -⟩ := pop_eq h ht (by omega)
    exact ⟨p1, p2⟩
  | succ k ih =>
    intro i F l hi hl h ht hs
    unfold l_Formulas_worth_8
    by_cases hbi : b ≤ i
    · rw [if_pos (nI_le hbi (by omega)), show b - i = 0 by omega]
      obtain ⟨p1, p2, -, -⟩ := pop_eq h ht (by omega)
      exact ⟨p1, p2⟩
    · rw [if_neg (fun w => hbi ((nI_leI (by omega) (by omega)).mp w)), if_neg (hs i (Nat.le_refl _) (by omega)), show b - i = (b - (i + 1)) + 1 by omega]
      show _ = (run σ F (b - (i + 1)) (i + 1) (stp σ ((fm_sg F i).getD 0) (fm_op F i) l)).headD 0 ∧ _
      have fin : ∀ {F' : FM} {l' : List Int32}, FK F F' → stk (fm_st F') l' → fm_top F' = nI l'.length → l'.length ≤ i + 1 → (l_Formulas_worth_8 σ x1 (nI b) k (i + 1) F').1 = (run σ F (b - (i + 1)) (i + 1) l').headD 0 ∧ FK F (l_Formulas_worth_8 σ x1 (nI b) k (i + 1) F').2 := by
        intro F' l' w1 w2 w3 w4
        obtain ⟨e1, e2⟩ := ih (i + 1) F' l' (by omega) w4 w2 w3 (fun j h1 h2 => by rw [w1.1]; exact hs j (by omega) h2)
        exact ⟨by rw [e1, run_fk w1], w1.trans e2⟩
      unfold stp
      have tl := tail_len l
      have tl2 := tail_len l.tail
      by_cases g1 : ((fm_sg F i).getD 0).val = 51
      · rw [if_pos g1, if_pos g1]
        obtain ⟨q1, q2, q3⟩ := push_eq (x := fm_op F i) h ht (by omega)
        exact fin q1 q2 q3 (by rw [List.length_cons]; omega)
      rw [if_neg g1, if_neg g1]
      by_cases g2 : sgk ((fm_sg F i).getD 0).val = 0
      · rw [if_pos g2, if_pos g2]
        obtain ⟨q1, q2, q3⟩ := push_eq (x := s_Glacier_valueOf σ ((fm_sg F i).getD 0) (fm_op F i)) h ht (by omega)
        exact fin q1 q2 q3 (by rw [List.length_cons]; omega)
      rw [if_neg g2, if_neg g2]
      obtain ⟨p1, p2, p3, p4⟩ := pop_eq h ht (by omega)
      by_cases g3 : sgk ((fm_sg F i).getD 0).val = 1
      · rw [if_pos g3, if_pos g3, p1]
        obtain ⟨q1, q2, q3⟩ := push_eq (x := 1 - l.headD 0) p3 p4 (by omega)
        exact fin (p2.trans q1) q2 q3 (by rw [List.length_cons]; omega)
      · rw [if_neg g3, if_neg g3, p1]
        obtain ⟨r1, r2, r3, r4⟩ := pop_eq p3 p4 (by omega)
        rw [r1]
        obtain ⟨q1, q2, q3⟩ := push_eq (x := s_Formulas_joined ((fm_sg F i).getD 0) (l.tail.headD 0) (l.headD 0)) r3 r4 (by omega)
        exact fin ((p2.trans r2).trans q1) q2 q3 (by rw [List.length_cons]; omega)
theorem worth_eq {σ : GL} {F : FM} {a b : Nat} (ha : a < 800) (hb : b ≤ 800) (hs : ∀ j, a ≤ j → j < b → ¬ fm_sg F j = none) : (s_Formulas_worth σ F (nI a) (nI b)).1 = (run σ F (b - a) a []).headD 0 ∧ FK F (s_Formulas_worth σ F (nI a) (nI b)).2 := by
  unfold s_Formulas_worth
  rw [if_neg (nI_pos (by omega)), if_neg (fun w => absurd ((nI_leI (by omega) (by omega)).mp w) (by omega)), nI_clamp (by omega)]
  obtain ⟨e1, e2⟩ := worth_loop (σ := σ) (x1 := nI a) hb (800 - a) a (fm_top' F 0) [] (by omega) (by simp) trivial rfl hs
  exact ⟨e1.trans (by rw [run_fk (F := F) (F' := fm_top' F 0) ⟨rfl, rfl, rfl⟩]), e2⟩
