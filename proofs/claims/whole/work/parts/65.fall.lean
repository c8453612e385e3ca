/-! the pure part: falling and crossing -/
def topw (W : Nat → Prop) [DecidablePred W] : Nat → Int32
  | 0 => -1
  | k + 1 => if W k then nI k else topw W k
def loww (W : Nat → Prop) [DecidablePred W] : Nat → Nat → Int32
  | 0, _ => -1
  | k + 1, i => if W i then nI i else loww W k (i + 1)
abbrev WK (M : MO) (H : SH) (Y : SX) (t : Nat) (x : Int32) (i : Nat) : Prop := sh_ab H i = s_Model_wayOf Y t x ∧ ¬ s_Model_isWeak M H Y i t = 0
theorem topw_lt {W : Nat → Prop} [DecidablePred W] : ∀ k, topw W k = -1 ∨ ∃ j, j < k ∧ topw W k = nI j ∧ W j := by
  intro k
  induction k with
  | zero => exact Or.inl rfl
  | succ k ih =>
    unfold topw
    by_cases h : W k
    · rw [if_pos h]; exact Or.inr ⟨k, by omega, rfl, h⟩
    · rw [if_neg h]
      rcases ih with ih | ⟨j, h1, h2, h3⟩
      · exact Or.inl ih
      · exact Or.inr ⟨j, by omega, h2, h3⟩
theorem loww_lt {W : Nat → Prop} [DecidablePred W] : ∀ k i, loww W k i = -1 ∨ ∃ j, j < i + k ∧ loww W k i = nI j ∧ W j := by
  intro k
  induction k with
  | zero => intro i; exact Or.inl rfl
  | succ k ih =>
    intro i
    unfold loww
    by_cases h : W i
    · rw [if_pos h]; exact Or.inr ⟨i, by omega, rfl, h⟩
    · rw [if_neg h]
      rcases ih (i + 1) with ih | ⟨j, h1, h2, h3⟩
      · exact Or.inl ih
      · exact Or.inr ⟨j, by omega, h2, h3⟩
theorem weak_iff {σ : GL} {H : SH} {Y : SX} {M : MO} {i t : Nat} {x : Int32} (hB : RB σ H Y) (hC : RC H) (hi : i < sh_ha H 6) (ht : t < sh_ha H 11) : s_Glacier_isTooWeak σ (nI i) (nI t) x = 0 ↔ ¬ WK M H Y t x i := by
  rw [weak_eq (M := M) hB hC hi ht]
  by_cases h : sh_ab H i = s_Model_wayOf Y t x
  · rw [if_pos h]
    exact ⟨fun w v => v.2 w, fun w => Decidable.byContradiction fun v => w ⟨h, v⟩⟩
  · rw [if_neg h]
    exact ⟨fun _ v => h v.1, fun _ => rfl⟩
theorem fallC_0 {σ : GL} {H : SH} {Y : SX} {M : MO} {t : Nat} (hB : RB σ H Y) (hC : RC H) (ht : t < sh_ha H 11) : ∀ k i, i + k = sh_ha H 6 → l_Glacier_fallingPlace_13 (nI t) 0 σ k i = topw (WK M H Y t 0) k := by
  have h6 : sh_ha H 6 ≤ 4 := hC.2.2.1
  have hn : gN σ 2 = sh_ha H 6 := hB.1.2.2.1
  intro k
  induction k with
  | zero => intro i _; rfl
  | succ k ih =>
    intro i h
    show (if (0 : Int32) = 0 then (if s_Glacier_isTooWeak σ ((nI (gN σ 2) - 1) - (nI i)) (nI t) 0 = 0 then l_Glacier_fallingPlace_13 (nI t) 0 σ k (i + 1) else ((nI (gN σ 2) - 1) - (nI i))) else (if s_Glacier_isTooWeak σ (nI i) (nI t) 0 = 0 then l_Glacier_fallingPlace_13 (nI t) 0 σ k (i + 1) else nI i)) = (if WK M H Y t 0 k then nI k else topw (WK M H Y t 0) k)
    rw [if00, ih (i + 1) (by omega), hn, nI_pred1 (by omega), nI_subn (by omega), show sh_ha H 6 - 1 - i = k by omega]
    by_cases w : WK M H Y t 0 k
    · rw [if_pos w, if_neg (fun v => (weak_iff (M := M) hB hC (by omega) ht).mp v w)]
    · rw [if_neg w, if_pos ((weak_iff (M := M) hB hC (by omega) ht).mpr w)]
theorem fallC_1 {σ : GL} {H : SH} {Y : SX} {M : MO} {t : Nat} {x : Int32} (hx : ¬ x = 0) (hB : RB σ H Y) (hC : RC H) (ht : t < sh_ha H 11) : ∀ k i, i + k = sh_ha H 6 → l_Glacier_fallingPlace_13 (nI t) x σ k i = loww (WK M H Y t x) k i := by
  intro k
  induction k with
  | zero => intro i _; rfl
  | succ k ih =>
    intro i h
    show (if x = 0 then (if s_Glacier_isTooWeak σ ((nI (gN σ 2) - 1) - (nI i)) (nI t) x = 0 then l_Glacier_fallingPlace_13 (nI t) x σ k (i + 1) else ((nI (gN σ 2) - 1) - (nI i))) else (if s_Glacier_isTooWeak σ (nI i) (nI t) x = 0 then l_Glacier_fallingPlace_13 (nI t) x σ k (i + 1) else nI i)) = (if WK M H Y t x i then nI i else loww (WK M H Y t x) k (i + 1))
    rw [if_neg hx, ih (i + 1) (by omega)]
    by_cases w : WK M H Y t x i
    · rw [if_pos w, if_neg (fun v => (weak_iff (M := M) hB hC (by omega) ht).mp v w)]
    · rw [if_neg w, if_pos ((weak_iff (M := M) hB hC (by omega) ht).mpr w)]
theorem trap_0 {H : SH} {Y : SX} {M : MO} {t : Nat} : ∀ k i, l_Model_trap_14 M H Y t 0 (s_Model_wayOf Y t 0) k i (topw (WK M H Y t 0) i) = topw (WK M H Y t 0) (i + k) := by
  intro k
  induction k with
  | zero => intro i; rfl
  | succ k ih =>
    intro i
    show (if sh_ab H i = s_Model_wayOf Y t 0 then (if s_Model_isWeak M H Y i t = 0 then l_Model_trap_14 M H Y t 0 (s_Model_wayOf Y t 0) k (i + 1) (topw (WK M H Y t 0) i) else (if (0 : Int32) = 0 then l_Model_trap_14 M H Y t 0 (s_Model_wayOf Y t 0) k (i + 1) (nI i) else nI i)) else l_Model_trap_14 M H Y t 0 (s_Model_wayOf Y t 0) k (i + 1) (topw (WK M H Y t 0) i)) = _
    have e : topw (WK M H Y t 0) (i + 1) = if WK M H Y t 0 i then nI i else topw (WK M H Y t 0) i := rfl
    rw [show i + (k + 1) = i + 1 + k by omega, ← ih (i + 1), e]
    by_cases h1 : sh_ab H i = s_Model_wayOf Y t 0
    · by_cases h2 : s_Model_isWeak M H Y i t = 0
      · rw [if_pos h1, if_pos h2, if_neg (fun w => w.2 h2)]
      · rw [if_pos h1, if_neg h2, if00, if_pos ⟨h1, h2⟩]
    · rw [if_neg h1, if_neg (fun w => h1 w.1)]
theorem trap_1 {H : SH} {Y : SX} {M : MO} {t : Nat} {x : Int32} (hx : ¬ x = 0) : ∀ k i, l_Model_trap_14 M H Y t x (s_Model_wayOf Y t x) k i (-1) = loww (WK M H Y t x) k i := by
  intro k
  induction k with
  | zero => intro i; rfl
  | succ k ih =>
    intro i
    show (if sh_ab H i = s_Model_wayOf Y t x then (if s_Model_isWeak M H Y i t = 0 then l_Model_trap_14 M H Y t x (s_Model_wayOf Y t x) k (i + 1) (-1) else (if x = 0 then l_Model_trap_14 M H Y t x (s_Model_wayOf Y t x) k (i + 1) (nI i) else nI i)) else l_Model_trap_14 M H Y t x (s_Model_wayOf Y t x) k (i + 1) (-1)) = (if WK M H Y t x i then nI i else loww (WK M H Y t x) k (i + 1))
    rw [ih (i + 1)]
    by_cases h1 : sh_ab H i = s_Model_wayOf Y t x
    · by_cases h2 : s_Model_isWeak M H Y i t = 0
      · rw [if_pos h1, if_pos h2, if_neg (fun w => w.2 h2)]
      · rw [if_pos h1, if_neg h2, if_neg hx, if_pos ⟨h1, h2⟩]
    · rw [if_neg h1, if_neg (fun w => h1 w.1)]
theorem fall_eq {σ : GL} {H : SH} {Y : SX} {M : MO} {t : Nat} {x : Int32} (hB : RB σ H Y) (hC : RC H) (ht : t < sh_ha H 11) : s_Glacier_fallingPlace σ (nI t) x = s_Model_trap M H Y t x ∧ (s_Model_trap M H Y t x = -1 ∨ ∃ j, j < sh_ha H 6 ∧ s_Model_trap M H Y t x = nI j) := by
  unfold s_Glacier_fallingPlace s_Model_trap
  rw [show gN σ 2 = sh_ha H 6 from hB.1.2.2.1]
  by_cases hx : x = 0
  · subst hx
    have e := trap_0 (M := M) (H := H) (Y := Y) (t := t) (sh_ha H 6) 0
    rw [Nat.zero_add, show topw (WK M H Y t 0) 0 = -1 from rfl] at e
    rw [e, fallC_0 (M := M) hB hC ht _ 0 (by omega)]
    refine ⟨rfl, ?_⟩
    rcases topw_lt (W := WK M H Y t 0) (sh_ha H 6) with h | ⟨j, h1, h2, -⟩
    · exact Or.inl h
    · exact Or.inr ⟨j, h1, h2⟩
  · rw [trap_1 hx, fallC_1 (M := M) hx hB hC ht _ 0 (by omega)]
    refine ⟨rfl, ?_⟩
    rcases loww_lt (W := WK M H Y t x) (sh_ha H 6) 0 with h | ⟨j, h1, h2, -⟩
    · exact Or.inl h
    · exact Or.inr ⟨j, by omega, h2⟩
