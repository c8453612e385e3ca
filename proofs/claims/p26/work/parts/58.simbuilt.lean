/-! the law's own glacier while it is being listed -/
/-- addresses; how many rows; the rows so far; warmths -/
abbrev BS : Type := (Nat → Nat → Nat) × (Nat → Nat) × (Nat → List (Nat → Int32)) × (Nat → Int32)
abbrev b_ad (B : BS) : Nat → Nat → Nat := B.1
abbrev b_cn (B : BS) : Nat → Nat := B.2.1
abbrev b_rs (B : BS) : Nat → List (Nat → Int32) := B.2.2.1
abbrev b_wa (B : BS) : Nat → Int32 := B.2.2.2
def okB (B : BS) (k r : Nat) : Prop := (k < 6 ∧ r < (b_rs B k).length) ∨ (k = 6 ∧ r = 0) ∨ (k = 7 ∧ r = 0) ∨ (k = 8 ∧ r < 6)
abbrev bsO (B : BS) : va_E := .inr (9, [.int 0, .int 0, .int 0, .int 0, .ref (b_ad B 7 0), .ref (b_ad B 8 0), .ref (b_ad B 8 1), .ref (b_ad B 8 2), .ref (b_ad B 8 3), .ref (b_ad B 8 4), .ref (b_ad B 8 5)])
def bsE (Γ : G9) (B : BS) (k r : Nat) : va_E := if k < 6 then aI Γ (wdt k) ((b_rs B k).getD r (fun _ => 0)) else if k = 6 then bsO B else if k = 7 then aI Γ 8 (b_wa B) else aA Γ (b_cn B r) (fun j => if j < (b_rs B r).length then some (b_ad B r j) else none)
def SimB (Γ : G9) (h : AH) (B : BS) : Prop := (∀ k r, okB B k r → h (b_ad B k r) = some (bsE Γ B k r)) ∧ ∀ k r k' r', okB B k r → okB B k' r' → b_ad B k r = b_ad B k' r' → k = k' ∧ r = r'
/-- one more row of matrix k, at z -/
def bsRow (B : BS) (k z : Nat) (f : Nat → Int32) : BS := (fun k' r' => if k' = k ∧ r' = (b_rs B k).length then z else b_ad B k' r', b_cn B, fun k' => if k' = k then b_rs B k ++ [f] else b_rs B k', b_wa B)
/-- a new outer row of matrix k, n long, at z -/
def bsOut (B : BS) (k z n : Nat) : BS := (fun k' r' => if k' = 8 ∧ r' = k then z else b_ad B k' r', fun k' => if k' = k then n else b_cn B k', b_rs B, b_wa B)
def bsWar (B : BS) (f : Nat → Int32) : BS := (b_ad B, b_cn B, b_rs B, f)
section Bs
variable {Γ : G9} {h : AH} {B : BS} {z : Nat}
theorem SimB.obj (hB : SimB Γ h B) : h (b_ad B 6 0) = some (bsO B) := hB.1 6 0 (Or.inr (Or.inl ⟨rfl, rfl⟩))
theorem SimB.war (hB : SimB Γ h B) : h (b_ad B 7 0) = some (aI Γ 8 (b_wa B)) := hB.1 7 0 (Or.inr (Or.inr (Or.inl ⟨rfl, rfl⟩)))
theorem SimB.out (hB : SimB Γ h B) {k : Nat} (hk : k < 6) : h (b_ad B 8 k) = some (aA Γ (b_cn B k) (fun j => if j < (b_rs B k).length then some (b_ad B k j) else none)) := hB.1 8 k (Or.inr (Or.inr (Or.inr ⟨rfl, hk⟩)))
theorem SimB.row (hB : SimB Γ h B) {k r : Nat} (hk : k < 6) (hr : r < (b_rs B k).length) : h (b_ad B k r) = some (aI Γ (wdt k) ((b_rs B k).getD r (fun _ => 0))) := by
  rw [hB.1 k r (Or.inl ⟨hk, hr⟩)]
  unfold bsE
  rw [if_pos hk]
theorem SimB.ext {h2 : AH} (hB : SimB Γ h B) (he : Ext h h2) : SimB Γ h2 B := ⟨fun k r hk => he _ _ (hB.1 k r hk), hB.2⟩
theorem okB_row {k : Nat} {f : Nat → Int32} {k' r' : Nat} (hk : okB (bsRow B k z f) k' r') : (k' = k ∧ k < 6 ∧ r' = (b_rs B k).length) ∨ (okB B k' r' ∧ ¬ (k' = k ∧ r' = (b_rs B k).length)) ∨ (k' = k ∧ ¬ k < 6 ∧ okB B k' r') := by
  rcases hk with ⟨h1, h2⟩ | h1 | h1 | h1
  · have h2 : r' < (if k' = k then b_rs B k ++ [f] else b_rs B k').length := h2
    by_cases e : k' = k
    · subst e
      rw [if_pos rfl, List.length_append, List.length_singleton] at h2
      by_cases e2 : r' = (b_rs B k').length
      · exact Or.inl ⟨rfl, h1, e2⟩
      · exact Or.inr (Or.inl ⟨Or.inl ⟨h1, by omega⟩, fun w => e2 w.2⟩)
    · rw [if_neg e] at h2
      exact Or.inr (Or.inl ⟨Or.inl ⟨h1, h2⟩, fun w => e w.1⟩)
  · by_cases e : k' = k
    · exact Or.inr (Or.inr ⟨e, by omega, Or.inr (Or.inl h1)⟩)
    · exact Or.inr (Or.inl ⟨Or.inr (Or.inl h1), fun w => e w.1⟩)
  · by_cases e : k' = k
    · exact Or.inr (Or.inr ⟨e, by omega, Or.inr (Or.inr (Or.inl h1))⟩)
    · exact Or.inr (Or.inl ⟨Or.inr (Or.inr (Or.inl h1)), fun w => e w.1⟩)
  · by_cases e : k' = k
    · exact Or.inr (Or.inr ⟨e, by omega, Or.inr (Or.inr (Or.inr h1))⟩)
    · exact Or.inr (Or.inl ⟨Or.inr (Or.inr (Or.inr h1)), fun w => e w.1⟩)
theorem getD_app_l {l : List (Nat → Int32)} {f d : Nat → Int32} {r : Nat} (h : r < l.length) : (l ++ [f]).getD r d = l.getD r d := by
  rw [List.getD_eq_getElem?_getD, List.getD_eq_getElem?_getD, List.getElem?_append_left h]
theorem getD_app_r {l : List (Nat → Int32)} {f d : Nat → Int32} : (l ++ [f]).getD l.length d = f := by
  rw [List.getD_eq_getElem?_getD, List.getElem?_append_right (Nat.le_refl _), Nat.sub_self]
  rfl
theorem bsE_row {k : Nat} {f : Nat → Int32} (hk : k < 6) {k' r' : Nat} (ho : okB B k' r') (hn : ¬ (k' = k ∧ r' = (b_rs B k).length)) (h8 : ¬ (k' = 8 ∧ r' = k)) : bsE Γ (bsRow B k z f) k' r' = bsE Γ B k' r' := by
  unfold bsE
  rcases ho with ⟨h1, h2⟩ | ⟨h1, h2⟩ | ⟨h1, h2⟩ | ⟨h1, h2⟩
  · rw [if_pos h1, if_pos h1]
    show aI Γ (wdt k') ((if k' = k then b_rs B k ++ [f] else b_rs B k').getD r' _) = _
    by_cases e : k' = k
    · subst e
      rw [if_pos rfl, getD_app_l h2]
    · rw [if_neg e]
  · subst h1
    rw [if_neg (by decide), if_pos rfl, if_neg (by decide), if_pos rfl]
    unfold bsRow bsO
    dsimp only [b_ad]
    have e7 : ¬ ((7 : Nat) = k ∧ 0 = (b_rs B k).length) := fun w => absurd w.1 (by omega)
    have e8 : ∀ j : Nat, ¬ ((8 : Nat) = k ∧ j = (b_rs B k).length) := fun j w => absurd w.1 (by omega)
    rw [if_neg e7, if_neg (e8 0), if_neg (e8 1), if_neg (e8 2), if_neg (e8 3), if_neg (e8 4), if_neg (e8 5)]
  · subst h1
    rw [if_neg (by decide), if_neg (by decide), if_pos rfl, if_neg (by decide), if_neg (by decide), if_pos rfl]
    rfl
  · subst h1
    have hr : ¬ r' = k := fun w => h8 ⟨rfl, w⟩
    rw [if_neg (by decide), if_neg (by decide), if_neg (by decide), if_neg (by decide), if_neg (by decide), if_neg (by decide)]
    show aA Γ (b_cn B r') (fun j => if j < (if r' = k then b_rs B k ++ [f] else b_rs B r').length then some (if r' = k ∧ j = (b_rs B k).length then z else b_ad B r' j) else none) = _
    rw [if_neg hr]
    congr 2
    funext j
    by_cases ej : j < (b_rs B r').length
    · rw [if_pos ej, if_pos ej, if_neg (fun w => hr w.1)]
    · rw [if_neg ej, if_neg ej]
theorem SimB.addRow (hB : SimB Γ h B) (hz : h z = none) {k : Nat} {f : Nat → Int32} (hk : k < 6) : SimB Γ (hup (hup h z (aI Γ (wdt k) f)) (b_ad B 8 k) (aA Γ (b_cn B k) (va_up (fun j => if j < (b_rs B k).length then some (b_ad B k j) else none) (b_rs B k).length (some z)))) (bsRow B k z f) := by
  have h8 : okB B 8 k := Or.inr (Or.inr (Or.inr ⟨rfl, hk⟩))
  have hz8 : z ≠ b_ad B 8 k := fun w => by rw [w, hB.out hk] at hz; cases hz
  have hne : ∀ {k' r'}, okB B k' r' → b_ad B k' r' ≠ z := fun {k' r'} ho w => by have := hB.1 k' r' ho; rw [w, hz] at this; cases this
  have had : ∀ {k' r'}, okB B k' r' → ¬ (k' = k ∧ r' = (b_rs B k).length) → b_ad (bsRow B k z f) k' r' = b_ad B k' r' := fun {k' r'} _ hn => if_neg hn
  have hnew : ∀ {k' r'}, okB (bsRow B k z f) k' r' → (k' = k ∧ r' = (b_rs B k).length) ∨ (okB B k' r' ∧ ¬ (k' = k ∧ r' = (b_rs B k).length)) := by
    intro k' r' ho
    rcases okB_row ho with ⟨h1, -, h2⟩ | h1 | ⟨h1, h2, -⟩
    · exact Or.inl ⟨h1, h2⟩
    · exact Or.inr h1
    · exact absurd hk h2
  refine ⟨fun k' r' ho => ?_, fun k1 r1 k2 r2 ho1 ho2 he => ?_⟩
  · rcases hnew ho with ⟨rfl, rfl⟩ | ⟨h1, h2⟩
    · have e1 : b_ad (bsRow B k' z f) k' (b_rs B k').length = z := if_pos ⟨rfl, rfl⟩
      rw [e1, hup_ne hz8, hup_at]
      unfold bsE
      rw [if_pos hk]
      show some (aI Γ (wdt k') f) = some (aI Γ (wdt k') ((if k' = k' then b_rs B k' ++ [f] else b_rs B k').getD (b_rs B k').length _))
      rw [if_pos rfl, getD_app_r]
    · rw [had h1 h2]
      by_cases h9 : k' = 8 ∧ r' = k
      · obtain ⟨rfl, rfl⟩ := h9
        rw [hup_at]
        unfold bsE
        rw [if_neg (by decide), if_neg (by decide), if_neg (by decide)]
        show some (aA Γ (b_cn B r') _) = some (aA Γ (b_cn B r') (fun j => if j < (if r' = r' then b_rs B r' ++ [f] else b_rs B r').length then some (if r' = r' ∧ j = (b_rs B r').length then z else b_ad B r' j) else none))
        congr 3
        funext j
        rw [if_pos rfl, List.length_append, List.length_singleton]
        unfold va_up
        by_cases ej : j = (b_rs B r').length
        · rw [if_pos ej, if_pos (by omega), if_pos ⟨rfl, ej⟩]
        · rw [if_neg ej]
          dsimp only
          by_cases ej2 : j < (b_rs B r').length
          · rw [if_pos ej2, if_pos (by omega), if_neg (fun w => ej w.2)]
          · rw [if_neg ej2, if_neg (by omega)]
      · rw [hup_ne (fun w => h9 (hB.2 k' r' 8 k h1 h8 w)), hup_ne (hne h1), hB.1 k' r' h1, bsE_row hk h1 h2 h9]
  · rcases hnew ho1 with ⟨rfl, rfl⟩ | ⟨h1, h2⟩
    · rcases hnew ho2 with ⟨rfl, rfl⟩ | ⟨h3, h4⟩
      · exact ⟨rfl, rfl⟩
      · rw [show b_ad (bsRow B k1 z f) k1 (b_rs B k1).length = z from if_pos ⟨rfl, rfl⟩, had h3 h4] at he
        exact absurd he.symm (hne h3)
    · rcases hnew ho2 with ⟨rfl, rfl⟩ | ⟨h3, h4⟩
      · rw [show b_ad (bsRow B k2 z f) k2 (b_rs B k2).length = z from if_pos ⟨rfl, rfl⟩, had h1 h2] at he
        exact absurd he (hne h1)
      · rw [had h1 h2, had h3 h4] at he
        exact hB.2 _ _ _ _ h1 h3 he
/-- the object's field of matrix k -/
def bsSet (B : BS) (k z : Nat) : va_E := .inr (9, ([.int 0, .int 0, .int 0, .int 0, .ref (b_ad B 7 0), .ref (b_ad B 8 0), .ref (b_ad B 8 1), .ref (b_ad B 8 2), .ref (b_ad B 8 3), .ref (b_ad B 8 4), .ref (b_ad B 8 5)] : List Value).set (5 + k) (.ref z))
theorem SimB.addOut (hB : SimB Γ h B) (hz : h z = none) {k n : Nat} (hk : k < 6) (h0 : b_rs B k = []) : SimB Γ (hup (hup h z (aA Γ n (fun _ => none))) (b_ad B 6 0) (bsSet B k z)) (bsOut B k z n) := by
  have h6 : okB B 6 0 := Or.inr (Or.inl ⟨rfl, rfl⟩)
  have hz6 : z ≠ b_ad B 6 0 := fun w => by rw [w, hB.obj] at hz; cases hz
  have hne : ∀ {k' r'}, okB B k' r' → b_ad B k' r' ≠ z := fun {k' r'} ho w => by have := hB.1 k' r' ho; rw [w, hz] at this; cases this
  have ho' : ∀ {k' r'}, okB (bsOut B k z n) k' r' → okB B k' r' := fun {k' r'} ho => ho
  have had : ∀ {k' r'}, ¬ (k' = 8 ∧ r' = k) → b_ad (bsOut B k z n) k' r' = b_ad B k' r' := fun {k' r'} hn => if_neg hn
  have hat : b_ad (bsOut B k z n) 8 k = z := if_pos ⟨rfl, rfl⟩
  refine ⟨fun k' r' ho => ?_, fun k1 r1 k2 r2 ho1 ho2 he => ?_⟩
  · by_cases h9 : k' = 8 ∧ r' = k
    · obtain ⟨rfl, rfl⟩ := h9
      rw [hat, hup_ne hz6, hup_at]
      unfold bsE
      rw [if_neg (by decide), if_neg (by decide), if_neg (by decide)]
      show _ = some (aA Γ (if r' = r' then n else b_cn B r') (fun j => if j < (b_rs B r').length then _ else none))
      rw [if_pos rfl, h0]
      rfl
    · rw [had h9]
      by_cases h66 : k' = 6 ∧ r' = 0
      · obtain ⟨rfl, rfl⟩ := h66
        rw [hup_at]
        unfold bsE
        rw [if_neg (by decide), if_pos rfl]
        unfold bsSet bsOut bsO
        dsimp only [b_ad]
        rw [if_neg (fun w => absurd w.1 (by decide))]
        match k, hk with
        | 0, _ => rfl
        | 1, _ => rfl
        | 2, _ => rfl
        | 3, _ => rfl
        | 4, _ => rfl
        | 5, _ => rfl
      · rw [hup_ne (fun w => h66 (hB.2 k' r' 6 0 (ho' ho) h6 w)), hup_ne (hne (ho' ho)), hB.1 k' r' (ho' ho)]
        unfold bsE
        rcases ho' ho with ⟨h1, h2⟩ | ⟨h1, h2⟩ | ⟨h1, h2⟩ | ⟨h1, h2⟩
        · rw [if_pos h1, if_pos h1]
          rfl
        · exact absurd ⟨h1, h2⟩ h66
        · subst h1
          rw [if_neg (by decide), if_neg (by decide), if_pos rfl, if_neg (by decide), if_neg (by decide), if_pos rfl]
          rfl
        · subst h1
          have hr : ¬ r' = k := fun w => h9 ⟨rfl, w⟩
          rw [if_neg (by decide), if_neg (by decide), if_neg (by decide), if_neg (by decide), if_neg (by decide), if_neg (by decide)]
          show _ = some (aA Γ (if r' = k then n else b_cn B r') (fun j => if j < (b_rs B r').length then some (if r' = 8 ∧ j = k then z else b_ad B r' j) else none))
          rw [if_neg hr]
          congr 3
          funext j
          by_cases ej : j < (b_rs B r').length
          · rw [if_pos ej, if_pos ej, if_neg (fun w => absurd w.1 (by omega))]
          · rw [if_neg ej, if_neg ej]
  · by_cases h1 : k1 = 8 ∧ r1 = k
    · obtain ⟨rfl, rfl⟩ := h1
      by_cases h2 : k2 = 8 ∧ r2 = r1
      · exact ⟨h2.1.symm, h2.2.symm⟩
      · rw [hat, had h2] at he
        exact absurd he.symm (hne (ho' ho2))
    · by_cases h2 : k2 = 8 ∧ r2 = k
      · obtain ⟨rfl, rfl⟩ := h2
        rw [hat, had h1] at he
        exact absurd he (hne (ho' ho1))
      · rw [had h1, had h2] at he
        exact hB.2 _ _ _ _ (ho' ho1) (ho' ho2) he
theorem SimB.setWar (hB : SimB Γ h B) {f : Nat → Int32} : SimB Γ (hup h (b_ad B 7 0) (aI Γ 8 f)) (bsWar B f) := by
  have h7 : okB B 7 0 := Or.inr (Or.inr (Or.inl ⟨rfl, rfl⟩))
  refine ⟨fun k' r' ho => ?_, fun k1 r1 k2 r2 ho1 ho2 he => hB.2 _ _ _ _ ho1 ho2 he⟩
  have ho : okB B k' r' := ho
  show hup h (b_ad B 7 0) (aI Γ 8 f) (b_ad B k' r') = _
  by_cases h77 : k' = 7 ∧ r' = 0
  · obtain ⟨rfl, rfl⟩ := h77
    rw [hup_at]
    rfl
  · rw [hup_ne (fun w => h77 (hB.2 k' r' 7 0 ho h7 w)), hB.1 k' r' ho]
    unfold bsE
    rcases ho with ⟨h1, h2⟩ | ⟨h1, h2⟩ | ⟨h1, h2⟩ | ⟨h1, h2⟩
    · rw [if_pos h1, if_pos h1]
      rfl
    · subst h1
      rfl
    · exact absurd ⟨h1, h2⟩ h77
    · subst h1
      rfl
end Bs
/-- the builder at b with the text t, the glacier so far; all that stood in hb still stands, untouched -/
def LSt (Γ : G9) (h : AH) (b : Nat) (hb : AH) (t : List Int32) (B : BS) : Prop := ∃ h0 : AH, SB Γ h b h0 t 0 ∧ SimB Γ h0 B ∧ Ext hb h0 ∧ ∀ k r, okB B k r → hb (b_ad B k r) = none
section Ls
variable {Γ : G9} {h hb : AH} {b z : Nat} {t : List Int32} {B : BS}
theorem SB.up {h0 : AH} {q : Nat} (hs : SB Γ h b h0 t q) {x : Nat} {e e' : va_E} (hx : h0 x = some e') : SB Γ (hup h x e) b (hup h0 x e) t q := by
  obtain ⟨v, m, a, rfl, hbv, h0b, h0v, hr⟩ := hs
  have h1 : b ≠ x := fun w => by rw [← w, h0b] at hx; cases hx
  have h2 : v ≠ x := fun w => by rw [← w, h0v] at hx; cases hx
  refine ⟨v, m, a, ?_, hbv, (hup_ne h1).trans h0b, (hup_ne h2).trans h0v, hr⟩
  unfold sbH
  rw [hup_comm h2, hup_comm h1]
theorem SB.nw {h0 : AH} {q : Nat} (hs : SB Γ h b h0 t q) (hl : ∀ x, z ≤ x → h x = none) {e : va_E} : h0 z = none ∧ SB Γ (hup h z e) b (hup h0 z e) t q := by
  obtain ⟨v, m, a, rfl, hbv, h0b, h0v, hr⟩ := hs
  obtain ⟨l1, l2, l3⟩ := bd_low hbv hl
  refine ⟨l3 z (Nat.le_refl z), v, m, a, ?_, hbv, (hup_ne (by omega)).trans h0b, (hup_ne (by omega)).trans h0v, hr⟩
  unfold sbH
  rw [hup_comm (show v ≠ z by omega), hup_comm (show b ≠ z by omega)]
theorem LSt.rd (hs : LSt Γ h b hb t B) {k r : Nat} (hk : okB B k r) : h (b_ad B k r) = some (bsE Γ B k r) := by
  obtain ⟨h0, h1, h2, -⟩ := hs
  exact h1.rd _ _ (h2.1 k r hk)
theorem LSt.obj (hs : LSt Γ h b hb t B) : h (b_ad B 6 0) = some (bsO B) := hs.rd (Or.inr (Or.inl ⟨rfl, rfl⟩))
theorem LSt.war (hs : LSt Γ h b hb t B) : h (b_ad B 7 0) = some (aI Γ 8 (b_wa B)) := hs.rd (Or.inr (Or.inr (Or.inl ⟨rfl, rfl⟩)))
theorem LSt.out (hs : LSt Γ h b hb t B) {k : Nat} (hk : k < 6) : h (b_ad B 8 k) = some (aA Γ (b_cn B k) (fun j => if j < (b_rs B k).length then some (b_ad B k j) else none)) := hs.rd (Or.inr (Or.inr (Or.inr ⟨rfl, hk⟩)))
theorem LSt.row (hs : LSt Γ h b hb t B) {k r : Nat} (hk : k < 6) (hr : r < (b_rs B k).length) : h (b_ad B k r) = some (aI Γ (wdt k) ((b_rs B k).getD r (fun _ => 0))) := by
  obtain ⟨h0, h1, h2, -⟩ := hs
  exact h1.rd _ _ (h2.row hk hr)
theorem LSt.sb (hs : LSt Γ h b hb t B) : ∃ v n : Nat, h b = some (sbO v n) := by
  obtain ⟨h0, h1, -⟩ := hs
  exact h1.obj
theorem LSt.addRow (hs : LSt Γ h b hb t B) (hl : ∀ x, z ≤ x → h x = none) {k : Nat} {f : Nat → Int32} (hk : k < 6) : LSt Γ (hup (hup h z (aI Γ (wdt k) f)) (b_ad B 8 k) (aA Γ (b_cn B k) (va_up (fun j => if j < (b_rs B k).length then some (b_ad B k j) else none) (b_rs B k).length (some z)))) b hb t (bsRow B k z f) := by
  obtain ⟨h0, h1, h2, h3, h4⟩ := hs
  obtain ⟨g1, g2⟩ := h1.nw hl (e := aI Γ (wdt k) f)
  have hz8 : b_ad B 8 k ≠ z := fun w => by have := h2.out hk; rw [w, g1] at this; cases this
  have hb8 : hb (b_ad B 8 k) = none := h4 8 k (Or.inr (Or.inr (Or.inr ⟨rfl, hk⟩)))
  have hbz : hb z = none := by
    cases e : hb z with
    | none => rfl
    | some w => have := h3 z w e; rw [g1] at this; cases this
  refine ⟨_, g2.up ((hup_ne hz8).trans (h2.out hk)), h2.addRow g1 hk, fun x e hx => ?_, fun k' r' ho => ?_⟩
  · rw [hup_ne (fun w => by rw [w, hb8] at hx; cases hx), hup_ne (fun w => by rw [w, hbz] at hx; cases hx)]
    exact h3 x e hx
  · show hb (if k' = k ∧ r' = (b_rs B k).length then z else b_ad B k' r') = none
    by_cases e : k' = k ∧ r' = (b_rs B k).length
    · rw [if_pos e]
      exact hbz
    · rw [if_neg e]
      rcases okB_row ho with ⟨w1, -, w2⟩ | ⟨w1, -⟩ | ⟨-, w, -⟩
      · exact absurd ⟨w1, w2⟩ e
      · exact h4 _ _ w1
      · exact absurd hk w
theorem LSt.addOut (hs : LSt Γ h b hb t B) (hl : ∀ x, z ≤ x → h x = none) {k n : Nat} (hk : k < 6) (h0' : b_rs B k = []) : LSt Γ (hup (hup h z (aA Γ n (fun _ => none))) (b_ad B 6 0) (bsSet B k z)) b hb t (bsOut B k z n) := by
  obtain ⟨h0, h1, h2, h3, h4⟩ := hs
  obtain ⟨g1, g2⟩ := h1.nw hl (e := aA Γ n (fun _ => none))
  have hz6 : b_ad B 6 0 ≠ z := fun w => by have := h2.obj; rw [w, g1] at this; cases this
  have hb6 : hb (b_ad B 6 0) = none := h4 6 0 (Or.inr (Or.inl ⟨rfl, rfl⟩))
  have hbz : hb z = none := by
    cases e : hb z with
    | none => rfl
    | some w => have := h3 z w e; rw [g1] at this; cases this
  refine ⟨_, g2.up ((hup_ne hz6).trans h2.obj), h2.addOut g1 hk h0', fun x e hx => ?_, fun k' r' ho => ?_⟩
  · rw [hup_ne (fun w => by rw [w, hb6] at hx; cases hx), hup_ne (fun w => by rw [w, hbz] at hx; cases hx)]
    exact h3 x e hx
  · show hb (if k' = 8 ∧ r' = k then z else b_ad B k' r') = none
    by_cases e : k' = 8 ∧ r' = k
    · rw [if_pos e]
      exact hbz
    · rw [if_neg e]
      exact h4 _ _ ho
theorem LSt.setWar (hs : LSt Γ h b hb t B) {f : Nat → Int32} : LSt Γ (hup h (b_ad B 7 0) (aI Γ 8 f)) b hb t (bsWar B f) := by
  obtain ⟨h0, h1, h2, h3, h4⟩ := hs
  have hb7 : hb (b_ad B 7 0) = none := h4 7 0 (Or.inr (Or.inr (Or.inl ⟨rfl, rfl⟩)))
  refine ⟨_, h1.up h2.war, h2.setWar, fun x e hx => ?_, fun k' r' ho => h4 k' r' ho⟩
  rw [hup_ne (fun w => by rw [w, hb7] at hx; cases hx)]
  exact h3 x e hx
/-- more may stand there -/
theorem LSt.ext {h2 : AH} (hs : LSt Γ h b hb t B) (he : Ext h h2) : LSt Γ h2 b hb t B := by
  obtain ⟨h0, ⟨v, m, a, rfl, hbv, h0b, h0v, hr⟩, w2, w3, w4⟩ := hs
  have eb := he _ _ (bd_b hbv)
  have ev := he _ _ (bd_v (b := b) (n := t.length))
  refine ⟨fun x => if x = b ∨ x = v then none else h2 x, ⟨v, m, a, ?_, hbv, if_pos (Or.inl rfl), if_pos (Or.inr rfl), hr⟩, w2.ext (fun x e hx => ?_), fun x e hx => ?_, w4⟩
  · funext x
    unfold sbH
    by_cases h1 : x = v
    · rw [h1, hup_at, ev]
    · rw [hup_ne h1]
      by_cases h2' : x = b
      · rw [h2', hup_at, eb]
      · rw [hup_ne h2', if_neg (fun w => w.elim h2' h1)]
  · have hxb : x ≠ b := fun w => by rw [w, h0b] at hx; cases hx
    have hxv : x ≠ v := fun w => by rw [w, h0v] at hx; cases hx
    show (if x = b ∨ x = v then none else h2 x) = _
    rw [if_neg (fun w => w.elim hxb hxv)]
    exact he _ _ ((bd_out hxb hxv).trans hx)
  · have hx := w3 x e hx
    have hxb : x ≠ b := fun w => by rw [w, h0b] at hx; cases hx
    have hxv : x ≠ v := fun w => by rw [w, h0v] at hx; cases hx
    show (if x = b ∨ x = v then none else h2 x) = _
    rw [if_neg (fun w => w.elim hxb hxv)]
    exact he _ _ ((bd_out hxb hxv).trans hx)
end Ls
