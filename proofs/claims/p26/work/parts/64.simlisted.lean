/-! the law's own glacier after it was listed -/
section Al
variable {Γ : G9} {M : MI} {d C S pc : Nat} {L : List (Option Value)} {st : List Value} {h : AH} {z : Nat} {Q : QT} {X : XT}
/-- other pictures of the same cells -/
theorem Go.alike {h' : AH} (hs : ∀ (x : Nat) (e' : va_E), h' x = some e' → ∃ e, h x = some e ∧ ∀ H : Heap, va_at (g_D Γ) vwCl (x, e) H → va_at (g_D Γ) vwCl (x, e') H) (k : Go Γ M d C S pc L st h' z Q X) : Go Γ M d C S pc L st h z Q X := by
  intro p e R s m args below meth c H locs cells slots ls Z hc
  obtain ⟨hF, hr, ⟨h1, h2, h3, h4⟩, hz⟩ := hc
  refine k _ _ _ _ _ _ _ _ _ _ _ _ _ _ _ ⟨hF, hr, ⟨h1, h2, fun a e' he => ?_, h4⟩, hz⟩
  obtain ⟨e0, w1, w2⟩ := hs a e' he
  exact ⟨(h3 a e0 w1).1, w2 _ (h3 a e0 w1).2⟩
end Al
theorem aA_alike {Γ : G9} {x n : Nat} {f g : Nat → Option Nat} (hf : ∀ j, j < n → f j = g j) (H : Heap) (h : va_at (g_D Γ) vwCl (x, aA Γ n f) H) : va_at (g_D Γ) vwCl (x, aA Γ n g) H := by
  have h : H[x]? = some (vp_cell (g_k Γ 4) (n, .inr (.inr (.inr (.inr f))))) := h
  show H[x]? = some (vp_cell (g_k Γ 4) (n, .inr (.inr (.inr (.inr g)))))
  rw [h, vp_cell_q, vp_cell_q, arrV_ext (fun j hj => by rw [hf j hj])]
/-- as it is before its first day -/
def Y0 (D : DL) : SM := (0, 0, 0, 0, wF (d_w D), fun k r => (dRS D k).getD r (fun _ => 0))
theorem dRS_len {D : DL} {k : Nat} (hk : k < 6) : (dRS D k).length = dCN D k := by
  match k, hk with
  | 0, _ => exact List.length_map ..
  | 1, _ => exact List.length_map ..
  | 2, _ => exact List.length_map ..
  | 3, _ => exact List.length_map ..
  | 4, _ => exact List.length_map ..
  | 5, _ => exact List.length_map ..
theorem dCN_le {D : DL} (hD : DOk D) {k : Nat} (hk : k < 6) : dCN D k ≤ 8 := by
  obtain ⟨h0, h1, h2, h3, h4, -, h5, -⟩ := hD
  match k, hk with
  | 0, _ => exact Nat.le_trans h0.2 (by decide)
  | 1, _ => exact Nat.le_trans h1.2 (by decide)
  | 2, _ => exact Nat.le_trans h2.2 (by decide)
  | 3, _ => exact Nat.le_trans h3.2 (by decide)
  | 4, _ => exact Nat.le_trans h4.2 (by decide)
  | 5, _ => exact Nat.le_trans h5 (by decide)
/-- whose cell an address is -/
noncomputable def tgB (B : BS) (x : Nat) : Option (Nat × Nat) := @dite (Option (Nat × Nat)) (∃ p : Nat × Nat, okB B p.1 p.2 ∧ b_ad B p.1 p.2 = x) (Classical.propDecidable _) (fun h => some h.choose) (fun _ => none)
noncomputable def adB (B : BS) (D : DL) : AD := (tgB B, b_ad B, dCN D)
theorem tgB_some {B : BS} {x k r : Nat} (h : tgB B x = some (k, r)) : okB B k r ∧ b_ad B k r = x := by
  unfold tgB at h
  by_cases w : ∃ p : Nat × Nat, okB B p.1 p.2 ∧ b_ad B p.1 p.2 = x
  · rw [dif_pos w] at h
    have := w.choose_spec
    rw [Option.some.inj h] at this
    exact this
  · rw [dif_neg w] at h
    cases h
theorem tgB_at {Γ : G9} {h0 : AH} {B : BS} (hB : SimB Γ h0 B) {k r : Nat} (ho : okB B k r) : tgB B (b_ad B k r) = some (k, r) := by
  have w : ∃ p : Nat × Nat, okB B p.1 p.2 ∧ b_ad B p.1 p.2 = b_ad B k r := ⟨(k, r), ho, rfl⟩
  cases e : tgB B (b_ad B k r) with
  | none =>
    unfold tgB at e
    rw [dif_pos w] at e
    cases e
  | some p =>
    obtain ⟨k', r'⟩ := p
    obtain ⟨h1, h2⟩ := tgB_some e
    obtain ⟨rfl, rfl⟩ := hB.2 _ _ _ _ h1 ho h2
    rfl
theorem okB_A {B : BS} {D : DL} (hr : b_rs B = dRS D) {k r : Nat} : okB B k r ↔ okA (adB B D) k r := by
  unfold okB okA
  rw [hr]
  constructor
  · rintro (⟨h1, h2⟩ | h1)
    · exact Or.inl ⟨h1, by rw [dRS_len h1] at h2; exact h2⟩
    · exact Or.inr h1
  · rintro (⟨h1, h2⟩ | h1)
    · exact Or.inl ⟨h1, by rw [dRS_len h1]; exact h2⟩
    · exact Or.inr h1
/-- what was listed is the law's glacier; its cells stand in h, and were not in hb -/
theorem LX.sim {Γ : G9} {h hb : AH} {b sim : Nat} {t : List Int32} {D : DL} (hx : LX Γ h b hb sim t (dRS D) (dCN D) (wF (d_w D))) (hD : DOk D) : ∃ A : AD, AOk A ∧ cn A = dCN D ∧ ad A 6 0 = sim ∧ (∀ x k r, tg A x = some (k, r) → hb x = none ∧ h x ≠ none) ∧
    ∀ h9 : AH, Ext h h9 → ∀ (x : Nat) (e' : va_E), smC Γ A h9 (Y0 D) x = some e' → ∃ e, h9 x = some e ∧ ∀ H : Heap, va_at (g_D Γ) vwCl (x, e) H → va_at (g_D Γ) vwCl (x, e') H := by
  obtain ⟨B, hs, hr, hc, hw, hsim⟩ := hx
  have hs' := hs
  obtain ⟨h0, s1, s2, s3, s4⟩ := hs'
  refine ⟨adB B D, ⟨fun k r ho => tgB_at s2 ((okB_A hr).mpr ho), fun x k r hx => ?_, fun k hk => dCN_le hD hk⟩, rfl, hsim, fun x k r hx => ?_, fun h9 he x e' hx => ?_⟩
  · obtain ⟨h1, h2⟩ := tgB_some hx
    exact ⟨(okB_A hr).mp h1, h2.symm⟩
  · obtain ⟨h1, rfl⟩ := tgB_some hx
    exact ⟨s4 k r h1, by rw [hs.rd h1]; exact fun w => by cases w⟩
  · unfold smC at hx
    cases ht : tg (adB B D) x with
    | none =>
      rw [ht] at hx
      exact ⟨e', hx, fun _ w => w⟩
    | some p =>
      obtain ⟨k, r⟩ := p
      rw [ht] at hx
      obtain ⟨h1, rfl⟩ := tgB_some ht
      have hx : some (smE Γ (adB B D) (Y0 D) k r) = some e' := hx
      cases hx
      refine ⟨bsE Γ B k r, he _ _ (hs.rd h1), fun H w => ?_⟩
      unfold bsE at w
      unfold smE
      by_cases c1 : k < 6
      · rw [if_pos c1] at w
        rw [if_pos c1]
        rw [hr] at w
        exact w
      rw [if_neg c1] at w
      rw [if_neg c1]
      by_cases c2 : k = 6
      · rw [if_pos c2] at w
        rw [if_pos c2]
        exact w
      rw [if_neg c2] at w
      rw [if_neg c2]
      by_cases c3 : k = 7
      · rw [if_pos c3] at w
        rw [if_pos c3]
        rw [hw] at w
        exact w
      rw [if_neg c3] at w
      rw [if_neg c3]
      have hr6 : r < 6 := by
        rcases h1 with w1 | w1 | w1 | w1
        · exact absurd w1.1 c1
        · exact absurd w1.1 c2
        · exact absurd w1.1 c3
        · exact w1.2
      rw [hc, hr] at w
      exact aA_alike (fun j hj => by rw [if_pos (by rw [dRS_len hr6]; exact hj)]; rfl) H w
theorem oki_n {i n : Nat} (h : i < n) (hn : n ≤ 8) : okI (nI i) n = true := okI_n h (by omega)
theorem ord_ok {D : DL} (hD : DOk D) {A : AD} (hcn : cn A = dCN D) {a : RO} (ha : okOrd (d_b D).length (d_s D).length (d_c D).length (d_d D).length (d_t D).length a) : OrdOk A (rOrd a) := by
  obtain ⟨hob, q0, q1, q2, q3, q4, q5, q6, q7, q8, q9, q10, q11, q12, q13, q14, q15⟩ := ha
  have hl := fun k (hk : k < 6) => dCN_le hD hk
  have rj : ∀ j, j ≠ 5 → rOrd a j = nI (oF a j) := fun j hj => if_neg hj
  have n0 := hl 0 (by decide)
  have n1 := hl 1 (by decide)
  have n2 := hl 2 (by decide)
  have n3 := hl 3 (by decide)
  have n4 := hl 4 (by decide)
  unfold OrdOk
  rw [hcn, rj 7 (by decide), rj 8 (by decide), rj 9 (by decide), rj 10 (by decide), rj 11 (by decide), rj 0 (by decide), rj 1 (by decide), rj 2 (by decide)]
  refine ⟨oki_n q11 n1, oki_n q12 n2, oki_n q13 n4, oki_n q14 n3, oki_n q15 n0, fun w => oki_n (q3 ?_ ?_) n4, fun w => ⟨oki_n (q1 (nI_eqn (by omega) (by decide) w)) n2, oki_n q5 n4⟩, fun w => oki_n (q2 (nI_eqn (by omega) (by decide) w)) n1, ?_⟩
  · intro e
    rw [e] at w
    revert w
    decide
  · intro e
    rw [e] at w
    revert w
    decide
  · rcases (show oF a 0 = 0 ∨ oF a 0 = 1 ∨ oF a 0 = 2 ∨ oF a 0 = 3 ∨ oF a 0 = 4 by omega) with e | e | e | e | e <;> rw [e] <;> decide
theorem ords_ok {D : DL} (hD : DOk D) {A : AD} (hcn : cn A = dCN D) : OrdsOk A (Y0 D) := by
  intro r hr
  rw [hcn] at hr
  have hr : r < (d_o D).length := hr
  have e : sm_v (Y0 D) 5 r = rOrd ((d_o D)[r]) := by
    show ((d_o D).map rOrd).getD r (fun _ => 0) = _
    rw [List.getD_eq_getElem?_getD, List.getElem?_map, List.getElem?_eq_getElem hr]
    rfl
  rw [e]
  exact ord_ok hD hcn (hD.2.2.2.2.2.2.2.2.2.2.2.2.2.2 _ (List.getElem_mem hr))
/-- the law's glacier beside other cells -/
theorem sm_blk {Γ : G9} {A : AD} {h : AH} {Y : SM} {g n : Nat} {f : Nat → Option va_E} (hd : ∀ x, g ≤ x → x < g + n → tg A x = none) : smC Γ A (blk h g n f) Y = blk (smC Γ A h Y) g n f := by
  funext x
  unfold smC blk
  by_cases h1 : g ≤ x ∧ x < g + n
  · rw [if_pos h1, if_pos h1, hd x h1.1 h1.2]
  · rw [if_neg h1, if_neg h1]
theorem sm_cw {Γ : G9} {A : AD} {sg : Nat → Nat} {h : AH} {Y : SM} {t c g g2 o o2 : Nat} {a : TA} {K : TK} {σ τ : GL} {T : TM} {F : FM} {U : TM} {G : FM} {P : CP} (hd : ∀ x, t ≤ x → x < t + 45 → tg A x = none) (h1 : t ≤ c ∧ c + 7 ≤ t + 45) (h2 : t ≤ g ∧ g + 12 ≤ t + 45) (h3 : t ≤ g2 ∧ g2 + 12 ≤ t + 45) (h4 : t ≤ o ∧ o + 7 ≤ t + 45) (h5 : t ≤ o2 ∧ o2 + 7 ≤ t + 45) : smC Γ A (cw_ Γ sg h c g g2 o o2 a K σ τ T F U G P) Y = cw_ Γ sg (smC Γ A h Y) c g g2 o o2 a K σ τ T F U G P := by
  unfold cw_
  rw [sm_blk (fun x q1 q2 => hd x (by omega) (by omega)), sm_blk (fun x q1 q2 => hd x (by omega) (by omega)), sm_blk (fun x q1 q2 => hd x (by omega) (by omega)), sm_blk (fun x q1 q2 => hd x (by omega) (by omega)), sm_blk (fun x q1 q2 => hd x (by omega) (by omega)), sm_blk (fun x q1 q2 => hd x (by omega) (by omega)), sm_blk (fun x q1 q2 => hd x (by omega) (by omega)), sm_blk (fun x q1 q2 => hd x (by omega) (by omega)), sm_blk (fun x q1 q2 => hd x (by omega) (by omega))]
