/-! the pure part: what the weather leaves alone -/
/-- the same day, warmth and tallies -/
def FR (Y Z : SX) : Prop := sx_dy Z = sx_dy Y ∧ sx_wa Z = sx_wa Y ∧ sx_ca Z = sx_ca Y ∧ sx_rd Z = sx_rd Y ∧ sx_fa Z = sx_fa Y ∧ sx_ma Z = sx_ma Y ∧ sx_fn Z = sx_fn Y
theorem FR.rf {Y : SX} : FR Y Y := ⟨rfl, rfl, rfl, rfl, rfl, rfl, rfl⟩
theorem FR.tr {X Y Z : SX} (h : FR X Y) (g : FR Y Z) : FR X Z := ⟨g.1.trans h.1, g.2.1.trans h.2.1, g.2.2.1.trans h.2.2.1, g.2.2.2.1.trans h.2.2.2.1, g.2.2.2.2.1.trans h.2.2.2.2.1, g.2.2.2.2.2.1.trans h.2.2.2.2.2.1, g.2.2.2.2.2.2.trans h.2.2.2.2.2.2⟩
theorem FR.ru {H : SH} {Y Z : SX} (h : FR Y Z) (u : RU H Y) : RU H Z := by
  obtain ⟨-, -, -, a, b, c, d⟩ := h
  exact ⟨by rw [a, c]; exact u.1, by rw [b, d]; exact u.2⟩
theorem FR.ou {Y : SX} {v : Nat → Int32} : FR Y (sx_ou' Y v) := ⟨rfl, rfl, rfl, rfl, rfl, rfl, rfl⟩
theorem FR.sd {Y : SX} {v : Nat → Int32} : FR Y (sx_sd' Y v) := ⟨rfl, rfl, rfl, rfl, rfl, rfl, rfl⟩
theorem FR.br {Y : SX} {v : Nat → Int32} : FR Y (sx_br' Y v) := ⟨rfl, rfl, rfl, rfl, rfl, rfl, rfl⟩
theorem FR.sn {Y : SX} {v : Nat → Int32} : FR Y (sx_sn' Y v) := ⟨rfl, rfl, rfl, rfl, rfl, rfl, rfl⟩
theorem FR.ic {Y : SX} {v : Nat → Int32} : FR Y (sx_ic' Y v) := ⟨rfl, rfl, rfl, rfl, rfl, rfl, rfl⟩
theorem l_Model_melt_1_st_fr {H : SH} {M : MO} {r : Nat} {x3 ml : Int32} : ∀ k i Y, FR Y (l_Model_melt_1_st M H r x3 ml k i Y) := by
  intro k
  induction k with
  | zero => intro i Y; exact FR.rf
  | succ k ih =>
    intro i Y
    rw [l_Model_melt_1_st]
    repeat' split
    all_goals first
      | exact ih _ _
      | exact FR.ou.tr (ih _ _)
      | exact FR.br.tr (ih _ _)
      | exact (FR.ou.tr FR.sd).tr (ih _ _)
theorem l_Model_melt_1_br_fr {H : SH} {M : MO} {r : Nat} {x3 : Int32} : ∀ k i Y, FR Y (l_Model_melt_1_br M H r x3 k i Y) := by
  intro k
  induction k with
  | zero => intro i Y; exact FR.rf
  | succ k ih =>
    intro i Y
    rw [l_Model_melt_1_br]
    repeat' split
    all_goals first
      | exact ih _ _
      | exact FR.ou.tr (ih _ _)
      | exact FR.br.tr (ih _ _)
      | exact (FR.ou.tr FR.sd).tr (ih _ _)
theorem l_Model_snow_st_fr {H : SH} {M : MO} {r : Nat} {x3 ml : Int32} : ∀ k i Y, FR Y (l_Model_snow_st M H r x3 ml k i Y) := by
  intro k
  induction k with
  | zero => intro i Y; exact FR.rf
  | succ k ih =>
    intro i Y
    rw [l_Model_snow_st]
    repeat' split
    all_goals first
      | exact ih _ _
      | exact FR.ou.tr (ih _ _)
      | exact FR.br.tr (ih _ _)
      | exact (FR.ou.tr FR.sd).tr (ih _ _)
theorem l_Model_snow_br_fr {H : SH} {M : MO} {r : Nat} {x3 ml : Int32} : ∀ k i Y, FR Y (l_Model_snow_br M H r x3 ml k i Y) := by
  intro k
  induction k with
  | zero => intro i Y; exact FR.rf
  | succ k ih =>
    intro i Y
    rw [l_Model_snow_br]
    repeat' split
    all_goals first
      | exact ih _ _
      | exact FR.ou.tr (ih _ _)
      | exact FR.br.tr (ih _ _)
      | exact (FR.ou.tr FR.sd).tr (ih _ _)
theorem snow_st0 {H : SH} {M : MO} {r : Nat} {x3 : Int32} {Y : SX} (hR : RR H Y) : ∀ k i, i + k ≤ sh_ha H 3 → l_Model_snow_st M H r x3 (nI 0) k i Y = Y := by
  intro k
  induction k with
  | zero => intro i _; rfl
  | succ k ih =>
    intro i h
    obtain ⟨-, -, d, d1, d2, d3, d4⟩ := hR.2.1 i (by omega)
    rw [l_Model_snow_st]
    split
    · split
      · rename_i h1
        obtain ⟨a, a1, a2⟩ := d4 h1
        have e : sx_ou' Y (upd (sx_ou Y) i (iMax 0 (sx_ou Y i - nI 0))) = Y := by
          rw [a1, out_s (by omega) (by omega), Nat.sub_zero, ← a1]
          have e2 : upd (sx_ou Y) i (sx_ou Y i) = sx_ou Y := by
            funext j
            unfold upd
            split
            · rename_i q; rw [q]
            · rfl
          rw [e2]
        rw [e]
        exact ih _ (by omega)
      · exact ih _ (by omega)
    · exact ih _ (by omega)
theorem snow_br0 {H : SH} {M : MO} {r : Nat} {x3 : Int32} {Y : SX} (hR : RR H Y) : ∀ k i, i + k ≤ sh_ha H 6 → l_Model_snow_br M H r x3 (nI 0) k i Y = Y := by
  intro k
  induction k with
  | zero => intro i _; rfl
  | succ k ih =>
    intro i h
    obtain ⟨-, ⟨b, hb, -, hb9⟩, -⟩ := hR.2.2.1 i (by omega)
    rw [l_Model_snow_br]
    split
    · have e : sx_br' Y (upd (sx_br Y) i (iMin 99 (sx_br Y i + nI 0))) = Y := by
        have e2 : upd (sx_br Y) i (iMin 99 (sx_br Y i + nI 0)) = sx_br Y := by
          funext j
          unfold upd
          split
          · rename_i q
            rw [q, hb, nI_add, show (99 : Int32) = nI 99 from rfl, iMin_nI (by omega) (by omega), Nat.min_eq_right (by omega), Nat.add_zero]
          · rfl
        rw [e2]
      rw [e]
      exact ih _ (by omega)
    · exact ih _ (by omega)
