/-! lines: what of a line both take -/
def st (K : TK) (s : Bool × Nat) : TK := if s.1 = true then tA K s.2 else tB K s.2
def nx (K : TK) (g1 g2 : Nat) (s : Bool × Nat) : Bool × Nat := if s.1 = true then (if (gk K s.2).val = g1 then (if (gk K (s.2 + 1)).val = g2 then (true, s.2 + 2) else (false, s.2 + 1)) else (false, s.2)) else s
def nx1 (K : TK) (g : Nat) (s : Bool × Nat) : Bool × Nat := if s.1 = true then (if (gk K s.2).val = g then (true, s.2 + 1) else (false, s.2)) else s
def md (r : Bool × Nat) (M : MO) : Option (Int32 × MO) := some (if r.1 = true then 1 else 0, mS M r.2 0)
theorem nx_le {K : TK} {H : SH} {n g1 g2 : Nat} {s : Bool × Nat} (hX : LX K H n) (h1 : g1 < 52) (h2 : g2 < 52) (hs : s.2 ≤ n) : s.2 ≤ (nx K g1 g2 s).2 ∧ (nx K g1 g2 s).2 ≤ n := by
  unfold nx
  by_cases b : s.1 = true
  · rw [if_pos b]
    by_cases e : (gk K s.2).val = g1
    · have l1 := (hX.2.2 s.2 hs).2.2.2.2.mpr (by omega)
      rw [if_pos e]
      by_cases e2 : (gk K (s.2 + 1)).val = g2
      · have l2 := (hX.2.2 (s.2 + 1) (by omega)).2.2.2.2.mpr (by omega)
        rw [if_pos e2]
        exact ⟨by show s.2 ≤ s.2 + 2; omega, by show s.2 + 2 ≤ n; omega⟩
      · rw [if_neg e2]
        exact ⟨by show s.2 ≤ s.2 + 1; omega, by show s.2 + 1 ≤ n; omega⟩
    · rw [if_neg e]
      exact ⟨Nat.le_refl _, hs⟩
  · rw [if_neg b]
    exact ⟨Nat.le_refl _, hs⟩
theorem nx1_le {K : TK} {H : SH} {n g : Nat} {s : Bool × Nat} (hX : LX K H n) (h1 : g < 52) (hs : s.2 ≤ n) : s.2 ≤ (nx1 K g s).2 ∧ (nx1 K g s).2 ≤ n := by
  unfold nx1
  by_cases b : s.1 = true
  · rw [if_pos b]
    by_cases e : (gk K s.2).val = g
    · have l1 := (hX.2.2 s.2 hs).2.2.2.2.mpr (by omega)
      rw [if_pos e]
      exact ⟨by show s.2 ≤ s.2 + 1; omega, by show s.2 + 1 ≤ n; omega⟩
    · rw [if_neg e]
      exact ⟨Nat.le_refl _, hs⟩
  · rw [if_neg b]
    exact ⟨Nat.le_refl _, hs⟩
theorem nx_true {K : TK} {g1 g2 : Nat} {s : Bool × Nat} (h : (nx K g1 g2 s).1 = true) : s.1 = true ∧ (gk K s.2).val = g1 ∧ (gk K (s.2 + 1)).val = g2 ∧ (nx K g1 g2 s).2 = s.2 + 2 := by
  unfold nx at h ⊢
  by_cases b : s.1 = true
  · rw [if_pos b] at h ⊢
    by_cases e : (gk K s.2).val = g1
    · rw [if_pos e] at h ⊢
      by_cases e2 : (gk K (s.2 + 1)).val = g2
      · rw [if_pos e2] at h ⊢
        exact ⟨b, e, e2, rfl⟩
      · rw [if_neg e2] at h; cases h
    · rw [if_neg e] at h; cases h
  · rw [if_neg b] at h
    exact absurd h b
theorem nx1_true {K : TK} {g : Nat} {s : Bool × Nat} (h : (nx1 K g s).1 = true) : s.1 = true ∧ (gk K s.2).val = g ∧ (nx1 K g s).2 = s.2 + 1 := by
  unfold nx1 at h ⊢
  by_cases b : s.1 = true
  · rw [if_pos b] at h ⊢
    by_cases e : (gk K s.2).val = g
    · rw [if_pos e] at h ⊢
      exact ⟨b, e, rfl⟩
    · rw [if_neg e] at h; cases h
  · rw [if_neg b] at h
    exact absurd h b
theorem exp_st {K : TK} {H : SH} {n : Nat} {s : Bool × Nat} {g : Fin 54} (hX : LX K H n) (hg : g.val < 52) (hs : s.2 ≤ n) : s_Tokens_expect (st K s) g = st K (nx1 K g.val s) := by
  unfold st nx1
  by_cases b : s.1 = true
  · rw [if_pos b, if_pos b, exp_A hX hg hs]
    by_cases e : (gk K s.2).val = g.val
    · rw [if_pos e, if_pos e]; rfl
    · rw [if_neg e, if_neg e]; rfl
  · rw [if_neg b, if_neg b, exp_B hX hg hs, if_neg b]
/-- the second of two tokens -/
theorem st_two {K : TK} {H : SH} {n : Nat} {s : Bool × Nat} {g1 g2 : Nat} (hX : LX K H n) (h1 : g1 < 52) (h2 : g2 < 52) (hs : s.2 ≤ n) : (if (s_Tokens_sign (st K (nx1 K g1 s))).val = g2 then s_Tokens_advance (st K (nx1 K g1 s)) else s_Tokens_breakOff (st K (nx1 K g1 s))) = st K (nx K g1 g2 s) := by
  unfold nx nx1
  by_cases b : s.1 = true
  · rw [if_pos b, if_pos b]
    by_cases e : (gk K s.2).val = g1
    · have l1 := (hX.2.2 s.2 hs).2.2.2.2.mpr (by omega)
      rw [if_pos e, if_pos e]
      show (if (gk K (s.2 + 1)).val = g2 then s_Tokens_advance (tA K (s.2 + 1)) else s_Tokens_breakOff (tA K (s.2 + 1))) = _
      by_cases e2 : (gk K (s.2 + 1)).val = g2
      · have l2 := (hX.2.2 (s.2 + 1) (by omega)).2.2.2.2.mpr (by omega)
        rw [if_pos e2, if_pos e2, hX.adv l2]; rfl
      · rw [if_neg e2, if_neg e2, brk_A]; rfl
    · rw [if_neg e, if_neg e]
      show (if (53 : Nat) = g2 then s_Tokens_advance (tB K s.2) else s_Tokens_breakOff (tB K s.2)) = _
      rw [if_neg (by omega), hX.brk hs]; rfl
  · rw [if_neg b, if_neg b]
    have e : st K s = tB K s.2 := by unfold st; rw [if_neg b]
    rw [e]
    show (if (53 : Nat) = g2 then s_Tokens_advance (tB K s.2) else s_Tokens_breakOff (tB K s.2)) = _
    rw [if_neg (by omega), hX.brk hs]
theorem num_st {K : TK} {H : SH} {n : Nat} {s : Bool × Nat} {g : Fin 54} {E : TE} {lo hi : Int32} (hX : LX K H n) (hg : g.val < 52) (hs : s.2 ≤ n) : (s_Teacher_number (st K s) E g lo hi).2.1 = st K (nx K g.val 51 s) := by
  rw [← st_two hX hg (by decide) hs]
  unfold s_Teacher_number
  rw [exp_st hX hg hs]
  split
  · split
    · rfl
    · split <;> rfl
  · rfl
theorem old_st {K : TK} {H : SH} {n : Nat} {s : Bool × Nat} {g : Fin 54} {E : TE} {N : NM} (hX : LX K H n) (hg : g.val < 52) (hs : s.2 ≤ n) : (s_Teacher_oldName (st K s) E N g).2.1 = st K (nx K g.val 50 s) := by
  rw [← st_two hX hg (by decide) hs]
  unfold s_Teacher_oldName
  rw [exp_st hX hg hs]
  split
  · split <;> rfl
  · rfl
theorem new_st {K : TK} {H : SH} {n t : Nat} {E : TE} {N : NM} {mo : Int32} (hX : LX K H n) (ht : t < n) : (s_Teacher_newName (tA K t) E N mo).1 = st K (nx K (gk K t).val 50 (true, t)) := by
  have h52 := (hX.2.2 t (by omega)).2.2.2.2.mp ht
  rw [← st_two hX h52 (by decide) (show (true, t).2 ≤ n from Nat.le_of_lt ht)]
  have e : st K (nx1 K (gk K t).val (true, t)) = s_Tokens_advance (tA K t) := by
    unfold nx1
    rw [if_pos rfl, if_pos rfl, hX.adv ht]
    rfl
  rw [e]
  unfold s_Teacher_newName
  split
  · split
    · split <;> rfl
    · rfl
  · rfl
theorem num_sticky {K : TK} {E : TE} {g : Fin 54} {lo hi : Int32} (h : ¬ te_er E = 0) : (s_Teacher_number K E g lo hi).2.2 = E := by
  have e : ∀ K x, s_Teacher_tellError K E x = E := fun K x => by unfold s_Teacher_tellError; rw [if_neg h]
  unfold s_Teacher_number
  simp only [e]
  split
  · split
    · rfl
    · split <;> rfl
  · rfl
theorem old_sticky {K : TK} {E : TE} {g : Fin 54} {N : NM} (h : ¬ te_er E = 0) : (s_Teacher_oldName K E N g).2.2 = E := by
  have e : ∀ K x, s_Teacher_tellError K E x = E := fun K x => by unfold s_Teacher_tellError; rw [if_neg h]
  unfold s_Teacher_oldName
  simp only [e]
  split
  · split <;> rfl
  · rfl
theorem new_sticky {K : TK} {E : TE} {N : NM} {mo : Int32} (h : ¬ te_er E = 0) : (s_Teacher_newName K E N mo).2.1 = E := by
  have e : ∀ K x, s_Teacher_tellError K E x = E := fun K x => by unfold s_Teacher_tellError; rw [if_neg h]
  unfold s_Teacher_newName
  simp only [e]
  split
  · split
    · split <;> rfl
    · rfl
  · rfl
theorem ord_sticky {T : TM} {F : FM} {K : TK} {E : TE} {x : Int32} (h : ¬ te_er E = 0) : (s_Teacher_newOrder T F K E x).2 = E := by
  have e : ∀ K x, s_Teacher_tellError K E x = E := fun K x => by unfold s_Teacher_tellError; rw [if_neg h]
  unfold s_Teacher_newOrder
  simp only [e]
  split <;> rfl
/-! the reference's recognizers along -/
theorem md_seq {r : Bool × Nat} {M : MO} {G : MO → Option (Int32 × MO)} : ((md r M).bind fun p => if p.1 = 0 then some (0, p.2) else G p.2) = if r.1 = true then G (mS M r.2 0) else md r M := by
  unfold md
  by_cases b : r.1 = true
  · rw [if_pos b, if_pos b]; rfl
  · rw [if_neg b, if_neg b]; rfl
theorem md_end {r : Bool × Nat} {M : MO} : ((md r M).bind fun p => if p.1 = 0 then some (0, p.2) else some (1, p.2)) = md r M := by
  obtain ⟨b, u⟩ := r
  cases b <;> rfl
theorem md_eat {K : TK} {H : SH} {n : Nat} {r : Bool × Nat} {M : MO} {k : Int32} {y : Nat} {G : Int32 × MO → Option (Int32 × MO)} (hX : LX K H n) (hr : r.2 ≤ n) (hy : y < 54) (hk : k = kOf ⟨y, hy⟩) : ((md r M).bind fun p => if p.1 = 0 then some (0, p.2) else ((s_Model_eat_0 H k p.2).bind fun q => if q.1 = 0 then some (0, q.2) else G q)) = (md (nx1 K y r) M).bind fun q => if q.1 = 0 then some (0, q.2) else G q := by
  obtain ⟨b, u⟩ := r
  cases b with
  | false => rfl
  | true =>
    show ((s_Model_eat_0 H k (mS M u 0)).bind fun q => if q.1 = 0 then some (0, q.2) else G q) = _
    rw [eatN hX hr hy hk]
    unfold nx1
    show _ = (md (if (gk K u).val = y then (true, u + 1) else (false, u)) M).bind fun q => if q.1 = 0 then some (0, q.2) else G q
    by_cases e : (gk K u).val = y
    · rw [if_pos e, if_pos e]; rfl
    · rw [if_neg e, if_neg e]; rfl
theorem two_md {K : TK} {H : SH} {n : Nat} {t : Nat} {M : MO} {k k2 : Int32} {y y2 : Nat} (hX : LX K H n) (ht : t ≤ n) (hy : y < 52) (hk : k = kOf ⟨y, by omega⟩) (hy2 : y2 < 54) (hk2 : k2 = kOf ⟨y2, hy2⟩) : ((s_Model_eat_0 H k (mS M t 0)).bind fun p3_1 => (if p3_1.1 = 0 then some (0, p3_1.2) else ((s_Model_eat_0 H k2 p3_1.2).bind fun p13_3 => (if p13_3.1 = 0 then some (0, p13_3.2) else some (1, p13_3.2))))) = md (nx K y y2 (true, t)) M := by
  rw [eatN hX ht _ hk]
  unfold nx
  rw [if_pos rfl]
  by_cases e : (gk K t).val = y
  · have l1 := (hX.2.2 t ht).2.2.2.2.mpr (by omega)
    rw [if_pos e, if_pos e]
    simp only [Option.bind_some, if10]
    rw [eatN hX l1 hy2 hk2]
    by_cases e2 : (gk K (t + 1)).val = y2
    · rw [if_pos e2, if_pos e2]; rfl
    · rw [if_neg e2, if_neg e2]; rfl
  · rw [if_neg e, if_neg e]; rfl
theorem isNum_md {K : TK} {H : SH} {n : Nat} {t : Nat} {M : MO} {k : Int32} {y : Nat} (hX : LX K H n) (ht : t ≤ n) (hy : y < 52) (hk : k = kOf ⟨y, by omega⟩) : s_Model_isNumber H k (mS M t 0) = md (nx K y 51 (true, t)) M := two_md hX ht hy hk (by decide) rfl
theorem isNam_md {K : TK} {H : SH} {n : Nat} {t : Nat} {M : MO} {k : Int32} {y : Nat} (hX : LX K H n) (ht : t ≤ n) (hy : y < 52) (hk : k = kOf ⟨y, by omega⟩) : s_Model_isName H k (mS M t 0) = md (nx K y 50 (true, t)) M := two_md hX ht hy hk (by decide) rfl
theorem md_num {K : TK} {H : SH} {n : Nat} {r : Bool × Nat} {M : MO} {k : Int32} {y : Nat} {G : Int32 × MO → Option (Int32 × MO)} (hX : LX K H n) (hr : r.2 ≤ n) (hy : y < 52) (hk : k = kOf ⟨y, by omega⟩) : ((md r M).bind fun p => if p.1 = 0 then some (0, p.2) else ((s_Model_isNumber H k p.2).bind fun q => if q.1 = 0 then some (0, q.2) else G q)) = (md (nx K y 51 r) M).bind fun q => if q.1 = 0 then some (0, q.2) else G q := by
  obtain ⟨b, u⟩ := r
  cases b with
  | false => rfl
  | true =>
    show ((s_Model_isNumber H k (mS M u 0)).bind fun q => if q.1 = 0 then some (0, q.2) else G q) = _
    rw [isNum_md hX hr hy hk]
theorem md_nam {K : TK} {H : SH} {n : Nat} {r : Bool × Nat} {M : MO} {k : Int32} {y : Nat} {G : Int32 × MO → Option (Int32 × MO)} (hX : LX K H n) (hr : r.2 ≤ n) (hy : y < 52) (hk : k = kOf ⟨y, by omega⟩) : ((md r M).bind fun p => if p.1 = 0 then some (0, p.2) else ((s_Model_isName H k p.2).bind fun q => if q.1 = 0 then some (0, q.2) else G q)) = (md (nx K y 50 r) M).bind fun q => if q.1 = 0 then some (0, q.2) else G q := by
  obtain ⟨b, u⟩ := r
  cases b with
  | false => rfl
  | true =>
    show ((s_Model_isName H k (mS M u 0)).bind fun q => if q.1 = 0 then some (0, q.2) else G q) = _
    rw [isNam_md hX hr hy hk]
