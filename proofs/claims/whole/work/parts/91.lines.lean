/-! lines: what of a line both take -/
def st (K : TK) (s : Bool × Nat) : TK := if s.1 = true then tA K s.2 else tB K s.2
def nx (K : TK) (g1 g2 : Nat) (s : Bool × Nat) : Bool × Nat := if s.1 = true then (if (gk K s.2).val = g1 then (if (gk K (s.2 + 1)).val = g2 then (true, s.2 + 2) else (false, s.2 + 1)) else (false, s.2)) else s
def nx1 (K : TK) (g : Nat) (s : Bool × Nat) : Bool × Nat := if s.1 = true then (if (gk K s.2).val = g then (true, s.2 + 1) else (false, s.2)) else s
def md (r : Bool × Nat) (M : MO) : Option (Int32 × MO) := some (if r.1 = true then 1 else 0, mS M r.2 0)
theorem nx_le {K : TK} {H : SH} {n g1 g2 : Nat} {s : Bool × Nat} (hX : LX K H n) (h1 : g1 < 52) (h2 : g2 < 52) (hs : s.2 ≤ n) : s.2 ≤ (nx K g1 g2 s).2 ∧ (nx K g1 g2 s).2 ≤ n := by
  unfold nx
  by_cases b : s.1 = true
  · rw [if_pos b]
    by_cases e : (gk K s.2).val = g1
    · have l1 := (hX.2.2 s.2 hs).2.2.2.2.mpr (by omega)
      rw [if_pos e]
      by_cases e2 : (gk K (s.2 + 1)).val = g2
      · have l2 := (hX.2.2 (s.2 + 1) (by omega)).2.2.2.2.mpr (by omega)
        rw [if_pos e2]
        exact ⟨by show s.2 ≤ s.2 + 2; omega, by show s.2 + 2 ≤ n; omega⟩
      · rw [if_neg e2]
        exact ⟨by show s.2 ≤ s.2 + 1; omega, by show s.2 + 1 ≤ n; omega⟩
    · rw [if_neg e]
      exact ⟨Nat.le_refl _, hs⟩
  · rw [if_neg b]
    exact ⟨Nat.le_refl _, hs⟩
theorem nx1_le {K : TK} {H : SH} {n g : Nat} {s : Bool × Nat} (hX : LX K H n) (h1 : g < 52) (hs : s.2 ≤ n) : s.2 ≤ (nx1 K g s).2 ∧ (nx1 K g s).2 ≤ n := by
  unfold nx1
  by_cases b : s.1 = true
  · rw [if_pos b]
    by_cases e : (gk K s.2).val = g
    · have l1 := (hX.2.2 s.2 hs).2.2.2.2.mpr (by omega)
      rw [if_pos e]
      exact ⟨by show s.2 ≤ s.2 + 1; omega, by show s.2 + 1 ≤ n; omega⟩
    · rw [if_neg e]
      exact ⟨Nat.le_refl _, hs⟩
  · rw [if_neg b]
    exact ⟨Nat.le_refl _, hs⟩
theorem nx_true {K : TK} {g1 g2 : Nat} {s : Bool × Nat} (h : (nx K g1 g2 s).1 = true) : s.1 = true ∧ (gk K s.2).val = g1 ∧ (gk K (s.2 + 1)).val = g2 ∧ (nx K g1 g2 s).2 = s.2 + 2 := by
  unfold nx at h ⊢
  by_cases b : s.1 = true
  · rw [if_pos b] at h ⊢
    by_cases e : (gk K s.2).val = g1
    · rw [if_pos e] at h ⊢
      by_cases e2 : (gk K (s.2 + 1)).val = g2
      · rw [if_pos e2] at h ⊢
        exact ⟨b, e, e2, rfl⟩
      · rw [if_neg e2] at h; cases h
    · rw [if_neg e] at h; cases h
  · rw [if_neg b] at h
    exact absurd h b
theorem nx1_true {K : TK} {g : Nat} {s : Bool × Nat} (h : (nx1 K g s).1 = true) : s.1 = true ∧ (gk K s.2).val = g ∧ (nx1 K g s).2 = s.2 + 1 := by
  unfold nx1 at h ⊢
  by_cases b : s.1 = true
  · rw [if_pos b] at h ⊢
    by_cases e : (gk K s.2).val = g
    · rw [if_pos e] at h ⊢
      exact ⟨b, e, rfl⟩
    · rw [if_neg e] at h; cases h
  · rw [if_neg b] at h
    exact absurd h b
theorem exp_st {K : TK} {H : SH} {n : Nat} {s : Bool × Nat} {g : Fin 54} (hX : LX K H n) (hg : g.val < 52) (hs : s.2 ≤ n) : s_Tokens_expect (st K s) g = st K (nx1 K g.val s) := by
  unfold st nx1
  by_cases b : s.1 = true
  · rw [if_pos b, if_pos b, exp_A hX hg hs]
    by_cases e : (gk K s.2).val = g.val
    · rw [if_pos e, if_pos e]; rfl
    · rw [if_neg e, if_neg e]; rfl
  · rw [if_neg b, if_neg b, exp_B hX hg hs, if_neg b]
/-- the second of two tokens -/
theorem st_two {K : TK} {H : SH} {n : Nat} {s : Bool × Nat} {g1 g2 : Nat} (hX : LX K H n) (h1 : g1 < 52) (h2 : g2 < 52) (hs : s.2 ≤ n) : (if (s_Tokens_sign (st K (nx1 K g1 s))).val = g2 then s_Tokens_advance (st K (nx1 K g1 s)) else s_Tokens_breakOff (st K (nx1 K g1 s))) = st K (nx K g1 g2 s) := by
  unfold nx nx1
  by_cases b : s.1 = true
  · rw [if_pos b, if_pos b]
    by_cases e : (gk K s.2).val = g1
    · have l1 := (hX.2.2 s.2 hs).2.2.2.2.mpr (by omega)
      rw [if_pos e, if_pos e]
      show (if (gk K (s.2 + 1)).val = g2 then s_Tokens_advance (tA K (s.2 + 1)) else s_Tokens_breakOff (tA K (s.2 + 1))) = _
      by_cases e2 : (gk K (s.2 + 1)).val = g2
      · have l2 := (hX.2.2 (s.2 + 1) (by omega)).2.2.2.2.mpr (by omega)
        rw [if_pos e2, if_pos e2, hX.adv l2]; rfl
      · rw [if_neg e2, if_neg e2, brk_A]; rfl
    · rw [if_neg e, if_neg e]
      show (if (53 : Nat) = g2 then s_Tokens_advance (tB K s.2) else s_Tokens_breakOff (tB K s.2)) = _
      rw [if_neg (by omega), hX.brk hs]; rfl
  · rw [if_neg b, if_neg b]
    have e : st K s = tB K s.2 := by unfold st; rw [if_neg b]
    rw [e]
    show (if (53 : Nat) = g2 then s_Tokens_advance (tB K s.2) else s_Tokens_breakOff (tB K s.2)) = _
    rw [if_neg (by omega), hX.brk hs]
theorem num_st {K : TK} {H : SH} {n : Nat} {s : Bool × Nat} {g : Fin 54} {E : TE} {lo hi : Int32} (hX : LX K H n) (hg : g.val < 52) (hs : s.2 ≤ n) : (s_Teacher_number (st K s) E g lo hi).2.1 = st K (nx K g.val 51 s) := by
  rw [← st_two hX hg (by decide) hs]
  unfold s_Teacher_number
  rw [exp_st hX hg hs]
  split
  · split
    · rfl
    · split <;> rfl
  · rfl
theorem old_st {K : TK} {H : SH} {n : Nat} {s : Bool × Nat} {g : Fin 54} {E : TE} {N : NM} (hX : LX K H n) (hg : g.val < 52) (hs : s.2 ≤ n) : (s_Teacher_oldName (st K s) E N g).2.1 = st K (nx K g.val 50 s) := by
  rw [← st_two hX hg (by decide) hs]
  unfold s_Teacher_oldName
  rw [exp_st hX hg hs]
  split
  · split <;> rfl
  · rfl
theorem new_st {K : TK} {H : SH} {n t : Nat} {E : TE} {N : NM} {mo : Int32} (hX : LX K H n) (ht : t < n) : (s_Teacher_newName (tA K t) E N mo).1 = st K (nx K (gk K t).val 50 (true, t)) := by
  have h52 := (hX.2.2 t (by omega)).2.2.2.2.mp ht
  rw [← st_two hX h52 (by decide) (show (true, t).2 ≤ n from Nat.le_of_lt ht)]
  have e : st K (nx1 K (gk K t).val (true, t)) = s_Tokens_advance (tA K t) := by
    unfold nx1
    rw [if_pos rfl, if_pos rfl, hX.adv ht]
    rfl
  rw [e]
  unfold s_Teacher_newName
  split
  · split
    · split <;> rfl
    · rfl
  · rfl
theorem num_sticky {K : TK} {E : TE} {g : Fin 54} {lo hi : Int32} (h : ¬ te_er E = 0) : (s_Teacher_number K E g lo hi).2.2 = E := by
  have e : ∀ K x, s_Teacher_tellError K E x = E := fun K x => by unfold s_Teacher_tellError; rw [if_neg h]
  unfold s_Teacher_number
  simp only [e]
  split
  · split
    · rfl
    · split <;> rfl
  · rfl
theorem old_sticky {K : TK} {E : TE} {g : Fin 54} {N : NM} (h : ¬ te_er E = 0) : (s_Teacher_oldName K E N g).2.2 = E := by
  have e : ∀ K x, s_Teacher_tellError K E x = E := fun K x => by unfold s_Teacher_tellError; rw [if_neg h]
  unfold s_Teacher_oldName
  simp only [e]
  split
  · split <;> rfl
  · rfl
theorem new_sticky {K : TK} {E : TE} {N : NM} {mo : Int32} (h : ¬ te_er E = 0) : (s_Teacher_newName K E N mo).2.1 = E := by
  have e : ∀ K x, s_Teacher_tellError K E x = E := fun K x => by unfold s_Teacher_tellError; rw [if_neg h]
  unfold s_Teacher_newName
  simp only [e]
  split
  · split
    · split <;> rfl
    · rfl
  · rfl
theorem ord_sticky {T : TM} {F : FM} {K : TK} {E : TE} {x : Int32} (h : ¬ te_er E = 0) : (s_Teacher_newOrder T F K E x).2 = E := by
  have e : ∀ K x, s_Teacher_tellError K E x = E := fun K x => by unfold s_Teacher_tellError; rw [if_neg h]
  unfold s_Teacher_newOrder
  simp only [e]
  split <;> rfl
/-! the reference's recognizers along -/
theorem md_seq {r : Bool × Nat} {M : MO} {G : MO → Option (Int32 × MO)} : ((md r M).bind fun p => if p.1 = 0 then some (0, p.2) else G p.2) = if r.1 = true then G (mS M r.2 0) else md r M := by
  unfold md
  by_cases b : r.1 = true
  · rw [if_pos b, if_pos b]; rfl
  · rw [if_neg b, if_neg b]; rfl
theorem md_end {r : Bool × Nat} {M : MO} : ((md r M).bind fun p => if p.1 = 0 then some (0, p.2) else some (1, p.2)) = md r M := by
  obtain ⟨b, u⟩ := r
  cases b <;> rfl
theorem md_eat {K : TK} {H : SH} {n : Nat} {r : Bool × Nat} {M : MO} {k : Int32} {y : Nat} {G : Int32 × MO → Option (Int32 × MO)} (hX : LX K H n) (hr : r.2 ≤ n) (hy : y < 54) (hk : k = kOf ⟨y, hy⟩) : ((md r M).bind fun p => if p.1 = 0 then some (0, p.2) else ((s_Model_eat_0 H k p.2).bind fun q => if q.1 = 0 then some (0, q.2) else G q)) = (md (nx1 K y r) M).bind fun q => if q.1 = 0 then some (0, q.2) else G q := by
  obtain ⟨b, u⟩ := r
  cases b with
  | false => rfl
  | true =>
    show ((s_Model_eat_0 H k (mS M u 0)).bind fun q => if q.1 = 0 then some (0, q.2) else G q) = _
    rw [eatN hX hr hy hk]
    unfold nx1
    show _ = (md (if (gk K u).val = y then (true, u + 1) else (false, u)) M).bind fun q => if q.1 = 0 then some (0, q.2) else G q
    by_cases e : (gk K u).val = y
    · rw [if_pos e, if_pos e]; rfl
    · rw [if_neg e, if_neg e]; rfl
theorem two_md {K : TK} {H : SH} {n : Nat} {t : Nat} {M : MO} {k k2 : Int32} {y y2 : Nat} (hX : LX K H n) (ht : t ≤ n) (hy : y < 52) (hk : k = kOf ⟨y, by omega⟩) (hy2 : y2 < 54) (hk2 : k2 = kOf ⟨y2, hy2⟩) : ((s_Model_eat_0 H k (mS M t 0)).bind fun p3_1 => (if p3_1.1 = 0 then some (0, p3_1.2) else ((s_Model_eat_0 H k2 p3_1.2).bind fun p13_3 => (if p13_3.1 = 0 then some (0, p13_3.2) else some (1, p13_3.2))))) = md (nx K y y2 (true, t)) M := by
  rw [eatN hX ht _ hk]
  unfold nx
  rw [if_pos rfl]
  by_cases e : (gk K t).val = y
  · have l1 := (hX.2.2 t ht).2.2.2.2.mpr (by omega)
    rw [if_pos e, if_pos e]
    simp only [Option.bind_some, if10]
    rw [eatN hX l1 hy2 hk2]
    by_cases e2 : (gk K (t + 1)).val = y2
    · rw [if_pos e2, if_pos e2]; rfl
    · rw [if_neg e2, if_neg e2]; rfl
  · rw [if_neg e, if_neg e]; rfl
theorem isNum_md {K : TK} {H : SH} {n : Nat} {t : Nat} {M : MO} {k : Int32} {y : Nat} (hX : LX K H n) (ht : t ≤ n) (hy : y < 52) (hk : k = kOf ⟨y, by omega⟩) : s_Model_isNumber H k (mS M t 0) = md (nx K y 51 (true, t)) M := two_md hX ht hy hk (by decide) rfl
theorem isNam_md {K : TK} {H : SH} {n : Nat} {t : Nat} {M : MO} {k : Int32} {y : Nat} (hX : LX K H n) (ht : t ≤ n) (hy : y < 52) (hk : k = kOf ⟨y, by omega⟩) : s_Model_isName H k (mS M t 0) = md (nx K y 50 (true, t)) M := two_md hX ht hy hk (by decide) rfl
theorem md_num {K : TK} {H : SH} {n : Nat} {r : Bool × Nat} {M : MO} {k : Int32} {y : Nat} {G : Int32 × MO → Option (Int32 × MO)} (hX : LX K H n) (hr : r.2 ≤ n) (hy : y < 52) (hk : k = kOf ⟨y, by omega⟩) : ((md r M).bind fun p => if p.1 = 0 then some (0, p.2) else ((s_Model_isNumber H k p.2).bind fun q => if q.1 = 0 then some (0, q.2) else G q)) = (md (nx K y 51 r) M).bind fun q => if q.1 = 0 then some (0, q.2) else G q := by
  obtain ⟨b, u⟩ := r
  cases b with
  | false => rfl
  | true =>
    show ((s_Model_isNumber H k (mS M u 0)).bind fun q => if q.1 = 0 then some (0, q.2) else G q) = _
    rw [isNum_md hX hr hy hk]
theorem md_nam {K : TK} {H : SH} {n : Nat} {r : Bool × Nat} {M : MO} {k : Int32} {y : Nat} {G : Int32 × MO → Option (Int32 × MO)} (hX : LX K H n) (hr : r.2 ≤ n) (hy : y < 52) (hk : k = kOf ⟨y, by omega⟩) : ((md r M).bind fun p => if p.1 = 0 then some (0, p.2) else ((s_Model_isName H k p.2).bind fun q => if q.1 = 0 then some (0, q.2) else G q)) = (md (nx K y 50 r) M).bind fun q => if q.1 = 0 then some (0, q.2) else G q := by
  obtain ⟨b, u⟩ := r
  cases b with
  | false => rfl
  | true =>
    show ((s_Model_isName H k (mS M u 0)).bind fun q => if q.1 = 0 then some (0, q.2) else G q) = _
    rw [isNam_md hX hr hy hk]
/-! lines: the rows that they add, the steps that they take -/
theorem sh_set_kd {S S' : SH} {v : Nat → Int32} (h : S' = sh_kd' S v) : sh_kd S' = v ∧ sh_fr S' = sh_fr S ∧ sh_mn S' = sh_mn S ∧ sh_me S' = sh_me S ∧ sh_ha S' = sh_ha S ∧ sh_na S' = sh_na S ∧ sh_ln S' = sh_ln S ∧ sh_hg S' = sh_hg S ∧ sh_sn S' = sh_sn S ∧ sh_si S' = sh_si S ∧ sh_dp S' = sh_dp S ∧ sh_ab S' = sh_ab S ∧ sh_br S' = sh_br S ∧ sh_di S' = sh_di S ∧ sh_fo S' = sh_fo S ∧ sh_ti S' = sh_ti S ∧ sh_sz S' = sh_sz S ∧ sh_sk S' = sh_sk S ∧ sh_wa S' = sh_wa S ∧ sh_dt S' = sh_dt S ∧ sh_or S' = sh_or S ∧ sh_ds S' = sh_ds S ∧ sh_on S' = sh_on S ∧ sh_ot S' = sh_ot S ∧ sh_su S' = sh_su S ∧ sh_wh S' = sh_wh S := by
  subst h
  exact ⟨rfl, rfl, rfl, rfl, rfl, rfl, rfl, rfl, rfl, rfl, rfl, rfl, rfl, rfl, rfl, rfl, rfl, rfl, rfl, rfl, rfl, rfl, rfl, rfl, rfl, rfl⟩
theorem sh_set_fr {S S' : SH} {v : Nat → Nat} (h : S' = sh_fr' S v) : sh_kd S' = sh_kd S ∧ sh_fr S' = v ∧ sh_mn S' = sh_mn S ∧ sh_me S' = sh_me S ∧ sh_ha S' = sh_ha S ∧ sh_na S' = sh_na S ∧ sh_ln S' = sh_ln S ∧ sh_hg S' = sh_hg S ∧ sh_sn S' = sh_sn S ∧ sh_si S' = sh_si S ∧ sh_dp S' = sh_dp S ∧ sh_ab S' = sh_ab S ∧ sh_br S' = sh_br S ∧ sh_di S' = sh_di S ∧ sh_fo S' = sh_fo S ∧ sh_ti S' = sh_ti S ∧ sh_sz S' = sh_sz S ∧ sh_sk S' = sh_sk S ∧ sh_wa S' = sh_wa S ∧ sh_dt S' = sh_dt S ∧ sh_or S' = sh_or S ∧ sh_ds S' = sh_ds S ∧ sh_on S' = sh_on S ∧ sh_ot S' = sh_ot S ∧ sh_su S' = sh_su S ∧ sh_wh S' = sh_wh S := by
  subst h
  exact ⟨rfl, rfl, rfl, rfl, rfl, rfl, rfl, rfl, rfl, rfl, rfl, rfl, rfl, rfl, rfl, rfl, rfl, rfl, rfl, rfl, rfl, rfl, rfl, rfl, rfl, rfl⟩
theorem sh_set_mn {S S' : SH} {v : Nat → Nat} (h : S' = sh_mn' S v) : sh_kd S' = sh_kd S ∧ sh_fr S' = sh_fr S ∧ sh_mn S' = v ∧ sh_me S' = sh_me S ∧ sh_ha S' = sh_ha S ∧ sh_na S' = sh_na S ∧ sh_ln S' = sh_ln S ∧ sh_hg S' = sh_hg S ∧ sh_sn S' = sh_sn S ∧ sh_si S' = sh_si S ∧ sh_dp S' = sh_dp S ∧ sh_ab S' = sh_ab S ∧ sh_br S' = sh_br S ∧ sh_di S' = sh_di S ∧ sh_fo S' = sh_fo S ∧ sh_ti S' = sh_ti S ∧ sh_sz S' = sh_sz S ∧ sh_sk S' = sh_sk S ∧ sh_wa S' = sh_wa S ∧ sh_dt S' = sh_dt S ∧ sh_or S' = sh_or S ∧ sh_ds S' = sh_ds S ∧ sh_on S' = sh_on S ∧ sh_ot S' = sh_ot S ∧ sh_su S' = sh_su S ∧ sh_wh S' = sh_wh S := by
  subst h
  exact ⟨rfl, rfl, rfl, rfl, rfl, rfl, rfl, rfl, rfl, rfl, rfl, rfl, rfl, rfl, rfl, rfl, rfl, rfl, rfl, rfl, rfl, rfl, rfl, rfl, rfl, rfl⟩
theorem sh_set_me {S S' : SH} {v : Nat → Int32} (h : S' = sh_me' S v) : sh_kd S' = sh_kd S ∧ sh_fr S' = sh_fr S ∧ sh_mn S' = sh_mn S ∧ sh_me S' = v ∧ sh_ha S' = sh_ha S ∧ sh_na S' = sh_na S ∧ sh_ln S' = sh_ln S ∧ sh_hg S' = sh_hg S ∧ sh_sn S' = sh_sn S ∧ sh_si S' = sh_si S ∧ sh_dp S' = sh_dp S ∧ sh_ab S' = sh_ab S ∧ sh_br S' = sh_br S ∧ sh_di S' = sh_di S ∧ sh_fo S' = sh_fo S ∧ sh_ti S' = sh_ti S ∧ sh_sz S' = sh_sz S ∧ sh_sk S' = sh_sk S ∧ sh_wa S' = sh_wa S ∧ sh_dt S' = sh_dt S ∧ sh_or S' = sh_or S ∧ sh_ds S' = sh_ds S ∧ sh_on S' = sh_on S ∧ sh_ot S' = sh_ot S ∧ sh_su S' = sh_su S ∧ sh_wh S' = sh_wh S := by
  subst h
  exact ⟨rfl, rfl, rfl, rfl, rfl, rfl, rfl, rfl, rfl, rfl, rfl, rfl, rfl, rfl, rfl, rfl, rfl, rfl, rfl, rfl, rfl, rfl, rfl, rfl, rfl, rfl⟩
theorem sh_set_ha {S S' : SH} {v : Nat → Nat} (h : S' = sh_ha' S v) : sh_kd S' = sh_kd S ∧ sh_fr S' = sh_fr S ∧ sh_mn S' = sh_mn S ∧ sh_me S' = sh_me S ∧ sh_ha S' = v ∧ sh_na S' = sh_na S ∧ sh_ln S' = sh_ln S ∧ sh_hg S' = sh_hg S ∧ sh_sn S' = sh_sn S ∧ sh_si S' = sh_si S ∧ sh_dp S' = sh_dp S ∧ sh_ab S' = sh_ab S ∧ sh_br S' = sh_br S ∧ sh_di S' = sh_di S ∧ sh_fo S' = sh_fo S ∧ sh_ti S' = sh_ti S ∧ sh_sz S' = sh_sz S ∧ sh_sk S' = sh_sk S ∧ sh_wa S' = sh_wa S ∧ sh_dt S' = sh_dt S ∧ sh_or S' = sh_or S ∧ sh_ds S' = sh_ds S ∧ sh_on S' = sh_on S ∧ sh_ot S' = sh_ot S ∧ sh_su S' = sh_su S ∧ sh_wh S' = sh_wh S := by
  subst h
  exact ⟨rfl, rfl, rfl, rfl, rfl, rfl, rfl, rfl, rfl, rfl, rfl, rfl, rfl, rfl, rfl, rfl, rfl, rfl, rfl, rfl, rfl, rfl, rfl, rfl, rfl, rfl⟩
theorem sh_set_na {S S' : SH} {v : Nat → Nat} (h : S' = sh_na' S v) : sh_kd S' = sh_kd S ∧ sh_fr S' = sh_fr S ∧ sh_mn S' = sh_mn S ∧ sh_me S' = sh_me S ∧ sh_ha S' = sh_ha S ∧ sh_na S' = v ∧ sh_ln S' = sh_ln S ∧ sh_hg S' = sh_hg S ∧ sh_sn S' = sh_sn S ∧ sh_si S' = sh_si S ∧ sh_dp S' = sh_dp S ∧ sh_ab S' = sh_ab S ∧ sh_br S' = sh_br S ∧ sh_di S' = sh_di S ∧ sh_fo S' = sh_fo S ∧ sh_ti S' = sh_ti S ∧ sh_sz S' = sh_sz S ∧ sh_sk S' = sh_sk S ∧ sh_wa S' = sh_wa S ∧ sh_dt S' = sh_dt S ∧ sh_or S' = sh_or S ∧ sh_ds S' = sh_ds S ∧ sh_on S' = sh_on S ∧ sh_ot S' = sh_ot S ∧ sh_su S' = sh_su S ∧ sh_wh S' = sh_wh S := by
  subst h
  exact ⟨rfl, rfl, rfl, rfl, rfl, rfl, rfl, rfl, rfl, rfl, rfl, rfl, rfl, rfl, rfl, rfl, rfl, rfl, rfl, rfl, rfl, rfl, rfl, rfl, rfl, rfl⟩
theorem sh_set_ln {S S' : SH} {v : Int32} (h : S' = sh_ln' S v) : sh_kd S' = sh_kd S ∧ sh_fr S' = sh_fr S ∧ sh_mn S' = sh_mn S ∧ sh_me S' = sh_me S ∧ sh_ha S' = sh_ha S ∧ sh_na S' = sh_na S ∧ sh_ln S' = v ∧ sh_hg S' = sh_hg S ∧ sh_sn S' = sh_sn S ∧ sh_si S' = sh_si S ∧ sh_dp S' = sh_dp S ∧ sh_ab S' = sh_ab S ∧ sh_br S' = sh_br S ∧ sh_di S' = sh_di S ∧ sh_fo S' = sh_fo S ∧ sh_ti S' = sh_ti S ∧ sh_sz S' = sh_sz S ∧ sh_sk S' = sh_sk S ∧ sh_wa S' = sh_wa S ∧ sh_dt S' = sh_dt S ∧ sh_or S' = sh_or S ∧ sh_ds S' = sh_ds S ∧ sh_on S' = sh_on S ∧ sh_ot S' = sh_ot S ∧ sh_su S' = sh_su S ∧ sh_wh S' = sh_wh S := by
  subst h
  exact ⟨rfl, rfl, rfl, rfl, rfl, rfl, rfl, rfl, rfl, rfl, rfl, rfl, rfl, rfl, rfl, rfl, rfl, rfl, rfl, rfl, rfl, rfl, rfl, rfl, rfl, rfl⟩
theorem sh_set_hg {S S' : SH} {v : Nat → Int32} (h : S' = sh_hg' S v) : sh_kd S' = sh_kd S ∧ sh_fr S' = sh_fr S ∧ sh_mn S' = sh_mn S ∧ sh_me S' = sh_me S ∧ sh_ha S' = sh_ha S ∧ sh_na S' = sh_na S ∧ sh_ln S' = sh_ln S ∧ sh_hg S' = v ∧ sh_sn S' = sh_sn S ∧ sh_si S' = sh_si S ∧ sh_dp S' = sh_dp S ∧ sh_ab S' = sh_ab S ∧ sh_br S' = sh_br S ∧ sh_di S' = sh_di S ∧ sh_fo S' = sh_fo S ∧ sh_ti S' = sh_ti S ∧ sh_sz S' = sh_sz S ∧ sh_sk S' = sh_sk S ∧ sh_wa S' = sh_wa S ∧ sh_dt S' = sh_dt S ∧ sh_or S' = sh_or S ∧ sh_ds S' = sh_ds S ∧ sh_on S' = sh_on S ∧ sh_ot S' = sh_ot S ∧ sh_su S' = sh_su S ∧ sh_wh S' = sh_wh S := by
  subst h
  exact ⟨rfl, rfl, rfl, rfl, rfl, rfl, rfl, rfl, rfl, rfl, rfl, rfl, rfl, rfl, rfl, rfl, rfl, rfl, rfl, rfl, rfl, rfl, rfl, rfl, rfl, rfl⟩
theorem sh_set_sn {S S' : SH} {v : Nat → Int32} (h : S' = sh_sn' S v) : sh_kd S' = sh_kd S ∧ sh_fr S' = sh_fr S ∧ sh_mn S' = sh_mn S ∧ sh_me S' = sh_me S ∧ sh_ha S' = sh_ha S ∧ sh_na S' = sh_na S ∧ sh_ln S' = sh_ln S ∧ sh_hg S' = sh_hg S ∧ sh_sn S' = v ∧ sh_si S' = sh_si S ∧ sh_dp S' = sh_dp S ∧ sh_ab S' = sh_ab S ∧ sh_br S' = sh_br S ∧ sh_di S' = sh_di S ∧ sh_fo S' = sh_fo S ∧ sh_ti S' = sh_ti S ∧ sh_sz S' = sh_sz S ∧ sh_sk S' = sh_sk S ∧ sh_wa S' = sh_wa S ∧ sh_dt S' = sh_dt S ∧ sh_or S' = sh_or S ∧ sh_ds S' = sh_ds S ∧ sh_on S' = sh_on S ∧ sh_ot S' = sh_ot S ∧ sh_su S' = sh_su S ∧ sh_wh S' = sh_wh S := by
  subst h
  exact ⟨rfl, rfl, rfl, rfl, rfl, rfl, rfl, rfl, rfl, rfl, rfl, rfl, rfl, rfl, rfl, rfl, rfl, rfl, rfl, rfl, rfl, rfl, rfl, rfl, rfl, rfl⟩
theorem sh_set_si {S S' : SH} {v : Nat → Int32} (h : S' = sh_si' S v) : sh_kd S' = sh_kd S ∧ sh_fr S' = sh_fr S ∧ sh_mn S' = sh_mn S ∧ sh_me S' = sh_me S ∧ sh_ha S' = sh_ha S ∧ sh_na S' = sh_na S ∧ sh_ln S' = sh_ln S ∧ sh_hg S' = sh_hg S ∧ sh_sn S' = sh_sn S ∧ sh_si S' = v ∧ sh_dp S' = sh_dp S ∧ sh_ab S' = sh_ab S ∧ sh_br S' = sh_br S ∧ sh_di S' = sh_di S ∧ sh_fo S' = sh_fo S ∧ sh_ti S' = sh_ti S ∧ sh_sz S' = sh_sz S ∧ sh_sk S' = sh_sk S ∧ sh_wa S' = sh_wa S ∧ sh_dt S' = sh_dt S ∧ sh_or S' = sh_or S ∧ sh_ds S' = sh_ds S ∧ sh_on S' = sh_on S ∧ sh_ot S' = sh_ot S ∧ sh_su S' = sh_su S ∧ sh_wh S' = sh_wh S := by
  subst h
  exact ⟨rfl, rfl, rfl, rfl, rfl, rfl, rfl, rfl, rfl, rfl, rfl, rfl, rfl, rfl, rfl, rfl, rfl, rfl, rfl, rfl, rfl, rfl, rfl, rfl, rfl, rfl⟩
theorem sh_set_dp {S S' : SH} {v : Nat → Int32} (h : S' = sh_dp' S v) : sh_kd S' = sh_kd S ∧ sh_fr S' = sh_fr S ∧ sh_mn S' = sh_mn S ∧ sh_me S' = sh_me S ∧ sh_ha S' = sh_ha S ∧ sh_na S' = sh_na S ∧ sh_ln S' = sh_ln S ∧ sh_hg S' = sh_hg S ∧ sh_sn S' = sh_sn S ∧ sh_si S' = sh_si S ∧ sh_dp S' = v ∧ sh_ab S' = sh_ab S ∧ sh_br S' = sh_br S ∧ sh_di S' = sh_di S ∧ sh_fo S' = sh_fo S ∧ sh_ti S' = sh_ti S ∧ sh_sz S' = sh_sz S ∧ sh_sk S' = sh_sk S ∧ sh_wa S' = sh_wa S ∧ sh_dt S' = sh_dt S ∧ sh_or S' = sh_or S ∧ sh_ds S' = sh_ds S ∧ sh_on S' = sh_on S ∧ sh_ot S' = sh_ot S ∧ sh_su S' = sh_su S ∧ sh_wh S' = sh_wh S := by
  subst h
  exact ⟨rfl, rfl, rfl, rfl, rfl, rfl, rfl, rfl, rfl, rfl, rfl, rfl, rfl, rfl, rfl, rfl, rfl, rfl, rfl, rfl, rfl, rfl, rfl, rfl, rfl, rfl⟩
theorem sh_set_ab {S S' : SH} {v : Nat → Int32} (h : S' = sh_ab' S v) : sh_kd S' = sh_kd S ∧ sh_fr S' = sh_fr S ∧ sh_mn S' = sh_mn S ∧ sh_me S' = sh_me S ∧ sh_ha S' = sh_ha S ∧ sh_na S' = sh_na S ∧ sh_ln S' = sh_ln S ∧ sh_hg S' = sh_hg S ∧ sh_sn S' = sh_sn S ∧ sh_si S' = sh_si S ∧ sh_dp S' = sh_dp S ∧ sh_ab S' = v ∧ sh_br S' = sh_br S ∧ sh_di S' = sh_di S ∧ sh_fo S' = sh_fo S ∧ sh_ti S' = sh_ti S ∧ sh_sz S' = sh_sz S ∧ sh_sk S' = sh_sk S ∧ sh_wa S' = sh_wa S ∧ sh_dt S' = sh_dt S ∧ sh_or S' = sh_or S ∧ sh_ds S' = sh_ds S ∧ sh_on S' = sh_on S ∧ sh_ot S' = sh_ot S ∧ sh_su S' = sh_su S ∧ sh_wh S' = sh_wh S := by
  subst h
  exact ⟨rfl, rfl, rfl, rfl, rfl, rfl, rfl, rfl, rfl, rfl, rfl, rfl, rfl, rfl, rfl, rfl, rfl, rfl, rfl, rfl, rfl, rfl, rfl, rfl, rfl, rfl⟩
theorem sh_set_br {S S' : SH} {v : Nat → Int32} (h : S' = sh_br' S v) : sh_kd S' = sh_kd S ∧ sh_fr S' = sh_fr S ∧ sh_mn S' = sh_mn S ∧ sh_me S' = sh_me S ∧ sh_ha S' = sh_ha S ∧ sh_na S' = sh_na S ∧ sh_ln S' = sh_ln S ∧ sh_hg S' = sh_hg S ∧ sh_sn S' = sh_sn S ∧ sh_si S' = sh_si S ∧ sh_dp S' = sh_dp S ∧ sh_ab S' = sh_ab S ∧ sh_br S' = v ∧ sh_di S' = sh_di S ∧ sh_fo S' = sh_fo S ∧ sh_ti S' = sh_ti S ∧ sh_sz S' = sh_sz S ∧ sh_sk S' = sh_sk S ∧ sh_wa S' = sh_wa S ∧ sh_dt S' = sh_dt S ∧ sh_or S' = sh_or S ∧ sh_ds S' = sh_ds S ∧ sh_on S' = sh_on S ∧ sh_ot S' = sh_ot S ∧ sh_su S' = sh_su S ∧ sh_wh S' = sh_wh S := by
  subst h
  exact ⟨rfl, rfl, rfl, rfl, rfl, rfl, rfl, rfl, rfl, rfl, rfl, rfl, rfl, rfl, rfl, rfl, rfl, rfl, rfl, rfl, rfl, rfl, rfl, rfl, rfl, rfl⟩
theorem sh_set_di {S S' : SH} {v : Nat → Int32} (h : S' = sh_di' S v) : sh_kd S' = sh_kd S ∧ sh_fr S' = sh_fr S ∧ sh_mn S' = sh_mn S ∧ sh_me S' = sh_me S ∧ sh_ha S' = sh_ha S ∧ sh_na S' = sh_na S ∧ sh_ln S' = sh_ln S ∧ sh_hg S' = sh_hg S ∧ sh_sn S' = sh_sn S ∧ sh_si S' = sh_si S ∧ sh_dp S' = sh_dp S ∧ sh_ab S' = sh_ab S ∧ sh_br S' = sh_br S ∧ sh_di S' = v ∧ sh_fo S' = sh_fo S ∧ sh_ti S' = sh_ti S ∧ sh_sz S' = sh_sz S ∧ sh_sk S' = sh_sk S ∧ sh_wa S' = sh_wa S ∧ sh_dt S' = sh_dt S ∧ sh_or S' = sh_or S ∧ sh_ds S' = sh_ds S ∧ sh_on S' = sh_on S ∧ sh_ot S' = sh_ot S ∧ sh_su S' = sh_su S ∧ sh_wh S' = sh_wh S := by
  subst h
  exact ⟨rfl, rfl, rfl, rfl, rfl, rfl, rfl, rfl, rfl, rfl, rfl, rfl, rfl, rfl, rfl, rfl, rfl, rfl, rfl, rfl, rfl, rfl, rfl, rfl, rfl, rfl⟩
theorem sh_set_fo {S S' : SH} {v : Nat → Int32} (h : S' = sh_fo' S v) : sh_kd S' = sh_kd S ∧ sh_fr S' = sh_fr S ∧ sh_mn S' = sh_mn S ∧ sh_me S' = sh_me S ∧ sh_ha S' = sh_ha S ∧ sh_na S' = sh_na S ∧ sh_ln S' = sh_ln S ∧ sh_hg S' = sh_hg S ∧ sh_sn S' = sh_sn S ∧ sh_si S' = sh_si S ∧ sh_dp S' = sh_dp S ∧ sh_ab S' = sh_ab S ∧ sh_br S' = sh_br S ∧ sh_di S' = sh_di S ∧ sh_fo S' = v ∧ sh_ti S' = sh_ti S ∧ sh_sz S' = sh_sz S ∧ sh_sk S' = sh_sk S ∧ sh_wa S' = sh_wa S ∧ sh_dt S' = sh_dt S ∧ sh_or S' = sh_or S ∧ sh_ds S' = sh_ds S ∧ sh_on S' = sh_on S ∧ sh_ot S' = sh_ot S ∧ sh_su S' = sh_su S ∧ sh_wh S' = sh_wh S := by
  subst h
  exact ⟨rfl, rfl, rfl, rfl, rfl, rfl, rfl, rfl, rfl, rfl, rfl, rfl, rfl, rfl, rfl, rfl, rfl, rfl, rfl, rfl, rfl, rfl, rfl, rfl, rfl, rfl⟩
theorem sh_set_ti {S S' : SH} {v : Nat → Int32} (h : S' = sh_ti' S v) : sh_kd S' = sh_kd S ∧ sh_fr S' = sh_fr S ∧ sh_mn S' = sh_mn S ∧ sh_me S' = sh_me S ∧ sh_ha S' = sh_ha S ∧ sh_na S' = sh_na S ∧ sh_ln S' = sh_ln S ∧ sh_hg S' = sh_hg S ∧ sh_sn S' = sh_sn S ∧ sh_si S' = sh_si S ∧ sh_dp S' = sh_dp S ∧ sh_ab S' = sh_ab S ∧ sh_br S' = sh_br S ∧ sh_di S' = sh_di S ∧ sh_fo S' = sh_fo S ∧ sh_ti S' = v ∧ sh_sz S' = sh_sz S ∧ sh_sk S' = sh_sk S ∧ sh_wa S' = sh_wa S ∧ sh_dt S' = sh_dt S ∧ sh_or S' = sh_or S ∧ sh_ds S' = sh_ds S ∧ sh_on S' = sh_on S ∧ sh_ot S' = sh_ot S ∧ sh_su S' = sh_su S ∧ sh_wh S' = sh_wh S := by
  subst h
  exact ⟨rfl, rfl, rfl, rfl, rfl, rfl, rfl, rfl, rfl, rfl, rfl, rfl, rfl, rfl, rfl, rfl, rfl, rfl, rfl, rfl, rfl, rfl, rfl, rfl, rfl, rfl⟩
theorem sh_set_sz {S S' : SH} {v : Nat → Int32} (h : S' = sh_sz' S v) : sh_kd S' = sh_kd S ∧ sh_fr S' = sh_fr S ∧ sh_mn S' = sh_mn S ∧ sh_me S' = sh_me S ∧ sh_ha S' = sh_ha S ∧ sh_na S' = sh_na S ∧ sh_ln S' = sh_ln S ∧ sh_hg S' = sh_hg S ∧ sh_sn S' = sh_sn S ∧ sh_si S' = sh_si S ∧ sh_dp S' = sh_dp S ∧ sh_ab S' = sh_ab S ∧ sh_br S' = sh_br S ∧ sh_di S' = sh_di S ∧ sh_fo S' = sh_fo S ∧ sh_ti S' = sh_ti S ∧ sh_sz S' = v ∧ sh_sk S' = sh_sk S ∧ sh_wa S' = sh_wa S ∧ sh_dt S' = sh_dt S ∧ sh_or S' = sh_or S ∧ sh_ds S' = sh_ds S ∧ sh_on S' = sh_on S ∧ sh_ot S' = sh_ot S ∧ sh_su S' = sh_su S ∧ sh_wh S' = sh_wh S := by
  subst h
  exact ⟨rfl, rfl, rfl, rfl, rfl, rfl, rfl, rfl, rfl, rfl, rfl, rfl, rfl, rfl, rfl, rfl, rfl, rfl, rfl, rfl, rfl, rfl, rfl, rfl, rfl, rfl⟩
theorem sh_set_sk {S S' : SH} {v : Nat → Int32} (h : S' = sh_sk' S v) : sh_kd S' = sh_kd S ∧ sh_fr S' = sh_fr S ∧ sh_mn S' = sh_mn S ∧ sh_me S' = sh_me S ∧ sh_ha S' = sh_ha S ∧ sh_na S' = sh_na S ∧ sh_ln S' = sh_ln S ∧ sh_hg S' = sh_hg S ∧ sh_sn S' = sh_sn S ∧ sh_si S' = sh_si S ∧ sh_dp S' = sh_dp S ∧ sh_ab S' = sh_ab S ∧ sh_br S' = sh_br S ∧ sh_di S' = sh_di S ∧ sh_fo S' = sh_fo S ∧ sh_ti S' = sh_ti S ∧ sh_sz S' = sh_sz S ∧ sh_sk S' = v ∧ sh_wa S' = sh_wa S ∧ sh_dt S' = sh_dt S ∧ sh_or S' = sh_or S ∧ sh_ds S' = sh_ds S ∧ sh_on S' = sh_on S ∧ sh_ot S' = sh_ot S ∧ sh_su S' = sh_su S ∧ sh_wh S' = sh_wh S := by
  subst h
  exact ⟨rfl, rfl, rfl, rfl, rfl, rfl, rfl, rfl, rfl, rfl, rfl, rfl, rfl, rfl, rfl, rfl, rfl, rfl, rfl, rfl, rfl, rfl, rfl, rfl, rfl, rfl⟩
theorem sh_set_wa {S S' : SH} {v : Nat → Int32} (h : S' = sh_wa' S v) : sh_kd S' = sh_kd S ∧ sh_fr S' = sh_fr S ∧ sh_mn S' = sh_mn S ∧ sh_me S' = sh_me S ∧ sh_ha S' = sh_ha S ∧ sh_na S' = sh_na S ∧ sh_ln S' = sh_ln S ∧ sh_hg S' = sh_hg S ∧ sh_sn S' = sh_sn S ∧ sh_si S' = sh_si S ∧ sh_dp S' = sh_dp S ∧ sh_ab S' = sh_ab S ∧ sh_br S' = sh_br S ∧ sh_di S' = sh_di S ∧ sh_fo S' = sh_fo S ∧ sh_ti S' = sh_ti S ∧ sh_sz S' = sh_sz S ∧ sh_sk S' = sh_sk S ∧ sh_wa S' = v ∧ sh_dt S' = sh_dt S ∧ sh_or S' = sh_or S ∧ sh_ds S' = sh_ds S ∧ sh_on S' = sh_on S ∧ sh_ot S' = sh_ot S ∧ sh_su S' = sh_su S ∧ sh_wh S' = sh_wh S := by
  subst h
  exact ⟨rfl, rfl, rfl, rfl, rfl, rfl, rfl, rfl, rfl, rfl, rfl, rfl, rfl, rfl, rfl, rfl, rfl, rfl, rfl, rfl, rfl, rfl, rfl, rfl, rfl, rfl⟩
theorem sh_set_dt {S S' : SH} {v : Int32} (h : S' = sh_dt' S v) : sh_kd S' = sh_kd S ∧ sh_fr S' = sh_fr S ∧ sh_mn S' = sh_mn S ∧ sh_me S' = sh_me S ∧ sh_ha S' = sh_ha S ∧ sh_na S' = sh_na S ∧ sh_ln S' = sh_ln S ∧ sh_hg S' = sh_hg S ∧ sh_sn S' = sh_sn S ∧ sh_si S' = sh_si S ∧ sh_dp S' = sh_dp S ∧ sh_ab S' = sh_ab S ∧ sh_br S' = sh_br S ∧ sh_di S' = sh_di S ∧ sh_fo S' = sh_fo S ∧ sh_ti S' = sh_ti S ∧ sh_sz S' = sh_sz S ∧ sh_sk S' = sh_sk S ∧ sh_wa S' = sh_wa S ∧ sh_dt S' = v ∧ sh_or S' = sh_or S ∧ sh_ds S' = sh_ds S ∧ sh_on S' = sh_on S ∧ sh_ot S' = sh_ot S ∧ sh_su S' = sh_su S ∧ sh_wh S' = sh_wh S := by
  subst h
  exact ⟨rfl, rfl, rfl, rfl, rfl, rfl, rfl, rfl, rfl, rfl, rfl, rfl, rfl, rfl, rfl, rfl, rfl, rfl, rfl, rfl, rfl, rfl, rfl, rfl, rfl, rfl⟩
theorem sh_set_or {S S' : SH} {v : Nat} (h : S' = sh_or' S v) : sh_kd S' = sh_kd S ∧ sh_fr S' = sh_fr S ∧ sh_mn S' = sh_mn S ∧ sh_me S' = sh_me S ∧ sh_ha S' = sh_ha S ∧ sh_na S' = sh_na S ∧ sh_ln S' = sh_ln S ∧ sh_hg S' = sh_hg S ∧ sh_sn S' = sh_sn S ∧ sh_si S' = sh_si S ∧ sh_dp S' = sh_dp S ∧ sh_ab S' = sh_ab S ∧ sh_br S' = sh_br S ∧ sh_di S' = sh_di S ∧ sh_fo S' = sh_fo S ∧ sh_ti S' = sh_ti S ∧ sh_sz S' = sh_sz S ∧ sh_sk S' = sh_sk S ∧ sh_wa S' = sh_wa S ∧ sh_dt S' = sh_dt S ∧ sh_or S' = v ∧ sh_ds S' = sh_ds S ∧ sh_on S' = sh_on S ∧ sh_ot S' = sh_ot S ∧ sh_su S' = sh_su S ∧ sh_wh S' = sh_wh S := by
  subst h
  exact ⟨rfl, rfl, rfl, rfl, rfl, rfl, rfl, rfl, rfl, rfl, rfl, rfl, rfl, rfl, rfl, rfl, rfl, rfl, rfl, rfl, rfl, rfl, rfl, rfl, rfl, rfl⟩
theorem sh_set_ds {S S' : SH} {v : Nat → Int32} (h : S' = sh_ds' S v) : sh_kd S' = sh_kd S ∧ sh_fr S' = sh_fr S ∧ sh_mn S' = sh_mn S ∧ sh_me S' = sh_me S ∧ sh_ha S' = sh_ha S ∧ sh_na S' = sh_na S ∧ sh_ln S' = sh_ln S ∧ sh_hg S' = sh_hg S ∧ sh_sn S' = sh_sn S ∧ sh_si S' = sh_si S ∧ sh_dp S' = sh_dp S ∧ sh_ab S' = sh_ab S ∧ sh_br S' = sh_br S ∧ sh_di S' = sh_di S ∧ sh_fo S' = sh_fo S ∧ sh_ti S' = sh_ti S ∧ sh_sz S' = sh_sz S ∧ sh_sk S' = sh_sk S ∧ sh_wa S' = sh_wa S ∧ sh_dt S' = sh_dt S ∧ sh_or S' = sh_or S ∧ sh_ds S' = v ∧ sh_on S' = sh_on S ∧ sh_ot S' = sh_ot S ∧ sh_su S' = sh_su S ∧ sh_wh S' = sh_wh S := by
  subst h
  exact ⟨rfl, rfl, rfl, rfl, rfl, rfl, rfl, rfl, rfl, rfl, rfl, rfl, rfl, rfl, rfl, rfl, rfl, rfl, rfl, rfl, rfl, rfl, rfl, rfl, rfl, rfl⟩
theorem sh_set_on {S S' : SH} {v : Nat → Int32} (h : S' = sh_on' S v) : sh_kd S' = sh_kd S ∧ sh_fr S' = sh_fr S ∧ sh_mn S' = sh_mn S ∧ sh_me S' = sh_me S ∧ sh_ha S' = sh_ha S ∧ sh_na S' = sh_na S ∧ sh_ln S' = sh_ln S ∧ sh_hg S' = sh_hg S ∧ sh_sn S' = sh_sn S ∧ sh_si S' = sh_si S ∧ sh_dp S' = sh_dp S ∧ sh_ab S' = sh_ab S ∧ sh_br S' = sh_br S ∧ sh_di S' = sh_di S ∧ sh_fo S' = sh_fo S ∧ sh_ti S' = sh_ti S ∧ sh_sz S' = sh_sz S ∧ sh_sk S' = sh_sk S ∧ sh_wa S' = sh_wa S ∧ sh_dt S' = sh_dt S ∧ sh_or S' = sh_or S ∧ sh_ds S' = sh_ds S ∧ sh_on S' = v ∧ sh_ot S' = sh_ot S ∧ sh_su S' = sh_su S ∧ sh_wh S' = sh_wh S := by
  subst h
  exact ⟨rfl, rfl, rfl, rfl, rfl, rfl, rfl, rfl, rfl, rfl, rfl, rfl, rfl, rfl, rfl, rfl, rfl, rfl, rfl, rfl, rfl, rfl, rfl, rfl, rfl, rfl⟩
theorem sh_set_ot {S S' : SH} {v : Nat → Int32} (h : S' = sh_ot' S v) : sh_kd S' = sh_kd S ∧ sh_fr S' = sh_fr S ∧ sh_mn S' = sh_mn S ∧ sh_me S' = sh_me S ∧ sh_ha S' = sh_ha S ∧ sh_na S' = sh_na S ∧ sh_ln S' = sh_ln S ∧ sh_hg S' = sh_hg S ∧ sh_sn S' = sh_sn S ∧ sh_si S' = sh_si S ∧ sh_dp S' = sh_dp S ∧ sh_ab S' = sh_ab S ∧ sh_br S' = sh_br S ∧ sh_di S' = sh_di S ∧ sh_fo S' = sh_fo S ∧ sh_ti S' = sh_ti S ∧ sh_sz S' = sh_sz S ∧ sh_sk S' = sh_sk S ∧ sh_wa S' = sh_wa S ∧ sh_dt S' = sh_dt S ∧ sh_or S' = sh_or S ∧ sh_ds S' = sh_ds S ∧ sh_on S' = sh_on S ∧ sh_ot S' = v ∧ sh_su S' = sh_su S ∧ sh_wh S' = sh_wh S := by
  subst h
  exact ⟨rfl, rfl, rfl, rfl, rfl, rfl, rfl, rfl, rfl, rfl, rfl, rfl, rfl, rfl, rfl, rfl, rfl, rfl, rfl, rfl, rfl, rfl, rfl, rfl, rfl, rfl⟩
theorem sh_set_su {S S' : SH} {v : Nat → Int32} (h : S' = sh_su' S v) : sh_kd S' = sh_kd S ∧ sh_fr S' = sh_fr S ∧ sh_mn S' = sh_mn S ∧ sh_me S' = sh_me S ∧ sh_ha S' = sh_ha S ∧ sh_na S' = sh_na S ∧ sh_ln S' = sh_ln S ∧ sh_hg S' = sh_hg S ∧ sh_sn S' = sh_sn S ∧ sh_si S' = sh_si S ∧ sh_dp S' = sh_dp S ∧ sh_ab S' = sh_ab S ∧ sh_br S' = sh_br S ∧ sh_di S' = sh_di S ∧ sh_fo S' = sh_fo S ∧ sh_ti S' = sh_ti S ∧ sh_sz S' = sh_sz S ∧ sh_sk S' = sh_sk S ∧ sh_wa S' = sh_wa S ∧ sh_dt S' = sh_dt S ∧ sh_or S' = sh_or S ∧ sh_ds S' = sh_ds S ∧ sh_on S' = sh_on S ∧ sh_ot S' = sh_ot S ∧ sh_su S' = v ∧ sh_wh S' = sh_wh S := by
  subst h
  exact ⟨rfl, rfl, rfl, rfl, rfl, rfl, rfl, rfl, rfl, rfl, rfl, rfl, rfl, rfl, rfl, rfl, rfl, rfl, rfl, rfl, rfl, rfl, rfl, rfl, rfl, rfl⟩
theorem sh_set_wh {S S' : SH} {v : Nat → Int32} (h : S' = sh_wh' S v) : sh_kd S' = sh_kd S ∧ sh_fr S' = sh_fr S ∧ sh_mn S' = sh_mn S ∧ sh_me S' = sh_me S ∧ sh_ha S' = sh_ha S ∧ sh_na S' = sh_na S ∧ sh_ln S' = sh_ln S ∧ sh_hg S' = sh_hg S ∧ sh_sn S' = sh_sn S ∧ sh_si S' = sh_si S ∧ sh_dp S' = sh_dp S ∧ sh_ab S' = sh_ab S ∧ sh_br S' = sh_br S ∧ sh_di S' = sh_di S ∧ sh_fo S' = sh_fo S ∧ sh_ti S' = sh_ti S ∧ sh_sz S' = sh_sz S ∧ sh_sk S' = sh_sk S ∧ sh_wa S' = sh_wa S ∧ sh_dt S' = sh_dt S ∧ sh_or S' = sh_or S ∧ sh_ds S' = sh_ds S ∧ sh_on S' = sh_on S ∧ sh_ot S' = sh_ot S ∧ sh_su S' = sh_su S ∧ sh_wh S' = v := by
  subst h
  exact ⟨rfl, rfl, rfl, rfl, rfl, rfl, rfl, rfl, rfl, rfl, rfl, rfl, rfl, rfl, rfl, rfl, rfl, rfl, rfl, rfl, rfl, rfl, rfl, rfl, rfl, rfl⟩
theorem zero_out {f : Nat → Int32} {a i j : Nat} (h : j < a ∨ i ≤ j) : zeroF f a i j = f j := if_neg (by omega)
theorem zero_in {f : Nat → Int32} {a i j : Nat} (h : a ≤ j ∧ j < i) : zeroF f a i j = 0 := if_pos h
theorem tadd_at {T : TM} {cap : Nat} (h : T.2 < cap) : taddR cap T = nI T.2 ∧ taddT cap T = (zeroF T.1 (T.2 * 8) (T.2 * 8 + 8), T.2 + 1) := ⟨if_pos h, if_pos h⟩
theorem tsI_p {f : Nat → Int32} {m r c : Nat} {v : Int32} (h : r < m) (h2 : m ≤ 1000) : tsI (f, m) (nI r) c v = (upd f (8 * r + c) v, m) := by
  unfold tsI
  rw [if_pos ⟨nI_pos' (by omega), nI_lt h (by omega)⟩, nI_clamp (by omega)]
def R0 (T : TM) (m : Nat) (hg sn : Nat → Int32) : Prop := T.2 = m ∧ ∀ r, r < m → T.1 (8 * r + 0) = hg r ∧ T.1 (8 * r + 1) = sn r ∧ T.1 (8 * r + 2) = 0
theorem addBand_t {σ : GL} {h1 h2 : Int32} (hr : gN σ 0 < 5) : (s_Glacier_addBand σ h1 h2).1 0 = (upd (upd (zeroF (σ.1 0).1 (gN σ 0 * 8) (gN σ 0 * 8 + 8)) (8 * gN σ 0 + 0) h1) (8 * gN σ 0 + 1) h2, gN σ 0 + 1) ∧ (∀ j, j ≠ 0 → (s_Glacier_addBand σ h1 h2).1 j = σ.1 j) ∧ (s_Glacier_addBand σ h1 h2).2 = σ.2 := by
  obtain ⟨a1, a2⟩ := tadd_at (T := σ.1 0) (cap := capG 0) hr
  have hr' : (σ.1 0).2 < 5 := hr
  refine ⟨?_, fun j hj => ?_, rfl⟩
  · show tsI (tsI (taddT (capG 0) (σ.1 0)) (taddR (capG 0) (σ.1 0)) 0 h1) (taddR (capG 0) (σ.1 0)) 1 h2 = _
    rw [a1, a2]
    show _ = (_, (σ.1 0).2 + 1)
    have p : ∀ f c v, tsI (f, (σ.1 0).2 + 1) (nI (σ.1 0).2) c v = (upd f (8 * (σ.1 0).2 + c) v, (σ.1 0).2 + 1) := fun f c v => tsI_p (by omega) (by omega)
    simp only [p]
    rfl
  · unfold s_Glacier_addBand gS gP
    dsimp only
    rw [if_neg hj]
    rw [if_neg hj]
    rw [if_neg hj]
theorem R0_add {σ : GL} {h1 h2 : Int32} {m : Nat} {hg sn hg' sn' : Nat → Int32} (hR : R0 (σ.1 0) m hg sn) (hm : m < 5) (ehg : hg' m = h1) (esn : sn' m = h2) (hlo : ∀ j, j < m → hg' j = hg j ∧ sn' j = sn j) : R0 ((s_Glacier_addBand σ h1 h2).1 0) (m + 1) hg' sn' := by
  have hn : gN σ 0 = m := hR.1
  obtain ⟨t1, -, -⟩ := addBand_t (σ := σ) (h1 := h1) (h2 := h2) (show gN σ 0 < 5 by omega)
  rw [t1, hn]
  refine ⟨rfl, fun r hr => ?_⟩
  by_cases e : r = m
  · subst e
    exact ⟨(upd_ne _ _ (by omega)).trans ((upd_at _ _ _).trans (ehg.symm)), (upd_at _ _ _).trans (esn.symm), (upd_ne _ _ (by omega)).trans ((upd_ne _ _ (by omega)).trans (zero_in (by omega)))⟩
  · have q := hR.2 r (by omega)
    exact ⟨(upd_ne _ _ (by omega)).trans ((upd_ne _ _ (by omega)).trans ((zero_out (by omega)).trans (q.1.trans (hlo r (by omega)).1.symm))), (upd_ne _ _ (by omega)).trans ((upd_ne _ _ (by omega)).trans ((zero_out (by omega)).trans (q.2.1.trans (hlo r (by omega)).2.symm))), (upd_ne _ _ (by omega)).trans ((upd_ne _ _ (by omega)).trans ((zero_out (by omega)).trans (q.2.2)))⟩
def R1 (T : TM) (m : Nat) (si dp : Nat → Int32) : Prop := T.2 = m ∧ ∀ r, r < m → T.1 (8 * r + 0) = si r ∧ T.1 (8 * r + 1) = dp r ∧ T.1 (8 * r + 2) = 0 ∧ T.1 (8 * r + 3) = 1 ∧ T.1 (8 * r + 4) = (-1) ∧ T.1 (8 * r + 5) = 0
theorem addStake_t {σ : GL} {h1 h2 : Int32} (hr : gN σ 1 < 6) : (s_Glacier_addStake σ h1 h2).1 1 = (upd (upd (upd (upd (zeroF (σ.1 1).1 (gN σ 1 * 8) (gN σ 1 * 8 + 8)) (8 * gN σ 1 + 0) h1) (8 * gN σ 1 + 1) h2) (8 * gN σ 1 + 3) 1) (8 * gN σ 1 + 4) (-1), gN σ 1 + 1) ∧ (∀ j, j ≠ 1 → (s_Glacier_addStake σ h1 h2).1 j = σ.1 j) ∧ (s_Glacier_addStake σ h1 h2).2 = σ.2 := by
  obtain ⟨a1, a2⟩ := tadd_at (T := σ.1 1) (cap := capG 1) hr
  have hr' : (σ.1 1).2 < 6 := hr
  refine ⟨?_, fun j hj => ?_, rfl⟩
  · show tsI (tsI (tsI (tsI (taddT (capG 1) (σ.1 1)) (taddR (capG 1) (σ.1 1)) 0 h1) (taddR (capG 1) (σ.1 1)) 1 h2) (taddR (capG 1) (σ.1 1)) 3 1) (taddR (capG 1) (σ.1 1)) 4 (-1) = _
    rw [a1, a2]
    show _ = (_, (σ.1 1).2 + 1)
    have p : ∀ f c v, tsI (f, (σ.1 1).2 + 1) (nI (σ.1 1).2) c v = (upd f (8 * (σ.1 1).2 + c) v, (σ.1 1).2 + 1) := fun f c v => tsI_p (by omega) (by omega)
    simp only [p]
    rfl
  · unfold s_Glacier_addStake gS gP
    dsimp only
    rw [if_neg hj]
    rw [if_neg hj]
    rw [if_neg hj]
    rw [if_neg hj]
    rw [if_neg hj]
theorem R1_add {σ : GL} {h1 h2 : Int32} {m : Nat} {si dp si' dp' : Nat → Int32} (hR : R1 (σ.1 1) m si dp) (hm : m < 6) (esi : si' m = h1) (edp : dp' m = h2) (hlo : ∀ j, j < m → si' j = si j ∧ dp' j = dp j) : R1 ((s_Glacier_addStake σ h1 h2).1 1) (m + 1) si' dp' := by
  have hn : gN σ 1 = m := hR.1
  obtain ⟨t1, -, -⟩ := addStake_t (σ := σ) (h1 := h1) (h2 := h2) (show gN σ 1 < 6 by omega)
  rw [t1, hn]
  refine ⟨rfl, fun r hr => ?_⟩
  by_cases e : r = m
  · subst e
    exact ⟨(upd_ne _ _ (by omega)).trans ((upd_ne _ _ (by omega)).trans ((upd_ne _ _ (by omega)).trans ((upd_at _ _ _).trans (esi.symm)))), (upd_ne _ _ (by omega)).trans ((upd_ne _ _ (by omega)).trans ((upd_at _ _ _).trans (edp.symm))), (upd_ne _ _ (by omega)).trans ((upd_ne _ _ (by omega)).trans ((upd_ne _ _ (by omega)).trans ((upd_ne _ _ (by omega)).trans (zero_in (by omega))))), (upd_ne _ _ (by omega)).trans (upd_at _ _ _), upd_at _ _ _, (upd_ne _ _ (by omega)).trans ((upd_ne _ _ (by omega)).trans ((upd_ne _ _ (by omega)).trans ((upd_ne _ _ (by omega)).trans (zero_in (by omega)))))⟩
  · have q := hR.2 r (by omega)
    exact ⟨(upd_ne _ _ (by omega)).trans ((upd_ne _ _ (by omega)).trans ((upd_ne _ _ (by omega)).trans ((upd_ne _ _ (by omega)).trans ((zero_out (by omega)).trans (q.1.trans (hlo r (by omega)).1.symm))))), (upd_ne _ _ (by omega)).trans ((upd_ne _ _ (by omega)).trans ((upd_ne _ _ (by omega)).trans ((upd_ne _ _ (by omega)).trans ((zero_out (by omega)).trans (q.2.1.trans (hlo r (by omega)).2.symm))))), (upd_ne _ _ (by omega)).trans ((upd_ne _ _ (by omega)).trans ((upd_ne _ _ (by omega)).trans ((upd_ne _ _ (by omega)).trans ((zero_out (by omega)).trans (q.2.2.1))))), (upd_ne _ _ (by omega)).trans ((upd_ne _ _ (by omega)).trans ((upd_ne _ _ (by omega)).trans ((upd_ne _ _ (by omega)).trans ((zero_out (by omega)).trans (q.2.2.2.1))))), (upd_ne _ _ (by omega)).trans ((upd_ne _ _ (by omega)).trans ((upd_ne _ _ (by omega)).trans ((upd_ne _ _ (by omega)).trans ((zero_out (by omega)).trans (q.2.2.2.2.1))))), (upd_ne _ _ (by omega)).trans ((upd_ne _ _ (by omega)).trans ((upd_ne _ _ (by omega)).trans ((upd_ne _ _ (by omega)).trans ((zero_out (by omega)).trans (q.2.2.2.2.2)))))⟩
def R2 (T : TM) (m : Nat) (ab br : Nat → Int32) : Prop := T.2 = m ∧ ∀ r, r < m → T.1 (8 * r + 0) = ab r ∧ T.1 (8 * r + 1) = br r ∧ T.1 (8 * r + 2) = 0 ∧ T.1 (8 * r + 3) = (-1) ∧ T.1 (8 * r + 4) = 0 ∧ T.1 (8 * r + 5) = 0
theorem addCrevasse_t {σ : GL} {h1 h2 : Int32} (hr : gN σ 2 < 4) : (s_Glacier_addCrevasse σ h1 h2).1 2 = (upd (upd (upd (zeroF (σ.1 2).1 (gN σ 2 * 8) (gN σ 2 * 8 + 8)) (8 * gN σ 2 + 0) h1) (8 * gN σ 2 + 1) h2) (8 * gN σ 2 + 3) (-1), gN σ 2 + 1) ∧ (∀ j, j ≠ 2 → (s_Glacier_addCrevasse σ h1 h2).1 j = σ.1 j) ∧ (s_Glacier_addCrevasse σ h1 h2).2 = σ.2 := by
  obtain ⟨a1, a2⟩ := tadd_at (T := σ.1 2) (cap := capG 2) hr
  have hr' : (σ.1 2).2 < 4 := hr
  refine ⟨?_, fun j hj => ?_, rfl⟩
  · show tsI (tsI (tsI (taddT (capG 2) (σ.1 2)) (taddR (capG 2) (σ.1 2)) 0 h1) (taddR (capG 2) (σ.1 2)) 1 h2) (taddR (capG 2) (σ.1 2)) 3 (-1) = _
    rw [a1, a2]
    show _ = (_, (σ.1 2).2 + 1)
    have p : ∀ f c v, tsI (f, (σ.1 2).2 + 1) (nI (σ.1 2).2) c v = (upd f (8 * (σ.1 2).2 + c) v, (σ.1 2).2 + 1) := fun f c v => tsI_p (by omega) (by omega)
    simp only [p]
    rfl
  · unfold s_Glacier_addCrevasse gS gP
    dsimp only
    rw [if_neg hj]
    rw [if_neg hj]
    rw [if_neg hj]
    rw [if_neg hj]
theorem R2_add {σ : GL} {h1 h2 : Int32} {m : Nat} {ab br ab' br' : Nat → Int32} (hR : R2 (σ.1 2) m ab br) (hm : m < 4) (eab : ab' m = h1) (ebr : br' m = h2) (hlo : ∀ j, j < m → ab' j = ab j ∧ br' j = br j) : R2 ((s_Glacier_addCrevasse σ h1 h2).1 2) (m + 1) ab' br' := by
  have hn : gN σ 2 = m := hR.1
  obtain ⟨t1, -, -⟩ := addCrevasse_t (σ := σ) (h1 := h1) (h2 := h2) (show gN σ 2 < 4 by omega)
  rw [t1, hn]
  refine ⟨rfl, fun r hr => ?_⟩
  by_cases e : r = m
  · subst e
    exact ⟨(upd_ne _ _ (by omega)).trans ((upd_ne _ _ (by omega)).trans ((upd_at _ _ _).trans (eab.symm))), (upd_ne _ _ (by omega)).trans ((upd_at _ _ _).trans (ebr.symm)), (upd_ne _ _ (by omega)).trans ((upd_ne _ _ (by omega)).trans ((upd_ne _ _ (by omega)).trans (zero_in (by omega)))), upd_at _ _ _, (upd_ne _ _ (by omega)).trans ((upd_ne _ _ (by omega)).trans ((upd_ne _ _ (by omega)).trans (zero_in (by omega)))), (upd_ne _ _ (by omega)).trans ((upd_ne _ _ (by omega)).trans ((upd_ne _ _ (by omega)).trans (zero_in (by omega))))⟩
  · have q := hR.2 r (by omega)
    exact ⟨(upd_ne _ _ (by omega)).trans ((upd_ne _ _ (by omega)).trans ((upd_ne _ _ (by omega)).trans ((zero_out (by omega)).trans (q.1.trans (hlo r (by omega)).1.symm)))), (upd_ne _ _ (by omega)).trans ((upd_ne _ _ (by omega)).trans ((upd_ne _ _ (by omega)).trans ((zero_out (by omega)).trans (q.2.1.trans (hlo r (by omega)).2.symm)))), (upd_ne _ _ (by omega)).trans ((upd_ne _ _ (by omega)).trans ((upd_ne _ _ (by omega)).trans ((zero_out (by omega)).trans (q.2.2.1)))), (upd_ne _ _ (by omega)).trans ((upd_ne _ _ (by omega)).trans ((upd_ne _ _ (by omega)).trans ((zero_out (by omega)).trans (q.2.2.2.1)))), (upd_ne _ _ (by omega)).trans ((upd_ne _ _ (by omega)).trans ((upd_ne _ _ (by omega)).trans ((zero_out (by omega)).trans (q.2.2.2.2.1)))), (upd_ne _ _ (by omega)).trans ((upd_ne _ _ (by omega)).trans ((upd_ne _ _ (by omega)).trans ((zero_out (by omega)).trans (q.2.2.2.2.2))))⟩
def R3 (T : TM) (m : Nat) (di fo : Nat → Int32) : Prop := T.2 = m ∧ ∀ r, r < m → T.1 (8 * r + 0) = di r ∧ T.1 (8 * r + 1) = fo r
theorem addDepot_t {σ : GL} {h1 h2 : Int32} (hr : gN σ 3 < 4) : (s_Glacier_addDepot σ h1 h2).1 3 = (upd (upd (zeroF (σ.1 3).1 (gN σ 3 * 8) (gN σ 3 * 8 + 8)) (8 * gN σ 3 + 0) h1) (8 * gN σ 3 + 1) h2, gN σ 3 + 1) ∧ (∀ j, j ≠ 3 → (s_Glacier_addDepot σ h1 h2).1 j = σ.1 j) ∧ (s_Glacier_addDepot σ h1 h2).2 = σ.2 := by
  obtain ⟨a1, a2⟩ := tadd_at (T := σ.1 3) (cap := capG 3) hr
  have hr' : (σ.1 3).2 < 4 := hr
  refine ⟨?_, fun j hj => ?_, rfl⟩
  · show tsI (tsI (taddT (capG 3) (σ.1 3)) (taddR (capG 3) (σ.1 3)) 0 h1) (taddR (capG 3) (σ.1 3)) 1 h2 = _
    rw [a1, a2]
    show _ = (_, (σ.1 3).2 + 1)
    have p : ∀ f c v, tsI (f, (σ.1 3).2 + 1) (nI (σ.1 3).2) c v = (upd f (8 * (σ.1 3).2 + c) v, (σ.1 3).2 + 1) := fun f c v => tsI_p (by omega) (by omega)
    simp only [p]
    rfl
  · unfold s_Glacier_addDepot gS gP
    dsimp only
    rw [if_neg hj]
    rw [if_neg hj]
    rw [if_neg hj]
theorem R3_add {σ : GL} {h1 h2 : Int32} {m : Nat} {di fo di' fo' : Nat → Int32} (hR : R3 (σ.1 3) m di fo) (hm : m < 4) (edi : di' m = h1) (efo : fo' m = h2) (hlo : ∀ j, j < m → di' j = di j ∧ fo' j = fo j) : R3 ((s_Glacier_addDepot σ h1 h2).1 3) (m + 1) di' fo' := by
  have hn : gN σ 3 = m := hR.1
  obtain ⟨t1, -, -⟩ := addDepot_t (σ := σ) (h1 := h1) (h2 := h2) (show gN σ 3 < 4 by omega)
  rw [t1, hn]
  refine ⟨rfl, fun r hr => ?_⟩
  by_cases e : r = m
  · subst e
    exact ⟨(upd_ne _ _ (by omega)).trans ((upd_at _ _ _).trans (edi.symm)), (upd_at _ _ _).trans (efo.symm)⟩
  · have q := hR.2 r (by omega)
    exact ⟨(upd_ne _ _ (by omega)).trans ((upd_ne _ _ (by omega)).trans ((zero_out (by omega)).trans (q.1.trans (hlo r (by omega)).1.symm))), (upd_ne _ _ (by omega)).trans ((upd_ne _ _ (by omega)).trans ((zero_out (by omega)).trans (q.2.trans (hlo r (by omega)).2.symm)))⟩
def R4 (T : TM) (m : Nat) (sz sk ti : Nat → Int32) : Prop := T.2 = m ∧ ∀ r, r < m → T.1 (8 * r + 0) = sz r ∧ T.1 (8 * r + 1) = sk r ∧ T.1 (8 * r + 2) = ti r ∧ T.1 (8 * r + 3) = 0 ∧ T.1 (8 * r + 4) = 1 ∧ T.1 (8 * r + 5) = 0 ∧ T.1 (8 * r + 6) = 0 ∧ T.1 (8 * r + 7) = 0
theorem addTeam_t {σ : GL} {h1 h2 h3 : Int32} (hr : gN σ 4 < 4) : (s_Glacier_addTeam σ h1 h2 h3).1 4 = (upd (upd (upd (upd (zeroF (σ.1 4).1 (gN σ 4 * 8) (gN σ 4 * 8 + 8)) (8 * gN σ 4 + 2) h1) (8 * gN σ 4 + 0) h2) (8 * gN σ 4 + 1) h3) (8 * gN σ 4 + 4) 1, gN σ 4 + 1) ∧ (∀ j, j ≠ 4 → (s_Glacier_addTeam σ h1 h2 h3).1 j = σ.1 j) ∧ (s_Glacier_addTeam σ h1 h2 h3).2 = σ.2 := by
  obtain ⟨a1, a2⟩ := tadd_at (T := σ.1 4) (cap := capG 4) hr
  have hr' : (σ.1 4).2 < 4 := hr
  refine ⟨?_, fun j hj => ?_, rfl⟩
  · show tsI (tsI (tsI (tsI (taddT (capG 4) (σ.1 4)) (taddR (capG 4) (σ.1 4)) 2 h1) (taddR (capG 4) (σ.1 4)) 0 h2) (taddR (capG 4) (σ.1 4)) 1 h3) (taddR (capG 4) (σ.1 4)) 4 1 = _
    rw [a1, a2]
    show _ = (_, (σ.1 4).2 + 1)
    have p : ∀ f c v, tsI (f, (σ.1 4).2 + 1) (nI (σ.1 4).2) c v = (upd f (8 * (σ.1 4).2 + c) v, (σ.1 4).2 + 1) := fun f c v => tsI_p (by omega) (by omega)
    simp only [p]
    rfl
  · unfold s_Glacier_addTeam gS gP
    dsimp only
    rw [if_neg hj]
    rw [if_neg hj]
    rw [if_neg hj]
    rw [if_neg hj]
    rw [if_neg hj]
theorem R4_add {σ : GL} {h1 h2 h3 : Int32} {m : Nat} {sz sk ti sz' sk' ti' : Nat → Int32} (hR : R4 (σ.1 4) m sz sk ti) (hm : m < 4) (esz : sz' m = h2) (esk : sk' m = h3) (eti : ti' m = h1) (hlo : ∀ j, j < m → sz' j = sz j ∧ sk' j = sk j ∧ ti' j = ti j) : R4 ((s_Glacier_addTeam σ h1 h2 h3).1 4) (m + 1) sz' sk' ti' := by
  have hn : gN σ 4 = m := hR.1
  obtain ⟨t1, -, -⟩ := addTeam_t (σ := σ) (h1 := h1) (h2 := h2) (h3 := h3) (show gN σ 4 < 4 by omega)
  rw [t1, hn]
  refine ⟨rfl, fun r hr => ?_⟩
  by_cases e : r = m
  · subst e
    exact ⟨(upd_ne _ _ (by omega)).trans ((upd_ne _ _ (by omega)).trans ((upd_at _ _ _).trans (esz.symm))), (upd_ne _ _ (by omega)).trans ((upd_at _ _ _).trans (esk.symm)), (upd_ne _ _ (by omega)).trans ((upd_ne _ _ (by omega)).trans ((upd_ne _ _ (by omega)).trans ((upd_at _ _ _).trans (eti.symm)))), (upd_ne _ _ (by omega)).trans ((upd_ne _ _ (by omega)).trans ((upd_ne _ _ (by omega)).trans ((upd_ne _ _ (by omega)).trans (zero_in (by omega))))), upd_at _ _ _, (upd_ne _ _ (by omega)).trans ((upd_ne _ _ (by omega)).trans ((upd_ne _ _ (by omega)).trans ((upd_ne _ _ (by omega)).trans (zero_in (by omega))))), (upd_ne _ _ (by omega)).trans ((upd_ne _ _ (by omega)).trans ((upd_ne _ _ (by omega)).trans ((upd_ne _ _ (by omega)).trans (zero_in (by omega))))), (upd_ne _ _ (by omega)).trans ((upd_ne _ _ (by omega)).trans ((upd_ne _ _ (by omega)).trans ((upd_ne _ _ (by omega)).trans (zero_in (by omega)))))⟩
  · have q := hR.2 r (by omega)
    exact ⟨(upd_ne _ _ (by omega)).trans ((upd_ne _ _ (by omega)).trans ((upd_ne _ _ (by omega)).trans ((upd_ne _ _ (by omega)).trans ((zero_out (by omega)).trans (q.1.trans (hlo r (by omega)).1.symm))))), (upd_ne _ _ (by omega)).trans ((upd_ne _ _ (by omega)).trans ((upd_ne _ _ (by omega)).trans ((upd_ne _ _ (by omega)).trans ((zero_out (by omega)).trans (q.2.1.trans (hlo r (by omega)).2.1.symm))))), (upd_ne _ _ (by omega)).trans ((upd_ne _ _ (by omega)).trans ((upd_ne _ _ (by omega)).trans ((upd_ne _ _ (by omega)).trans ((zero_out (by omega)).trans (q.2.2.1.trans (hlo r (by omega)).2.2.symm))))), (upd_ne _ _ (by omega)).trans ((upd_ne _ _ (by omega)).trans ((upd_ne _ _ (by omega)).trans ((upd_ne _ _ (by omega)).trans ((zero_out (by omega)).trans (q.2.2.2.1))))), (upd_ne _ _ (by omega)).trans ((upd_ne _ _ (by omega)).trans ((upd_ne _ _ (by omega)).trans ((upd_ne _ _ (by omega)).trans ((zero_out (by omega)).trans (q.2.2.2.2.1))))), (upd_ne _ _ (by omega)).trans ((upd_ne _ _ (by omega)).trans ((upd_ne _ _ (by omega)).trans ((upd_ne _ _ (by omega)).trans ((zero_out (by omega)).trans (q.2.2.2.2.2.1))))), (upd_ne _ _ (by omega)).trans ((upd_ne _ _ (by omega)).trans ((upd_ne _ _ (by omega)).trans ((upd_ne _ _ (by omega)).trans ((zero_out (by omega)).trans (q.2.2.2.2.2.2.1))))), (upd_ne _ _ (by omega)).trans ((upd_ne _ _ (by omega)).trans ((upd_ne _ _ (by omega)).trans ((upd_ne _ _ (by omega)).trans ((zero_out (by omega)).trans (q.2.2.2.2.2.2.2)))))⟩
def V0 (m : Nat) (hg sn : Nat → Int32) : Prop := ∀ r, r < m → btw 0 (sn r) 300 ∧ btw 0 (hg r) 20
def V1 (nb m : Nat) (si dp : Nat → Int32) : Prop := ∀ r, r < m → (∃ b, b < nb ∧ si r = nI b) ∧ btw 1 (dp r) 200
def V2 (nb m : Nat) (ab br : Nat → Int32) : Prop := ∀ r, r < m → (∃ b, b < nb ∧ ab r = nI b) ∧ btw 0 (br r) 99
def V3 (nb m : Nat) (di fo : Nat → Int32) : Prop := ∀ r, r < m → (∃ b, b < nb ∧ di r = nI b) ∧ btw 0 (fo r) 99
def V4 (nb m : Nat) (sz sk ti : Nat → Int32) : Prop := ∀ r, r < m → btw 2 (sz r) 6 ∧ btw 0 (sk r) 40 ∧ ∃ b, b < nb ∧ ti r = nI b
def V5 (wa : Nat → Int32) : Prop := ∀ i, i < 8 → btw 0 (wa i) 30
def LG (σ : GL) (H : SH) (d : Int32) : Prop := R0 (σ.1 0) (sh_ha H 0) (sh_hg H) (sh_sn H) ∧ R1 (σ.1 1) (sh_ha H 3) (sh_si H) (sh_dp H) ∧ R2 (σ.1 2) (sh_ha H 6) (sh_ab H) (sh_br H) ∧ R3 (σ.1 3) (sh_ha H 9) (sh_di H) (sh_fo H) ∧ R4 (σ.1 4) (sh_ha H 11) (sh_sz H) (sh_sk H) (sh_ti H) ∧ (∀ i, i < 8 → gW σ i = sh_wa H i) ∧ gD σ = d ∧ gC σ = 0
def LV (H : SH) : Prop := V0 (sh_ha H 0) (sh_hg H) (sh_sn H) ∧ V1 (sh_ha H 0) (sh_ha H 3) (sh_si H) (sh_dp H) ∧ V2 (sh_ha H 0) (sh_ha H 6) (sh_ab H) (sh_br H) ∧ V3 (sh_ha H 0) (sh_ha H 9) (sh_di H) (sh_fo H) ∧ V4 (sh_ha H 0) (sh_ha H 11) (sh_sz H) (sh_sk H) (sh_ti H) ∧ V5 (sh_wa H)
/-- a stretch of signs for a sum (3), a test (0) of the tokens p .. q -/
def SO (H : SH) (w : Nat) (F : FM) (H1 : SH) (t a b p : Nat) : Prop := ∃ q, q ≤ t ∧ p < 401 ∧ b ≤ 800 ∧ (∃ s, fm_sz F = nI s ∧ b ≤ s ∧ s ≤ 800) ∧ (∀ j, a ≤ j → j < b → ¬ fm_sg F j = none) ∧ VAL H w 0 p q F H1 a b
def KL (H : SH) (T : TM) (F : FM) (H1 : SH) (t i : Nat) : Prop :=
  (T.1 (8 * i + 0) = 0 ∧ sh_ds H1 i = 15 ∧ ∃ t, t < sh_ha H1 11 ∧ T.1 (8 * i + 1) = nI t ∧ sh_on H1 i = nI t) ∨
  (T.1 (8 * i + 0) = 1 ∧ sh_ds H1 i = 16 ∧ ∃ t, t < sh_ha H1 11 ∧ T.1 (8 * i + 1) = nI t ∧ sh_on H1 i = nI t) ∨
  (T.1 (8 * i + 0) = 2 ∧ sh_ds H1 i = 17 ∧ ∃ t c, t < sh_ha H1 11 ∧ c < sh_ha H1 6 ∧ T.1 (8 * i + 1) = nI t ∧ T.1 (8 * i + 2) = nI c ∧ sh_ot H1 i = nI t ∧ sh_on H1 i = nI c) ∨
  (T.1 (8 * i + 0) = 3 ∧ sh_ds H1 i = 19 ∧ ∃ u a b p, u < sh_ha H1 11 ∧ T.1 (8 * i + 1) = nI u ∧ sh_on H1 i = nI u ∧ T.1 (8 * i + 3) = nI a ∧ T.1 (8 * i + 4) = nI b ∧ sh_su H1 i = nI p ∧ SO H 3 F H1 t a b p) ∨
  (T.1 (8 * i + 0) = 4 ∧ sh_ds H1 i = 21 ∧ ∃ r, r < sh_ha H1 3 ∧ T.1 (8 * i + 2) = nI r ∧ sh_on H1 i = nI r)
def WL (H : SH) (T : TM) (F : FM) (H1 : SH) (t i : Nat) : Prop := (T.1 (8 * i + 5) = 0 ∧ T.1 (8 * i + 6) = 0 ∧ sh_wh H1 i = -1) ∨ ∃ a b p, T.1 (8 * i + 5) = nI a ∧ T.1 (8 * i + 6) = nI b ∧ sh_wh H1 i = nI p ∧ SO H 0 F H1 t a b p
def OREL (H : SH) (T : TM) (F : FM) (H1 : SH) (t : Nat) : Prop := T.2 = sh_or H1 ∧ ∀ i, i < sh_or H1 → KL H T F H1 t i ∧ WL H T F H1 t i
theorem SO.keep {H : SH} {w : Nat} {F F' : FM} {H1 H2 : SH} {t t' a b p s s' : Nat} (h : SO H w F H1 t a b p) (ht : t ≤ t') (hs : fm_sz F = nI s) (hs' : fm_sz F' = nI s') (hss : s ≤ s') (h800 : s' ≤ 800) (hF : ∀ j, j < s → fm_sg F' j = fm_sg F j ∧ fm_op F' j = fm_op F j) (hm : ∀ j, j < t → sh_me H2 j = sh_me H1 j) (hh : ∀ k, sh_ha H1 k ≤ sh_ha H2 k) : SO H w F' H2 t' a b p := by
  obtain ⟨q, q1, q2, q3, ⟨s0, q4, q5, q6⟩, q7, v1, v2, v3⟩ := h
  have es : s0 = s := (nI_eq (by omega) (by omega)).mp (q4.symm.trans hs)
  subst es
  refine ⟨q, by omega, q2, q3, ⟨s', hs', by omega, h800⟩, fun j j1 j2 => by rw [(hF j (by omega)).1]; exact q7 j j1 j2, v1, v2, fun Hs hFn σ Y g1 g2 g3 => ?_⟩
  obtain ⟨v, u1, u2, u3⟩ := v3 Hs ⟨hFn.1, fun j j1 j2 => (hFn.2.1 j j1 j2).trans (hm j (by omega)), fun k => Nat.le_trans (hh k) (hFn.2.2.1 k), hFn.2.2.2⟩ σ Y g1 g2 g3
  exact ⟨v, u1, fun l => (run_ext _ _ _ fun j j1 j2 => hF j (by omega)).trans (u2 l), u3⟩
/-- orders told ahead stay -/
theorem KL.keep {H : SH} {T T' : TM} {F F' : FM} {H1 H2 : SH} {t t' i s s' : Nat} (h : KL H T F H1 t i ∧ WL H T F H1 t i) (ht : t ≤ t') (hs : fm_sz F = nI s) (hs' : fm_sz F' = nI s') (hss : s ≤ s') (h800 : s' ≤ 800) (hF : ∀ j, j < s → fm_sg F' j = fm_sg F j ∧ fm_op F' j = fm_op F j) (hm : ∀ j, j < t → sh_me H2 j = sh_me H1 j) (hh : ∀ k, sh_ha H1 k ≤ sh_ha H2 k) (hT : ∀ c, c < 8 → T'.1 (8 * i + c) = T.1 (8 * i + c)) (e1 : sh_ds H2 i = sh_ds H1 i) (e2 : sh_on H2 i = sh_on H1 i) (e3 : sh_ot H2 i = sh_ot H1 i) (e4 : sh_su H2 i = sh_su H1 i) (e5 : sh_wh H2 i = sh_wh H1 i) : KL H T' F' H2 t' i ∧ WL H T' F' H2 t' i := by
  obtain ⟨k, w⟩ := h
  unfold KL WL at *
  rw [hT 0 (by omega), hT 1 (by omega), hT 2 (by omega), hT 3 (by omega), hT 4 (by omega), hT 5 (by omega), hT 6 (by omega), e1, e2, e3, e4, e5]
  have h11 := hh 11
  have h6 := hh 6
  have h3 := hh 3
  constructor
  · rcases k with ⟨k1, k2, u, k3, k4⟩ | ⟨k1, k2, u, k3, k4⟩ | ⟨k1, k2, u, c, k3, k4, k5⟩ | ⟨k1, k2, u, a, b, p, k3, k4, k5, k6, k7, k8, k9⟩ | ⟨k1, k2, r, k3, k4⟩
    · exact .inl ⟨k1, k2, u, by omega, k4⟩
    · exact .inr (.inl ⟨k1, k2, u, by omega, k4⟩)
    · exact .inr (.inr (.inl ⟨k1, k2, u, c, by omega, by omega, k5⟩))
    · exact .inr (.inr (.inr (.inl ⟨k1, k2, u, a, b, p, by omega, k4, k5, k6, k7, k8, k9.keep ht hs hs' hss h800 hF hm hh⟩)))
    · exact .inr (.inr (.inr (.inr ⟨k1, k2, r, by omega, k4⟩)))
  · rcases w with w | ⟨a, b, p, w1, w2, w3, w4⟩
    · exact .inl w
    · exact .inr ⟨a, b, p, w1, w2, w3, w4.keep ht hs hs' hss h800 hF hm hh⟩
/-- what stands behind each line -/
def LREL (K : TK) (H : SH) (n : Nat) (d : Int32) (t : Nat) (F : FM) (N : Nat → NM) (T : TM) (σ : GL) (H1 : SH) : Prop := SameT H H1 ∧ NRel K H1 N n ∧ RC H1 ∧ LG σ H1 d ∧ LV H1 ∧ OREL H T F H1 t ∧ ∃ a, fm_sz F = nI a ∧ a ≤ 2 * t
/-! the steps, with both -/
theorem start_k {K : TK} {H Ha : SH} {n t : Nat} {M : MO} {g : Fin 54} (hX : LX K H n) (ht : t < n) (hS : SameT H Ha) (h0 : t = 0 ∨ (gk K (t - 1)).val = 39) (hg : gk K t = g) (hn : neu g) : RDm M n t Ha = RDm M n (t + 1) (sh_ln' Ha (kOf g)) := by
  have h400 := hX.1
  obtain ⟨g1, g2, g3, g4, g5⟩ := hn
  have hk : sh_kd Ha t = kOf g := by rw [hS.1, (hX.2.2 t (by omega)).2.1, hg]
  have e : s_Model_errorOf (mo_tk' M n) Ha t = some (0, sh_ln' Ha (kOf g)) := by
    have e27 : l_Model_errorOf_27 (mo_tk' M n) t 1 (sh_ln' Ha (sh_kd Ha t)) = some (0, sh_ln' Ha (kOf g)) := by
      rw [l_Model_errorOf_27, if_pos (by omega)]
      show (if s_Model_isOrder (sh_kd Ha t) = 0 then (if sh_kd Ha t = 20 then _ else if sh_kd Ha t = 22 then _ else if sh_kd Ha t = 36 then _ else if sh_kd Ha t = 37 then _ else some (0, sh_ln' Ha (sh_kd Ha t))) else _) = _
      rw [hk, if_pos g1, if_neg g2, if_neg g3, if_neg g4, if_neg g5]
    unfold s_Model_errorOf
    rcases h0 with h0 | h0
    · rw [h0] at e27 ⊢
      rw [if_pos (show nI 0 = 0 from rfl), if_pos (by decide)]
      exact e27
    · by_cases z : t = 0
      · rw [z] at e27 ⊢
        rw [if_pos (show nI 0 = 0 from rfl), if_pos (by decide)]
        exact e27
      · rw [if_neg (c := nI t = 0) (fun w => absurd ((nI_eq (a := t) (b := 0) (by omega) (by decide)).mp w) z), if_pos (show 1 ≤ t by omega), if_pos (show t - 1 < 401 by omega), if_pos (show sh_kd Ha (t - 1) = 44 by rw [hS.1, (hX.2.2 (t - 1) (by omega)).2.1, show gk K (t - 1) = 39 from Fin.ext h0]; rfl), if_pos (show t < 401 by omega)]
        exact e27
  exact (rd_step ht h400 e).trans (if_pos rfl)
theorem neu_k {K : TK} {H Ha : SH} {n t : Nat} {M : MO} {g : Fin 54} (hX : LX K H n) (ht : t < n) (hS : SameT H Ha) (h1 : 1 ≤ t) (h39 : ¬ (gk K (t - 1)).val = 39) (hg : gk K t = g) (hn : neu g) : RDm M n t Ha = RDm M n (t + 1) Ha := by
  have h400 := hX.1
  have e := err_neu (M := mo_tk' M n) (H := Ha) (g := g) h1 (show t ≤ 400 by omega) (by rw [hS.1, (hX.2.2 (t - 1) (by omega)).2.1]; exact fun w => h39 (congrArg Fin.val ((kOf_iff _ 39).mp w))) (by rw [hS.1, (hX.2.2 t (by omega)).2.1, hg]) hn
  exact (rd_step ht h400 e).trans (if_pos rfl)
theorem tell_0 {K : TK} {E : TE} {t : Nat} {e : Int32} (h : te_er E = 0) : s_Teacher_tellError (tA K t) E e = (e, tk_st K t) := by
  unfold s_Teacher_tellError
  rw [if_pos h]
  rfl
/-- an error here, told by both -/
def ERR (K : TK) (M : MO) (n t : Nat) (Ha : SH) (E' : TE) : Prop := ¬ te_er E' ≤ 0 ∧ ∃ H2, RDm M n t Ha = some (te_er E', mo_ea' (mo_tk' M n) (te_ep E'), H2)
theorem err_k {K : TK} {H Ha H2 : SH} {n t : Nat} {M : MO} {e : Int32} (hX : LX K H n) (ht : t < n) (hS : SameT H Ha) (hf : sh_fr H2 = sh_fr Ha) (he : ¬ e ≤ 0) (h : s_Model_errorOf (mo_tk' M n) Ha t = some (e, H2)) : ERR K M n t Ha (e, tk_st K t) := by
  refine ⟨he, H2, ?_⟩
  rw [rd_step ht hX.1 h, if_neg (ne_le he), hf, hS.2.1, (hX.2.2 t (by omega)).2.2.1]
def mst (i : Nat) : Nat := [5, 6, 4, 4, 4].getD i 0
theorem sort_f : ∀ i, i < 5 → s_Model_isSort (nI (srt i)) = 1 ∧ s_Model_most (nI (srt i)) = nI (mst i) ∧ mst i ≤ 6 ∧ ¬ nI (srt i) = 44 := by decide
theorem new_step {K : TK} {H Ha : SH} {n t i : Nat} {M : MO} {N : Nat → NM} {E : TE} (hX : LX K H n) (hW : LW (mo_tk' M n) K (sh_fr H) (sh_mn H) n) (ht : t + 1 < n) (hS : SameT H Ha) (hN : NRel K Ha N n) (hi : i < 5) (hm : sh_ha Ha (srt i) ≤ mst i) (hk : kOf (gk K t) = nI (srt i)) (h50 : (gk K (t + 1)).val = 50) (hE : te_er E = 0) : ERR K M n (t + 1) Ha (s_Teacher_newName (tA K t) E (N i) (nI (mst i))).2.1 ∨ (sh_ha Ha (srt i) < mst i ∧ (s_Teacher_newName (tA K t) E (N i) (nI (mst i))).2 = (E, s_Names_add (N i) (tk_wo K (t + 1))) ∧ RDm M n (t + 1) Ha = RDm M n (t + 2) (sh_ha' (sh_na' Ha (updN (sh_na Ha) (6 * srt i + sh_ha Ha (srt i)) (t + 1))) (updN (sh_ha Ha) (srt i) (sh_ha Ha (srt i) + 1)))) := by
  have h400 := hX.1
  have s11 := srt12 i hi
  obtain ⟨f1, f2, f3, f4⟩ := sort_f i hi
  obtain ⟨hsz, hs6, -⟩ := hN i hi
  have kdt : sh_kd Ha t = nI (srt i) := by rw [hS.1, (hX.2.2 t (by omega)).2.1, hk]
  have kd1 : sh_kd Ha (t + 1) = 36 := by rw [hS.1, (hX.2.2 (t + 1) (by omega)).2.1, show gk K (t + 1) = 50 from Fin.ext h50]; rfl
  obtain ⟨d1, d2⟩ := find_eq (M := mo_tk' M n) h400 (by rw [hS.2.1, hS.2.2]; exact hW) hN hi ht h50
  have e : s_Model_errorOf (mo_tk' M n) Ha (t + 1) = (s_Model_errorOfNew (mo_tk' M n) Ha (srt i) (t + 1)).bind fun p => some (p.1, p.2) := by
    rw [err_in (by omega) (by omega) (by rw [Nat.add_sub_cancel, kdt]; exact f4), l_Model_errorOf_27, kd1, if_pos (by omega), if_pos (by decide), if_neg (by decide), if_neg (by decide), if_pos rfl, if_pos (by omega)]
    unfold s_Model_errorOfName
    rw [if_pos (by omega), if_pos (by omega), Nat.add_sub_cancel, kdt, f1, if_neg (by decide), if_pos (ok_nI (by omega) (by omega)), if_pos (by omega), nI_clamp (by omega)]
    cases s_Model_errorOfNew (mo_tk' M n) Ha (srt i) (t + 1) <;> rfl
  unfold s_Model_errorOfNew at e
  rw [if_pos (by omega), if_pos (by omega), d1] at e
  have hadv : s_Tokens_advance (tA K t) = tA K (t + 1) := hX.adv (by omega)
  unfold s_Teacher_newName
  rw [hadv, show s_Tokens_sign (tA K (t + 1)) = gk K (t + 1) from rfl, if_pos h50, show s_Tokens_worth (tA K (t + 1)) = tk_wo K (t + 1) from rfl]
  rcases d2 with d2 | ⟨r, r1, r2⟩
  · rw [d2] at e ⊢
    rw [if_pos (show (-1 : Int32) < 0 by decide)]
    replace e : s_Model_errorOf (mo_tk' M n) Ha (t + 1) = ((if srt i < 12 then (if nI (sh_ha Ha (srt i)) = s_Model_most (nI (srt i)) then some (4, Ha) else (if srt i < 12 then (if ((6 * srt i) + (sh_ha Ha (srt i))) < 72 then (if srt i < 12 then (if srt i < 12 then some (0, (sh_ha' (sh_na' Ha (updN (sh_na Ha) ((6 * srt i) + (sh_ha Ha (srt i))) (t + 1))) (updN (sh_ha Ha) (srt i) ((sh_ha Ha (srt i)) + 1)))) else none) else none) else none) else none)) else none) : Option (Int32 × SH)).bind fun p => some (p.1, p.2) := e
    rw [if_pos (by omega), f2] at e
    rw [hsz]
    by_cases hf : sh_ha Ha (srt i) = mst i
    · rw [if_pos (by rw [hf])] at e
      rw [if_neg (fun w => absurd ((nI_ltI (by omega) (by omega)).mp w) (by omega))]
      show ERR K M n (t + 1) Ha (s_Teacher_tellError (tA K (t + 1)) E 4) ∨ _
      rw [tell_0 hE]
      exact .inl (err_k hX ht hS rfl (by decide) e)
    · rw [if_neg (fun w => hf ((nI_eq (by omega) (by omega)).mp w)), if_pos (by omega), if_pos (by omega), if_pos (by omega), if_pos (by omega)] at e
      rw [if_pos (nI_lt (by omega) (by omega))]
      exact .inr ⟨by omega, rfl, (rd_step ht h400 e).trans (if_pos rfl)⟩
  · rw [r2] at e ⊢
    have h31 : r < 2 ^ 31 := by omega
    rw [if_neg (nI_pos h31)]
    replace e : s_Model_errorOf (mo_tk' M n) Ha (t + 1) = ((if nI r = -1 then _ else some (2, Ha)) : Option (Int32 × SH)).bind fun p => some (p.1, p.2) := e
    rw [if_neg (fun w => nI_pos h31 (by rw [w]; decide))] at e
    show ERR K M n (t + 1) Ha (s_Teacher_tellError (tA K (t + 1)) E 2) ∨ _
    rw [tell_0 hE]
    exact .inl (err_k hX ht hS rfl (by decide) e)
theorem nrel_add {K : TK} {Ha Hb : SH} {N N' : Nat → NM} {n i x : Nat} (hN : NRel K Ha N n) (hi : i < 5) (hm : sh_ha Ha (srt i) < mst i) (hx : x < n) (hg : (gk K x).val = 50) (hN1 : N' i = s_Names_add (N i) (tk_wo K x)) (hN2 : ∀ j, j < 5 → j ≠ i → N' j = N j) (hna : sh_na Hb = updN (sh_na Ha) (6 * srt i + sh_ha Ha (srt i)) x) (hha : sh_ha Hb = updN (sh_ha Ha) (srt i) (sh_ha Ha (srt i) + 1)) : NRel K Hb N' n := by
  have f3 := (sort_f i hi).2.2.1
  obtain ⟨a1, a2, a3⟩ := hN i hi
  have dis : ∀ j, j < 5 → j ≠ i → srt j ≠ srt i ∧ ∀ q, q < 6 → 6 * srt j + q ≠ 6 * srt i + sh_ha Ha (srt i) := by
    intro j hj hne
    have inj : ∀ i, i < 5 → ∀ j, j < 5 → j ≠ i → srt j + 1 ≤ srt i ∨ srt i + 1 ≤ srt j := by decide
    rcases inj i hi j hj hne with h | h
    · exact ⟨by omega, fun q hq => by omega⟩
    · exact ⟨by omega, fun q hq => by omega⟩
  intro j hj
  by_cases e : j = i
  · subst e
    have hadd : s_Names_add (N j) (tk_wo K x) = (nm_sz' (nm_na' (N j) (vp_updL (nm_na (N j)) (nm_sz (N j)) (tk_wo K x))) (nm_sz (N j) + 1)) := by
      unfold s_Names_add
      rw [if_neg (fun w => absurd ((nI_leI (by omega) (by omega)).mp w) (by omega))]
    rw [hN1, hadd, hna, hha]
    refine ⟨?_, ?_, fun q hq => ?_⟩
    · show nm_sz (N j) + 1 = updN (sh_ha Ha) (srt j) (sh_ha Ha (srt j) + 1) (srt j)
      rw [updN_at, a1]
    · show nm_sz (N j) + 1 ≤ 6
      omega
    · by_cases eq : q = nm_sz (N j)
      · rw [eq, a1, updN_at]
        refine ⟨hx, hg, ?_⟩
        show vp_updL (nm_na (N j)) (sh_ha Ha (srt j)) (tk_wo K x) (sh_ha Ha (srt j)) = _
        rw [updL_at]
      · have hq2 : q < nm_sz (N j) := by
          have : q < nm_sz (N j) + 1 := hq
          omega
        rw [updN_ne _ _ (by omega)]
        obtain ⟨b1, b2, b3⟩ := a3 q hq2
        refine ⟨b1, b2, ?_⟩
        show vp_updL (nm_na (N j)) (nm_sz (N j)) (tk_wo K x) q = _
        rw [updL_ne _ _ eq, b3]
  · obtain ⟨c1, c2, c3⟩ := hN j hj
    obtain ⟨d1, d2⟩ := dis j hj e
    rw [hN2 j hj e, hna, hha]
    refine ⟨by rw [updN_ne _ _ d1]; exact c1, c2, fun q hq => ?_⟩
    rw [updN_ne _ _ (d2 q (by omega))]
    exact c3 q hq
theorem num_step {K : TK} {H Ha Hw : SH} {n t k l h : Nat} {M : MO} {E : TE} (hX : LX K H n) (ht : t + 1 < n) (hS : SameT H Ha) (hl : l < 2 ^ 31) (hh : h < 2 ^ 31) (hk : k < 1000000) (hw : (tk_wo K (t + 1)).toInt32 = nI k) (h51 : (gk K (t + 1)).val = 51) (hE : te_er E = 0) (hf : sh_fr Hw = sh_fr Ha) (he : s_Model_errorOf (mo_tk' M n) Ha (t + 1) = some (s_Model_errorOfRange (nI k) (nI l) (nI h), Hw)) : ERR K M n (t + 1) Ha (s_Teacher_number (tA K t) E (gk K t) (nI l) (nI h)).2.2 ∨ (l ≤ k ∧ k ≤ h ∧ (s_Teacher_number (tA K t) E (gk K t) (nI l) (nI h)).1 = nI k ∧ (s_Teacher_number (tA K t) E (gk K t) (nI l) (nI h)).2.2 = E ∧ RDm M n (t + 1) Ha = RDm M n (t + 2) Hw) := by
  have h400 := hX.1
  have h52 := (hX.2.2 t (by omega)).2.2.2.2.mp (by omega)
  unfold s_Teacher_number
  rw [exp_A hX h52 (by omega), if_pos (show (gk K t).val = (gk K t).val from rfl)]
  rw [show s_Tokens_sign (tA K (t + 1)) = gk K (t + 1) from rfl, if_pos h51, show s_Tokens_worth (tA K (t + 1)) = tk_wo K (t + 1) from rfl, hw]
  unfold s_Model_errorOfRange at he
  rw [isIn_iff] at he
  by_cases c1 : k < l
  · rw [if_pos (nI_lt c1 hl)]
    show ERR K M n (t + 1) Ha (s_Teacher_tellError (tA K (t + 1)) E 5) ∨ _
    rw [if_neg (c := nI l ≤ nI k ∧ nI k ≤ nI h) (fun w => absurd ((nI_leI hl (by omega)).mp w.1) (by omega)), if_pos rfl] at he
    rw [tell_0 hE]
    exact .inl (err_k hX ht hS hf (by decide) he)
  · rw [if_neg (fun w => c1 ((nI_ltI (by omega) hl).mp w))]
    by_cases c2 : k ≤ h
    · rw [if_pos (nI_le c2 hh)]
      rw [if_pos (c := nI l ≤ nI k ∧ nI k ≤ nI h) ⟨nI_le (by omega) (by omega), nI_le c2 hh⟩, if_neg (by decide)] at he
      exact .inr ⟨by omega, c2, rfl, rfl, (rd_step ht h400 he).trans (if_pos rfl)⟩
    · rw [if_neg (fun w => c2 ((nI_leI (by omega) hh).mp w))]
      show ERR K M n (t + 1) Ha (s_Teacher_tellError (tA K (t + 1)) E 5) ∨ _
      rw [if_neg (c := nI l ≤ nI k ∧ nI k ≤ nI h) (fun w => c2 ((nI_leI (by omega) hh).mp w.2)), if_pos rfl] at he
      rw [tell_0 hE]
      exact .inl (err_k hX ht hS hf (by decide) he)
theorem old_step {K : TK} {H Ha : SH} {n t i : Nat} {M : MO} {N : Nat → NM} {E : TE} {W : Int32 → SH} (hX : LX K H n) (hW : LW (mo_tk' M n) K (sh_fr H) (sh_mn H) n) (ht : t + 1 < n) (hS : SameT H Ha) (hN : NRel K Ha N n) (hi : i < 5) (h50 : (gk K (t + 1)).val = 50) (hE : te_er E = 0) (hg : s_Model_isSort (kOf (gk K t)) = 0 ∧ s_Model_sortBehind (kOf (gk K t)) = nI (srt i) ∧ ¬ kOf (gk K t) = 44) (hw : ∀ r, r < sh_ha Ha (srt i) → s_Model_find (mo_tk' M n) Ha (srt i) (t + 1) = some (nI r) → s_Model_errorOfName (mo_tk' M n) Ha (t + 1) = some (0, W (nI r))) : ERR K M n (t + 1) Ha (s_Teacher_oldName (tA K t) E (N i) (gk K t)).2.2 ∨ ∃ r, r < sh_ha Ha (srt i) ∧ (s_Teacher_oldName (tA K t) E (N i) (gk K t)).1 = nI r ∧ (s_Teacher_oldName (tA K t) E (N i) (gk K t)).2.2 = E ∧ RDm M n (t + 1) Ha = RDm M n (t + 2) (W (nI r)) := by
  have h400 := hX.1
  have s11 := srt12 i hi
  obtain ⟨g1, g2, g3⟩ := hg
  obtain ⟨hsz, hs6, -⟩ := hN i hi
  have kdt : sh_kd Ha t = kOf (gk K t) := by rw [hS.1, (hX.2.2 t (by omega)).2.1]
  have kd1 : sh_kd Ha (t + 1) = 36 := by rw [hS.1, (hX.2.2 (t + 1) (by omega)).2.1, show gk K (t + 1) = 50 from Fin.ext h50]; rfl
  obtain ⟨d1, d2⟩ := find_eq (M := mo_tk' M n) h400 (by rw [hS.2.1, hS.2.2]; exact hW) hN hi ht h50
  have e : s_Model_errorOf (mo_tk' M n) Ha (t + 1) = (s_Model_errorOfName (mo_tk' M n) Ha (t + 1)).bind fun p => some (p.1, p.2) := by
    rw [err_in (by omega) (by omega) (by rw [Nat.add_sub_cancel, kdt]; exact g3), l_Model_errorOf_27, kd1, if_pos (by omega), if_pos (by decide), if_neg (by decide), if_neg (by decide), if_pos rfl, if_pos (by omega)]
  rw [old_A hX (by omega) rfl, if_pos h50]
  rcases d2 with d2 | ⟨r, r1, r2⟩
  · rw [d2, if_neg (by decide)]
    show ERR K M n (t + 1) Ha (s_Teacher_tellError (tA K (t + 1)) E 3) ∨ _
    rw [tell_0 hE]
    refine .inl (err_k (H2 := sh_me' Ha (upd (sh_me Ha) (t + 1) (-1))) hX ht hS rfl (by decide) ?_)
    rw [e]
    unfold s_Model_errorOfName
    rw [if_pos (by omega), if_pos (by omega), Nat.add_sub_cancel, kdt, if_pos g1, g2, if_pos (ok_nI (by omega) (by omega)), if_pos (by omega), nI_clamp (by omega), d1, d2]
    show (((if t + 1 < 401 then (if (-1 : Int32) = -1 then _ else _) else none) : Option (Int32 × SH))).bind _ = _
    rw [if_pos (by omega), if_pos rfl]
    rfl
  · have h31 : r < 2 ^ 31 := by omega
    rw [r2, if_pos (nI_pos' h31)]
    refine .inr ⟨r, r1, rfl, rfl, ?_⟩
    have e2 := hw r r1 (by rw [d1, r2])
    rw [e2] at e
    exact (rd_step ht h400 e).trans (if_pos rfl)
