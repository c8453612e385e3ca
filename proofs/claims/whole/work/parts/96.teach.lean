/-! the list, line by line -/
def LIST (K : TK) (H : SH) (n : Nat) (M : MO) (d : Int32) (t : Nat) (F : FM) (E : TE) (N : Nat → NM) (T : TM) (σ : GL) (M1 : MO) (res : TK × FM × TE × NM × NM × NM × NM × NM × TM × GL) (rm : Option (Int32 × MO)) : Prop := ∃ (s : Bool × Nat) (d' : Nat), res.1 = st K s ∧ rm = some (if s.1 = true then 1 else 0, mS M1 s.2 d') ∧ s.2 ≤ n ∧ (s.1 = true → s.2 = n ∧ (gk K n).val = 52 ∧ d' = 0 ∧ (¬ te_er E = 0 → res.2.2.1 = E) ∧ (te_er E = 0 → ∀ H1, LREL K H n d t F N T σ H1 → ERR K M n t H1 res.2.2.1 ∨ (res.2.2.1 = E ∧ ∃ H2, RDm M n t H1 = RDm M n n H2 ∧ LREL K H n d n res.2.1 (NN res.2.2.2.1 res.2.2.2.2.1 res.2.2.2.2.2.1 res.2.2.2.2.2.2.1 res.2.2.2.2.2.2.2.1) res.2.2.2.2.2.2.2.2.1 res.2.2.2.2.2.2.2.2.2 H2)))
theorem isList_s {H : SH} {k : Nat} {M : MO} (h : mo_tk M < 401) (h70 : ¬ sh_kd H (mo_tk M) = 70) : l_Model_isList H (k + 1) M = (isL H M).bind fun p => if p.1 = 0 then some (0, p.2) else l_Model_isList H k p.2 := by
  rw [l_Model_isList, if_pos h, if_neg h70]
  unfold isL
  simp only [bnd3, Option.bind_some, if10]
theorem list_B {K : TK} {H : SH} {n t : Nat} (hX : LX K H n) (ht : t ≤ n) : ∀ k i F E N0 N1 N2 N3 N4 T σ, l_Teacher_readList_2 k i (tB K t) F E N0 N1 N2 N3 N4 T σ = (tB K t, F, E, N0, N1, N2, N3, N4, T, σ)
  | 0, _, _, _, _, _, _, _, _, _, _ => rfl
  | k + 1, i, F, E, N0, N1, N2, N3, N4, T, σ => by
    have h : (0 : Int32) ≤ s_Tokens_brokenAt (tB K t) := by
      show (0 : Int32) ≤ tk_st K t
      rw [(hX.2.2 t ht).2.2.1]
      exact nI_pos' (by have := (hX.2.2 t ht).2.2.2.1; omega)
    rw [l_Teacher_readList_2, if_neg (show ¬ (s_Tokens_sign (tB K t)).val = 52 by show ¬ (53 : Fin 54).val = 52; decide), if_pos h]
theorem list_step {K : TK} {H : SH} {n : Nat} {M : MO} {d : Int32} {t i : Nat} {F F' : FM} {E E' : TE} {N : Nat → NM} {N0 N1 N2 N3 N4 : NM} {T T' : TM} {σ σ' : GL} {M1 : MO} {K' : TK} {k kM : Nat} (hX : LX K H n) (hL : LINE K H n M d t F E N T σ M1 K' F' E' (NN N0 N1 N2 N3 N4) T' σ' (isL H (mS M1 t 0))) (h0 : t = 0 ∨ (gk K (t - 1)).val = 39) (ht : t ≤ n) (h39 : ¬ (gk K t).val = 39) (h52 : ¬ (gk K t).val = 52) (ih : ∀ t', t + 2 ≤ t' → t' ≤ n → (gk K (t' - 1)).val = 39 → LIST K H n M d t' F' E' (NN N0 N1 N2 N3 N4) T' σ' M1 (l_Teacher_readList_2 k (i + 1) (tA K t') F' E' N0 N1 N2 N3 N4 T' σ') (l_Model_isList H kM (mS M1 t' 0))) : LIST K H n M d t F E N T σ M1 (l_Teacher_readList_2 k (i + 1) K' F' E' N0 N1 N2 N3 N4 T' σ') (l_Model_isList H (kM + 1) (mS M1 t 0)) := by
  have h400 := hX.1
  obtain ⟨s, d', a1, a2, a3, a4, a5⟩ := hL
  have h70 : ¬ sh_kd H (mo_tk (mS M1 t 0)) = 70 := by
    show ¬ sh_kd H t = 70
    rw [(hX.2.2 t ht).2.1]
    exact fun w => h52 (congrArg Fin.val ((kOf_iff _ 52).mp w))
  rw [isList_s (show mo_tk (mS M1 t 0) < 401 by show t < 401; omega) h70, a2, a1]
  obtain ⟨b, u⟩ := s
  cases b with
  | false =>
    rw [show st K (false, u) = tB K u from rfl, list_B hX a4]
    exact ⟨(false, u), d', rfl, rfl, a4, fun w => by cases w⟩
  | true =>
    obtain ⟨b1, b2, b3, b4, b5⟩ := a5 rfl
    dsimp only at a3 a4 b2 b3 b5
    subst b1
    have hu : t + 2 ≤ u := by
      by_cases z : u = t + 1
      · rw [z, Nat.add_sub_cancel] at b3; exact absurd b3 h39
      · omega
    obtain ⟨s2, d2, c1, c2, c3, c4⟩ := ih u hu a4 b3
    rw [show st K (true, u) = tA K u from rfl]
    refine ⟨s2, d2, c1, c2, c3, fun hok => ?_⟩
    obtain ⟨e1, e2, e3, e4, e5⟩ := c4 hok
    refine ⟨e1, e2, e3, fun hE => ?_, fun hE H1 hR => ?_⟩
    · have := b4 hE
      exact (e4 (by rw [this]; exact hE)).trans this
    · rcases b5 hE H1 hR h0 with er | ⟨f1, H2, f2, f3⟩
      · have := e4 (ne_le er.1)
        exact .inl (by rw [this]; exact er)
      · rcases e5 (by rw [f1]; exact hE) H2 f3 with er | ⟨g1, H3, g2, g3⟩
        · exact .inl (er.back f2 rfl)
        · exact .inr ⟨g1.trans f1, H3, f2.trans g2, g3⟩
theorem sw_line : ∀ g : Fin 54, ¬ (g.val = 0 ∨ g.val = 3 ∨ g.val = 6 ∨ g.val = 9 ∨ g.val = 11 ∨ g.val = 13 ∨ g.val = 15 ∨ g.val = 16 ∨ g.val = 17 ∨ g.val = 19 ∨ g.val = 21) → ¬ swf g.val = 1 ∧ ¬ swf g.val = 2 ∧ ¬ swf g.val = 3 ∧ ¬ swf g.val = 4 ∧ ¬ swf g.val = 5 ∧ ¬ swf g.val = 6 ∧ ¬ swf g.val = 7 ∧ ¬ swf g.val = 8 ∧ ¬ swf g.val = 9 ∧ ¬ swf g.val = 10 ∧ ¬ swf g.val = 11 := by decide +kernel
theorem list_ok {K : TK} {H : SH} {n : Nat} {M : MO} {d : Int32} {M1 : MO} (hX : LX K H n) (hW : LW (mo_tk' M n) K (sh_fr H) (sh_mn H) n) : ∀ k i t F E N0 N1 N2 N3 N4 T σ kM, t ≤ n → n + 1 ≤ t + 2 * k → n < t + kM → (t = 0 ∨ (gk K (t - 1)).val = 39) → LIST K H n M d t F E (NN N0 N1 N2 N3 N4) T σ M1 (l_Teacher_readList_2 k i (tA K t) F E N0 N1 N2 N3 N4 T σ) (l_Model_isList H kM (mS M1 t 0)) := by
  have h400 := hX.1
  intro k
  induction k with
  | zero => intro i t F E N0 N1 N2 N3 N4 T σ kM ht hk; omega
  | succ k ih =>
    intro i t F E N0 N1 N2 N3 N4 T σ kM ht hk hkM h0
    obtain ⟨kM', rfl⟩ := Nat.exists_eq_succ_of_ne_zero (show kM ≠ 0 by omega)
    by_cases h52 : (gk K t).val = 52
    · have hn : t = n := by
        by_cases z : t < n
        · have := (hX.2.2 t ht).2.2.2.2.mp z
          omega
        · omega
      rw [l_Teacher_readList_2, if_pos (show (s_Tokens_sign (tA K t)).val = 52 from h52), l_Model_isList, if_pos (show mo_tk (mS M1 t 0) < 401 by show t < 401; omega), if_pos (show sh_kd H (mo_tk (mS M1 t 0)) = 70 by (show sh_kd H t = _; rw [(hX.2.2 t ht).2.1, show gk K t = 52 from Fin.ext h52]; rfl))]
      subst hn
      exact ⟨(true, t), 0, rfl, rfl, Nat.le_refl _, fun _ => ⟨rfl, h52, rfl, fun _ => rfl, fun _ H1 hR => .inr ⟨rfl, H1, rfl, hR⟩⟩⟩
    have hbr : ¬ (0 : Int32) ≤ s_Tokens_brokenAt (tA K t) := by show ¬ (0 : Int32) ≤ -1; decide
    rw [l_Teacher_readList_2, if_neg (show ¬ (s_Tokens_sign (tA K t)).val = 52 from h52), if_neg hbr]
    have IH : ∀ (F' : FM) (E' : TE) (N0' N1' N2' N3' N4' : NM) (T' : TM) (σ' : GL) (t' : Nat), t + 2 ≤ t' → t' ≤ n → (gk K (t' - 1)).val = 39 → LIST K H n M d t' F' E' (NN N0' N1' N2' N3' N4') T' σ' M1 (l_Teacher_readList_2 k (i + 1) (tA K t') F' E' N0' N1' N2' N3' N4' T' σ') (l_Model_isList H kM' (mS M1 t' 0)) := fun F' E' N0' N1' N2' N3' N4' T' σ' t' h1 h2 h3 => ih (i + 1) t' F' E' N0' N1' N2' N3' N4' T' σ' kM' h2 (by omega) (by omega) (.inr h3)
    by_cases g0 : (gk K t).val = 0
    · have hg : gk K t = 0 := Fin.ext g0
      have ht' : t < n := (hX.2.2 t ht).2.2.2.2.mpr (by omega)
      rw [show s_Tokens_sign (tA K t) = 0 from hg, if_pos (show swf (0 : Fin 54).val = 1 by decide)]
      exact list_step hX (line_band hX hW ht' hg) h0 ht (by omega) h52 (IH _ _ _ _ _ _ _ _ _)
    by_cases g3 : (gk K t).val = 3
    · have hg : gk K t = 3 := Fin.ext g3
      have ht' : t < n := (hX.2.2 t ht).2.2.2.2.mpr (by omega)
      rw [show s_Tokens_sign (tA K t) = 3 from hg, if_neg (show ¬ swf (3 : Fin 54).val = 1 by decide), if_pos (show swf (3 : Fin 54).val = 2 by decide)]
      exact list_step hX (line_stake hX hW ht' hg) h0 ht (by omega) h52 (IH _ _ _ _ _ _ _ _ _)
    by_cases g6 : (gk K t).val = 6
    · have hg : gk K t = 6 := Fin.ext g6
      have ht' : t < n := (hX.2.2 t ht).2.2.2.2.mpr (by omega)
      rw [show s_Tokens_sign (tA K t) = 6 from hg, if_neg (show ¬ swf (6 : Fin 54).val = 1 by decide), if_neg (show ¬ swf (6 : Fin 54).val = 2 by decide), if_pos (show swf (6 : Fin 54).val = 3 by decide)]
      exact list_step hX (line_crevasse hX hW ht' hg) h0 ht (by omega) h52 (IH _ _ _ _ _ _ _ _ _)
    by_cases g9 : (gk K t).val = 9
    · have hg : gk K t = 9 := Fin.ext g9
      have ht' : t < n := (hX.2.2 t ht).2.2.2.2.mpr (by omega)
      rw [show s_Tokens_sign (tA K t) = 9 from hg, if_neg (show ¬ swf (9 : Fin 54).val = 1 by decide), if_neg (show ¬ swf (9 : Fin 54).val = 2 by decide), if_neg (show ¬ swf (9 : Fin 54).val = 3 by decide), if_pos (show swf (9 : Fin 54).val = 4 by decide)]
      exact list_step hX (line_depot hX hW ht' hg) h0 ht (by omega) h52 (IH _ _ _ _ _ _ _ _ _)
    by_cases g11 : (gk K t).val = 11
    · have hg : gk K t = 11 := Fin.ext g11
      have ht' : t < n := (hX.2.2 t ht).2.2.2.2.mpr (by omega)
      rw [show s_Tokens_sign (tA K t) = 11 from hg, if_neg (show ¬ swf (11 : Fin 54).val = 1 by decide), if_neg (show ¬ swf (11 : Fin 54).val = 2 by decide), if_neg (show ¬ swf (11 : Fin 54).val = 3 by decide), if_neg (show ¬ swf (11 : Fin 54).val = 4 by decide), if_pos (show swf (11 : Fin 54).val = 5 by decide)]
      exact list_step hX (line_team hX hW ht' hg) h0 ht (by omega) h52 (IH _ _ _ _ _ _ _ _ _)
    by_cases g13 : (gk K t).val = 13
    · have hg : gk K t = 13 := Fin.ext g13
      have ht' : t < n := (hX.2.2 t ht).2.2.2.2.mpr (by omega)
      rw [show s_Tokens_sign (tA K t) = 13 from hg, if_neg (show ¬ swf (13 : Fin 54).val = 1 by decide), if_neg (show ¬ swf (13 : Fin 54).val = 2 by decide), if_neg (show ¬ swf (13 : Fin 54).val = 3 by decide), if_neg (show ¬ swf (13 : Fin 54).val = 4 by decide), if_neg (show ¬ swf (13 : Fin 54).val = 5 by decide), if_pos (show swf (13 : Fin 54).val = 6 by decide)]
      exact list_step hX (line_day hX hW ht' hg) h0 ht (by omega) h52 (IH _ _ _ _ _ _ _ _ _)
    by_cases g15 : (gk K t).val = 15
    · have hg : gk K t = 15 := Fin.ext g15
      have ht' : t < n := (hX.2.2 t ht).2.2.2.2.mpr (by omega)
      rw [show s_Tokens_sign (tA K t) = 15 from hg, if_neg (show ¬ swf (15 : Fin 54).val = 1 by decide), if_neg (show ¬ swf (15 : Fin 54).val = 2 by decide), if_neg (show ¬ swf (15 : Fin 54).val = 3 by decide), if_neg (show ¬ swf (15 : Fin 54).val = 4 by decide), if_neg (show ¬ swf (15 : Fin 54).val = 5 by decide), if_neg (show ¬ swf (15 : Fin 54).val = 6 by decide), if_pos (show swf (15 : Fin 54).val = 7 by decide)]
      exact list_step hX (line_climb hX hW ht' hg) h0 ht (by omega) h52 (IH _ _ _ _ _ _ _ _ _)
    by_cases g16 : (gk K t).val = 16
    · have hg : gk K t = 16 := Fin.ext g16
      have ht' : t < n := (hX.2.2 t ht).2.2.2.2.mpr (by omega)
      rw [show s_Tokens_sign (tA K t) = 16 from hg, if_neg (show ¬ swf (16 : Fin 54).val = 1 by decide), if_neg (show ¬ swf (16 : Fin 54).val = 2 by decide), if_neg (show ¬ swf (16 : Fin 54).val = 3 by decide), if_neg (show ¬ swf (16 : Fin 54).val = 4 by decide), if_neg (show ¬ swf (16 : Fin 54).val = 5 by decide), if_neg (show ¬ swf (16 : Fin 54).val = 6 by decide), if_neg (show ¬ swf (16 : Fin 54).val = 7 by decide), if_pos (show swf (16 : Fin 54).val = 8 by decide)]
      exact list_step hX (line_descend hX hW ht' hg) h0 ht (by omega) h52 (IH _ _ _ _ _ _ _ _ _)
    by_cases g17 : (gk K t).val = 17
    · have hg : gk K t = 17 := Fin.ext g17
      have ht' : t < n := (hX.2.2 t ht).2.2.2.2.mpr (by omega)
      rw [show s_Tokens_sign (tA K t) = 17 from hg, if_neg (show ¬ swf (17 : Fin 54).val = 1 by decide), if_neg (show ¬ swf (17 : Fin 54).val = 2 by decide), if_neg (show ¬ swf (17 : Fin 54).val = 3 by decide), if_neg (show ¬ swf (17 : Fin 54).val = 4 by decide), if_neg (show ¬ swf (17 : Fin 54).val = 5 by decide), if_neg (show ¬ swf (17 : Fin 54).val = 6 by decide), if_neg (show ¬ swf (17 : Fin 54).val = 7 by decide), if_neg (show ¬ swf (17 : Fin 54).val = 8 by decide), if_pos (show swf (17 : Fin 54).val = 9 by decide)]
      exact list_step hX (line_probe hX hW ht' hg) h0 ht (by omega) h52 (IH _ _ _ _ _ _ _ _ _)
    by_cases g19 : (gk K t).val = 19
    · have hg : gk K t = 19 := Fin.ext g19
      have ht' : t < n := (hX.2.2 t ht).2.2.2.2.mpr (by omega)
      rw [show s_Tokens_sign (tA K t) = 19 from hg, if_neg (show ¬ swf (19 : Fin 54).val = 1 by decide), if_neg (show ¬ swf (19 : Fin 54).val = 2 by decide), if_neg (show ¬ swf (19 : Fin 54).val = 3 by decide), if_neg (show ¬ swf (19 : Fin 54).val = 4 by decide), if_neg (show ¬ swf (19 : Fin 54).val = 5 by decide), if_neg (show ¬ swf (19 : Fin 54).val = 6 by decide), if_neg (show ¬ swf (19 : Fin 54).val = 7 by decide), if_neg (show ¬ swf (19 : Fin 54).val = 8 by decide), if_neg (show ¬ swf (19 : Fin 54).val = 9 by decide), if_pos (show swf (19 : Fin 54).val = 10 by decide)]
      by_cases hsg : (s_Tokens_sign (s_Teacher_readFill (tA K t) F E N0 N1 N2 N3 N4 T σ).1).val = 22
      · rw [if_pos hsg]
        exact list_step hX (line_fill1 hX hW ht' hg hsg) h0 ht (by omega) h52 (IH _ _ _ _ _ _ _ _ _)
      · rw [if_neg hsg]
        exact list_step hX (line_fill0 hX hW ht' hg hsg) h0 ht (by omega) h52 (IH _ _ _ _ _ _ _ _ _)
    by_cases g21 : (gk K t).val = 21
    · have hg : gk K t = 21 := Fin.ext g21
      have ht' : t < n := (hX.2.2 t ht).2.2.2.2.mpr (by omega)
      rw [show s_Tokens_sign (tA K t) = 21 from hg, if_neg (show ¬ swf (21 : Fin 54).val = 1 by decide), if_neg (show ¬ swf (21 : Fin 54).val = 2 by decide), if_neg (show ¬ swf (21 : Fin 54).val = 3 by decide), if_neg (show ¬ swf (21 : Fin 54).val = 4 by decide), if_neg (show ¬ swf (21 : Fin 54).val = 5 by decide), if_neg (show ¬ swf (21 : Fin 54).val = 6 by decide), if_neg (show ¬ swf (21 : Fin 54).val = 7 by decide), if_neg (show ¬ swf (21 : Fin 54).val = 8 by decide), if_neg (show ¬ swf (21 : Fin 54).val = 9 by decide), if_neg (show ¬ swf (21 : Fin 54).val = 10 by decide), if_pos (show swf (21 : Fin 54).val = 11 by decide)]
      exact list_step hX (line_drill hX hW ht' hg) h0 ht (by omega) h52 (IH _ _ _ _ _ _ _ _ _)
    obtain ⟨w1, w2, w3, w4, w5, w6, w7, w8, w9, w10, w11⟩ := sw_line (gk K t) (by omega)
    rw [show s_Tokens_sign (tA K t) = gk K t from rfl, if_neg w1, if_neg w2, if_neg w3, if_neg w4, if_neg w5, if_neg w6, if_neg w7, if_neg w8, if_neg w9, if_neg w10, if_neg w11, brk_A, exp_B hX (by decide) ht, list_B hX ht]
    have hno : ∀ (x : Int32) (y : Nat) (hy : y < 54), x = kOf ⟨y, hy⟩ → ¬ (gk K t).val = y → ¬ sh_kd H (mo_tk (mS M1 t 0)) = x := by
      intro x y hy hx hne
      show ¬ sh_kd H t = x
      rw [(hX.2.2 t ht).2.1, hx]
      exact fun w => hne (congrArg Fin.val ((kOf_iff _ _).mp w))
    rw [isList_s (show mo_tk (mS M1 t 0) < 401 by show t < 401; omega) (hno 70 52 (by decide) rfl h52)]
    have hl : isL H (mS M1 t 0) = some (0, mS M1 t 0) := by
      unfold isL s_Model_isLine
      rw [if_pos (show mo_tk (mS M1 t 0) < 401 by show t < 401; omega), if_neg (hno 0 0 (by decide) rfl g0), if_neg (hno 3 3 (by decide) rfl g3), if_neg (hno 6 6 (by decide) rfl g6), if_neg (hno 9 9 (by decide) rfl g9), if_neg (hno 11 11 (by decide) rfl g11), if_neg (hno 13 13 (by decide) rfl g13), if_neg (hno 15 15 (by decide) rfl g15), if_neg (hno 16 16 (by decide) rfl g16), if_neg (hno 17 17 (by decide) rfl g17), if_neg (hno 21 21 (by decide) rfl g21), isNam_md hX ht (k := 19) (y := 19) (by decide) rfl]
      unfold nx
      rw [if_pos rfl, if_neg (show ¬ (gk K (true, t).2).val = 19 from g19)]
      rfl
    rw [hl]
    exact ⟨(false, t), 0, rfl, rfl, ht, fun w => by cases w⟩
/-! teach -/
theorem beg_loop {x : Int32} : ∀ k i (s : GL), ∃ W, l_Glacier_beginAnew_37 x k i s = gSW s W ∧ (∀ j, i ≤ j → j < i + k → W j = 10) ∧ ∀ j, j < i → W j = gW s j := by
  intro k
  induction k with
  | zero => intro i s; exact ⟨gW s, rfl, fun j h1 h2 => absurd h2 (by omega), fun _ _ => rfl⟩
  | succ k ih =>
    intro i s
    obtain ⟨W, h1, h2, h3⟩ := ih (i + 1) (gSW s (upd (gW s) i 10))
    refine ⟨W, h1, fun j a b => ?_, fun j a => (h3 j (by omega)).trans (upd_ne _ _ (by omega))⟩
    by_cases e : j = i
    · subst e; exact (h3 j (by omega)).trans (upd_at _ _ _)
    · exact h2 j (by omega) (by omega)
theorem beg_f {τ : GL} {x : Int32} : (∀ k, k < 5 → ((s_Glacier_beginAnew τ x).1 k).2 = 0) ∧ (∀ i, i < 8 → gW (s_Glacier_beginAnew τ x) i = 10) ∧ gD (s_Glacier_beginAnew τ x) = x ∧ gC (s_Glacier_beginAnew τ x) = 0 := by
  unfold s_Glacier_beginAnew
  generalize hs : (gP (gP (gP (gP (gP τ 0 ((τ.1 0).1, 0)) 1 _) 2 _) 3 _) 4 _) = s
  obtain ⟨W, h1, h2, -⟩ := beg_loop (x := x) 8 0 s
  rw [h1]
  refine ⟨fun k hk => ?_, fun i hi => h2 i (by omega) (by omega), rfl, rfl⟩
  show (s.1 k).2 = 0
  rw [← hs]
  match k, hk with
  | 0, _ => rfl
  | 1, _ => rfl
  | 2, _ => rfl
  | 3, _ => rfl
  | 4, _ => rfl
  | _ + 5, w => exact absurd w (by omega)
theorem list_wf : ∀ k i K F E N0 N1 N2 N3 N4 (T : TM) (σ : GL), WFG σ → T.2 ≤ 20 → WFG (l_Teacher_readList_2 k i K F E N0 N1 N2 N3 N4 T σ).2.2.2.2.2.2.2.2.2 ∧ (l_Teacher_readList_2 k i K F E N0 N1 N2 N3 N4 T σ).2.2.2.2.2.2.2.2.1.2 ≤ 20 := by
  intro k
  induction k with
  | zero => intro i K F E N0 N1 N2 N3 N4 T σ h1 h2; exact ⟨h1, h2⟩
  | succ k ih =>
    intro i K F E N0 N1 N2 N3 N4 T σ h1 h2
    rw [l_Teacher_readList_2]
    by_cases c0 : (s_Tokens_sign K).val = 52
    · rw [if_pos c0]; exact ⟨h1, h2⟩
    rw [if_neg c0]
    by_cases c00 : 0 ≤ s_Tokens_brokenAt K
    · rw [if_pos c00]; exact ⟨h1, h2⟩
    rw [if_neg c00]
    by_cases c1 : swf (s_Tokens_sign K).val = 1
    · rw [if_pos c1]; exact ih _ _ _ _ _ _ _ _ _ _ _ (wfσ_Teacher_readBand h1) h2
    rw [if_neg c1]
    by_cases c2 : swf (s_Tokens_sign K).val = 2
    · rw [if_pos c2]; exact ih _ _ _ _ _ _ _ _ _ _ _ (wfσ_Teacher_readStake h1) h2
    rw [if_neg c2]
    by_cases c3 : swf (s_Tokens_sign K).val = 3
    · rw [if_pos c3]; exact ih _ _ _ _ _ _ _ _ _ _ _ (wfσ_Teacher_readCrevasse h1) h2
    rw [if_neg c3]
    by_cases c4 : swf (s_Tokens_sign K).val = 4
    · rw [if_pos c4]; exact ih _ _ _ _ _ _ _ _ _ _ _ (wfσ_Teacher_readDepot h1) h2
    rw [if_neg c4]
    by_cases c5 : swf (s_Tokens_sign K).val = 5
    · rw [if_pos c5]; exact ih _ _ _ _ _ _ _ _ _ _ _ (wfσ_Teacher_readTeam h1) h2
    rw [if_neg c5]
    by_cases c6 : swf (s_Tokens_sign K).val = 6
    · rw [if_pos c6]; exact ih _ _ _ _ _ _ _ _ _ _ _ (wfσ_Teacher_readDay h1) h2
    rw [if_neg c6]
    by_cases c7 : swf (s_Tokens_sign K).val = 7
    · rw [if_pos c7]; exact ih _ _ _ _ _ _ _ _ _ _ _ h1 (wfT_Teacher_readWhen (wfT_Teacher_readGo h2))
    rw [if_neg c7]
    by_cases c8 : swf (s_Tokens_sign K).val = 8
    · rw [if_pos c8]; exact ih _ _ _ _ _ _ _ _ _ _ _ h1 (wfT_Teacher_readWhen (wfT_Teacher_readGo h2))
    rw [if_neg c8]
    by_cases c9 : swf (s_Tokens_sign K).val = 9
    · rw [if_pos c9]; exact ih _ _ _ _ _ _ _ _ _ _ _ h1 (wfT_Teacher_readWhen (wfT_Teacher_readProbe h2))
    rw [if_neg c9]
    by_cases c10 : swf (s_Tokens_sign K).val = 10
    · rw [if_pos c10]
      by_cases cf : (s_Tokens_sign (s_Teacher_readFill K F E N0 N1 N2 N3 N4 T σ).1).val = 22
      · rw [if_pos cf]; exact ih _ _ _ _ _ _ _ _ _ _ _ h1 (wfT_Teacher_readWhen (wfT_Teacher_readFill h2))
      · rw [if_neg cf]; exact ih _ _ _ _ _ _ _ _ _ _ _ h1 (wfT_Teacher_readFill h2)
    rw [if_neg c10]
    by_cases c11 : swf (s_Tokens_sign K).val = 11
    · rw [if_pos c11]; exact ih _ _ _ _ _ _ _ _ _ _ _ h1 (wfT_Teacher_readWhen (wfT_Teacher_readDrill h2))
    rw [if_neg c11]
    exact ih _ _ _ _ _ _ _ _ _ _ _ h1 h2
/-- what ties all: the tape, the glacier, the orders -/
def RALL : RelT := fun n A σ T F P M H Y => RT A P M ∧ RG σ H Y ∧ RC H ∧ RR H Y ∧ (sx_dy Y ≤ 60 * n ∧ n ≤ 512) ∧ MB H Y (6 * sx_dy Y) ∧ RO T F H
theorem SO.fok {H H1 : SH} {w : Nat} {F : FM} {t a b p : Nat} (h : SO H w F H1 t a b p) (hS : SameT H H1) (hC : RC H1) (hw : 0 ≤ w) : FOK w F a b H1 p := by
  obtain ⟨q, -, q2, q3, -, q5, v1, v2, v3⟩ := h
  refine ⟨v1, q3, q5, fun σ Y g1 g2 g3 => ?_⟩
  obtain ⟨v, -, u2, u3⟩ := v3 H1 ⟨hS.1, fun _ _ _ => rfl, fun _ => Nat.le_refl _, hC⟩ σ Y g1 g2 g3
  exact ⟨v, nI q, fun M => u3 64 M (by unfold ND; omega), u2 []⟩
theorem OREL.ro {H H1 : SH} {T : TM} {F : FM} {t : Nat} (h : OREL H T F H1 t) (hS : SameT H H1) (hC : RC H1) : RO T F H1 := by
  refine ⟨h.1, fun i hi => ?_⟩
  obtain ⟨k, w⟩ := h.2 i hi
  constructor
  · rcases k with k | k | k | ⟨k1, k2, u, a, b, p, k3, k4, k5, k6, k7, k8, k9⟩ | k
    · exact .inl k
    · exact .inr (.inl k)
    · exact .inr (.inr (.inl k))
    · exact .inr (.inr (.inr (.inl ⟨k1, k2, u, a, b, p, k3, k4, k5, k6, k7, k8, k9.fok hS hC (by omega)⟩)))
    · exact .inr (.inr (.inr (.inr k)))
  · rcases w with w | ⟨a, b, p, w1, w2, w3, w4⟩
    · exact .inl w
    · exact .inr ⟨a, b, p, w1, w2, w3, (by obtain ⟨q, -, q2, -⟩ := w4; exact q2), w4.fok hS hC (by omega)⟩
/-! all begins anew -/
theorem bg_rd {H : SH} {Y : SX} : sx_rd (s_Model_begin H Y) = 0 := rfl
theorem bg_fa {H : SH} {Y : SX} : sx_fa (s_Model_begin H Y) = 0 := rfl
theorem bg_ca {H : SH} {Y : SX} : sx_ca (s_Model_begin H Y) = 0 := rfl
theorem bg_wa {H : SH} {Y : SX} : sx_wa (s_Model_begin H Y) = sh_wa H := rfl
theorem bg_sn {H : SH} {Y : SX} : sx_sn (s_Model_begin H Y) = sh_sn H := rfl
theorem bg_br {H : SH} {Y : SX} : sx_br (s_Model_begin H Y) = sh_br H := rfl
theorem bg_fo {H : SH} {Y : SX} : sx_fo (s_Model_begin H Y) = sh_fo H := rfl
theorem bg_sk {H : SH} {Y : SX} : sx_sk (s_Model_begin H Y) = sh_sk H := rfl
theorem bg_pl {H : SH} {Y : SX} : sx_pl (s_Model_begin H Y) = sh_ti H := rfl
theorem bg_ic {H : SH} {Y : SX} : sx_ic (s_Model_begin H Y) = fun _ => 0 := rfl
theorem bg_ou {H : SH} {Y : SX} : sx_ou (s_Model_begin H Y) = fun _ => 0 := rfl
theorem bg_re {H : SH} {Y : SX} : sx_re (s_Model_begin H Y) = fun _ => 0 := rfl
theorem bg_kn {H : SH} {Y : SX} : sx_kn (s_Model_begin H Y) = fun _ => 0 := rfl
theorem bg_cr {H : SH} {Y : SX} : sx_cr (s_Model_begin H Y) = fun _ => 0 := rfl
theorem bg_fe {H : SH} {Y : SX} : sx_fe (s_Model_begin H Y) = fun _ => 0 := rfl
theorem bg_hu {H : SH} {Y : SX} : sx_hu (s_Model_begin H Y) = fun _ => 0 := rfl
theorem bg_ma {H : SH} {Y : SX} : sx_ma (s_Model_begin H Y) = fun _ => 0 := rfl
theorem bg_fn {H : SH} {Y : SX} : sx_fn (s_Model_begin H Y) = fun _ => 0 := rfl
theorem bg_do {H : SH} {Y : SX} : sx_do (s_Model_begin H Y) = fun _ => 0 := rfl
theorem bg_sd {H : SH} {Y : SX} : sx_sd (s_Model_begin H Y) = fun _ => 1 := rfl
theorem bg_he {H : SH} {Y : SX} : sx_he (s_Model_begin H Y) = fun _ => 1 := rfl
theorem bg_la {H : SH} {Y : SX} : sx_la (s_Model_begin H Y) = fun _ => (-1) := rfl
theorem bg_pr {H : SH} {Y : SX} : sx_pr (s_Model_begin H Y) = fun _ => (-1) := rfl
theorem bg_dy {H : SH} {Y : SX} : sx_dy (s_Model_begin H Y) = sx_dy Y := rfl
theorem sum_0 : ∀ n, sumR (fun _ => 0) n = 0
  | 0 => rfl
  | n + 1 => by rw [sumR, sum_0 n]; rfl
theorem LG.rg {σ : GL} {H : SH} {Y : SX} (h : LG σ H (nI (sx_dy Y))) : RG σ H (s_Model_begin H Y) := by
  obtain ⟨⟨a0, b0⟩, ⟨a1, b1⟩, ⟨a2, b2⟩, ⟨a3, b3⟩, ⟨a4, b4⟩, w, dd, cc⟩ := h
  refine ⟨⟨a0, a1, a2, a3, a4⟩, fun r hr => ?_, fun r hr => ?_, fun r hr => ?_, fun r hr => ?_, fun r hr => ?_, ⟨fun i hi => ?_, ?_, ?_, ?_, ?_⟩⟩
  · rw [bg_sn, bg_ic]; exact b0 r hr
  · rw [bg_ou, bg_sd, bg_la, bg_re]; exact b1 r hr
  · rw [bg_br, bg_kn, bg_pr, bg_cr, bg_fe]; exact b2 r hr
  · rw [bg_fo]; exact b3 r hr
  · rw [bg_sk, bg_pl, bg_hu, bg_he, bg_ma, bg_fn, bg_do]; exact b4 r hr
  · rw [bg_wa]; exact w i hi
  · rw [bg_dy]; exact dd
  · rw [bg_ca]; exact cc
  · rw [bg_rd, bg_ma, sum_0]
  · rw [bg_fa, bg_fn, sum_0]
theorem b00 : btw 0 0 0 := ⟨0, rfl, Nat.le_refl _, Nat.le_refl _⟩
theorem btw.up {a b c : Nat} {x : Int32} (h : btw a x b) (hb : b ≤ c) : btw a x c := by
  obtain ⟨k, h1, h2, h3⟩ := h
  exact ⟨k, h1, h2, by omega⟩
theorem LV.rr {H : SH} {Y : SX} (h : LV H) : RR H (s_Model_begin H Y) := by
  obtain ⟨v0, v1, v2, v3, v4, v5⟩ := h
  refine ⟨⟨fun r hr => ?_, fun i hi => ?_⟩, fun r hr => ?_, fun r hr => ?_, fun r hr => ?_, fun r hr => ?_⟩
  · rw [bg_sn]; exact v0 r hr
  · rw [bg_wa]; exact v5 i hi
  · rw [bg_sd, bg_ou]
    obtain ⟨h1, k, k1, k2, k3⟩ := v1 r hr
    exact ⟨h1, ⟨1, rfl, by omega, by omega⟩, k, k1, k2, k3, fun _ => ⟨0, rfl, by omega⟩⟩
  · rw [bg_br, bg_kn]
    obtain ⟨h1, h2⟩ := v2 r hr
    exact ⟨h1, h2, b00.up (by omega)⟩
  · rw [bg_fo]
    obtain ⟨h1, h2⟩ := v3 r hr
    exact ⟨h1, h2.up (by omega)⟩
  · rw [bg_pl, bg_sk, bg_he, bg_do, bg_hu]
    obtain ⟨h1, h2, h3⟩ := v4 r hr
    exact ⟨h3, h1, h2, ⟨1, rfl, by omega, by omega⟩, b00.up (by omega), b00.up (by omega), fun _ => b00.up (by omega)⟩
theorem cut_0 {M : MO} {A : TA} {P : CP} (h : P = mo_ea M) : RT (s_Tape_cut A 0) P (mo_sz' M 0) := ⟨rfl, (by show (0 : Nat) ≤ 2000; omega), h, fun i hi => absurd hi (by show ¬ i < 0; omega)⟩
theorem st_err {K : TK} {s : Bool × Nat} {E : TE} {H : SH} {n : Nat} (hX : LX K H n) (hs : s.2 ≤ n) : s_Teacher_error (st K s) E = (if s.1 = true then te_er E else 1) ∧ s_Teacher_errorPosition (st K s) E = (if s.1 = true then te_ep E else nI (sh_fr H s.2)) := by
  obtain ⟨b, u⟩ := s
  cases b with
  | true =>
    unfold s_Teacher_error s_Teacher_errorPosition
    rw [if_pos (show s_Tokens_brokenAt (st K (true, u)) < 0 by show (-1 : Int32) < 0; decide), if_pos (show s_Tokens_brokenAt (st K (true, u)) < 0 by show (-1 : Int32) < 0; decide)]
    exact ⟨rfl, rfl⟩
  | false =>
    have hb : s_Tokens_brokenAt (st K (false, u)) = nI (sh_fr H u) := (hX.2.2 u hs).2.2.1
    have h2 := (hX.2.2 u hs).2.2.2.1
    unfold s_Teacher_error s_Teacher_errorPosition
    rw [hb, if_neg (nI_pos (by omega)), if_neg (nI_pos (by omega))]
    exact ⟨rfl, rfl⟩
theorem p_teach_ok : PK_p_teach RALL := by
  intro n A K σ τ T F U G P M H Y hn hR hW hU
  obtain ⟨rT, rG, rC, rR, rD, rB, rO⟩ := hR
  obtain ⟨M1, eM1⟩ : ∃ z, z = mo_ea' (mo_th' M 0) (-1) := ⟨_, rfl⟩
  rw [← eM1]
  have T1 : RT A (mo_ea M1) M1 := by rw [eM1]; exact ⟨rT.1, rT.2.1, rfl, rT.2.2.2⟩
  obtain ⟨K', nn, fr, mn, kd, x1, x2, hX, hLW⟩ := lex T1 K sh0
  obtain ⟨Hc, eHc⟩ : ∃ z, z = sh_kd' (sh_mn' (sh_fr' sh0 fr) mn) kd := ⟨_, rfl⟩
  rw [← eHc] at x2 hX
  have h400 := hX.1
  have W2 : LW (mo_tk' (mo_dp' M1 0) nn) K' (sh_fr Hc) (sh_mn Hc) nn := by
    rw [show sh_fr Hc = fr by rw [eHc], show sh_mn Hc = mn by rw [eHc]]
    exact hLW _ rfl rfl
  obtain ⟨d, ed⟩ : ∃ d, d = s_Glacier_day σ := ⟨_, rfl⟩
  have edy : d = nI (sx_dy Y) := by rw [ed]; exact rG.rest.2.1
  obtain ⟨σ0, eσ0⟩ : ∃ z, z = s_Glacier_beginAnew τ d := ⟨_, rfl⟩
  obtain ⟨F0, eF0⟩ : ∃ z, z = (s_Orders_clear U G).2 := ⟨_, rfl⟩
  obtain ⟨T0, eT0⟩ : ∃ z, z = (s_Orders_clear U G).1 := ⟨_, rfl⟩
  rw [x1, ← ed, ← eσ0, ← eF0, ← eT0]
  obtain ⟨res, eres⟩ : ∃ z, z = s_Teacher_readList (tA K' 0) F0 (0, -1) new_nm new_nm new_nm new_nm new_nm T0 σ0 := ⟨_, rfl⟩
  rw [← eres]
  have wf := list_wf 400 0 (tA K' 0) F0 (0, -1) new_nm new_nm new_nm new_nm new_nm T0 σ0 (by rw [eσ0]; exact wf_begin) (by rw [eT0]; exact (show (0 : Nat) ≤ 20 by omega))
  rw [show l_Teacher_readList_2 400 0 (tA K' 0) F0 (0, -1) new_nm new_nm new_nm new_nm new_nm T0 σ0 = res from eres.symm] at wf
  have L := list_ok (M := mo_dp' M1 0) (d := d) (M1 := M1) hX W2 400 0 0 F0 (0, -1) new_nm new_nm new_nm new_nm new_nm T0 σ0 401 (by omega) (by omega) (by omega) (.inl rfl)
  rw [show l_Teacher_readList_2 400 0 (tA K' 0) F0 (0, -1) new_nm new_nm new_nm new_nm new_nm T0 σ0 = res from eres.symm] at L
  obtain ⟨s, d', l1, l2, l3, l4⟩ := L
  obtain ⟨se1, se2⟩ := st_err (E := res.2.2.1) hX l3
  rw [← l1] at se1 se2
  have hread : s_Model_read M1 sh0 = (if (if s.1 = true then (1 : Int32) else 0) = 0 then (if s.2 < 401 then some (1, mo_ea' (mS M1 s.2 d') (nI (sh_fr Hc s.2)), Hc) else none) else l_Model_read_40 402 0 (mS M1 s.2 d') Hc) := by
    unfold s_Model_read
    rw [x2]
    show ((s_Model_isList Hc (mS M1 0 0)).bind fun p17_2 => (if p17_2.1 = 0 then (if (mo_tk p17_2.2) < 401 then some (1, (mo_ea' p17_2.2 (nI ((sh_fr Hc) (mo_tk p17_2.2)))), Hc) else none) else (l_Model_read_40 402 0 p17_2.2 Hc))) = _
    unfold s_Model_isList
    rw [l2]
    rfl
  rw [hread, se1, se2]
  obtain ⟨b, u⟩ := s
  cases b with
  | false =>
    rw [if_pos (show (if (false, u).1 = true then (1 : Int32) else 0) = 0 from rfl), if_pos (show (false, u).2 < 401 by have : u ≤ nn := l3; show u < 401; omega)]
    refine ⟨_, rfl, fun w => absurd w (show ¬ (1 : Int32) ≤ 0 by decide), fun w => absurd w (show ¬ (1 : Int32) = 0 by decide), fun _ => ⟨show ¬ (1 : Int32) ≤ 0 by decide, rfl, cut_0 rfl, rG, rC, rR, by omega, rB, rO⟩, wf.1, wf.2⟩
  | true =>
    obtain ⟨e1, e2, e3, e4, e5⟩ := l4 rfl
    dsimp only at e1
    subst e1
    subst e3
    rw [if_neg (show ¬ (if (true, u).1 = true then (1 : Int32) else 0) = 0 by show ¬ (1 : Int32) = 0; decide)]
    have hrd : l_Model_read_40 402 0 (mS M1 (true, u).2 0) Hc = RDm (mo_dp' M1 0) u 0 Hc := rfl
    rw [hrd]
    have z0 : ∀ k, sh_ha Hc k = 0 := fun k => by rw [eHc]; rfl
    obtain ⟨g1, g2, g3, g4⟩ := beg_f (τ := τ) (x := d)
    rw [← eσ0] at g1 g2 g3 g4
    have L0 : LREL K' Hc u d 0 F0 (NN new_nm new_nm new_nm new_nm new_nm) T0 σ0 Hc := by
      refine ⟨⟨rfl, rfl, rfl⟩, ?_, ?_, ?_, ?_, ?_, 0, ?_, Nat.le_refl _⟩
      · intro i hi
        have hn : NN new_nm new_nm new_nm new_nm new_nm i = new_nm := by
          match i, hi with
          | 0, _ => rfl
          | 1, _ => rfl
          | 2, _ => rfl
          | 3, _ => rfl
          | 4, _ => rfl
          | _ + 5, w => exact absurd w (by omega)
        rw [hn]
        exact ⟨(z0 _).symm, by decide, fun q hq => absurd hq (by show ¬ q < 0; omega)⟩
      · unfold RC
        rw [z0, z0, z0, z0, z0, show sh_or Hc = 0 by rw [eHc]; rfl]
        omega
      · unfold LG
        rw [z0, z0, z0, z0, z0]
        refine ⟨⟨g1 0 (by omega), fun r hr => absurd hr (by omega)⟩, ⟨g1 1 (by omega), fun r hr => absurd hr (by omega)⟩, ⟨g1 2 (by omega), fun r hr => absurd hr (by omega)⟩, ⟨g1 3 (by omega), fun r hr => absurd hr (by omega)⟩, ⟨g1 4 (by omega), fun r hr => absurd hr (by omega)⟩, fun i hi => ?_, g3, g4⟩
        rw [g2 i hi, eHc]
        rfl
      · unfold LV
        rw [z0, z0, z0, z0, z0]
        refine ⟨fun r hr => absurd hr (by omega), fun r hr => absurd hr (by omega), fun r hr => absurd hr (by omega), fun r hr => absurd hr (by omega), fun r hr => absurd hr (by omega), fun i hi => ?_⟩
        rw [eHc]
        exact ⟨10, rfl, by omega, by omega⟩
      · refine ⟨?_, fun i hi => absurd hi ?_⟩
        · rw [eT0, eHc]; rfl
        · rw [show sh_or Hc = 0 by rw [eHc]; rfl]; omega
      · rw [eF0]; rfl
    rcases e5 rfl Hc L0 with ⟨er1, H2, er2⟩ | ⟨ok1, H2, ok2, ok3⟩
    · rw [er2]
      refine ⟨_, rfl, fun w => absurd w er1, fun w => absurd w (ne_le er1), fun _ => ⟨er1, rfl, cut_0 rfl, rG, rC, rR, by omega, rB, rO⟩, wf.1, wf.2⟩
    · rw [ok2, rd_end h400, ok1]
      obtain ⟨o1, o2, o3, o4, o5, o6, o7⟩ := ok3
      rw [edy] at o4
      refine ⟨_, rfl, fun _ => ⟨o3.1, o3.2.1, o3.2.2.1, o3.2.2.2.1, o3.2.2.2.2.1⟩, fun _ => ⟨show (0 : Int32) ≤ 0 by decide, cut_0 ?_, o4.rg, o3, o5.rr, ?_, ?_, o6.ro o1 o3⟩, fun w => absurd rfl w, wf.1, wf.2⟩
      · show (-1 : Int32) = mo_ea M1
        rw [eM1]
      · rw [bg_dy]; omega
      · intro j hj
        rw [bg_ma]
        exact ⟨0, rfl, by omega⟩
