/-! reading a stretch of tokens: what both make of it -/
def ND (w x : Nat) : Nat := 7 * (8 - x) + (7 - w)
def VP (w : Nat) (v : Int32) : Prop := w ≤ 2 → v = 0 ∨ v = 1
def SameT (H H1 : SH) : Prop := sh_kd H1 = sh_kd H ∧ sh_fr H1 = sh_fr H ∧ sh_mn H1 = sh_mn H
def pv (g : Fin 54) : Prop := ¬ kOf g = 1 ∧ ¬ kOf g = 2 ∧ ¬ kOf g = 5 ∧ ¬ kOf g = 8 ∧ ¬ kOf g = 10 ∧ ¬ kOf g = 12 ∧ ¬ kOf g = 13 ∧ ¬ kOf g = 14 ∧ ¬ kOf g = 44
instance (g : Fin 54) : Decidable (pv g) := by unfold pv; exact inferInstance
def EXT (F F' : FM) (a b : Nat) : Prop := (∀ j, j < a → fm_sg F' j = fm_sg F j ∧ fm_op F' j = fm_op F j) ∧ ∀ j, a ≤ j → j < b → ¬ fm_sg F' j = none
theorem EXT.refl (F : FM) (a : Nat) : EXT F F a a := ⟨fun _ _ => ⟨rfl, rfl⟩, fun j h1 h2 => absurd h2 (by omega)⟩
theorem EXT.trans {F F1 F2 : FM} {a b c : Nat} (h1 : EXT F F1 a b) (h2 : EXT F1 F2 b c) (hab : a ≤ b) : EXT F F2 a c := by
  refine ⟨fun j hj => ?_, fun j j1 j2 => ?_⟩
  · obtain ⟨e1, e2⟩ := h1.1 j hj
    obtain ⟨e3, e4⟩ := h2.1 j (by omega)
    exact ⟨e3.trans e1, e4.trans e2⟩
  · by_cases e : j < b
    · rw [(h2.1 j e).1]; exact h1.2 j j1 e
    · exact h2.2 j (by omega) j2
theorem ne_le {x : Int32} (h : ¬ x ≤ 0) : ¬ x = 0 := fun w => h (by rw [w]; exact Int32.le_refl _)
def SemT (K : TK) (H : SH) (n : Nat) (M : MO) (N : Nat → NM) (t t' : Nat) (F : FM) (E : TE) (F' : FM) (E' : TE) (Q : SH → Nat → Nat → Prop) : Prop :=
  (¬ te_er E = 0 → E' = E) ∧ (te_er E = 0 → ∀ a H1, fm_sz F = nI a → a ≤ 2 * t → SameT H H1 → NRel K H1 N n →
    (¬ te_er E' ≤ 0 ∧ ∃ H2, RDm M n t H1 = some (te_er E', mo_ea' (mo_tk' M n) (te_ep E'), H2)) ∨
    (E' = E ∧ ∃ me b, RDm M n t H1 = RDm M n t' (sh_me' H1 me) ∧ (∀ j, j < t ∨ t' ≤ j → me j = sh_me H1 j) ∧ fm_sz F' = nI b ∧ a ≤ b ∧ b + 2 * t ≤ a + 2 * t' ∧ EXT F F' a b ∧ Q (sh_me' H1 me) a b))
theorem NRel.me {K : TK} {H : SH} {N : Nat → NM} {n : Nat} {me : Nat → Int32} (h : NRel K H N n) : NRel K (sh_me' H me) N n := h
theorem SameT.me {H H1 : SH} {me : Nat → Int32} (h : SameT H H1) : SameT H (sh_me' H1 me) := h
theorem SemT.mono {K : TK} {H : SH} {n : Nat} {M : MO} {N : Nat → NM} {t t' : Nat} {F F' : FM} {E E' : TE} {Q Q' : SH → Nat → Nat → Prop} (h : SemT K H n M N t t' F E F' E' Q) (hq : ∀ H2 a b, a ≤ b → Q H2 a b → Q' H2 a b) : SemT K H n M N t t' F E F' E' Q' := by
  refine ⟨h.1, fun hE a H1 h1 h2 h3 h4 => ?_⟩
  rcases h.2 hE a H1 h1 h2 h3 h4 with w | ⟨w1, me, b, w2, w3, w4, w5, w6, w7, w8⟩
  · exact .inl w
  · exact .inr ⟨w1, me, b, w2, w3, w4, w5, w6, w7, hq _ _ _ w5 w8⟩
theorem SemT.seq {K : TK} {H : SH} {n : Nat} {M : MO} {N : Nat → NM} {t t1 t2 : Nat} {F F1 F2 : FM} {E E1 E2 : TE} {Q1 Q2 : SH → Nat → Nat → Prop} (h1 : SemT K H n M N t t1 F E F1 E1 Q1) (h2 : SemT K H n M N t1 t2 F1 E1 F2 E2 Q2) (ht : t ≤ t1) (ht2 : t1 ≤ t2) : SemT K H n M N t t2 F E F2 E2 (fun H2 a c => ∃ b H1, a ≤ b ∧ b ≤ c ∧ Q1 H1 a b ∧ Q2 H2 b c ∧ b + 2 * t ≤ a + 2 * t1 ∧ c + 2 * t1 ≤ b + 2 * t2 ∧ (∀ j, j < t1 → sh_me H2 j = sh_me H1 j) ∧ sh_ha H2 = sh_ha H1 ∧ ∀ j, j < b → fm_sg F2 j = fm_sg F1 j ∧ fm_op F2 j = fm_op F1 j) := by
  refine ⟨fun hE => ?_, fun hE a H1 w1 w2 w3 w4 => ?_⟩
  · have e1 := h1.1 hE
    exact (h2.1 (by rw [e1]; exact hE)).trans e1
  · rcases h1.2 hE a H1 w1 w2 w3 w4 with ⟨a1, Hx, a2⟩ | ⟨a1, me, b, a2, a3, a4, a5, a6, a7, a8⟩
    · have e2 := h2.1 (ne_le a1)
      exact .inl ⟨by rw [e2]; exact a1, Hx, by rw [e2]; exact a2⟩
    · rcases h2.2 (by rw [a1]; exact hE) b (sh_me' H1 me) a4 (by omega) w3 w4 with ⟨b1, Hx, b2⟩ | ⟨b1, me2, c, b2, b3, b4, b5, b6, b7, b8⟩
      · exact .inl ⟨b1, Hx, a2.trans b2⟩
      · refine .inr ⟨b1.trans a1, me2, c, a2.trans b2, fun j hj => ?_, b4, by omega, by omega, a7.trans b7 a5, b, sh_me' H1 me, a5, b5, a8, b8, a6, b6, fun j hj => ?_, rfl, b7.1⟩
        · have e1 := b3 j (by omega)
          have e2 := a3 j (by omega)
          exact e1.trans e2
        · exact b3 j (.inl hj)
theorem put_sz {F : FM} {b : Nat} {g : Fin 54} {o : Int32} (h : fm_sz F = nI b) (hb : b < 800) : fm_sz (s_Formulas_put F g o) = nI (b + 1) ∧ fm_sg (s_Formulas_put F g o) b = some g ∧ fm_op (s_Formulas_put F g o) b = o ∧ ∀ j, j < b → fm_sg (s_Formulas_put F g o) j = fm_sg F j ∧ fm_op (s_Formulas_put F g o) j = fm_op F j := by
  unfold s_Formulas_put
  rw [h, if_neg (nI_pos (by omega)), if_neg (fun w => absurd ((nI_leI (by omega) (by omega)).mp w) (by omega)), nI_clamp (by omega), nI_1]
  exact ⟨rfl, updS_at _ _ _, upd_at _ _ _, fun j hj => ⟨updS_ne _ _ (by omega), upd_ne _ _ (by omega)⟩⟩
theorem SemT.put {K : TK} {H : SH} {n : Nat} {M : MO} {N : Nat → NM} {t t1 : Nat} {F F1 : FM} {E E1 : TE} {Q : SH → Nat → Nat → Prop} {g : Fin 54} {o : Int32} (h : SemT K H n M N t t1 F E F1 E1 Q) (h400 : t1 ≤ 400) (hq : ∀ H2 a b, Q H2 a b → b + 1 + 2 * t ≤ a + 2 * t1) : SemT K H n M N t t1 F E (s_Formulas_put F1 g o) E1 (fun H2 a c => ∃ b, c = b + 1 ∧ Q H2 a b ∧ a ≤ b ∧ fm_sg (s_Formulas_put F1 g o) b = some g ∧ fm_op (s_Formulas_put F1 g o) b = o ∧ ∀ j, j < b → fm_sg (s_Formulas_put F1 g o) j = fm_sg F1 j ∧ fm_op (s_Formulas_put F1 g o) j = fm_op F1 j) := by
  refine ⟨h.1, fun hE a H1 w1 w2 w3 w4 => ?_⟩
  rcases h.2 hE a H1 w1 w2 w3 w4 with a1 | ⟨a1, me, b, a2, a3, a4, a5, a6, a7, a8⟩
  · exact .inl a1
  · have q := hq _ _ _ a8
    obtain ⟨p1, p2, p3, p4⟩ := put_sz (g := g) (o := o) a4 (by omega)
    refine .inr ⟨a1, me, b + 1, a2, a3, p1, by omega, by omega, a7.trans ⟨p4, fun j j1 j2 => ?_⟩ a5, b, rfl, a8, a5, p2, p3, p4⟩
    rw [show j = b by omega, p2]
    exact fun w => by cases w
/-- a token that tells nothing -/
theorem sem_neu {K : TK} {H : SH} {n : Nat} {M : MO} {N : Nat → NM} {t : Nat} {F : FM} {E : TE} (hX : LX K H n) (ht : t < n) (h1 : 1 ≤ t) (h39 : ¬ (gk K (t - 1)).val = 39) (hg : neu (gk K t)) : SemT K H n M N t (t + 1) F E F E (fun _ a b => b = a) := by
  have h400 := hX.1
  refine ⟨fun _ => rfl, fun hE a H1 w1 w2 w3 w4 => .inr ⟨rfl, sh_me H1, a, ?_, fun _ _ => rfl, w1, Nat.le_refl _, by omega, EXT.refl F a, rfl⟩⟩
  have e := err_neu (M := mo_tk' M n) (H := H1) h1 (show t ≤ 400 by omega) (by rw [w3.1, (hX.2.2 (t - 1) (by omega)).2.1]; exact fun w => h39 (congrArg Fin.val ((kOf_iff _ 39).mp w))) (by rw [w3.1, (hX.2.2 t (by omega)).2.1]) hg
  exact (rd_step ht h400 e).trans (if_pos rfl)
/-- a number -/
theorem sem_num {K : TK} {H : SH} {n : Nat} {M : MO} {N : Nat → NM} {t : Nat} {F : FM} {E : TE} (hX : LX K H n) (hW : LW (mo_tk' M n) K (sh_fr H) (sh_mn H) n) (ht : t < n) (h1 : 1 ≤ t) (hp : pv (gk K (t - 1))) (hg : (gk K t).val = 51) : SemT K H n M N t (t + 1) F E F E (fun H2 a b => b = a ∧ sh_me H2 t = (tk_wo K t).toInt32) := by
  have h400 := hX.1
  refine ⟨fun _ => rfl, fun hE a H1 w1 w2 w3 w4 => ?_⟩
  obtain ⟨v, v1, v2, v3⟩ := hW.2 t ht hg H1 w3.2.1 w3.2.2
  have e := err_num (M := mo_tk' M n) (H := H1) (v := v) h1 (show t ≤ 400 by omega) (by rw [w3.1, (hX.2.2 (t - 1) (by omega)).2.1]) hp (by rw [w3.1, (hX.2.2 t (by omega)).2.1, show gk K t = 51 from Fin.ext hg]; rfl) v2
  refine .inr ⟨rfl, upd (sh_me H1) t (nI v), a, (rd_step ht h400 e).trans (if_pos rfl), fun j hj => upd_ne _ _ (by omega), w1, Nat.le_refl _, by omega, EXT.refl F a, rfl, ?_⟩
  show upd (sh_me H1) t (nI v) t = _
  rw [upd_at, v3]
/-- a keyword of a sum or test with a name behind it: of which sort -/
def nmk (g : Fin 54) (i : Nat) : Prop := i < 5 ∧ neu g ∧ g.val < 52 ∧ ¬ g.val = 39 ∧ s_Model_isSort (kOf g) = 0 ∧ s_Model_sortBehind (kOf g) = nI (srt i) ∧ ¬ kOf g = 4 ∧ ¬ kOf g = 7 ∧ ¬ kOf g = 15 ∧ ¬ kOf g = 16 ∧ ¬ kOf g = 17 ∧ ¬ kOf g = 18 ∧ ¬ kOf g = 19 ∧ ¬ kOf g = 21
instance (g : Fin 54) (i : Nat) : Decidable (nmk g i) := by unfold nmk; exact inferInstance
theorem err_name {M : MO} {K : TK} {H : SH} {N : Nat → NM} {n i t : Nat} {g : Fin 54} (hn : n ≤ 400) (hW : LW M K (sh_fr H) (sh_mn H) n) (hN : NRel K H N n) (ht : t < n) (h1 : 1 ≤ t) (hp : sh_kd H (t - 1) = kOf g) (hk : nmk g i) (hk2 : sh_kd H t = 36) (hg : (gk K t).val = 50) : (∃ r, r < sh_ha H (srt i) ∧ s_Names_find (N i) (tk_wo K t) = nI r ∧ s_Model_errorOf M H t = some (0, sh_me' H (upd (sh_me H) t (nI r)))) ∨ (s_Names_find (N i) (tk_wo K t) = -1 ∧ ∃ H2, s_Model_errorOf M H t = some (3, H2) ∧ sh_fr H2 = sh_fr H) := by
  obtain ⟨k0, -, -, k39, k1, k2, k3, k4, k5, k6, k7, k8, k9, k10⟩ := hk
  have s11 := srt12 i k0
  obtain ⟨f1, f2⟩ := find_eq hn hW hN k0 ht hg
  have e : s_Model_errorOf M H t = (s_Model_errorOfName M H t).bind fun p => some (p.1, p.2) := by
    rw [err_in h1 (by omega) (by rw [hp]; exact fun w => k39 (congrArg Fin.val ((kOf_iff _ 39).mp w))), l_Model_errorOf_27, hk2, if_pos (by omega), if_pos (by decide), if_neg (by decide), if_neg (by decide), if_pos rfl, if_pos (by omega)]
  unfold s_Model_errorOfName at e
  rw [if_pos h1, if_pos (by omega), hp, if_pos k1, k2, if_pos (ok_nI (by omega) (by omega)), if_pos (by omega), nI_clamp (by omega), f1] at e
  rcases f2 with f2 | ⟨r, f2, f3⟩
  · refine .inr ⟨f2, sh_me' H (upd (sh_me H) t (-1)), ?_, rfl⟩
    rw [e, f2]
    show ((if t < 401 then (if (-1 : Int32) = -1 then _ else _) else none) : Option (Int32 × SH)).bind _ = _
    rw [if_pos (by omega), if_pos rfl]
    rfl
  · refine .inl ⟨r, f2, f3, ?_⟩
    rw [e, f3]
    show ((if t < 401 then (if nI r = -1 then _ else _) else none) : Option (Int32 × SH)).bind _ = _
    rw [if_pos (by omega), if_neg (fun w => nI_pos (n := r) (by have := (hN i k0).1; have := (hN i k0).2.1; omega) (by rw [w]; decide)), if_neg k3, if_neg k4, if_neg k5, if_neg k6, if_neg k7, if_neg k8, if_neg k9, if_neg k10]
    rfl
/-- the class's own reading of such a name -/
theorem old_A {K : TK} {H : SH} {n t : Nat} {N : NM} {E : TE} {g : Fin 54} (hX : LX K H n) (ht : t < n) (hg : gk K t = g) : s_Teacher_oldName (tA K t) E N g = if (gk K (t + 1)).val = 50 then (if 0 ≤ s_Names_find N (tk_wo K (t + 1)) then (s_Names_find N (tk_wo K (t + 1)), tA K (t + 2), E) else (s_Names_find N (tk_wo K (t + 1)), tA K (t + 2), s_Teacher_tellError (tA K (t + 1)) E 3)) else (-1, tB K (t + 1), E) := by
  have h52 : g.val < 52 := by rw [← hg]; exact (hX.2.2 t (by omega)).2.2.2.2.mp ht
  unfold s_Teacher_oldName
  rw [exp_A hX h52 (by omega), if_pos (show (gk K t).val = g.val by rw [hg])]
  show (if (gk K (t + 1)).val = 50 then (if 0 ≤ s_Names_find N (tk_wo K (t + 1)) then (s_Names_find N (tk_wo K (t + 1)), s_Tokens_advance (tA K (t + 1)), E) else (s_Names_find N (tk_wo K (t + 1)), s_Tokens_advance (tA K (t + 1)), s_Teacher_tellError (tA K (t + 1)) E 3)) else (-1, s_Tokens_breakOff (tA K (t + 1)), E)) = _
  by_cases e : (gk K (t + 1)).val = 50
  · have h2 : t + 1 < n := (hX.2.2 (t + 1) (by omega)).2.2.2.2.mpr (by omega)
    rw [if_pos e, if_pos e, hX.adv h2]
  · rw [if_neg e, if_neg e, brk_A]
theorem sem_name {K : TK} {H : SH} {n : Nat} {M : MO} {N : Nat → NM} {t i : Nat} {F : FM} {E : TE} (hX : LX K H n) (hW : LW (mo_tk' M n) K (sh_fr H) (sh_mn H) n) (ht : t + 1 < n) (h1 : 1 ≤ t) (h39 : ¬ (gk K (t - 1)).val = 39) (hk : nmk (gk K t) i) (hg : (gk K (t + 1)).val = 50) : SemT K H n M N t (t + 2) F E F (s_Teacher_oldName (tA K t) E (N i) (gk K t)).2.2 (fun H2 a b => b = a ∧ ∃ r, r < sh_ha H2 (srt i) ∧ (s_Teacher_oldName (tA K t) E (N i) (gk K t)).1 = nI r ∧ sh_me H2 (t + 1) = nI r) := by
  have h400 := hX.1
  rw [old_A hX (by omega) rfl, if_pos hg]
  refine ⟨fun hE => ?_, fun hE a H1 w1 w2 w3 w4 => ?_⟩
  · by_cases e : 0 ≤ s_Names_find (N i) (tk_wo K (t + 1))
    · rw [if_pos e]
    · rw [if_neg e]
      show s_Teacher_tellError _ E 3 = E
      unfold s_Teacher_tellError
      rw [if_neg hE]
  · have kd1 : ∀ j, j ≤ n → sh_kd H1 j = kOf (gk K j) := fun j hj => by rw [w3.1, (hX.2.2 j hj).2.1]
    have e0 := err_neu (M := mo_tk' M n) (H := H1) h1 (show t ≤ 400 by omega) (by rw [kd1 _ (by omega)]; exact fun w => h39 (congrArg Fin.val ((kOf_iff _ 39).mp w))) (kd1 t (by omega)) hk.2.1
    have s0 := (rd_step (show t < n by omega) h400 e0).trans (if_pos rfl)
    rcases err_name (M := mo_tk' M n) h400 (by rw [w3.2.1, w3.2.2]; exact hW) w4 ht (by omega) (by rw [Nat.add_sub_cancel]; exact kd1 t (by omega)) hk (by rw [kd1 _ (by omega), show gk K (t + 1) = 50 from Fin.ext hg]; rfl) hg with ⟨r, r1, r2, r3⟩ | ⟨r1, H2, r2, r4⟩
    · have h31 : r < 2 ^ 31 := by have := (w4 i hk.1).1; have := (w4 i hk.1).2.1; omega
      rw [r2, if_pos (nI_pos' h31)]
      refine .inr ⟨rfl, upd (sh_me H1) (t + 1) (nI r), a, s0.trans ((rd_step ht h400 r3).trans (if_pos rfl)), fun j hj => upd_ne _ _ (by omega), w1, Nat.le_refl _, by omega, EXT.refl F a, rfl, r, r1, rfl, upd_at _ _ _⟩
    · rw [r1, if_neg (by decide)]
      refine .inl ?_
      show ¬ te_er (s_Teacher_tellError (tA K (t + 1)) E 3) ≤ 0 ∧ _
      have e3 : s_Teacher_tellError (tA K (t + 1)) E 3 = (3, tk_st K (t + 1)) := by
        unfold s_Teacher_tellError
        rw [if_pos hE]
        rfl
      refine ⟨by rw [e3]; show ¬ (3 : Int32) ≤ 0; decide, H2, ?_⟩
      show _ = some (te_er (s_Teacher_tellError (tA K (t + 1)) E 3), mo_ea' (mo_tk' M n) (te_ep (s_Teacher_tellError (tA K (t + 1)) E 3)), H2)
      rw [e3]
      rw [s0, rd_step ht h400 r2, if_neg (by decide)]
      show some ((3 : Int32), mo_ea' (mo_tk' M n) (nI (sh_fr H2 (t + 1))), H2) = some (3, mo_ea' (mo_tk' M n) (tk_st K (t + 1)), H2)
      rw [(hX.2.2 (t + 1) (by omega)).2.2.1, r4, w3.2.1]
