/-! values -/
theorem eatN {K : TK} {H : SH} {n t d y : Nat} {M : MO} (h : LX K H n) (ht : t ≤ n) {x : Int32} (hy : y < 54) (hx : x = kOf ⟨y, hy⟩) : s_Model_eat_0 H x (mS M t d) = some (if (gk K t).val = y then (1, mS M (t + 1) d) else (0, mS M t d)) := eat_S h ht hx
theorem downN {K : TK} {H : SH} {n t d y : Nat} {M : MO} (h : LX K H n) (ht : t ≤ n) (hd : d ≤ 8) {x : Int32} (hy : y < 54) (hx : x = kOf ⟨y, hy⟩) : s_Model_goDown H x (mS M t d) = some (if (gk K t).val = y ∧ d < 8 then (1, mS M (t + 1) (d + 1)) else (0, mS M t d)) := down_S h ht hd hx
theorem eatIn_S {K : TK} {H : SH} {n t d lo hi : Nat} {M : MO} {a b : Int32} (h : LX K H n) (ht : t ≤ n) (hq : ∀ g : Fin 54, s_Model_isIn (kOf g) a b = if lo ≤ g.val ∧ g.val ≤ hi then 1 else 0) : s_Model_eatIn H a b (mS M t d) = some (if lo ≤ (gk K t).val ∧ (gk K t).val ≤ hi then (1, mS M (t + 1) d) else (0, mS M t d)) := by
  have h400 := h.1
  unfold s_Model_eatIn
  rw [if_pos (show mo_tk (mS M t d) < 401 by show t < 401; omega)]
  show (if s_Model_isIn (sh_kd H t) a b = 0 then some ((0 : Int32), mS M t d) else some (1, mS M (t + 1) d)) = _
  rw [(h.2.2 t ht).2.1, hq]
  by_cases e : lo ≤ (gk K t).val ∧ (gk K t).val ≤ hi
  · rw [if_pos e, if_pos e, if_neg (by decide)]
  · rw [if_neg e, if_neg e, if_pos rfl]
theorem in13 : ∀ g : Fin 54, s_Model_isIn (kOf g) 13 14 = if 13 ≤ g.val ∧ g.val ≤ 14 then 1 else 0 := by decide +kernel
theorem in23 : ∀ g : Fin 54, s_Model_isIn (kOf g) 23 26 = if 23 ≤ g.val ∧ g.val ≤ 26 then 1 else 0 := by decide +kernel
theorem in27 : ∀ g : Fin 54, s_Model_isIn (kOf g) 27 29 = if 27 ≤ g.val ∧ g.val ≤ 29 then 1 else 0 := by decide +kernel
theorem in33 : ∀ g : Fin 54, s_Model_isIn (kOf g) 33 34 = if 33 ≤ g.val ∧ g.val ≤ 34 then 1 else 0 := by decide +kernel
theorem in50 : ∀ g : Fin 54, s_Model_isIn (kOf g) 50 54 = if 45 ≤ g.val ∧ g.val ≤ 49 then 1 else 0 := by decide +kernel
/-- what stands alone: one sign -/
theorem leaf {K : TK} {H : SH} {n : Nat} {M : MO} {N : Nat → NM} {w x t t' : Nat} {F : FM} {E E' : TE} {Q : SH → Nat → Nat → Prop} {g : Fin 54} {v : Int32} (h : SemT K H n M N t t' F E F E' Q) (hb : ∀ H2 a b, Q H2 a b → b = a) (ht : t < t') (h400 : t' ≤ 400) (hv : ∀ H2 a b, Q H2 a b → ∀ Hs, FIN H H2 Hs t t' → ∀ (σ : GL) (Y : SX), RG σ Hs Y → RR Hs Y → sx_dy Y < 1000000 → ∃ u, VP w u ∧ (∀ l, stp σ g v l = u :: l) ∧ ∀ fe M, ND w x ≤ fe → ev_ Hs Y fe w (mo_wk' M (nI t)) = some (u, mo_wk' M (nI t'))) : SemT K H n M N t t' F E (s_Formulas_put F g v) E' (VAL H w x t t' (s_Formulas_put F g v)) := by
  refine (h.put (g := g) (o := v) h400 (fun H2 a b hq => by have := hb H2 a b hq; omega)).mono ?_
  rintro H2 a c hac ⟨b, rfl, hq, hab, p1, p2, p3⟩
  have e := hb H2 a b hq
  subst e
  refine ⟨by omega, by omega, fun Hs hF σ Y g1 g2 g3 => ?_⟩
  obtain ⟨u, u1, u2, u3⟩ := hv H2 b b hq Hs hF σ Y g1 g2 g3
  refine ⟨u, u1, fun l => ?_, u3⟩
  rw [show b + 1 - b = 1 by omega]
  show stp σ ((fm_sg (s_Formulas_put F g v) b).getD 0) (fm_op (s_Formulas_put F g v) b) l = _
  rw [p1, p2]
  exact u2 l
theorem ev5 (Hs : SH) (Y : SX) (fe : Nat) (M : MO) : ev_ Hs Y (fe + 1) 5 M = s_Model_value Hs Y (ev_ Hs Y fe) M := rfl
theorem ev2 (Hs : SH) (Y : SX) (fe : Nat) (M : MO) : ev_ Hs Y (fe + 1) 2 M = s_Model_single Hs Y (ev_ Hs Y fe) M := rfl
theorem wk_1 {M : MO} {t : Nat} : mo_wk' (mo_wk' M (nI t)) (mo_wk (mo_wk' M (nI t)) + 1) = mo_wk' M (nI (t + 1)) := by rw [← nI_1]
theorem nd_pos {w x fe : Nat} (hw : w ≤ 6) (h : ND w x ≤ fe) : ∃ k, fe = k + 1 ∧ ND w x - 1 ≤ k := by
  unfold ND at h ⊢
  exact ⟨fe - 1, by omega, by omega⟩
theorem named_S {Hs : SH} {M : MO} {t : Nat} (h : t ≤ 400) : s_Model_named Hs (mo_wk' M (nI t)) = some (sh_me Hs t, mo_wk' M (nI (t + 1))) := by
  unfold s_Model_named
  rw [if_pos (show okI (nI t) 401 = true from ok_nI (by omega) (by omega)), wk_1]
  show some (sh_me Hs (nI t).toNatClampNeg, _) = _
  rw [nI_clamp (by omega)]
theorem val_num {K : TK} {H : SH} {n : Nat} {M : MO} {N : Nat → NM} {x t : Nat} {F : FM} {E : TE} {M1 : MO} {rec : Nat → Nat → Fin 54 → RS → RS} {rm : EV} (hX : LX K H n) (hW : LW (mo_tk' M n) K (sh_fr H) (sh_mn H) n) (ht : t ≤ n) (hg : gk K t = 51) : RDN K H n M N 5 x t F E M1 (s_Teacher_readValue (tA K t) F E (N 0) (N 1) (N 2) (N 3) (N 4) rec x) (s_Model_isValue H rm (mS M1 t x)) := by
  have h400 := hX.1
  have htn : t < n := (hX.2.2 t ht).2.2.2.2.mpr (by rw [hg]; decide)
  have kdv : sh_kd H (mo_tk (mS M1 t x)) = kOf 51 := by
    show sh_kd H t = _
    rw [(hX.2.2 t ht).2.1, hg]
  have hv : (gk K t).val = 51 := by rw [hg]; rfl
  have hc : s_Teacher_readValue (tA K t) F E (N 0) (N 1) (N 2) (N 3) (N 4) rec x = (tA K (t + 1), s_Formulas_put F 51 (tk_wo K t).toInt32, E) := by
    unfold s_Teacher_readValue
    rw [show s_Tokens_sign (tA K t) = 51 from hg, if_neg (show ¬ swf (51 : Fin 54).val = 6 by decide), if_pos (show swf (51 : Fin 54).val = 12 by decide), hX.adv htn]
    rfl
  have hm : s_Model_isValue H rm (mS M1 t x) = some (1, mS M1 (t + 1) x) := by
    unfold s_Model_isValue
    rw [if_pos (show mo_tk (mS M1 t x) < 401 by show t < 401; omega), kdv, if_neg (by decide), eatN hX ht (y := 51) (x := 37) (by decide) rfl, if_pos hv]
    rfl
  rw [hc, hm]
  refine ⟨true, t + 1, _, E, x, rfl, rfl, by omega, by omega, fun _ => ⟨rfl, by omega, by rw [Nat.add_sub_cancel, hg]; decide, fun h1 hp => ?_⟩⟩
  refine leaf (sem_num hX hW htn h1 hp hv) (fun _ _ _ hq => hq.1) (by omega) (by omega) ?_
  rintro H2 a b ⟨-, hme⟩ Hs hF σ Y g1 g2 g3
  refine ⟨(tk_wo K t).toInt32, fun w => absurd w (by decide), fun l => rfl, fun fe M' hfe => ?_⟩
  obtain ⟨k, rfl, -⟩ := nd_pos (by decide) hfe
  rw [ev5]
  unfold s_Model_value
  rw [if_pos (show okI (mo_wk (mo_wk' M' (nI t))) 401 = true from ok_nI (by omega) (by omega)), show (mo_wk (mo_wk' M' (nI t))).toNatClampNeg = t from nI_clamp (by omega), hF.1, (hX.2.2 t ht).2.1, hg, if_neg (show ¬ kOf (51 : Fin 54) = 2 by decide), if_neg (show ¬ kOf (51 : Fin 54) = 8 by decide), if_neg (show ¬ kOf (51 : Fin 54) = 13 by decide), if_neg (show ¬ kOf (51 : Fin 54) = 14 by decide), if_neg (show ¬ kOf (51 : Fin 54) = 23 by decide), if_neg (show ¬ kOf (51 : Fin 54) = 24 by decide), if_neg (show ¬ kOf (51 : Fin 54) = 25 by decide), if_neg (show ¬ kOf (51 : Fin 54) = 26 by decide), if_pos (show kOf (51 : Fin 54) = 37 by decide)]
  rw [if_pos (show okI ((mo_wk (mo_wk' M' (nI t)) + 1) - 1) 401 = true by show okI (nI t + 1 - 1) 401 = true; rw [nI_1, nI_pred]; exact ok_nI (by omega) (by omega)), wk_1]
  show some (sh_me Hs (nI t + 1 - 1).toNatClampNeg, _) = _
  rw [nI_1, nI_pred, nI_clamp (by omega), hF.2.1 t (by omega) (by omega), hme]
theorem val_day {K : TK} {H : SH} {n : Nat} {M : MO} {N : Nat → NM} {x t : Nat} {F : FM} {E : TE} {M1 : MO} {rec : Nat → Nat → Fin 54 → RS → RS} {rm : EV} (hX : LX K H n) (hW : LW (mo_tk' M n) K (sh_fr H) (sh_mn H) n) (ht : t ≤ n) (hg : gk K t = 13) : RDN K H n M N 5 x t F E M1 (s_Teacher_readValue (tA K t) F E (N 0) (N 1) (N 2) (N 3) (N 4) rec x) (s_Model_isValue H rm (mS M1 t x)) := by
  have h400 := hX.1
  have htn : t < n := (hX.2.2 t ht).2.2.2.2.mpr (by rw [hg]; decide)
  have kdv : sh_kd H (mo_tk (mS M1 t x)) = kOf 13 := by
    show sh_kd H t = _
    rw [(hX.2.2 t ht).2.1, hg]
  have hv : (gk K t).val = 13 := by rw [hg]; rfl
  have hc : s_Teacher_readValue (tA K t) F E (N 0) (N 1) (N 2) (N 3) (N 4) rec x = (tA K (t + 1), s_Formulas_put F 13 0, E) := by
    unfold s_Teacher_readValue
    rw [show s_Tokens_sign (tA K t) = 13 from hg, if_pos (show swf (13 : Fin 54).val = 6 by decide), hX.adv htn]
  have hm : s_Model_isValue H rm (mS M1 t x) = some (1, mS M1 (t + 1) x) := by
    unfold s_Model_isValue
    rw [if_pos (show mo_tk (mS M1 t x) < 401 by show t < 401; omega), kdv, if_neg (by decide), eatN hX ht (y := 51) (x := 37) (by decide) rfl, if_neg (show ¬ (gk K t).val = 51 by omega)]
    simp only [Option.bind_some, if00]
    rw [eatIn_S hX ht in13, if_pos (show 13 ≤ (gk K t).val ∧ (gk K t).val ≤ 14 from ⟨by omega, by omega⟩)]
    rfl
  rw [hc, hm]
  refine ⟨true, t + 1, _, E, x, rfl, rfl, by omega, by omega, fun _ => ⟨rfl, by omega, by rw [Nat.add_sub_cancel, hg]; decide, fun h1 hp => ?_⟩⟩
  refine leaf (sem_neu hX htn h1 (fun w => hp.2.2.2.2.2.2.2.2 ((kOf_iff _ 39).mpr (Fin.ext w))) (by rw [hg]; decide)) (fun _ _ _ hq => hq) (by omega) (by omega) ?_
  rintro H2 a b - Hs hF σ Y g1 g2 g3
  refine ⟨nI (sx_dy Y % 8), fun w => absurd w (by decide), fun l => ?_, fun fe M' hfe => ?_⟩
  · show s_Glacier_valueOf σ 13 0 :: l = _
    unfold s_Glacier_valueOf
    rw [if_pos (show swf (13 : Fin 54).val = 6 by decide), g1.rest.2.1, nI_rem (by omega)]
  · obtain ⟨k, rfl, -⟩ := nd_pos (by decide) hfe
    rw [ev5]
    unfold s_Model_value
    rw [if_pos (show okI (mo_wk (mo_wk' M' (nI t))) 401 = true from ok_nI (by omega) (by omega)), show (mo_wk (mo_wk' M' (nI t))).toNatClampNeg = t from nI_clamp (by omega), hF.1, (hX.2.2 t ht).2.1, hg, if_neg (show ¬ kOf (13 : Fin 54) = 2 by decide), if_neg (show ¬ kOf (13 : Fin 54) = 8 by decide), if_pos (show kOf (13 : Fin 54) = 13 by decide)]
    rw [wk_1]
theorem val_warm {K : TK} {H : SH} {n : Nat} {M : MO} {N : Nat → NM} {x t : Nat} {F : FM} {E : TE} {M1 : MO} {rec : Nat → Nat → Fin 54 → RS → RS} {rm : EV} (hX : LX K H n) (hW : LW (mo_tk' M n) K (sh_fr H) (sh_mn H) n) (ht : t ≤ n) (hg : gk K t = 14) : RDN K H n M N 5 x t F E M1 (s_Teacher_readValue (tA K t) F E (N 0) (N 1) (N 2) (N 3) (N 4) rec x) (s_Model_isValue H rm (mS M1 t x)) := by
  have h400 := hX.1
  have htn : t < n := (hX.2.2 t ht).2.2.2.2.mpr (by rw [hg]; decide)
  have kdv : sh_kd H (mo_tk (mS M1 t x)) = kOf 14 := by
    show sh_kd H t = _
    rw [(hX.2.2 t ht).2.1, hg]
  have hv : (gk K t).val = 14 := by rw [hg]; rfl
  have hc : s_Teacher_readValue (tA K t) F E (N 0) (N 1) (N 2) (N 3) (N 4) rec x = (tA K (t + 1), s_Formulas_put F 14 0, E) := by
    unfold s_Teacher_readValue
    rw [show s_Tokens_sign (tA K t) = 14 from hg, if_neg (show ¬ swf (14 : Fin 54).val = 6 by decide), if_neg (show ¬ swf (14 : Fin 54).val = 12 by decide), if_pos (show swf (14 : Fin 54).val = 13 by decide), hX.adv htn]
  have hm : s_Model_isValue H rm (mS M1 t x) = some (1, mS M1 (t + 1) x) := by
    unfold s_Model_isValue
    rw [if_pos (show mo_tk (mS M1 t x) < 401 by show t < 401; omega), kdv, if_neg (by decide), eatN hX ht (y := 51) (x := 37) (by decide) rfl, if_neg (show ¬ (gk K t).val = 51 by omega)]
    simp only [Option.bind_some, if00]
    rw [eatIn_S hX ht in13, if_pos (show 13 ≤ (gk K t).val ∧ (gk K t).val ≤ 14 from ⟨by omega, by omega⟩)]
    rfl
  rw [hc, hm]
  refine ⟨true, t + 1, _, E, x, rfl, rfl, by omega, by omega, fun _ => ⟨rfl, by omega, by rw [Nat.add_sub_cancel, hg]; decide, fun h1 hp => ?_⟩⟩
  refine leaf (sem_neu hX htn h1 (fun w => hp.2.2.2.2.2.2.2.2 ((kOf_iff _ 39).mpr (Fin.ext w))) (by rw [hg]; decide)) (fun _ _ _ hq => hq) (by omega) (by omega) ?_
  rintro H2 a b - Hs hF σ Y g1 g2 g3
  refine ⟨s_State_warmth Y, fun w => absurd w (by decide), fun l => ?_, fun fe M' hfe => ?_⟩
  · show s_Glacier_valueOf σ 14 0 :: l = _
    unfold s_Glacier_valueOf
    rw [if_neg (show ¬ swf (14 : Fin 54).val = 6 by decide), if_pos (show swf (14 : Fin 54).val = 13 by decide), warm_today g1 g3]
  · obtain ⟨k, rfl, -⟩ := nd_pos (by decide) hfe
    rw [ev5]
    unfold s_Model_value
    rw [if_pos (show okI (mo_wk (mo_wk' M' (nI t))) 401 = true from ok_nI (by omega) (by omega)), show (mo_wk (mo_wk' M' (nI t))).toNatClampNeg = t from nI_clamp (by omega), hF.1, (hX.2.2 t ht).2.1, hg, if_neg (show ¬ kOf (14 : Fin 54) = 2 by decide), if_neg (show ¬ kOf (14 : Fin 54) = 8 by decide), if_neg (show ¬ kOf (14 : Fin 54) = 13 by decide), if_pos (show kOf (14 : Fin 54) = 14 by decide)]
    rw [wk_1]
theorem val_snow {K : TK} {H : SH} {n : Nat} {M : MO} {N : Nat → NM} {x t : Nat} {F : FM} {E : TE} {M1 : MO} {rec : Nat → Nat → Fin 54 → RS → RS} {rm : EV} (hX : LX K H n) (hW : LW (mo_tk' M n) K (sh_fr H) (sh_mn H) n) (ht : t ≤ n) (hg : gk K t = 2) : RDN K H n M N 5 x t F E M1 (s_Teacher_readValue (tA K t) F E (N 0) (N 1) (N 2) (N 3) (N 4) rec x) (s_Model_isValue H rm (mS M1 t x)) := by
  have h400 := hX.1
  have htn : t < n := (hX.2.2 t ht).2.2.2.2.mpr (by rw [hg]; decide)
  have kdv : sh_kd H (mo_tk (mS M1 t x)) = kOf 2 := by
    show sh_kd H t = _
    rw [(hX.2.2 t ht).2.1, hg]
  have hv : (gk K t).val = 2 := by rw [hg]; rfl
  have hk : nmk (gk K t) 0 := by rw [hg]; decide
  have ho := old_A (N := N 0) (E := E) hX htn rfl
  by_cases hn50 : (gk K (t + 1)).val = 50
  · have ht1 : t + 1 < n := (hX.2.2 (t + 1) (by omega)).2.2.2.2.mpr (by omega)
    have h2 : (s_Teacher_oldName (tA K t) E (N 0) (gk K t)).2.1 = tA K (t + 2) := by
      rw [ho, if_pos hn50]
      split <;> rfl
    have hc : s_Teacher_readValue (tA K t) F E (N 0) (N 1) (N 2) (N 3) (N 4) rec x = (tA K (t + 2), s_Formulas_put F 2 (s_Teacher_oldName (tA K t) E (N 0) (gk K t)).1, (s_Teacher_oldName (tA K t) E (N 0) (gk K t)).2.2) := by
      unfold s_Teacher_readValue
      rw [← h2, hg, show s_Tokens_sign (tA K t) = 2 from hg, if_neg (show ¬ swf (2 : Fin 54).val = 6 by decide), if_neg (show ¬ swf (2 : Fin 54).val = 12 by decide), if_neg (show ¬ swf (2 : Fin 54).val = 13 by decide), if_pos (show swf (2 : Fin 54).val = 14 by decide)]
    have hm : s_Model_isValue H rm (mS M1 t x) = some (1, mS M1 (t + 2) x) := by
      unfold s_Model_isValue
      rw [if_pos (show mo_tk (mS M1 t x) < 401 by show t < 401; omega), kdv, if_neg (by decide), eatN hX ht (y := 51) (x := 37) (by decide) rfl, if_neg (show ¬ (gk K t).val = 51 by omega)]
      simp only [Option.bind_some, if00]
      rw [eatIn_S hX ht in13, if_neg (show ¬ (13 ≤ (gk K t).val ∧ (gk K t).val ≤ 14) by omega)]
      simp only [Option.bind_some, if00]
      rw [eatN hX ht (y := 2) (x := 2) (by decide) rfl, if_pos hv]
      simp only [Option.bind_some, if10]
      rw [eatN hX htn (y := 50) (x := 36) (by decide) rfl]
      rw [if_pos hn50]
      rfl
    rw [hc, hm]
    refine ⟨true, t + 2, _, _, x, rfl, rfl, by omega, by omega, fun _ => ⟨rfl, by omega, by rw [show t + 2 - 1 = t + 1 by omega, hn50]; decide, fun h1 hp => ?_⟩⟩
    refine leaf (sem_name hX hW ht1 h1 (fun w => hp.2.2.2.2.2.2.2.2 ((kOf_iff _ 39).mpr (Fin.ext w))) hk hn50) (fun _ _ _ hq => hq.1) (by omega) (by omega) ?_
    rintro H2 a b ⟨-, r, r1, r2, r3⟩ Hs hF σ Y g1 g2 g3
    have hr : r < sh_ha Hs 0 := Nat.lt_of_lt_of_le r1 (hF.2.2.1 0)
    have hC := hF.2.2.2
    obtain ⟨c0, c3, c6, c9, c11, c20⟩ := hC
    have hC := hF.2.2.2
    refine ⟨sx_sn Y r, fun w => absurd w (by decide), fun l => ?_, fun fe M' hfe => ?_⟩
    · rw [r2]
      show s_Glacier_valueOf σ 2 (nI r) :: l = _
      unfold s_Glacier_valueOf
      rw [if_neg (show ¬ swf (2 : Fin 54).val = 6 by decide), if_neg (show ¬ swf (2 : Fin 54).val = 13 by decide), if_pos (show swf (2 : Fin 54).val = 14 by decide), g1.rb.g_0_1 hr hC]
    · obtain ⟨k, rfl, -⟩ := nd_pos (by decide) hfe
      rw [ev5]
      unfold s_Model_value
      rw [if_pos (show okI (mo_wk (mo_wk' M' (nI t))) 401 = true from ok_nI (by omega) (by omega)), show (mo_wk (mo_wk' M' (nI t))).toNatClampNeg = t from nI_clamp (by omega), hF.1, (hX.2.2 t ht).2.1, hg, if_pos (show kOf (2 : Fin 54) = 2 by decide)]
      rw [wk_1, named_S (by omega)]
      simp only [Option.bind_some]
      rw [hF.2.1 (t + 1) (by omega) (by omega), r3, if_pos (ok_nI (by omega) (by omega)), nI_clamp (by omega)]
  · have hc : s_Teacher_readValue (tA K t) F E (N 0) (N 1) (N 2) (N 3) (N 4) rec x = (tB K (t + 1), s_Formulas_put F 2 (s_Teacher_oldName (tA K t) E (N 0) (gk K t)).1, (s_Teacher_oldName (tA K t) E (N 0) (gk K t)).2.2) := by
      have h2 : (s_Teacher_oldName (tA K t) E (N 0) (gk K t)).2.1 = tB K (t + 1) := by rw [ho, if_neg hn50]
      unfold s_Teacher_readValue
      rw [← h2, hg, show s_Tokens_sign (tA K t) = 2 from hg, if_neg (show ¬ swf (2 : Fin 54).val = 6 by decide), if_neg (show ¬ swf (2 : Fin 54).val = 12 by decide), if_neg (show ¬ swf (2 : Fin 54).val = 13 by decide), if_pos (show swf (2 : Fin 54).val = 14 by decide)]
    have hm : s_Model_isValue H rm (mS M1 t x) = some (0, mS M1 (t + 1) x) := by
      unfold s_Model_isValue
      rw [if_pos (show mo_tk (mS M1 t x) < 401 by show t < 401; omega), kdv, if_neg (by decide), eatN hX ht (y := 51) (x := 37) (by decide) rfl, if_neg (show ¬ (gk K t).val = 51 by omega)]
      simp only [Option.bind_some, if00]
      rw [eatIn_S hX ht in13, if_neg (show ¬ (13 ≤ (gk K t).val ∧ (gk K t).val ≤ 14) by omega)]
      simp only [Option.bind_some, if00]
      rw [eatN hX ht (y := 2) (x := 2) (by decide) rfl, if_pos hv]
      simp only [Option.bind_some, if10]
      rw [eatN hX htn (y := 50) (x := 36) (by decide) rfl]
      rw [if_neg hn50]
      rfl
    rw [hc, hm]
    exact ⟨false, t + 1, _, _, x, rfl, rfl, by omega, by omega, fun w => by cases w⟩
theorem val_out {K : TK} {H : SH} {n : Nat} {M : MO} {N : Nat → NM} {x t : Nat} {F : FM} {E : TE} {M1 : MO} {rec : Nat → Nat → Fin 54 → RS → RS} {rm : EV} (hX : LX K H n) (hW : LW (mo_tk' M n) K (sh_fr H) (sh_mn H) n) (ht : t ≤ n) (hg : gk K t = 23) : RDN K H n M N 5 x t F E M1 (s_Teacher_readValue (tA K t) F E (N 0) (N 1) (N 2) (N 3) (N 4) rec x) (s_Model_isValue H rm (mS M1 t x)) := by
  have h400 := hX.1
  have htn : t < n := (hX.2.2 t ht).2.2.2.2.mpr (by rw [hg]; decide)
  have kdv : sh_kd H (mo_tk (mS M1 t x)) = kOf 23 := by
    show sh_kd H t = _
    rw [(hX.2.2 t ht).2.1, hg]
  have hv : (gk K t).val = 23 := by rw [hg]; rfl
  have hk : nmk (gk K t) 1 := by rw [hg]; decide
  have ho := old_A (N := N 1) (E := E) hX htn rfl
  by_cases hn50 : (gk K (t + 1)).val = 50
  · have ht1 : t + 1 < n := (hX.2.2 (t + 1) (by omega)).2.2.2.2.mpr (by omega)
    have h2 : (s_Teacher_oldName (tA K t) E (N 1) (gk K t)).2.1 = tA K (t + 2) := by
      rw [ho, if_pos hn50]
      split <;> rfl
    have hc : s_Teacher_readValue (tA K t) F E (N 0) (N 1) (N 2) (N 3) (N 4) rec x = (tA K (t + 2), s_Formulas_put F 23 (s_Teacher_oldName (tA K t) E (N 1) (gk K t)).1, (s_Teacher_oldName (tA K t) E (N 1) (gk K t)).2.2) := by
      unfold s_Teacher_readValue
      rw [← h2, hg, show s_Tokens_sign (tA K t) = 23 from hg, if_neg (show ¬ swf (23 : Fin 54).val = 6 by decide), if_neg (show ¬ swf (23 : Fin 54).val = 12 by decide), if_neg (show ¬ swf (23 : Fin 54).val = 13 by decide), if_neg (show ¬ swf (23 : Fin 54).val = 14 by decide), if_pos (show swf (23 : Fin 54).val = 15 by decide)]
    have hm : s_Model_isValue H rm (mS M1 t x) = some (1, mS M1 (t + 2) x) := by
      unfold s_Model_isValue
      rw [if_pos (show mo_tk (mS M1 t x) < 401 by show t < 401; omega), kdv, if_neg (by decide), eatN hX ht (y := 51) (x := 37) (by decide) rfl, if_neg (show ¬ (gk K t).val = 51 by omega)]
      simp only [Option.bind_some, if00]
      rw [eatIn_S hX ht in13, if_neg (show ¬ (13 ≤ (gk K t).val ∧ (gk K t).val ≤ 14) by omega)]
      simp only [Option.bind_some, if00]
      rw [eatN hX ht (y := 2) (x := 2) (by decide) rfl, if_neg (show ¬ (gk K t).val = 2 by omega)]
      simp only [Option.bind_some, if00]
      rw [eatN hX ht (y := 8) (x := 8) (by decide) rfl, if_neg (show ¬ (gk K t).val = 8 by omega)]
      simp only [Option.bind_some, if00]
      rw [eatIn_S hX ht in23, if_pos (show 23 ≤ (gk K t).val ∧ (gk K t).val ≤ 26 from ⟨by omega, by omega⟩)]
      simp only [Option.bind_some, if10]
      rw [eatN hX htn (y := 50) (x := 36) (by decide) rfl]
      rw [if_pos hn50]
      rfl
    rw [hc, hm]
    refine ⟨true, t + 2, _, _, x, rfl, rfl, by omega, by omega, fun _ => ⟨rfl, by omega, by rw [show t + 2 - 1 = t + 1 by omega, hn50]; decide, fun h1 hp => ?_⟩⟩
    refine leaf (sem_name hX hW ht1 h1 (fun w => hp.2.2.2.2.2.2.2.2 ((kOf_iff _ 39).mpr (Fin.ext w))) hk hn50) (fun _ _ _ hq => hq.1) (by omega) (by omega) ?_
    rintro H2 a b ⟨-, r, r1, r2, r3⟩ Hs hF σ Y g1 g2 g3
    have hr : r < sh_ha Hs 3 := Nat.lt_of_lt_of_le r1 (hF.2.2.1 3)
    have hC := hF.2.2.2
    obtain ⟨c0, c3, c6, c9, c11, c20⟩ := hC
    have hC := hF.2.2.2
    refine ⟨sx_ou Y r, fun w => absurd w (by decide), fun l => ?_, fun fe M' hfe => ?_⟩
    · rw [r2]
      show s_Glacier_valueOf σ 23 (nI r) :: l = _
      unfold s_Glacier_valueOf
      rw [if_neg (show ¬ swf (23 : Fin 54).val = 6 by decide), if_neg (show ¬ swf (23 : Fin 54).val = 13 by decide), if_neg (show ¬ swf (23 : Fin 54).val = 14 by decide), if_pos (show swf (23 : Fin 54).val = 15 by decide), g1.rb.g_1_2 hr hC]
    · obtain ⟨k, rfl, -⟩ := nd_pos (by decide) hfe
      rw [ev5]
      unfold s_Model_value
      rw [if_pos (show okI (mo_wk (mo_wk' M' (nI t))) 401 = true from ok_nI (by omega) (by omega)), show (mo_wk (mo_wk' M' (nI t))).toNatClampNeg = t from nI_clamp (by omega), hF.1, (hX.2.2 t ht).2.1, hg, if_neg (show ¬ kOf (23 : Fin 54) = 2 by decide), if_neg (show ¬ kOf (23 : Fin 54) = 8 by decide), if_neg (show ¬ kOf (23 : Fin 54) = 13 by decide), if_neg (show ¬ kOf (23 : Fin 54) = 14 by decide), if_pos (show kOf (23 : Fin 54) = 23 by decide)]
      rw [wk_1, named_S (by omega)]
      simp only [Option.bind_some]
      rw [hF.2.1 (t + 1) (by omega) (by omega), r3, if_pos (ok_nI (by omega) (by omega)), nI_clamp (by omega)]
  · have hc : s_Teacher_readValue (tA K t) F E (N 0) (N 1) (N 2) (N 3) (N 4) rec x = (tB K (t + 1), s_Formulas_put F 23 (s_Teacher_oldName (tA K t) E (N 1) (gk K t)).1, (s_Teacher_oldName (tA K t) E (N 1) (gk K t)).2.2) := by
      have h2 : (s_Teacher_oldName (tA K t) E (N 1) (gk K t)).2.1 = tB K (t + 1) := by rw [ho, if_neg hn50]
      unfold s_Teacher_readValue
      rw [← h2, hg, show s_Tokens_sign (tA K t) = 23 from hg, if_neg (show ¬ swf (23 : Fin 54).val = 6 by decide), if_neg (show ¬ swf (23 : Fin 54).val = 12 by decide), if_neg (show ¬ swf (23 : Fin 54).val = 13 by decide), if_neg (show ¬ swf (23 : Fin 54).val = 14 by decide), if_pos (show swf (23 : Fin 54).val = 15 by decide)]
    have hm : s_Model_isValue H rm (mS M1 t x) = some (0, mS M1 (t + 1) x) := by
      unfold s_Model_isValue
      rw [if_pos (show mo_tk (mS M1 t x) < 401 by show t < 401; omega), kdv, if_neg (by decide), eatN hX ht (y := 51) (x := 37) (by decide) rfl, if_neg (show ¬ (gk K t).val = 51 by omega)]
      simp only [Option.bind_some, if00]
      rw [eatIn_S hX ht in13, if_neg (show ¬ (13 ≤ (gk K t).val ∧ (gk K t).val ≤ 14) by omega)]
      simp only [Option.bind_some, if00]
      rw [eatN hX ht (y := 2) (x := 2) (by decide) rfl, if_neg (show ¬ (gk K t).val = 2 by omega)]
      simp only [Option.bind_some, if00]
      rw [eatN hX ht (y := 8) (x := 8) (by decide) rfl, if_neg (show ¬ (gk K t).val = 8 by omega)]
      simp only [Option.bind_some, if00]
      rw [eatIn_S hX ht in23, if_pos (show 23 ≤ (gk K t).val ∧ (gk K t).val ≤ 26 from ⟨by omega, by omega⟩)]
      simp only [Option.bind_some, if10]
      rw [eatN hX htn (y := 50) (x := 36) (by decide) rfl]
      rw [if_neg hn50]
      rfl
    rw [hc, hm]
    exact ⟨false, t + 1, _, _, x, rfl, rfl, by omega, by omega, fun w => by cases w⟩
theorem val_bridge {K : TK} {H : SH} {n : Nat} {M : MO} {N : Nat → NM} {x t : Nat} {F : FM} {E : TE} {M1 : MO} {rec : Nat → Nat → Fin 54 → RS → RS} {rm : EV} (hX : LX K H n) (hW : LW (mo_tk' M n) K (sh_fr H) (sh_mn H) n) (ht : t ≤ n) (hg : gk K t = 8) : RDN K H n M N 5 x t F E M1 (s_Teacher_readValue (tA K t) F E (N 0) (N 1) (N 2) (N 3) (N 4) rec x) (s_Model_isValue H rm (mS M1 t x)) := by
  have h400 := hX.1
  have htn : t < n := (hX.2.2 t ht).2.2.2.2.mpr (by rw [hg]; decide)
  have kdv : sh_kd H (mo_tk (mS M1 t x)) = kOf 8 := by
    show sh_kd H t = _
    rw [(hX.2.2 t ht).2.1, hg]
  have hv : (gk K t).val = 8 := by rw [hg]; rfl
  have hk : nmk (gk K t) 2 := by rw [hg]; decide
  have ho := old_A (N := N 2) (E := E) hX htn rfl
  by_cases hn50 : (gk K (t + 1)).val = 50
  · have ht1 : t + 1 < n := (hX.2.2 (t + 1) (by omega)).2.2.2.2.mpr (by omega)
    have h2 : (s_Teacher_oldName (tA K t) E (N 2) (gk K t)).2.1 = tA K (t + 2) := by
      rw [ho, if_pos hn50]
      split <;> rfl
    have hc : s_Teacher_readValue (tA K t) F E (N 0) (N 1) (N 2) (N 3) (N 4) rec x = (tA K (t + 2), s_Formulas_put F 8 (s_Teacher_oldName (tA K t) E (N 2) (gk K t)).1, (s_Teacher_oldName (tA K t) E (N 2) (gk K t)).2.2) := by
      unfold s_Teacher_readValue
      rw [← h2, hg, show s_Tokens_sign (tA K t) = 8 from hg, if_neg (show ¬ swf (8 : Fin 54).val = 6 by decide), if_neg (show ¬ swf (8 : Fin 54).val = 12 by decide), if_neg (show ¬ swf (8 : Fin 54).val = 13 by decide), if_neg (show ¬ swf (8 : Fin 54).val = 14 by decide), if_neg (show ¬ swf (8 : Fin 54).val = 15 by decide), if_pos (show swf (8 : Fin 54).val = 16 by decide)]
    have hm : s_Model_isValue H rm (mS M1 t x) = some (1, mS M1 (t + 2) x) := by
      unfold s_Model_isValue
      rw [if_pos (show mo_tk (mS M1 t x) < 401 by show t < 401; omega), kdv, if_neg (by decide), eatN hX ht (y := 51) (x := 37) (by decide) rfl, if_neg (show ¬ (gk K t).val = 51 by omega)]
      simp only [Option.bind_some, if00]
      rw [eatIn_S hX ht in13, if_neg (show ¬ (13 ≤ (gk K t).val ∧ (gk K t).val ≤ 14) by omega)]
      simp only [Option.bind_some, if00]
      rw [eatN hX ht (y := 2) (x := 2) (by decide) rfl, if_neg (show ¬ (gk K t).val = 2 by omega)]
      simp only [Option.bind_some, if00]
      rw [eatN hX ht (y := 8) (x := 8) (by decide) rfl, if_pos hv]
      simp only [Option.bind_some, if10]
      rw [eatN hX htn (y := 50) (x := 36) (by decide) rfl]
      rw [if_pos hn50]
      rfl
    rw [hc, hm]
    refine ⟨true, t + 2, _, _, x, rfl, rfl, by omega, by omega, fun _ => ⟨rfl, by omega, by rw [show t + 2 - 1 = t + 1 by omega, hn50]; decide, fun h1 hp => ?_⟩⟩
    refine leaf (sem_name hX hW ht1 h1 (fun w => hp.2.2.2.2.2.2.2.2 ((kOf_iff _ 39).mpr (Fin.ext w))) hk hn50) (fun _ _ _ hq => hq.1) (by omega) (by omega) ?_
    rintro H2 a b ⟨-, r, r1, r2, r3⟩ Hs hF σ Y g1 g2 g3
    have hr : r < sh_ha Hs 6 := Nat.lt_of_lt_of_le r1 (hF.2.2.1 6)
    have hC := hF.2.2.2
    obtain ⟨c0, c3, c6, c9, c11, c20⟩ := hC
    have hC := hF.2.2.2
    refine ⟨sx_br Y r, fun w => absurd w (by decide), fun l => ?_, fun fe M' hfe => ?_⟩
    · rw [r2]
      show s_Glacier_valueOf σ 8 (nI r) :: l = _
      unfold s_Glacier_valueOf
      rw [if_neg (show ¬ swf (8 : Fin 54).val = 6 by decide), if_neg (show ¬ swf (8 : Fin 54).val = 13 by decide), if_neg (show ¬ swf (8 : Fin 54).val = 14 by decide), if_neg (show ¬ swf (8 : Fin 54).val = 15 by decide), if_pos (show swf (8 : Fin 54).val = 16 by decide), g1.rb.g_2_1 hr hC]
    · obtain ⟨k, rfl, -⟩ := nd_pos (by decide) hfe
      rw [ev5]
      unfold s_Model_value
      rw [if_pos (show okI (mo_wk (mo_wk' M' (nI t))) 401 = true from ok_nI (by omega) (by omega)), show (mo_wk (mo_wk' M' (nI t))).toNatClampNeg = t from nI_clamp (by omega), hF.1, (hX.2.2 t ht).2.1, hg, if_neg (show ¬ kOf (8 : Fin 54) = 2 by decide), if_pos (show kOf (8 : Fin 54) = 8 by decide)]
      rw [wk_1, named_S (by omega)]
      simp only [Option.bind_some]
      rw [hF.2.1 (t + 1) (by omega) (by omega), r3, if_pos (ok_nI (by omega) (by omega)), nI_clamp (by omega)]
  · have hc : s_Teacher_readValue (tA K t) F E (N 0) (N 1) (N 2) (N 3) (N 4) rec x = (tB K (t + 1), s_Formulas_put F 8 (s_Teacher_oldName (tA K t) E (N 2) (gk K t)).1, (s_Teacher_oldName (tA K t) E (N 2) (gk K t)).2.2) := by
      have h2 : (s_Teacher_oldName (tA K t) E (N 2) (gk K t)).2.1 = tB K (t + 1) := by rw [ho, if_neg hn50]
      unfold s_Teacher_readValue
      rw [← h2, hg, show s_Tokens_sign (tA K t) = 8 from hg, if_neg (show ¬ swf (8 : Fin 54).val = 6 by decide), if_neg (show ¬ swf (8 : Fin 54).val = 12 by decide), if_neg (show ¬ swf (8 : Fin 54).val = 13 by decide), if_neg (show ¬ swf (8 : Fin 54).val = 14 by decide), if_neg (show ¬ swf (8 : Fin 54).val = 15 by decide), if_pos (show swf (8 : Fin 54).val = 16 by decide)]
    have hm : s_Model_isValue H rm (mS M1 t x) = some (0, mS M1 (t + 1) x) := by
      unfold s_Model_isValue
      rw [if_pos (show mo_tk (mS M1 t x) < 401 by show t < 401; omega), kdv, if_neg (by decide), eatN hX ht (y := 51) (x := 37) (by decide) rfl, if_neg (show ¬ (gk K t).val = 51 by omega)]
      simp only [Option.bind_some, if00]
      rw [eatIn_S hX ht in13, if_neg (show ¬ (13 ≤ (gk K t).val ∧ (gk K t).val ≤ 14) by omega)]
      simp only [Option.bind_some, if00]
      rw [eatN hX ht (y := 2) (x := 2) (by decide) rfl, if_neg (show ¬ (gk K t).val = 2 by omega)]
      simp only [Option.bind_some, if00]
      rw [eatN hX ht (y := 8) (x := 8) (by decide) rfl, if_pos hv]
      simp only [Option.bind_some, if10]
      rw [eatN hX htn (y := 50) (x := 36) (by decide) rfl]
      rw [if_neg hn50]
      rfl
    rw [hc, hm]
    exact ⟨false, t + 1, _, _, x, rfl, rfl, by omega, by omega, fun w => by cases w⟩
theorem val_stock {K : TK} {H : SH} {n : Nat} {M : MO} {N : Nat → NM} {x t : Nat} {F : FM} {E : TE} {M1 : MO} {rec : Nat → Nat → Fin 54 → RS → RS} {rm : EV} (hX : LX K H n) (hW : LW (mo_tk' M n) K (sh_fr H) (sh_mn H) n) (ht : t ≤ n) (hg : gk K t = 24) : RDN K H n M N 5 x t F E M1 (s_Teacher_readValue (tA K t) F E (N 0) (N 1) (N 2) (N 3) (N 4) rec x) (s_Model_isValue H rm (mS M1 t x)) := by
  have h400 := hX.1
  have htn : t < n := (hX.2.2 t ht).2.2.2.2.mpr (by rw [hg]; decide)
  have kdv : sh_kd H (mo_tk (mS M1 t x)) = kOf 24 := by
    show sh_kd H t = _
    rw [(hX.2.2 t ht).2.1, hg]
  have hv : (gk K t).val = 24 := by rw [hg]; rfl
  have hk : nmk (gk K t) 3 := by rw [hg]; decide
  have ho := old_A (N := N 3) (E := E) hX htn rfl
  by_cases hn50 : (gk K (t + 1)).val = 50
  · have ht1 : t + 1 < n := (hX.2.2 (t + 1) (by omega)).2.2.2.2.mpr (by omega)
    have h2 : (s_Teacher_oldName (tA K t) E (N 3) (gk K t)).2.1 = tA K (t + 2) := by
      rw [ho, if_pos hn50]
      split <;> rfl
    have hc : s_Teacher_readValue (tA K t) F E (N 0) (N 1) (N 2) (N 3) (N 4) rec x = (tA K (t + 2), s_Formulas_put F 24 (s_Teacher_oldName (tA K t) E (N 3) (gk K t)).1, (s_Teacher_oldName (tA K t) E (N 3) (gk K t)).2.2) := by
      unfold s_Teacher_readValue
      rw [← h2, hg, show s_Tokens_sign (tA K t) = 24 from hg, if_neg (show ¬ swf (24 : Fin 54).val = 6 by decide), if_neg (show ¬ swf (24 : Fin 54).val = 12 by decide), if_neg (show ¬ swf (24 : Fin 54).val = 13 by decide), if_neg (show ¬ swf (24 : Fin 54).val = 14 by decide), if_neg (show ¬ swf (24 : Fin 54).val = 15 by decide), if_neg (show ¬ swf (24 : Fin 54).val = 16 by decide), if_pos (show swf (24 : Fin 54).val = 17 by decide)]
    have hm : s_Model_isValue H rm (mS M1 t x) = some (1, mS M1 (t + 2) x) := by
      unfold s_Model_isValue
      rw [if_pos (show mo_tk (mS M1 t x) < 401 by show t < 401; omega), kdv, if_neg (by decide), eatN hX ht (y := 51) (x := 37) (by decide) rfl, if_neg (show ¬ (gk K t).val = 51 by omega)]
      simp only [Option.bind_some, if00]
      rw [eatIn_S hX ht in13, if_neg (show ¬ (13 ≤ (gk K t).val ∧ (gk K t).val ≤ 14) by omega)]
      simp only [Option.bind_some, if00]
      rw [eatN hX ht (y := 2) (x := 2) (by decide) rfl, if_neg (show ¬ (gk K t).val = 2 by omega)]
      simp only [Option.bind_some, if00]
      rw [eatN hX ht (y := 8) (x := 8) (by decide) rfl, if_neg (show ¬ (gk K t).val = 8 by omega)]
      simp only [Option.bind_some, if00]
      rw [eatIn_S hX ht in23, if_pos (show 23 ≤ (gk K t).val ∧ (gk K t).val ≤ 26 from ⟨by omega, by omega⟩)]
      simp only [Option.bind_some, if10]
      rw [eatN hX htn (y := 50) (x := 36) (by decide) rfl]
      rw [if_pos hn50]
      rfl
    rw [hc, hm]
    refine ⟨true, t + 2, _, _, x, rfl, rfl, by omega, by omega, fun _ => ⟨rfl, by omega, by rw [show t + 2 - 1 = t + 1 by omega, hn50]; decide, fun h1 hp => ?_⟩⟩
    refine leaf (sem_name hX hW ht1 h1 (fun w => hp.2.2.2.2.2.2.2.2 ((kOf_iff _ 39).mpr (Fin.ext w))) hk hn50) (fun _ _ _ hq => hq.1) (by omega) (by omega) ?_
    rintro H2 a b ⟨-, r, r1, r2, r3⟩ Hs hF σ Y g1 g2 g3
    have hr : r < sh_ha Hs 9 := Nat.lt_of_lt_of_le r1 (hF.2.2.1 9)
    have hC := hF.2.2.2
    obtain ⟨c0, c3, c6, c9, c11, c20⟩ := hC
    have hC := hF.2.2.2
    refine ⟨sx_fo Y r, fun w => absurd w (by decide), fun l => ?_, fun fe M' hfe => ?_⟩
    · rw [r2]
      show s_Glacier_valueOf σ 24 (nI r) :: l = _
      unfold s_Glacier_valueOf
      rw [if_neg (show ¬ swf (24 : Fin 54).val = 6 by decide), if_neg (show ¬ swf (24 : Fin 54).val = 13 by decide), if_neg (show ¬ swf (24 : Fin 54).val = 14 by decide), if_neg (show ¬ swf (24 : Fin 54).val = 15 by decide), if_neg (show ¬ swf (24 : Fin 54).val = 16 by decide), if_pos (show swf (24 : Fin 54).val = 17 by decide), g1.rb.g_3_1 hr hC]
    · obtain ⟨k, rfl, -⟩ := nd_pos (by decide) hfe
      rw [ev5]
      unfold s_Model_value
      rw [if_pos (show okI (mo_wk (mo_wk' M' (nI t))) 401 = true from ok_nI (by omega) (by omega)), show (mo_wk (mo_wk' M' (nI t))).toNatClampNeg = t from nI_clamp (by omega), hF.1, (hX.2.2 t ht).2.1, hg, if_neg (show ¬ kOf (24 : Fin 54) = 2 by decide), if_neg (show ¬ kOf (24 : Fin 54) = 8 by decide), if_neg (show ¬ kOf (24 : Fin 54) = 13 by decide), if_neg (show ¬ kOf (24 : Fin 54) = 14 by decide), if_neg (show ¬ kOf (24 : Fin 54) = 23 by decide), if_pos (show kOf (24 : Fin 54) = 24 by decide)]
      rw [wk_1, named_S (by omega)]
      simp only [Option.bind_some]
      rw [hF.2.1 (t + 1) (by omega) (by omega), r3, if_pos (ok_nI (by omega) (by omega)), nI_clamp (by omega)]
  · have hc : s_Teacher_readValue (tA K t) F E (N 0) (N 1) (N 2) (N 3) (N 4) rec x = (tB K (t + 1), s_Formulas_put F 24 (s_Teacher_oldName (tA K t) E (N 3) (gk K t)).1, (s_Teacher_oldName (tA K t) E (N 3) (gk K t)).2.2) := by
      have h2 : (s_Teacher_oldName (tA K t) E (N 3) (gk K t)).2.1 = tB K (t + 1) := by rw [ho, if_neg hn50]
      unfold s_Teacher_readValue
      rw [← h2, hg, show s_Tokens_sign (tA K t) = 24 from hg, if_neg (show ¬ swf (24 : Fin 54).val = 6 by decide), if_neg (show ¬ swf (24 : Fin 54).val = 12 by decide), if_neg (show ¬ swf (24 : Fin 54).val = 13 by decide), if_neg (show ¬ swf (24 : Fin 54).val = 14 by decide), if_neg (show ¬ swf (24 : Fin 54).val = 15 by decide), if_neg (show ¬ swf (24 : Fin 54).val = 16 by decide), if_pos (show swf (24 : Fin 54).val = 17 by decide)]
    have hm : s_Model_isValue H rm (mS M1 t x) = some (0, mS M1 (t + 1) x) := by
      unfold s_Model_isValue
      rw [if_pos (show mo_tk (mS M1 t x) < 401 by show t < 401; omega), kdv, if_neg (by decide), eatN hX ht (y := 51) (x := 37) (by decide) rfl, if_neg (show ¬ (gk K t).val = 51 by omega)]
      simp only [Option.bind_some, if00]
      rw [eatIn_S hX ht in13, if_neg (show ¬ (13 ≤ (gk K t).val ∧ (gk K t).val ≤ 14) by omega)]
      simp only [Option.bind_some, if00]
      rw [eatN hX ht (y := 2) (x := 2) (by decide) rfl, if_neg (show ¬ (gk K t).val = 2 by omega)]
      simp only [Option.bind_some, if00]
      rw [eatN hX ht (y := 8) (x := 8) (by decide) rfl, if_neg (show ¬ (gk K t).val = 8 by omega)]
      simp only [Option.bind_some, if00]
      rw [eatIn_S hX ht in23, if_pos (show 23 ≤ (gk K t).val ∧ (gk K t).val ≤ 26 from ⟨by omega, by omega⟩)]
      simp only [Option.bind_some, if10]
      rw [eatN hX htn (y := 50) (x := 36) (by decide) rfl]
      rw [if_neg hn50]
      rfl
    rw [hc, hm]
    exact ⟨false, t + 1, _, _, x, rfl, rfl, by omega, by omega, fun w => by cases w⟩
theorem val_sack {K : TK} {H : SH} {n : Nat} {M : MO} {N : Nat → NM} {x t : Nat} {F : FM} {E : TE} {M1 : MO} {rec : Nat → Nat → Fin 54 → RS → RS} {rm : EV} (hX : LX K H n) (hW : LW (mo_tk' M n) K (sh_fr H) (sh_mn H) n) (ht : t ≤ n) (hg : gk K t = 25) : RDN K H n M N 5 x t F E M1 (s_Teacher_readValue (tA K t) F E (N 0) (N 1) (N 2) (N 3) (N 4) rec x) (s_Model_isValue H rm (mS M1 t x)) := by
  have h400 := hX.1
  have htn : t < n := (hX.2.2 t ht).2.2.2.2.mpr (by rw [hg]; decide)
  have kdv : sh_kd H (mo_tk (mS M1 t x)) = kOf 25 := by
    show sh_kd H t = _
    rw [(hX.2.2 t ht).2.1, hg]
  have hv : (gk K t).val = 25 := by rw [hg]; rfl
  have hk : nmk (gk K t) 4 := by rw [hg]; decide
  have ho := old_A (N := N 4) (E := E) hX htn rfl
  by_cases hn50 : (gk K (t + 1)).val = 50
  · have ht1 : t + 1 < n := (hX.2.2 (t + 1) (by omega)).2.2.2.2.mpr (by omega)
    have h2 : (s_Teacher_oldName (tA K t) E (N 4) (gk K t)).2.1 = tA K (t + 2) := by
      rw [ho, if_pos hn50]
      split <;> rfl
    have hc : s_Teacher_readValue (tA K t) F E (N 0) (N 1) (N 2) (N 3) (N 4) rec x = (tA K (t + 2), s_Formulas_put F 25 (s_Teacher_oldName (tA K t) E (N 4) (gk K t)).1, (s_Teacher_oldName (tA K t) E (N 4) (gk K t)).2.2) := by
      unfold s_Teacher_readValue
      rw [← h2, hg, show s_Tokens_sign (tA K t) = 25 from hg, if_neg (show ¬ swf (25 : Fin 54).val = 6 by decide), if_neg (show ¬ swf (25 : Fin 54).val = 12 by decide), if_neg (show ¬ swf (25 : Fin 54).val = 13 by decide), if_neg (show ¬ swf (25 : Fin 54).val = 14 by decide), if_neg (show ¬ swf (25 : Fin 54).val = 15 by decide), if_neg (show ¬ swf (25 : Fin 54).val = 16 by decide), if_neg (show ¬ swf (25 : Fin 54).val = 17 by decide), if_pos (show swf (25 : Fin 54).val = 18 by decide)]
    have hm : s_Model_isValue H rm (mS M1 t x) = some (1, mS M1 (t + 2) x) := by
      unfold s_Model_isValue
      rw [if_pos (show mo_tk (mS M1 t x) < 401 by show t < 401; omega), kdv, if_neg (by decide), eatN hX ht (y := 51) (x := 37) (by decide) rfl, if_neg (show ¬ (gk K t).val = 51 by omega)]
      simp only [Option.bind_some, if00]
      rw [eatIn_S hX ht in13, if_neg (show ¬ (13 ≤ (gk K t).val ∧ (gk K t).val ≤ 14) by omega)]
      simp only [Option.bind_some, if00]
      rw [eatN hX ht (y := 2) (x := 2) (by decide) rfl, if_neg (show ¬ (gk K t).val = 2 by omega)]
      simp only [Option.bind_some, if00]
      rw [eatN hX ht (y := 8) (x := 8) (by decide) rfl, if_neg (show ¬ (gk K t).val = 8 by omega)]
      simp only [Option.bind_some, if00]
      rw [eatIn_S hX ht in23, if_pos (show 23 ≤ (gk K t).val ∧ (gk K t).val ≤ 26 from ⟨by omega, by omega⟩)]
      simp only [Option.bind_some, if10]
      rw [eatN hX htn (y := 50) (x := 36) (by decide) rfl]
      rw [if_pos hn50]
      rfl
    rw [hc, hm]
    refine ⟨true, t + 2, _, _, x, rfl, rfl, by omega, by omega, fun _ => ⟨rfl, by omega, by rw [show t + 2 - 1 = t + 1 by omega, hn50]; decide, fun h1 hp => ?_⟩⟩
    refine leaf (sem_name hX hW ht1 h1 (fun w => hp.2.2.2.2.2.2.2.2 ((kOf_iff _ 39).mpr (Fin.ext w))) hk hn50) (fun _ _ _ hq => hq.1) (by omega) (by omega) ?_
    rintro H2 a b ⟨-, r, r1, r2, r3⟩ Hs hF σ Y g1 g2 g3
    have hr : r < sh_ha Hs 11 := Nat.lt_of_lt_of_le r1 (hF.2.2.1 11)
    have hC := hF.2.2.2
    obtain ⟨c0, c3, c6, c9, c11, c20⟩ := hC
    have hC := hF.2.2.2
    refine ⟨sx_sk Y r, fun w => absurd w (by decide), fun l => ?_, fun fe M' hfe => ?_⟩
    · rw [r2]
      show s_Glacier_valueOf σ 25 (nI r) :: l = _
      unfold s_Glacier_valueOf
      rw [if_neg (show ¬ swf (25 : Fin 54).val = 6 by decide), if_neg (show ¬ swf (25 : Fin 54).val = 13 by decide), if_neg (show ¬ swf (25 : Fin 54).val = 14 by decide), if_neg (show ¬ swf (25 : Fin 54).val = 15 by decide), if_neg (show ¬ swf (25 : Fin 54).val = 16 by decide), if_neg (show ¬ swf (25 : Fin 54).val = 17 by decide), if_pos (show swf (25 : Fin 54).val = 18 by decide), g1.rb.g_4_1 hr hC]
    · obtain ⟨k, rfl, -⟩ := nd_pos (by decide) hfe
      rw [ev5]
      unfold s_Model_value
      rw [if_pos (show okI (mo_wk (mo_wk' M' (nI t))) 401 = true from ok_nI (by omega) (by omega)), show (mo_wk (mo_wk' M' (nI t))).toNatClampNeg = t from nI_clamp (by omega), hF.1, (hX.2.2 t ht).2.1, hg, if_neg (show ¬ kOf (25 : Fin 54) = 2 by decide), if_neg (show ¬ kOf (25 : Fin 54) = 8 by decide), if_neg (show ¬ kOf (25 : Fin 54) = 13 by decide), if_neg (show ¬ kOf (25 : Fin 54) = 14 by decide), if_neg (show ¬ kOf (25 : Fin 54) = 23 by decide), if_neg (show ¬ kOf (25 : Fin 54) = 24 by decide), if_pos (show kOf (25 : Fin 54) = 25 by decide)]
      rw [wk_1, named_S (by omega)]
      simp only [Option.bind_some]
      rw [hF.2.1 (t + 1) (by omega) (by omega), r3, if_pos (ok_nI (by omega) (by omega)), nI_clamp (by omega)]
  · have hc : s_Teacher_readValue (tA K t) F E (N 0) (N 1) (N 2) (N 3) (N 4) rec x = (tB K (t + 1), s_Formulas_put F 25 (s_Teacher_oldName (tA K t) E (N 4) (gk K t)).1, (s_Teacher_oldName (tA K t) E (N 4) (gk K t)).2.2) := by
      have h2 : (s_Teacher_oldName (tA K t) E (N 4) (gk K t)).2.1 = tB K (t + 1) := by rw [ho, if_neg hn50]
      unfold s_Teacher_readValue
      rw [← h2, hg, show s_Tokens_sign (tA K t) = 25 from hg, if_neg (show ¬ swf (25 : Fin 54).val = 6 by decide), if_neg (show ¬ swf (25 : Fin 54).val = 12 by decide), if_neg (show ¬ swf (25 : Fin 54).val = 13 by decide), if_neg (show ¬ swf (25 : Fin 54).val = 14 by decide), if_neg (show ¬ swf (25 : Fin 54).val = 15 by decide), if_neg (show ¬ swf (25 : Fin 54).val = 16 by decide), if_neg (show ¬ swf (25 : Fin 54).val = 17 by decide), if_pos (show swf (25 : Fin 54).val = 18 by decide)]
    have hm : s_Model_isValue H rm (mS M1 t x) = some (0, mS M1 (t + 1) x) := by
      unfold s_Model_isValue
      rw [if_pos (show mo_tk (mS M1 t x) < 401 by show t < 401; omega), kdv, if_neg (by decide), eatN hX ht (y := 51) (x := 37) (by decide) rfl, if_neg (show ¬ (gk K t).val = 51 by omega)]
      simp only [Option.bind_some, if00]
      rw [eatIn_S hX ht in13, if_neg (show ¬ (13 ≤ (gk K t).val ∧ (gk K t).val ≤ 14) by omega)]
      simp only [Option.bind_some, if00]
      rw [eatN hX ht (y := 2) (x := 2) (by decide) rfl, if_neg (show ¬ (gk K t).val = 2 by omega)]
      simp only [Option.bind_some, if00]
      rw [eatN hX ht (y := 8) (x := 8) (by decide) rfl, if_neg (show ¬ (gk K t).val = 8 by omega)]
      simp only [Option.bind_some, if00]
      rw [eatIn_S hX ht in23, if_pos (show 23 ≤ (gk K t).val ∧ (gk K t).val ≤ 26 from ⟨by omega, by omega⟩)]
      simp only [Option.bind_some, if10]
      rw [eatN hX htn (y := 50) (x := 36) (by decide) rfl]
      rw [if_neg hn50]
      rfl
    rw [hc, hm]
    exact ⟨false, t + 1, _, _, x, rfl, rfl, by omega, by omega, fun w => by cases w⟩
theorem val_place {K : TK} {H : SH} {n : Nat} {M : MO} {N : Nat → NM} {x t : Nat} {F : FM} {E : TE} {M1 : MO} {rec : Nat → Nat → Fin 54 → RS → RS} {rm : EV} (hX : LX K H n) (hW : LW (mo_tk' M n) K (sh_fr H) (sh_mn H) n) (ht : t ≤ n) (hg : gk K t = 26) : RDN K H n M N 5 x t F E M1 (s_Teacher_readValue (tA K t) F E (N 0) (N 1) (N 2) (N 3) (N 4) rec x) (s_Model_isValue H rm (mS M1 t x)) := by
  have h400 := hX.1
  have htn : t < n := (hX.2.2 t ht).2.2.2.2.mpr (by rw [hg]; decide)
  have kdv : sh_kd H (mo_tk (mS M1 t x)) = kOf 26 := by
    show sh_kd H t = _
    rw [(hX.2.2 t ht).2.1, hg]
  have hv : (gk K t).val = 26 := by rw [hg]; rfl
  have hk : nmk (gk K t) 4 := by rw [hg]; decide
  have ho := old_A (N := N 4) (E := E) hX htn rfl
  by_cases hn50 : (gk K (t + 1)).val = 50
  · have ht1 : t + 1 < n := (hX.2.2 (t + 1) (by omega)).2.2.2.2.mpr (by omega)
    have h2 : (s_Teacher_oldName (tA K t) E (N 4) (gk K t)).2.1 = tA K (t + 2) := by
      rw [ho, if_pos hn50]
      split <;> rfl
    have hc : s_Teacher_readValue (tA K t) F E (N 0) (N 1) (N 2) (N 3) (N 4) rec x = (tA K (t + 2), s_Formulas_put F 26 (s_Teacher_oldName (tA K t) E (N 4) (gk K t)).1, (s_Teacher_oldName (tA K t) E (N 4) (gk K t)).2.2) := by
      unfold s_Teacher_readValue
      rw [← h2, hg, show s_Tokens_sign (tA K t) = 26 from hg, if_neg (show ¬ swf (26 : Fin 54).val = 6 by decide), if_neg (show ¬ swf (26 : Fin 54).val = 12 by decide), if_neg (show ¬ swf (26 : Fin 54).val = 13 by decide), if_neg (show ¬ swf (26 : Fin 54).val = 14 by decide), if_neg (show ¬ swf (26 : Fin 54).val = 15 by decide), if_neg (show ¬ swf (26 : Fin 54).val = 16 by decide), if_neg (show ¬ swf (26 : Fin 54).val = 17 by decide), if_neg (show ¬ swf (26 : Fin 54).val = 18 by decide), if_pos (show swf (26 : Fin 54).val = 19 by decide)]
    have hm : s_Model_isValue H rm (mS M1 t x) = some (1, mS M1 (t + 2) x) := by
      unfold s_Model_isValue
      rw [if_pos (show mo_tk (mS M1 t x) < 401 by show t < 401; omega), kdv, if_neg (by decide), eatN hX ht (y := 51) (x := 37) (by decide) rfl, if_neg (show ¬ (gk K t).val = 51 by omega)]
      simp only [Option.bind_some, if00]
      rw [eatIn_S hX ht in13, if_neg (show ¬ (13 ≤ (gk K t).val ∧ (gk K t).val ≤ 14) by omega)]
      simp only [Option.bind_some, if00]
      rw [eatN hX ht (y := 2) (x := 2) (by decide) rfl, if_neg (show ¬ (gk K t).val = 2 by omega)]
      simp only [Option.bind_some, if00]
      rw [eatN hX ht (y := 8) (x := 8) (by decide) rfl, if_neg (show ¬ (gk K t).val = 8 by omega)]
      simp only [Option.bind_some, if00]
      rw [eatIn_S hX ht in23, if_pos (show 23 ≤ (gk K t).val ∧ (gk K t).val ≤ 26 from ⟨by omega, by omega⟩)]
      simp only [Option.bind_some, if10]
      rw [eatN hX htn (y := 50) (x := 36) (by decide) rfl]
      rw [if_pos hn50]
      rfl
    rw [hc, hm]
    refine ⟨true, t + 2, _, _, x, rfl, rfl, by omega, by omega, fun _ => ⟨rfl, by omega, by rw [show t + 2 - 1 = t + 1 by omega, hn50]; decide, fun h1 hp => ?_⟩⟩
    refine leaf (sem_name hX hW ht1 h1 (fun w => hp.2.2.2.2.2.2.2.2 ((kOf_iff _ 39).mpr (Fin.ext w))) hk hn50) (fun _ _ _ hq => hq.1) (by omega) (by omega) ?_
    rintro H2 a b ⟨-, r, r1, r2, r3⟩ Hs hF σ Y g1 g2 g3
    have hr : r < sh_ha Hs 11 := Nat.lt_of_lt_of_le r1 (hF.2.2.1 11)
    have hC := hF.2.2.2
    obtain ⟨c0, c3, c6, c9, c11, c20⟩ := hC
    have hC := hF.2.2.2
    refine ⟨sx_pl Y r, fun w => absurd w (by decide), fun l => ?_, fun fe M' hfe => ?_⟩
    · rw [r2]
      show s_Glacier_valueOf σ 26 (nI r) :: l = _
      unfold s_Glacier_valueOf
      rw [if_neg (show ¬ swf (26 : Fin 54).val = 6 by decide), if_neg (show ¬ swf (26 : Fin 54).val = 13 by decide), if_neg (show ¬ swf (26 : Fin 54).val = 14 by decide), if_neg (show ¬ swf (26 : Fin 54).val = 15 by decide), if_neg (show ¬ swf (26 : Fin 54).val = 16 by decide), if_neg (show ¬ swf (26 : Fin 54).val = 17 by decide), if_neg (show ¬ swf (26 : Fin 54).val = 18 by decide), if_pos (show swf (26 : Fin 54).val = 19 by decide), g1.rb.g_4_2 hr hC]
    · obtain ⟨k, rfl, -⟩ := nd_pos (by decide) hfe
      rw [ev5]
      unfold s_Model_value
      rw [if_pos (show okI (mo_wk (mo_wk' M' (nI t))) 401 = true from ok_nI (by omega) (by omega)), show (mo_wk (mo_wk' M' (nI t))).toNatClampNeg = t from nI_clamp (by omega), hF.1, (hX.2.2 t ht).2.1, hg, if_neg (show ¬ kOf (26 : Fin 54) = 2 by decide), if_neg (show ¬ kOf (26 : Fin 54) = 8 by decide), if_neg (show ¬ kOf (26 : Fin 54) = 13 by decide), if_neg (show ¬ kOf (26 : Fin 54) = 14 by decide), if_neg (show ¬ kOf (26 : Fin 54) = 23 by decide), if_neg (show ¬ kOf (26 : Fin 54) = 24 by decide), if_neg (show ¬ kOf (26 : Fin 54) = 25 by decide), if_pos (show kOf (26 : Fin 54) = 26 by decide)]
      rw [wk_1, named_S (by omega)]
      simp only [Option.bind_some]
      rw [hF.2.1 (t + 1) (by omega) (by omega), r3, if_pos (ok_nI (by omega) (by omega)), nI_clamp (by omega)]
  · have hc : s_Teacher_readValue (tA K t) F E (N 0) (N 1) (N 2) (N 3) (N 4) rec x = (tB K (t + 1), s_Formulas_put F 26 (s_Teacher_oldName (tA K t) E (N 4) (gk K t)).1, (s_Teacher_oldName (tA K t) E (N 4) (gk K t)).2.2) := by
      have h2 : (s_Teacher_oldName (tA K t) E (N 4) (gk K t)).2.1 = tB K (t + 1) := by rw [ho, if_neg hn50]
      unfold s_Teacher_readValue
      rw [← h2, hg, show s_Tokens_sign (tA K t) = 26 from hg, if_neg (show ¬ swf (26 : Fin 54).val = 6 by decide), if_neg (show ¬ swf (26 : Fin 54).val = 12 by decide), if_neg (show ¬ swf (26 : Fin 54).val = 13 by decide), if_neg (show ¬ swf (26 : Fin 54).val = 14 by decide), if_neg (show ¬ swf (26 : Fin 54).val = 15 by decide), if_neg (show ¬ swf (26 : Fin 54).val = 16 by decide), if_neg (show ¬ swf (26 : Fin 54).val = 17 by decide), if_neg (show ¬ swf (26 : Fin 54).val = 18 by decide), if_pos (show swf (26 : Fin 54).val = 19 by decide)]
    have hm : s_Model_isValue H rm (mS M1 t x) = some (0, mS M1 (t + 1) x) := by
      unfold s_Model_isValue
      rw [if_pos (show mo_tk (mS M1 t x) < 401 by show t < 401; omega), kdv, if_neg (by decide), eatN hX ht (y := 51) (x := 37) (by decide) rfl, if_neg (show ¬ (gk K t).val = 51 by omega)]
      simp only [Option.bind_some, if00]
      rw [eatIn_S hX ht in13, if_neg (show ¬ (13 ≤ (gk K t).val ∧ (gk K t).val ≤ 14) by omega)]
      simp only [Option.bind_some, if00]
      rw [eatN hX ht (y := 2) (x := 2) (by decide) rfl, if_neg (show ¬ (gk K t).val = 2 by omega)]
      simp only [Option.bind_some, if00]
      rw [eatN hX ht (y := 8) (x := 8) (by decide) rfl, if_neg (show ¬ (gk K t).val = 8 by omega)]
      simp only [Option.bind_some, if00]
      rw [eatIn_S hX ht in23, if_pos (show 23 ≤ (gk K t).val ∧ (gk K t).val ≤ 26 from ⟨by omega, by omega⟩)]
      simp only [Option.bind_some, if10]
      rw [eatN hX htn (y := 50) (x := 36) (by decide) rfl]
      rw [if_neg hn50]
      rfl
    rw [hc, hm]
    exact ⟨false, t + 1, _, _, x, rfl, rfl, by omega, by omega, fun w => by cases w⟩
