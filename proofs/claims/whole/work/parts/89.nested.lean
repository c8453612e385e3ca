/-! values that hold others -/
theorem run1 {σ : GL} {F : FM} {i : Nat} {g : Fin 54} {o : Int32} {l : List Int32} (h : fm_sg F i = some g) (h2 : fm_op F i = o) : run σ F 1 i l = stp σ g o l := by
  show stp σ ((fm_sg F i).getD 0) (fm_op F i) l = _
  rw [h, h2]
  rfl
theorem sw_no : ∀ g : Fin 54, ¬ (g.val = 51 ∨ g.val = 13 ∨ g.val = 14 ∨ g.val = 2 ∨ g.val = 8 ∨ (23 ≤ g.val ∧ g.val ≤ 26)) → ¬ swf g.val = 6 ∧ ¬ swf g.val = 12 ∧ ¬ swf g.val = 13 ∧ ¬ swf g.val = 14 ∧ ¬ swf g.val = 15 ∧ ¬ swf g.val = 16 ∧ ¬ swf g.val = 17 ∧ ¬ swf g.val = 18 ∧ ¬ swf g.val = 19 := by decide +kernel
theorem nest_c {K : TK} {N : Nat → NM} {x t : Nat} {F : FM} {E : TE} {rec : Nat → Nat → Fin 54 → RS → RS} (h : ¬ ((gk K t).val = 51 ∨ (gk K t).val = 13 ∨ (gk K t).val = 14 ∨ (gk K t).val = 2 ∨ (gk K t).val = 8 ∨ (23 ≤ (gk K t).val ∧ (gk K t).val ≤ 26))) : s_Teacher_readValue (tA K t) F E (N 0) (N 1) (N 2) (N 3) (N 4) rec x = rec 6 x (gk K t) (tA K t, F, E) := by
  obtain ⟨a1, a2, a3, a4, a5, a6, a7, a8, a9⟩ := sw_no _ h
  unfold s_Teacher_readValue
  rw [show s_Tokens_sign (tA K t) = gk K t from rfl, if_neg a1, if_neg a2, if_neg a3, if_neg a4, if_neg a5, if_neg a6, if_neg a7, if_neg a8, if_neg a9]
theorem nest_m {K : TK} {H : SH} {n x t : Nat} {M1 : MO} {rm : EV} (hX : LX K H n) (ht : t ≤ n) (h : ¬ ((gk K t).val = 51 ∨ (gk K t).val = 13 ∨ (gk K t).val = 14 ∨ (gk K t).val = 2 ∨ (gk K t).val = 8 ∨ (23 ≤ (gk K t).val ∧ (gk K t).val ≤ 26))) (h42 : ¬ (gk K t).val = 42) : s_Model_isValue H rm (mS M1 t x) = (some (if 33 ≤ (gk K t).val ∧ (gk K t).val ≤ 34 then ((1 : Int32), mS M1 (t + 1) x) else (0, mS M1 t x))).bind fun p115_17 => ((s_Model_goDown H 40 p115_17.2).bind fun p123_18 => (if p123_18.1 = 0 then some (0, p123_18.2) else ((rm 3 p123_18.2).bind fun p131_20 => (if p131_20.1 = 0 then some (0, p131_20.2) else (if p115_17.1 = 0 then ((s_Model_eat_0 H 41 p131_20.2).bind fun p163_23 => (if p163_23.1 = 0 then some (0, p163_23.2) else (if 1 ≤ (mo_dp p163_23.2) then some (1, (mo_dp' p163_23.2 ((mo_dp p163_23.2) - 1))) else none))) else ((s_Model_eat_0 H 45 p131_20.2).bind fun p145_26 => (if p145_26.1 = 0 then some (0, p145_26.2) else ((rm 3 p145_26.2).bind fun p153_28 => (if p153_28.1 = 0 then some (0, p153_28.2) else ((s_Model_eat_0 H 41 p153_28.2).bind fun p163_30 => (if p163_30.1 = 0 then some (0, p163_30.2) else (if 1 ≤ (mo_dp p163_30.2) then some (1, (mo_dp' p163_30.2 ((mo_dp p163_30.2) - 1))) else none)))))))))))) := by
  have h400 := hX.1
  have kdv : ¬ sh_kd H (mo_tk (mS M1 t x)) = 47 := by
    show ¬ sh_kd H t = 47
    rw [(hX.2.2 t ht).2.1]
    exact fun w => h42 (congrArg Fin.val ((kOf_iff _ 42).mp w))
  unfold s_Model_isValue
  rw [if_pos (show mo_tk (mS M1 t x) < 401 by show t < 401; omega), if_neg kdv, eatN hX ht (y := 51) (x := 37) (by decide) rfl, if_neg (show ¬ (gk K t).val = 51 by omega)]
  simp only [Option.bind_some, if00, if_true]
  rw [eatIn_S hX ht in13, if_neg (show ¬ (13 ≤ (gk K t).val ∧ (gk K t).val ≤ 14) by omega)]
  simp only [Option.bind_some, if00, if_true]
  rw [eatN hX ht (y := 2) (x := 2) (by decide) rfl, if_neg (show ¬ (gk K t).val = 2 by omega)]
  simp only [Option.bind_some, if00, if_true]
  rw [eatN hX ht (y := 8) (x := 8) (by decide) rfl, if_neg (show ¬ (gk K t).val = 8 by omega)]
  simp only [Option.bind_some, if00, if_true]
  rw [eatIn_S hX ht in23, if_neg (show ¬ (23 ≤ (gk K t).val ∧ (gk K t).val ≤ 26) by omega)]
  simp only [Option.bind_some, if00, if_true]
  rw [eatIn_S hX ht in33]
  rfl
theorem val_minus {K : TK} {H : SH} {n : Nat} {M : MO} {N : Nat → NM} {x t : Nat} {F : FM} {E : TE} {M1 : MO} {rec rec' : Nat → Nat → Fin 54 → RS → RS} {rm : EV} (hX : LX K H n) (ht : t ≤ n) (hx : x ≤ 8) (hrec : ∀ g S, rec 6 x g S = s_Teacher_readNested S.1 S.2.1 S.2.2 (N 0) (N 1) (N 2) (N 3) (N 4) rec' g x) (h5 : x < 8 → ∀ t F E M1, t ≤ n → RDN K H n M N 5 (x + 1) t F E M1 (rec' 5 (x + 1) 0 (tA K t, F, E)) (rm 5 (mS M1 t (x + 1)))) (hg : gk K t = 42) : RDN K H n M N 5 x t F E M1 (s_Teacher_readValue (tA K t) F E (N 0) (N 1) (N 2) (N 3) (N 4) rec x) (s_Model_isValue H rm (mS M1 t x)) := by
  have h400 := hX.1
  have htn : t < n := (hX.2.2 t ht).2.2.2.2.mpr (by rw [hg]; decide)
  have hv : (gk K t).val = 42 := by rw [hg]; rfl
  have kdv : sh_kd H (mo_tk (mS M1 t x)) = 47 := by
    show sh_kd H t = _
    rw [(hX.2.2 t ht).2.1, hg]
    rfl
  have hc : s_Teacher_readValue (tA K t) F E (N 0) (N 1) (N 2) (N 3) (N 4) rec x = (if (s_Teacher_goesDeeper (tA K t) E x).1 = 0 then ((s_Teacher_goesDeeper (tA K t) E x).2, F, E) else ((rec' 5 (x + 1) 0 ((s_Teacher_goesDeeper (tA K t) E x).2, (s_Formulas_put F (51 : Fin 54) 0), E)).1, (s_Formulas_put (rec' 5 (x + 1) 0 ((s_Teacher_goesDeeper (tA K t) E x).2, (s_Formulas_put F (51 : Fin 54) 0), E)).2.1 (42 : Fin 54) 0), (rec' 5 (x + 1) 0 ((s_Teacher_goesDeeper (tA K t) E x).2, (s_Formulas_put F (51 : Fin 54) 0), E)).2.2)) := by
    rw [nest_c (by omega), hrec, hg]
    unfold s_Teacher_readNested
    rw [if_pos (show (42 : Fin 54).val = 42 from rfl)]
  have hm : s_Model_isValue H rm (mS M1 t x) = ((s_Model_goDown H 47 (mS M1 t x)).bind fun p18_35 => (if p18_35.1 = 0 then some (0, p18_35.2) else ((rm 5 p18_35.2).bind fun p26_37 => (if p26_37.1 = 0 then some (0, p26_37.2) else (if 1 ≤ (mo_dp p26_37.2) then some (1, (mo_dp' p26_37.2 ((mo_dp p26_37.2) - 1))) else none))))) := by
    unfold s_Model_isValue
    rw [if_pos (show mo_tk (mS M1 t x) < 401 by show t < 401; omega), if_pos kdv]
  rw [hc, hm, deep_A hX htn hx, downN hX ht hx (y := 42) (x := 47) (by decide) rfl]
  by_cases h8 : x < 8
  · rw [if_pos h8, if_pos (show (gk K t).val = 42 ∧ x < 8 from ⟨hv, h8⟩)]
    simp only [Option.bind_some, if10, if_true]
    obtain ⟨ok1, t1, F1, E1, d1, r1, r2, r3, r4, r5⟩ := h5 h8 (t + 1) (s_Formulas_put F 51 0) E M1 (by omega)
    rw [r1, r2]
    cases ok1 with
    | false => exact ⟨false, t1, _, E1, d1, rfl, rfl, by omega, r4, fun w => by cases w⟩
    | true =>
      obtain ⟨s1, s2, s3, s4⟩ := r5 rfl
      subst s1
      refine ⟨true, t1, _, E1, x, rfl, ?_, by omega, r4, fun _ => ⟨rfl, by omega, s3, fun h1 hp => ?_⟩⟩
      · show (if 1 ≤ x + 1 then some ((1 : Int32), mS M1 t1 (x + 1 - 1)) else none) = _
        rw [if_pos (by omega)]
        rfl
      · have q1 := (sem_neu (M := M) (N := N) (F := F) (E := E) hX htn h1 (fun w => hp.2.2.2.2.2.2.2.2 ((kOf_iff _ 39).mpr (Fin.ext w))) (by rw [hg]; decide)).put (g := 51) (o := 0) (by omega) (fun H2 a b hq => by omega)
        have q2 := s4 (by omega) (by rw [Nat.add_sub_cancel, hg]; decide)
        refine ((q1.seq q2 (by omega) (by omega)).put (g := 42) (o := 0) (by omega) (fun H2 a b hq => by
          obtain ⟨b0, Hm, a1, a2, ⟨b00, e0, e00, -⟩, ⟨a4, a4b, -⟩, -⟩ := hq
          omega)).mono ?_
        rintro H2 a c hac ⟨b, ec, ⟨b0, Hm, a1, a2, ⟨b00, e0, e00, a3, a4, a5, a6⟩, ⟨v1, v2, v3⟩, e1, e2, e3, e4, e5⟩, f1, f2, f3, f4⟩
        refine ⟨by omega, by omega, fun Hs hF σ Y g1 g2 g3 => ?_⟩
        have hF1 : FIN H H2 Hs (t + 1) t1 := ⟨hF.1, fun j j1 j2 => hF.2.1 j (by omega) j2, hF.2.2.1, hF.2.2.2⟩
        obtain ⟨v, u1, u2, u3⟩ := v3 Hs hF1 σ Y g1 g2 g3
        refine ⟨-v, fun w => absurd w (by decide), fun l => ?_, fun fe M' hfe => ?_⟩
        · obtain ⟨y1, y2⟩ := f4 b00 (by omega)
          obtain ⟨z1, z2⟩ := e5 b00 (by omega)
          have x1 : run σ (s_Formulas_put F1 42 0) 1 a l = 0 :: l := by
            rw [← e00, run1 ((y1.trans z1).trans a4) ((y2.trans z2).trans a5)]
            rfl
          have x2 : run σ (s_Formulas_put F1 42 0) (b - b0) (a + 1) (0 :: l) = v :: 0 :: l := by
            rw [← u2 (0 :: l), show a + 1 = b0 by omega]
            exact run_ext _ _ _ (fun j j1 j2 => f4 j (by omega))
          have x3 : run σ (s_Formulas_put F1 42 0) 1 b (v :: 0 :: l) = -v :: l := by
            rw [run1 f2 f3]
            show s_Formulas_joined (42 : Fin 54) 0 v :: l = _
            rw [show s_Formulas_joined (42 : Fin 54) 0 v = 0 - v from rfl, Int32.zero_sub]
          rw [show c - a = 1 + ((b - b0) + 1) by omega, run_add, x1, run_add, x2, show a + 1 + (b - b0) = b by omega, x3]
        · unfold ND at hfe
          obtain ⟨k, rfl⟩ := Nat.exists_eq_succ_of_ne_zero (show fe ≠ 0 by omega)
          rw [ev5]
          unfold s_Model_value
          rw [if_pos (show okI (mo_wk (mo_wk' M' (nI t))) 401 = true from ok_nI (by omega) (by omega)), show (mo_wk (mo_wk' M' (nI t))).toNatClampNeg = t from nI_clamp (by omega), hF.1, (hX.2.2 t ht).2.1, hg, if_neg (show ¬ kOf (42 : Fin 54) = 2 by decide), if_neg (show ¬ kOf (42 : Fin 54) = 8 by decide), if_neg (show ¬ kOf (42 : Fin 54) = 13 by decide), if_neg (show ¬ kOf (42 : Fin 54) = 14 by decide), if_neg (show ¬ kOf (42 : Fin 54) = 23 by decide), if_neg (show ¬ kOf (42 : Fin 54) = 24 by decide), if_neg (show ¬ kOf (42 : Fin 54) = 25 by decide), if_neg (show ¬ kOf (42 : Fin 54) = 26 by decide), if_neg (show ¬ kOf (42 : Fin 54) = 37 by decide), if_neg (show ¬ kOf (42 : Fin 54) = 40 by decide), if_pos (show kOf (42 : Fin 54) = 47 by decide), wk_1, u3 k M' (by unfold ND; omega)]
          rfl
  · rw [if_neg h8, if_neg (show ¬ ((gk K t).val = 42 ∧ x < 8) from fun w => h8 w.2)]
    simp only [Option.bind_some, if00, if_true]
    exact ⟨false, t, F, E, x, rfl, rfl, by omega, ht, fun w => by cases w⟩
theorem val_open {K : TK} {H : SH} {n : Nat} {M : MO} {N : Nat → NM} {x t : Nat} {F : FM} {E : TE} {M1 : MO} {rec rec' : Nat → Nat → Fin 54 → RS → RS} {rm : EV} (hX : LX K H n) (ht : t ≤ n) (hx : x ≤ 8) (hrec : ∀ g S, rec 6 x g S = s_Teacher_readNested S.1 S.2.1 S.2.2 (N 0) (N 1) (N 2) (N 3) (N 4) rec' g x) (h3 : x < 8 → ∀ t F E M1, t ≤ n → RDN K H n M N 3 (x + 1) t F E M1 (rec' 3 (x + 1) 0 (tA K t, F, E)) (rm 3 (mS M1 t (x + 1)))) (hg : gk K t = 35) : RDN K H n M N 5 x t F E M1 (s_Teacher_readValue (tA K t) F E (N 0) (N 1) (N 2) (N 3) (N 4) rec x) (s_Model_isValue H rm (mS M1 t x)) := by
  have h400 := hX.1
  have htn : t < n := (hX.2.2 t ht).2.2.2.2.mpr (by rw [hg]; decide)
  have hv : (gk K t).val = 35 := by rw [hg]; rfl
  have hc : s_Teacher_readValue (tA K t) F E (N 0) (N 1) (N 2) (N 3) (N 4) rec x = (if (s_Teacher_goesDeeper (tA K t) E x).1 = 0 then ((s_Teacher_goesDeeper (tA K t) E x).2, F, E) else ((s_Tokens_expect (rec' 3 (x + 1) 0 ((s_Teacher_goesDeeper (tA K t) E x).2, F, E)).1 (36 : Fin 54)), (rec' 3 (x + 1) 0 ((s_Teacher_goesDeeper (tA K t) E x).2, F, E)).2.1, (rec' 3 (x + 1) 0 ((s_Teacher_goesDeeper (tA K t) E x).2, F, E)).2.2)) := by
    rw [nest_c (by omega), hrec, hg]
    unfold s_Teacher_readNested
    rw [if_neg (show ¬ (35 : Fin 54).val = 42 by decide), if_pos (show (35 : Fin 54).val = 35 from rfl)]
  rw [hc, nest_m hX ht (by omega) (by omega), if_neg (show ¬ (33 ≤ (gk K t).val ∧ (gk K t).val ≤ 34) by omega)]
  simp only [Option.bind_some, if00, if_true]
  rw [deep_A hX htn hx, downN hX ht hx (y := 35) (x := 40) (by decide) rfl]
  by_cases h8 : x < 8
  · rw [if_pos h8, if_pos (show (gk K t).val = 35 ∧ x < 8 from ⟨hv, h8⟩)]
    simp only [Option.bind_some, if10, if_true]
    obtain ⟨ok1, t1, F1, E1, d1, r1, r2, r3, r4, r5⟩ := h3 h8 (t + 1) F E M1 (by omega)
    rw [r1, r2]
    cases ok1 with
    | false =>
      refine ⟨false, t1, F1, E1, d1, ?_, rfl, by omega, r4, fun w => by cases w⟩
      show (s_Tokens_expect (tB K t1) 36, F1, E1) = (tB K t1, F1, E1)
      rw [exp_B hX (by decide) r4]
    | true =>
      obtain ⟨s1, s2, s3, s4⟩ := r5 rfl
      subst s1
      simp only [Option.bind_some, if10, if_true]
      rw [exp_A hX (by decide) r4, eatN hX r4 (y := 36) (x := 41) (by decide) rfl]
      show RDN K H n M N 5 x t F E M1 (if (gk K t1).val = 36 then tA K (t1 + 1) else tB K t1, F1, E1) _
      by_cases h36 : (gk K t1).val = 36
      · have ht1 : t1 < n := (hX.2.2 t1 r4).2.2.2.2.mpr (by omega)
        rw [if_pos h36, if_pos h36]
        simp only [Option.bind_some, if10, if_true]
        refine ⟨true, t1 + 1, F1, E1, x, rfl, ?_, by omega, by omega, fun _ => ⟨rfl, by omega, by rw [Nat.add_sub_cancel, h36]; decide, fun h1 hp => ?_⟩⟩
        · show (if 1 ≤ x + 1 then some ((1 : Int32), mS M1 (t1 + 1) (x + 1 - 1)) else none) = _
          rw [if_pos (by omega)]
          rfl
        · have q1 := sem_neu (M := M) (N := N) (F := F) (E := E) hX htn h1 (fun w => hp.2.2.2.2.2.2.2.2 ((kOf_iff _ 39).mpr (Fin.ext w))) (by rw [hg]; decide)
          have q2 := s4 (by omega) (by rw [Nat.add_sub_cancel, hg]; decide)
          have q3 := sem_neu (M := M) (N := N) (F := F1) (E := E1) hX ht1 (by omega) s3 (by rw [show gk K t1 = 36 from Fin.ext h36]; decide)
          refine ((q1.seq q2 (by omega) (by omega)).seq q3 (by omega) (by omega)).mono ?_
          rintro H2 a c hac ⟨b, Hm, a1, a2, ⟨b0, H0, a3, a4, rfl, ⟨v1, v2, v3⟩, e1, e2, e3, e4, e5⟩, rfl, f1, f2, f3, f4, f5⟩
          refine ⟨by omega, by omega, fun Hs hF σ Y g1 g2 g3 => ?_⟩
          have hF1 : FIN H Hm Hs (t + 1) t1 := ⟨hF.1, fun j j1 j2 => (hF.2.1 j (by omega) (by omega)).trans (f3 j (by omega)), fun s => by rw [← f4]; exact hF.2.2.1 s, hF.2.2.2⟩
          obtain ⟨v, u1, u2, u3⟩ := v3 Hs hF1 σ Y g1 g2 g3
          refine ⟨v, fun w => absurd w (by decide), u2, fun fe M' hfe => ?_⟩
          unfold ND at hfe
          obtain ⟨k, rfl⟩ := Nat.exists_eq_succ_of_ne_zero (show fe ≠ 0 by omega)
          rw [ev5]
          unfold s_Model_value
          rw [if_pos (show okI (mo_wk (mo_wk' M' (nI t))) 401 = true from ok_nI (by omega) (by omega)), show (mo_wk (mo_wk' M' (nI t))).toNatClampNeg = t from nI_clamp (by omega), hF.1, (hX.2.2 t ht).2.1, hg, if_neg (show ¬ kOf (35 : Fin 54) = 2 by decide), if_neg (show ¬ kOf (35 : Fin 54) = 8 by decide), if_neg (show ¬ kOf (35 : Fin 54) = 13 by decide), if_neg (show ¬ kOf (35 : Fin 54) = 14 by decide), if_neg (show ¬ kOf (35 : Fin 54) = 23 by decide), if_neg (show ¬ kOf (35 : Fin 54) = 24 by decide), if_neg (show ¬ kOf (35 : Fin 54) = 25 by decide), if_neg (show ¬ kOf (35 : Fin 54) = 26 by decide), if_neg (show ¬ kOf (35 : Fin 54) = 37 by decide), if_pos (show kOf (35 : Fin 54) = 40 by decide), wk_1, u3 k M' (by unfold ND; omega)]
          simp only [Option.bind_some]
          rw [wk_1]
      · rw [if_neg h36, if_neg h36]
        simp only [Option.bind_some, if00, if_true]
        exact ⟨false, t1, F1, E1, x + 1, rfl, rfl, by omega, r4, fun w => by cases w⟩
  · rw [if_neg h8, if_neg (show ¬ ((gk K t).val = 35 ∧ x < 8) from fun w => h8 w.2)]
    simp only [Option.bind_some, if00, if_true]
    exact ⟨false, t, F, E, x, rfl, rfl, by omega, ht, fun w => by cases w⟩
theorem val_else {K : TK} {H : SH} {n : Nat} {M : MO} {N : Nat → NM} {x t : Nat} {F : FM} {E : TE} {M1 : MO} {rec rec' : Nat → Nat → Fin 54 → RS → RS} {rm : EV} (hX : LX K H n) (ht : t ≤ n) (hx : x ≤ 8) (hrec : ∀ g S, rec 6 x g S = s_Teacher_readNested S.1 S.2.1 S.2.2 (N 0) (N 1) (N 2) (N 3) (N 4) rec' g x) (h : ¬ ((gk K t).val = 51 ∨ (gk K t).val = 13 ∨ (gk K t).val = 14 ∨ (gk K t).val = 2 ∨ (gk K t).val = 8 ∨ (23 ≤ (gk K t).val ∧ (gk K t).val ≤ 26))) (h42 : ¬ (gk K t).val = 42) (h35 : ¬ (gk K t).val = 35) (h33 : ¬ (33 ≤ (gk K t).val ∧ (gk K t).val ≤ 34)) : RDN K H n M N 5 x t F E M1 (s_Teacher_readValue (tA K t) F E (N 0) (N 1) (N 2) (N 3) (N 4) rec x) (s_Model_isValue H rm (mS M1 t x)) := by
  have hc : s_Teacher_readValue (tA K t) F E (N 0) (N 1) (N 2) (N 3) (N 4) rec x = (tB K t, F, E) := by
    rw [nest_c h, hrec]
    unfold s_Teacher_readNested
    rw [if_neg h42, if_neg h35, if_neg (show ¬ (gk K t).val = 33 by omega), if_neg (show ¬ (gk K t).val = 34 by omega), brk_A]
  rw [hc, nest_m hX ht h h42, if_neg h33]
  simp only [Option.bind_some, if00, if_true]
  rw [downN hX ht hx (y := 35) (x := 40) (by decide) rfl, if_neg (show ¬ ((gk K t).val = 35 ∧ x < 8) from fun w => h35 w.1)]
  simp only [Option.bind_some, if00, if_true]
  exact ⟨false, t, F, E, x, rfl, rfl, by omega, ht, fun w => by cases w⟩
theorem val_min {K : TK} {H : SH} {n : Nat} {M : MO} {N : Nat → NM} {x t : Nat} {F : FM} {E : TE} {M1 : MO} {rec rec' : Nat → Nat → Fin 54 → RS → RS} {rm : EV} (hX : LX K H n) (ht : t ≤ n) (hx : x ≤ 8) (hrec : ∀ g S, rec 6 x g S = s_Teacher_readNested S.1 S.2.1 S.2.2 (N 0) (N 1) (N 2) (N 3) (N 4) rec' g x) (h3 : x < 8 → ∀ t F E M1, t ≤ n → RDN K H n M N 3 (x + 1) t F E M1 (rec' 3 (x + 1) 0 (tA K t, F, E)) (rm 3 (mS M1 t (x + 1)))) (hb : ∀ t F E, t ≤ n → ∃ F' E', rec' 3 (x + 1) 0 (tB K t, F, E) = (tB K t, F', E')) (hg : gk K t = 33) : RDN K H n M N 5 x t F E M1 (s_Teacher_readValue (tA K t) F E (N 0) (N 1) (N 2) (N 3) (N 4) rec x) (s_Model_isValue H rm (mS M1 t x)) := by
  have h400 := hX.1
  have htn : t < n := (hX.2.2 t ht).2.2.2.2.mpr (by rw [hg]; decide)
  have hv : (gk K t).val = 33 := by rw [hg]; rfl
  have hc : s_Teacher_readValue (tA K t) F E (N 0) (N 1) (N 2) (N 3) (N 4) rec x = (if (gk K (t + 1)).val = 35 then (if (s_Teacher_goesDeeper (s_Tokens_advance (tA K t)) E x).1 = 0 then ((s_Teacher_goesDeeper (s_Tokens_advance (tA K t)) E x).2, F, E) else ((s_Tokens_expect (rec' 3 (x + 1) 0 ((s_Tokens_expect (rec' 3 (x + 1) 0 ((s_Teacher_goesDeeper (s_Tokens_advance (tA K t)) E x).2, F, E)).1 (40 : Fin 54)), (rec' 3 (x + 1) 0 ((s_Teacher_goesDeeper (s_Tokens_advance (tA K t)) E x).2, F, E)).2.1, (rec' 3 (x + 1) 0 ((s_Teacher_goesDeeper (s_Tokens_advance (tA K t)) E x).2, F, E)).2.2)).1 (36 : Fin 54)), (s_Formulas_put (rec' 3 (x + 1) 0 ((s_Tokens_expect (rec' 3 (x + 1) 0 ((s_Teacher_goesDeeper (s_Tokens_advance (tA K t)) E x).2, F, E)).1 (40 : Fin 54)), (rec' 3 (x + 1) 0 ((s_Teacher_goesDeeper (s_Tokens_advance (tA K t)) E x).2, F, E)).2.1, (rec' 3 (x + 1) 0 ((s_Teacher_goesDeeper (s_Tokens_advance (tA K t)) E x).2, F, E)).2.2)).2.1 (33 : Fin 54) 0), (rec' 3 (x + 1) 0 ((s_Tokens_expect (rec' 3 (x + 1) 0 ((s_Teacher_goesDeeper (s_Tokens_advance (tA K t)) E x).2, F, E)).1 (40 : Fin 54)), (rec' 3 (x + 1) 0 ((s_Teacher_goesDeeper (s_Tokens_advance (tA K t)) E x).2, F, E)).2.1, (rec' 3 (x + 1) 0 ((s_Teacher_goesDeeper (s_Tokens_advance (tA K t)) E x).2, F, E)).2.2)).2.2)) else ((s_Tokens_breakOff (s_Tokens_advance (tA K t))), F, E)) := by
    rw [nest_c (by omega), hrec, hg]
    unfold s_Teacher_readNested
    rw [if_neg (show ¬ (33 : Fin 54).val = 42 by decide), if_neg (show ¬ (33 : Fin 54).val = 35 by decide), if_pos (show (33 : Fin 54).val = 33 from rfl)]
    show (if (s_Tokens_sign (s_Tokens_advance (tA K t))).val = 35 then _ else _) = _
    rw [hX.adv htn]
    rfl
  rw [hc, nest_m hX ht (by omega) (by omega), if_pos (show 33 ≤ (gk K t).val ∧ (gk K t).val ≤ 34 by omega)]
  simp only [Option.bind_some, if10, if_true]
  rw [downN hX htn hx (y := 35) (x := 40) (by decide) rfl, hX.adv htn]
  by_cases h35 : (gk K (t + 1)).val = 35
  · have htn1 : t + 1 < n := (hX.2.2 (t + 1) htn).2.2.2.2.mpr (by omega)
    rw [if_pos h35, deep_A hX htn1 hx]
    by_cases h8 : x < 8
    · rw [if_pos h8, if_pos (show (gk K (t + 1)).val = 35 ∧ x < 8 from ⟨h35, h8⟩)]
      simp only [Option.bind_some, if10, if_true]
      obtain ⟨ok1, t1, F1, E1, d1, r1, r2, r3, r4, r5⟩ := h3 h8 (t + 1 + 1) F E M1 (by omega)
      rw [r1, r2]
      cases ok1 with
      | false =>
        obtain ⟨F2, E2, b1⟩ := hb t1 F1 E1 r4
        refine ⟨false, t1, s_Formulas_put F2 33 0, E2, d1, ?_, rfl, by omega, r4, fun w => by cases w⟩
        show (s_Tokens_expect (rec' 3 (x + 1) 0 (s_Tokens_expect (tB K t1) 40, F1, E1)).1 36, s_Formulas_put (rec' 3 (x + 1) 0 (s_Tokens_expect (tB K t1) 40, F1, E1)).2.1 33 0, (rec' 3 (x + 1) 0 (s_Tokens_expect (tB K t1) 40, F1, E1)).2.2) = _
        rw [exp_B hX (by decide) r4, b1]
        show (s_Tokens_expect (tB K t1) 36, _, _) = _
        rw [exp_B hX (by decide) r4]
        rfl
      | true =>
        obtain ⟨s1, s2, s3, s4⟩ := r5 rfl
        subst s1
        simp only [Option.bind_some, if10, if_true]
        rw [exp_A hX (by decide) r4, eatN hX r4 (y := 40) (x := 45) (by decide) rfl]
        show RDN K H n M N 5 x t F E M1 (s_Tokens_expect (rec' 3 (x + 1) 0 (if (gk K t1).val = 40 then tA K (t1 + 1) else tB K t1, F1, E1)).1 36, s_Formulas_put (rec' 3 (x + 1) 0 (if (gk K t1).val = 40 then tA K (t1 + 1) else tB K t1, F1, E1)).2.1 33 0, (rec' 3 (x + 1) 0 (if (gk K t1).val = 40 then tA K (t1 + 1) else tB K t1, F1, E1)).2.2) _
        by_cases h40 : (gk K t1).val = 40
        · have ht1 : t1 < n := (hX.2.2 t1 r4).2.2.2.2.mpr (by omega)
          rw [if_pos h40, if_pos h40]
          simp only [Option.bind_some, if10, if_true]
          obtain ⟨ok2, t2, F2, E2, d2, w1, w2, w3, w4, w5⟩ := h3 h8 (t1 + 1) F1 E1 M1 (by omega)
          rw [w1, w2]
          cases ok2 with
          | false =>
            refine ⟨false, t2, s_Formulas_put F2 33 0, E2, d2, ?_, rfl, by omega, w4, fun w => by cases w⟩
            show (s_Tokens_expect (tB K t2) 36, _, _) = _
            rw [exp_B hX (by decide) w4]
            rfl
          | true =>
            obtain ⟨x1, x2, x3, x4⟩ := w5 rfl
            subst x1
            simp only [Option.bind_some, if10, if_true]
            rw [exp_A hX (by decide) w4, eatN hX w4 (y := 36) (x := 41) (by decide) rfl]
            show RDN K H n M N 5 x t F E M1 (if (gk K t2).val = 36 then tA K (t2 + 1) else tB K t2, s_Formulas_put F2 33 0, E2) _
            by_cases h36 : (gk K t2).val = 36
            · have ht2 : t2 < n := (hX.2.2 t2 w4).2.2.2.2.mpr (by omega)
              rw [if_pos h36, if_pos h36]
              simp only [Option.bind_some, if10, if_true]
              refine ⟨true, t2 + 1, s_Formulas_put F2 33 0, E2, x, rfl, ?_, by omega, by omega, fun _ => ⟨rfl, by omega, by rw [Nat.add_sub_cancel, h36]; decide, fun h1 hp => ?_⟩⟩
              · show (if 1 ≤ x + 1 then some ((1 : Int32), mS M1 (t2 + 1) (x + 1 - 1)) else none) = _
                rw [if_pos (by omega)]
                rfl
              · have q1 := sem_neu (M := M) (N := N) (F := F) (E := E) hX htn h1 (fun w => hp.2.2.2.2.2.2.2.2 ((kOf_iff _ 39).mpr (Fin.ext w))) (by rw [hg]; decide)
                have q1b := sem_neu (M := M) (N := N) (F := F) (E := E) hX htn1 (by omega) (by rw [Nat.add_sub_cancel, hg]; decide) (by rw [show gk K (t + 1) = 35 from Fin.ext h35]; decide)
                have q2 := s4 (by omega) (by rw [Nat.add_sub_cancel, show gk K (t + 1) = 35 from Fin.ext h35]; decide)
                have q3 := sem_neu (M := M) (N := N) (F := F1) (E := E1) hX ht1 (by omega) s3 (by rw [show gk K t1 = 40 from Fin.ext h40]; decide)
                have q4 := x4 (by omega) (by rw [Nat.add_sub_cancel, show gk K t1 = 40 from Fin.ext h40]; decide)
                have q5 := sem_neu (M := M) (N := N) (F := F2) (E := E2) hX ht2 (by omega) x3 (by rw [show gk K t2 = 36 from Fin.ext h36]; decide)
                have q12 := (((((q1.seq q1b (by omega) (by omega)).seq q2 (by omega) (by omega)).seq q3 (by omega) (by omega)).seq q4 (by omega) (by omega)).seq q5 (by omega) (by omega)).put (g := 33) (o := 0) (by omega) (fun H2 a b hq => by
                  obtain ⟨b5, H5, -, -, ⟨b4, H4, -, -, ⟨b3, H3, -, -, ⟨b2, H2', -, -, ⟨b1, H1, -, -, rfl, rfl, -⟩, ⟨-, m1, -⟩, -⟩, rfl, -⟩, ⟨-, m2, -⟩, -⟩, rfl, -⟩ := hq
                  omega)
                refine q12.mono ?_
                rintro H6 a c hac ⟨b6, n5, ⟨b5, H5, k1, k2, ⟨b4, H4, k3, k4, ⟨b3, H3, k5, k6, ⟨b2, H2, k7, k8, ⟨b1, H1, -, -, n1, n2, -⟩, ⟨m1, m2, m3⟩, l1, l2, l3, l4, l5⟩, n3, l6, l7, l8, l9, l10⟩, ⟨m4, m5, m6⟩, l11, l12, l13, l14, l15⟩, n4, l16, l17, l18, l19, l20⟩, f1, f2, f3, f4⟩
                refine ⟨by omega, by omega, fun Hs hF σ Y g1 g2 g3 => ?_⟩
                have hF2 : FIN H H5 Hs (t1 + 1) t2 := ⟨hF.1, fun j j1 j2 => (hF.2.1 j (by omega) (by omega)).trans (l18 j (by omega)), fun s => by rw [← l19]; exact hF.2.2.1 s, hF.2.2.2⟩
                have hF1 : FIN H H3 Hs (t + 1 + 1) t1 := ⟨hF.1, fun j j1 j2 => (((hF.2.1 j (by omega) (by omega)).trans (l18 j (by omega))).trans (l13 j (by omega))).trans (l8 j (by omega)), fun s => by rw [← l9, ← l14, ← l19]; exact hF.2.2.1 s, hF.2.2.2⟩
                obtain ⟨u, u1, u2, u3⟩ := m3 Hs hF1 σ Y g1 g2 g3
                obtain ⟨v, v1, v2, v3⟩ := m6 Hs hF2 σ Y g1 g2 g3
                refine ⟨iMin u v, fun w => absurd w (by decide), fun l => ?_, fun fe M' hfe => ?_⟩
                · have x1 : run σ (s_Formulas_put F2 33 0) (b3 - b2) a l = u :: l := by
                    rw [← u2 l, show a = b2 by omega]
                    exact run_ext _ _ _ (fun j j1 j2 => by
                      obtain ⟨y1, y2⟩ := f4 j (by omega)
                      obtain ⟨y3, y4⟩ := l15 j (by omega)
                      exact ⟨y1.trans y3, y2.trans y4⟩)
                  have x2 : run σ (s_Formulas_put F2 33 0) (b5 - b4) b3 (u :: l) = v :: u :: l := by
                    rw [← v2 (u :: l), show b3 = b4 by omega]
                    exact run_ext _ _ _ (fun j j1 j2 => f4 j (by omega))
                  have x3 : run σ (s_Formulas_put F2 33 0) 1 b5 (v :: u :: l) = iMin u v :: l := by
                    rw [show b5 = b6 by omega, run1 f2 f3]
                    rfl
                  rw [show c - a = (b3 - b2) + ((b5 - b4) + 1) by omega, run_add, x1, show a + (b3 - b2) = b3 by omega, run_add, x2, show b3 + (b5 - b4) = b5 by omega, x3]
                · unfold ND at hfe
                  obtain ⟨k, rfl⟩ := Nat.exists_eq_succ_of_ne_zero (show fe ≠ 0 by omega)
                  rw [ev5]
                  unfold s_Model_value
                  rw [if_pos (show okI (mo_wk (mo_wk' M' (nI t))) 401 = true from ok_nI (by omega) (by omega)), show (mo_wk (mo_wk' M' (nI t))).toNatClampNeg = t from nI_clamp (by omega), hF.1, (hX.2.2 t ht).2.1, hg, if_neg (show ¬ kOf (33 : Fin 54) = 2 by decide), if_neg (show ¬ kOf (33 : Fin 54) = 8 by decide), if_neg (show ¬ kOf (33 : Fin 54) = 13 by decide), if_neg (show ¬ kOf (33 : Fin 54) = 14 by decide), if_neg (show ¬ kOf (33 : Fin 54) = 23 by decide), if_neg (show ¬ kOf (33 : Fin 54) = 24 by decide), if_neg (show ¬ kOf (33 : Fin 54) = 25 by decide), if_neg (show ¬ kOf (33 : Fin 54) = 26 by decide), if_neg (show ¬ kOf (33 : Fin 54) = 37 by decide), if_neg (show ¬ kOf (33 : Fin 54) = 40 by decide), if_neg (show ¬ kOf (33 : Fin 54) = 47 by decide), wk_1, show mo_wk' (mo_wk' M' (nI (t + 1))) (mo_wk (mo_wk' M' (nI t)) + 1 + 1) = mo_wk' M' (nI (t + 1 + 1)) by rw [show mo_wk (mo_wk' M' (nI t)) + 1 + 1 = nI (t + 1 + 1) by rw [← nI_1, ← nI_1]], u3 k M' (by unfold ND; omega)]
                  simp only [Option.bind_some]
                  rw [wk_1, v3 k M' (by unfold ND; omega)]
                  simp only [Option.bind_some]
                  rw [if_pos (show kOf (33 : Fin 54) = 33 by decide), wk_1]
            · rw [if_neg h36, if_neg h36]
              simp only [Option.bind_some, if00, if_true]
              exact ⟨false, t2, _, E2, x + 1, rfl, rfl, by omega, w4, fun w => by cases w⟩
        · rw [if_neg h40, if_neg h40]
          simp only [Option.bind_some, if00, if_true]
          obtain ⟨F2, E2, b1⟩ := hb t1 F1 E1 r4
          rw [b1]
          refine ⟨false, t1, s_Formulas_put F2 33 0, E2, x + 1, ?_, rfl, by omega, r4, fun w => by cases w⟩
          show (s_Tokens_expect (tB K t1) 36, _, _) = _
          rw [exp_B hX (by decide) r4]
          rfl
    · rw [if_neg h8, if_neg (show ¬ ((gk K (t + 1)).val = 35 ∧ x < 8) from fun w => h8 w.2)]
      simp only [Option.bind_some, if00, if_true]
      exact ⟨false, t + 1, F, E, x, rfl, rfl, by omega, by omega, fun w => by cases w⟩
  · rw [if_neg h35, if_neg (show ¬ ((gk K (t + 1)).val = 35 ∧ x < 8) from fun w => h35 w.1), brk_A]
    simp only [Option.bind_some, if00, if_true]
    exact ⟨false, t + 1, F, E, x, rfl, rfl, by omega, by omega, fun w => by cases w⟩
theorem val_max {K : TK} {H : SH} {n : Nat} {M : MO} {N : Nat → NM} {x t : Nat} {F : FM} {E : TE} {M1 : MO} {rec rec' : Nat → Nat → Fin 54 → RS → RS} {rm : EV} (hX : LX K H n) (ht : t ≤ n) (hx : x ≤ 8) (hrec : ∀ g S, rec 6 x g S = s_Teacher_readNested S.1 S.2.1 S.2.2 (N 0) (N 1) (N 2) (N 3) (N 4) rec' g x) (h3 : x < 8 → ∀ t F E M1, t ≤ n → RDN K H n M N 3 (x + 1) t F E M1 (rec' 3 (x + 1) 0 (tA K t, F, E)) (rm 3 (mS M1 t (x + 1)))) (hb : ∀ t F E, t ≤ n → ∃ F' E', rec' 3 (x + 1) 0 (tB K t, F, E) = (tB K t, F', E')) (hg : gk K t = 34) : RDN K H n M N 5 x t F E M1 (s_Teacher_readValue (tA K t) F E (N 0) (N 1) (N 2) (N 3) (N 4) rec x) (s_Model_isValue H rm (mS M1 t x)) := by
  have h400 := hX.1
  have htn : t < n := (hX.2.2 t ht).2.2.2.2.mpr (by rw [hg]; decide)
  have hv : (gk K t).val = 34 := by rw [hg]; rfl
  have hc : s_Teacher_readValue (tA K t) F E (N 0) (N 1) (N 2) (N 3) (N 4) rec x = (if (gk K (t + 1)).val = 35 then (if (s_Teacher_goesDeeper (s_Tokens_advance (tA K t)) E x).1 = 0 then ((s_Teacher_goesDeeper (s_Tokens_advance (tA K t)) E x).2, F, E) else ((s_Tokens_expect (rec' 3 (x + 1) 0 ((s_Tokens_expect (rec' 3 (x + 1) 0 ((s_Teacher_goesDeeper (s_Tokens_advance (tA K t)) E x).2, F, E)).1 (40 : Fin 54)), (rec' 3 (x + 1) 0 ((s_Teacher_goesDeeper (s_Tokens_advance (tA K t)) E x).2, F, E)).2.1, (rec' 3 (x + 1) 0 ((s_Teacher_goesDeeper (s_Tokens_advance (tA K t)) E x).2, F, E)).2.2)).1 (36 : Fin 54)), (s_Formulas_put (rec' 3 (x + 1) 0 ((s_Tokens_expect (rec' 3 (x + 1) 0 ((s_Teacher_goesDeeper (s_Tokens_advance (tA K t)) E x).2, F, E)).1 (40 : Fin 54)), (rec' 3 (x + 1) 0 ((s_Teacher_goesDeeper (s_Tokens_advance (tA K t)) E x).2, F, E)).2.1, (rec' 3 (x + 1) 0 ((s_Teacher_goesDeeper (s_Tokens_advance (tA K t)) E x).2, F, E)).2.2)).2.1 (34 : Fin 54) 0), (rec' 3 (x + 1) 0 ((s_Tokens_expect (rec' 3 (x + 1) 0 ((s_Teacher_goesDeeper (s_Tokens_advance (tA K t)) E x).2, F, E)).1 (40 : Fin 54)), (rec' 3 (x + 1) 0 ((s_Teacher_goesDeeper (s_Tokens_advance (tA K t)) E x).2, F, E)).2.1, (rec' 3 (x + 1) 0 ((s_Teacher_goesDeeper (s_Tokens_advance (tA K t)) E x).2, F, E)).2.2)).2.2)) else ((s_Tokens_breakOff (s_Tokens_advance (tA K t))), F, E)) := by
    rw [nest_c (by omega), hrec, hg]
    unfold s_Teacher_readNested
    rw [if_neg (show ¬ (34 : Fin 54).val = 42 by decide), if_neg (show ¬ (34 : Fin 54).val = 35 by decide), if_neg (show ¬ (34 : Fin 54).val = 33 by decide), if_pos (show (34 : Fin 54).val = 34 from rfl)]
    show (if (s_Tokens_sign (s_Tokens_advance (tA K t))).val = 35 then _ else _) = _
    rw [hX.adv htn]
    rfl
  rw [hc, nest_m hX ht (by omega) (by omega), if_pos (show 33 ≤ (gk K t).val ∧ (gk K t).val ≤ 34 by omega)]
  simp only [Option.bind_some, if10, if_true]
  rw [downN hX htn hx (y := 35) (x := 40) (by decide) rfl, hX.adv htn]
  by_cases h35 : (gk K (t + 1)).val = 35
  · have htn1 : t + 1 < n := (hX.2.2 (t + 1) htn).2.2.2.2.mpr (by omega)
    rw [if_pos h35, deep_A hX htn1 hx]
    by_cases h8 : x < 8
    · rw [if_pos h8, if_pos (show (gk K (t + 1)).val = 35 ∧ x < 8 from ⟨h35, h8⟩)]
      simp only [Option.bind_some, if10, if_true]
      obtain ⟨ok1, t1, F1, E1, d1, r1, r2, r3, r4, r5⟩ := h3 h8 (t + 1 + 1) F E M1 (by omega)
      rw [r1, r2]
      cases ok1 with
      | false =>
        obtain ⟨F2, E2, b1⟩ := hb t1 F1 E1 r4
        refine ⟨false, t1, s_Formulas_put F2 34 0, E2, d1, ?_, rfl, by omega, r4, fun w => by cases w⟩
        show (s_Tokens_expect (rec' 3 (x + 1) 0 (s_Tokens_expect (tB K t1) 40, F1, E1)).1 36, s_Formulas_put (rec' 3 (x + 1) 0 (s_Tokens_expect (tB K t1) 40, F1, E1)).2.1 34 0, (rec' 3 (x + 1) 0 (s_Tokens_expect (tB K t1) 40, F1, E1)).2.2) = _
        rw [exp_B hX (by decide) r4, b1]
        show (s_Tokens_expect (tB K t1) 36, _, _) = _
        rw [exp_B hX (by decide) r4]
        rfl
      | true =>
        obtain ⟨s1, s2, s3, s4⟩ := r5 rfl
        subst s1
        simp only [Option.bind_some, if10, if_true]
        rw [exp_A hX (by decide) r4, eatN hX r4 (y := 40) (x := 45) (by decide) rfl]
        show RDN K H n M N 5 x t F E M1 (s_Tokens_expect (rec' 3 (x + 1) 0 (if (gk K t1).val = 40 then tA K (t1 + 1) else tB K t1, F1, E1)).1 36, s_Formulas_put (rec' 3 (x + 1) 0 (if (gk K t1).val = 40 then tA K (t1 + 1) else tB K t1, F1, E1)).2.1 34 0, (rec' 3 (x + 1) 0 (if (gk K t1).val = 40 then tA K (t1 + 1) else tB K t1, F1, E1)).2.2) _
        by_cases h40 : (gk K t1).val = 40
        · have ht1 : t1 < n := (hX.2.2 t1 r4).2.2.2.2.mpr (by omega)
          rw [if_pos h40, if_pos h40]
          simp only [Option.bind_some, if10, if_true]
          obtain ⟨ok2, t2, F2, E2, d2, w1, w2, w3, w4, w5⟩ := h3 h8 (t1 + 1) F1 E1 M1 (by omega)
          rw [w1, w2]
          cases ok2 with
          | false =>
            refine ⟨false, t2, s_Formulas_put F2 34 0, E2, d2, ?_, rfl, by omega, w4, fun w => by cases w⟩
            show (s_Tokens_expect (tB K t2) 36, _, _) = _
            rw [exp_B hX (by decide) w4]
            rfl
          | true =>
            obtain ⟨x1, x2, x3, x4⟩ := w5 rfl
            subst x1
            simp only [Option.bind_some, if10, if_true]
            rw [exp_A hX (by decide) w4, eatN hX w4 (y := 36) (x := 41) (by decide) rfl]
            show RDN K H n M N 5 x t F E M1 (if (gk K t2).val = 36 then tA K (t2 + 1) else tB K t2, s_Formulas_put F2 34 0, E2) _
            by_cases h36 : (gk K t2).val = 36
            · have ht2 : t2 < n := (hX.2.2 t2 w4).2.2.2.2.mpr (by omega)
              rw [if_pos h36, if_pos h36]
              simp only [Option.bind_some, if10, if_true]
              refine ⟨true, t2 + 1, s_Formulas_put F2 34 0, E2, x, rfl, ?_, by omega, by omega, fun _ => ⟨rfl, by omega, by rw [Nat.add_sub_cancel, h36]; decide, fun h1 hp => ?_⟩⟩
              · show (if 1 ≤ x + 1 then some ((1 : Int32), mS M1 (t2 + 1) (x + 1 - 1)) else none) = _
                rw [if_pos (by omega)]
                rfl
              · have q1 := sem_neu (M := M) (N := N) (F := F) (E := E) hX htn h1 (fun w => hp.2.2.2.2.2.2.2.2 ((kOf_iff _ 39).mpr (Fin.ext w))) (by rw [hg]; decide)
                have q1b := sem_neu (M := M) (N := N) (F := F) (E := E) hX htn1 (by omega) (by rw [Nat.add_sub_cancel, hg]; decide) (by rw [show gk K (t + 1) = 35 from Fin.ext h35]; decide)
                have q2 := s4 (by omega) (by rw [Nat.add_sub_cancel, show gk K (t + 1) = 35 from Fin.ext h35]; decide)
                have q3 := sem_neu (M := M) (N := N) (F := F1) (E := E1) hX ht1 (by omega) s3 (by rw [show gk K t1 = 40 from Fin.ext h40]; decide)
                have q4 := x4 (by omega) (by rw [Nat.add_sub_cancel, show gk K t1 = 40 from Fin.ext h40]; decide)
                have q5 := sem_neu (M := M) (N := N) (F := F2) (E := E2) hX ht2 (by omega) x3 (by rw [show gk K t2 = 36 from Fin.ext h36]; decide)
                have q12 := (((((q1.seq q1b (by omega) (by omega)).seq q2 (by omega) (by omega)).seq q3 (by omega) (by omega)).seq q4 (by omega) (by omega)).seq q5 (by omega) (by omega)).put (g := 34) (o := 0) (by omega) (fun H2 a b hq => by
                  obtain ⟨b5, H5, -, -, ⟨b4, H4, -, -, ⟨b3, H3, -, -, ⟨b2, H2', -, -, ⟨b1, H1, -, -, rfl, rfl, -⟩, ⟨-, m1, -⟩, -⟩, rfl, -⟩, ⟨-, m2, -⟩, -⟩, rfl, -⟩ := hq
                  omega)
                refine q12.mono ?_
                rintro H6 a c hac ⟨b6, n5, ⟨b5, H5, k1, k2, ⟨b4, H4, k3, k4, ⟨b3, H3, k5, k6, ⟨b2, H2, k7, k8, ⟨b1, H1, -, -, n1, n2, -⟩, ⟨m1, m2, m3⟩, l1, l2, l3, l4, l5⟩, n3, l6, l7, l8, l9, l10⟩, ⟨m4, m5, m6⟩, l11, l12, l13, l14, l15⟩, n4, l16, l17, l18, l19, l20⟩, f1, f2, f3, f4⟩
                refine ⟨by omega, by omega, fun Hs hF σ Y g1 g2 g3 => ?_⟩
                have hF2 : FIN H H5 Hs (t1 + 1) t2 := ⟨hF.1, fun j j1 j2 => (hF.2.1 j (by omega) (by omega)).trans (l18 j (by omega)), fun s => by rw [← l19]; exact hF.2.2.1 s, hF.2.2.2⟩
                have hF1 : FIN H H3 Hs (t + 1 + 1) t1 := ⟨hF.1, fun j j1 j2 => (((hF.2.1 j (by omega) (by omega)).trans (l18 j (by omega))).trans (l13 j (by omega))).trans (l8 j (by omega)), fun s => by rw [← l9, ← l14, ← l19]; exact hF.2.2.1 s, hF.2.2.2⟩
                obtain ⟨u, u1, u2, u3⟩ := m3 Hs hF1 σ Y g1 g2 g3
                obtain ⟨v, v1, v2, v3⟩ := m6 Hs hF2 σ Y g1 g2 g3
                refine ⟨iMax u v, fun w => absurd w (by decide), fun l => ?_, fun fe M' hfe => ?_⟩
                · have x1 : run σ (s_Formulas_put F2 34 0) (b3 - b2) a l = u :: l := by
                    rw [← u2 l, show a = b2 by omega]
                    exact run_ext _ _ _ (fun j j1 j2 => by
                      obtain ⟨y1, y2⟩ := f4 j (by omega)
                      obtain ⟨y3, y4⟩ := l15 j (by omega)
                      exact ⟨y1.trans y3, y2.trans y4⟩)
                  have x2 : run σ (s_Formulas_put F2 34 0) (b5 - b4) b3 (u :: l) = v :: u :: l := by
                    rw [← v2 (u :: l), show b3 = b4 by omega]
                    exact run_ext _ _ _ (fun j j1 j2 => f4 j (by omega))
                  have x3 : run σ (s_Formulas_put F2 34 0) 1 b5 (v :: u :: l) = iMax u v :: l := by
                    rw [show b5 = b6 by omega, run1 f2 f3]
                    rfl
                  rw [show c - a = (b3 - b2) + ((b5 - b4) + 1) by omega, run_add, x1, show a + (b3 - b2) = b3 by omega, run_add, x2, show b3 + (b5 - b4) = b5 by omega, x3]
                · unfold ND at hfe
                  obtain ⟨k, rfl⟩ := Nat.exists_eq_succ_of_ne_zero (show fe ≠ 0 by omega)
                  rw [ev5]
                  unfold s_Model_value
                  rw [if_pos (show okI (mo_wk (mo_wk' M' (nI t))) 401 = true from ok_nI (by omega) (by omega)), show (mo_wk (mo_wk' M' (nI t))).toNatClampNeg = t from nI_clamp (by omega), hF.1, (hX.2.2 t ht).2.1, hg, if_neg (show ¬ kOf (34 : Fin 54) = 2 by decide), if_neg (show ¬ kOf (34 : Fin 54) = 8 by decide), if_neg (show ¬ kOf (34 : Fin 54) = 13 by decide), if_neg (show ¬ kOf (34 : Fin 54) = 14 by decide), if_neg (show ¬ kOf (34 : Fin 54) = 23 by decide), if_neg (show ¬ kOf (34 : Fin 54) = 24 by decide), if_neg (show ¬ kOf (34 : Fin 54) = 25 by decide), if_neg (show ¬ kOf (34 : Fin 54) = 26 by decide), if_neg (show ¬ kOf (34 : Fin 54) = 37 by decide), if_neg (show ¬ kOf (34 : Fin 54) = 40 by decide), if_neg (show ¬ kOf (34 : Fin 54) = 47 by decide), wk_1, show mo_wk' (mo_wk' M' (nI (t + 1))) (mo_wk (mo_wk' M' (nI t)) + 1 + 1) = mo_wk' M' (nI (t + 1 + 1)) by rw [show mo_wk (mo_wk' M' (nI t)) + 1 + 1 = nI (t + 1 + 1) by rw [← nI_1, ← nI_1]], u3 k M' (by unfold ND; omega)]
                  simp only [Option.bind_some]
                  rw [wk_1, v3 k M' (by unfold ND; omega)]
                  simp only [Option.bind_some]
                  rw [if_neg (show ¬ kOf (34 : Fin 54) = 33 by decide), wk_1]
            · rw [if_neg h36, if_neg h36]
              simp only [Option.bind_some, if00, if_true]
              exact ⟨false, t2, _, E2, x + 1, rfl, rfl, by omega, w4, fun w => by cases w⟩
        · rw [if_neg h40, if_neg h40]
          simp only [Option.bind_some, if00, if_true]
          obtain ⟨F2, E2, b1⟩ := hb t1 F1 E1 r4
          rw [b1]
          refine ⟨false, t1, s_Formulas_put F2 34 0, E2, x + 1, ?_, rfl, by omega, r4, fun w => by cases w⟩
          show (s_Tokens_expect (tB K t1) 36, _, _) = _
          rw [exp_B hX (by decide) r4]
          rfl
    · rw [if_neg h8, if_neg (show ¬ ((gk K (t + 1)).val = 35 ∧ x < 8) from fun w => h8 w.2)]
      simp only [Option.bind_some, if00, if_true]
      exact ⟨false, t + 1, F, E, x, rfl, rfl, by omega, by omega, fun w => by cases w⟩
  · rw [if_neg h35, if_neg (show ¬ ((gk K (t + 1)).val = 35 ∧ x < 8) from fun w => h35 w.1), brk_A]
    simp only [Option.bind_some, if00, if_true]
    exact ⟨false, t + 1, F, E, x, rfl, rfl, by omega, by omega, fun w => by cases w⟩
