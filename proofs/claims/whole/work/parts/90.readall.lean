/-! single tests -/
theorem by_S {K : TK} {H Hs : SH} {n t y : Nat} {M : MO} {k : Int32} (hX : LX K H n) (ht : t ≤ n) (hk : sh_kd Hs = sh_kd H) (hy : y < 54) (hx : k = kOf ⟨y, hy⟩) : s_Model_goesBy Hs k (mo_wk' M (nI t)) = some (if (gk K t).val = y then (1, mo_wk' M (nI (t + 1))) else (0, mo_wk' M (nI t))) := by
  have h400 := hX.1
  unfold s_Model_goesBy
  rw [if_pos (show okI (mo_wk (mo_wk' M (nI t))) 401 = true from ok_nI (by omega) (by omega)), show (mo_wk (mo_wk' M (nI t))).toNatClampNeg = t from nI_clamp (by omega), hk, (hX.2.2 t ht).2.1, hx, wk_1]
  by_cases e : (gk K t).val = y
  · rw [if_pos e, if_pos ((kOf_iff _ _).mpr (Fin.ext e))]
  · rw [if_neg e, if_neg (fun w => e (congrArg Fin.val ((kOf_iff _ _).mp w)))]
theorem not_v {v : Int32} (h : v = 0 ∨ v = 1) : (if v = 0 then (1 : Int32) else 0) = 1 - v := by
  rcases h with rfl | rfl <;> decide
theorem cmp_v {g : Fin 54} (h : 45 ≤ g.val ∧ g.val ≤ 49) (u v : Int32) : s_Formulas_joined g u v = (if u = v then (if kOf g = 52 then 1 else (if kOf g < 53 then 0 else 1)) else (if v ≤ u then (if kOf g = 51 then 1 else (if kOf g = 54 then 1 else 0)) else (if kOf g = 50 then 1 else (if kOf g = 53 then 1 else 0)))) ∧ (s_Formulas_joined g u v = 0 ∨ s_Formulas_joined g u v = 1) := by
  have tri : u = v ∨ (¬ u = v ∧ v ≤ u ∧ ¬ u ≤ v) ∨ (¬ u = v ∧ ¬ v ≤ u ∧ u ≤ v) := by
    rw [Int32.le_iff_toInt_le, Int32.le_iff_toInt_le, ← Int32.toInt_inj]
    omega
  have lt1 : ¬ v < u ↔ u ≤ v := j_nlt
  have lt2 : ¬ u < v ↔ v ≤ u := j_nlt
  have hg : g = 45 ∨ g = 46 ∨ g = 47 ∨ g = 48 ∨ g = 49 := by
    rcases (show g.val = 45 ∨ g.val = 46 ∨ g.val = 47 ∨ g.val = 48 ∨ g.val = 49 by omega) with e | e | e | e | e
    · exact .inl (Fin.ext e)
    · exact .inr (.inl (Fin.ext e))
    · exact .inr (.inr (.inl (Fin.ext e)))
    · exact .inr (.inr (.inr (.inl (Fin.ext e))))
    · exact .inr (.inr (.inr (.inr (Fin.ext e))))
  have j45 : s_Formulas_joined 45 u v = if v ≤ u then 0 else 1 := rfl
  have j46 : s_Formulas_joined 46 u v = if u ≤ v then 0 else 1 := rfl
  have j47 : s_Formulas_joined 47 u v = if u = v then 1 else 0 := rfl
  have j48 : s_Formulas_joined 48 u v = if v < u then 0 else 1 := rfl
  have j49 : s_Formulas_joined 49 u v = if u < v then 0 else 1 := rfl
  rcases hg with rfl | rfl | rfl | rfl | rfl
  · rw [j45]
    rcases tri with rfl | ⟨a, b, c⟩ | ⟨a, b, c⟩
    · rw [if_pos (Int32.le_refl _), if_pos rfl]; decide
    · rw [if_pos b, if_neg a, if_pos b]; decide
    · rw [if_neg b, if_neg a, if_neg b]; decide
  · rw [j46]
    rcases tri with rfl | ⟨a, b, c⟩ | ⟨a, b, c⟩
    · rw [if_pos (Int32.le_refl _), if_pos rfl]; decide
    · rw [if_neg c, if_neg a, if_pos b]; decide
    · rw [if_pos c, if_neg a, if_neg b]; decide
  · rw [j47]
    rcases tri with rfl | ⟨a, b, c⟩ | ⟨a, b, c⟩
    · rw [if_pos rfl, if_pos rfl]; decide
    · rw [if_neg a, if_neg a, if_pos b]; decide
    · rw [if_neg a, if_neg a, if_neg b]; decide
  · rw [j48]
    rcases tri with rfl | ⟨a, b, c⟩ | ⟨a, b, c⟩
    · rw [if_neg (lt1.mpr (Int32.le_refl _)), if_pos rfl]; decide
    · rw [if_pos (j_nle.mp c), if_neg a, if_pos b]; decide
    · rw [if_neg (lt1.mpr c), if_neg a, if_neg b]; decide
  · rw [j49]
    rcases tri with rfl | ⟨a, b, c⟩ | ⟨a, b, c⟩
    · rw [if_neg (lt2.mpr (Int32.le_refl _)), if_pos rfl]; decide
    · rw [if_neg (lt2.mpr b), if_neg a, if_pos b]; decide
    · rw [if_pos (j_nle.mp b), if_neg a, if_neg b]; decide
theorem isC_v (g : Fin 54) : s_Teacher_isComparison g = if 45 ≤ g.val ∧ g.val ≤ 49 then 1 else 0 := by
  revert g
  decide +kernel
theorem known_min {σ : GL} {r : Int32} {z : Nat} {v : Int32} (e : gG σ 2 r 2 = v) (z1 : v = nI z) (z2 : z ≤ 3) : (if (nI 2 : Int32) = 2 then iMin 1 (gG σ 2 r 2) else gG σ 2 r 2) = (if v ≤ 0 then 0 else 1) := by
  rw [if_pos (show (nI 2 : Int32) = 2 from rfl), e, z1]
  match z, z2 with
  | 0, _ => decide
  | 1, _ => decide
  | 2, _ => decide
  | 3, _ => decide
  | _ + 4, w => exact absurd w (by omega)
theorem sng_not {K : TK} {H : SH} {n : Nat} {M : MO} {N : Nat → NM} {x t : Nat} {F : FM} {E : TE} {M1 : MO} {rec : Nat → Nat → Fin 54 → RS → RS} {rm : EV} (hX : LX K H n) (ht : t ≤ n) (hx : x ≤ 8) (h2 : x < 8 → ∀ t F E M1, t ≤ n → RDN K H n M N 2 (x + 1) t F E M1 (rec 2 (x + 1) 0 (tA K t, F, E)) (rm 2 (mS M1 t (x + 1)))) (hg : gk K t = 30) : RDN K H n M N 2 x t F E M1 (s_Teacher_readSingle (tA K t) F E (N 0) (N 1) (N 2) (N 3) (N 4) rec x) (s_Model_isSingle H rm (mS M1 t x)) := by
  have h400 := hX.1
  have htn : t < n := (hX.2.2 t ht).2.2.2.2.mpr (by rw [hg]; decide)
  have hv : (gk K t).val = 30 := by rw [hg]; rfl
  have kdv : sh_kd H (mo_tk (mS M1 t x)) = 30 := by
    show sh_kd H t = _
    rw [(hX.2.2 t ht).2.1, hg]
    rfl
  have hc : s_Teacher_readSingle (tA K t) F E (N 0) (N 1) (N 2) (N 3) (N 4) rec x = (if (s_Teacher_goesDeeper (tA K t) E x).1 = 0 then ((s_Teacher_goesDeeper (tA K t) E x).2, F, E) else ((rec 2 (x + 1) 0 ((s_Teacher_goesDeeper (tA K t) E x).2, F, E)).1, (s_Formulas_put (rec 2 (x + 1) 0 ((s_Teacher_goesDeeper (tA K t) E x).2, F, E)).2.1 30 0), (rec 2 (x + 1) 0 ((s_Teacher_goesDeeper (tA K t) E x).2, F, E)).2.2)) := by
    unfold s_Teacher_readSingle
    rw [show s_Tokens_sign (tA K t) = 30 from hg, if_pos (show (30 : Fin 54).val = 30 from rfl)]
  have hm : s_Model_isSingle H rm (mS M1 t x) = ((s_Model_goDown H 30 (mS M1 t x)).bind fun p18_22 => (if p18_22.1 = 0 then some (0, p18_22.2) else ((rm 2 p18_22.2).bind fun p26_24 => (if p26_24.1 = 0 then some (0, p26_24.2) else (if 1 ≤ (mo_dp p26_24.2) then some (1, (mo_dp' p26_24.2 ((mo_dp p26_24.2) - 1))) else none))))) := by
    unfold s_Model_isSingle
    rw [if_pos (show mo_tk (mS M1 t x) < 401 by show t < 401; omega), if_pos kdv]
  rw [hc, hm, deep_A hX htn hx, downN hX ht hx (y := 30) (x := 30) (by decide) rfl]
  by_cases h8 : x < 8
  · rw [if_pos h8, if_pos (show (gk K t).val = 30 ∧ x < 8 from ⟨hv, h8⟩)]
    simp only [Option.bind_some, if10, if_true]
    obtain ⟨ok1, t1, F1, E1, d1, r1, r2, r3, r4, r5⟩ := h2 h8 (t + 1) F E M1 (by omega)
    rw [r1, r2]
    cases ok1 with
    | false => exact ⟨false, t1, _, E1, d1, rfl, rfl, by omega, r4, fun w => by cases w⟩
    | true =>
      obtain ⟨s1, s2, s3, s4⟩ := r5 rfl
      subst s1
      refine ⟨true, t1, _, E1, x, rfl, ?_, by omega, r4, fun _ => ⟨rfl, by omega, s3, fun h1 hp => ?_⟩⟩
      · show (if 1 ≤ x + 1 then some ((1 : Int32), mS M1 t1 (x + 1 - 1)) else none) = _
        rw [if_pos (by omega)]
        rfl
      · have q1 := sem_neu (M := M) (N := N) (F := F) (E := E) hX htn h1 (fun w => hp.2.2.2.2.2.2.2.2 ((kOf_iff _ 39).mpr (Fin.ext w))) (by rw [hg]; decide)
        have q2 := s4 (by omega) (by rw [Nat.add_sub_cancel, hg]; decide)
        refine ((q1.seq q2 (by omega) (by omega)).put (g := 30) (o := 0) (by omega) (fun H2 a b hq => by
          obtain ⟨b0, Hm, a1, a2, e00, ⟨a4, a4b, -⟩, -⟩ := hq
          omega)).mono ?_
        rintro H2 a c hac ⟨b, ec, ⟨b0, Hm, a1, a2, e0, ⟨v1, v2, v3⟩, e1, e2, e3, e4, e5⟩, f1, f2, f3, f4⟩
        refine ⟨by omega, by omega, fun Hs hF σ Y g1 g2 g3 => ?_⟩
        have hF1 : FIN H H2 Hs (t + 1) t1 := ⟨hF.1, fun j j1 j2 => hF.2.1 j (by omega) j2, hF.2.2.1, hF.2.2.2⟩
        obtain ⟨v, u1, u2, u3⟩ := v3 Hs hF1 σ Y g1 g2 g3
        have h01 := u1 (by decide)
        refine ⟨1 - v, fun w => by rcases h01 with rfl | rfl <;> decide, fun l => ?_, fun fe M' hfe => ?_⟩
        · have x2 : run σ (s_Formulas_put F1 30 0) (b - b0) a l = v :: l := by
            rw [← u2 l, show a = b0 by omega]
            exact run_ext _ _ _ (fun j j1 j2 => f4 j (by omega))
          have x3 : run σ (s_Formulas_put F1 30 0) 1 b (v :: l) = (1 - v) :: l := by
            rw [run1 f2 f3]
            rfl
          rw [show c - a = (b - b0) + 1 by omega, run_add, x2, show a + (b - b0) = b by omega, x3]
        · unfold ND at hfe
          obtain ⟨k, rfl⟩ := Nat.exists_eq_succ_of_ne_zero (show fe ≠ 0 by omega)
          rw [ev2]
          unfold s_Model_single
          rw [by_S hX ht hF.1 (y := 30) (k := 30) (by decide) rfl, if_pos hv]
          simp only [Option.bind_some, if10]
          rw [u3 k M' (by unfold ND; omega)]
          simp only [Option.bind_some]
          rw [← not_v h01]
          by_cases hz : v = 0
          · rw [if_pos hz, if_pos hz]
          · rw [if_neg hz, if_neg hz]
  · rw [if_neg h8, if_neg (show ¬ ((gk K t).val = 30 ∧ x < 8) from fun w => h8 w.2)]
    simp only [Option.bind_some, if00, if_true]
    exact ⟨false, t, F, E, x, rfl, rfl, by omega, ht, fun w => by cases w⟩
theorem sng_open {K : TK} {H : SH} {n : Nat} {M : MO} {N : Nat → NM} {x t : Nat} {F : FM} {E : TE} {M1 : MO} {rec : Nat → Nat → Fin 54 → RS → RS} {rm : EV} (hX : LX K H n) (ht : t ≤ n) (hx : x ≤ 8) (h0 : x < 8 → ∀ t F E M1, t ≤ n → RDN K H n M N 0 (x + 1) t F E M1 (rec 0 (x + 1) 0 (tA K t, F, E)) (rm 0 (mS M1 t (x + 1)))) (hg : gk K t = 37) : RDN K H n M N 2 x t F E M1 (s_Teacher_readSingle (tA K t) F E (N 0) (N 1) (N 2) (N 3) (N 4) rec x) (s_Model_isSingle H rm (mS M1 t x)) := by
  have h400 := hX.1
  have htn : t < n := (hX.2.2 t ht).2.2.2.2.mpr (by rw [hg]; decide)
  have hv : (gk K t).val = 37 := by rw [hg]; rfl
  have kdv : sh_kd H (mo_tk (mS M1 t x)) = 42 := by
    show sh_kd H t = _
    rw [(hX.2.2 t ht).2.1, hg]
    rfl
  have hc : s_Teacher_readSingle (tA K t) F E (N 0) (N 1) (N 2) (N 3) (N 4) rec x = (if (s_Teacher_goesDeeper (tA K t) E x).1 = 0 then ((s_Teacher_goesDeeper (tA K t) E x).2, F, E) else ((s_Tokens_expect (rec 0 (x + 1) 0 ((s_Teacher_goesDeeper (tA K t) E x).2, F, E)).1 (38 : Fin 54)), (rec 0 (x + 1) 0 ((s_Teacher_goesDeeper (tA K t) E x).2, F, E)).2.1, (rec 0 (x + 1) 0 ((s_Teacher_goesDeeper (tA K t) E x).2, F, E)).2.2)) := by
    unfold s_Teacher_readSingle
    rw [show s_Tokens_sign (tA K t) = 37 from hg, if_neg (show ¬ (37 : Fin 54).val = 30 by decide), if_pos (show (37 : Fin 54).val = 37 from rfl)]
  have hm : s_Model_isSingle H rm (mS M1 t x) = ((s_Model_goDown H 42 (mS M1 t x)).bind fun p64_15 => (if p64_15.1 = 0 then some (0, p64_15.2) else ((rm 0 p64_15.2).bind fun p72_17 => (if p72_17.1 = 0 then some (0, p72_17.2) else ((s_Model_eat_0 H 43 p72_17.2).bind fun p82_19 => (if p82_19.1 = 0 then some (0, p82_19.2) else (if 1 ≤ (mo_dp p82_19.2) then some (1, (mo_dp' p82_19.2 ((mo_dp p82_19.2) - 1))) else none))))))) := by
    unfold s_Model_isSingle
    simp only [if_pos (show mo_tk (mS M1 t x) < 401 by show t < 401; omega), kdv, if_neg (show ¬ (42 : Int32) = 30 by decide), if_true]
  rw [hc, hm, deep_A hX htn hx, downN hX ht hx (y := 37) (x := 42) (by decide) rfl]
  by_cases h8 : x < 8
  · rw [if_pos h8, if_pos (show (gk K t).val = 37 ∧ x < 8 from ⟨hv, h8⟩)]
    simp only [Option.bind_some, if10, if_true]
    obtain ⟨ok1, t1, F1, E1, d1, r1, r2, r3, r4, r5⟩ := h0 h8 (t + 1) F E M1 (by omega)
    rw [r1, r2]
    cases ok1 with
    | false =>
      refine ⟨false, t1, F1, E1, d1, ?_, rfl, by omega, r4, fun w => by cases w⟩
      show (s_Tokens_expect (tB K t1) 38, F1, E1) = (tB K t1, F1, E1)
      rw [exp_B hX (by decide) r4]
    | true =>
      obtain ⟨s1, s2, s3, s4⟩ := r5 rfl
      subst s1
      simp only [Option.bind_some, if10, if_true]
      rw [exp_A hX (by decide) r4, eatN hX r4 (y := 38) (x := 43) (by decide) rfl]
      show RDN K H n M N 2 x t F E M1 (if (gk K t1).val = 38 then tA K (t1 + 1) else tB K t1, F1, E1) _
      by_cases h36 : (gk K t1).val = 38
      · have ht1 : t1 < n := (hX.2.2 t1 r4).2.2.2.2.mpr (by omega)
        rw [if_pos h36, if_pos h36]
        simp only [Option.bind_some, if10, if_true]
        refine ⟨true, t1 + 1, F1, E1, x, rfl, ?_, by omega, by omega, fun _ => ⟨rfl, by omega, by rw [Nat.add_sub_cancel, h36]; decide, fun h1 hp => ?_⟩⟩
        · show (if 1 ≤ x + 1 then some ((1 : Int32), mS M1 (t1 + 1) (x + 1 - 1)) else none) = _
          rw [if_pos (by omega)]
          rfl
        · have q1 := sem_neu (M := M) (N := N) (F := F) (E := E) hX htn h1 (fun w => hp.2.2.2.2.2.2.2.2 ((kOf_iff _ 39).mpr (Fin.ext w))) (by rw [hg]; decide)
          have q2 := s4 (by omega) (by rw [Nat.add_sub_cancel, hg]; decide)
          have q3 := sem_neu (M := M) (N := N) (F := F1) (E := E1) hX ht1 (by omega) s3 (by rw [show gk K t1 = 38 from Fin.ext h36]; decide)
          refine ((q1.seq q2 (by omega) (by omega)).seq q3 (by omega) (by omega)).mono ?_
          rintro H2 a c hac ⟨b, Hm, a1, a2, ⟨b0, H0, a3, a4, rfl, ⟨v1, v2, v3⟩, e1, e2, e3, e4, e5⟩, rfl, f1, f2, f3, f4, f5⟩
          refine ⟨by omega, by omega, fun Hs hF σ Y g1 g2 g3 => ?_⟩
          have hF1 : FIN H Hm Hs (t + 1) t1 := ⟨hF.1, fun j j1 j2 => (hF.2.1 j (by omega) (by omega)).trans (f3 j (by omega)), fun s => by rw [← f4]; exact hF.2.2.1 s, hF.2.2.2⟩
          obtain ⟨v, u1, u2, u3⟩ := v3 Hs hF1 σ Y g1 g2 g3
          refine ⟨v, fun _ => u1 (by decide), u2, fun fe M' hfe => ?_⟩
          unfold ND at hfe
          obtain ⟨k, rfl⟩ := Nat.exists_eq_succ_of_ne_zero (show fe ≠ 0 by omega)
          rw [ev2]
          unfold s_Model_single
          rw [by_S hX ht hF.1 (y := 30) (k := 30) (by decide) rfl, if_neg (show ¬ (gk K t).val = 30 by omega)]
          simp only [Option.bind_some, if00, if_true]
          rw [by_S hX ht hF.1 (y := 37) (k := 42) (by decide) rfl, if_pos hv]
          simp only [Option.bind_some, if10]
          rw [u3 k M' (by unfold ND; omega)]
          simp only [Option.bind_some]
          rw [if_pos (b01_of (u1 (by decide))), wk_1]
      · rw [if_neg h36, if_neg h36]
        simp only [Option.bind_some, if00, if_true]
        exact ⟨false, t1, F1, E1, x + 1, rfl, rfl, by omega, r4, fun w => by cases w⟩
  · rw [if_neg h8, if_neg (show ¬ ((gk K t).val = 37 ∧ x < 8) from fun w => h8 w.2)]
    simp only [Option.bind_some, if00, if_true]
    exact ⟨false, t, F, E, x, rfl, rfl, by omega, ht, fun w => by cases w⟩
theorem sng_standing {K : TK} {H : SH} {n : Nat} {M : MO} {N : Nat → NM} {x t : Nat} {F : FM} {E : TE} {M1 : MO} {rec : Nat → Nat → Fin 54 → RS → RS} {rm : EV} (hX : LX K H n) (ht : t ≤ n) (hx : x ≤ 8) (hW : LW (mo_tk' M n) K (sh_fr H) (sh_mn H) n) (hg : gk K t = 27) : RDN K H n M N 2 x t F E M1 (s_Teacher_readSingle (tA K t) F E (N 0) (N 1) (N 2) (N 3) (N 4) rec x) (s_Model_isSingle H rm (mS M1 t x)) := by
  have h400 := hX.1
  have htn : t < n := (hX.2.2 t ht).2.2.2.2.mpr (by rw [hg]; decide)
  have hv : (gk K t).val = 27 := by rw [hg]; rfl
  have kdv : sh_kd H (mo_tk (mS M1 t x)) = 27 := by
    show sh_kd H t = _
    rw [(hX.2.2 t ht).2.1, hg]
    rfl
  have hk : nmk (gk K t) 1 := by rw [hg]; decide
  have ho := old_A (N := N 1) (E := E) hX htn rfl
  by_cases hn50 : (gk K (t + 1)).val = 50
  · have ht1 : t + 1 < n := (hX.2.2 (t + 1) (by omega)).2.2.2.2.mpr (by omega)
    have h2 : (s_Teacher_oldName (tA K t) E (N 1) (gk K t)).2.1 = tA K (t + 2) := by
      rw [ho, if_pos hn50]
      split <;> rfl
    have hc : s_Teacher_readSingle (tA K t) F E (N 0) (N 1) (N 2) (N 3) (N 4) rec x = (tA K (t + 2), s_Formulas_put F 27 (s_Teacher_oldName (tA K t) E (N 1) (gk K t)).1, (s_Teacher_oldName (tA K t) E (N 1) (gk K t)).2.2) := by
      unfold s_Teacher_readSingle
      rw [← h2, hg, show s_Tokens_sign (tA K t) = 27 from hg, if_neg (show ¬ (27 : Fin 54).val = 30 by decide), if_neg (show ¬ (27 : Fin 54).val = 37 by decide), if_pos (show (27 : Fin 54).val = 27 from rfl)]
    have hm : s_Model_isSingle H rm (mS M1 t x) = some (1, mS M1 (t + 2) x) := by
      unfold s_Model_isSingle
      simp only [if_pos (show mo_tk (mS M1 t x) < 401 by show t < 401; omega), kdv, if_neg (show ¬ (27 : Int32) = 30 by decide), if_neg (show ¬ (27 : Int32) = 42 by decide)]
      rw [eatIn_S hX ht in27, if_pos (show 27 ≤ (gk K t).val ∧ (gk K t).val ≤ 29 from ⟨by omega, by omega⟩)]
      simp only [Option.bind_some, if10]
      rw [eatN hX htn (y := 50) (x := 36) (by decide) rfl]
      rw [if_pos hn50]
      rfl
    rw [hc, hm]
    refine ⟨true, t + 2, _, _, x, rfl, rfl, by omega, by omega, fun _ => ⟨rfl, by omega, by rw [show t + 2 - 1 = t + 1 by omega, hn50]; decide, fun h1 hp => ?_⟩⟩
    refine leaf (sem_name hX hW ht1 h1 (fun w => hp.2.2.2.2.2.2.2.2 ((kOf_iff _ 39).mpr (Fin.ext w))) hk hn50) (fun _ _ _ hq => hq.1) (by omega) (by omega) ?_
    rintro H2 a b ⟨-, r, r1, r2, r3⟩ Hs hF σ Y g1 g2 g3
    have hr : r < sh_ha Hs 3 := Nat.lt_of_lt_of_le r1 (hF.2.2.1 3)
    have hC := hF.2.2.2
    obtain ⟨c0, c3, c6, c9, c11, c20⟩ := hC
    have hC := hF.2.2.2
    obtain ⟨z, z1, -, z2⟩ : btw 0 (sx_sd Y r) 1 := (g2.2.1 r hr).2.1
    have h01 : sx_sd Y r = 0 ∨ sx_sd Y r = 1 := by
      match z, z2 with
      | 0, _ => exact .inl z1
      | 1, _ => exact .inr z1
      | _ + 2, w => exact absurd w (by omega)
    refine ⟨sx_sd Y r, fun _ => h01, fun l => ?_, fun fe M' hfe => ?_⟩
    · rw [r2]
      show s_Glacier_valueOf σ 27 (nI r) :: l = _
      unfold s_Glacier_valueOf
      rw [if_neg (show ¬ swf (27 : Fin 54).val = 6 by decide), if_neg (show ¬ swf (27 : Fin 54).val = 13 by decide), if_neg (show ¬ swf (27 : Fin 54).val = 14 by decide), if_neg (show ¬ swf (27 : Fin 54).val = 15 by decide), if_neg (show ¬ swf (27 : Fin 54).val = 16 by decide), if_neg (show ¬ swf (27 : Fin 54).val = 17 by decide), if_neg (show ¬ swf (27 : Fin 54).val = 18 by decide), if_neg (show ¬ swf (27 : Fin 54).val = 19 by decide), if_pos (show swf (27 : Fin 54).val = 32 by decide), g1.rb.g_1_3 hr hC]
    · obtain ⟨k, rfl, -⟩ := nd_pos (by decide) hfe
      rw [ev2]
      unfold s_Model_single
      rw [by_S hX ht hF.1 (y := 30) (k := 30) (by decide) rfl, if_neg (show ¬ (gk K t).val = 30 by omega)]
      simp only [Option.bind_some, if00, if_true]
      rw [by_S hX ht hF.1 (y := 37) (k := 42) (by decide) rfl, if_neg (show ¬ (gk K t).val = 37 by omega)]
      simp only [Option.bind_some, if00, if_true]
      rw [by_S hX ht hF.1 (y := 27) (k := 27) (by decide) rfl, if_pos hv]
      simp only [Option.bind_some, if10]
      rw [named_S (by omega)]
      simp only [Option.bind_some]
      rw [hF.2.1 (t + 1) (by omega) (by omega), r3, if_pos (ok_nI (by omega) (by omega)), nI_clamp (by omega)]
      rcases h01 with e | e
      · rw [e]; rfl
      · rw [e]; rfl
  · have h2 : (s_Teacher_oldName (tA K t) E (N 1) (gk K t)).2.1 = tB K (t + 1) := by rw [ho, if_neg hn50]
    have hc : s_Teacher_readSingle (tA K t) F E (N 0) (N 1) (N 2) (N 3) (N 4) rec x = (tB K (t + 1), s_Formulas_put F 27 (s_Teacher_oldName (tA K t) E (N 1) (gk K t)).1, (s_Teacher_oldName (tA K t) E (N 1) (gk K t)).2.2) := by
      unfold s_Teacher_readSingle
      rw [← h2, hg, show s_Tokens_sign (tA K t) = 27 from hg, if_neg (show ¬ (27 : Fin 54).val = 30 by decide), if_neg (show ¬ (27 : Fin 54).val = 37 by decide), if_pos (show (27 : Fin 54).val = 27 from rfl)]
    have hm : s_Model_isSingle H rm (mS M1 t x) = some (0, mS M1 (t + 1) x) := by
      unfold s_Model_isSingle
      simp only [if_pos (show mo_tk (mS M1 t x) < 401 by show t < 401; omega), kdv, if_neg (show ¬ (27 : Int32) = 30 by decide), if_neg (show ¬ (27 : Int32) = 42 by decide)]
      rw [eatIn_S hX ht in27, if_pos (show 27 ≤ (gk K t).val ∧ (gk K t).val ≤ 29 from ⟨by omega, by omega⟩)]
      simp only [Option.bind_some, if10]
      rw [eatN hX htn (y := 50) (x := 36) (by decide) rfl]
      rw [if_neg hn50]
      rfl
    rw [hc, hm]
    exact ⟨false, t + 1, _, _, x, rfl, rfl, by omega, by omega, fun w => by cases w⟩
theorem sng_here {K : TK} {H : SH} {n : Nat} {M : MO} {N : Nat → NM} {x t : Nat} {F : FM} {E : TE} {M1 : MO} {rec : Nat → Nat → Fin 54 → RS → RS} {rm : EV} (hX : LX K H n) (ht : t ≤ n) (hx : x ≤ 8) (hW : LW (mo_tk' M n) K (sh_fr H) (sh_mn H) n) (hg : gk K t = 28) : RDN K H n M N 2 x t F E M1 (s_Teacher_readSingle (tA K t) F E (N 0) (N 1) (N 2) (N 3) (N 4) rec x) (s_Model_isSingle H rm (mS M1 t x)) := by
  have h400 := hX.1
  have htn : t < n := (hX.2.2 t ht).2.2.2.2.mpr (by rw [hg]; decide)
  have hv : (gk K t).val = 28 := by rw [hg]; rfl
  have kdv : sh_kd H (mo_tk (mS M1 t x)) = 28 := by
    show sh_kd H t = _
    rw [(hX.2.2 t ht).2.1, hg]
    rfl
  have hk : nmk (gk K t) 4 := by rw [hg]; decide
  have ho := old_A (N := N 4) (E := E) hX htn rfl
  by_cases hn50 : (gk K (t + 1)).val = 50
  · have ht1 : t + 1 < n := (hX.2.2 (t + 1) (by omega)).2.2.2.2.mpr (by omega)
    have h2 : (s_Teacher_oldName (tA K t) E (N 4) (gk K t)).2.1 = tA K (t + 2) := by
      rw [ho, if_pos hn50]
      split <;> rfl
    have hc : s_Teacher_readSingle (tA K t) F E (N 0) (N 1) (N 2) (N 3) (N 4) rec x = (tA K (t + 2), s_Formulas_put F 28 (s_Teacher_oldName (tA K t) E (N 4) (gk K t)).1, (s_Teacher_oldName (tA K t) E (N 4) (gk K t)).2.2) := by
      unfold s_Teacher_readSingle
      rw [← h2, hg, show s_Tokens_sign (tA K t) = 28 from hg, if_neg (show ¬ (28 : Fin 54).val = 30 by decide), if_neg (show ¬ (28 : Fin 54).val = 37 by decide), if_neg (show ¬ (28 : Fin 54).val = 27 by decide), if_pos (show (28 : Fin 54).val = 28 from rfl)]
    have hm : s_Model_isSingle H rm (mS M1 t x) = some (1, mS M1 (t + 2) x) := by
      unfold s_Model_isSingle
      simp only [if_pos (show mo_tk (mS M1 t x) < 401 by show t < 401; omega), kdv, if_neg (show ¬ (28 : Int32) = 30 by decide), if_neg (show ¬ (28 : Int32) = 42 by decide)]
      rw [eatIn_S hX ht in27, if_pos (show 27 ≤ (gk K t).val ∧ (gk K t).val ≤ 29 from ⟨by omega, by omega⟩)]
      simp only [Option.bind_some, if10]
      rw [eatN hX htn (y := 50) (x := 36) (by decide) rfl]
      rw [if_pos hn50]
      rfl
    rw [hc, hm]
    refine ⟨true, t + 2, _, _, x, rfl, rfl, by omega, by omega, fun _ => ⟨rfl, by omega, by rw [show t + 2 - 1 = t + 1 by omega, hn50]; decide, fun h1 hp => ?_⟩⟩
    refine leaf (sem_name hX hW ht1 h1 (fun w => hp.2.2.2.2.2.2.2.2 ((kOf_iff _ 39).mpr (Fin.ext w))) hk hn50) (fun _ _ _ hq => hq.1) (by omega) (by omega) ?_
    rintro H2 a b ⟨-, r, r1, r2, r3⟩ Hs hF σ Y g1 g2 g3
    have hr : r < sh_ha Hs 11 := Nat.lt_of_lt_of_le r1 (hF.2.2.1 11)
    have hC := hF.2.2.2
    obtain ⟨c0, c3, c6, c9, c11, c20⟩ := hC
    have hC := hF.2.2.2
    obtain ⟨z, z1, -, z2⟩ : btw 0 (sx_he Y r) 1 := (g2.2.2.2.2 r hr).2.2.2.1
    have h01 : sx_he Y r = 0 ∨ sx_he Y r = 1 := by
      match z, z2 with
      | 0, _ => exact .inl z1
      | 1, _ => exact .inr z1
      | _ + 2, w => exact absurd w (by omega)
    refine ⟨sx_he Y r, fun _ => h01, fun l => ?_, fun fe M' hfe => ?_⟩
    · rw [r2]
      show s_Glacier_valueOf σ 28 (nI r) :: l = _
      unfold s_Glacier_valueOf
      rw [if_neg (show ¬ swf (28 : Fin 54).val = 6 by decide), if_neg (show ¬ swf (28 : Fin 54).val = 13 by decide), if_neg (show ¬ swf (28 : Fin 54).val = 14 by decide), if_neg (show ¬ swf (28 : Fin 54).val = 15 by decide), if_neg (show ¬ swf (28 : Fin 54).val = 16 by decide), if_neg (show ¬ swf (28 : Fin 54).val = 17 by decide), if_neg (show ¬ swf (28 : Fin 54).val = 18 by decide), if_neg (show ¬ swf (28 : Fin 54).val = 19 by decide), if_neg (show ¬ swf (28 : Fin 54).val = 32 by decide), if_pos (show swf (28 : Fin 54).val = 33 by decide), g1.rb.g_4_4 hr hC]
    · obtain ⟨k, rfl, -⟩ := nd_pos (by decide) hfe
      rw [ev2]
      unfold s_Model_single
      rw [by_S hX ht hF.1 (y := 30) (k := 30) (by decide) rfl, if_neg (show ¬ (gk K t).val = 30 by omega)]
      simp only [Option.bind_some, if00, if_true]
      rw [by_S hX ht hF.1 (y := 37) (k := 42) (by decide) rfl, if_neg (show ¬ (gk K t).val = 37 by omega)]
      simp only [Option.bind_some, if00, if_true]
      rw [by_S hX ht hF.1 (y := 27) (k := 27) (by decide) rfl, if_neg (show ¬ (gk K t).val = 27 by omega)]
      simp only [Option.bind_some, if00, if_true]
      rw [by_S hX ht hF.1 (y := 28) (k := 28) (by decide) rfl, if_pos hv]
      simp only [Option.bind_some, if10]
      rw [named_S (by omega)]
      simp only [Option.bind_some]
      rw [hF.2.1 (t + 1) (by omega) (by omega), r3, if_pos (ok_nI (by omega) (by omega)), nI_clamp (by omega)]
      rcases h01 with e | e
      · rw [e]; rfl
      · rw [e]; rfl
  · have h2 : (s_Teacher_oldName (tA K t) E (N 4) (gk K t)).2.1 = tB K (t + 1) := by rw [ho, if_neg hn50]
    have hc : s_Teacher_readSingle (tA K t) F E (N 0) (N 1) (N 2) (N 3) (N 4) rec x = (tB K (t + 1), s_Formulas_put F 28 (s_Teacher_oldName (tA K t) E (N 4) (gk K t)).1, (s_Teacher_oldName (tA K t) E (N 4) (gk K t)).2.2) := by
      unfold s_Teacher_readSingle
      rw [← h2, hg, show s_Tokens_sign (tA K t) = 28 from hg, if_neg (show ¬ (28 : Fin 54).val = 30 by decide), if_neg (show ¬ (28 : Fin 54).val = 37 by decide), if_neg (show ¬ (28 : Fin 54).val = 27 by decide), if_pos (show (28 : Fin 54).val = 28 from rfl)]
    have hm : s_Model_isSingle H rm (mS M1 t x) = some (0, mS M1 (t + 1) x) := by
      unfold s_Model_isSingle
      simp only [if_pos (show mo_tk (mS M1 t x) < 401 by show t < 401; omega), kdv, if_neg (show ¬ (28 : Int32) = 30 by decide), if_neg (show ¬ (28 : Int32) = 42 by decide)]
      rw [eatIn_S hX ht in27, if_pos (show 27 ≤ (gk K t).val ∧ (gk K t).val ≤ 29 from ⟨by omega, by omega⟩)]
      simp only [Option.bind_some, if10]
      rw [eatN hX htn (y := 50) (x := 36) (by decide) rfl]
      rw [if_neg hn50]
      rfl
    rw [hc, hm]
    exact ⟨false, t + 1, _, _, x, rfl, rfl, by omega, by omega, fun w => by cases w⟩
theorem sng_known {K : TK} {H : SH} {n : Nat} {M : MO} {N : Nat → NM} {x t : Nat} {F : FM} {E : TE} {M1 : MO} {rec : Nat → Nat → Fin 54 → RS → RS} {rm : EV} (hX : LX K H n) (ht : t ≤ n) (hx : x ≤ 8) (hW : LW (mo_tk' M n) K (sh_fr H) (sh_mn H) n) (hg : gk K t = 29) : RDN K H n M N 2 x t F E M1 (s_Teacher_readSingle (tA K t) F E (N 0) (N 1) (N 2) (N 3) (N 4) rec x) (s_Model_isSingle H rm (mS M1 t x)) := by
  have h400 := hX.1
  have htn : t < n := (hX.2.2 t ht).2.2.2.2.mpr (by rw [hg]; decide)
  have hv : (gk K t).val = 29 := by rw [hg]; rfl
  have kdv : sh_kd H (mo_tk (mS M1 t x)) = 29 := by
    show sh_kd H t = _
    rw [(hX.2.2 t ht).2.1, hg]
    rfl
  have hk : nmk (gk K t) 2 := by rw [hg]; decide
  have ho := old_A (N := N 2) (E := E) hX htn rfl
  by_cases hn50 : (gk K (t + 1)).val = 50
  · have ht1 : t + 1 < n := (hX.2.2 (t + 1) (by omega)).2.2.2.2.mpr (by omega)
    have h2 : (s_Teacher_oldName (tA K t) E (N 2) (gk K t)).2.1 = tA K (t + 2) := by
      rw [ho, if_pos hn50]
      split <;> rfl
    have hc : s_Teacher_readSingle (tA K t) F E (N 0) (N 1) (N 2) (N 3) (N 4) rec x = (tA K (t + 2), s_Formulas_put F 29 (s_Teacher_oldName (tA K t) E (N 2) (gk K t)).1, (s_Teacher_oldName (tA K t) E (N 2) (gk K t)).2.2) := by
      unfold s_Teacher_readSingle
      rw [← h2, hg, show s_Tokens_sign (tA K t) = 29 from hg, if_neg (show ¬ (29 : Fin 54).val = 30 by decide), if_neg (show ¬ (29 : Fin 54).val = 37 by decide), if_neg (show ¬ (29 : Fin 54).val = 27 by decide), if_neg (show ¬ (29 : Fin 54).val = 28 by decide), if_pos (show (29 : Fin 54).val = 29 from rfl)]
    have hm : s_Model_isSingle H rm (mS M1 t x) = some (1, mS M1 (t + 2) x) := by
      unfold s_Model_isSingle
      simp only [if_pos (show mo_tk (mS M1 t x) < 401 by show t < 401; omega), kdv, if_neg (show ¬ (29 : Int32) = 30 by decide), if_neg (show ¬ (29 : Int32) = 42 by decide)]
      rw [eatIn_S hX ht in27, if_pos (show 27 ≤ (gk K t).val ∧ (gk K t).val ≤ 29 from ⟨by omega, by omega⟩)]
      simp only [Option.bind_some, if10]
      rw [eatN hX htn (y := 50) (x := 36) (by decide) rfl]
      rw [if_pos hn50]
      rfl
    rw [hc, hm]
    refine ⟨true, t + 2, _, _, x, rfl, rfl, by omega, by omega, fun _ => ⟨rfl, by omega, by rw [show t + 2 - 1 = t + 1 by omega, hn50]; decide, fun h1 hp => ?_⟩⟩
    refine leaf (sem_name hX hW ht1 h1 (fun w => hp.2.2.2.2.2.2.2.2 ((kOf_iff _ 39).mpr (Fin.ext w))) hk hn50) (fun _ _ _ hq => hq.1) (by omega) (by omega) ?_
    rintro H2 a b ⟨-, r, r1, r2, r3⟩ Hs hF σ Y g1 g2 g3
    have hr : r < sh_ha Hs 6 := Nat.lt_of_lt_of_le r1 (hF.2.2.1 6)
    have hC := hF.2.2.2
    obtain ⟨c0, c3, c6, c9, c11, c20⟩ := hC
    have hC := hF.2.2.2
    obtain ⟨z, z1, -, z2⟩ : btw 0 (sx_kn Y r) 3 := (g2.2.2.1 r hr).2.2
    have h01 : (if sx_kn Y r ≤ 0 then (0 : Int32) else 1) = 0 ∨ (if sx_kn Y r ≤ 0 then (0 : Int32) else 1) = 1 := by
      split
      · exact .inl rfl
      · exact .inr rfl
    refine ⟨(if sx_kn Y r ≤ 0 then 0 else 1), fun _ => h01, fun l => ?_, fun fe M' hfe => ?_⟩
    · rw [r2]
      show s_Glacier_valueOf σ 29 (nI r) :: l = _
      unfold s_Glacier_valueOf
      rw [if_neg (show ¬ swf (29 : Fin 54).val = 6 by decide), if_neg (show ¬ swf (29 : Fin 54).val = 13 by decide), if_neg (show ¬ swf (29 : Fin 54).val = 14 by decide), if_neg (show ¬ swf (29 : Fin 54).val = 15 by decide), if_neg (show ¬ swf (29 : Fin 54).val = 16 by decide), if_neg (show ¬ swf (29 : Fin 54).val = 17 by decide), if_neg (show ¬ swf (29 : Fin 54).val = 18 by decide), if_neg (show ¬ swf (29 : Fin 54).val = 19 by decide), if_neg (show ¬ swf (29 : Fin 54).val = 32 by decide), if_neg (show ¬ swf (29 : Fin 54).val = 33 by decide)]
      unfold s_Glacier_crevasseFact
      have e : gG σ 2 (nI r) 2 = sx_kn Y r := g1.rb.g_2_2 hr hC
      rw [known_min (r := nI r) e z1 z2]
    · obtain ⟨k, rfl, -⟩ := nd_pos (by decide) hfe
      rw [ev2]
      unfold s_Model_single
      rw [by_S hX ht hF.1 (y := 30) (k := 30) (by decide) rfl, if_neg (show ¬ (gk K t).val = 30 by omega)]
      simp only [Option.bind_some, if00, if_true]
      rw [by_S hX ht hF.1 (y := 37) (k := 42) (by decide) rfl, if_neg (show ¬ (gk K t).val = 37 by omega)]
      simp only [Option.bind_some, if00, if_true]
      rw [by_S hX ht hF.1 (y := 27) (k := 27) (by decide) rfl, if_neg (show ¬ (gk K t).val = 27 by omega)]
      simp only [Option.bind_some, if00, if_true]
      rw [by_S hX ht hF.1 (y := 28) (k := 28) (by decide) rfl, if_neg (show ¬ (gk K t).val = 28 by omega)]
      simp only [Option.bind_some, if00, if_true]
      rw [by_S hX ht hF.1 (y := 29) (k := 29) (by decide) rfl, if_pos hv]
      simp only [Option.bind_some, if10]
      rw [named_S (by omega)]
      simp only [Option.bind_some]
      rw [hF.2.1 (t + 1) (by omega) (by omega), r3, if_pos (ok_nI (by omega) (by omega)), nI_clamp (by omega)]
      by_cases hz : sx_kn Y r ≤ 0
      · rw [if_pos hz, if_pos hz]
      · rw [if_neg hz, if_neg hz]
  · have h2 : (s_Teacher_oldName (tA K t) E (N 2) (gk K t)).2.1 = tB K (t + 1) := by rw [ho, if_neg hn50]
    have hc : s_Teacher_readSingle (tA K t) F E (N 0) (N 1) (N 2) (N 3) (N 4) rec x = (tB K (t + 1), s_Formulas_put F 29 (s_Teacher_oldName (tA K t) E (N 2) (gk K t)).1, (s_Teacher_oldName (tA K t) E (N 2) (gk K t)).2.2) := by
      unfold s_Teacher_readSingle
      rw [← h2, hg, show s_Tokens_sign (tA K t) = 29 from hg, if_neg (show ¬ (29 : Fin 54).val = 30 by decide), if_neg (show ¬ (29 : Fin 54).val = 37 by decide), if_neg (show ¬ (29 : Fin 54).val = 27 by decide), if_neg (show ¬ (29 : Fin 54).val = 28 by decide), if_pos (show (29 : Fin 54).val = 29 from rfl)]
    have hm : s_Model_isSingle H rm (mS M1 t x) = some (0, mS M1 (t + 1) x) := by
      unfold s_Model_isSingle
      simp only [if_pos (show mo_tk (mS M1 t x) < 401 by show t < 401; omega), kdv, if_neg (show ¬ (29 : Int32) = 30 by decide), if_neg (show ¬ (29 : Int32) = 42 by decide)]
      rw [eatIn_S hX ht in27, if_pos (show 27 ≤ (gk K t).val ∧ (gk K t).val ≤ 29 from ⟨by omega, by omega⟩)]
      simp only [Option.bind_some, if10]
      rw [eatN hX htn (y := 50) (x := 36) (by decide) rfl]
      rw [if_neg hn50]
      rfl
    rw [hc, hm]
    exact ⟨false, t + 1, _, _, x, rfl, rfl, by omega, by omega, fun w => by cases w⟩
theorem sng_cmp {K : TK} {H : SH} {n : Nat} {M : MO} {N : Nat → NM} {x t : Nat} {F : FM} {E : TE} {M1 : MO} {rec : Nat → Nat → Fin 54 → RS → RS} {rm : EV} (hX : LX K H n) (ht : t ≤ n) (hx : x ≤ 8) (h3 : ∀ t F E M1, t ≤ n → RDN K H n M N 3 x t F E M1 (rec 3 x 0 (tA K t, F, E)) (rm 3 (mS M1 t x))) (hno : ¬ ((gk K t).val = 30 ∨ (gk K t).val = 37 ∨ (27 ≤ (gk K t).val ∧ (gk K t).val ≤ 29))) : RDN K H n M N 2 x t F E M1 (s_Teacher_readSingle (tA K t) F E (N 0) (N 1) (N 2) (N 3) (N 4) rec x) (s_Model_isSingle H rm (mS M1 t x)) := by
  have h400 := hX.1
  have kd30 : ¬ sh_kd H (mo_tk (mS M1 t x)) = 30 := by
    show ¬ sh_kd H t = 30
    rw [(hX.2.2 t ht).2.1]
    exact fun w => hno (.inl (congrArg Fin.val ((kOf_iff _ 30).mp w)))
  have kd42 : ¬ sh_kd H (mo_tk (mS M1 t x)) = 42 := by
    show ¬ sh_kd H t = 42
    rw [(hX.2.2 t ht).2.1]
    exact fun w => hno (.inr (.inl (congrArg Fin.val ((kOf_iff _ 37).mp w))))
  have hc : s_Teacher_readSingle (tA K t) F E (N 0) (N 1) (N 2) (N 3) (N 4) rec x = (if (s_Teacher_isComparison (s_Tokens_sign (rec 3 x 0 (tA K t, F, E)).1)) = 0 then ((s_Tokens_breakOff (rec 3 x 0 (tA K t, F, E)).1), (rec 3 x 0 (tA K t, F, E)).2.1, (rec 3 x 0 (tA K t, F, E)).2.2) else ((rec 3 x 0 ((s_Tokens_advance (rec 3 x 0 (tA K t, F, E)).1), (rec 3 x 0 (tA K t, F, E)).2.1, (rec 3 x 0 (tA K t, F, E)).2.2)).1, (s_Formulas_put (rec 3 x 0 ((s_Tokens_advance (rec 3 x 0 (tA K t, F, E)).1), (rec 3 x 0 (tA K t, F, E)).2.1, (rec 3 x 0 (tA K t, F, E)).2.2)).2.1 (s_Tokens_sign (rec 3 x 0 (tA K t, F, E)).1) 0), (rec 3 x 0 ((s_Tokens_advance (rec 3 x 0 (tA K t, F, E)).1), (rec 3 x 0 (tA K t, F, E)).2.1, (rec 3 x 0 (tA K t, F, E)).2.2)).2.2)) := by
    unfold s_Teacher_readSingle
    rw [show s_Tokens_sign (tA K t) = gk K t from rfl, if_neg (show ¬ (gk K t).val = 30 by omega), if_neg (show ¬ (gk K t).val = 37 by omega), if_neg (show ¬ (gk K t).val = 27 by omega), if_neg (show ¬ (gk K t).val = 28 by omega), if_neg (show ¬ (gk K t).val = 29 by omega)]
  have hm : s_Model_isSingle H rm (mS M1 t x) = ((rm 3 (mS M1 t x)).bind fun p124_7 => (if p124_7.1 = 0 then some (0, p124_7.2) else ((s_Model_eatIn H 50 54 p124_7.2).bind fun p136_9 => (if p136_9.1 = 0 then some (0, p136_9.2) else ((rm 3 p136_9.2).bind fun p144_11 => (if p144_11.1 = 0 then some (0, p144_11.2) else some (1, p144_11.2))))))) := by
    unfold s_Model_isSingle
    simp only [if_pos (show mo_tk (mS M1 t x) < 401 by show t < 401; omega), if_neg kd30, if_neg kd42]
    rw [eatIn_S hX ht in27, if_neg (show ¬ (27 ≤ (gk K t).val ∧ (gk K t).val ≤ 29) by omega)]
    simp only [Option.bind_some, if00, if_true]
  rw [hc, hm]
  obtain ⟨ok1, t1, F1, E1, d1, r1, r2, r3, r4, r5⟩ := h3 t F E M1 ht
  rw [r1, r2]
  cases ok1 with
  | false =>
    refine ⟨false, t1, F1, E1, d1, ?_, rfl, r3, r4, fun w => by cases w⟩
    show (if s_Teacher_isComparison 53 = 0 then (s_Tokens_breakOff (tB K t1), F1, E1) else _) = (tB K t1, F1, E1)
    rw [if_pos (by decide), hX.brk r4]
  | true =>
    obtain ⟨s1, s2, s3, s4⟩ := r5 rfl
    subst s1
    simp only [Option.bind_some, if10, if_true]
    rw [eatIn_S hX r4 in50]
    show RDN K H n M N 2 d1 t F E M1 (if s_Teacher_isComparison (gk K t1) = 0 then (s_Tokens_breakOff (tA K t1), F1, E1) else ((rec 3 d1 0 (s_Tokens_advance (tA K t1), F1, E1)).1, s_Formulas_put (rec 3 d1 0 (s_Tokens_advance (tA K t1), F1, E1)).2.1 (gk K t1) 0, (rec 3 d1 0 (s_Tokens_advance (tA K t1), F1, E1)).2.2)) _
    rw [isC_v]
    by_cases hcm : 45 ≤ (gk K t1).val ∧ (gk K t1).val ≤ 49
    · have ht1 : t1 < n := (hX.2.2 t1 r4).2.2.2.2.mpr (by omega)
      rw [if_pos hcm, if_pos hcm]
      simp only [Option.bind_some, if10, if_true]
      rw [hX.adv ht1]
      obtain ⟨ok2, t2, F2, E2, d2, w1, w2, w3, w4, w5⟩ := h3 (t1 + 1) F1 E1 M1 (by omega)
      rw [w1, w2]
      cases ok2 with
      | false => exact ⟨false, t2, _, E2, d2, rfl, rfl, by omega, w4, fun w => by cases w⟩
      | true =>
        obtain ⟨x1, x2, x3, x4⟩ := w5 rfl
        subst x1
        refine ⟨true, t2, _, E2, d2, rfl, rfl, by omega, w4, fun _ => ⟨rfl, by omega, x3, fun h1 hp => ?_⟩⟩
        have hcp : ∀ g : Fin 54, 45 ≤ g.val ∧ g.val ≤ 49 → neu g ∧ pv g ∧ ¬ g.val = 51 ∧ ¬ sgk g.val = 0 ∧ ¬ sgk g.val = 1 := by decide +kernel
        obtain ⟨c1, c2, c3, c4, c5⟩ := hcp _ hcm
        have q1 := s4 h1 hp
        have q2 := sem_neu (M := M) (N := N) (F := F1) (E := E1) hX ht1 (by omega) s3 c1
        have q3 := x4 (by omega) (by rw [Nat.add_sub_cancel]; exact c2)
        refine (((q1.seq q2 (by omega) (by omega)).seq q3 (by omega) (by omega)).put (g := gk K t1) (o := 0) (by omega) (fun H2 a b hq => by
          obtain ⟨b2, H2', -, -, ⟨b1, H1, -, -, ⟨-, m1, -⟩, n1, -⟩, ⟨-, m2, -⟩, -⟩ := hq
          omega)).mono ?_
        rintro H5 a c hac ⟨b5, n5, ⟨b2, H2, k1, k2, ⟨b1, H1, k3, k4, ⟨m1, m2, m3⟩, n1, l1, l2, l3, l4, l5⟩, ⟨m4, m5, m6⟩, l6, l7, l8, l9, l10⟩, f1, f2, f3, f4⟩
        refine ⟨by omega, by omega, fun Hs hF σ Y g1 g2 g3 => ?_⟩
        have hF2 : FIN H H5 Hs (t1 + 1) t2 := ⟨hF.1, fun j j1 j2 => hF.2.1 j (by omega) j2, hF.2.2.1, hF.2.2.2⟩
        have hF1 : FIN H H1 Hs t t1 := ⟨hF.1, fun j j1 j2 => ((hF.2.1 j (by omega) (by omega)).trans (l8 j (by omega))).trans (l3 j (by omega)), fun s => by rw [← l4, ← l9]; exact hF.2.2.1 s, hF.2.2.2⟩
        obtain ⟨u, u1, u2, u3⟩ := m3 Hs hF1 σ Y g1 g2 g3
        obtain ⟨v, v1, v2, v3⟩ := m6 Hs hF2 σ Y g1 g2 g3
        obtain ⟨jv, j01⟩ := cmp_v hcm u v
        refine ⟨s_Formulas_joined (gk K t1) u v, fun _ => j01, fun l => ?_, fun fe M' hfe => ?_⟩
        · have y1 : run σ (s_Formulas_put F2 (gk K t1) 0) (b1 - a) a l = u :: l := by
            rw [← u2 l]
            exact run_ext _ _ _ (fun j j1 j2 => by
              obtain ⟨z1, z2⟩ := f4 j (by omega)
              obtain ⟨z3, z4⟩ := l10 j (by omega)
              exact ⟨z1.trans z3, z2.trans z4⟩)
          have y2 : run σ (s_Formulas_put F2 (gk K t1) 0) (b5 - b2) b1 (u :: l) = v :: u :: l := by
            rw [← v2 (u :: l), show b1 = b2 by omega]
            exact run_ext _ _ _ (fun j j1 j2 => f4 j (by omega))
          have y3 : run σ (s_Formulas_put F2 (gk K t1) 0) 1 b5 (v :: u :: l) = s_Formulas_joined (gk K t1) u v :: l := by
            rw [run1 f2 f3]
            unfold stp
            rw [if_neg c3, if_neg c4, if_neg c5]
            rfl
          rw [show c - a = (b1 - a) + ((b5 - b2) + 1) by omega, run_add, y1, show a + (b1 - a) = b1 by omega, run_add, y2, show b1 + (b5 - b2) = b5 by omega, y3]
        · unfold ND at hfe
          obtain ⟨k, rfl⟩ := Nat.exists_eq_succ_of_ne_zero (show fe ≠ 0 by omega)
          rw [ev2]
          unfold s_Model_single
          rw [by_S hX ht hF.1 (y := 30) (k := 30) (by decide) rfl, if_neg (show ¬ (gk K t).val = 30 by omega)]
          simp only [Option.bind_some, if00, if_true]
          rw [by_S hX ht hF.1 (y := 37) (k := 42) (by decide) rfl, if_neg (show ¬ (gk K t).val = 37 by omega)]
          simp only [Option.bind_some, if00, if_true]
          rw [by_S hX ht hF.1 (y := 27) (k := 27) (by decide) rfl, if_neg (show ¬ (gk K t).val = 27 by omega)]
          simp only [Option.bind_some, if00, if_true]
          rw [by_S hX ht hF.1 (y := 28) (k := 28) (by decide) rfl, if_neg (show ¬ (gk K t).val = 28 by omega)]
          simp only [Option.bind_some, if00, if_true]
          rw [by_S hX ht hF.1 (y := 29) (k := 29) (by decide) rfl, if_neg (show ¬ (gk K t).val = 29 by omega)]
          simp only [Option.bind_some, if00, if_true]
          rw [u3 k M' (by unfold ND; omega)]
          simp only [Option.bind_some]
          rw [if_pos (show okI (mo_wk (mo_wk' M' (nI t1))) 401 = true from ok_nI (by omega) (by omega)), wk_1, v3 k M' (by unfold ND; omega), show (mo_wk (mo_wk' M' (nI t1))).toNatClampNeg = t1 from nI_clamp (by omega), hF.1, (hX.2.2 t1 r4).2.1, jv]
          simp only [Option.bind_some]
          repeat' split
          all_goals rfl
    · rw [if_neg hcm, if_neg hcm]
      simp only [Option.bind_some, if00, if_true]
      rw [brk_A]
      exact ⟨false, t1, F1, E1, d1, rfl, rfl, r3, r4, fun w => by cases w⟩
/-! reading tests and sums: both, all through -/
theorem rt_gl {N0 N1 N2 N3 N4 : NM} {rec : Nat → Nat → Fin 54 → RS → RS} {x : Nat} (K : TK) (F : FM) (E : TE) : s_Teacher_readTest K F E N0 N1 N2 N3 N4 rec x = gl (fun S => rec 1 x 0 S) i32 400 (rec 1 x 0 (K, F, E)) := gl32 400 0 _ _ _
theorem rb_gl {N0 N1 N2 N3 N4 : NM} {rec : Nat → Nat → Fin 54 → RS → RS} {x : Nat} (K : TK) (F : FM) (E : TE) : s_Teacher_readBoth K F E N0 N1 N2 N3 N4 rec x = gl (fun S => rec 2 x 0 S) i31 400 (rec 2 x 0 (K, F, E)) := gl31 400 0 _ _ _
theorem rs_gl {N0 N1 N2 N3 N4 : NM} {rec : Nat → Nat → Fin 54 → RS → RS} {x : Nat} (K : TK) (F : FM) (E : TE) : s_Teacher_readSum K F E N0 N1 N2 N3 N4 rec x = gl (fun S => rec 4 x 0 S) i41 400 (rec 4 x 0 (K, F, E)) := gl41 400 0 _ _ _
theorem rp_gl {N0 N1 N2 N3 N4 : NM} {rec : Nat → Nat → Fin 54 → RS → RS} {x : Nat} (K : TK) (F : FM) (E : TE) : s_Teacher_readProduct K F E N0 N1 N2 N3 N4 rec x = gl (fun S => rec 5 x 0 S) i43 400 (rec 5 x 0 (K, F, E)) := gl43 400 0 _ _ _
theorem gl_B {K : TK} {t : Nat} {F : FM} {E : TE} {rc : RS → RS} {isop : Fin 54 → Bool} (h : isop 53 = false) : ∀ k, gl rc isop k (tB K t, F, E) = (tB K t, F, E)
  | 0 => rfl
  | k + 1 => by
    rw [gl]
    show (if isop 53 = true then _ else _) = _
    rw [h]
    rfl
theorem rd_B {K : TK} {H : SH} {n t : Nat} {N : Nat → NM} (hX : LX K H n) (ht : t ≤ n) : ∀ f w x (c : Fin 54) (F : FM) (E : TE), (w ≤ 5 ∨ c.val = 53) → ∃ F' E', rd_ (N 0) (N 1) (N 2) (N 3) (N 4) f w x c (tB K t, F, E) = (tB K t, F', E') := by
  intro f
  induction f with
  | zero => intro w x c F E _; exact ⟨F, E, rfl⟩
  | succ f ih =>
    intro w x c F E hw
    rw [rd_]
    by_cases w0 : w = 0
    · rw [if_pos w0, rt_gl]
      obtain ⟨F', E', h⟩ := ih 1 x 0 F E (.inl (by omega))
      exact ⟨F', E', by rw [h, gl_B rfl]⟩
    rw [if_neg w0]
    by_cases w1 : w = 1
    · rw [if_pos w1, rb_gl]
      obtain ⟨F', E', h⟩ := ih 2 x 0 F E (.inl (by omega))
      exact ⟨F', E', by rw [h, gl_B rfl]⟩
    rw [if_neg w1]
    by_cases w2 : w = 2
    · rw [if_pos w2]
      obtain ⟨F', E', h⟩ := ih 3 x 0 F E (.inl (by omega))
      refine ⟨F', E', ?_⟩
      unfold s_Teacher_readSingle
      rw [show s_Tokens_sign ((tB K t, F, E) : RS).1 = 53 from rfl, if_neg (by decide), if_neg (by decide), if_neg (by decide), if_neg (by decide), if_neg (by decide)]
      rw [show ((tB K t, F, E) : RS).1 = tB K t from rfl, show ((tB K t, F, E) : RS).2.1 = F from rfl, show ((tB K t, F, E) : RS).2.2 = E from rfl, h]
      show (if s_Teacher_isComparison 53 = 0 then (s_Tokens_breakOff (tB K t), F', E') else _) = _
      rw [if_pos (by decide), hX.brk ht]
    rw [if_neg w2]
    by_cases w3 : w = 3
    · rw [if_pos w3, rs_gl]
      obtain ⟨F', E', h⟩ := ih 4 x 0 F E (.inl (by omega))
      exact ⟨F', E', by rw [h, gl_B rfl]⟩
    rw [if_neg w3]
    by_cases w4 : w = 4
    · rw [if_pos w4, rp_gl]
      obtain ⟨F', E', h⟩ := ih 5 x 0 F E (.inl (by omega))
      exact ⟨F', E', by rw [h, gl_B rfl]⟩
    rw [if_neg w4]
    by_cases w5 : w = 5
    · rw [if_pos w5]
      obtain ⟨F', E', h⟩ := ih 6 x 53 F E (.inr rfl)
      refine ⟨F', E', ?_⟩
      unfold s_Teacher_readValue
      rw [show s_Tokens_sign ((tB K t, F, E) : RS).1 = 53 from rfl, if_neg (by decide), if_neg (by decide), if_neg (by decide), if_neg (by decide), if_neg (by decide), if_neg (by decide), if_neg (by decide), if_neg (by decide), if_neg (by decide)]
      exact h
    · rw [if_neg w5]
      have hc : c.val = 53 := hw.resolve_left (by omega)
      refine ⟨F, E, ?_⟩
      unfold s_Teacher_readNested
      rw [if_neg (by omega), if_neg (by omega), if_neg (by omega), if_neg (by omega)]
      show (s_Tokens_breakOff (tB K t), F, E) = _
      rw [hX.brk ht]
theorem read_ok {K : TK} {H : SH} {n : Nat} {M : MO} {N : Nat → NM} (hX : LX K H n) (hW : LW (mo_tk' M n) K (sh_fr H) (sh_mn H) n) : ∀ B w x, w ≤ 5 → x ≤ 8 → ND w x ≤ B → ∀ f fk, ND w x ≤ f → ND w x ≤ fk → ∀ t F E M1, t ≤ n → RDN K H n M N w x t F E M1 (rd_ (N 0) (N 1) (N 2) (N 3) (N 4) f w x 0 (tA K t, F, E)) (rk_ H fk w (mS M1 t x)) := by
  intro B
  induction B with
  | zero => intro w x hw hx hB; unfold ND at hB; omega
  | succ B ih =>
    intro w x hw hx hB f fk hf hfk t F E M1 ht
    have sub : ∀ w' x', w' ≤ 5 → x' ≤ 8 → ND w' x' < ND w x → ∀ f fk, ND w' x' ≤ f → ND w' x' ≤ fk → ∀ t F E M1, t ≤ n → RDN K H n M N w' x' t F E M1 (rd_ (N 0) (N 1) (N 2) (N 3) (N 4) f w' x' 0 (tA K t, F, E)) (rk_ H fk w' (mS M1 t x')) :=
      fun w' x' h1 h2 h3 => ih w' x' h1 h2 (by omega)
    unfold ND at hf hfk sub
    obtain ⟨f1, rfl⟩ := Nat.exists_eq_succ_of_ne_zero (show f ≠ 0 by omega)
    obtain ⟨fk1, rfl⟩ := Nat.exists_eq_succ_of_ne_zero (show fk ≠ 0 by omega)
    match w, hw with
    | 0, _ =>
      show RDN K H n M N 0 x t F E M1 (s_Teacher_readTest (tA K t) F E (N 0) (N 1) (N 2) (N 3) (N 4) (rd_ (N 0) (N 1) (N 2) (N 3) (N 4) f1) x) (l_Model_isTest H (rk_ H fk1) 401 (mS M1 t x))
      rw [rt_gl, ml32]
      exact level hX ops32 (by omega) (fun v h _ => h (by omega)) (fun t F E M1 ht => sub 1 x (by omega) hx (by omega) f1 fk1 (by omega) (by omega) t F E M1 ht) ev32 t F E M1 ht
    | 1, _ =>
      show RDN K H n M N 1 x t F E M1 (s_Teacher_readBoth (tA K t) F E (N 0) (N 1) (N 2) (N 3) (N 4) (rd_ (N 0) (N 1) (N 2) (N 3) (N 4) f1) x) (l_Model_isBoth H (rk_ H fk1) 401 (mS M1 t x))
      rw [rb_gl, ml31]
      exact level hX ops31 (by omega) (fun v h _ => h (by omega)) (fun t F E M1 ht => sub 2 x (by omega) hx (by omega) f1 fk1 (by omega) (by omega) t F E M1 ht) ev31 t F E M1 ht
    | 2, _ =>
      show RDN K H n M N 2 x t F E M1 (s_Teacher_readSingle (tA K t) F E (N 0) (N 1) (N 2) (N 3) (N 4) (rd_ (N 0) (N 1) (N 2) (N 3) (N 4) f1) x) (s_Model_isSingle H (rk_ H fk1) (mS M1 t x))
      by_cases g30 : (gk K t).val = 30
      · exact sng_not hX ht hx (fun h8 t F E M1 ht => sub 2 (x + 1) (by omega) (by omega) (by omega) f1 fk1 (by omega) (by omega) t F E M1 ht) (Fin.ext g30)
      by_cases g37 : (gk K t).val = 37
      · exact sng_open hX ht hx (fun h8 t F E M1 ht => sub 0 (x + 1) (by omega) (by omega) (by omega) f1 fk1 (by omega) (by omega) t F E M1 ht) (Fin.ext g37)
      by_cases g27 : (gk K t).val = 27
      · exact sng_standing hX ht hx hW (Fin.ext g27)
      by_cases g28 : (gk K t).val = 28
      · exact sng_here hX ht hx hW (Fin.ext g28)
      by_cases g29 : (gk K t).val = 29
      · exact sng_known hX ht hx hW (Fin.ext g29)
      exact sng_cmp hX ht hx (fun t F E M1 ht => sub 3 x (by omega) (by omega) (by omega) f1 fk1 (by omega) (by omega) t F E M1 ht) (by omega)
    | 3, _ =>
      show RDN K H n M N 3 x t F E M1 (s_Teacher_readSum (tA K t) F E (N 0) (N 1) (N 2) (N 3) (N 4) (rd_ (N 0) (N 1) (N 2) (N 3) (N 4) f1) x) (l_Model_isSum H (rk_ H fk1) 401 (mS M1 t x))
      rw [rs_gl, ml46]
      exact level hX ops41 (by omega) (fun v h w => absurd w (by decide)) (fun t F E M1 ht => sub 4 x (by omega) hx (by omega) f1 fk1 (by omega) (by omega) t F E M1 ht) ev46 t F E M1 ht
    | 4, _ =>
      show RDN K H n M N 4 x t F E M1 (s_Teacher_readProduct (tA K t) F E (N 0) (N 1) (N 2) (N 3) (N 4) (rd_ (N 0) (N 1) (N 2) (N 3) (N 4) f1) x) (l_Model_isProduct H (rk_ H fk1) 401 (mS M1 t x))
      rw [rp_gl, ml48]
      exact level hX ops43 (by omega) (fun v h w => absurd w (by decide)) (fun t F E M1 ht => sub 5 x (by omega) hx (by omega) f1 fk1 (by omega) (by omega) t F E M1 ht) ev48 t F E M1 ht
    | 5, _ =>
      obtain ⟨f2, rfl⟩ := Nat.exists_eq_succ_of_ne_zero (show f1 ≠ 0 by omega)
      show RDN K H n M N 5 x t F E M1 (s_Teacher_readValue (tA K t) F E (N 0) (N 1) (N 2) (N 3) (N 4) (rd_ (N 0) (N 1) (N 2) (N 3) (N 4) (f2 + 1)) x) (s_Model_isValue H (rk_ H fk1) (mS M1 t x))
      have hrec : ∀ g S, rd_ (N 0) (N 1) (N 2) (N 3) (N 4) (f2 + 1) 6 x g S = s_Teacher_readNested S.1 S.2.1 S.2.2 (N 0) (N 1) (N 2) (N 3) (N 4) (rd_ (N 0) (N 1) (N 2) (N 3) (N 4) f2) g x := fun _ _ => rfl
      have h5 : x < 8 → ∀ t F E M1, t ≤ n → RDN K H n M N 5 (x + 1) t F E M1 (rd_ (N 0) (N 1) (N 2) (N 3) (N 4) f2 5 (x + 1) 0 (tA K t, F, E)) (rk_ H fk1 5 (mS M1 t (x + 1))) := fun h8 t F E M1 ht => sub 5 (x + 1) (by omega) (by omega) (by omega) f2 fk1 (by omega) (by omega) t F E M1 ht
      have h3 : x < 8 → ∀ t F E M1, t ≤ n → RDN K H n M N 3 (x + 1) t F E M1 (rd_ (N 0) (N 1) (N 2) (N 3) (N 4) f2 3 (x + 1) 0 (tA K t, F, E)) (rk_ H fk1 3 (mS M1 t (x + 1))) := fun h8 t F E M1 ht => sub 3 (x + 1) (by omega) (by omega) (by omega) f2 fk1 (by omega) (by omega) t F E M1 ht
      have hb : ∀ t F E, t ≤ n → ∃ F' E', rd_ (N 0) (N 1) (N 2) (N 3) (N 4) f2 3 (x + 1) 0 (tB K t, F, E) = (tB K t, F', E') := fun t F E ht => rd_B hX ht f2 3 (x + 1) 0 F E (.inl (by omega))
      by_cases g51 : (gk K t).val = 51
      · exact val_num hX hW ht (Fin.ext g51)
      by_cases g13 : (gk K t).val = 13
      · exact val_day hX hW ht (Fin.ext g13)
      by_cases g14 : (gk K t).val = 14
      · exact val_warm hX hW ht (Fin.ext g14)
      by_cases g2 : (gk K t).val = 2
      · exact val_snow hX hW ht (Fin.ext g2)
      by_cases g8 : (gk K t).val = 8
      · exact val_bridge hX hW ht (Fin.ext g8)
      by_cases g23 : (gk K t).val = 23
      · exact val_out hX hW ht (Fin.ext g23)
      by_cases g24 : (gk K t).val = 24
      · exact val_stock hX hW ht (Fin.ext g24)
      by_cases g25 : (gk K t).val = 25
      · exact val_sack hX hW ht (Fin.ext g25)
      by_cases g26 : (gk K t).val = 26
      · exact val_place hX hW ht (Fin.ext g26)
      by_cases g42 : (gk K t).val = 42
      · exact val_minus hX ht hx hrec h5 (Fin.ext g42)
      by_cases g35 : (gk K t).val = 35
      · exact val_open hX ht hx hrec h3 (Fin.ext g35)
      by_cases g33 : (gk K t).val = 33
      · exact val_min hX ht hx hrec h3 hb (Fin.ext g33)
      by_cases g34 : (gk K t).val = 34
      · exact val_max hX ht hx hrec h3 hb (Fin.ext g34)
      exact val_else hX ht hx hrec (by omega) g42 g35 (by omega)
    | _ + 6, w => exact absurd w (by omega)
