/-! the four loops of two-sided signs as one -/
def FIN (H H2 Hs : SH) (t t' : Nat) : Prop := sh_kd Hs = sh_kd H ∧ (∀ j, t ≤ j → j < t' → sh_me Hs j = sh_me H2 j) ∧ (∀ s, sh_ha H2 s ≤ sh_ha Hs s) ∧ RC Hs
def VAL (H : SH) (w x t t' : Nat) (F' : FM) (H2 : SH) (a b : Nat) : Prop := a < b ∧ b + 1 + 2 * t ≤ a + 2 * t' ∧ ∀ Hs, FIN H H2 Hs t t' → ∀ (σ : GL) (Y : SX), RG σ Hs Y → RR Hs Y → sx_dy Y < 1000000 → ∃ v, VP w v ∧ (∀ l, run σ F' (b - a) a l = v :: l) ∧ ∀ fe M, ND w x ≤ fe → ev_ Hs Y fe w (mo_wk' M (nI t)) = some (v, mo_wk' M (nI t'))
/-- what reading from t gives: done, or broken off -/
def RDN (K : TK) (H : SH) (n : Nat) (M : MO) (N : Nat → NM) (w x t : Nat) (F : FM) (E : TE) (M1 : MO) (rc : RS) (rm : Option (Int32 × MO)) : Prop := ∃ (ok : Bool) (t' : Nat) (F' : FM) (E' : TE) (d' : Nat), rc = (if ok = true then tA K t' else tB K t', F', E') ∧ rm = some (if ok = true then 1 else 0, mS M1 t' d') ∧ t ≤ t' ∧ t' ≤ n ∧ (ok = true → d' = x ∧ t < t' ∧ ¬ (gk K (t' - 1)).val = 39 ∧ (1 ≤ t → pv (gk K (t - 1)) → SemT K H n M N t t' F E F' E' (VAL H w x t t' F')))
def gl (rc : RS → RS) (isop : Fin 54 → Bool) : Nat → RS → RS
  | 0, S => S
  | k + 1, S => if isop (s_Tokens_sign S.1) = true then gl rc isop k ((rc (s_Tokens_advance S.1, S.2.1, S.2.2)).1, s_Formulas_put (rc (s_Tokens_advance S.1, S.2.1, S.2.2)).2.1 (s_Tokens_sign S.1) 0, (rc (s_Tokens_advance S.1, S.2.1, S.2.2)).2.2) else S
def ml (H : SH) (rm : MO → Option (Int32 × MO)) (op : Int32 → Bool) : Nat → MO → Option (Int32 × MO)
  | 0, _ => none
  | k + 1, M => (rm M).bind fun p => if p.1 = 0 then some (0, p.2) else (if mo_tk p.2 < 401 then (if op (sh_kd H (mo_tk p.2)) = true then ml H rm op k (mo_tk' p.2 (mo_tk p.2 + 1)) else some (1, p.2)) else none)
def el (H : SH) (re : MO → Option (Int32 × MO)) (op : Int32 → Bool) (cm : Int32 → Int32 → Int32 → Int32) (ck : Int32 → Bool) : Nat → Int32 → MO → Option (Int32 × MO)
  | 0, _, _ => none
  | k + 1, v, M => if okI (mo_wk M) 401 = true then (if op (sh_kd H (mo_wk M).toNatClampNeg) = true then (re (mo_wk' M (mo_wk M + 1))).bind fun p => el H re op cm ck k (cm (sh_kd H (mo_wk M).toNatClampNeg) v p.1) p.2 else (if ck v = true then some (v, M) else none)) else none
/-- such a sign -/
def OPS (w : Nat) (isop : Fin 54 → Bool) (op : Int32 → Bool) (cm : Int32 → Int32 → Int32 → Int32) (ck : Int32 → Bool) : Prop := (∀ g, op (kOf g) = isop g) ∧ (∀ g, isop g = true → g.val < 52 ∧ ¬ g.val = 39 ∧ pv g ∧ neu g ∧ ¬ g.val = 51 ∧ ¬ sgk g.val = 0 ∧ ¬ sgk g.val = 1) ∧ (∀ g u v, isop g = true → s_Formulas_joined g u v = cm (kOf g) u v) ∧ (∀ g u v, isop g = true → VP w u → VP (w + 1) v → VP w (cm (kOf g) u v)) ∧ ∀ v, VP w v → ck v = true
def TAIL (H : SH) (w x t1 t2 : Nat) (op : Int32 → Bool) (cm : Int32 → Int32 → Int32 → Int32) (ck : Int32 → Bool) (F' : FM) (H2 : SH) (b c : Nat) : Prop := c + 2 * t1 ≤ b + 2 * t2 ∧ ∀ Hs, FIN H H2 Hs t1 t2 → ∀ (σ : GL) (Y : SX), RG σ Hs Y → RR Hs Y → sx_dy Y < 1000000 → ∀ v0, VP w v0 → ∃ v, VP w v ∧ (∀ l, run σ F' (c - b) b (v0 :: l) = v :: l) ∧ ∀ fe k M, ND (w + 1) x ≤ fe → t2 - t1 < k → el Hs (ev_ Hs Y fe (w + 1)) op cm ck k v0 (mo_wk' M (nI t1)) = some (v, mo_wk' M (nI t2))
theorem loop_ok {K : TK} {H : SH} {n : Nat} {M : MO} {N : Nat → NM} {w x : Nat} {rc : RS → RS} {rm : MO → Option (Int32 × MO)} {isop : Fin 54 → Bool} {op : Int32 → Bool} {cm : Int32 → Int32 → Int32 → Int32} {ck : Int32 → Bool} (hX : LX K H n) (hO : OPS w isop op cm ck) (hs : ∀ t F E M1, t ≤ n → RDN K H n M N (w + 1) x t F E M1 (rc (tA K t, F, E)) (rm (mS M1 t x))) : ∀ k t F E M1 kM, t ≤ n → n ≤ t + k → n < t + kM → ∃ (ok : Bool) (t' : Nat) (F' : FM) (E' : TE) (d' : Nat), gl rc isop k (tA K t, F, E) = (if ok = true then tA K t' else tB K t', F', E') ∧ (if op (sh_kd H t) = true then ml H rm op kM (mS M1 (t + 1) x) else some (1, mS M1 t x)) = some (if ok = true then 1 else 0, mS M1 t' d') ∧ t ≤ t' ∧ t' ≤ n ∧ (ok = true → d' = x ∧ (¬ (gk K (t - 1)).val = 39 → ¬ (gk K (t' - 1)).val = 39 ∧ (1 ≤ t → SemT K H n M N t t' F E F' E' (TAIL H w x t t' op cm ck F')))) := by
  obtain ⟨o1, o2, o3, o4, o5⟩ := hO
  have h400 := hX.1
  have stop : ∀ k t F E M1 kM, t ≤ n → isop (gk K t) = false → gl rc isop k (tA K t, F, E) = (tA K t, F, E) → ∃ (ok : Bool) (t' : Nat) (F' : FM) (E' : TE) (d' : Nat), gl rc isop k (tA K t, F, E) = (if ok = true then tA K t' else tB K t', F', E') ∧ (if op (sh_kd H t) = true then ml H rm op kM (mS M1 (t + 1) x) else some (1, mS M1 t x)) = some (if ok = true then 1 else 0, mS M1 t' d') ∧ t ≤ t' ∧ t' ≤ n ∧ (ok = true → d' = x ∧ (¬ (gk K (t - 1)).val = 39 → ¬ (gk K (t' - 1)).val = 39 ∧ (1 ≤ t → SemT K H n M N t t' F E F' E' (TAIL H w x t t' op cm ck F')))) := by
    intro k t F E M1 kM ht hf hg
    refine ⟨true, t, F, E, x, hg, ?_, Nat.le_refl _, ht, fun _ => ⟨rfl, fun h39 => ⟨h39, fun h1 => ⟨fun _ => rfl, fun hE a H1 w1 w2 w3 w4 => .inr ⟨rfl, sh_me H1, a, rfl, fun _ _ => rfl, w1, Nat.le_refl _, by omega, EXT.refl F a, by omega, fun Hs hF σ Y g1 g2 g3 v0 hv => ⟨v0, hv, fun l => by rw [Nat.sub_self]; rfl, fun fe k M' hfe hk => ?_⟩⟩⟩⟩⟩⟩
    · rw [(hX.2.2 t ht).2.1, o1, hf]
      rfl
    · obtain ⟨k', rfl⟩ := Nat.exists_eq_succ_of_ne_zero (show k ≠ 0 by omega)
      rw [el, if_pos (show okI (nI t) 401 = true from ok_nI (by omega) (by omega)), show (mo_wk (mo_wk' M' (nI t))).toNatClampNeg = t from nI_clamp (by omega), hF.1, (hX.2.2 t ht).2.1, o1, hf, if_neg (by decide), if_pos (o5 _ hv)]
  intro k
  induction k with
  | zero =>
    intro t F E M1 kM ht hk hkM
    have hn : t = n := by omega
    refine stop 0 t F E M1 kM ht ?_ rfl
    by_cases e : isop (gk K t) = true
    · have := (o2 _ e).1
      have := (hX.2.2 t ht).2.2.2.2.mpr this
      omega
    · exact Bool.not_eq_true _ ▸ e
  | succ k ih =>
    intro t F E M1 kM ht hk hkM
    by_cases e : isop (gk K t) = true
    · obtain ⟨p1, p2, p3, p4, p5, p6, p7⟩ := o2 _ e
      have htn : t < n := (hX.2.2 t ht).2.2.2.2.mpr p1
      have hgl : gl rc isop (k + 1) (tA K t, F, E) = gl rc isop k ((rc (tA K (t + 1), F, E)).1, s_Formulas_put (rc (tA K (t + 1), F, E)).2.1 (gk K t) 0, (rc (tA K (t + 1), F, E)).2.2) := by
        rw [gl]
        show (if isop (gk K t) = true then _ else _) = _
        rw [if_pos e]
        show gl rc isop k ((rc (s_Tokens_advance (tA K t), F, E)).1, s_Formulas_put (rc (s_Tokens_advance (tA K t), F, E)).2.1 (gk K t) 0, (rc (s_Tokens_advance (tA K t), F, E)).2.2) = _
        rw [hX.adv htn]
      obtain ⟨ok1, t1, F1, E1, d1, r1, r2, r3, r4, r5⟩ := hs (t + 1) F E M1 (by omega)
      obtain ⟨kM', rfl⟩ := Nat.exists_eq_succ_of_ne_zero (show kM ≠ 0 by omega)
      rw [hgl, r1, if_pos (show op (sh_kd H t) = true by rw [(hX.2.2 t ht).2.1, o1]; exact e), ml, r2]
      cases ok1 with
      | false =>
        refine ⟨false, t1, s_Formulas_put F1 (gk K t) 0, E1, d1, ?_, rfl, by omega, r4, fun w => by cases w⟩
        cases k with
        | zero => rfl
        | succ k =>
          rw [gl]
          show (if isop 53 = true then _ else _) = _
          rw [if_neg (fun w => absurd (o2 _ w).1 (by decide))]
      | true =>
        obtain ⟨s1, s2, s3, s4⟩ := r5 rfl
        subst s1
        obtain ⟨ok2, t2, F2, E2, d2, u1, u2, u3, u4, u5⟩ := ih t1 (s_Formulas_put F1 (gk K t) 0) E1 M1 kM' r4 (by omega) (by omega)
        refine ⟨ok2, t2, F2, E2, d2, u1, ?_, by omega, u4, fun hok => ?_⟩
        · show (if mo_tk (mS M1 t1 d1) < 401 then (if op (sh_kd H t1) = true then ml H rm op kM' (mS M1 (t1 + 1) d1) else some ((1 : Int32), mS M1 t1 d1)) else none) = _
          rw [if_pos (show mo_tk (mS M1 t1 d1) < 401 by show t1 < 401; omega)]
          exact u2
        · obtain ⟨v1, v2⟩ := u5 hok
          refine ⟨v1, fun h39 => ?_⟩
          obtain ⟨v3, v4⟩ := v2 s3
          refine ⟨v3, fun h1 => ?_⟩
          have q1 := sem_neu (M := M) (N := N) (F := F) (E := E) hX htn h1 h39 p4
          have q2 := s4 (by omega) (by rw [Nat.add_sub_cancel]; exact p3)
          have q3 := v4 (by omega)
          have q12 := q1.seq q2 (by omega) (by omega)
          have q12p := q12.put (g := gk K t) (o := 0) (by omega) (fun H2 a b hq => by
            obtain ⟨b0, Hm, a1, a2, a3, ⟨a4, a4b, -⟩, a5, a6, -⟩ := hq
            omega)
          refine (q12p.seq q3 (by omega) (by omega)).mono ?_
          rintro H2 a c hac ⟨b, H1, hab, hbc, ⟨b1, rfl, ⟨b0, Hm, c1, c2, rfl, c4, c5, c6, c7, c8, c9⟩, d2, d3, d4, d5⟩, ⟨t6, t7⟩, e1, e2, e3, e4, e5⟩
          obtain ⟨c41, c42, c43⟩ := c4
          refine ⟨by omega, fun Hs hF σ Y g1 g2 g3 v0 hv0 => ?_⟩
          have hF1 : FIN H H1 Hs (t + 1) t1 := ⟨hF.1, fun j j1 j2 => (hF.2.1 j (by omega) (by omega)).trans (e3 j (by omega)), fun s => by rw [← e4]; exact hF.2.2.1 s, hF.2.2.2⟩
          have hF2 : FIN H H2 Hs t1 t2 := ⟨hF.1, fun j j1 j2 => hF.2.1 j (by omega) j2, hF.2.2.1, hF.2.2.2⟩
          obtain ⟨v1', f1, f2, f3⟩ := c43 Hs hF1 σ Y g1 g2 g3
          have hv1 : VP w (cm (kOf (gk K t)) v0 v1') := o4 _ _ _ e hv0 f1
          obtain ⟨v, f4, f5, f6⟩ := t7 Hs hF2 σ Y g1 g2 g3 _ hv1
          refine ⟨v, f4, fun l => ?_, fun fe k M' hfe hk => ?_⟩
          · have x1 : run σ F2 (b1 - b0) b0 (v0 :: l) = v1' :: v0 :: l := by
              rw [← f2 (v0 :: l)]
              exact run_ext _ _ _ fun j j1 j2 => by
                obtain ⟨y1, y2⟩ := e5 j (by omega)
                obtain ⟨y3, y4⟩ := d5 j (by omega)
                exact ⟨y1.trans y3, y2.trans y4⟩
            have x2 : run σ F2 1 b1 (v1' :: v0 :: l) = cm (kOf (gk K t)) v0 v1' :: l := by
              show stp σ ((fm_sg F2 b1).getD 0) (fm_op F2 b1) (v1' :: v0 :: l) = _
              rw [(e5 b1 (by omega)).1, d3]
              unfold stp
              rw [if_neg (show ¬ ((some (gk K t)).getD 0).val = 51 from p5), if_neg (show ¬ sgk ((some (gk K t)).getD 0).val = 0 from p6), if_neg (show ¬ sgk ((some (gk K t)).getD 0).val = 1 from p7)]
              show s_Formulas_joined (gk K t) v0 v1' :: l = _
              rw [o3 _ _ _ e]
            rw [show c - b0 = (b1 - b0) + (1 + (c - (b1 + 1))) by omega, run_add, x1, run_add, show b0 + (b1 - b0) = b1 by omega, x2]
            exact f5 l
          · obtain ⟨k', rfl⟩ := Nat.exists_eq_succ_of_ne_zero (show k ≠ 0 by omega)
            rw [el, if_pos (show okI (nI t) 401 = true from ok_nI (by omega) (by omega)), show (mo_wk (mo_wk' M' (nI t))).toNatClampNeg = t from nI_clamp (by omega), hF.1, (hX.2.2 t ht).2.1, if_pos (by rw [o1]; exact e), show mo_wk' (mo_wk' M' (nI t)) (mo_wk (mo_wk' M' (nI t)) + 1) = mo_wk' M' (nI (t + 1)) by rw [← nI_1]]
            have y := f3 fe M' hfe
            rw [y]
            exact f6 fe k' M' hfe (by omega)
    · refine stop (k + 1) t F E M1 kM ht (Bool.not_eq_true _ ▸ e) ?_
      rw [gl]
      exact if_neg e
theorem level {K : TK} {H : SH} {n : Nat} {M : MO} {N : Nat → NM} {w x : Nat} {rc : RS → RS} {rm : MO → Option (Int32 × MO)} {isop : Fin 54 → Bool} {op : Int32 → Bool} {cm : Int32 → Int32 → Int32 → Int32} {ck : Int32 → Bool} (hX : LX K H n) (hO : OPS w isop op cm ck) (hw : w ≤ 6) (hvp : ∀ v, VP (w + 1) v → VP w v) (hs : ∀ t F E M1, t ≤ n → RDN K H n M N (w + 1) x t F E M1 (rc (tA K t, F, E)) (rm (mS M1 t x))) (hev : ∀ Hs Y fe M', ev_ Hs Y (fe + 1) w M' = (ev_ Hs Y fe (w + 1) M').bind fun p => el Hs (ev_ Hs Y fe (w + 1)) op cm ck 401 p.1 p.2) : ∀ t F E M1, t ≤ n → RDN K H n M N w x t F E M1 (gl rc isop 400 (rc (tA K t, F, E))) (ml H rm op 401 (mS M1 t x)) := by
  intro t F E M1 ht
  have h400 := hX.1
  have o2 := hO.2.1
  obtain ⟨ok1, t1, F1, E1, d1, r1, r2, r3, r4, r5⟩ := hs t F E M1 ht
  rw [r1, ml, r2]
  cases ok1 with
  | false =>
    refine ⟨false, t1, F1, E1, d1, ?_, rfl, r3, r4, fun w => by cases w⟩
    rw [gl]
    show (if isop 53 = true then _ else _) = _
    rw [if_neg (fun w => absurd (o2 _ w).1 (by decide))]
  | true =>
    obtain ⟨s1, s2, s3, s4⟩ := r5 rfl
    subst s1
    obtain ⟨ok2, t2, F2, E2, d2, u1, u2, u3, u4, u5⟩ := loop_ok hX hO hs 400 t1 F1 E1 M1 400 r4 (by omega) (by omega)
    refine ⟨ok2, t2, F2, E2, d2, u1, ?_, by omega, u4, fun hok => ?_⟩
    · show (if mo_tk (mS M1 t1 d1) < 401 then (if op (sh_kd H t1) = true then ml H rm op 400 (mS M1 (t1 + 1) d1) else some ((1 : Int32), mS M1 t1 d1)) else none) = _
      rw [if_pos (show mo_tk (mS M1 t1 d1) < 401 by show t1 < 401; omega)]
      exact u2
    · obtain ⟨v1, v2⟩ := u5 hok
      obtain ⟨v3, v4⟩ := v2 s3
      refine ⟨v1, by omega, v3, fun h1 hp => ?_⟩
      refine ((s4 h1 hp).seq (v4 (by omega)) (by omega) (by omega)).mono ?_
      rintro H2 a c hac ⟨b, H1, hab, hbc, ⟨c41, c42, c43⟩, ⟨t6, t7⟩, e1, e2, e3, e4, e5⟩
      refine ⟨by omega, by omega, fun Hs hF σ Y g1 g2 g3 => ?_⟩
      have hF1 : FIN H H1 Hs t t1 := ⟨hF.1, fun j j1 j2 => (hF.2.1 j (by omega) (by omega)).trans (e3 j (by omega)), fun s => by rw [← e4]; exact hF.2.2.1 s, hF.2.2.2⟩
      have hF2 : FIN H H2 Hs t1 t2 := ⟨hF.1, fun j j1 j2 => hF.2.1 j (by omega) j2, hF.2.2.1, hF.2.2.2⟩
      obtain ⟨v0, f1, f2, f3⟩ := c43 Hs hF1 σ Y g1 g2 g3
      obtain ⟨v, f4, f5, f6⟩ := t7 Hs hF2 σ Y g1 g2 g3 v0 (hvp _ f1)
      refine ⟨v, f4, fun l => ?_, fun fe M' hfe => ?_⟩
      · have x1 : run σ F2 (b - a) a l = v0 :: l := by
          rw [← f2 l]
          exact run_ext _ _ _ fun j j1 j2 => e5 j (by omega)
        rw [show c - a = (b - a) + (c - b) by omega, run_add, x1, show a + (b - a) = b by omega]
        exact f5 l
      · unfold ND at hfe
        obtain ⟨fe', rfl⟩ := Nat.exists_eq_succ_of_ne_zero (show fe ≠ 0 by omega)
        rw [hev, f3 fe' M' (by unfold ND; omega)]
        exact f6 fe' 401 M' (by unfold ND; omega) (by omega)
