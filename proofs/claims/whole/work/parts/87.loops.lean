/-! the four loops of two-sided signs as one -/
def FIN (H H2 Hs : SH) (t t' : Nat) : Prop := sh_kd Hs = sh_kd H ∧ (∀ j, t ≤ j → j < t' → sh_me Hs j = sh_me H2 j) ∧ (∀ s, sh_ha H2 s ≤ sh_ha Hs s) ∧ RC Hs
def VAL (H : SH) (w x t t' : Nat) (F' : FM) (H2 : SH) (a b : Nat) : Prop := a < b ∧ b + 1 + 2 * t ≤ a + 2 * t' ∧ ∀ Hs, FIN H H2 Hs t t' → ∀ (σ : GL) (Y : SX), RG σ Hs Y → RR Hs Y → sx_dy Y < 1000000 → ∃ v, VP w v ∧ (∀ l, run σ F' (b - a) a l = v :: l) ∧ ∀ fe M, ND w x ≤ fe → ev_ Hs Y fe w (mo_wk' M (nI t)) = some (v, mo_wk' M (nI t'))
/-- what reading from t gives: done, or broken off -/
def RDN (K : TK) (H : SH) (n : Nat) (M : MO) (N : Nat → NM) (w x t : Nat) (F : FM) (E : TE) (M1 : MO) (rc : RS) (rm : Option (Int32 × MO)) : Prop := ∃ (ok : Bool) (t' : Nat) (F' : FM) (E' : TE) (d' : Nat), rc = (if ok = true then tA K t' else tB K t', F', E') ∧ rm = some (if ok = true then 1 else 0, mS M1 t' d') ∧ t ≤ t' ∧ t' ≤ n ∧ (ok = true → d' = x ∧ t < t' ∧ ¬ (gk K (t' - 1)).val = 39 ∧ (1 ≤ t → pv (gk K (t - 1)) → SemT K H n M N t t' F E F' E' (VAL H w x t t' F')))
def gl (rc : RS → RS) (isop : Fin 54 → Bool) : Nat → RS → RS
  | 0, S => S
  | k + 1, S => if isop (s_Tokens_sign S.1) = true then gl rc isop k ((rc (s_Tokens_advance S.1, S.2.1, S.2.2)).1, s_Formulas_put (rc (s_Tokens_advance S.1, S.2.1, S.2.2)).2.1 (s_Tokens_sign S.1) 0, (rc (s_Tokens_advance S.1, S.2.1, S.2.2)).2.2) else S
def ml (H : SH) (rm : MO → Option (Int32 × MO)) (op : Int32 → Bool) : Nat → MO → Option (Int32 × MO)
  | 0, _ => none
  | k + 1, M => (rm M).bind fun p => if p.1 = 0 then some (0, p.2) else (if mo_tk p.2 < 401 then (if op (sh_kd H (mo_tk p.2)) = true then ml H rm op k (mo_tk' p.2 (mo_tk p.2 + 1)) else some (1, p.2)) else none)
def el (H : SH) (re : MO → Option (Int32 × MO)) (op : Int32 → Bool) (cm : Int32 → Int32 → Int32 → Int32) (ck : Int32 → Bool) : Nat → Int32 → MO → Option (Int32 × MO)
  | 0, _, _ => none
  | k + 1, v, M => if okI (mo_wk M) 401 = true then (if op (sh_kd H (mo_wk M).toNatClampNeg) = true then (re (mo_wk' M (mo_wk M + 1))).bind fun p => el H re op cm ck k (cm (sh_kd H (mo_wk M).toNatClampNeg) v p.1) p.2 else (if ck v = true then some (v, M) else none)) else none
/-- such a sign -/
def OPS (w : Nat) (isop : Fin 54 → Bool) (op : Int32 → Bool) (cm : Int32 → Int32 → Int32 → Int32) (ck : Int32 → Bool) : Prop := (∀ g, op (kOf g) = isop g) ∧ (∀ g, isop g = true → g.val < 52 ∧ ¬ g.val = 39 ∧ pv g ∧ neu g ∧ ¬ g.val = 51 ∧ ¬ sgk g.val = 0 ∧ ¬ sgk g.val = 1) ∧ (∀ g u v, isop g = true → s_Formulas_joined g u v = cm (kOf g) u v) ∧ (∀ g u v, isop g = true → VP w u → VP (w + 1) v → VP w (cm (kOf g) u v)) ∧ ∀ v, VP w v → ck v = true
def TAIL (H : SH) (w x t1 t2 : Nat) (op : Int32 → Bool) (cm : Int32 → Int32 → Int32 → Int32) (ck : Int32 → Bool) (F' : FM) (H2 : SH) (b c : Nat) : Prop := c + 2 * t1 ≤ b + 2 * t2 ∧ ∀ Hs, FIN H H2 Hs t1 t2 → ∀ (σ : GL) (Y : SX), RG σ Hs Y → RR Hs Y → sx_dy Y < 1000000 → ∀ v0, VP w v0 → ∃ v, VP w v ∧ (∀ l, run σ F' (c - b) b (v0 :: l) = v :: l) ∧ ∀ fe k M, ND (w + 1) x ≤ fe → t2 - t1 < k → el Hs (ev_ Hs Y fe (w + 1)) op cm ck k v0 (mo_wk' M (nI t1)) = some (v, mo_wk' M (nI t2))
theorem loop_ok {K : TK} {H : SH} {n : Nat} {M : MO} {N : Nat → NM} {w x : Nat} {rc : RS → RS} {rm : MO → Option (Int32 × MO)} {isop : Fin 54 → Bool} {op : Int32 → Bool} {cm : Int32 → Int32 → Int32 → Int32} {ck : Int32 → Bool} (hX : LX K H n) (hO : OPS w isop op cm ck) (hs : ∀ t F E M1, t ≤ n → RDN K H n M N (w + 1) x t F E M1 (rc (tA K t, F, E)) (rm (mS M1 t x))) : ∀ k t F E M1 kM, t ≤ n → n ≤ t + k → n < t + kM → ∃ (ok : Bool) (t' : Nat) (F' : FM) (E' : TE) (d' : Nat), gl rc isop k (tA K t, F, E) = (if ok = true then tA K t' else tB K t', F', E') ∧ (if op (sh_kd H t) = true then ml H rm op kM (mS M1 (t + 1) x) else some (1, mS M1 t x)) = some (if ok = true then 1 else 0, mS M1 t' d') ∧ t ≤ t' ∧ t' ≤ n ∧ (ok = true → d' = x ∧ (¬ (gk K (t - 1)).val = 39 → ¬ (gk K (t' - 1)).val = 39 ∧ (1 ≤ t → SemT K H n M N t t' F E F' E' (TAIL H w x t t' op cm ck F')))) := by
  obtain ⟨o1, o2, o3, o4, o5⟩ := hO
  have h400 := hX.1
  have stop : ∀ k t F E M1 kM, t ≤ n → isop (gk K t) = false → gl rc isop k (tA K t, F, E) = (tA K t, F, E) → ∃ (ok : Bool) (t' : Nat) (F' : FM) (E' : TE) (d' : Nat), gl rc isop k (tA K t, F, E) = (if ok = true then tA K t' else tB K t', F', E') ∧ (if op (sh_kd H t) = true then ml H rm op kM (mS M1 (t + 1) x) else some (1, mS M1 t x)) = some (if ok = true then 1 else 0, mS M1 t' d') ∧ t ≤ t' ∧ t' ≤ n ∧ (ok = true → d' = x ∧ (¬ (gk K (t - 1)).val = 39 → ¬ (gk K (t' - 1)).val = 39 ∧ (1 ≤ t → SemT K H n M N t t' F E F' E' (TAIL H w x t t' op cm ck F')))) := by
    intro k t F E M1 kM ht hf hg
    refine ⟨true, t, F, E, x, hg, ?_, Nat.le_refl _, ht, fun _ => ⟨rfl, fun h39 => ⟨h39, fun h1 => ⟨fun _ => rfl, fun hE a H1 w1 w2 w3 w4 => .inr ⟨rfl, sh_me H1, a, rfl, fun _ _ => rfl, w1, Nat.le_refl _, by omega, EXT.refl F a, by omega, fun Hs hF σ Y g1 g2 g3 v0 hv => ⟨v0, hv, fun l => by rw [Nat.sub_self]; rfl, fun fe k M' hfe hk => ?_⟩⟩⟩⟩⟩⟩
    · rw [(hX.2.2 t ht).2.1, o1, hf]
      rfl
    · obtain ⟨k', rfl⟩ := Nat.exists_eq_succ_of_ne_zero (show k ≠ 0 by omega)
      rw [el, if_pos (show okI (nI t) 401 = true from ok_nI (by omega) (by omega)), show (mo_wk (mo_wk' M' (nI t))).toNatClampNeg = t from nI_clamp (by omega), hF.1, (hX.2.2 t ht).2.1, o1, hf, if_neg (by decide), if_pos (o5 _ hv)]
  intro k
  induction k with
  | zero =>
    intro t F E M1 kM ht hk hkM
    have hn : t = n := by omega
    refine stop 0 t F E M1 kM ht ?_ rfl
    by_cases e : isop (gk K t) = true
    · have := (o2 _ e).1
      have := (hX.2.2 t ht).2.2.2.2.mpr this
      omega
    · exact Bool.not_eq_true _ ▸ e
  | succ k ih =>
    intro t F E M1 kM ht hk hkM
    by_cases e : isop (gk K t) = true
    · obtain ⟨p1, p2, p3, p4, p5, p6, p7⟩ := o2 _ e
      have htn : t < n := (hX.2.2 t ht).2.2.2.2.mpr p1
      have hgl : gl rc isop (k + 1) (tA K t, F, E) = gl rc isop k ((rc (tA K (t + 1), F, E)).1, s_Formulas_put (rc (tA K (t + 1), F, E)).2.1 (gk K t) 0, (rc (tA K (t + 1), F, E)).2.2) := by
        rw [gl]
        show (if isop (gk K t) = true then _ else _) = _
        rw [if_pos e]
        show gl rc isop k ((rc (s_Tokens_advance (tA K t), F, E)).1, s_Formulas_put (rc (s_Tokens_advance (tA K t), F, E)).2.1 (gk K t) 0, (rc (s_Tokens_advance (tA K t), F, E)).2.2) = _
        rw [hX.adv htn]
      obtain ⟨ok1, t1, F1, E1, d1, r1, r2, r3, r4, r5⟩ := hs (t + 1) F E M1 (by omega)
      obtain ⟨kM', rfl⟩ := Nat.exists_eq_succ_of_ne_zero (show kM ≠ 0 by omega)
      rw [hgl, r1, if_pos (show op (sh_kd H t) = true by rw [(hX.2.2 t ht).2.1, o1]; exact e), ml, r2]
      cases ok1 with
      | false =>
        refine ⟨false, t1, s_Formulas_put F1 (gk K t) 0, E1, d1, ?_, rfl, by omega, r4, fun w => by cases w⟩
        cases k with
        | zero => rfl
        | succ k =>
          rw [gl]
          show (if isop 53 = true then _ else _) = _
          rw [if_neg (fun w => absurd (o2 _ w).1 (by decide))]
      | true =>
        obtain ⟨s1, s2, s3, s4⟩ := r5 rfl
        subst s1
        obtain ⟨ok2, t2, F2, E2, d2, u1, u2, u3, u4, u5⟩ := ih t1 (s_Formulas_put F1 (gk K t) 0) E1 M1 kM' r4 (by omega) (by omega)
        refine ⟨ok2, t2, F2, E2, d2, u1, ?_, by omega, u4, fun hok => ?_⟩
        · show (if mo_tk (mS M1 t1 d1) < 401 then (if op (sh_kd H t1) = true then ml H rm op kM' (mS M1 (t1 + 1) d1) else some ((1 : Int32), mS M1 t1 d1)) else none) = _
          rw [if_pos (show mo_tk (mS M1 t1 d1) < 401 by show t1 < 401; omega)]
          exact u2
        · obtain ⟨v1, v2⟩ := u5 hok
          refine ⟨v1, fun h39 => ?_⟩
          obtain ⟨v3, v4⟩ := v2 s3
          refine ⟨v3, fun h1 => ?_⟩
          have q1 := sem_neu (M := M) (N := N) (F := F) (E := E) hX htn h1 h39 p4
          have q2 := s4 (by omega) (by rw [Nat.add_sub_cancel]; exact p3)
          have q3 := v4 (by omega)
          have q12 := q1.seq q2 (by omega) (by omega)
          have q12p := q12.put (g := gk K t) (o := 0) (by omega) (fun H2 a b hq => by
            obtain ⟨b0, Hm, a1, a2, a3, ⟨a4, a4b, -⟩, a5, a6, -⟩ := hq
            omega)
          refine (q12p.seq q3 (by omega) (by omega)).mono ?_
          rintro H2 a c hac ⟨b, H1, hab, hbc, ⟨b1, rfl, ⟨b0, Hm, c1, c2, rfl, c4, c5, c6, c7, c8, c9⟩, d2, d3, d4, d5⟩, ⟨t6, t7⟩, e1, e2, e3, e4, e5⟩
          obtain ⟨c41, c42, c43⟩ := c4
          refine ⟨by omega, fun Hs hF σ Y g1 g2 g3 v0 hv0 => ?_⟩
          have hF1 : FIN H H1 Hs (t + 1) t1 := ⟨hF.1, fun j j1 j2 => (hF.2.1 j (by omega) (by omega)).trans (e3 j (by omega)), fun s => by rw [← e4]; exact hF.2.2.1 s, hF.2.2.2⟩
          have hF2 : FIN H H2 Hs t1 t2 := ⟨hF.1, fun j j1 j2 => hF.2.1 j (by omega) j2, hF.2.2.1, hF.2.2.2⟩
          obtain ⟨v1', f1, f2, f3⟩ := c43 Hs hF1 σ Y g1 g2 g3
          have hv1 : VP w (cm (kOf (gk K t)) v0 v1') := o4 _ _ _ e hv0 f1
          obtain ⟨v, f4, f5, f6⟩ := t7 Hs hF2 σ Y g1 g2 g3 _ hv1
          refine ⟨v, f4, fun l => ?_, fun fe k M' hfe hk => ?_⟩
          · have x1 : run σ F2 (b1 - b0) b0 (v0 :: l) = v1' :: v0 :: l := by
              rw [← f2 (v0 :: l)]
              exact run_ext _ _ _ fun j j1 j2 => by
                obtain ⟨y1, y2⟩ := e5 j (by omega)
                obtain ⟨y3, y4⟩ := d5 j (by omega)
                exact ⟨y1.trans y3, y2.trans y4⟩
            have x2 : run σ F2 1 b1 (v1' :: v0 :: l) = cm (kOf (gk K t)) v0 v1' :: l := by
              show stp σ ((fm_sg F2 b1).getD 0) (fm_op F2 b1) (v1' :: v0 :: l) = _
              rw [(e5 b1 (by omega)).1, d3]
              unfold stp
              rw [if_neg (show ¬ ((some (gk K t)).getD 0).val = 51 from p5), if_neg (show ¬ sgk ((some (gk K t)).getD 0).val = 0 from p6), if_neg (show ¬ sgk ((some (gk K t)).getD 0).val = 1 from p7)]
              show s_Formulas_joined (gk K t) v0 v1' :: l = _
              rw [o3 _ _ _ e]
            rw [show c - b0 = (b1 - b0) + (1 + (c - (b1 + 1))) by omega, run_add, x1, run_add, show b0 + (b1 - b0) = b1 by omega, x2]
            exact f5 l
          · obtain ⟨k', rfl⟩ := Nat.exists_eq_succ_of_ne_zero (show k ≠ 0 by omega)
            rw [el, if_pos (show okI (nI t) 401 = true from ok_nI (by omega) (by omega)), show (mo_wk (mo_wk' M' (nI t))).toNatClampNeg = t from nI_clamp (by omega), hF.1, (hX.2.2 t ht).2.1, if_pos (by rw [o1]; exact e), show mo_wk' (mo_wk' M' (nI t)) (mo_wk (mo_wk' M' (nI t)) + 1) = mo_wk' M' (nI (t + 1)) by rw [← nI_1]]
            have y := f3 fe M' hfe
            rw [y]
            exact f6 fe k' M' hfe (by omega)
    · refine stop (k + 1) t F E M1 kM ht (Bool.not_eq_true _ ▸ e) ?_
      rw [gl]
      exact if_neg e
theorem level {K : TK} {H : SH} {n : Nat} {M : MO} {N : Nat → NM} {w x : Nat} {rc : RS → RS} {rm : MO → Option (Int32 × MO)} {isop : Fin 54 → Bool} {op : Int32 → Bool} {cm : Int32 → Int32 → Int32 → Int32} {ck : Int32 → Bool} (hX : LX K H n) (hO : OPS w isop op cm ck) (hw : w ≤ 6) (hvp : ∀ v, VP (w + 1) v → VP w v) (hs : ∀ t F E M1, t ≤ n → RDN K H n M N (w + 1) x t F E M1 (rc (tA K t, F, E)) (rm (mS M1 t x))) (hev : ∀ Hs Y fe M', ev_ Hs Y (fe + 1) w M' = (ev_ Hs Y fe (w + 1) M').bind fun p => el Hs (ev_ Hs Y fe (w + 1)) op cm ck 401 p.1 p.2) : ∀ t F E M1, t ≤ n → RDN K H n M N w x t F E M1 (gl rc isop 400 (rc (tA K t, F, E))) (ml H rm op 401 (mS M1 t x)) := by
  intro t F E M1 ht
  have h400 := hX.1
  have o2 := hO.2.1
  obtain ⟨ok1, t1, F1, E1, d1, r1, r2, r3, r4, r5⟩ := hs t F E M1 ht
  rw [r1, ml, r2]
  cases ok1 with
  | false =>
    refine ⟨false, t1, F1, E1, d1, ?_, rfl, r3, r4, fun w => by cases w⟩
    rw [gl]
    show (if isop 53 = true then _ else _) = _
    rw [if_neg (fun w => absurd (o2 _ w).1 (by decide))]
  | true =>
    obtain ⟨s1, s2, s3, s4⟩ := r5 rfl
    subst s1
    obtain ⟨ok2, t2, F2, E2, d2, u1, u2, u3, u4, u5⟩ := loop_ok hX hO hs 400 t1 F1 E1 M1 400 r4 (by omega) (by omega)
    refine ⟨ok2, t2, F2, E2, d2, u1, ?_, by omega, u4, fun hok => ?_⟩
    · show (if mo_tk (mS M1 t1 d1) < 401 then (if op (sh_kd H t1) = true then ml H rm op 400 (mS M1 (t1 + 1) d1) else some ((1 : Int32), mS M1 t1 d1)) else none) = _
      rw [if_pos (show mo_tk (mS M1 t1 d1) < 401 by show t1 < 401; omega)]
      exact u2
    · obtain ⟨v1, v2⟩ := u5 hok
      obtain ⟨v3, v4⟩ := v2 s3
      refine ⟨v1, by omega, v3, fun h1 hp => ?_⟩
      refine ((s4 h1 hp).seq (v4 (by omega)) (by omega) (by omega)).mono ?_
      rintro H2 a c hac ⟨b, H1, hab, hbc, ⟨c41, c42, c43⟩, ⟨t6, t7⟩, e1, e2, e3, e4, e5⟩
      refine ⟨by omega, by omega, fun Hs hF σ Y g1 g2 g3 => ?_⟩
      have hF1 : FIN H H1 Hs t t1 := ⟨hF.1, fun j j1 j2 => (hF.2.1 j (by omega) (by omega)).trans (e3 j (by omega)), fun s => by rw [← e4]; exact hF.2.2.1 s, hF.2.2.2⟩
      have hF2 : FIN H H2 Hs t1 t2 := ⟨hF.1, fun j j1 j2 => hF.2.1 j (by omega) j2, hF.2.2.1, hF.2.2.2⟩
      obtain ⟨v0, f1, f2, f3⟩ := c43 Hs hF1 σ Y g1 g2 g3
      obtain ⟨v, f4, f5, f6⟩ := t7 Hs hF2 σ Y g1 g2 g3 v0 (hvp _ f1)
      refine ⟨v, f4, fun l => ?_, fun fe M' hfe => ?_⟩
      · have x1 : run σ F2 (b - a) a l = v0 :: l := by
          rw [← f2 l]
          exact run_ext _ _ _ fun j j1 j2 => e5 j (by omega)
        rw [show c - a = (b - a) + (c - b) by omega, run_add, x1, show a + (b - a) = b by omega]
        exact f5 l
      · unfold ND at hfe
        obtain ⟨fe', rfl⟩ := Nat.exists_eq_succ_of_ne_zero (show fe ≠ 0 by omega)
        rw [hev, f3 fe' M' (by unfold ND; omega)]
        exact f6 fe' 401 M' (by unfold ND; omega) (by omega)
/-! the four loops, each by itself -/
def i32 (g : Fin 54) : Bool := decide (g.val = 32)
def i31 (g : Fin 54) : Bool := decide (g.val = 31)
def i41 (g : Fin 54) : Bool := decide (g.val = 41 ∨ g.val = 42)
def i43 (g : Fin 54) : Bool := decide (g.val = 43 ∨ g.val = 44)
def o32 (k : Int32) : Bool := decide (k = 32)
def o31 (k : Int32) : Bool := decide (k = 31)
def o46 (k : Int32) : Bool := decide (¬ s_Model_isIn k 46 47 = 0)
def o48 (k : Int32) : Bool := decide (¬ s_Model_isIn k 48 49 = 0)
def c32 (_ a b : Int32) : Int32 := a ||| b
def c31 (_ a b : Int32) : Int32 := a &&& b
def c46 (k a b : Int32) : Int32 := if k = 46 then a + b else a - b
def c48 (k a b : Int32) : Int32 := if k = 48 then a * b else if b = 0 then 0 else a / b
def ckT (_ : Int32) : Bool := true
theorem ops32 : OPS 0 i32 o32 c32 b01 := by
  refine ⟨by decide +kernel, by decide +kernel, fun g u v h => ?_, fun g u v h h1 h2 => ?_, fun v h => b01_of (h (by decide))⟩
  · have : g = 32 := Fin.ext (of_decide_eq_true h)
    subst this
    rfl
  · intro _
    rcases h1 (by decide) with rfl | rfl <;> rcases h2 (by decide) with rfl | rfl <;> (unfold c32; decide)
theorem ops31 : OPS 1 i31 o31 c31 b01 := by
  refine ⟨by decide +kernel, by decide +kernel, fun g u v h => ?_, fun g u v h h1 h2 => ?_, fun v h => b01_of (h (by decide))⟩
  · have : g = 31 := Fin.ext (of_decide_eq_true h)
    subst this
    rfl
  · intro _
    rcases h1 (by decide) with rfl | rfl <;> rcases h2 (by decide) with rfl | rfl <;> (unfold c31; decide)
theorem ops41 : OPS 3 i41 o46 c46 ckT := by
  refine ⟨by decide +kernel, by decide +kernel, fun g u v h => ?_, fun g u v h h1 h2 w => absurd w (by decide), fun v h => rfl⟩
  rcases of_decide_eq_true h with e | e
  · have : g = 41 := Fin.ext e
    subst this
    rfl
  · have : g = 42 := Fin.ext e
    subst this
    rfl
theorem ops43 : OPS 4 i43 o48 c48 ckT := by
  refine ⟨by decide +kernel, by decide +kernel, fun g u v h => ?_, fun g u v h h1 h2 w => absurd w (by decide), fun v h => rfl⟩
  rcases of_decide_eq_true h with e | e
  · have : g = 43 := Fin.ext e
    subst this
    rfl
  · have : g = 44 := Fin.ext e
    subst this
    rfl
theorem gl32 {N0 N1 N2 N3 N4 : NM} {rec : Nat → Nat → Fin 54 → RS → RS} {x : Nat} : ∀ k i K F E, l_Teacher_readTest_7 N0 N1 N2 N3 N4 rec x k i K F E = gl (fun S => rec 1 x 0 S) i32 k (K, F, E)
  | 0, _, _, _, _ => rfl
  | k + 1, i, K, F, E => by
    rw [l_Teacher_readTest_7, gl, gl32 k]
    by_cases e : (s_Tokens_sign K).val = 32
    · rw [if_pos e, if_pos (show i32 (s_Tokens_sign (K, F, E).1) = true from decide_eq_true e), show (32 : Fin 54) = s_Tokens_sign K from (Fin.ext e).symm]
    · rw [if_neg e, if_neg (show ¬ i32 (s_Tokens_sign (K, F, E).1) = true from fun w => e (of_decide_eq_true w))]
theorem gl31 {N0 N1 N2 N3 N4 : NM} {rec : Nat → Nat → Fin 54 → RS → RS} {x : Nat} : ∀ k i K F E, l_Teacher_readBoth_7 N0 N1 N2 N3 N4 rec x k i K F E = gl (fun S => rec 2 x 0 S) i31 k (K, F, E)
  | 0, _, _, _, _ => rfl
  | k + 1, i, K, F, E => by
    rw [l_Teacher_readBoth_7, gl, gl31 k]
    by_cases e : (s_Tokens_sign K).val = 31
    · rw [if_pos e, if_pos (show i31 (s_Tokens_sign (K, F, E).1) = true from decide_eq_true e), show (31 : Fin 54) = s_Tokens_sign K from (Fin.ext e).symm]
    · rw [if_neg e, if_neg (show ¬ i31 (s_Tokens_sign (K, F, E).1) = true from fun w => e (of_decide_eq_true w))]
theorem gl41 {N0 N1 N2 N3 N4 : NM} {rec : Nat → Nat → Fin 54 → RS → RS} {x : Nat} : ∀ k i K F E, l_Teacher_readSum_15 N0 N1 N2 N3 N4 rec x k i (s_Tokens_sign K) K F E = gl (fun S => rec 4 x 0 S) i41 k (K, F, E)
  | 0, _, _, _, _ => rfl
  | k + 1, i, K, F, E => by
    rw [l_Teacher_readSum_15, gl, gl41 k]
    by_cases e : (s_Tokens_sign K).val = 41
    · rw [if_pos e, if_pos (show i41 (s_Tokens_sign (K, F, E).1) = true from decide_eq_true (.inl e))]
    · rw [if_neg e]
      by_cases e2 : (s_Tokens_sign K).val = 42
      · rw [if_pos e2, if_pos (show i41 (s_Tokens_sign (K, F, E).1) = true from decide_eq_true (.inr e2))]
      · rw [if_neg e2, if_neg (show ¬ i41 (s_Tokens_sign (K, F, E).1) = true from fun w => (of_decide_eq_true w).elim e e2)]
theorem gl43 {N0 N1 N2 N3 N4 : NM} {rec : Nat → Nat → Fin 54 → RS → RS} {x : Nat} : ∀ k i K F E, l_Teacher_readProduct_15 N0 N1 N2 N3 N4 rec x k i (s_Tokens_sign K) K F E = gl (fun S => rec 5 x 0 S) i43 k (K, F, E)
  | 0, _, _, _, _ => rfl
  | k + 1, i, K, F, E => by
    rw [l_Teacher_readProduct_15, gl, gl43 k]
    by_cases e : (s_Tokens_sign K).val = 43
    · rw [if_pos e, if_pos (show i43 (s_Tokens_sign (K, F, E).1) = true from decide_eq_true (.inl e))]
    · rw [if_neg e]
      by_cases e2 : (s_Tokens_sign K).val = 44
      · rw [if_pos e2, if_pos (show i43 (s_Tokens_sign (K, F, E).1) = true from decide_eq_true (.inr e2))]
      · rw [if_neg e2, if_neg (show ¬ i43 (s_Tokens_sign (K, F, E).1) = true from fun w => (of_decide_eq_true w).elim e e2)]
theorem ml_eat {H : SH} {x : Int32} {M : MO} {f : MO → Option (Int32 × MO)} : ((s_Model_eat_0 H x M).bind fun p => if p.1 = 0 then some (1, p.2) else f p.2) = if mo_tk M < 401 then (if sh_kd H (mo_tk M) = x then f (mo_tk' M (mo_tk M + 1)) else some (1, M)) else none := by
  unfold s_Model_eat_0
  by_cases h : mo_tk M < 401
  · rw [if_pos h, if_pos h]
    by_cases e : sh_kd H (mo_tk M) = x
    · rw [if_pos e, if_pos e]; rfl
    · rw [if_neg e, if_neg e]; rfl
  · rw [if_neg h, if_neg h]; rfl
theorem ml_eatIn {H : SH} {x y : Int32} {M : MO} {f : MO → Option (Int32 × MO)} : ((s_Model_eatIn H x y M).bind fun p => if p.1 = 0 then some (1, p.2) else f p.2) = if mo_tk M < 401 then (if ¬ s_Model_isIn (sh_kd H (mo_tk M)) x y = 0 then f (mo_tk' M (mo_tk M + 1)) else some (1, M)) else none := by
  unfold s_Model_eatIn
  by_cases h : mo_tk M < 401
  · rw [if_pos h, if_pos h]
    by_cases e : s_Model_isIn (sh_kd H (mo_tk M)) x y = 0
    · rw [if_pos e, if_neg (fun w => w e)]; rfl
    · rw [if_neg e, if_pos e]; rfl
  · rw [if_neg h, if_neg h]; rfl
theorem ite_b {α : Type} {c : Prop} [Decidable c] {a b : α} : (if c then a else b) = if decide c = true then a else b := by
  by_cases h : c
  · rw [if_pos h, if_pos (decide_eq_true h)]
  · rw [if_neg h, if_neg (fun w => h (of_decide_eq_true w))]
theorem ml32 {H : SH} {rec : EV} : ∀ k M, l_Model_isTest H rec k M = ml H (rec 1) o32 k M
  | 0, _ => rfl
  | k + 1, M => by
    rw [l_Model_isTest, ml]
    congr 1
    funext p
    rw [ml_eat, ite_b (c := sh_kd H (mo_tk p.2) = 32), ml32 k]
    rfl
theorem ml31 {H : SH} {rec : EV} : ∀ k M, l_Model_isBoth H rec k M = ml H (rec 2) o31 k M
  | 0, _ => rfl
  | k + 1, M => by
    rw [l_Model_isBoth, ml]
    congr 1
    funext p
    rw [ml_eat, ite_b (c := sh_kd H (mo_tk p.2) = 31), ml31 k]
    rfl
theorem ml46 {H : SH} {rec : EV} : ∀ k M, l_Model_isSum H rec k M = ml H (rec 4) o46 k M
  | 0, _ => rfl
  | k + 1, M => by
    rw [l_Model_isSum, ml]
    congr 1
    funext p
    rw [ml_eatIn, ite_b (c := ¬ s_Model_isIn (sh_kd H (mo_tk p.2)) 46 47 = 0), ml46 k]
    rfl
theorem ml48 {H : SH} {rec : EV} : ∀ k M, l_Model_isProduct H rec k M = ml H (rec 5) o48 k M
  | 0, _ => rfl
  | k + 1, M => by
    rw [l_Model_isProduct, ml]
    congr 1
    funext p
    rw [ml_eatIn, ite_b (c := ¬ s_Model_isIn (sh_kd H (mo_tk p.2)) 48 49 = 0), ml48 k]
    rfl
theorem el_by {H : SH} {x : Int32} {M : MO} {f g : MO → Option (Int32 × MO)} : ((s_Model_goesBy H x M).bind fun p => if p.1 = 0 then g p.2 else f p.2) = if okI (mo_wk M) 401 = true then (if sh_kd H (mo_wk M).toNatClampNeg = x then f (mo_wk' M (mo_wk M + 1)) else g M) else none := by
  unfold s_Model_goesBy
  by_cases h : okI (mo_wk M) 401 = true
  · rw [if_pos h, if_pos h]
    by_cases e : sh_kd H (mo_wk M).toNatClampNeg = x
    · rw [if_pos e, if_pos e]; rfl
    · rw [if_neg e, if_neg e]; rfl
  · rw [if_neg h, if_neg h]; rfl
theorem el32 {H : SH} {Y : SX} {rec : EV} : ∀ k b M, l_Model_test H Y rec k b M = el H (rec 1) o32 c32 b01 k b M
  | 0, _, _ => rfl
  | k + 1, b, M => by
    rw [l_Model_test, el, el_by (g := fun M => if b01 b = true then some (b, M) else none) (f := fun M => (rec 1 M).bind fun p16_4 => l_Model_test H Y rec k (b ||| p16_4.1) p16_4.2), ite_b (c := sh_kd H (mo_wk M).toNatClampNeg = 32)]
    simp only [el32 k]
    rfl
theorem el31 {H : SH} {Y : SX} {rec : EV} : ∀ k b M, l_Model_both H Y rec k b M = el H (rec 2) o31 c31 b01 k b M
  | 0, _, _ => rfl
  | k + 1, b, M => by
    rw [l_Model_both, el, el_by (g := fun M => if b01 b = true then some (b, M) else none) (f := fun M => (rec 2 M).bind fun p16_4 => l_Model_both H Y rec k (b &&& p16_4.1) p16_4.2), ite_b (c := sh_kd H (mo_wk M).toNatClampNeg = 31)]
    simp only [el31 k]
    rfl
theorem el46 {H : SH} {Y : SX} {rec : EV} : ∀ k b M, l_Model_sum H Y rec k b M = el H (rec 4) o46 c46 ckT k b M
  | 0, _, _ => rfl
  | k + 1, v, M => by
    rw [l_Model_sum, el]
    by_cases h : okI (mo_wk M) 401 = true
    · simp only [if_pos h]
      by_cases e : s_Model_isIn (sh_kd H (mo_wk M).toNatClampNeg) 46 47 = 0
      · rw [if_pos e, if_neg (show ¬ o46 (sh_kd H (mo_wk M).toNatClampNeg) = true from fun w => of_decide_eq_true w e), if_pos (show ckT v = true from rfl)]
      · rw [if_neg e, if_pos (show o46 (sh_kd H (mo_wk M).toNatClampNeg) = true from decide_eq_true e)]
        congr 1
        funext p
        rw [el46 k, el46 k]
        unfold c46
        by_cases e2 : sh_kd H (mo_wk M).toNatClampNeg = 46
        · rw [if_pos e2, if_pos e2]
        · rw [if_neg e2, if_neg e2]
    · rw [if_neg h, if_neg h]
theorem el48 {H : SH} {Y : SX} {rec : EV} : ∀ k b M, l_Model_product H Y rec k b M = el H (rec 5) o48 c48 ckT k b M
  | 0, _, _ => rfl
  | k + 1, v, M => by
    rw [l_Model_product, el]
    by_cases h : okI (mo_wk M) 401 = true
    · simp only [if_pos h]
      by_cases e : s_Model_isIn (sh_kd H (mo_wk M).toNatClampNeg) 48 49 = 0
      · rw [if_pos e, if_neg (show ¬ o48 (sh_kd H (mo_wk M).toNatClampNeg) = true from fun w => of_decide_eq_true w e), if_pos (show ckT v = true from rfl)]
      · rw [if_neg e, if_pos (show o48 (sh_kd H (mo_wk M).toNatClampNeg) = true from decide_eq_true e)]
        congr 1
        funext p
        rw [el48 k, el48 k, el48 k]
        unfold c48
        by_cases e2 : sh_kd H (mo_wk M).toNatClampNeg = 48
        · rw [if_pos e2, if_pos e2]
        · rw [if_neg e2, if_neg e2]
          by_cases e3 : p.1 = 0
          · rw [if_pos e3, if_pos e3]
          · rw [if_neg e3, if_neg e3]
    · rw [if_neg h, if_neg h]
theorem ev32 (Hs : SH) (Y : SX) (fe : Nat) (M' : MO) : ev_ Hs Y (fe + 1) 0 M' = (ev_ Hs Y fe (0 + 1) M').bind fun p => el Hs (ev_ Hs Y fe (0 + 1)) o32 c32 b01 401 p.1 p.2 := by
  show (ev_ Hs Y fe 1 M').bind (fun p => l_Model_test Hs Y (ev_ Hs Y fe) 401 p.1 p.2) = _
  simp only [el32]
theorem ev31 (Hs : SH) (Y : SX) (fe : Nat) (M' : MO) : ev_ Hs Y (fe + 1) 1 M' = (ev_ Hs Y fe (1 + 1) M').bind fun p => el Hs (ev_ Hs Y fe (1 + 1)) o31 c31 b01 401 p.1 p.2 := by
  show (ev_ Hs Y fe 2 M').bind (fun p => l_Model_both Hs Y (ev_ Hs Y fe) 401 p.1 p.2) = _
  simp only [el31]
theorem ev46 (Hs : SH) (Y : SX) (fe : Nat) (M' : MO) : ev_ Hs Y (fe + 1) 3 M' = (ev_ Hs Y fe (3 + 1) M').bind fun p => el Hs (ev_ Hs Y fe (3 + 1)) o46 c46 ckT 401 p.1 p.2 := by
  show (ev_ Hs Y fe 4 M').bind (fun p => l_Model_sum Hs Y (ev_ Hs Y fe) 401 p.1 p.2) = _
  simp only [el46]
theorem ev48 (Hs : SH) (Y : SX) (fe : Nat) (M' : MO) : ev_ Hs Y (fe + 1) 4 M' = (ev_ Hs Y fe (4 + 1) M').bind fun p => el Hs (ev_ Hs Y fe (4 + 1)) o48 c48 ckT 401 p.1 p.2 := by
  show (ev_ Hs Y fe 5 M').bind (fun p => l_Model_product Hs Y (ev_ Hs Y fe) 401 p.1 p.2) = _
  simp only [el48]
