/-! lines: sums and tests in them; orders -/
theorem core {K : TK} {H : SH} {n : Nat} {M : MO} {N : Nat → NM} {s : Bool × Nat} {F : FM} {E : TE} {M1 : MO} {g : Fin 54} {w : Nat} {kg : Int32} {G : Int32 × MO → Option (Int32 × MO)} (hX : LX K H n) (hW : LW (mo_tk' M n) K (sh_fr H) (sh_mn H) n) (hs : s.2 ≤ n) (hg : g.val < 52) (hp : pv g) (hk : kg = kOf g) (hw : w ≤ 5) : ∃ (u : Bool × Nat) (d' : Nat), (rd_ (N 0) (N 1) (N 2) (N 3) (N 4) 64 w 0 0 (s_Tokens_expect (st K s) g, F, E)).1 = st K u ∧ s.2 ≤ u.2 ∧ u.2 ≤ n ∧ (s.1 = false → u = s) ∧ (s.1 = true → ((s_Model_eat_0 H kg (mS M1 s.2 0)).bind fun p => if p.1 = 0 then some (0, p.2) else ((rk_ H 64 w p.2).bind fun q => if q.1 = 0 then some (0, q.2) else G q)) = if u.1 = true then G (1, mS M1 u.2 0) else some (0, mS M1 u.2 d')) ∧ (u.1 = true → s.1 = true ∧ (gk K s.2).val = g.val ∧ s.2 + 1 < u.2 ∧ ¬ (gk K (u.2 - 1)).val = 39 ∧ SemT K H n M N (s.2 + 1) u.2 F E (rd_ (N 0) (N 1) (N 2) (N 3) (N 4) 64 w 0 0 (s_Tokens_expect (st K s) g, F, E)).2.1 (rd_ (N 0) (N 1) (N 2) (N 3) (N 4) 64 w 0 0 (s_Tokens_expect (st K s) g, F, E)).2.2 (VAL H w 0 (s.2 + 1) u.2 (rd_ (N 0) (N 1) (N 2) (N 3) (N 4) 64 w 0 0 (s_Tokens_expect (st K s) g, F, E)).2.1)) := by
  have h400 := hX.1
  obtain ⟨b, t⟩ := s
  cases b with
  | false =>
    have e : s_Tokens_expect (st K (false, t)) g = tB K t := by
      rw [exp_st hX hg hs]; rfl
    obtain ⟨F', E', h⟩ := rd_B (N := N) hX hs 64 w 0 0 F E (.inl hw)
    rw [e, h]
    exact ⟨(false, t), 0, rfl, Nat.le_refl _, hs, fun _ => rfl, (fun w => by cases w), (fun w => by cases w)⟩
  | true =>
    by_cases eg : (gk K t).val = g.val
    · have ht : t < n := (hX.2.2 t hs).2.2.2.2.mpr (by omega)
      have e : s_Tokens_expect (st K (true, t)) g = tA K (t + 1) := by
        rw [exp_st hX hg hs]
        unfold nx1
        rw [if_pos rfl, if_pos eg]
        rfl
      rw [e]
      obtain ⟨ok, t1, F1, E1, d1, r1, r2, r3, r4, r5⟩ := read_ok (M := M) (N := N) hX hW 64 w 0 hw (by omega) (by unfold ND; omega) 64 64 (by unfold ND; omega) (by unfold ND; omega) (t + 1) F E M1 (by omega)
      rw [r1]
      refine ⟨(ok, t1), d1, rfl, by show t ≤ t1; omega, r4, fun w => (by cases w), fun _ => ?_, fun hok => ?_⟩
      · show ((s_Model_eat_0 H kg (mS M1 t 0)).bind _) = _
        rw [eat_S hX hs hk, if_pos eg]
        simp only [Option.bind_some, if10]
        rw [r2]
        cases ok with
        | false => rfl
        | true =>
          obtain ⟨s1, -⟩ := r5 rfl
          rw [s1]
          rfl
      · obtain ⟨s1, s2, s3, s4⟩ := r5 hok
        exact ⟨rfl, eg, by show t + 1 < t1; omega, s3, s4 (by omega) (by rw [Nat.add_sub_cancel, show gk K t = g from Fin.ext eg]; exact hp)⟩
    · have e : s_Tokens_expect (st K (true, t)) g = tB K t := by
        rw [exp_st hX hg hs]
        unfold nx1
        rw [if_pos rfl, if_neg eg]
        rfl
      obtain ⟨F', E', h⟩ := rd_B (N := N) hX hs 64 w 0 0 F E (.inl hw)
      rw [e, h]
      refine ⟨(false, t), 0, rfl, Nat.le_refl _, hs, fun w => (by cases w), fun _ => ?_, fun w => by cases w⟩
      show ((s_Model_eat_0 H kg (mS M1 t 0)).bind _) = _
      rw [eat_S hX hs hk, if_neg eg]
      rfl
theorem ord_add {T : TM} {F : FM} {x : Int32} {k : Nat} (h : T.2 = k) : (k < 20 → s_Orders_add T F x = (1, (upd (zeroF T.1 (k * 8) (k * 8 + 8)) (8 * k + 0) x, k + 1))) ∧ (k = 20 → (s_Orders_add T F x).1 = 0) := by
  constructor
  · intro hk
    obtain ⟨a1, a2⟩ := tadd_at (T := T) (cap := 20) (by omega)
    unfold s_Orders_add
    rw [a1, a2, h, if_neg (nI_pos (by omega)), tsI_p (by omega) (by omega)]
  · intro hk
    unfold s_Orders_add taddR
    rw [if_neg (show ¬ T.2 < 20 by omega), if_pos (by decide)]
theorem note_p {f : Nat → Int32} {k c : Nat} {F : FM} {v : Int32} (hk : k < 20) : s_Orders_note (f, k + 1) F c v = (upd f (8 * k + c) v, k + 1) := by
  unfold s_Orders_note
  rw [show (nI (f, k + 1).2 - 1 : Int32) = nI k from nI_pred k, tsI_p (by omega) (by omega)]
theorem start_o {K : TK} {H Ha : SH} {n t : Nat} {M : MO} {g : Fin 54} (hX : LX K H n) (ht : t < n) (hS : SameT H Ha) (h0 : t = 0 ∨ (gk K (t - 1)).val = 39) (hg : gk K t = g) (hn : s_Model_isOrder (kOf g) = 1) : s_Model_errorOf (mo_tk' M n) Ha t = (s_Model_errorOfOrder (mo_tk' M n) (sh_ln' Ha (kOf g)) (kOf g)) := by
  have h400 := hX.1
  have hk : sh_kd Ha t = kOf g := by rw [hS.1, (hX.2.2 t (by omega)).2.1, hg]
  have e27 : l_Model_errorOf_27 (mo_tk' M n) t 1 (sh_ln' Ha (sh_kd Ha t)) = (s_Model_errorOfOrder (mo_tk' M n) (sh_ln' Ha (kOf g)) (kOf g)) := by
    rw [l_Model_errorOf_27, if_pos (by omega)]
    show (if s_Model_isOrder (sh_kd Ha t) = 0 then _ else ((s_Model_errorOfOrder (mo_tk' M n) (sh_ln' Ha (sh_kd Ha t)) (sh_kd Ha t)).bind fun p47_15 => some (p47_15.1, p47_15.2))) = _
    rw [hk, if_neg (by rw [hn]; decide)]
    cases s_Model_errorOfOrder (mo_tk' M n) (sh_ln' Ha (kOf g)) (kOf g) <;> rfl
  unfold s_Model_errorOf
  rcases h0 with h0 | h0
  · rw [h0] at e27 ⊢
    rw [if_pos (show nI 0 = 0 from rfl), if_pos (by decide)]
    exact e27
  · by_cases z : t = 0
    · rw [z] at e27 ⊢
      rw [if_pos (show nI 0 = 0 from rfl), if_pos (by decide)]
      exact e27
    · rw [if_neg (c := nI t = 0) (fun w => absurd ((nI_eq (a := t) (b := 0) (by omega) (by decide)).mp w) z), if_pos (show 1 ≤ t by omega), if_pos (show t - 1 < 401 by omega), if_pos (show sh_kd Ha (t - 1) = 44 by rw [hS.1, (hX.2.2 (t - 1) (by omega)).2.1, show gk K (t - 1) = 39 from Fin.ext h0]; rfl), if_pos (show t < 401 by omega)]
      exact e27
/-- an order's keyword -/
theorem ord_step {K : TK} {H Ha : SH} {n t k : Nat} {M : MO} {g : Fin 54} {T : TM} {F : FM} {E : TE} {x : Int32} (hX : LX K H n) (ht : t < n) (hS : SameT H Ha) (h0 : t = 0 ∨ (gk K (t - 1)).val = 39) (hg : gk K t = g) (hn : s_Model_isOrder (kOf g) = 1) (hE : te_er E = 0) (hT : T.2 = k) (hk : sh_or Ha = k) (h20 : k ≤ 20) : ERR K M n t Ha (s_Teacher_newOrder T F (tA K t) E x).2 ∨ (k < 20 ∧ s_Teacher_newOrder T F (tA K t) E x = ((upd (zeroF T.1 (k * 8) (k * 8 + 8)) (8 * k + 0) x, k + 1), E) ∧ RDm M n t Ha = RDm M n (t + 1) (sh_or' (sh_wh' (sh_ds' (sh_ln' Ha (kOf g)) (upd (sh_ds Ha) k (kOf g))) (upd (sh_wh Ha) k (-1))) (k + 1))) := by
  have h400 := hX.1
  have e := start_o (M := M) hX ht hS h0 hg hn
  unfold s_Model_errorOfOrder at e
  obtain ⟨a1, a2⟩ := ord_add (T := T) (F := F) (x := x) hT
  unfold s_Teacher_newOrder
  by_cases hz : k = 20
  · rw [if_pos (a2 hz)]
    show ERR K M n t Ha (s_Teacher_tellError (tA K t) E 4) ∨ _
    rw [if_pos (show nI (sh_or (sh_ln' Ha (kOf g))) = 20 by show nI (sh_or Ha) = 20; rw [hk, hz]; rfl)] at e
    rw [tell_0 hE]
    exact .inl (err_k (H2 := sh_ln' Ha (kOf g)) hX ht hS rfl (by decide) e)
  · have hk20 : k < 20 := by omega
    rw [if_neg (show ¬ nI (sh_or (sh_ln' Ha (kOf g))) = 20 by show ¬ nI (sh_or Ha) = 20; rw [hk]; exact fun w => hz ((nI_eq (b := 20) (by omega) (by decide)).mp w)), if_pos (show sh_or (sh_ln' Ha (kOf g)) < 20 by show sh_or Ha < 20; omega), if_pos (show sh_or (sh_ln' Ha (kOf g)) < 20 by show sh_or Ha < 20; omega)] at e
    rw [a1 hk20, if_neg (show ¬ (1 : Int32) = 0 by decide)]
    refine .inr ⟨hk20, rfl, (rd_step ht h400 e).trans ((if_pos rfl).trans ?_)⟩
    show RDm M n (t + 1) (sh_or' (sh_wh' (sh_ds' (sh_ln' Ha (kOf g)) (upd (sh_ds Ha) (sh_or Ha) (kOf g))) (upd (sh_wh Ha) (sh_or Ha) (-1))) (sh_or Ha + 1)) = _
    rw [hk]
/-- when, with -/
theorem when_step {K : TK} {H Ha : SH} {n t k : Nat} {M : MO} (hX : LX K H n) (ht : t < n) (hS : SameT H Ha) (h1 : 1 ≤ t) (h39 : ¬ (gk K (t - 1)).val = 39) (hg : (gk K t).val = 22) (hk : sh_or Ha = k + 1) (h20 : k < 20) : RDm M n t Ha = RDm M n (t + 1) (sh_wh' Ha (upd (sh_wh Ha) k (nI (t + 1)))) := by
  have h400 := hX.1
  have e : s_Model_errorOf (mo_tk' M n) Ha t = some (0, sh_wh' Ha (upd (sh_wh Ha) k (nI (t + 1)))) := by
    rw [err_in h1 (by omega) (by rw [hS.1, (hX.2.2 (t - 1) (by omega)).2.1]; exact fun w => h39 (congrArg Fin.val ((kOf_iff _ 39).mp w))), l_Model_errorOf_27, hS.1, (hX.2.2 t (by omega)).2.1, show gk K t = 22 from Fin.ext hg, if_pos (by omega), if_pos (by decide), if_neg (by decide), if_pos (by decide), hk, if_pos (by omega), Nat.add_sub_cancel, if_pos h20]
  exact (rd_step ht h400 e).trans (if_pos rfl)
theorem with_step {K : TK} {H Ha : SH} {n t k : Nat} {M : MO} (hX : LX K H n) (ht : t < n) (hS : SameT H Ha) (h1 : 1 ≤ t) (h39 : ¬ (gk K (t - 1)).val = 39) (hg : (gk K t).val = 20) (hk : sh_or Ha = k + 1) (h20 : k < 20) : RDm M n t Ha = RDm M n (t + 1) (sh_su' Ha (upd (sh_su Ha) k (nI (t + 1)))) := by
  have h400 := hX.1
  have e : s_Model_errorOf (mo_tk' M n) Ha t = some (0, sh_su' Ha (upd (sh_su Ha) k (nI (t + 1)))) := by
    rw [err_in h1 (by omega) (by rw [hS.1, (hX.2.2 (t - 1) (by omega)).2.1]; exact fun w => h39 (congrArg Fin.val ((kOf_iff _ 39).mp w))), l_Model_errorOf_27, hS.1, (hX.2.2 t (by omega)).2.1, show gk K t = 20 from Fin.ext hg, if_pos (by omega), if_pos (by decide), if_pos (by decide), hk, if_pos (by omega), Nat.add_sub_cancel, if_pos h20]
  exact (rd_step ht h400 e).trans (if_pos rfl)
theorem line_day {K : TK} {H : SH} {n : Nat} {M : MO} {d : Int32} {t : Nat} {F : FM} {E : TE} {N0 N1 N2 N3 N4 : NM} {T : TM} {σ : GL} {M1 : MO} (hX : LX K H n) (hW : LW (mo_tk' M n) K (sh_fr H) (sh_mn H) n) (ht : t < n) (hg : gk K t = 13) : LINE K H n M d t F E (NN N0 N1 N2 N3 N4) T σ M1 (s_Tokens_expect (s_Teacher_readDay (tA K t) F E N0 N1 N2 N3 N4 T σ).1 39) F (s_Teacher_readDay (tA K t) F E N0 N1 N2 N3 N4 T σ).2.1 (NN N0 N1 N2 N3 N4) T (s_Teacher_readDay (tA K t) F E N0 N1 N2 N3 N4 T σ).2.2 (isL H (mS M1 t 0)) := by
  have h400 := hX.1
  unfold s_Teacher_readDay
  obtain ⟨a, ea⟩ : ∃ z, z = s_Teacher_number (tA K t) E 13 0 7 := ⟨_, rfl⟩
  rw [← ea]
  obtain ⟨b, eb⟩ : ∃ z, z = s_Teacher_number a.2.1 a.2.2 14 0 30 := ⟨_, rfl⟩
  rw [← eb]
  obtain ⟨s1, es1⟩ : ∃ z, z = nx K 13 51 (true, t) := ⟨_, rfl⟩
  have l1 : t ≤ s1.2 ∧ s1.2 ≤ n := by rw [es1]; exact nx_le (s := (true, t)) hX (by decide) (by decide) (Nat.le_of_lt ht)
  obtain ⟨s2, es2⟩ : ∃ z, z = nx K 14 51 s1 := ⟨_, rfl⟩
  have l2 : s1.2 ≤ s2.2 ∧ s2.2 ≤ n := by rw [es2]; exact nx_le hX (by decide) (by decide) l1.2
  obtain ⟨s3, es3⟩ : ∃ z, z = nx1 K 39 s2 := ⟨_, rfl⟩
  have l3 : s2.2 ≤ s3.2 ∧ s3.2 ≤ n := by rw [es3]; exact nx1_le hX (by decide) l2.2
  have ka : a.2.1 = st K s1 := by rw [ea, es1]; exact num_st (s := (true, t)) hX (by decide) (Nat.le_of_lt ht)
  have kb : b.2.1 = st K s2 := by rw [eb, ka, es2]; exact num_st hX (by decide) l1.2
  have ke : s_Tokens_expect b.2.1 39 = st K s3 := by rw [kb, es3]; exact exp_st hX (by decide) l2.2
  have hm : isL H (mS M1 t 0) = md s3 M1 := by
    have hl : s_Model_isLine H (mS M1 t 0) = md s2 M1 := by
      unfold s_Model_isLine
      rw [if_pos (show mo_tk (mS M1 t 0) < 401 by show t < 401; omega), show sh_kd H (mo_tk (mS M1 t 0)) = 13 by (show sh_kd H t = _; rw [(hX.2.2 t (by omega)).2.1, hg]; rfl), if_neg (show ¬ (13 : Int32) = 0 by decide), if_neg (show ¬ (13 : Int32) = 3 by decide), if_neg (show ¬ (13 : Int32) = 6 by decide), if_neg (show ¬ (13 : Int32) = 9 by decide), if_neg (show ¬ (13 : Int32) = 11 by decide), if_pos (show (13 : Int32) = 13 from rfl)]
      rw [isNum_md hX (Nat.le_of_lt ht) (k := 13) (y := 13) (by decide) rfl, ← es1, md_num hX l1.2 (k := 14) (y := 14) (by decide) rfl, ← es2, md_end]
    unfold isL
    rw [hl, md_eat hX l2.2 (k := 44) (y := 39) (by decide) rfl, ← es3, md_end]
  refine ⟨s3, 0, ke, hm, by omega, by omega, fun hok => ?_⟩
  obtain ⟨o2, g39, p3⟩ : s2.1 = true ∧ (gk K s2.2).val = 39 ∧ s3.2 = s2.2 + 1 := by rw [es3] at hok ⊢; exact nx1_true hok
  obtain ⟨o1, x2, y2, p2⟩ : s1.1 = true ∧ (gk K s1.2).val = 14 ∧ (gk K (s1.2 + 1)).val = 51 ∧ s2.2 = s1.2 + 2 := by rw [es2] at o2 ⊢; exact nx_true o2
  obtain ⟨-, x1, y1, p1⟩ : true = true ∧ (gk K t).val = 13 ∧ (gk K (t + 1)).val = 51 ∧ s1.2 = t + 2 := by rw [es1] at o1 ⊢; exact nx_true o1
  replace p2 : s2.2 = t + 4 := by omega
  rw [p1] at x2 y2
  replace y2 : (gk K (t + 3)).val = 51 := y2
  replace p3 : s3.2 = t + 5 := by omega
  rw [p2] at g39
  replace ka : a.2.1 = tA K (t + 2) := by rw [ka]; unfold st; rw [if_pos o1, p1]
  refine ⟨rfl, by omega, by rw [show s3.2 - 1 = t + 4 by omega]; exact g39, fun hE => ?_, fun hE H1 hL h0 => ?_⟩
  · have z1 : a.2.2 = E := by rw [ea]; exact num_sticky hE
    have z2 : b.2.2 = E := by rw [eb, z1]; exact num_sticky hE
    exact z2
  · obtain ⟨lS, lN, lC, lG, lV, lO, aa, la1, la2⟩ := hL
    obtain ⟨lG0, lG1, lG2, lG3, lG4, lG5, lG6, lG7⟩ := lG
    obtain ⟨lV0, lV1, lV2, lV3, lV4, lV5⟩ := lV
    have r0 := start_k (M := M) hX ht lS h0 hg (by decide)
    obtain ⟨Ha, eHa⟩ : ∃ z, z = sh_ln' H1 (kOf 13) := ⟨_, rfl⟩
    rw [← eHa] at r0
    have sa := sh_set_ln eHa
    have Sa : SameT H Ha := by unfold SameT; simp only [sa]; exact lS
    obtain ⟨v0, va0, vb0, vc0⟩ := hW.2 (t + 1) (by omega) y1 Ha Sa.2.1 Sa.2.2
    have ea_ := en_13 (M := mo_tk' M n) (i := t + 1) (v := v0) (by omega) (by omega) (by rw [Nat.add_sub_cancel, Sa.1, (hX.2.2 t (by omega)).2.1, hg]; rfl) (by rw [Sa.1, (hX.2.2 (t + 1) (by omega)).2.1, show gk K (t + 1) = 51 from Fin.ext y1]; rfl) vb0
    have da : a = s_Teacher_number (tA K t) E (gk K t) (nI 0) (nI 7) := by rw [ea, hg]; rfl
    rcases num_step (M := M) (Ha := Ha) (Hw := sh_dt' (sh_me' Ha (upd (sh_me Ha) (t + 1) (nI v0))) (nI v0)) (t := t) (k := v0) (l := 0) (h := 7) (E := E) hX (show t + 1 < n by omega) Sa (by decide) (by decide) va0 vc0 y1 hE rfl ea_ with er | ⟨n0a, n0b, n0c, n0d, n0e⟩
    · refine .inl (er.back r0 ?_)
      have w0 : ¬ te_er a.2.2 = 0 := by rw [da]; exact ne_le er.1
      rw [show b.2.2 = a.2.2 by rw [eb]; exact num_sticky w0, da]
    have qa : a.1 = nI v0 := by rw [da]; exact n0c
    have E2 : a.2.2 = E := by rw [da]; exact n0d
    obtain ⟨Hc0, eHc0⟩ : ∃ z, z = sh_me' Ha (upd (sh_me Ha) (t + 1) (nI v0)) := ⟨_, rfl⟩
    obtain ⟨Hc, eHc⟩ : ∃ z, z = sh_dt' Hc0 (nI v0) := ⟨_, rfl⟩
    have n0f : RDm M n (t + 1) Ha = RDm M n (t + 2) Hc := by rw [eHc, eHc0]; exact n0e
    have tc := sh_set_dt eHc
    have tc0 := sh_set_me eHc0
    have Sc : SameT H Hc := by unfold SameT; simp only [tc, tc0, sa]; exact lS
    have R2 := r0.trans n0f
    have Nb := neu_k (M := M) (g := 14) hX (show t + 2 < n by omega) Sc (by omega) (by rw [show t + 2 - 1 = t + 1 by omega]; omega) (Fin.ext x2) (by decide)
    obtain ⟨v1, va1, vb1, vc1⟩ := hW.2 (t + 3) (by omega) y2 Hc Sc.2.1 Sc.2.2
    have eb_ := en_14 (M := mo_tk' M n) (i := t + 3) (v := v1) (d := v0) (by omega) (by omega) (by rw [show t + 3 - 1 = t + 2 by omega, Sc.1, (hX.2.2 (t + 2) (by omega)).2.1, show gk K (t + 2) = 14 from Fin.ext x2]; rfl) (by rw [Sc.1, (hX.2.2 (t + 3) (by omega)).2.1, show gk K (t + 3) = 51 from Fin.ext y2]; rfl) vb1 (by simp only [tc]) (by omega)
    have db : b = s_Teacher_number (tA K (t + 2)) E (gk K (t + 2)) (nI 0) (nI 30) := by rw [eb, ka, E2, show gk K (t + 2) = 14 from Fin.ext x2]; rfl
    rcases num_step (M := M) (Ha := Hc) (Hw := sh_wa' (sh_me' Hc (upd (sh_me Hc) (t + 3) (nI v1))) (upd (sh_wa Hc) v0 (nI v1))) (t := t + 2) (k := v1) (l := 0) (h := 30) (E := E) hX (show t + 2 + 1 < n by omega) Sc (by decide) (by decide) va1 vc1 y2 hE rfl eb_ with er | ⟨n1a, n1b, n1c, n1d, n1e⟩
    · refine .inl (er.back (R2.trans Nb) ?_)
      rw [db]
    have qb : b.1 = nI v1 := by rw [db]; exact n1c
    have E3 : b.2.2 = E := by rw [db]; exact n1d
    obtain ⟨Hd0, eHd0⟩ : ∃ z, z = sh_me' Hc (upd (sh_me Hc) (t + 3) (nI v1)) := ⟨_, rfl⟩
    obtain ⟨Hd, eHd⟩ : ∃ z, z = sh_wa' Hd0 (upd (sh_wa Hc) v0 (nI v1)) := ⟨_, rfl⟩
    have n1f : RDm M n (t + 3) Hc = RDm M n (t + 4) Hd := by rw [eHd, eHd0]; exact n1e
    have td := sh_set_wa eHd
    have td0 := sh_set_me eHd0
    have Sd : SameT H Hd := by unfold SameT; simp only [td, td0, tc, tc0, sa]; exact lS
    have NZ := neu_k (M := M) (g := 39) hX (show t + 4 < n by omega) Sd (by omega) (by rw [show t + 4 - 1 = t + 3 by omega]; omega) (Fin.ext g39) (by decide)
    have hha : sh_ha Hd = sh_ha H1 := by simp only [td, td0, tc, tc0, sa]
    have hwa : sh_wa Hd = upd (sh_wa H1) v0 (nI v1) := by simp only [td, tc, tc0, sa]
    have fme : ∀ j, j < t → sh_me Hd j = sh_me H1 j := fun j hj => by
      simp only [td, td0, tc, tc0, sa]
      rw [upd_ne _ _ (by omega), upd_ne _ _ (by omega)]
    have hcw : s_Glacier_changeWarmth σ a.1 b.1 = gSW σ (upd (gW σ) v0 (nI v1)) := by
      unfold s_Glacier_changeWarmth
      rw [qa, qb, if_neg (nI_pos (by omega)), if_neg (fun w => absurd ((nI_leI (by omega) (by omega)).mp w) (by omega)), nI_clamp (by omega)]
    have Y : ∀ {α : Type} {f : SH → α}, (f Hd = f H1) → f Hd = f H1 := fun h => h
    refine .inr ⟨E3, Hd, ?_, Sd, lN.congr hha (by simp only [td, td0, tc, tc0, sa]), by unfold RC at lC ⊢; rw [hha, show sh_or Hd = sh_or H1 by simp only [td, td0, tc, tc0, sa]]; exact lC, ?_, ?_, ?_, aa, la1, by omega⟩
    · rw [p3]
      exact (((R2.trans Nb).trans n1f).trans NZ)
    · rw [hcw]
      unfold LG
      rw [hha, hwa, show sh_hg Hd = sh_hg H1 by simp only [td, td0, tc, tc0, sa], show sh_sn Hd = sh_sn H1 by simp only [td, td0, tc, tc0, sa], show sh_si Hd = sh_si H1 by simp only [td, td0, tc, tc0, sa], show sh_dp Hd = sh_dp H1 by simp only [td, td0, tc, tc0, sa], show sh_ab Hd = sh_ab H1 by simp only [td, td0, tc, tc0, sa], show sh_br Hd = sh_br H1 by simp only [td, td0, tc, tc0, sa], show sh_di Hd = sh_di H1 by simp only [td, td0, tc, tc0, sa], show sh_fo Hd = sh_fo H1 by simp only [td, td0, tc, tc0, sa], show sh_sz Hd = sh_sz H1 by simp only [td, td0, tc, tc0, sa], show sh_sk Hd = sh_sk H1 by simp only [td, td0, tc, tc0, sa], show sh_ti Hd = sh_ti H1 by simp only [td, td0, tc, tc0, sa]]
      refine ⟨lG0, lG1, lG2, lG3, lG4, fun i hi => ?_, lG6, lG7⟩
      show upd (gW σ) v0 (nI v1) i = upd (sh_wa H1) v0 (nI v1) i
      by_cases z : i = v0
      · rw [z, upd_at, upd_at]
      · rw [upd_ne _ _ z, upd_ne _ _ z]
        exact lG5 i hi
    · unfold LV
      rw [hha, hwa, show sh_hg Hd = sh_hg H1 by simp only [td, td0, tc, tc0, sa], show sh_sn Hd = sh_sn H1 by simp only [td, td0, tc, tc0, sa], show sh_si Hd = sh_si H1 by simp only [td, td0, tc, tc0, sa], show sh_dp Hd = sh_dp H1 by simp only [td, td0, tc, tc0, sa], show sh_ab Hd = sh_ab H1 by simp only [td, td0, tc, tc0, sa], show sh_br Hd = sh_br H1 by simp only [td, td0, tc, tc0, sa], show sh_di Hd = sh_di H1 by simp only [td, td0, tc, tc0, sa], show sh_fo Hd = sh_fo H1 by simp only [td, td0, tc, tc0, sa], show sh_sz Hd = sh_sz H1 by simp only [td, td0, tc, tc0, sa], show sh_sk Hd = sh_sk H1 by simp only [td, td0, tc, tc0, sa], show sh_ti Hd = sh_ti H1 by simp only [td, td0, tc, tc0, sa]]
      refine ⟨lV0, lV1, lV2, lV3, lV4, fun i hi => ?_⟩
      by_cases z : i = v0
      · rw [z, upd_at]
        exact ⟨v1, rfl, by omega, n1b⟩
      · rw [upd_ne _ _ z]
        exact lV5 i hi
    · exact lO.keep (by omega) la1 (by omega) fme (fun k => by rw [hha]; exact Nat.le_refl _) (by simp only [td, td0, tc, tc0, sa]) (by simp only [td, td0, tc, tc0, sa]) (by simp only [td, td0, tc, tc0, sa]) (by simp only [td, td0, tc, tc0, sa]) (by simp only [td, td0, tc, tc0, sa]) (by simp only [td, td0, tc, tc0, sa])
