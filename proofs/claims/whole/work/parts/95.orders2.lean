/-! orders with a test -/
theorem bnd2 {X : Option (Int32 × MO)} {G : Int32 × MO → Option (Int32 × MO)} : ((X.bind fun q => if q.1 = 0 then some ((0 : Int32), q.2) else some (1, q.2)).bind fun p => if p.1 = 0 then some (0, p.2) else G p) = X.bind fun q => if q.1 = 0 then some (0, q.2) else G (1, q.2) := by
  cases X with
  | none => rfl
  | some q =>
    show (((if q.1 = 0 then some ((0 : Int32), q.2) else some (1, q.2)).bind fun p => if p.1 = 0 then some (0, p.2) else G p) : Option (Int32 × MO)) = if q.1 = 0 then some (0, q.2) else G (1, q.2)
    by_cases h : q.1 = 0
    · rw [if_pos h, if_pos h]; rfl
    · rw [if_neg h, if_neg h]; rfl
theorem bnd3 {X : Option (Int32 × MO)} {Y G : Int32 × MO → Option (Int32 × MO)} : ((X.bind fun q => if q.1 = 0 then some ((0 : Int32), q.2) else Y q).bind fun p => if p.1 = 0 then some (0, p.2) else G p) = X.bind fun q => if q.1 = 0 then some (0, q.2) else ((Y q).bind fun p => if p.1 = 0 then some (0, p.2) else G p) := by
  cases X with
  | none => rfl
  | some q =>
    show (((if q.1 = 0 then some ((0 : Int32), q.2) else Y q).bind fun p => if p.1 = 0 then some (0, p.2) else G p) : Option (Int32 × MO)) = if q.1 = 0 then some (0, q.2) else ((Y q).bind fun p => if p.1 = 0 then some (0, p.2) else G p)
    by_cases h : q.1 = 0
    · rw [if_pos h, if_pos h]; rfl
    · rw [if_neg h, if_neg h]
/-- a head, then a sum or test, then the end of the line -/
theorem tail_m {K : TK} {H : SH} {n : Nat} {s u : Bool × Nat} {d' : Nat} {M1 : MO} {kg : Int32} {w : Nat} (hX : LX K H n) (hu : u.2 ≤ n) (h4 : s.1 = false → u = s) (h5 : s.1 = true → ((s_Model_eat_0 H kg (mS M1 s.2 0)).bind fun p => if p.1 = 0 then some ((0 : Int32), p.2) else ((rk_ H 64 w p.2).bind fun q => if q.1 = 0 then some ((0 : Int32), q.2) else ((s_Model_eat_0 H 44 q.2).bind fun y => if y.1 = 0 then some ((0 : Int32), y.2) else some (1, y.2)))) = if u.1 = true then ((s_Model_eat_0 H 44 (mS M1 u.2 0)).bind fun y => if y.1 = 0 then some ((0 : Int32), y.2) else some (1, y.2)) else some ((0 : Int32), mS M1 u.2 d')) : ∃ d2, ((md s M1).bind fun p => if p.1 = 0 then some ((0 : Int32), p.2) else ((s_Model_eat_0 H kg p.2).bind fun p => if p.1 = 0 then some ((0 : Int32), p.2) else ((rk_ H 64 w p.2).bind fun q => if q.1 = 0 then some ((0 : Int32), q.2) else ((s_Model_eat_0 H 44 q.2).bind fun y => if y.1 = 0 then some ((0 : Int32), y.2) else some (1, y.2))))) = some (if (nx1 K 39 u).1 = true then (1 : Int32) else 0, mS M1 (nx1 K 39 u).2 d2) ∧ ((nx1 K 39 u).1 = true → d2 = 0) := by
  obtain ⟨b, t⟩ := s
  cases b with
  | false =>
    rw [h4 rfl]
    exact ⟨0, rfl, fun _ => rfl⟩
  | true =>
    show ∃ d2, ((s_Model_eat_0 H kg (mS M1 t 0)).bind _) = _ ∧ _
    have h := h5 rfl
    dsimp only at h
    rw [h]
    obtain ⟨ub, ut⟩ := u
    cases ub with
    | false => exact ⟨d', rfl, fun w => by cases w⟩
    | true =>
      rw [if_pos rfl, eatN hX hu (x := 44) (y := 39) (by decide) rfl]
      unfold nx1
      show ∃ d2, ((some (if (gk K ut).val = 39 then ((1 : Int32), mS M1 (ut + 1) 0) else (0, mS M1 ut 0))).bind fun y => if y.1 = 0 then some ((0 : Int32), y.2) else some (1, y.2)) = some (if (if (gk K ut).val = 39 then (true, ut + 1) else (false, ut)).1 = true then (1 : Int32) else 0, mS M1 (if (gk K ut).val = 39 then (true, ut + 1) else (false, ut)).2 d2) ∧ _
      by_cases e : (gk K ut).val = 39
      · rw [if_pos e, if_pos e]
        exact ⟨0, rfl, fun _ => rfl⟩
      · rw [if_neg e, if_neg e]
        exact ⟨0, rfl, fun _ => rfl⟩
theorem line_climb {K : TK} {H : SH} {n : Nat} {M : MO} {d : Int32} {t : Nat} {F : FM} {E : TE} {N0 N1 N2 N3 N4 : NM} {T : TM} {σ : GL} {M1 : MO} (hX : LX K H n) (hW : LW (mo_tk' M n) K (sh_fr H) (sh_mn H) n) (ht : t < n) (hg : gk K t = 15) : LINE K H n M d t F E (NN N0 N1 N2 N3 N4) T σ M1 (s_Tokens_expect (s_Teacher_readWhen (s_Teacher_readGo (tA K t) F E N0 N1 N2 N3 N4 T σ 0).1 F (s_Teacher_readGo (tA K t) F E N0 N1 N2 N3 N4 T σ 0).2.1 N0 N1 N2 N3 N4 (s_Teacher_readGo (tA K t) F E N0 N1 N2 N3 N4 T σ 0).2.2 σ).1 39) (s_Teacher_readWhen (s_Teacher_readGo (tA K t) F E N0 N1 N2 N3 N4 T σ 0).1 F (s_Teacher_readGo (tA K t) F E N0 N1 N2 N3 N4 T σ 0).2.1 N0 N1 N2 N3 N4 (s_Teacher_readGo (tA K t) F E N0 N1 N2 N3 N4 T σ 0).2.2 σ).2.1 (s_Teacher_readWhen (s_Teacher_readGo (tA K t) F E N0 N1 N2 N3 N4 T σ 0).1 F (s_Teacher_readGo (tA K t) F E N0 N1 N2 N3 N4 T σ 0).2.1 N0 N1 N2 N3 N4 (s_Teacher_readGo (tA K t) F E N0 N1 N2 N3 N4 T σ 0).2.2 σ).2.2.1 (NN N0 N1 N2 N3 N4) (s_Teacher_readWhen (s_Teacher_readGo (tA K t) F E N0 N1 N2 N3 N4 T σ 0).1 F (s_Teacher_readGo (tA K t) F E N0 N1 N2 N3 N4 T σ 0).2.1 N0 N1 N2 N3 N4 (s_Teacher_readGo (tA K t) F E N0 N1 N2 N3 N4 T σ 0).2.2 σ).2.2.2 σ (isL H (mS M1 t 0)) := by
  have h400 := hX.1
  obtain ⟨O, eO⟩ : ∃ z, z = s_Teacher_newOrder T F (tA K t) E 0 := ⟨_, rfl⟩
  obtain ⟨b, eb⟩ : ∃ z, z = s_Teacher_oldName (tA K t) O.2 N4 15 := ⟨_, rfl⟩
  have eR : s_Teacher_readGo (tA K t) F E N0 N1 N2 N3 N4 T σ 0 = (b.2.1, b.2.2, s_Orders_note O.1 F 1 b.1) := by
    unfold s_Teacher_readGo
    rw [show s_Tokens_sign (tA K t) = 15 from hg, ← eO, ← eb]
  rw [eR]
  obtain ⟨r, er⟩ : ∃ z, z = rd_ N0 N1 N2 N3 N4 64 0 0 0 (s_Tokens_expect b.2.1 22, F, b.2.2) := ⟨_, rfl⟩
  have eW : s_Teacher_readWhen b.2.1 F b.2.2 N0 N1 N2 N3 N4 (s_Orders_note O.1 F 1 b.1) σ = (r.1, r.2.1, r.2.2, s_Orders_note (s_Orders_note (s_Orders_note O.1 F 1 b.1) F 5 (s_Formulas_size F)) r.2.1 6 (s_Formulas_size r.2.1)) := by
    unfold s_Teacher_readWhen
    rw [← er]
  dsimp only
  rw [eW]
  dsimp only
  obtain ⟨s1, es1⟩ : ∃ z, z = nx K 15 50 (true, t) := ⟨_, rfl⟩
  have l1 : t ≤ s1.2 ∧ s1.2 ≤ n := by rw [es1]; exact nx_le (s := (true, t)) hX (by decide) (by decide) (Nat.le_of_lt ht)
  have kb : b.2.1 = st K s1 := by rw [eb, es1]; exact old_st (s := (true, t)) hX (by decide) (Nat.le_of_lt ht)
  obtain ⟨u, d', c1, c2, c3, c4, c5, c6⟩ := core (M := M) (N := NN N0 N1 N2 N3 N4) (s := s1) (F := F) (E := b.2.2) (M1 := M1) (g := 22) (w := 0) (kg := 22) (G := fun q => ((s_Model_eat_0 H 44 q.2).bind fun y => if y.1 = 0 then some (0, y.2) else some (1, y.2))) hX hW l1.2 (by decide) (by decide) rfl (by omega)
  have er' : r = rd_ (NN N0 N1 N2 N3 N4 0) (NN N0 N1 N2 N3 N4 1) (NN N0 N1 N2 N3 N4 2) (NN N0 N1 N2 N3 N4 3) (NN N0 N1 N2 N3 N4 4) 64 0 0 0 (s_Tokens_expect (st K s1) 22, F, b.2.2) := by rw [er, kb]; rfl
  rw [← er'] at c1 c6
  obtain ⟨s9, es9⟩ : ∃ z, z = nx1 K 39 u := ⟨_, rfl⟩
  have l9 : u.2 ≤ s9.2 ∧ s9.2 ≤ n := by rw [es9]; exact nx1_le hX (by decide) c3
  have ke : s_Tokens_expect r.1 39 = st K s9 := by rw [c1, es9]; exact exp_st hX (by decide) c3
  have kdt : sh_kd H (mo_tk (mS M1 t 0)) = 15 := by (show sh_kd H t = _; rw [(hX.2.2 t (by omega)).2.1, hg]; rfl)
  have he : s_Model_eat_0 H 36 (mo_tk' (mS M1 t 0) ((mo_tk (mS M1 t 0)) + 1)) = md s1 M1 := by
    show s_Model_eat_0 H 36 (mS M1 (t + 1) 0) = _
    rw [eatN hX (show t + 1 ≤ n by omega) (x := 36) (y := 50) (by decide) rfl, es1]
    unfold nx
    rw [if_pos rfl, if_pos (show (gk K (true, t).2).val = 15 by show (gk K t).val = 15; rw [hg]; rfl)]
    show some (if (gk K (t + 1)).val = 50 then ((1 : Int32), mS M1 (t + 2) 0) else (0, mS M1 (t + 1) 0)) = md (if (gk K (t + 1)).val = 50 then (true, t + 2) else (false, t + 1)) M1
    by_cases e : (gk K (t + 1)).val = 50
    · rw [if_pos e, if_pos e]; rfl
    · rw [if_neg e, if_neg e]; rfl
  have hm : ∃ d2, isL H (mS M1 t 0) = some (if s9.1 = true then 1 else 0, mS M1 s9.2 d2) ∧ (s9.1 = true → d2 = 0) := by
    unfold isL s_Model_isLine s_Model_isWhen
    rw [if_pos (show mo_tk (mS M1 t 0) < 401 by show t < 401; omega), kdt, if_neg (show ¬ (15 : Int32) = 0 by decide), if_neg (show ¬ (15 : Int32) = 3 by decide), if_neg (show ¬ (15 : Int32) = 6 by decide), if_neg (show ¬ (15 : Int32) = 9 by decide), if_neg (show ¬ (15 : Int32) = 11 by decide), if_neg (show ¬ (15 : Int32) = 13 by decide), if_pos (show (15 : Int32) = 15 from rfl), he]
    simp only [bnd3, bnd2]
    rw [es9]
    exact tail_m hX c3 c4 c5
  obtain ⟨d2, hm1, hm2⟩ := hm
  refine ⟨s9, d2, ke, hm1, by omega, by omega, fun hok => ?_⟩
  obtain ⟨ou, g39, p9⟩ : u.1 = true ∧ (gk K u.2).val = 39 ∧ s9.2 = u.2 + 1 := by rw [es9] at hok ⊢; exact nx1_true hok
  obtain ⟨oh, xk, w1, w2, w3⟩ := c6 ou
  have o1 := oh
  obtain ⟨-, x1, y1, p1⟩ : true = true ∧ (gk K t).val = 15 ∧ (gk K (t + 1)).val = 50 ∧ s1.2 = t + 2 := by rw [es1] at o1 ⊢; exact nx_true o1
  rw [p1] at xk w1 w3
  replace kb : b.2.1 = tA K (t + 2) := by rw [kb]; unfold st; rw [if_pos o1, p1]
  refine ⟨hm2 hok, by omega, by rw [show s9.2 - 1 = u.2 by omega]; exact g39, fun hE => ?_, fun hE H1 hL h0 => ?_⟩
  · have z0 : O.2 = E := by rw [eO]; exact ord_sticky hE
    have z1 : b.2.2 = E := by rw [eb, z0]; exact old_sticky hE
    exact (w3.1 (by rw [z1]; exact hE)).trans z1
  · obtain ⟨lS, lN, lC, lG, lV, lO, aa, la1, la2⟩ := hL
    obtain ⟨c0_, c3_, c6_, c9_, c11_, c20⟩ := lC
    obtain ⟨k, ek⟩ : ∃ k, k = sh_or H1 := ⟨_, rfl⟩
    have fin : ∀ p Hx E2, ERR K M n p Hx E2 → RDm M n t H1 = RDm M n p Hx → r.2.2 = E2 → ERR K M n t H1 r.2.2 := fun p Hx E2 q1 q2 q3 => q1.back q2 q3
    rcases ord_step (M := M) (T := T) (F := F) (E := E) (x := 0) (k := k) hX ht lS h0 hg (by decide) hE (by rw [ek]; exact lO.1) ek.symm (by omega) with er_ | ⟨k20, oq, R0⟩
    · refine .inl (fin t H1 O.2 (by rw [eO]; exact er_) rfl ?_)
      have g0 : ¬ te_er O.2 = 0 := (by rw [eO]; exact ne_le er_.1)
      have g1 : b.2.2 = O.2 := by rw [eb]; exact old_sticky g0
      have g5 : ¬ te_er b.2.2 = 0 := by rw [g1]; exact g0
      have g6 : r.2.2 = b.2.2 := w3.1 g5
      exact g6.trans g1
    have O1 : O.1 = (upd (zeroF T.1 (k * 8) (k * 8 + 8)) (8 * k + 0) 0, k + 1) := by rw [eO, oq]
    have O2 : O.2 = E := by rw [eO, oq]
    obtain ⟨Hl, eHl⟩ : ∃ z, z = sh_ln' H1 (kOf 15) := ⟨_, rfl⟩
    rw [← eHl] at R0
    obtain ⟨Hd, eHd⟩ : ∃ z, z = sh_ds' Hl (upd (sh_ds H1) k (kOf 15)) := ⟨_, rfl⟩
    rw [← eHd] at R0
    obtain ⟨Hw, eHw⟩ : ∃ z, z = sh_wh' Hd (upd (sh_wh H1) k (-1)) := ⟨_, rfl⟩
    rw [← eHw] at R0
    obtain ⟨Ha, eHa⟩ : ∃ z, z = sh_or' Hw (k + 1) := ⟨_, rfl⟩
    rw [← eHa] at R0
    have sa1 := sh_set_ln eHl
    have sa2 := sh_set_ds eHd
    have sa3 := sh_set_wh eHw
    have sa4 := sh_set_or eHa
    have Sa : SameT H Ha := by unfold SameT; simp only [sa4, sa3, sa2, sa1]; exact lS
    have na : NRel K Ha (NN N0 N1 N2 N3 N4) n := lN.congr (by simp only [sa4, sa3, sa2, sa1]) (by simp only [sa4, sa3, sa2, sa1])
    have hora : sh_or Ha = k + 1 := by simp only [sa4]
    have db : b = s_Teacher_oldName (tA K t) E (NN N0 N1 N2 N3 N4 4) (gk K t) := by rw [eb, O2, hg]; rfl
    rcases old_step (M := M) (Ha := Ha) (t := t) (i := 4) (E := E) (W := fun x => sh_on' (sh_me' Ha (upd (sh_me Ha) (t + 1) x)) (upd (sh_on Ha) k x)) hX hW (show t + 1 < n by omega) Sa na (by decide) y1 hE (by rw [hg]; decide) (fun x hx hfx => eo_15 (M := mo_tk' M n) (i := t + 1) (x := x) (by omega) (by omega) (by have := (na 4 (by decide)).1; have := (na 4 (by decide)).2.1; omega) (by rw [Nat.add_sub_cancel, Sa.1, (hX.2.2 t (by omega)).2.1, hg]; rfl) hfx hora k20) with er_ | ⟨v0, n0a, n0c, n0d, n0e⟩
    · refine .inl (fin (t + 1) Ha b.2.2 (by rw [db]; exact er_) R0 ?_)
      have g0 : ¬ te_er b.2.2 = 0 := (by rw [db]; exact ne_le er_.1)
      have g5 : ¬ te_er b.2.2 = 0 := g0
      have g6 : r.2.2 = b.2.2 := w3.1 g5
      exact g6
    have qb : b.1 = nI v0 := by rw [db]; exact n0c
    have Eb : b.2.2 = E := by rw [db]; exact n0d
    obtain ⟨HB0, eHB0⟩ : ∃ z, z = sh_me' Ha (upd (sh_me Ha) (t + 1) (nI v0)) := ⟨_, rfl⟩
    obtain ⟨HB, eHB⟩ : ∃ z, z = sh_on' HB0 (upd (sh_on Ha) k (nI v0)) := ⟨_, rfl⟩
    have n0f : RDm M n (t + 1) Ha = RDm M n (t + 2) HB := by rw [eHB, eHB0]; exact n0e
    have tb := sh_set_on eHB
    have tb0 := sh_set_me eHB0
    have ob0 : v0 < sh_ha H1 11 := by simp only [sa4, sa3, sa2, sa1] at n0a; exact n0a
    have SB : SameT H HB := by unfold SameT; simp only [tb, tb0, sa4, sa3, sa2, sa1]; exact lS
    have nb_ : NRel K HB (NN N0 N1 N2 N3 N4) n := lN.congr (by simp only [tb, tb0, sa4, sa3, sa2, sa1]) (by simp only [tb, tb0, sa4, sa3, sa2, sa1])
    have RB := R0.trans n0f
    have orrX : sh_or HB = k + 1 := by simp only [tb, tb0, sa4, sa3, sa2, sa1]
    have QX := when_step (M := M) hX (show (t + 2) < n by omega) SB (by omega) (by rw [show t + 2 - 1 = t + 1 by omega]; omega) xk orrX k20
    obtain ⟨HX, eHX⟩ : ∃ z, z = sh_wh' HB (upd (sh_wh HB) k (nI ((t + 2) + 1))) := ⟨_, rfl⟩
    rw [← eHX] at QX
    have sX := sh_set_wh eHX
    have SX : SameT H HX := by unfold SameT; simp only [sX, tb, tb0, sa4, sa3, sa2, sa1]; exact lS
    have nX_ : NRel K HX (NN N0 N1 N2 N3 N4) n := lN.congr (by simp only [sX, tb, tb0, sa4, sa3, sa2, sa1]) (by simp only [sX, tb, tb0, sa4, sa3, sa2, sa1])
    have RX := RB.trans QX
    rcases w3.2 (by rw [Eb]; exact hE) aa HX la1 (by omega) SX nX_ with er_ | ⟨mYa, meY, bbY, mYb, mYc, mYd, mYe, mYf, mYg, mYh⟩
    · exact .inl (fin (t + 2 + 1) HX r.2.2 er_ RX rfl)
    obtain ⟨HY, eHY⟩ : ∃ z, z = sh_me' HX meY := ⟨_, rfl⟩
    rw [← eHY] at mYb mYh
    have sY := sh_set_me eHY
    have mmY : ∀ j, j < t + 2 + 1 ∨ u.2 ≤ j → sh_me HY j = sh_me HX j := fun j hj => by simp only [sY]; exact mYc j hj
    have SY : SameT H HY := by unfold SameT; simp only [sY, sX, tb, tb0, sa4, sa3, sa2, sa1]; exact lS
    have nY_ : NRel K HY (NN N0 N1 N2 N3 N4) n := lN.congr (by simp only [sY, sX, tb, tb0, sa4, sa3, sa2, sa1]) (by simp only [sY, sX, tb, tb0, sa4, sa3, sa2, sa1])
    have RY := RX.trans mYb
    have EY : r.2.2 = E := mYa.trans Eb
    have NZ := neu_k (M := M) (g := 39) hX (show u.2 < n by omega) SY (by omega) w2 (Fin.ext g39) (by decide)
    have fha : sh_ha HY = sh_ha H1 := by simp only [sY, sX, tb, tb0, sa4, sa3, sa2, sa1]
    have fhg : sh_hg HY = sh_hg H1 := by simp only [sY, sX, tb, tb0, sa4, sa3, sa2, sa1]
    have fsn : sh_sn HY = sh_sn H1 := by simp only [sY, sX, tb, tb0, sa4, sa3, sa2, sa1]
    have fsi : sh_si HY = sh_si H1 := by simp only [sY, sX, tb, tb0, sa4, sa3, sa2, sa1]
    have fdp : sh_dp HY = sh_dp H1 := by simp only [sY, sX, tb, tb0, sa4, sa3, sa2, sa1]
    have fab : sh_ab HY = sh_ab H1 := by simp only [sY, sX, tb, tb0, sa4, sa3, sa2, sa1]
    have fbr : sh_br HY = sh_br H1 := by simp only [sY, sX, tb, tb0, sa4, sa3, sa2, sa1]
    have fdi : sh_di HY = sh_di H1 := by simp only [sY, sX, tb, tb0, sa4, sa3, sa2, sa1]
    have ffo : sh_fo HY = sh_fo H1 := by simp only [sY, sX, tb, tb0, sa4, sa3, sa2, sa1]
    have fsz : sh_sz HY = sh_sz H1 := by simp only [sY, sX, tb, tb0, sa4, sa3, sa2, sa1]
    have fsk : sh_sk HY = sh_sk H1 := by simp only [sY, sX, tb, tb0, sa4, sa3, sa2, sa1]
    have fti : sh_ti HY = sh_ti H1 := by simp only [sY, sX, tb, tb0, sa4, sa3, sa2, sa1]
    have fwa : sh_wa HY = sh_wa H1 := by simp only [sY, sX, tb, tb0, sa4, sa3, sa2, sa1]
    have for_ : sh_or HY = k + 1 := by simp only [sY, sX, tb, tb0, sa4, sa3, sa2, sa1]
    have fds : sh_ds HY = upd (sh_ds H1) k (kOf 15) := by simp only [sY, sX, tb, tb0, sa4, sa3, sa2, sa1]
    have fon : sh_on HY = upd (sh_on H1) k (nI v0) := by simp only [sY, sX, tb, tb0, sa4, sa3, sa2, sa1]
    have fot : sh_ot HY = sh_ot H1 := by simp only [sY, sX, tb, tb0, sa4, sa3, sa2, sa1]
    have fsu : sh_su HY = sh_su H1 := by simp only [sY, sX, tb, tb0, sa4, sa3, sa2, sa1]
    have fwh : sh_wh HY = upd (upd (sh_wh H1) k (-1)) k (nI (t + 2 + 1)) := by simp only [sY, sX, tb, tb0, sa4, sa3, sa2, sa1]
    have fme0 : ∀ j, j < t → sh_me HX j = sh_me H1 j := fun j hj => by
      simp only [sX, tb, tb0, sa4, sa3, sa2, sa1]
      rw [upd_ne _ _ (by omega)]
    have fme : ∀ j, j < t → sh_me HY j = sh_me H1 j := fun j hj => (mmY j (by omega)).trans (fme0 j hj)
    have eT : s_Orders_note (s_Orders_note (s_Orders_note O.1 F 1 b.1) F 5 (s_Formulas_size F)) r.2.1 6 (s_Formulas_size r.2.1) = ((upd (upd (upd (upd (zeroF T.1 (k * 8) (k * 8 + 8)) (8 * k + 0) 0) (8 * k + 1) (nI v0)) (8 * k + 5) (nI aa)) (8 * k + 6) (nI bbY)), k + 1) := by
      rw [O1, qb, show s_Formulas_size F = nI aa from la1, show s_Formulas_size r.2.1 = nI bbY from mYd]
      simp only [note_p k20]
    rw [eT]
    have b800 : bbY ≤ 2 * u.2 := by omega
    have XT : EXT F r.2.1 aa bbY := mYg
    refine .inr ⟨EY, HY, ?_, SY, nY_, ⟨by rw [fha]; exact c0_, by rw [fha]; exact c3_, by rw [fha]; exact c6_, by rw [fha]; exact c9_, by rw [fha]; exact c11_, by rw [for_]; omega⟩, ?_, ?_, ⟨for_.symm, fun i hi => ?_⟩, bbY, mYd, by omega⟩
    · rw [p9]
      exact (RY.trans NZ)
    · unfold LG
      rw [fha, fhg, fsn, fsi, fdp, fab, fbr, fdi, ffo, fsz, fsk, fti, fwa]
      exact lG
    · unfold LV
      rw [fha, fhg, fsn, fsi, fdp, fab, fbr, fdi, ffo, fsz, fsk, fti, fwa]
      exact lV
    · by_cases z : i = k
      · rw [z]
        exact ⟨.inl ⟨(upd_ne _ _ (by omega)).trans ((upd_ne _ _ (by omega)).trans ((upd_ne _ _ (by omega)).trans (upd_at _ _ _))), by rw [fds, upd_at]; rfl, v0, by rw [fha]; exact ob0, (upd_ne _ _ (by omega)).trans ((upd_ne _ _ (by omega)).trans (upd_at _ _ _)), by rw [fon]; exact upd_at _ _ _⟩, .inr ⟨aa, bbY, t + 2 + 1, (upd_ne _ _ (by omega)).trans (upd_at _ _ _), upd_at _ _ _, by rw [fwh]; exact upd_at _ _ _, ⟨u.2, by omega, by omega, by omega, ⟨bbY, mYd, Nat.le_refl _, by omega⟩, mYg.2, mYh⟩⟩⟩
      · have hik : i < k := by rw [for_] at hi; omega
        exact KL.keep (lO.2 i (by omega)) (by omega) la1 mYd (by omega) (by omega) XT.1 fme (fun k => by rw [fha]; exact Nat.le_refl _) (fun c hc => (upd_ne _ _ (by omega)).trans ((upd_ne _ _ (by omega)).trans ((upd_ne _ _ (by omega)).trans ((upd_ne _ _ (by omega)).trans (zero_out (by omega)))))) (by rw [fds]; exact upd_ne _ _ z) (by rw [fon]; exact upd_ne _ _ z) (by rw [fot]) (by rw [fsu]) (by rw [fwh]; exact (upd_ne _ _ (by omega)).trans (upd_ne _ _ (by omega)))
theorem line_descend {K : TK} {H : SH} {n : Nat} {M : MO} {d : Int32} {t : Nat} {F : FM} {E : TE} {N0 N1 N2 N3 N4 : NM} {T : TM} {σ : GL} {M1 : MO} (hX : LX K H n) (hW : LW (mo_tk' M n) K (sh_fr H) (sh_mn H) n) (ht : t < n) (hg : gk K t = 16) : LINE K H n M d t F E (NN N0 N1 N2 N3 N4) T σ M1 (s_Tokens_expect (s_Teacher_readWhen (s_Teacher_readGo (tA K t) F E N0 N1 N2 N3 N4 T σ 1).1 F (s_Teacher_readGo (tA K t) F E N0 N1 N2 N3 N4 T σ 1).2.1 N0 N1 N2 N3 N4 (s_Teacher_readGo (tA K t) F E N0 N1 N2 N3 N4 T σ 1).2.2 σ).1 39) (s_Teacher_readWhen (s_Teacher_readGo (tA K t) F E N0 N1 N2 N3 N4 T σ 1).1 F (s_Teacher_readGo (tA K t) F E N0 N1 N2 N3 N4 T σ 1).2.1 N0 N1 N2 N3 N4 (s_Teacher_readGo (tA K t) F E N0 N1 N2 N3 N4 T σ 1).2.2 σ).2.1 (s_Teacher_readWhen (s_Teacher_readGo (tA K t) F E N0 N1 N2 N3 N4 T σ 1).1 F (s_Teacher_readGo (tA K t) F E N0 N1 N2 N3 N4 T σ 1).2.1 N0 N1 N2 N3 N4 (s_Teacher_readGo (tA K t) F E N0 N1 N2 N3 N4 T σ 1).2.2 σ).2.2.1 (NN N0 N1 N2 N3 N4) (s_Teacher_readWhen (s_Teacher_readGo (tA K t) F E N0 N1 N2 N3 N4 T σ 1).1 F (s_Teacher_readGo (tA K t) F E N0 N1 N2 N3 N4 T σ 1).2.1 N0 N1 N2 N3 N4 (s_Teacher_readGo (tA K t) F E N0 N1 N2 N3 N4 T σ 1).2.2 σ).2.2.2 σ (isL H (mS M1 t 0)) := by
  have h400 := hX.1
  obtain ⟨O, eO⟩ : ∃ z, z = s_Teacher_newOrder T F (tA K t) E 1 := ⟨_, rfl⟩
  obtain ⟨b, eb⟩ : ∃ z, z = s_Teacher_oldName (tA K t) O.2 N4 16 := ⟨_, rfl⟩
  have eR : s_Teacher_readGo (tA K t) F E N0 N1 N2 N3 N4 T σ 1 = (b.2.1, b.2.2, s_Orders_note O.1 F 1 b.1) := by
    unfold s_Teacher_readGo
    rw [show s_Tokens_sign (tA K t) = 16 from hg, ← eO, ← eb]
  rw [eR]
  obtain ⟨r, er⟩ : ∃ z, z = rd_ N0 N1 N2 N3 N4 64 0 0 0 (s_Tokens_expect b.2.1 22, F, b.2.2) := ⟨_, rfl⟩
  have eW : s_Teacher_readWhen b.2.1 F b.2.2 N0 N1 N2 N3 N4 (s_Orders_note O.1 F 1 b.1) σ = (r.1, r.2.1, r.2.2, s_Orders_note (s_Orders_note (s_Orders_note O.1 F 1 b.1) F 5 (s_Formulas_size F)) r.2.1 6 (s_Formulas_size r.2.1)) := by
    unfold s_Teacher_readWhen
    rw [← er]
  dsimp only
  rw [eW]
  dsimp only
  obtain ⟨s1, es1⟩ : ∃ z, z = nx K 16 50 (true, t) := ⟨_, rfl⟩
  have l1 : t ≤ s1.2 ∧ s1.2 ≤ n := by rw [es1]; exact nx_le (s := (true, t)) hX (by decide) (by decide) (Nat.le_of_lt ht)
  have kb : b.2.1 = st K s1 := by rw [eb, es1]; exact old_st (s := (true, t)) hX (by decide) (Nat.le_of_lt ht)
  obtain ⟨u, d', c1, c2, c3, c4, c5, c6⟩ := core (M := M) (N := NN N0 N1 N2 N3 N4) (s := s1) (F := F) (E := b.2.2) (M1 := M1) (g := 22) (w := 0) (kg := 22) (G := fun q => ((s_Model_eat_0 H 44 q.2).bind fun y => if y.1 = 0 then some (0, y.2) else some (1, y.2))) hX hW l1.2 (by decide) (by decide) rfl (by omega)
  have er' : r = rd_ (NN N0 N1 N2 N3 N4 0) (NN N0 N1 N2 N3 N4 1) (NN N0 N1 N2 N3 N4 2) (NN N0 N1 N2 N3 N4 3) (NN N0 N1 N2 N3 N4 4) 64 0 0 0 (s_Tokens_expect (st K s1) 22, F, b.2.2) := by rw [er, kb]; rfl
  rw [← er'] at c1 c6
  obtain ⟨s9, es9⟩ : ∃ z, z = nx1 K 39 u := ⟨_, rfl⟩
  have l9 : u.2 ≤ s9.2 ∧ s9.2 ≤ n := by rw [es9]; exact nx1_le hX (by decide) c3
  have ke : s_Tokens_expect r.1 39 = st K s9 := by rw [c1, es9]; exact exp_st hX (by decide) c3
  have kdt : sh_kd H (mo_tk (mS M1 t 0)) = 16 := by (show sh_kd H t = _; rw [(hX.2.2 t (by omega)).2.1, hg]; rfl)
  have he : s_Model_eat_0 H 36 (mo_tk' (mS M1 t 0) ((mo_tk (mS M1 t 0)) + 1)) = md s1 M1 := by
    show s_Model_eat_0 H 36 (mS M1 (t + 1) 0) = _
    rw [eatN hX (show t + 1 ≤ n by omega) (x := 36) (y := 50) (by decide) rfl, es1]
    unfold nx
    rw [if_pos rfl, if_pos (show (gk K (true, t).2).val = 16 by show (gk K t).val = 16; rw [hg]; rfl)]
    show some (if (gk K (t + 1)).val = 50 then ((1 : Int32), mS M1 (t + 2) 0) else (0, mS M1 (t + 1) 0)) = md (if (gk K (t + 1)).val = 50 then (true, t + 2) else (false, t + 1)) M1
    by_cases e : (gk K (t + 1)).val = 50
    · rw [if_pos e, if_pos e]; rfl
    · rw [if_neg e, if_neg e]; rfl
  have hm : ∃ d2, isL H (mS M1 t 0) = some (if s9.1 = true then 1 else 0, mS M1 s9.2 d2) ∧ (s9.1 = true → d2 = 0) := by
    unfold isL s_Model_isLine s_Model_isWhen
    rw [if_pos (show mo_tk (mS M1 t 0) < 401 by show t < 401; omega), kdt, if_neg (show ¬ (16 : Int32) = 0 by decide), if_neg (show ¬ (16 : Int32) = 3 by decide), if_neg (show ¬ (16 : Int32) = 6 by decide), if_neg (show ¬ (16 : Int32) = 9 by decide), if_neg (show ¬ (16 : Int32) = 11 by decide), if_neg (show ¬ (16 : Int32) = 13 by decide), if_neg (show ¬ (16 : Int32) = 15 by decide), if_pos (show (16 : Int32) = 16 from rfl), he]
    simp only [bnd3, bnd2]
    rw [es9]
    exact tail_m hX c3 c4 c5
  obtain ⟨d2, hm1, hm2⟩ := hm
  refine ⟨s9, d2, ke, hm1, by omega, by omega, fun hok => ?_⟩
  obtain ⟨ou, g39, p9⟩ : u.1 = true ∧ (gk K u.2).val = 39 ∧ s9.2 = u.2 + 1 := by rw [es9] at hok ⊢; exact nx1_true hok
  obtain ⟨oh, xk, w1, w2, w3⟩ := c6 ou
  have o1 := oh
  obtain ⟨-, x1, y1, p1⟩ : true = true ∧ (gk K t).val = 16 ∧ (gk K (t + 1)).val = 50 ∧ s1.2 = t + 2 := by rw [es1] at o1 ⊢; exact nx_true o1
  rw [p1] at xk w1 w3
  replace kb : b.2.1 = tA K (t + 2) := by rw [kb]; unfold st; rw [if_pos o1, p1]
  refine ⟨hm2 hok, by omega, by rw [show s9.2 - 1 = u.2 by omega]; exact g39, fun hE => ?_, fun hE H1 hL h0 => ?_⟩
  · have z0 : O.2 = E := by rw [eO]; exact ord_sticky hE
    have z1 : b.2.2 = E := by rw [eb, z0]; exact old_sticky hE
    exact (w3.1 (by rw [z1]; exact hE)).trans z1
  · obtain ⟨lS, lN, lC, lG, lV, lO, aa, la1, la2⟩ := hL
    obtain ⟨c0_, c3_, c6_, c9_, c11_, c20⟩ := lC
    obtain ⟨k, ek⟩ : ∃ k, k = sh_or H1 := ⟨_, rfl⟩
    have fin : ∀ p Hx E2, ERR K M n p Hx E2 → RDm M n t H1 = RDm M n p Hx → r.2.2 = E2 → ERR K M n t H1 r.2.2 := fun p Hx E2 q1 q2 q3 => q1.back q2 q3
    rcases ord_step (M := M) (T := T) (F := F) (E := E) (x := 1) (k := k) hX ht lS h0 hg (by decide) hE (by rw [ek]; exact lO.1) ek.symm (by omega) with er_ | ⟨k20, oq, R0⟩
    · refine .inl (fin t H1 O.2 (by rw [eO]; exact er_) rfl ?_)
      have g0 : ¬ te_er O.2 = 0 := (by rw [eO]; exact ne_le er_.1)
      have g1 : b.2.2 = O.2 := by rw [eb]; exact old_sticky g0
      have g5 : ¬ te_er b.2.2 = 0 := by rw [g1]; exact g0
      have g6 : r.2.2 = b.2.2 := w3.1 g5
      exact g6.trans g1
    have O1 : O.1 = (upd (zeroF T.1 (k * 8) (k * 8 + 8)) (8 * k + 0) 1, k + 1) := by rw [eO, oq]
    have O2 : O.2 = E := by rw [eO, oq]
    obtain ⟨Hl, eHl⟩ : ∃ z, z = sh_ln' H1 (kOf 16) := ⟨_, rfl⟩
    rw [← eHl] at R0
    obtain ⟨Hd, eHd⟩ : ∃ z, z = sh_ds' Hl (upd (sh_ds H1) k (kOf 16)) := ⟨_, rfl⟩
    rw [← eHd] at R0
    obtain ⟨Hw, eHw⟩ : ∃ z, z = sh_wh' Hd (upd (sh_wh H1) k (-1)) := ⟨_, rfl⟩
    rw [← eHw] at R0
    obtain ⟨Ha, eHa⟩ : ∃ z, z = sh_or' Hw (k + 1) := ⟨_, rfl⟩
    rw [← eHa] at R0
    have sa1 := sh_set_ln eHl
    have sa2 := sh_set_ds eHd
    have sa3 := sh_set_wh eHw
    have sa4 := sh_set_or eHa
    have Sa : SameT H Ha := by unfold SameT; simp only [sa4, sa3, sa2, sa1]; exact lS
    have na : NRel K Ha (NN N0 N1 N2 N3 N4) n := lN.congr (by simp only [sa4, sa3, sa2, sa1]) (by simp only [sa4, sa3, sa2, sa1])
    have hora : sh_or Ha = k + 1 := by simp only [sa4]
    have db : b = s_Teacher_oldName (tA K t) E (NN N0 N1 N2 N3 N4 4) (gk K t) := by rw [eb, O2, hg]; rfl
    rcases old_step (M := M) (Ha := Ha) (t := t) (i := 4) (E := E) (W := fun x => sh_on' (sh_me' Ha (upd (sh_me Ha) (t + 1) x)) (upd (sh_on Ha) k x)) hX hW (show t + 1 < n by omega) Sa na (by decide) y1 hE (by rw [hg]; decide) (fun x hx hfx => eo_16 (M := mo_tk' M n) (i := t + 1) (x := x) (by omega) (by omega) (by have := (na 4 (by decide)).1; have := (na 4 (by decide)).2.1; omega) (by rw [Nat.add_sub_cancel, Sa.1, (hX.2.2 t (by omega)).2.1, hg]; rfl) hfx hora k20) with er_ | ⟨v0, n0a, n0c, n0d, n0e⟩
    · refine .inl (fin (t + 1) Ha b.2.2 (by rw [db]; exact er_) R0 ?_)
      have g0 : ¬ te_er b.2.2 = 0 := (by rw [db]; exact ne_le er_.1)
      have g5 : ¬ te_er b.2.2 = 0 := g0
      have g6 : r.2.2 = b.2.2 := w3.1 g5
      exact g6
    have qb : b.1 = nI v0 := by rw [db]; exact n0c
    have Eb : b.2.2 = E := by rw [db]; exact n0d
    obtain ⟨HB0, eHB0⟩ : ∃ z, z = sh_me' Ha (upd (sh_me Ha) (t + 1) (nI v0)) := ⟨_, rfl⟩
    obtain ⟨HB, eHB⟩ : ∃ z, z = sh_on' HB0 (upd (sh_on Ha) k (nI v0)) := ⟨_, rfl⟩
    have n0f : RDm M n (t + 1) Ha = RDm M n (t + 2) HB := by rw [eHB, eHB0]; exact n0e
    have tb := sh_set_on eHB
    have tb0 := sh_set_me eHB0
    have ob0 : v0 < sh_ha H1 11 := by simp only [sa4, sa3, sa2, sa1] at n0a; exact n0a
    have SB : SameT H HB := by unfold SameT; simp only [tb, tb0, sa4, sa3, sa2, sa1]; exact lS
    have nb_ : NRel K HB (NN N0 N1 N2 N3 N4) n := lN.congr (by simp only [tb, tb0, sa4, sa3, sa2, sa1]) (by simp only [tb, tb0, sa4, sa3, sa2, sa1])
    have RB := R0.trans n0f
    have orrX : sh_or HB = k + 1 := by simp only [tb, tb0, sa4, sa3, sa2, sa1]
    have QX := when_step (M := M) hX (show (t + 2) < n by omega) SB (by omega) (by rw [show t + 2 - 1 = t + 1 by omega]; omega) xk orrX k20
    obtain ⟨HX, eHX⟩ : ∃ z, z = sh_wh' HB (upd (sh_wh HB) k (nI ((t + 2) + 1))) := ⟨_, rfl⟩
    rw [← eHX] at QX
    have sX := sh_set_wh eHX
    have SX : SameT H HX := by unfold SameT; simp only [sX, tb, tb0, sa4, sa3, sa2, sa1]; exact lS
    have nX_ : NRel K HX (NN N0 N1 N2 N3 N4) n := lN.congr (by simp only [sX, tb, tb0, sa4, sa3, sa2, sa1]) (by simp only [sX, tb, tb0, sa4, sa3, sa2, sa1])
    have RX := RB.trans QX
    rcases w3.2 (by rw [Eb]; exact hE) aa HX la1 (by omega) SX nX_ with er_ | ⟨mYa, meY, bbY, mYb, mYc, mYd, mYe, mYf, mYg, mYh⟩
    · exact .inl (fin (t + 2 + 1) HX r.2.2 er_ RX rfl)
    obtain ⟨HY, eHY⟩ : ∃ z, z = sh_me' HX meY := ⟨_, rfl⟩
    rw [← eHY] at mYb mYh
    have sY := sh_set_me eHY
    have mmY : ∀ j, j < t + 2 + 1 ∨ u.2 ≤ j → sh_me HY j = sh_me HX j := fun j hj => by simp only [sY]; exact mYc j hj
    have SY : SameT H HY := by unfold SameT; simp only [sY, sX, tb, tb0, sa4, sa3, sa2, sa1]; exact lS
    have nY_ : NRel K HY (NN N0 N1 N2 N3 N4) n := lN.congr (by simp only [sY, sX, tb, tb0, sa4, sa3, sa2, sa1]) (by simp only [sY, sX, tb, tb0, sa4, sa3, sa2, sa1])
    have RY := RX.trans mYb
    have EY : r.2.2 = E := mYa.trans Eb
    have NZ := neu_k (M := M) (g := 39) hX (show u.2 < n by omega) SY (by omega) w2 (Fin.ext g39) (by decide)
    have fha : sh_ha HY = sh_ha H1 := by simp only [sY, sX, tb, tb0, sa4, sa3, sa2, sa1]
    have fhg : sh_hg HY = sh_hg H1 := by simp only [sY, sX, tb, tb0, sa4, sa3, sa2, sa1]
    have fsn : sh_sn HY = sh_sn H1 := by simp only [sY, sX, tb, tb0, sa4, sa3, sa2, sa1]
    have fsi : sh_si HY = sh_si H1 := by simp only [sY, sX, tb, tb0, sa4, sa3, sa2, sa1]
    have fdp : sh_dp HY = sh_dp H1 := by simp only [sY, sX, tb, tb0, sa4, sa3, sa2, sa1]
    have fab : sh_ab HY = sh_ab H1 := by simp only [sY, sX, tb, tb0, sa4, sa3, sa2, sa1]
    have fbr : sh_br HY = sh_br H1 := by simp only [sY, sX, tb, tb0, sa4, sa3, sa2, sa1]
    have fdi : sh_di HY = sh_di H1 := by simp only [sY, sX, tb, tb0, sa4, sa3, sa2, sa1]
    have ffo : sh_fo HY = sh_fo H1 := by simp only [sY, sX, tb, tb0, sa4, sa3, sa2, sa1]
    have fsz : sh_sz HY = sh_sz H1 := by simp only [sY, sX, tb, tb0, sa4, sa3, sa2, sa1]
    have fsk : sh_sk HY = sh_sk H1 := by simp only [sY, sX, tb, tb0, sa4, sa3, sa2, sa1]
    have fti : sh_ti HY = sh_ti H1 := by simp only [sY, sX, tb, tb0, sa4, sa3, sa2, sa1]
    have fwa : sh_wa HY = sh_wa H1 := by simp only [sY, sX, tb, tb0, sa4, sa3, sa2, sa1]
    have for_ : sh_or HY = k + 1 := by simp only [sY, sX, tb, tb0, sa4, sa3, sa2, sa1]
    have fds : sh_ds HY = upd (sh_ds H1) k (kOf 16) := by simp only [sY, sX, tb, tb0, sa4, sa3, sa2, sa1]
    have fon : sh_on HY = upd (sh_on H1) k (nI v0) := by simp only [sY, sX, tb, tb0, sa4, sa3, sa2, sa1]
    have fot : sh_ot HY = sh_ot H1 := by simp only [sY, sX, tb, tb0, sa4, sa3, sa2, sa1]
    have fsu : sh_su HY = sh_su H1 := by simp only [sY, sX, tb, tb0, sa4, sa3, sa2, sa1]
    have fwh : sh_wh HY = upd (upd (sh_wh H1) k (-1)) k (nI (t + 2 + 1)) := by simp only [sY, sX, tb, tb0, sa4, sa3, sa2, sa1]
    have fme0 : ∀ j, j < t → sh_me HX j = sh_me H1 j := fun j hj => by
      simp only [sX, tb, tb0, sa4, sa3, sa2, sa1]
      rw [upd_ne _ _ (by omega)]
    have fme : ∀ j, j < t → sh_me HY j = sh_me H1 j := fun j hj => (mmY j (by omega)).trans (fme0 j hj)
    have eT : s_Orders_note (s_Orders_note (s_Orders_note O.1 F 1 b.1) F 5 (s_Formulas_size F)) r.2.1 6 (s_Formulas_size r.2.1) = ((upd (upd (upd (upd (zeroF T.1 (k * 8) (k * 8 + 8)) (8 * k + 0) 1) (8 * k + 1) (nI v0)) (8 * k + 5) (nI aa)) (8 * k + 6) (nI bbY)), k + 1) := by
      rw [O1, qb, show s_Formulas_size F = nI aa from la1, show s_Formulas_size r.2.1 = nI bbY from mYd]
      simp only [note_p k20]
    rw [eT]
    have b800 : bbY ≤ 2 * u.2 := by omega
    have XT : EXT F r.2.1 aa bbY := mYg
    refine .inr ⟨EY, HY, ?_, SY, nY_, ⟨by rw [fha]; exact c0_, by rw [fha]; exact c3_, by rw [fha]; exact c6_, by rw [fha]; exact c9_, by rw [fha]; exact c11_, by rw [for_]; omega⟩, ?_, ?_, ⟨for_.symm, fun i hi => ?_⟩, bbY, mYd, by omega⟩
    · rw [p9]
      exact (RY.trans NZ)
    · unfold LG
      rw [fha, fhg, fsn, fsi, fdp, fab, fbr, fdi, ffo, fsz, fsk, fti, fwa]
      exact lG
    · unfold LV
      rw [fha, fhg, fsn, fsi, fdp, fab, fbr, fdi, ffo, fsz, fsk, fti, fwa]
      exact lV
    · by_cases z : i = k
      · rw [z]
        exact ⟨.inr (.inl ⟨(upd_ne _ _ (by omega)).trans ((upd_ne _ _ (by omega)).trans ((upd_ne _ _ (by omega)).trans (upd_at _ _ _))), by rw [fds, upd_at]; rfl, v0, by rw [fha]; exact ob0, (upd_ne _ _ (by omega)).trans ((upd_ne _ _ (by omega)).trans (upd_at _ _ _)), by rw [fon]; exact upd_at _ _ _⟩), .inr ⟨aa, bbY, t + 2 + 1, (upd_ne _ _ (by omega)).trans (upd_at _ _ _), upd_at _ _ _, by rw [fwh]; exact upd_at _ _ _, ⟨u.2, by omega, by omega, by omega, ⟨bbY, mYd, Nat.le_refl _, by omega⟩, mYg.2, mYh⟩⟩⟩
      · have hik : i < k := by rw [for_] at hi; omega
        exact KL.keep (lO.2 i (by omega)) (by omega) la1 mYd (by omega) (by omega) XT.1 fme (fun k => by rw [fha]; exact Nat.le_refl _) (fun c hc => (upd_ne _ _ (by omega)).trans ((upd_ne _ _ (by omega)).trans ((upd_ne _ _ (by omega)).trans ((upd_ne _ _ (by omega)).trans (zero_out (by omega)))))) (by rw [fds]; exact upd_ne _ _ z) (by rw [fon]; exact upd_ne _ _ z) (by rw [fot]) (by rw [fsu]) (by rw [fwh]; exact (upd_ne _ _ (by omega)).trans (upd_ne _ _ (by omega)))
theorem line_probe {K : TK} {H : SH} {n : Nat} {M : MO} {d : Int32} {t : Nat} {F : FM} {E : TE} {N0 N1 N2 N3 N4 : NM} {T : TM} {σ : GL} {M1 : MO} (hX : LX K H n) (hW : LW (mo_tk' M n) K (sh_fr H) (sh_mn H) n) (ht : t < n) (hg : gk K t = 17) : LINE K H n M d t F E (NN N0 N1 N2 N3 N4) T σ M1 (s_Tokens_expect (s_Teacher_readWhen (s_Teacher_readProbe (tA K t) F E N0 N1 N2 N3 N4 T σ).1 F (s_Teacher_readProbe (tA K t) F E N0 N1 N2 N3 N4 T σ).2.1 N0 N1 N2 N3 N4 (s_Teacher_readProbe (tA K t) F E N0 N1 N2 N3 N4 T σ).2.2 σ).1 39) (s_Teacher_readWhen (s_Teacher_readProbe (tA K t) F E N0 N1 N2 N3 N4 T σ).1 F (s_Teacher_readProbe (tA K t) F E N0 N1 N2 N3 N4 T σ).2.1 N0 N1 N2 N3 N4 (s_Teacher_readProbe (tA K t) F E N0 N1 N2 N3 N4 T σ).2.2 σ).2.1 (s_Teacher_readWhen (s_Teacher_readProbe (tA K t) F E N0 N1 N2 N3 N4 T σ).1 F (s_Teacher_readProbe (tA K t) F E N0 N1 N2 N3 N4 T σ).2.1 N0 N1 N2 N3 N4 (s_Teacher_readProbe (tA K t) F E N0 N1 N2 N3 N4 T σ).2.2 σ).2.2.1 (NN N0 N1 N2 N3 N4) (s_Teacher_readWhen (s_Teacher_readProbe (tA K t) F E N0 N1 N2 N3 N4 T σ).1 F (s_Teacher_readProbe (tA K t) F E N0 N1 N2 N3 N4 T σ).2.1 N0 N1 N2 N3 N4 (s_Teacher_readProbe (tA K t) F E N0 N1 N2 N3 N4 T σ).2.2 σ).2.2.2 σ (isL H (mS M1 t 0)) := by
  have h400 := hX.1
  obtain ⟨O, eO⟩ : ∃ z, z = s_Teacher_newOrder T F (tA K t) E 2 := ⟨_, rfl⟩
  obtain ⟨b, eb⟩ : ∃ z, z = s_Teacher_oldName (tA K t) O.2 N2 17 := ⟨_, rfl⟩
  obtain ⟨c, ec⟩ : ∃ z, z = s_Teacher_oldName b.2.1 b.2.2 N4 18 := ⟨_, rfl⟩
  have eR : s_Teacher_readProbe (tA K t) F E N0 N1 N2 N3 N4 T σ = (c.2.1, c.2.2, s_Orders_note (s_Orders_note O.1 F 2 b.1) F 1 c.1) := by
    unfold s_Teacher_readProbe
    rw [← eO, ← eb, ← ec]
  rw [eR]
  obtain ⟨r, er⟩ : ∃ z, z = rd_ N0 N1 N2 N3 N4 64 0 0 0 (s_Tokens_expect c.2.1 22, F, c.2.2) := ⟨_, rfl⟩
  have eW : s_Teacher_readWhen c.2.1 F c.2.2 N0 N1 N2 N3 N4 (s_Orders_note (s_Orders_note O.1 F 2 b.1) F 1 c.1) σ = (r.1, r.2.1, r.2.2, s_Orders_note (s_Orders_note (s_Orders_note (s_Orders_note O.1 F 2 b.1) F 1 c.1) F 5 (s_Formulas_size F)) r.2.1 6 (s_Formulas_size r.2.1)) := by
    unfold s_Teacher_readWhen
    rw [← er]
  dsimp only
  rw [eW]
  dsimp only
  obtain ⟨s1, es1⟩ : ∃ z, z = nx K 17 50 (true, t) := ⟨_, rfl⟩
  have l1 : t ≤ s1.2 ∧ s1.2 ≤ n := by rw [es1]; exact nx_le (s := (true, t)) hX (by decide) (by decide) (Nat.le_of_lt ht)
  have kb : b.2.1 = st K s1 := by rw [eb, es1]; exact old_st (s := (true, t)) hX (by decide) (Nat.le_of_lt ht)
  obtain ⟨s2, es2⟩ : ∃ z, z = nx K 18 50 s1 := ⟨_, rfl⟩
  have l2 : s1.2 ≤ s2.2 ∧ s2.2 ≤ n := by rw [es2]; exact nx_le hX (by decide) (by decide) l1.2
  have kc : c.2.1 = st K s2 := by rw [ec, kb, es2]; exact old_st hX (by decide) l1.2
  obtain ⟨u, d', c1, c2, c3, c4, c5, c6⟩ := core (M := M) (N := NN N0 N1 N2 N3 N4) (s := s2) (F := F) (E := c.2.2) (M1 := M1) (g := 22) (w := 0) (kg := 22) (G := fun q => ((s_Model_eat_0 H 44 q.2).bind fun y => if y.1 = 0 then some (0, y.2) else some (1, y.2))) hX hW l2.2 (by decide) (by decide) rfl (by omega)
  have er' : r = rd_ (NN N0 N1 N2 N3 N4 0) (NN N0 N1 N2 N3 N4 1) (NN N0 N1 N2 N3 N4 2) (NN N0 N1 N2 N3 N4 3) (NN N0 N1 N2 N3 N4 4) 64 0 0 0 (s_Tokens_expect (st K s2) 22, F, c.2.2) := by rw [er, kc]; rfl
  rw [← er'] at c1 c6
  obtain ⟨s9, es9⟩ : ∃ z, z = nx1 K 39 u := ⟨_, rfl⟩
  have l9 : u.2 ≤ s9.2 ∧ s9.2 ≤ n := by rw [es9]; exact nx1_le hX (by decide) c3
  have ke : s_Tokens_expect r.1 39 = st K s9 := by rw [c1, es9]; exact exp_st hX (by decide) c3
  have kdt : sh_kd H (mo_tk (mS M1 t 0)) = 17 := by (show sh_kd H t = _; rw [(hX.2.2 t (by omega)).2.1, hg]; rfl)
  have hm : ∃ d2, isL H (mS M1 t 0) = some (if s9.1 = true then 1 else 0, mS M1 s9.2 d2) ∧ (s9.1 = true → d2 = 0) := by
    unfold isL s_Model_isLine s_Model_isWhen
    rw [if_pos (show mo_tk (mS M1 t 0) < 401 by show t < 401; omega), kdt, if_neg (show ¬ (17 : Int32) = 0 by decide), if_neg (show ¬ (17 : Int32) = 3 by decide), if_neg (show ¬ (17 : Int32) = 6 by decide), if_neg (show ¬ (17 : Int32) = 9 by decide), if_neg (show ¬ (17 : Int32) = 11 by decide), if_neg (show ¬ (17 : Int32) = 13 by decide), if_neg (show ¬ (17 : Int32) = 15 by decide), if_neg (show ¬ (17 : Int32) = 16 by decide), if_pos (show (17 : Int32) = 17 from rfl), isNam_md hX (Nat.le_of_lt ht) (k := 17) (y := 17) (by decide) rfl, ← es1]
    simp only [bnd3, bnd2]
    rw [md_nam hX l1.2 (k := 18) (y := 18) (by decide) rfl, ← es2, es9]
    exact tail_m hX c3 c4 c5
  obtain ⟨d2, hm1, hm2⟩ := hm
  refine ⟨s9, d2, ke, hm1, by omega, by omega, fun hok => ?_⟩
  obtain ⟨ou, g39, p9⟩ : u.1 = true ∧ (gk K u.2).val = 39 ∧ s9.2 = u.2 + 1 := by rw [es9] at hok ⊢; exact nx1_true hok
  obtain ⟨oh, xk, w1, w2, w3⟩ := c6 ou
  obtain ⟨o1, x2, y2, p2⟩ : s1.1 = true ∧ (gk K s1.2).val = 18 ∧ (gk K (s1.2 + 1)).val = 50 ∧ s2.2 = s1.2 + 2 := by rw [es2] at oh ⊢; exact nx_true oh
  obtain ⟨-, x1, y1, p1⟩ : true = true ∧ (gk K t).val = 17 ∧ (gk K (t + 1)).val = 50 ∧ s1.2 = t + 2 := by rw [es1] at o1 ⊢; exact nx_true o1
  replace p2 : s2.2 = t + 4 := by omega
  rw [p1] at x2 y2
  replace y2 : (gk K (t + 3)).val = 50 := y2
  rw [p2] at xk w1 w3
  replace kb : b.2.1 = tA K (t + 2) := by rw [kb]; unfold st; rw [if_pos o1, p1]
  refine ⟨hm2 hok, by omega, by rw [show s9.2 - 1 = u.2 by omega]; exact g39, fun hE => ?_, fun hE H1 hL h0 => ?_⟩
  · have z0 : O.2 = E := by rw [eO]; exact ord_sticky hE
    have z1 : b.2.2 = E := by rw [eb, z0]; exact old_sticky hE
    have z2 : c.2.2 = E := by rw [ec, z1]; exact old_sticky hE
    exact (w3.1 (by rw [z2]; exact hE)).trans z2
  · obtain ⟨lS, lN, lC, lG, lV, lO, aa, la1, la2⟩ := hL
    obtain ⟨c0_, c3_, c6_, c9_, c11_, c20⟩ := lC
    obtain ⟨k, ek⟩ : ∃ k, k = sh_or H1 := ⟨_, rfl⟩
    have fin : ∀ p Hx E2, ERR K M n p Hx E2 → RDm M n t H1 = RDm M n p Hx → r.2.2 = E2 → ERR K M n t H1 r.2.2 := fun p Hx E2 q1 q2 q3 => q1.back q2 q3
    rcases ord_step (M := M) (T := T) (F := F) (E := E) (x := 2) (k := k) hX ht lS h0 hg (by decide) hE (by rw [ek]; exact lO.1) ek.symm (by omega) with er_ | ⟨k20, oq, R0⟩
    · refine .inl (fin t H1 O.2 (by rw [eO]; exact er_) rfl ?_)
      have g0 : ¬ te_er O.2 = 0 := (by rw [eO]; exact ne_le er_.1)
      have g1 : b.2.2 = O.2 := by rw [eb]; exact old_sticky g0
      have g2 : c.2.2 = O.2 := by rw [ec, g1]; exact old_sticky g0
      have g5 : ¬ te_er c.2.2 = 0 := by rw [g2]; exact g0
      have g6 : r.2.2 = c.2.2 := w3.1 g5
      exact g6.trans g2
    have O1 : O.1 = (upd (zeroF T.1 (k * 8) (k * 8 + 8)) (8 * k + 0) 2, k + 1) := by rw [eO, oq]
    have O2 : O.2 = E := by rw [eO, oq]
    obtain ⟨Hl, eHl⟩ : ∃ z, z = sh_ln' H1 (kOf 17) := ⟨_, rfl⟩
    rw [← eHl] at R0
    obtain ⟨Hd, eHd⟩ : ∃ z, z = sh_ds' Hl (upd (sh_ds H1) k (kOf 17)) := ⟨_, rfl⟩
    rw [← eHd] at R0
    obtain ⟨Hw, eHw⟩ : ∃ z, z = sh_wh' Hd (upd (sh_wh H1) k (-1)) := ⟨_, rfl⟩
    rw [← eHw] at R0
    obtain ⟨Ha, eHa⟩ : ∃ z, z = sh_or' Hw (k + 1) := ⟨_, rfl⟩
    rw [← eHa] at R0
    have sa1 := sh_set_ln eHl
    have sa2 := sh_set_ds eHd
    have sa3 := sh_set_wh eHw
    have sa4 := sh_set_or eHa
    have Sa : SameT H Ha := by unfold SameT; simp only [sa4, sa3, sa2, sa1]; exact lS
    have na : NRel K Ha (NN N0 N1 N2 N3 N4) n := lN.congr (by simp only [sa4, sa3, sa2, sa1]) (by simp only [sa4, sa3, sa2, sa1])
    have hora : sh_or Ha = k + 1 := by simp only [sa4]
    have db : b = s_Teacher_oldName (tA K t) E (NN N0 N1 N2 N3 N4 2) (gk K t) := by rw [eb, O2, hg]; rfl
    rcases old_step (M := M) (Ha := Ha) (t := t) (i := 2) (E := E) (W := fun x => sh_on' (sh_me' Ha (upd (sh_me Ha) (t + 1) x)) (upd (sh_on Ha) k x)) hX hW (show t + 1 < n by omega) Sa na (by decide) y1 hE (by rw [hg]; decide) (fun x hx hfx => eo_17 (M := mo_tk' M n) (i := t + 1) (x := x) (by omega) (by omega) (by have := (na 2 (by decide)).1; have := (na 2 (by decide)).2.1; omega) (by rw [Nat.add_sub_cancel, Sa.1, (hX.2.2 t (by omega)).2.1, hg]; rfl) hfx hora k20) with er_ | ⟨v0, n0a, n0c, n0d, n0e⟩
    · refine .inl (fin (t + 1) Ha b.2.2 (by rw [db]; exact er_) R0 ?_)
      have g0 : ¬ te_er b.2.2 = 0 := (by rw [db]; exact ne_le er_.1)
      have g2 : c.2.2 = b.2.2 := by rw [ec]; exact old_sticky g0
      have g5 : ¬ te_er c.2.2 = 0 := by rw [g2]; exact g0
      have g6 : r.2.2 = c.2.2 := w3.1 g5
      exact g6.trans g2
    have qb : b.1 = nI v0 := by rw [db]; exact n0c
    have Eb : b.2.2 = E := by rw [db]; exact n0d
    obtain ⟨HB0, eHB0⟩ : ∃ z, z = sh_me' Ha (upd (sh_me Ha) (t + 1) (nI v0)) := ⟨_, rfl⟩
    obtain ⟨HB, eHB⟩ : ∃ z, z = sh_on' HB0 (upd (sh_on Ha) k (nI v0)) := ⟨_, rfl⟩
    have n0f : RDm M n (t + 1) Ha = RDm M n (t + 2) HB := by rw [eHB, eHB0]; exact n0e
    have tb := sh_set_on eHB
    have tb0 := sh_set_me eHB0
    have ob0 : v0 < sh_ha H1 6 := by simp only [sa4, sa3, sa2, sa1] at n0a; exact n0a
    have SB : SameT H HB := by unfold SameT; simp only [tb, tb0, sa4, sa3, sa2, sa1]; exact lS
    have nb_ : NRel K HB (NN N0 N1 N2 N3 N4) n := lN.congr (by simp only [tb, tb0, sa4, sa3, sa2, sa1]) (by simp only [tb, tb0, sa4, sa3, sa2, sa1])
    have RB := R0.trans n0f
    have Nn := neu_k (M := M) (g := 18) hX (show t + 2 < n by omega) SB (by omega) (by rw [show t + 2 - 1 = t + 1 by omega]; omega) (Fin.ext x2) (by decide)
    have dc : c = s_Teacher_oldName (tA K (t + 2)) E (NN N0 N1 N2 N3 N4 4) (gk K (t + 2)) := by rw [ec, kb, Eb, (show gk K (t + 2) = 18 from Fin.ext x2)]; rfl
    rcases old_step (M := M) (Ha := HB) (t := (t + 2)) (i := 4) (E := E) (W := fun x => sh_ot' (sh_me' HB (upd (sh_me HB) ((t + 2) + 1) x)) (upd (sh_ot HB) k x)) hX hW (show (t + 2) + 1 < n by omega) SB nb_ (by decide) y2 hE (by rw [(show gk K (t + 2) = 18 from Fin.ext x2)]; decide) (fun x hx hfx => eo_18 (M := mo_tk' M n) (i := (t + 2) + 1) (x := x) (by omega) (by omega) (by have := (nb_ 4 (by decide)).1; have := (nb_ 4 (by decide)).2.1; omega) (by rw [Nat.add_sub_cancel, SB.1, (hX.2.2 (t + 2) (by omega)).2.1, (show gk K (t + 2) = 18 from Fin.ext x2)]; rfl) hfx (by simp only [tb, tb0]; exact hora) k20) with er_ | ⟨v1, n1a, n1c, n1d, n1e⟩
    · refine .inl (fin ((t + 2) + 1) HB c.2.2 (by rw [dc]; exact er_) (RB.trans Nn) ?_)
      have g0 : ¬ te_er c.2.2 = 0 := (by rw [dc]; exact ne_le er_.1)
      have g5 : ¬ te_er c.2.2 = 0 := g0
      have g6 : r.2.2 = c.2.2 := w3.1 g5
      exact g6
    have qc : c.1 = nI v1 := by rw [dc]; exact n1c
    have Ec : c.2.2 = E := by rw [dc]; exact n1d
    obtain ⟨HC0, eHC0⟩ : ∃ z, z = sh_me' HB (upd (sh_me HB) ((t + 2) + 1) (nI v1)) := ⟨_, rfl⟩
    obtain ⟨HC, eHC⟩ : ∃ z, z = sh_ot' HC0 (upd (sh_ot HB) k (nI v1)) := ⟨_, rfl⟩
    have n1f : RDm M n ((t + 2) + 1) HB = RDm M n (t + 4) HC := by rw [eHC, eHC0]; exact n1e
    have tc := sh_set_ot eHC
    have tc0 := sh_set_me eHC0
    have ob1 : v1 < sh_ha H1 11 := by simp only [tb, tb0, sa4, sa3, sa2, sa1] at n1a; exact n1a
    have SC : SameT H HC := by unfold SameT; simp only [tc, tc0, tb, tb0, sa4, sa3, sa2, sa1]; exact lS
    have nc_ : NRel K HC (NN N0 N1 N2 N3 N4) n := lN.congr (by simp only [tc, tc0, tb, tb0, sa4, sa3, sa2, sa1]) (by simp only [tc, tc0, tb, tb0, sa4, sa3, sa2, sa1])
    have RC := (RB.trans Nn).trans n1f
    have orrX : sh_or HC = k + 1 := by simp only [tc, tc0, tb, tb0, sa4, sa3, sa2, sa1]
    have QX := when_step (M := M) hX (show (t + 4) < n by omega) SC (by omega) (by rw [show t + 4 - 1 = t + 3 by omega]; omega) xk orrX k20
    obtain ⟨HX, eHX⟩ : ∃ z, z = sh_wh' HC (upd (sh_wh HC) k (nI ((t + 4) + 1))) := ⟨_, rfl⟩
    rw [← eHX] at QX
    have sX := sh_set_wh eHX
    have SX : SameT H HX := by unfold SameT; simp only [sX, tc, tc0, tb, tb0, sa4, sa3, sa2, sa1]; exact lS
    have nX_ : NRel K HX (NN N0 N1 N2 N3 N4) n := lN.congr (by simp only [sX, tc, tc0, tb, tb0, sa4, sa3, sa2, sa1]) (by simp only [sX, tc, tc0, tb, tb0, sa4, sa3, sa2, sa1])
    have RX := RC.trans QX
    rcases w3.2 (by rw [Ec]; exact hE) aa HX la1 (by omega) SX nX_ with er_ | ⟨mYa, meY, bbY, mYb, mYc, mYd, mYe, mYf, mYg, mYh⟩
    · exact .inl (fin (t + 4 + 1) HX r.2.2 er_ RX rfl)
    obtain ⟨HY, eHY⟩ : ∃ z, z = sh_me' HX meY := ⟨_, rfl⟩
    rw [← eHY] at mYb mYh
    have sY := sh_set_me eHY
    have mmY : ∀ j, j < t + 4 + 1 ∨ u.2 ≤ j → sh_me HY j = sh_me HX j := fun j hj => by simp only [sY]; exact mYc j hj
    have SY : SameT H HY := by unfold SameT; simp only [sY, sX, tc, tc0, tb, tb0, sa4, sa3, sa2, sa1]; exact lS
    have nY_ : NRel K HY (NN N0 N1 N2 N3 N4) n := lN.congr (by simp only [sY, sX, tc, tc0, tb, tb0, sa4, sa3, sa2, sa1]) (by simp only [sY, sX, tc, tc0, tb, tb0, sa4, sa3, sa2, sa1])
    have RY := RX.trans mYb
    have EY : r.2.2 = E := mYa.trans Ec
    have NZ := neu_k (M := M) (g := 39) hX (show u.2 < n by omega) SY (by omega) w2 (Fin.ext g39) (by decide)
    have fha : sh_ha HY = sh_ha H1 := by simp only [sY, sX, tc, tc0, tb, tb0, sa4, sa3, sa2, sa1]
    have fhg : sh_hg HY = sh_hg H1 := by simp only [sY, sX, tc, tc0, tb, tb0, sa4, sa3, sa2, sa1]
    have fsn : sh_sn HY = sh_sn H1 := by simp only [sY, sX, tc, tc0, tb, tb0, sa4, sa3, sa2, sa1]
    have fsi : sh_si HY = sh_si H1 := by simp only [sY, sX, tc, tc0, tb, tb0, sa4, sa3, sa2, sa1]
    have fdp : sh_dp HY = sh_dp H1 := by simp only [sY, sX, tc, tc0, tb, tb0, sa4, sa3, sa2, sa1]
    have fab : sh_ab HY = sh_ab H1 := by simp only [sY, sX, tc, tc0, tb, tb0, sa4, sa3, sa2, sa1]
    have fbr : sh_br HY = sh_br H1 := by simp only [sY, sX, tc, tc0, tb, tb0, sa4, sa3, sa2, sa1]
    have fdi : sh_di HY = sh_di H1 := by simp only [sY, sX, tc, tc0, tb, tb0, sa4, sa3, sa2, sa1]
    have ffo : sh_fo HY = sh_fo H1 := by simp only [sY, sX, tc, tc0, tb, tb0, sa4, sa3, sa2, sa1]
    have fsz : sh_sz HY = sh_sz H1 := by simp only [sY, sX, tc, tc0, tb, tb0, sa4, sa3, sa2, sa1]
    have fsk : sh_sk HY = sh_sk H1 := by simp only [sY, sX, tc, tc0, tb, tb0, sa4, sa3, sa2, sa1]
    have fti : sh_ti HY = sh_ti H1 := by simp only [sY, sX, tc, tc0, tb, tb0, sa4, sa3, sa2, sa1]
    have fwa : sh_wa HY = sh_wa H1 := by simp only [sY, sX, tc, tc0, tb, tb0, sa4, sa3, sa2, sa1]
    have for_ : sh_or HY = k + 1 := by simp only [sY, sX, tc, tc0, tb, tb0, sa4, sa3, sa2, sa1]
    have fds : sh_ds HY = upd (sh_ds H1) k (kOf 17) := by simp only [sY, sX, tc, tc0, tb, tb0, sa4, sa3, sa2, sa1]
    have fon : sh_on HY = upd (sh_on H1) k (nI v0) := by simp only [sY, sX, tc, tc0, tb, tb0, sa4, sa3, sa2, sa1]
    have fot : sh_ot HY = upd (sh_ot H1) k (nI v1) := by simp only [sY, sX, tc, tc0, tb, tb0, sa4, sa3, sa2, sa1]
    have fsu : sh_su HY = sh_su H1 := by simp only [sY, sX, tc, tc0, tb, tb0, sa4, sa3, sa2, sa1]
    have fwh : sh_wh HY = upd (upd (sh_wh H1) k (-1)) k (nI (t + 4 + 1)) := by simp only [sY, sX, tc, tc0, tb, tb0, sa4, sa3, sa2, sa1]
    have fme0 : ∀ j, j < t → sh_me HX j = sh_me H1 j := fun j hj => by
      simp only [sX, tc, tc0, tb, tb0, sa4, sa3, sa2, sa1]
      rw [upd_ne _ _ (by omega), upd_ne _ _ (by omega)]
    have fme : ∀ j, j < t → sh_me HY j = sh_me H1 j := fun j hj => (mmY j (by omega)).trans (fme0 j hj)
    have eT : s_Orders_note (s_Orders_note (s_Orders_note (s_Orders_note O.1 F 2 b.1) F 1 c.1) F 5 (s_Formulas_size F)) r.2.1 6 (s_Formulas_size r.2.1) = ((upd (upd (upd (upd (upd (zeroF T.1 (k * 8) (k * 8 + 8)) (8 * k + 0) 2) (8 * k + 2) (nI v0)) (8 * k + 1) (nI v1)) (8 * k + 5) (nI aa)) (8 * k + 6) (nI bbY)), k + 1) := by
      rw [O1, qb, qc, show s_Formulas_size F = nI aa from la1, show s_Formulas_size r.2.1 = nI bbY from mYd]
      simp only [note_p k20]
    rw [eT]
    have b800 : bbY ≤ 2 * u.2 := by omega
    have XT : EXT F r.2.1 aa bbY := mYg
    refine .inr ⟨EY, HY, ?_, SY, nY_, ⟨by rw [fha]; exact c0_, by rw [fha]; exact c3_, by rw [fha]; exact c6_, by rw [fha]; exact c9_, by rw [fha]; exact c11_, by rw [for_]; omega⟩, ?_, ?_, ⟨for_.symm, fun i hi => ?_⟩, bbY, mYd, by omega⟩
    · rw [p9]
      exact (RY.trans NZ)
    · unfold LG
      rw [fha, fhg, fsn, fsi, fdp, fab, fbr, fdi, ffo, fsz, fsk, fti, fwa]
      exact lG
    · unfold LV
      rw [fha, fhg, fsn, fsi, fdp, fab, fbr, fdi, ffo, fsz, fsk, fti, fwa]
      exact lV
    · by_cases z : i = k
      · rw [z]
        exact ⟨.inr (.inr (.inl ⟨(upd_ne _ _ (by omega)).trans ((upd_ne _ _ (by omega)).trans ((upd_ne _ _ (by omega)).trans ((upd_ne _ _ (by omega)).trans (upd_at _ _ _)))), by rw [fds, upd_at]; rfl, v1, v0, by rw [fha]; exact ob1, by rw [fha]; exact ob0, (upd_ne _ _ (by omega)).trans ((upd_ne _ _ (by omega)).trans (upd_at _ _ _)), (upd_ne _ _ (by omega)).trans ((upd_ne _ _ (by omega)).trans ((upd_ne _ _ (by omega)).trans (upd_at _ _ _))), by rw [fot]; exact upd_at _ _ _, by rw [fon]; exact upd_at _ _ _⟩)), .inr ⟨aa, bbY, t + 4 + 1, (upd_ne _ _ (by omega)).trans (upd_at _ _ _), upd_at _ _ _, by rw [fwh]; exact upd_at _ _ _, ⟨u.2, by omega, by omega, by omega, ⟨bbY, mYd, Nat.le_refl _, by omega⟩, mYg.2, mYh⟩⟩⟩
      · have hik : i < k := by rw [for_] at hi; omega
        exact KL.keep (lO.2 i (by omega)) (by omega) la1 mYd (by omega) (by omega) XT.1 fme (fun k => by rw [fha]; exact Nat.le_refl _) (fun c hc => (upd_ne _ _ (by omega)).trans ((upd_ne _ _ (by omega)).trans ((upd_ne _ _ (by omega)).trans ((upd_ne _ _ (by omega)).trans ((upd_ne _ _ (by omega)).trans (zero_out (by omega))))))) (by rw [fds]; exact upd_ne _ _ z) (by rw [fon]; exact upd_ne _ _ z) (by rw [fot]; exact upd_ne _ _ z) (by rw [fsu]) (by rw [fwh]; exact (upd_ne _ _ (by omega)).trans (upd_ne _ _ (by omega)))
theorem line_drill {K : TK} {H : SH} {n : Nat} {M : MO} {d : Int32} {t : Nat} {F : FM} {E : TE} {N0 N1 N2 N3 N4 : NM} {T : TM} {σ : GL} {M1 : MO} (hX : LX K H n) (hW : LW (mo_tk' M n) K (sh_fr H) (sh_mn H) n) (ht : t < n) (hg : gk K t = 21) : LINE K H n M d t F E (NN N0 N1 N2 N3 N4) T σ M1 (s_Tokens_expect (s_Teacher_readWhen (s_Teacher_readDrill (tA K t) F E N0 N1 N2 N3 N4 T σ).1 F (s_Teacher_readDrill (tA K t) F E N0 N1 N2 N3 N4 T σ).2.1 N0 N1 N2 N3 N4 (s_Teacher_readDrill (tA K t) F E N0 N1 N2 N3 N4 T σ).2.2 σ).1 39) (s_Teacher_readWhen (s_Teacher_readDrill (tA K t) F E N0 N1 N2 N3 N4 T σ).1 F (s_Teacher_readDrill (tA K t) F E N0 N1 N2 N3 N4 T σ).2.1 N0 N1 N2 N3 N4 (s_Teacher_readDrill (tA K t) F E N0 N1 N2 N3 N4 T σ).2.2 σ).2.1 (s_Teacher_readWhen (s_Teacher_readDrill (tA K t) F E N0 N1 N2 N3 N4 T σ).1 F (s_Teacher_readDrill (tA K t) F E N0 N1 N2 N3 N4 T σ).2.1 N0 N1 N2 N3 N4 (s_Teacher_readDrill (tA K t) F E N0 N1 N2 N3 N4 T σ).2.2 σ).2.2.1 (NN N0 N1 N2 N3 N4) (s_Teacher_readWhen (s_Teacher_readDrill (tA K t) F E N0 N1 N2 N3 N4 T σ).1 F (s_Teacher_readDrill (tA K t) F E N0 N1 N2 N3 N4 T σ).2.1 N0 N1 N2 N3 N4 (s_Teacher_readDrill (tA K t) F E N0 N1 N2 N3 N4 T σ).2.2 σ).2.2.2 σ (isL H (mS M1 t 0)) := by
  have h400 := hX.1
  obtain ⟨O, eO⟩ : ∃ z, z = s_Teacher_newOrder T F (tA K t) E 4 := ⟨_, rfl⟩
  obtain ⟨b, eb⟩ : ∃ z, z = s_Teacher_oldName (tA K t) O.2 N1 21 := ⟨_, rfl⟩
  have eR : s_Teacher_readDrill (tA K t) F E N0 N1 N2 N3 N4 T σ = (b.2.1, b.2.2, s_Orders_note O.1 F 2 b.1) := by
    unfold s_Teacher_readDrill
    rw [← eO, ← eb]
  rw [eR]
  obtain ⟨r, er⟩ : ∃ z, z = rd_ N0 N1 N2 N3 N4 64 0 0 0 (s_Tokens_expect b.2.1 22, F, b.2.2) := ⟨_, rfl⟩
  have eW : s_Teacher_readWhen b.2.1 F b.2.2 N0 N1 N2 N3 N4 (s_Orders_note O.1 F 2 b.1) σ = (r.1, r.2.1, r.2.2, s_Orders_note (s_Orders_note (s_Orders_note O.1 F 2 b.1) F 5 (s_Formulas_size F)) r.2.1 6 (s_Formulas_size r.2.1)) := by
    unfold s_Teacher_readWhen
    rw [← er]
  dsimp only
  rw [eW]
  dsimp only
  obtain ⟨s1, es1⟩ : ∃ z, z = nx K 21 50 (true, t) := ⟨_, rfl⟩
  have l1 : t ≤ s1.2 ∧ s1.2 ≤ n := by rw [es1]; exact nx_le (s := (true, t)) hX (by decide) (by decide) (Nat.le_of_lt ht)
  have kb : b.2.1 = st K s1 := by rw [eb, es1]; exact old_st (s := (true, t)) hX (by decide) (Nat.le_of_lt ht)
  obtain ⟨u, d', c1, c2, c3, c4, c5, c6⟩ := core (M := M) (N := NN N0 N1 N2 N3 N4) (s := s1) (F := F) (E := b.2.2) (M1 := M1) (g := 22) (w := 0) (kg := 22) (G := fun q => ((s_Model_eat_0 H 44 q.2).bind fun y => if y.1 = 0 then some (0, y.2) else some (1, y.2))) hX hW l1.2 (by decide) (by decide) rfl (by omega)
  have er' : r = rd_ (NN N0 N1 N2 N3 N4 0) (NN N0 N1 N2 N3 N4 1) (NN N0 N1 N2 N3 N4 2) (NN N0 N1 N2 N3 N4 3) (NN N0 N1 N2 N3 N4 4) 64 0 0 0 (s_Tokens_expect (st K s1) 22, F, b.2.2) := by rw [er, kb]; rfl
  rw [← er'] at c1 c6
  obtain ⟨s9, es9⟩ : ∃ z, z = nx1 K 39 u := ⟨_, rfl⟩
  have l9 : u.2 ≤ s9.2 ∧ s9.2 ≤ n := by rw [es9]; exact nx1_le hX (by decide) c3
  have ke : s_Tokens_expect r.1 39 = st K s9 := by rw [c1, es9]; exact exp_st hX (by decide) c3
  have kdt : sh_kd H (mo_tk (mS M1 t 0)) = 21 := by (show sh_kd H t = _; rw [(hX.2.2 t (by omega)).2.1, hg]; rfl)
  have he : s_Model_eat_0 H 36 (mo_tk' (mS M1 t 0) ((mo_tk (mS M1 t 0)) + 1)) = md s1 M1 := by
    show s_Model_eat_0 H 36 (mS M1 (t + 1) 0) = _
    rw [eatN hX (show t + 1 ≤ n by omega) (x := 36) (y := 50) (by decide) rfl, es1]
    unfold nx
    rw [if_pos rfl, if_pos (show (gk K (true, t).2).val = 21 by show (gk K t).val = 21; rw [hg]; rfl)]
    show some (if (gk K (t + 1)).val = 50 then ((1 : Int32), mS M1 (t + 2) 0) else (0, mS M1 (t + 1) 0)) = md (if (gk K (t + 1)).val = 50 then (true, t + 2) else (false, t + 1)) M1
    by_cases e : (gk K (t + 1)).val = 50
    · rw [if_pos e, if_pos e]; rfl
    · rw [if_neg e, if_neg e]; rfl
  have hm : ∃ d2, isL H (mS M1 t 0) = some (if s9.1 = true then 1 else 0, mS M1 s9.2 d2) ∧ (s9.1 = true → d2 = 0) := by
    unfold isL s_Model_isLine s_Model_isWhen
    rw [if_pos (show mo_tk (mS M1 t 0) < 401 by show t < 401; omega), kdt, if_neg (show ¬ (21 : Int32) = 0 by decide), if_neg (show ¬ (21 : Int32) = 3 by decide), if_neg (show ¬ (21 : Int32) = 6 by decide), if_neg (show ¬ (21 : Int32) = 9 by decide), if_neg (show ¬ (21 : Int32) = 11 by decide), if_neg (show ¬ (21 : Int32) = 13 by decide), if_neg (show ¬ (21 : Int32) = 15 by decide), if_neg (show ¬ (21 : Int32) = 16 by decide), if_neg (show ¬ (21 : Int32) = 17 by decide), if_pos (show (21 : Int32) = 21 from rfl), he]
    simp only [bnd3, bnd2]
    rw [es9]
    exact tail_m hX c3 c4 c5
  obtain ⟨d2, hm1, hm2⟩ := hm
  refine ⟨s9, d2, ke, hm1, by omega, by omega, fun hok => ?_⟩
  obtain ⟨ou, g39, p9⟩ : u.1 = true ∧ (gk K u.2).val = 39 ∧ s9.2 = u.2 + 1 := by rw [es9] at hok ⊢; exact nx1_true hok
  obtain ⟨oh, xk, w1, w2, w3⟩ := c6 ou
  have o1 := oh
  obtain ⟨-, x1, y1, p1⟩ : true = true ∧ (gk K t).val = 21 ∧ (gk K (t + 1)).val = 50 ∧ s1.2 = t + 2 := by rw [es1] at o1 ⊢; exact nx_true o1
  rw [p1] at xk w1 w3
  replace kb : b.2.1 = tA K (t + 2) := by rw [kb]; unfold st; rw [if_pos o1, p1]
  refine ⟨hm2 hok, by omega, by rw [show s9.2 - 1 = u.2 by omega]; exact g39, fun hE => ?_, fun hE H1 hL h0 => ?_⟩
  · have z0 : O.2 = E := by rw [eO]; exact ord_sticky hE
    have z1 : b.2.2 = E := by rw [eb, z0]; exact old_sticky hE
    exact (w3.1 (by rw [z1]; exact hE)).trans z1
  · obtain ⟨lS, lN, lC, lG, lV, lO, aa, la1, la2⟩ := hL
    obtain ⟨c0_, c3_, c6_, c9_, c11_, c20⟩ := lC
    obtain ⟨k, ek⟩ : ∃ k, k = sh_or H1 := ⟨_, rfl⟩
    have fin : ∀ p Hx E2, ERR K M n p Hx E2 → RDm M n t H1 = RDm M n p Hx → r.2.2 = E2 → ERR K M n t H1 r.2.2 := fun p Hx E2 q1 q2 q3 => q1.back q2 q3
    rcases ord_step (M := M) (T := T) (F := F) (E := E) (x := 4) (k := k) hX ht lS h0 hg (by decide) hE (by rw [ek]; exact lO.1) ek.symm (by omega) with er_ | ⟨k20, oq, R0⟩
    · refine .inl (fin t H1 O.2 (by rw [eO]; exact er_) rfl ?_)
      have g0 : ¬ te_er O.2 = 0 := (by rw [eO]; exact ne_le er_.1)
      have g1 : b.2.2 = O.2 := by rw [eb]; exact old_sticky g0
      have g5 : ¬ te_er b.2.2 = 0 := by rw [g1]; exact g0
      have g6 : r.2.2 = b.2.2 := w3.1 g5
      exact g6.trans g1
    have O1 : O.1 = (upd (zeroF T.1 (k * 8) (k * 8 + 8)) (8 * k + 0) 4, k + 1) := by rw [eO, oq]
    have O2 : O.2 = E := by rw [eO, oq]
    obtain ⟨Hl, eHl⟩ : ∃ z, z = sh_ln' H1 (kOf 21) := ⟨_, rfl⟩
    rw [← eHl] at R0
    obtain ⟨Hd, eHd⟩ : ∃ z, z = sh_ds' Hl (upd (sh_ds H1) k (kOf 21)) := ⟨_, rfl⟩
    rw [← eHd] at R0
    obtain ⟨Hw, eHw⟩ : ∃ z, z = sh_wh' Hd (upd (sh_wh H1) k (-1)) := ⟨_, rfl⟩
    rw [← eHw] at R0
    obtain ⟨Ha, eHa⟩ : ∃ z, z = sh_or' Hw (k + 1) := ⟨_, rfl⟩
    rw [← eHa] at R0
    have sa1 := sh_set_ln eHl
    have sa2 := sh_set_ds eHd
    have sa3 := sh_set_wh eHw
    have sa4 := sh_set_or eHa
    have Sa : SameT H Ha := by unfold SameT; simp only [sa4, sa3, sa2, sa1]; exact lS
    have na : NRel K Ha (NN N0 N1 N2 N3 N4) n := lN.congr (by simp only [sa4, sa3, sa2, sa1]) (by simp only [sa4, sa3, sa2, sa1])
    have hora : sh_or Ha = k + 1 := by simp only [sa4]
    have db : b = s_Teacher_oldName (tA K t) E (NN N0 N1 N2 N3 N4 1) (gk K t) := by rw [eb, O2, hg]; rfl
    rcases old_step (M := M) (Ha := Ha) (t := t) (i := 1) (E := E) (W := fun x => sh_on' (sh_me' Ha (upd (sh_me Ha) (t + 1) x)) (upd (sh_on Ha) k x)) hX hW (show t + 1 < n by omega) Sa na (by decide) y1 hE (by rw [hg]; decide) (fun x hx hfx => eo_21 (M := mo_tk' M n) (i := t + 1) (x := x) (by omega) (by omega) (by have := (na 1 (by decide)).1; have := (na 1 (by decide)).2.1; omega) (by rw [Nat.add_sub_cancel, Sa.1, (hX.2.2 t (by omega)).2.1, hg]; rfl) hfx hora k20) with er_ | ⟨v0, n0a, n0c, n0d, n0e⟩
    · refine .inl (fin (t + 1) Ha b.2.2 (by rw [db]; exact er_) R0 ?_)
      have g0 : ¬ te_er b.2.2 = 0 := (by rw [db]; exact ne_le er_.1)
      have g5 : ¬ te_er b.2.2 = 0 := g0
      have g6 : r.2.2 = b.2.2 := w3.1 g5
      exact g6
    have qb : b.1 = nI v0 := by rw [db]; exact n0c
    have Eb : b.2.2 = E := by rw [db]; exact n0d
    obtain ⟨HB0, eHB0⟩ : ∃ z, z = sh_me' Ha (upd (sh_me Ha) (t + 1) (nI v0)) := ⟨_, rfl⟩
    obtain ⟨HB, eHB⟩ : ∃ z, z = sh_on' HB0 (upd (sh_on Ha) k (nI v0)) := ⟨_, rfl⟩
    have n0f : RDm M n (t + 1) Ha = RDm M n (t + 2) HB := by rw [eHB, eHB0]; exact n0e
    have tb := sh_set_on eHB
    have tb0 := sh_set_me eHB0
    have ob0 : v0 < sh_ha H1 3 := by simp only [sa4, sa3, sa2, sa1] at n0a; exact n0a
    have SB : SameT H HB := by unfold SameT; simp only [tb, tb0, sa4, sa3, sa2, sa1]; exact lS
    have nb_ : NRel K HB (NN N0 N1 N2 N3 N4) n := lN.congr (by simp only [tb, tb0, sa4, sa3, sa2, sa1]) (by simp only [tb, tb0, sa4, sa3, sa2, sa1])
    have RB := R0.trans n0f
    have orrX : sh_or HB = k + 1 := by simp only [tb, tb0, sa4, sa3, sa2, sa1]
    have QX := when_step (M := M) hX (show (t + 2) < n by omega) SB (by omega) (by rw [show t + 2 - 1 = t + 1 by omega]; omega) xk orrX k20
    obtain ⟨HX, eHX⟩ : ∃ z, z = sh_wh' HB (upd (sh_wh HB) k (nI ((t + 2) + 1))) := ⟨_, rfl⟩
    rw [← eHX] at QX
    have sX := sh_set_wh eHX
    have SX : SameT H HX := by unfold SameT; simp only [sX, tb, tb0, sa4, sa3, sa2, sa1]; exact lS
    have nX_ : NRel K HX (NN N0 N1 N2 N3 N4) n := lN.congr (by simp only [sX, tb, tb0, sa4, sa3, sa2, sa1]) (by simp only [sX, tb, tb0, sa4, sa3, sa2, sa1])
    have RX := RB.trans QX
    rcases w3.2 (by rw [Eb]; exact hE) aa HX la1 (by omega) SX nX_ with er_ | ⟨mYa, meY, bbY, mYb, mYc, mYd, mYe, mYf, mYg, mYh⟩
    · exact .inl (fin (t + 2 + 1) HX r.2.2 er_ RX rfl)
    obtain ⟨HY, eHY⟩ : ∃ z, z = sh_me' HX meY := ⟨_, rfl⟩
    rw [← eHY] at mYb mYh
    have sY := sh_set_me eHY
    have mmY : ∀ j, j < t + 2 + 1 ∨ u.2 ≤ j → sh_me HY j = sh_me HX j := fun j hj => by simp only [sY]; exact mYc j hj
    have SY : SameT H HY := by unfold SameT; simp only [sY, sX, tb, tb0, sa4, sa3, sa2, sa1]; exact lS
    have nY_ : NRel K HY (NN N0 N1 N2 N3 N4) n := lN.congr (by simp only [sY, sX, tb, tb0, sa4, sa3, sa2, sa1]) (by simp only [sY, sX, tb, tb0, sa4, sa3, sa2, sa1])
    have RY := RX.trans mYb
    have EY : r.2.2 = E := mYa.trans Eb
    have NZ := neu_k (M := M) (g := 39) hX (show u.2 < n by omega) SY (by omega) w2 (Fin.ext g39) (by decide)
    have fha : sh_ha HY = sh_ha H1 := by simp only [sY, sX, tb, tb0, sa4, sa3, sa2, sa1]
    have fhg : sh_hg HY = sh_hg H1 := by simp only [sY, sX, tb, tb0, sa4, sa3, sa2, sa1]
    have fsn : sh_sn HY = sh_sn H1 := by simp only [sY, sX, tb, tb0, sa4, sa3, sa2, sa1]
    have fsi : sh_si HY = sh_si H1 := by simp only [sY, sX, tb, tb0, sa4, sa3, sa2, sa1]
    have fdp : sh_dp HY = sh_dp H1 := by simp only [sY, sX, tb, tb0, sa4, sa3, sa2, sa1]
    have fab : sh_ab HY = sh_ab H1 := by simp only [sY, sX, tb, tb0, sa4, sa3, sa2, sa1]
    have fbr : sh_br HY = sh_br H1 := by simp only [sY, sX, tb, tb0, sa4, sa3, sa2, sa1]
    have fdi : sh_di HY = sh_di H1 := by simp only [sY, sX, tb, tb0, sa4, sa3, sa2, sa1]
    have ffo : sh_fo HY = sh_fo H1 := by simp only [sY, sX, tb, tb0, sa4, sa3, sa2, sa1]
    have fsz : sh_sz HY = sh_sz H1 := by simp only [sY, sX, tb, tb0, sa4, sa3, sa2, sa1]
    have fsk : sh_sk HY = sh_sk H1 := by simp only [sY, sX, tb, tb0, sa4, sa3, sa2, sa1]
    have fti : sh_ti HY = sh_ti H1 := by simp only [sY, sX, tb, tb0, sa4, sa3, sa2, sa1]
    have fwa : sh_wa HY = sh_wa H1 := by simp only [sY, sX, tb, tb0, sa4, sa3, sa2, sa1]
    have for_ : sh_or HY = k + 1 := by simp only [sY, sX, tb, tb0, sa4, sa3, sa2, sa1]
    have fds : sh_ds HY = upd (sh_ds H1) k (kOf 21) := by simp only [sY, sX, tb, tb0, sa4, sa3, sa2, sa1]
    have fon : sh_on HY = upd (sh_on H1) k (nI v0) := by simp only [sY, sX, tb, tb0, sa4, sa3, sa2, sa1]
    have fot : sh_ot HY = sh_ot H1 := by simp only [sY, sX, tb, tb0, sa4, sa3, sa2, sa1]
    have fsu : sh_su HY = sh_su H1 := by simp only [sY, sX, tb, tb0, sa4, sa3, sa2, sa1]
    have fwh : sh_wh HY = upd (upd (sh_wh H1) k (-1)) k (nI (t + 2 + 1)) := by simp only [sY, sX, tb, tb0, sa4, sa3, sa2, sa1]
    have fme0 : ∀ j, j < t → sh_me HX j = sh_me H1 j := fun j hj => by
      simp only [sX, tb, tb0, sa4, sa3, sa2, sa1]
      rw [upd_ne _ _ (by omega)]
    have fme : ∀ j, j < t → sh_me HY j = sh_me H1 j := fun j hj => (mmY j (by omega)).trans (fme0 j hj)
    have eT : s_Orders_note (s_Orders_note (s_Orders_note O.1 F 2 b.1) F 5 (s_Formulas_size F)) r.2.1 6 (s_Formulas_size r.2.1) = ((upd (upd (upd (upd (zeroF T.1 (k * 8) (k * 8 + 8)) (8 * k + 0) 4) (8 * k + 2) (nI v0)) (8 * k + 5) (nI aa)) (8 * k + 6) (nI bbY)), k + 1) := by
      rw [O1, qb, show s_Formulas_size F = nI aa from la1, show s_Formulas_size r.2.1 = nI bbY from mYd]
      simp only [note_p k20]
    rw [eT]
    have b800 : bbY ≤ 2 * u.2 := by omega
    have XT : EXT F r.2.1 aa bbY := mYg
    refine .inr ⟨EY, HY, ?_, SY, nY_, ⟨by rw [fha]; exact c0_, by rw [fha]; exact c3_, by rw [fha]; exact c6_, by rw [fha]; exact c9_, by rw [fha]; exact c11_, by rw [for_]; omega⟩, ?_, ?_, ⟨for_.symm, fun i hi => ?_⟩, bbY, mYd, by omega⟩
    · rw [p9]
      exact (RY.trans NZ)
    · unfold LG
      rw [fha, fhg, fsn, fsi, fdp, fab, fbr, fdi, ffo, fsz, fsk, fti, fwa]
      exact lG
    · unfold LV
      rw [fha, fhg, fsn, fsi, fdp, fab, fbr, fdi, ffo, fsz, fsk, fti, fwa]
      exact lV
    · by_cases z : i = k
      · rw [z]
        exact ⟨.inr (.inr (.inr (.inr ⟨(upd_ne _ _ (by omega)).trans ((upd_ne _ _ (by omega)).trans ((upd_ne _ _ (by omega)).trans (upd_at _ _ _))), by rw [fds, upd_at]; rfl, v0, by rw [fha]; exact ob0, (upd_ne _ _ (by omega)).trans ((upd_ne _ _ (by omega)).trans (upd_at _ _ _)), by rw [fon]; exact upd_at _ _ _⟩))), .inr ⟨aa, bbY, t + 2 + 1, (upd_ne _ _ (by omega)).trans (upd_at _ _ _), upd_at _ _ _, by rw [fwh]; exact upd_at _ _ _, ⟨u.2, by omega, by omega, by omega, ⟨bbY, mYd, Nat.le_refl _, by omega⟩, mYg.2, mYh⟩⟩⟩
      · have hik : i < k := by rw [for_] at hi; omega
        exact KL.keep (lO.2 i (by omega)) (by omega) la1 mYd (by omega) (by omega) XT.1 fme (fun k => by rw [fha]; exact Nat.le_refl _) (fun c hc => (upd_ne _ _ (by omega)).trans ((upd_ne _ _ (by omega)).trans ((upd_ne _ _ (by omega)).trans ((upd_ne _ _ (by omega)).trans (zero_out (by omega)))))) (by rw [fds]; exact upd_ne _ _ z) (by rw [fon]; exact upd_ne _ _ z) (by rw [fot]) (by rw [fsu]) (by rw [fwh]; exact (upd_ne _ _ (by omega)).trans (upd_ne _ _ (by omega)))
theorem line_fill1 {K : TK} {H : SH} {n : Nat} {M : MO} {d : Int32} {t : Nat} {F : FM} {E : TE} {N0 N1 N2 N3 N4 : NM} {T : TM} {σ : GL} {M1 : MO} (hX : LX K H n) (hW : LW (mo_tk' M n) K (sh_fr H) (sh_mn H) n) (ht : t < n) (hg : gk K t = 19) (hsg : (s_Tokens_sign (s_Teacher_readFill (tA K t) F E N0 N1 N2 N3 N4 T σ).1).val = 22) : LINE K H n M d t F E (NN N0 N1 N2 N3 N4) T σ M1 (s_Tokens_expect (s_Teacher_readWhen (s_Teacher_readFill (tA K t) F E N0 N1 N2 N3 N4 T σ).1 (s_Teacher_readFill (tA K t) F E N0 N1 N2 N3 N4 T σ).2.1 (s_Teacher_readFill (tA K t) F E N0 N1 N2 N3 N4 T σ).2.2.1 N0 N1 N2 N3 N4 (s_Teacher_readFill (tA K t) F E N0 N1 N2 N3 N4 T σ).2.2.2 σ).1 39) (s_Teacher_readWhen (s_Teacher_readFill (tA K t) F E N0 N1 N2 N3 N4 T σ).1 (s_Teacher_readFill (tA K t) F E N0 N1 N2 N3 N4 T σ).2.1 (s_Teacher_readFill (tA K t) F E N0 N1 N2 N3 N4 T σ).2.2.1 N0 N1 N2 N3 N4 (s_Teacher_readFill (tA K t) F E N0 N1 N2 N3 N4 T σ).2.2.2 σ).2.1 (s_Teacher_readWhen (s_Teacher_readFill (tA K t) F E N0 N1 N2 N3 N4 T σ).1 (s_Teacher_readFill (tA K t) F E N0 N1 N2 N3 N4 T σ).2.1 (s_Teacher_readFill (tA K t) F E N0 N1 N2 N3 N4 T σ).2.2.1 N0 N1 N2 N3 N4 (s_Teacher_readFill (tA K t) F E N0 N1 N2 N3 N4 T σ).2.2.2 σ).2.2.1 (NN N0 N1 N2 N3 N4) (s_Teacher_readWhen (s_Teacher_readFill (tA K t) F E N0 N1 N2 N3 N4 T σ).1 (s_Teacher_readFill (tA K t) F E N0 N1 N2 N3 N4 T σ).2.1 (s_Teacher_readFill (tA K t) F E N0 N1 N2 N3 N4 T σ).2.2.1 N0 N1 N2 N3 N4 (s_Teacher_readFill (tA K t) F E N0 N1 N2 N3 N4 T σ).2.2.2 σ).2.2.2 σ (isL H (mS M1 t 0)) := by
  have h400 := hX.1
  obtain ⟨O, eO⟩ : ∃ z, z = s_Teacher_newOrder T F (tA K t) E 3 := ⟨_, rfl⟩
  obtain ⟨b, eb⟩ : ∃ z, z = s_Teacher_oldName (tA K t) O.2 N4 19 := ⟨_, rfl⟩
  obtain ⟨q, eq⟩ : ∃ z, z = rd_ N0 N1 N2 N3 N4 64 3 0 0 (s_Tokens_expect b.2.1 20, F, b.2.2) := ⟨_, rfl⟩
  have eR : s_Teacher_readFill (tA K t) F E N0 N1 N2 N3 N4 T σ = (q.1, q.2.1, q.2.2, s_Orders_note (s_Orders_note (s_Orders_note O.1 F 1 b.1) F 3 (s_Formulas_size F)) q.2.1 4 (s_Formulas_size q.2.1)) := by
    unfold s_Teacher_readFill
    rw [← eO, ← eb, ← eq]
  rw [eR] at hsg ⊢
  obtain ⟨r, er⟩ : ∃ z, z = rd_ N0 N1 N2 N3 N4 64 0 0 0 (s_Tokens_expect q.1 22, q.2.1, q.2.2) := ⟨_, rfl⟩
  have eW : s_Teacher_readWhen q.1 q.2.1 q.2.2 N0 N1 N2 N3 N4 (s_Orders_note (s_Orders_note (s_Orders_note O.1 F 1 b.1) F 3 (s_Formulas_size F)) q.2.1 4 (s_Formulas_size q.2.1)) σ = (r.1, r.2.1, r.2.2, s_Orders_note (s_Orders_note (s_Orders_note (s_Orders_note (s_Orders_note O.1 F 1 b.1) F 3 (s_Formulas_size F)) q.2.1 4 (s_Formulas_size q.2.1)) q.2.1 5 (s_Formulas_size q.2.1)) r.2.1 6 (s_Formulas_size r.2.1)) := by
    unfold s_Teacher_readWhen
    rw [← er]
  dsimp only at hsg ⊢
  rw [eW]
  dsimp only
  obtain ⟨s1, es1⟩ : ∃ z, z = nx K 19 50 (true, t) := ⟨_, rfl⟩
  have l1 : t ≤ s1.2 ∧ s1.2 ≤ n := by rw [es1]; exact nx_le (s := (true, t)) hX (by decide) (by decide) (Nat.le_of_lt ht)
  have kb : b.2.1 = st K s1 := by rw [eb, es1]; exact old_st (s := (true, t)) hX (by decide) (Nat.le_of_lt ht)
  obtain ⟨u, d', c1, c2, c3, c4, c5, c6⟩ := core (M := M) (N := NN N0 N1 N2 N3 N4) (s := s1) (F := F) (E := b.2.2) (M1 := M1) (g := 20) (w := 3) (kg := 20) (G := fun q => (if (mo_tk q.2) < 401 then (if ((sh_kd H) (mo_tk q.2)) = 22 then ((s_Model_isWhen H q.2).bind fun p => (if p.1 = 0 then some (0, p.2) else ((s_Model_eat_0 H 44 p.2).bind fun y => if y.1 = 0 then some (0, y.2) else some (1, y.2)))) else ((s_Model_eat_0 H 44 q.2).bind fun y => if y.1 = 0 then some (0, y.2) else some (1, y.2))) else none)) hX hW l1.2 (by decide) (by decide) rfl (by omega)
  have eq' : q = rd_ (NN N0 N1 N2 N3 N4 0) (NN N0 N1 N2 N3 N4 1) (NN N0 N1 N2 N3 N4 2) (NN N0 N1 N2 N3 N4 3) (NN N0 N1 N2 N3 N4 4) 64 3 0 0 (s_Tokens_expect (st K s1) 20, F, b.2.2) := by rw [eq, kb]; rfl
  rw [← eq'] at c1 c6
  obtain ⟨u2, d2', f1, f2, f3, f4, f5, f6⟩ := core (M := M) (N := NN N0 N1 N2 N3 N4) (s := u) (F := q.2.1) (E := q.2.2) (M1 := M1) (g := 22) (w := 0) (kg := 22) (G := fun q => ((s_Model_eat_0 H 44 q.2).bind fun y => if y.1 = 0 then some (0, y.2) else some (1, y.2))) hX hW c3 (by decide) (by decide) rfl (by omega)
  have er' : r = rd_ (NN N0 N1 N2 N3 N4 0) (NN N0 N1 N2 N3 N4 1) (NN N0 N1 N2 N3 N4 2) (NN N0 N1 N2 N3 N4 3) (NN N0 N1 N2 N3 N4 4) 64 0 0 0 (s_Tokens_expect (st K u) 22, q.2.1, q.2.2) := by rw [er, c1]; rfl
  rw [← er'] at f1 f6
  obtain ⟨s9, es9⟩ : ∃ z, z = nx1 K 39 u2 := ⟨_, rfl⟩
  have l9 : u2.2 ≤ s9.2 ∧ s9.2 ≤ n := by rw [es9]; exact nx1_le hX (by decide) f3
  have ke : s_Tokens_expect r.1 39 = st K s9 := by rw [f1, es9]; exact exp_st hX (by decide) f3
  have kdt : sh_kd H (mo_tk (mS M1 t 0)) = 19 := by (show sh_kd H t = _; rw [(hX.2.2 t (by omega)).2.1, hg]; rfl)
  have hm : ∃ d2, isL H (mS M1 t 0) = some (if s9.1 = true then 1 else 0, mS M1 s9.2 d2) ∧ (s9.1 = true → d2 = 0) := by
    have h1 : isL H (mS M1 t 0) = ((md s1 M1).bind fun p392_66 => (if p392_66.1 = 0 then some (0, p392_66.2) else ((s_Model_eat_0 H 20 p392_66.2).bind fun p402_68 => (if p402_68.1 = 0 then some (0, p402_68.2) else ((rk_ H 64 3 p402_68.2).bind fun q => (if q.1 = 0 then some (0, q.2) else (if (mo_tk q.2) < 401 then (if ((sh_kd H) (mo_tk q.2)) = 22 then ((s_Model_isWhen H q.2).bind fun p => (if p.1 = 0 then some (0, p.2) else ((s_Model_eat_0 H 44 p.2).bind fun y => if y.1 = 0 then some (0, y.2) else some (1, y.2)))) else ((s_Model_eat_0 H 44 q.2).bind fun y => if y.1 = 0 then some (0, y.2) else some (1, y.2))) else none))))))) := by
      unfold isL s_Model_isLine
      rw [if_pos (show mo_tk (mS M1 t 0) < 401 by show t < 401; omega), kdt, if_neg (show ¬ (19 : Int32) = 0 by decide), if_neg (show ¬ (19 : Int32) = 3 by decide), if_neg (show ¬ (19 : Int32) = 6 by decide), if_neg (show ¬ (19 : Int32) = 9 by decide), if_neg (show ¬ (19 : Int32) = 11 by decide), if_neg (show ¬ (19 : Int32) = 13 by decide), if_neg (show ¬ (19 : Int32) = 15 by decide), if_neg (show ¬ (19 : Int32) = 16 by decide), if_neg (show ¬ (19 : Int32) = 17 by decide), if_neg (show ¬ (19 : Int32) = 21 by decide), isNam_md hX (Nat.le_of_lt ht) (k := 19) (y := 19) (by decide) rfl, ← es1]
      simp only [bnd3]
      congr 1
      funext p1
      by_cases z1 : p1.1 = 0
      · rw [if_pos z1, if_pos z1]
      rw [if_neg z1, if_neg z1]
      congr 1
      funext p2
      by_cases z2 : p2.1 = 0
      · rw [if_pos z2, if_pos z2]
      rw [if_neg z2, if_neg z2]
      congr 1
      funext p3
      by_cases z3 : p3.1 = 0
      · rw [if_pos z3, if_pos z3]
      rw [if_neg z3, if_neg z3]
      by_cases z4 : mo_tk p3.2 < 401
      · rw [if_pos z4, if_pos z4]
        by_cases z5 : sh_kd H (mo_tk p3.2) = 22
        · rw [if_pos z5, if_pos z5, bnd2]
        · rw [if_neg z5, if_neg z5]; rfl
      · rw [if_neg z4, if_neg z4]; rfl
    rw [h1]
    obtain ⟨b1, t1⟩ := s1
    cases b1 with
    | false =>
      have hu := c4 rfl
      exfalso
      rw [c1, hu] at hsg
      exact absurd hsg (show ¬ (53 : Fin 54).val = 22 by decide)
    | true =>
      have h5 := c5 rfl
      dsimp only at h5
      show ∃ d2, ((s_Model_eat_0 H 20 (mS M1 t1 0)).bind _) = _ ∧ _
      rw [h5]
      obtain ⟨ub, ut⟩ := u
      cases ub with
      | false =>
        exfalso
        rw [c1] at hsg
        exact absurd hsg (show ¬ (53 : Fin 54).val = 22 by decide)
      | true =>
        rw [c1] at hsg
        replace hsg : (gk K ut).val = 22 := hsg
        rw [if_pos rfl, if_pos (show mo_tk (mS M1 ut 0) < 401 by have : ut ≤ n := c3; show ut < 401; omega), if_pos (show sh_kd H (mo_tk (mS M1 ut 0)) = 22 by (show sh_kd H ut = _; rw [(hX.2.2 ut c3).2.1, show gk K ut = 22 from Fin.ext hsg]; rfl))]
        unfold s_Model_isWhen
        simp only [bnd3, bnd2]
        rw [es9]
        have := tail_m (s := (true, ut)) hX f3 f4 f5
        exact this
  obtain ⟨d2, hm1, hm2⟩ := hm
  refine ⟨s9, d2, ke, hm1, by omega, by omega, fun hok => ?_⟩
  obtain ⟨ou, g39, p9⟩ : u2.1 = true ∧ (gk K u2.2).val = 39 ∧ s9.2 = u2.2 + 1 := by rw [es9] at hok ⊢; exact nx1_true hok
  obtain ⟨ou1, x22, v1, v2, v3⟩ := f6 ou
  obtain ⟨oh, xk, w1, w2, w3⟩ := c6 ou1
  have o1 := oh
  obtain ⟨-, x1, y1, p1⟩ : true = true ∧ (gk K t).val = 19 ∧ (gk K (t + 1)).val = 50 ∧ s1.2 = t + 2 := by rw [es1] at o1 ⊢; exact nx_true o1
  rw [p1] at xk w1 w3
  replace kb : b.2.1 = tA K (t + 2) := by rw [kb]; unfold st; rw [if_pos o1, p1]
  refine ⟨hm2 hok, by omega, by rw [show s9.2 - 1 = u2.2 by omega]; exact g39, fun hE => ?_, fun hE H1 hL h0 => ?_⟩
  · have z0 : O.2 = E := by rw [eO]; exact ord_sticky hE
    have z1 : b.2.2 = E := by rw [eb, z0]; exact old_sticky hE
    have z5 : q.2.2 = E := (w3.1 (by rw [z1]; exact hE)).trans z1
    exact (v3.1 (by rw [z5]; exact hE)).trans z5
  · obtain ⟨lS, lN, lC, lG, lV, lO, aa, la1, la2⟩ := hL
    obtain ⟨c0_, c3_, c6_, c9_, c11_, c20⟩ := lC
    obtain ⟨k, ek⟩ : ∃ k, k = sh_or H1 := ⟨_, rfl⟩
    have fin : ∀ p Hx E2, ERR K M n p Hx E2 → RDm M n t H1 = RDm M n p Hx → r.2.2 = E2 → ERR K M n t H1 r.2.2 := fun p Hx E2 q1 q2 q3 => q1.back q2 q3
    rcases ord_step (M := M) (T := T) (F := F) (E := E) (x := 3) (k := k) hX ht lS h0 hg (by decide) hE (by rw [ek]; exact lO.1) ek.symm (by omega) with er_ | ⟨k20, oq, R0⟩
    · refine .inl (fin t H1 O.2 (by rw [eO]; exact er_) rfl ?_)
      have g0 : ¬ te_er O.2 = 0 := (by rw [eO]; exact ne_le er_.1)
      have g1 : b.2.2 = O.2 := by rw [eb]; exact old_sticky g0
      have g5 : ¬ te_er b.2.2 = 0 := by rw [g1]; exact g0
      have g6 : q.2.2 = b.2.2 := w3.1 g5
      have g7 : r.2.2 = q.2.2 := v3.1 (by rw [g6]; exact g5)
      exact g7.trans (g6.trans g1)
    have O1 : O.1 = (upd (zeroF T.1 (k * 8) (k * 8 + 8)) (8 * k + 0) 3, k + 1) := by rw [eO, oq]
    have O2 : O.2 = E := by rw [eO, oq]
    obtain ⟨Hl, eHl⟩ : ∃ z, z = sh_ln' H1 (kOf 19) := ⟨_, rfl⟩
    rw [← eHl] at R0
    obtain ⟨Hd, eHd⟩ : ∃ z, z = sh_ds' Hl (upd (sh_ds H1) k (kOf 19)) := ⟨_, rfl⟩
    rw [← eHd] at R0
    obtain ⟨Hw, eHw⟩ : ∃ z, z = sh_wh' Hd (upd (sh_wh H1) k (-1)) := ⟨_, rfl⟩
    rw [← eHw] at R0
    obtain ⟨Ha, eHa⟩ : ∃ z, z = sh_or' Hw (k + 1) := ⟨_, rfl⟩
    rw [← eHa] at R0
    have sa1 := sh_set_ln eHl
    have sa2 := sh_set_ds eHd
    have sa3 := sh_set_wh eHw
    have sa4 := sh_set_or eHa
    have Sa : SameT H Ha := by unfold SameT; simp only [sa4, sa3, sa2, sa1]; exact lS
    have na : NRel K Ha (NN N0 N1 N2 N3 N4) n := lN.congr (by simp only [sa4, sa3, sa2, sa1]) (by simp only [sa4, sa3, sa2, sa1])
    have hora : sh_or Ha = k + 1 := by simp only [sa4]
    have db : b = s_Teacher_oldName (tA K t) E (NN N0 N1 N2 N3 N4 4) (gk K t) := by rw [eb, O2, hg]; rfl
    rcases old_step (M := M) (Ha := Ha) (t := t) (i := 4) (E := E) (W := fun x => sh_on' (sh_me' Ha (upd (sh_me Ha) (t + 1) x)) (upd (sh_on Ha) k x)) hX hW (show t + 1 < n by omega) Sa na (by decide) y1 hE (by rw [hg]; decide) (fun x hx hfx => eo_19 (M := mo_tk' M n) (i := t + 1) (x := x) (by omega) (by omega) (by have := (na 4 (by decide)).1; have := (na 4 (by decide)).2.1; omega) (by rw [Nat.add_sub_cancel, Sa.1, (hX.2.2 t (by omega)).2.1, hg]; rfl) hfx hora k20) with er_ | ⟨v0, n0a, n0c, n0d, n0e⟩
    · refine .inl (fin (t + 1) Ha b.2.2 (by rw [db]; exact er_) R0 ?_)
      have g0 : ¬ te_er b.2.2 = 0 := (by rw [db]; exact ne_le er_.1)
      have g5 : ¬ te_er b.2.2 = 0 := g0
      have g6 : q.2.2 = b.2.2 := w3.1 g5
      have g7 : r.2.2 = q.2.2 := v3.1 (by rw [g6]; exact g5)
      exact g7.trans g6
    have qb : b.1 = nI v0 := by rw [db]; exact n0c
    have Eb : b.2.2 = E := by rw [db]; exact n0d
    obtain ⟨HB0, eHB0⟩ : ∃ z, z = sh_me' Ha (upd (sh_me Ha) (t + 1) (nI v0)) := ⟨_, rfl⟩
    obtain ⟨HB, eHB⟩ : ∃ z, z = sh_on' HB0 (upd (sh_on Ha) k (nI v0)) := ⟨_, rfl⟩
    have n0f : RDm M n (t + 1) Ha = RDm M n (t + 2) HB := by rw [eHB, eHB0]; exact n0e
    have tb := sh_set_on eHB
    have tb0 := sh_set_me eHB0
    have ob0 : v0 < sh_ha H1 11 := by simp only [sa4, sa3, sa2, sa1] at n0a; exact n0a
    have SB : SameT H HB := by unfold SameT; simp only [tb, tb0, sa4, sa3, sa2, sa1]; exact lS
    have nb_ : NRel K HB (NN N0 N1 N2 N3 N4) n := lN.congr (by simp only [tb, tb0, sa4, sa3, sa2, sa1]) (by simp only [tb, tb0, sa4, sa3, sa2, sa1])
    have RB := R0.trans n0f
    have orrX : sh_or HB = k + 1 := by simp only [tb, tb0, sa4, sa3, sa2, sa1]
    have QX := with_step (M := M) hX (show (t + 2) < n by omega) SB (by omega) (by rw [show t + 2 - 1 = t + 1 by omega]; omega) xk orrX k20
    obtain ⟨HX, eHX⟩ : ∃ z, z = sh_su' HB (upd (sh_su HB) k (nI ((t + 2) + 1))) := ⟨_, rfl⟩
    rw [← eHX] at QX
    have sX := sh_set_su eHX
    have SX : SameT H HX := by unfold SameT; simp only [sX, tb, tb0, sa4, sa3, sa2, sa1]; exact lS
    have nX_ : NRel K HX (NN N0 N1 N2 N3 N4) n := lN.congr (by simp only [sX, tb, tb0, sa4, sa3, sa2, sa1]) (by simp only [sX, tb, tb0, sa4, sa3, sa2, sa1])
    have RX := RB.trans QX
    rcases w3.2 (by rw [Eb]; exact hE) aa HX la1 (by omega) SX nX_ with er_ | ⟨mYa, meY, bbY, mYb, mYc, mYd, mYe, mYf, mYg, mYh⟩
    · refine .inl (fin (t + 2 + 1) HX q.2.2 er_ RX ?_)
      exact v3.1 (ne_le er_.1)
    obtain ⟨HY, eHY⟩ : ∃ z, z = sh_me' HX meY := ⟨_, rfl⟩
    rw [← eHY] at mYb mYh
    have sY := sh_set_me eHY
    have mmY : ∀ j, j < t + 2 + 1 ∨ u.2 ≤ j → sh_me HY j = sh_me HX j := fun j hj => by simp only [sY]; exact mYc j hj
    have SY : SameT H HY := by unfold SameT; simp only [sY, sX, tb, tb0, sa4, sa3, sa2, sa1]; exact lS
    have nY_ : NRel K HY (NN N0 N1 N2 N3 N4) n := lN.congr (by simp only [sY, sX, tb, tb0, sa4, sa3, sa2, sa1]) (by simp only [sY, sX, tb, tb0, sa4, sa3, sa2, sa1])
    have RY := RX.trans mYb
    have EY : q.2.2 = E := mYa.trans Eb
    have orrZ : sh_or HY = k + 1 := by simp only [sY, sX, tb, tb0, sa4, sa3, sa2, sa1]
    have QZ := when_step (M := M) hX (show u.2 < n by omega) SY (by omega) w2 x22 orrZ k20
    obtain ⟨HZ, eHZ⟩ : ∃ z, z = sh_wh' HY (upd (sh_wh HY) k (nI (u.2 + 1))) := ⟨_, rfl⟩
    rw [← eHZ] at QZ
    have sZ := sh_set_wh eHZ
    have SZ : SameT H HZ := by unfold SameT; simp only [sZ, sY, sX, tb, tb0, sa4, sa3, sa2, sa1]; exact lS
    have nZ_ : NRel K HZ (NN N0 N1 N2 N3 N4) n := lN.congr (by simp only [sZ, sY, sX, tb, tb0, sa4, sa3, sa2, sa1]) (by simp only [sZ, sY, sX, tb, tb0, sa4, sa3, sa2, sa1])
    have RZ := RY.trans QZ
    rcases v3.2 (by rw [EY]; exact hE) bbY HZ mYd (by omega) SZ nZ_ with er_ | ⟨mVa, meV, bbV, mVb, mVc, mVd, mVe, mVf, mVg, mVh⟩
    · exact .inl (fin (u.2 + 1) HZ r.2.2 er_ RZ rfl)
    obtain ⟨HV, eHV⟩ : ∃ z, z = sh_me' HZ meV := ⟨_, rfl⟩
    rw [← eHV] at mVb mVh
    have sV := sh_set_me eHV
    have mmV : ∀ j, j < u.2 + 1 ∨ u2.2 ≤ j → sh_me HV j = sh_me HZ j := fun j hj => by simp only [sV]; exact mVc j hj
    have SV : SameT H HV := by unfold SameT; simp only [sV, sZ, sY, sX, tb, tb0, sa4, sa3, sa2, sa1]; exact lS
    have nV_ : NRel K HV (NN N0 N1 N2 N3 N4) n := lN.congr (by simp only [sV, sZ, sY, sX, tb, tb0, sa4, sa3, sa2, sa1]) (by simp only [sV, sZ, sY, sX, tb, tb0, sa4, sa3, sa2, sa1])
    have RV := RZ.trans mVb
    have EV : r.2.2 = E := mVa.trans EY
    have NZ := neu_k (M := M) (g := 39) hX (show u2.2 < n by omega) SV (by omega) v2 (Fin.ext g39) (by decide)
    have fha : sh_ha HV = sh_ha H1 := by simp only [sV, sZ, sY, sX, tb, tb0, sa4, sa3, sa2, sa1]
    have fhg : sh_hg HV = sh_hg H1 := by simp only [sV, sZ, sY, sX, tb, tb0, sa4, sa3, sa2, sa1]
    have fsn : sh_sn HV = sh_sn H1 := by simp only [sV, sZ, sY, sX, tb, tb0, sa4, sa3, sa2, sa1]
    have fsi : sh_si HV = sh_si H1 := by simp only [sV, sZ, sY, sX, tb, tb0, sa4, sa3, sa2, sa1]
    have fdp : sh_dp HV = sh_dp H1 := by simp only [sV, sZ, sY, sX, tb, tb0, sa4, sa3, sa2, sa1]
    have fab : sh_ab HV = sh_ab H1 := by simp only [sV, sZ, sY, sX, tb, tb0, sa4, sa3, sa2, sa1]
    have fbr : sh_br HV = sh_br H1 := by simp only [sV, sZ, sY, sX, tb, tb0, sa4, sa3, sa2, sa1]
    have fdi : sh_di HV = sh_di H1 := by simp only [sV, sZ, sY, sX, tb, tb0, sa4, sa3, sa2, sa1]
    have ffo : sh_fo HV = sh_fo H1 := by simp only [sV, sZ, sY, sX, tb, tb0, sa4, sa3, sa2, sa1]
    have fsz : sh_sz HV = sh_sz H1 := by simp only [sV, sZ, sY, sX, tb, tb0, sa4, sa3, sa2, sa1]
    have fsk : sh_sk HV = sh_sk H1 := by simp only [sV, sZ, sY, sX, tb, tb0, sa4, sa3, sa2, sa1]
    have fti : sh_ti HV = sh_ti H1 := by simp only [sV, sZ, sY, sX, tb, tb0, sa4, sa3, sa2, sa1]
    have fwa : sh_wa HV = sh_wa H1 := by simp only [sV, sZ, sY, sX, tb, tb0, sa4, sa3, sa2, sa1]
    have for_ : sh_or HV = k + 1 := by simp only [sV, sZ, sY, sX, tb, tb0, sa4, sa3, sa2, sa1]
    have fds : sh_ds HV = upd (sh_ds H1) k (kOf 19) := by simp only [sV, sZ, sY, sX, tb, tb0, sa4, sa3, sa2, sa1]
    have fon : sh_on HV = upd (sh_on H1) k (nI v0) := by simp only [sV, sZ, sY, sX, tb, tb0, sa4, sa3, sa2, sa1]
    have fot : sh_ot HV = sh_ot H1 := by simp only [sV, sZ, sY, sX, tb, tb0, sa4, sa3, sa2, sa1]
    have fsu : sh_su HV = upd (sh_su H1) k (nI (t + 2 + 1)) := by simp only [sV, sZ, sY, sX, tb, tb0, sa4, sa3, sa2, sa1]
    have fwh : sh_wh HV = upd (upd (sh_wh H1) k (-1)) k (nI (u.2 + 1)) := by simp only [sV, sZ, sY, sX, tb, tb0, sa4, sa3, sa2, sa1]
    have fme0 : ∀ j, j < t → sh_me HX j = sh_me H1 j := fun j hj => by
      simp only [sX, tb, tb0, sa4, sa3, sa2, sa1]
      rw [upd_ne _ _ (by omega)]
    have mmZ : ∀ j, sh_me HZ j = sh_me HY j := fun j => by simp only [sZ]
    have fme : ∀ j, j < t → sh_me HV j = sh_me H1 j := fun j hj => (mmV j (by omega)).trans ((mmZ j).trans ((mmY j (by omega)).trans (fme0 j hj)))
    have eT : s_Orders_note (s_Orders_note (s_Orders_note (s_Orders_note (s_Orders_note O.1 F 1 b.1) F 3 (s_Formulas_size F)) q.2.1 4 (s_Formulas_size q.2.1)) q.2.1 5 (s_Formulas_size q.2.1)) r.2.1 6 (s_Formulas_size r.2.1) = ((upd (upd (upd (upd (upd (upd (zeroF T.1 (k * 8) (k * 8 + 8)) (8 * k + 0) 3) (8 * k + 1) (nI v0)) (8 * k + 3) (nI aa)) (8 * k + 4) (nI bbY)) (8 * k + 5) (nI bbY)) (8 * k + 6) (nI bbV)), k + 1) := by
      rw [O1, qb, show s_Formulas_size F = nI aa from la1, show s_Formulas_size q.2.1 = nI bbY from mYd, show s_Formulas_size r.2.1 = nI bbV from mVd]
      simp only [note_p k20]
    rw [eT]
    have b800 : bbV ≤ 2 * u2.2 := by omega
    have XT : EXT F r.2.1 aa bbV := mYg.trans mVg mYe
    refine .inr ⟨EV, HV, ?_, SV, nV_, ⟨by rw [fha]; exact c0_, by rw [fha]; exact c3_, by rw [fha]; exact c6_, by rw [fha]; exact c9_, by rw [fha]; exact c11_, by rw [for_]; omega⟩, ?_, ?_, ⟨for_.symm, fun i hi => ?_⟩, bbV, mVd, by omega⟩
    · rw [p9]
      exact (RV.trans NZ)
    · unfold LG
      rw [fha, fhg, fsn, fsi, fdp, fab, fbr, fdi, ffo, fsz, fsk, fti, fwa]
      exact lG
    · unfold LV
      rw [fha, fhg, fsn, fsi, fdp, fab, fbr, fdi, ffo, fsz, fsk, fti, fwa]
      exact lV
    · by_cases z : i = k
      · rw [z]
        exact ⟨.inr (.inr (.inr (.inl ⟨(upd_ne _ _ (by omega)).trans ((upd_ne _ _ (by omega)).trans ((upd_ne _ _ (by omega)).trans ((upd_ne _ _ (by omega)).trans ((upd_ne _ _ (by omega)).trans (upd_at _ _ _))))), by rw [fds, upd_at]; rfl, v0, aa, bbY, t + 2 + 1, by rw [fha]; exact ob0, (upd_ne _ _ (by omega)).trans ((upd_ne _ _ (by omega)).trans ((upd_ne _ _ (by omega)).trans ((upd_ne _ _ (by omega)).trans (upd_at _ _ _)))), by rw [fon]; exact upd_at _ _ _, (upd_ne _ _ (by omega)).trans ((upd_ne _ _ (by omega)).trans ((upd_ne _ _ (by omega)).trans (upd_at _ _ _))), (upd_ne _ _ (by omega)).trans ((upd_ne _ _ (by omega)).trans (upd_at _ _ _)), by rw [fsu]; exact upd_at _ _ _, (show SO H 3 r.2.1 HV s9.2 aa bbY (t + 2 + 1) from SO.keep (t := u.2 + 1) (H1 := HY) (F := q.2.1) ⟨u.2, by omega, by omega, by omega, ⟨bbY, mYd, Nat.le_refl _, by omega⟩, mYg.2, mYh⟩ (by omega) mYd mVd mVe (by omega) mVg.1 (fun j hj => (mmV j (by omega)).trans (mmZ j)) (fun k => by simp only [sV, sZ]; exact Nat.le_refl _))⟩))), .inr ⟨bbY, bbV, u.2 + 1, (upd_ne _ _ (by omega)).trans (upd_at _ _ _), upd_at _ _ _, by rw [fwh]; exact upd_at _ _ _, ⟨u2.2, by omega, by omega, by omega, ⟨bbV, mVd, Nat.le_refl _, by omega⟩, mVg.2, mVh⟩⟩⟩
      · have hik : i < k := by rw [for_] at hi; omega
        exact KL.keep (lO.2 i (by omega)) (by omega) la1 mVd (by omega) (by omega) XT.1 fme (fun k => by rw [fha]; exact Nat.le_refl _) (fun c hc => (upd_ne _ _ (by omega)).trans ((upd_ne _ _ (by omega)).trans ((upd_ne _ _ (by omega)).trans ((upd_ne _ _ (by omega)).trans ((upd_ne _ _ (by omega)).trans ((upd_ne _ _ (by omega)).trans (zero_out (by omega)))))))) (by rw [fds]; exact upd_ne _ _ z) (by rw [fon]; exact upd_ne _ _ z) (by rw [fot]) (by rw [fsu]; exact upd_ne _ _ z) (by rw [fwh]; exact (upd_ne _ _ (by omega)).trans (upd_ne _ _ (by omega)))
theorem line_fill0 {K : TK} {H : SH} {n : Nat} {M : MO} {d : Int32} {t : Nat} {F : FM} {E : TE} {N0 N1 N2 N3 N4 : NM} {T : TM} {σ : GL} {M1 : MO} (hX : LX K H n) (hW : LW (mo_tk' M n) K (sh_fr H) (sh_mn H) n) (ht : t < n) (hg : gk K t = 19) (hsg : ¬ (s_Tokens_sign (s_Teacher_readFill (tA K t) F E N0 N1 N2 N3 N4 T σ).1).val = 22) : LINE K H n M d t F E (NN N0 N1 N2 N3 N4) T σ M1 (s_Tokens_expect (s_Teacher_readFill (tA K t) F E N0 N1 N2 N3 N4 T σ).1 39) (s_Teacher_readFill (tA K t) F E N0 N1 N2 N3 N4 T σ).2.1 (s_Teacher_readFill (tA K t) F E N0 N1 N2 N3 N4 T σ).2.2.1 (NN N0 N1 N2 N3 N4) (s_Teacher_readFill (tA K t) F E N0 N1 N2 N3 N4 T σ).2.2.2 σ (isL H (mS M1 t 0)) := by
  have h400 := hX.1
  obtain ⟨O, eO⟩ : ∃ z, z = s_Teacher_newOrder T F (tA K t) E 3 := ⟨_, rfl⟩
  obtain ⟨b, eb⟩ : ∃ z, z = s_Teacher_oldName (tA K t) O.2 N4 19 := ⟨_, rfl⟩
  obtain ⟨q, eq⟩ : ∃ z, z = rd_ N0 N1 N2 N3 N4 64 3 0 0 (s_Tokens_expect b.2.1 20, F, b.2.2) := ⟨_, rfl⟩
  have eR : s_Teacher_readFill (tA K t) F E N0 N1 N2 N3 N4 T σ = (q.1, q.2.1, q.2.2, s_Orders_note (s_Orders_note (s_Orders_note O.1 F 1 b.1) F 3 (s_Formulas_size F)) q.2.1 4 (s_Formulas_size q.2.1)) := by
    unfold s_Teacher_readFill
    rw [← eO, ← eb, ← eq]
  rw [eR] at hsg ⊢
  dsimp only at hsg ⊢
  obtain ⟨s1, es1⟩ : ∃ z, z = nx K 19 50 (true, t) := ⟨_, rfl⟩
  have l1 : t ≤ s1.2 ∧ s1.2 ≤ n := by rw [es1]; exact nx_le (s := (true, t)) hX (by decide) (by decide) (Nat.le_of_lt ht)
  have kb : b.2.1 = st K s1 := by rw [eb, es1]; exact old_st (s := (true, t)) hX (by decide) (Nat.le_of_lt ht)
  obtain ⟨u, d', c1, c2, c3, c4, c5, c6⟩ := core (M := M) (N := NN N0 N1 N2 N3 N4) (s := s1) (F := F) (E := b.2.2) (M1 := M1) (g := 20) (w := 3) (kg := 20) (G := fun q => (if (mo_tk q.2) < 401 then (if ((sh_kd H) (mo_tk q.2)) = 22 then ((s_Model_isWhen H q.2).bind fun p => (if p.1 = 0 then some (0, p.2) else ((s_Model_eat_0 H 44 p.2).bind fun y => if y.1 = 0 then some (0, y.2) else some (1, y.2)))) else ((s_Model_eat_0 H 44 q.2).bind fun y => if y.1 = 0 then some (0, y.2) else some (1, y.2))) else none)) hX hW l1.2 (by decide) (by decide) rfl (by omega)
  have eq' : q = rd_ (NN N0 N1 N2 N3 N4 0) (NN N0 N1 N2 N3 N4 1) (NN N0 N1 N2 N3 N4 2) (NN N0 N1 N2 N3 N4 3) (NN N0 N1 N2 N3 N4 4) 64 3 0 0 (s_Tokens_expect (st K s1) 20, F, b.2.2) := by rw [eq, kb]; rfl
  rw [← eq'] at c1 c6
  obtain ⟨s9, es9⟩ : ∃ z, z = nx1 K 39 u := ⟨_, rfl⟩
  have l9 : u.2 ≤ s9.2 ∧ s9.2 ≤ n := by rw [es9]; exact nx1_le hX (by decide) c3
  have ke : s_Tokens_expect q.1 39 = st K s9 := by rw [c1, es9]; exact exp_st hX (by decide) c3
  have kdt : sh_kd H (mo_tk (mS M1 t 0)) = 19 := by (show sh_kd H t = _; rw [(hX.2.2 t (by omega)).2.1, hg]; rfl)
  have hm : ∃ d2, isL H (mS M1 t 0) = some (if s9.1 = true then 1 else 0, mS M1 s9.2 d2) ∧ (s9.1 = true → d2 = 0) := by
    have h1 : isL H (mS M1 t 0) = ((md s1 M1).bind fun p392_66 => (if p392_66.1 = 0 then some (0, p392_66.2) else ((s_Model_eat_0 H 20 p392_66.2).bind fun p402_68 => (if p402_68.1 = 0 then some (0, p402_68.2) else ((rk_ H 64 3 p402_68.2).bind fun q => (if q.1 = 0 then some (0, q.2) else (if (mo_tk q.2) < 401 then (if ((sh_kd H) (mo_tk q.2)) = 22 then ((s_Model_isWhen H q.2).bind fun p => (if p.1 = 0 then some (0, p.2) else ((s_Model_eat_0 H 44 p.2).bind fun y => if y.1 = 0 then some (0, y.2) else some (1, y.2)))) else ((s_Model_eat_0 H 44 q.2).bind fun y => if y.1 = 0 then some (0, y.2) else some (1, y.2))) else none))))))) := by
      unfold isL s_Model_isLine
      rw [if_pos (show mo_tk (mS M1 t 0) < 401 by show t < 401; omega), kdt, if_neg (show ¬ (19 : Int32) = 0 by decide), if_neg (show ¬ (19 : Int32) = 3 by decide), if_neg (show ¬ (19 : Int32) = 6 by decide), if_neg (show ¬ (19 : Int32) = 9 by decide), if_neg (show ¬ (19 : Int32) = 11 by decide), if_neg (show ¬ (19 : Int32) = 13 by decide), if_neg (show ¬ (19 : Int32) = 15 by decide), if_neg (show ¬ (19 : Int32) = 16 by decide), if_neg (show ¬ (19 : Int32) = 17 by decide), if_neg (show ¬ (19 : Int32) = 21 by decide), isNam_md hX (Nat.le_of_lt ht) (k := 19) (y := 19) (by decide) rfl, ← es1]
      simp only [bnd3]
      congr 1
      funext p1
      by_cases z1 : p1.1 = 0
      · rw [if_pos z1, if_pos z1]
      rw [if_neg z1, if_neg z1]
      congr 1
      funext p2
      by_cases z2 : p2.1 = 0
      · rw [if_pos z2, if_pos z2]
      rw [if_neg z2, if_neg z2]
      congr 1
      funext p3
      by_cases z3 : p3.1 = 0
      · rw [if_pos z3, if_pos z3]
      rw [if_neg z3, if_neg z3]
      by_cases z4 : mo_tk p3.2 < 401
      · rw [if_pos z4, if_pos z4]
        by_cases z5 : sh_kd H (mo_tk p3.2) = 22
        · rw [if_pos z5, if_pos z5, bnd2]
        · rw [if_neg z5, if_neg z5]; rfl
      · rw [if_neg z4, if_neg z4]; rfl
    rw [h1]
    obtain ⟨b1, t1⟩ := s1
    cases b1 with
    | false =>
      have hu := c4 rfl
      rw [es9, hu]
      exact ⟨0, rfl, fun _ => rfl⟩
    | true =>
      have h5 := c5 rfl
      dsimp only at h5
      show ∃ d2, ((s_Model_eat_0 H 20 (mS M1 t1 0)).bind _) = _ ∧ _
      rw [h5, es9]
      obtain ⟨ub, ut⟩ := u
      cases ub with
      | false => exact ⟨d', rfl, fun w => by cases w⟩
      | true =>
        rw [c1] at hsg
        replace hsg : ¬ (gk K ut).val = 22 := hsg
        rw [if_pos rfl, if_pos (show mo_tk (mS M1 ut 0) < 401 by have : ut ≤ n := c3; show ut < 401; omega), if_neg (show ¬ sh_kd H (mo_tk (mS M1 ut 0)) = 22 by (show ¬ sh_kd H ut = 22; rw [(hX.2.2 ut c3).2.1]; exact fun w => hsg (congrArg Fin.val ((kOf_iff _ 22).mp w))))]
        have hy : ((s_Model_eat_0 H 44 (mS M1 ut 0)).bind fun y => if y.1 = 0 then some (0, y.2) else some (1, y.2)) = (md (nx1 K 39 (true, ut)) M1) := by
          rw [eatN hX c3 (x := 44) (y := 39) (by decide) rfl]
          unfold nx1
          rw [if_pos rfl]
          show ((some (if (gk K ut).val = 39 then ((1 : Int32), mS M1 (ut + 1) 0) else (0, mS M1 ut 0))).bind fun y => if y.1 = 0 then some (0, y.2) else some (1, y.2)) = md (if (gk K ut).val = 39 then (true, ut + 1) else (false, ut)) M1
          by_cases e : (gk K ut).val = 39
          · rw [if_pos e, if_pos e]; rfl
          · rw [if_neg e, if_neg e]; rfl
        rw [hy]
        exact ⟨0, rfl, fun _ => rfl⟩
  obtain ⟨d2, hm1, hm2⟩ := hm
  refine ⟨s9, d2, ke, hm1, by omega, by omega, fun hok => ?_⟩
  obtain ⟨ou, g39, p9⟩ : u.1 = true ∧ (gk K u.2).val = 39 ∧ s9.2 = u.2 + 1 := by rw [es9] at hok ⊢; exact nx1_true hok
  obtain ⟨oh, xk, w1, w2, w3⟩ := c6 ou
  have o1 := oh
  obtain ⟨-, x1, y1, p1⟩ : true = true ∧ (gk K t).val = 19 ∧ (gk K (t + 1)).val = 50 ∧ s1.2 = t + 2 := by rw [es1] at o1 ⊢; exact nx_true o1
  rw [p1] at xk w1 w3
  replace kb : b.2.1 = tA K (t + 2) := by rw [kb]; unfold st; rw [if_pos o1, p1]
  refine ⟨hm2 hok, by omega, by rw [show s9.2 - 1 = u.2 by omega]; exact g39, fun hE => ?_, fun hE H1 hL h0 => ?_⟩
  · have z0 : O.2 = E := by rw [eO]; exact ord_sticky hE
    have z1 : b.2.2 = E := by rw [eb, z0]; exact old_sticky hE
    exact (w3.1 (by rw [z1]; exact hE)).trans z1
  · obtain ⟨lS, lN, lC, lG, lV, lO, aa, la1, la2⟩ := hL
    obtain ⟨c0_, c3_, c6_, c9_, c11_, c20⟩ := lC
    obtain ⟨k, ek⟩ : ∃ k, k = sh_or H1 := ⟨_, rfl⟩
    have fin : ∀ p Hx E2, ERR K M n p Hx E2 → RDm M n t H1 = RDm M n p Hx → q.2.2 = E2 → ERR K M n t H1 q.2.2 := fun p Hx E2 q1 q2 q3 => q1.back q2 q3
    rcases ord_step (M := M) (T := T) (F := F) (E := E) (x := 3) (k := k) hX ht lS h0 hg (by decide) hE (by rw [ek]; exact lO.1) ek.symm (by omega) with er_ | ⟨k20, oq, R0⟩
    · refine .inl (fin t H1 O.2 (by rw [eO]; exact er_) rfl ?_)
      have g0 : ¬ te_er O.2 = 0 := (by rw [eO]; exact ne_le er_.1)
      have g1 : b.2.2 = O.2 := by rw [eb]; exact old_sticky g0
      have g5 : ¬ te_er b.2.2 = 0 := by rw [g1]; exact g0
      have g6 : q.2.2 = b.2.2 := w3.1 g5
      exact g6.trans g1
    have O1 : O.1 = (upd (zeroF T.1 (k * 8) (k * 8 + 8)) (8 * k + 0) 3, k + 1) := by rw [eO, oq]
    have O2 : O.2 = E := by rw [eO, oq]
    obtain ⟨Hl, eHl⟩ : ∃ z, z = sh_ln' H1 (kOf 19) := ⟨_, rfl⟩
    rw [← eHl] at R0
    obtain ⟨Hd, eHd⟩ : ∃ z, z = sh_ds' Hl (upd (sh_ds H1) k (kOf 19)) := ⟨_, rfl⟩
    rw [← eHd] at R0
    obtain ⟨Hw, eHw⟩ : ∃ z, z = sh_wh' Hd (upd (sh_wh H1) k (-1)) := ⟨_, rfl⟩
    rw [← eHw] at R0
    obtain ⟨Ha, eHa⟩ : ∃ z, z = sh_or' Hw (k + 1) := ⟨_, rfl⟩
    rw [← eHa] at R0
    have sa1 := sh_set_ln eHl
    have sa2 := sh_set_ds eHd
    have sa3 := sh_set_wh eHw
    have sa4 := sh_set_or eHa
    have Sa : SameT H Ha := by unfold SameT; simp only [sa4, sa3, sa2, sa1]; exact lS
    have na : NRel K Ha (NN N0 N1 N2 N3 N4) n := lN.congr (by simp only [sa4, sa3, sa2, sa1]) (by simp only [sa4, sa3, sa2, sa1])
    have hora : sh_or Ha = k + 1 := by simp only [sa4]
    have db : b = s_Teacher_oldName (tA K t) E (NN N0 N1 N2 N3 N4 4) (gk K t) := by rw [eb, O2, hg]; rfl
    rcases old_step (M := M) (Ha := Ha) (t := t) (i := 4) (E := E) (W := fun x => sh_on' (sh_me' Ha (upd (sh_me Ha) (t + 1) x)) (upd (sh_on Ha) k x)) hX hW (show t + 1 < n by omega) Sa na (by decide) y1 hE (by rw [hg]; decide) (fun x hx hfx => eo_19 (M := mo_tk' M n) (i := t + 1) (x := x) (by omega) (by omega) (by have := (na 4 (by decide)).1; have := (na 4 (by decide)).2.1; omega) (by rw [Nat.add_sub_cancel, Sa.1, (hX.2.2 t (by omega)).2.1, hg]; rfl) hfx hora k20) with er_ | ⟨v0, n0a, n0c, n0d, n0e⟩
    · refine .inl (fin (t + 1) Ha b.2.2 (by rw [db]; exact er_) R0 ?_)
      have g0 : ¬ te_er b.2.2 = 0 := (by rw [db]; exact ne_le er_.1)
      have g5 : ¬ te_er b.2.2 = 0 := g0
      have g6 : q.2.2 = b.2.2 := w3.1 g5
      exact g6
    have qb : b.1 = nI v0 := by rw [db]; exact n0c
    have Eb : b.2.2 = E := by rw [db]; exact n0d
    obtain ⟨HB0, eHB0⟩ : ∃ z, z = sh_me' Ha (upd (sh_me Ha) (t + 1) (nI v0)) := ⟨_, rfl⟩
    obtain ⟨HB, eHB⟩ : ∃ z, z = sh_on' HB0 (upd (sh_on Ha) k (nI v0)) := ⟨_, rfl⟩
    have n0f : RDm M n (t + 1) Ha = RDm M n (t + 2) HB := by rw [eHB, eHB0]; exact n0e
    have tb := sh_set_on eHB
    have tb0 := sh_set_me eHB0
    have ob0 : v0 < sh_ha H1 11 := by simp only [sa4, sa3, sa2, sa1] at n0a; exact n0a
    have SB : SameT H HB := by unfold SameT; simp only [tb, tb0, sa4, sa3, sa2, sa1]; exact lS
    have nb_ : NRel K HB (NN N0 N1 N2 N3 N4) n := lN.congr (by simp only [tb, tb0, sa4, sa3, sa2, sa1]) (by simp only [tb, tb0, sa4, sa3, sa2, sa1])
    have RB := R0.trans n0f
    have orrX : sh_or HB = k + 1 := by simp only [tb, tb0, sa4, sa3, sa2, sa1]
    have QX := with_step (M := M) hX (show (t + 2) < n by omega) SB (by omega) (by rw [show t + 2 - 1 = t + 1 by omega]; omega) xk orrX k20
    obtain ⟨HX, eHX⟩ : ∃ z, z = sh_su' HB (upd (sh_su HB) k (nI ((t + 2) + 1))) := ⟨_, rfl⟩
    rw [← eHX] at QX
    have sX := sh_set_su eHX
    have SX : SameT H HX := by unfold SameT; simp only [sX, tb, tb0, sa4, sa3, sa2, sa1]; exact lS
    have nX_ : NRel K HX (NN N0 N1 N2 N3 N4) n := lN.congr (by simp only [sX, tb, tb0, sa4, sa3, sa2, sa1]) (by simp only [sX, tb, tb0, sa4, sa3, sa2, sa1])
    have RX := RB.trans QX
    rcases w3.2 (by rw [Eb]; exact hE) aa HX la1 (by omega) SX nX_ with er_ | ⟨mYa, meY, bbY, mYb, mYc, mYd, mYe, mYf, mYg, mYh⟩
    · exact .inl (fin (t + 2 + 1) HX q.2.2 er_ RX rfl)
    obtain ⟨HY, eHY⟩ : ∃ z, z = sh_me' HX meY := ⟨_, rfl⟩
    rw [← eHY] at mYb mYh
    have sY := sh_set_me eHY
    have mmY : ∀ j, j < t + 2 + 1 ∨ u.2 ≤ j → sh_me HY j = sh_me HX j := fun j hj => by simp only [sY]; exact mYc j hj
    have SY : SameT H HY := by unfold SameT; simp only [sY, sX, tb, tb0, sa4, sa3, sa2, sa1]; exact lS
    have nY_ : NRel K HY (NN N0 N1 N2 N3 N4) n := lN.congr (by simp only [sY, sX, tb, tb0, sa4, sa3, sa2, sa1]) (by simp only [sY, sX, tb, tb0, sa4, sa3, sa2, sa1])
    have RY := RX.trans mYb
    have EY : q.2.2 = E := mYa.trans Eb
    have NZ := neu_k (M := M) (g := 39) hX (show u.2 < n by omega) SY (by omega) w2 (Fin.ext g39) (by decide)
    have fha : sh_ha HY = sh_ha H1 := by simp only [sY, sX, tb, tb0, sa4, sa3, sa2, sa1]
    have fhg : sh_hg HY = sh_hg H1 := by simp only [sY, sX, tb, tb0, sa4, sa3, sa2, sa1]
    have fsn : sh_sn HY = sh_sn H1 := by simp only [sY, sX, tb, tb0, sa4, sa3, sa2, sa1]
    have fsi : sh_si HY = sh_si H1 := by simp only [sY, sX, tb, tb0, sa4, sa3, sa2, sa1]
    have fdp : sh_dp HY = sh_dp H1 := by simp only [sY, sX, tb, tb0, sa4, sa3, sa2, sa1]
    have fab : sh_ab HY = sh_ab H1 := by simp only [sY, sX, tb, tb0, sa4, sa3, sa2, sa1]
    have fbr : sh_br HY = sh_br H1 := by simp only [sY, sX, tb, tb0, sa4, sa3, sa2, sa1]
    have fdi : sh_di HY = sh_di H1 := by simp only [sY, sX, tb, tb0, sa4, sa3, sa2, sa1]
    have ffo : sh_fo HY = sh_fo H1 := by simp only [sY, sX, tb, tb0, sa4, sa3, sa2, sa1]
    have fsz : sh_sz HY = sh_sz H1 := by simp only [sY, sX, tb, tb0, sa4, sa3, sa2, sa1]
    have fsk : sh_sk HY = sh_sk H1 := by simp only [sY, sX, tb, tb0, sa4, sa3, sa2, sa1]
    have fti : sh_ti HY = sh_ti H1 := by simp only [sY, sX, tb, tb0, sa4, sa3, sa2, sa1]
    have fwa : sh_wa HY = sh_wa H1 := by simp only [sY, sX, tb, tb0, sa4, sa3, sa2, sa1]
    have for_ : sh_or HY = k + 1 := by simp only [sY, sX, tb, tb0, sa4, sa3, sa2, sa1]
    have fds : sh_ds HY = upd (sh_ds H1) k (kOf 19) := by simp only [sY, sX, tb, tb0, sa4, sa3, sa2, sa1]
    have fon : sh_on HY = upd (sh_on H1) k (nI v0) := by simp only [sY, sX, tb, tb0, sa4, sa3, sa2, sa1]
    have fot : sh_ot HY = sh_ot H1 := by simp only [sY, sX, tb, tb0, sa4, sa3, sa2, sa1]
    have fsu : sh_su HY = upd (sh_su H1) k (nI (t + 2 + 1)) := by simp only [sY, sX, tb, tb0, sa4, sa3, sa2, sa1]
    have fwh : sh_wh HY = upd (sh_wh H1) k (-1) := by simp only [sY, sX, tb, tb0, sa4, sa3, sa2, sa1]
    have fme0 : ∀ j, j < t → sh_me HX j = sh_me H1 j := fun j hj => by
      simp only [sX, tb, tb0, sa4, sa3, sa2, sa1]
      rw [upd_ne _ _ (by omega)]
    have fme : ∀ j, j < t → sh_me HY j = sh_me H1 j := fun j hj => (mmY j (by omega)).trans (fme0 j hj)
    have eT : s_Orders_note (s_Orders_note (s_Orders_note O.1 F 1 b.1) F 3 (s_Formulas_size F)) q.2.1 4 (s_Formulas_size q.2.1) = ((upd (upd (upd (upd (zeroF T.1 (k * 8) (k * 8 + 8)) (8 * k + 0) 3) (8 * k + 1) (nI v0)) (8 * k + 3) (nI aa)) (8 * k + 4) (nI bbY)), k + 1) := by
      rw [O1, qb, show s_Formulas_size F = nI aa from la1, show s_Formulas_size q.2.1 = nI bbY from mYd]
      simp only [note_p k20]
    rw [eT]
    have b800 : bbY ≤ 2 * u.2 := by omega
    have XT : EXT F q.2.1 aa bbY := mYg
    refine .inr ⟨EY, HY, ?_, SY, nY_, ⟨by rw [fha]; exact c0_, by rw [fha]; exact c3_, by rw [fha]; exact c6_, by rw [fha]; exact c9_, by rw [fha]; exact c11_, by rw [for_]; omega⟩, ?_, ?_, ⟨for_.symm, fun i hi => ?_⟩, bbY, mYd, by omega⟩
    · rw [p9]
      exact (RY.trans NZ)
    · unfold LG
      rw [fha, fhg, fsn, fsi, fdp, fab, fbr, fdi, ffo, fsz, fsk, fti, fwa]
      exact lG
    · unfold LV
      rw [fha, fhg, fsn, fsi, fdp, fab, fbr, fdi, ffo, fsz, fsk, fti, fwa]
      exact lV
    · by_cases z : i = k
      · rw [z]
        exact ⟨.inr (.inr (.inr (.inl ⟨(upd_ne _ _ (by omega)).trans ((upd_ne _ _ (by omega)).trans ((upd_ne _ _ (by omega)).trans (upd_at _ _ _))), by rw [fds, upd_at]; rfl, v0, aa, bbY, t + 2 + 1, by rw [fha]; exact ob0, (upd_ne _ _ (by omega)).trans ((upd_ne _ _ (by omega)).trans (upd_at _ _ _)), by rw [fon]; exact upd_at _ _ _, (upd_ne _ _ (by omega)).trans (upd_at _ _ _), upd_at _ _ _, by rw [fsu]; exact upd_at _ _ _, ⟨u.2, by omega, by omega, by omega, ⟨bbY, mYd, Nat.le_refl _, by omega⟩, mYg.2, mYh⟩⟩))), .inl ⟨(upd_ne _ _ (by omega)).trans ((upd_ne _ _ (by omega)).trans ((upd_ne _ _ (by omega)).trans ((upd_ne _ _ (by omega)).trans (zero_in (by omega))))), (upd_ne _ _ (by omega)).trans ((upd_ne _ _ (by omega)).trans ((upd_ne _ _ (by omega)).trans ((upd_ne _ _ (by omega)).trans (zero_in (by omega))))), by rw [fwh]; exact upd_at _ _ _⟩⟩
      · have hik : i < k := by rw [for_] at hi; omega
        exact KL.keep (lO.2 i (by omega)) (by omega) la1 mYd (by omega) (by omega) XT.1 fme (fun k => by rw [fha]; exact Nat.le_refl _) (fun c hc => (upd_ne _ _ (by omega)).trans ((upd_ne _ _ (by omega)).trans ((upd_ne _ _ (by omega)).trans ((upd_ne _ _ (by omega)).trans (zero_out (by omega)))))) (by rw [fds]; exact upd_ne _ _ z) (by rw [fon]; exact upd_ne _ _ z) (by rw [fot]) (by rw [fsu]; exact upd_ne _ _ z) (by rw [fwh]; exact upd_ne _ _ (by omega))
