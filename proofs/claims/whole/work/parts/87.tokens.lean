/-! the tokens: the class's arrays against the reference's sheet -/
def ps (A : TA) : Nat → Nat
  | 0 => s_Tokens_pastBlanks A 0
  | k + 1 => s_Tokens_pastBlanks A (s_Tokens_tokenEnd A (ps A k))
def sgn (A : TA) (k : Nat) : Fin 54 := s_Tokens_signOf A (ps A k) (s_Tokens_tokenEnd A (ps A k))
theorem updN_at (f : Nat → Nat) (k v : Nat) : updN f k v k = v := if_pos rfl
theorem updN_ne (f : Nat → Nat) {k j : Nat} (v : Nat) (h : j ≠ k) : updN f k v j = f j := if_neg h
theorem updS_at (f : Nat → Option (Fin 54)) (k : Nat) (v : Fin 54) : updS f k v k = some v := if_pos rfl
theorem updS_ne (f : Nat → Option (Fin 54)) {k j : Nat} (v : Fin 54) (h : j ≠ k) : updS f k v j = f j := if_neg h
theorem updL_at (f : Nat → Int64) (k : Nat) (v : Int64) : vp_updL f k v k = v := if_pos rfl
theorem updL_ne (f : Nat → Int64) {k j : Nat} (v : Int64) (h : j ≠ k) : vp_updL f k v j = f j := if_neg h
theorem put_eq {K : TK} {i : Nat} {g : Fin 54} {x : Int32} {w : Int64} (h : tk_sz K = nI i) (hi : i ≤ 400) : s_Tokens_put K g x w = (tk_sz' (tk_wo' (tk_st' (tk_sg' K (updS (tk_sg K) i g)) (upd (tk_st K) i x)) (vp_updL (tk_wo K) i w)) (nI (i + 1))) := by
  unfold s_Tokens_put
  rw [h, if_neg (nI_pos (by omega)), if_neg (fun w => absurd ((nI_leI (by omega) (by omega)).mp w) (by omega)), nI_clamp (by omega), nI_1]
/-- a token, as the class keeps it -/
def TKj (A : TA) (K : TK) (j : Nat) (g : Fin 54) : Prop := tk_sg K j = some g ∧ tk_st K j = nI (ps A j) ∧ tk_wo K j = s_Tokens_worthOf A g (ps A j) (s_Tokens_tokenEnd A (ps A j))
theorem rf_loop {A : TA} {P : CP} {M : MO} (hT : RT A P M) (H : SH) : ∀ k i (K : TK), i + k = 400 → ps A i ≤ 2000 → tk_sz K = nI i → (∀ j, j < i → ps A j < mo_sz M ∧ TKj A K j (sgn A j)) → ∃ c K', l_Tokens_readFrom_13 A k i (ps A i) K = (ps A c, K') ∧ c ≤ 400 ∧ ps A c ≤ 2000 ∧ tk_sz K' = nI c ∧ (∀ j, j < c → ps A j < mo_sz M ∧ TKj A K' j (sgn A j)) ∧ (c = 400 ∨ mo_sz M ≤ ps A c) := by
  have h2000 := hT.2.1
  intro k
  induction k with
  | zero =>
    intro i K hi hp hs hj
    exact ⟨i, K, rfl, by omega, hp, hs, hj, .inl (by omega)⟩
  | succ k ih =>
    intro i K hi hp hs hj
    rw [l_Tokens_readFrom_13, hT.1]
    by_cases h : mo_sz M ≤ ps A i
    · rw [if_pos (nI_le h (by omega))]
      exact ⟨i, K, rfl, by omega, hp, hs, hj, .inr h⟩
    · rw [if_neg (fun w => h ((nI_leI (by omega) (by omega)).mp w)), put_eq hs (by omega)]
      obtain ⟨-, t1, t2, -⟩ := tok_end hT H (show ps A i < mo_sz M by omega)
      obtain ⟨-, p2, p3⟩ := pastB (kk := 0) hT H (show s_Tokens_tokenEnd A (ps A i) ≤ 2000 by omega)
      refine ih (i + 1) _ (by omega) ?_ rfl ?_
      · show s_Tokens_pastBlanks A (s_Tokens_tokenEnd A (ps A i)) ≤ 2000
        rcases p3 with p3 | p3 <;> omega
      · intro j hj2
        by_cases e : j = i
        · subst e
          exact ⟨by omega, updS_at _ _ _, upd_at _ _ _, updL_at _ _ _⟩
        · obtain ⟨a, b1, b2, b3⟩ := hj j (by omega)
          exact ⟨a, (updS_ne _ _ e).trans b1, (upd_ne _ _ e).trans b2, (updL_ne _ _ e).trans b3⟩
/-- the class at a token; the class broken at a token -/
def tA (K : TK) (t : Nat) : TK := (tk_sg K, tk_st K, tk_wo K, tk_sz K, nI t, (tk_sg K t).getD 0, tk_st K t, tk_wo K t, -1)
def tB (K : TK) (t : Nat) : TK := (tk_sg K, tk_st K, tk_wo K, tk_sz K, nI t, 53, tk_st K t, tk_wo K t, tk_st K t)
theorem m1_1 : (-1 : Int32) + 1 = nI 0 := by decide
theorem adv_gen {Z : TK} {w : Fin 54} {i s : Nat} (hi : tk_at Z + 1 = nI i) (hw : tk_sg Z i = some w) (hs : tk_sz Z = nI s) (his : i < s) (h401 : s ≤ 401) : s_Tokens_advance Z = (tk_sg Z, tk_st Z, tk_wo Z, tk_sz Z, nI i, (tk_sg Z i).getD 0, tk_st Z i, tk_wo Z i, tk_br Z) := by
  unfold s_Tokens_advance
  rw [hi, if_neg (nI_pos (by omega)), if_neg (by rw [hs]; exact fun w => absurd ((nI_leI (by omega) (by omega)).mp w) (by omega)), if_neg (fun w => absurd ((nI_leI (by omega) (by omega)).mp w) (by omega)), nI_clamp (by omega), if_neg (by rw [hw]; exact fun w => by cases w)]
theorem adv_m1 {Z : TK} {w : Fin 54} {c : Nat} (hw : tk_sg Z 0 = some w) (z4 : tk_sz Z = nI (c + 1)) (hc : c ≤ 400) : s_Tokens_advance (tk_br' (tk_at' Z (-1)) (-1)) = tA Z 0 :=
  adv_gen (Z := tk_br' (tk_at' Z (-1)) (-1)) m1_1 hw z4 (by omega) (by omega)
theorem lex_c {A : TA} {P : CP} {M : MO} (hT : RT A P M) (H : SH) (K : TK) : ∃ c K', s_Tokens_readFrom A K = tA K' 0 ∧ c ≤ 400 ∧ tk_sz K' = nI (c + 1) ∧ ps A c ≤ 2000 ∧ (∀ j, j < c → ps A j < mo_sz M ∧ TKj A K' j (sgn A j)) ∧ tk_sg K' c = some (if mo_sz M ≤ ps A c then 52 else 53) ∧ tk_st K' c = nI (ps A c) ∧ (c = 400 ∨ mo_sz M ≤ ps A c) := by
  have h2000 := hT.2.1
  have hp0 : ps A 0 ≤ 2000 := by
    obtain ⟨-, -, p3⟩ := pastB (kk := 0) hT H (i := 0) (by omega)
    show s_Tokens_pastBlanks A 0 ≤ 2000
    rcases p3 with p3 | p3 <;> omega
  obtain ⟨c, K1, a1, a2, a3, a4, a5, a6⟩ := rf_loop hT H 400 0 (tk_sz' K 0) rfl hp0 rfl (fun j hj => absurd hj (by omega))
  unfold s_Tokens_readFrom
  rw [show l_Tokens_readFrom_13 A 400 0 (s_Tokens_pastBlanks A 0) (tk_sz' K 0) = (ps A c, K1) from a1, hT.1]
  have fin : ∀ g : Fin 54, ∃ K', s_Tokens_advance (tk_br' (tk_at' (s_Tokens_put K1 g (nI (ps A c)) 0) (-1)) (-1)) = tA K' 0 ∧ tk_sz K' = nI (c + 1) ∧ (∀ j, j < c → ps A j < mo_sz M ∧ TKj A K' j (sgn A j)) ∧ tk_sg K' c = some g ∧ tk_st K' c = nI (ps A c) := by
    intro g
    rw [put_eq a4 a2]
    obtain ⟨Z, hZ⟩ : ∃ Z, Z = (tk_sz' (tk_wo' (tk_st' (tk_sg' K1 (updS (tk_sg K1) c g)) (upd (tk_st K1) c (nI (ps A c)))) (vp_updL (tk_wo K1) c 0)) (nI (c + 1))) := ⟨_, rfl⟩
    have z1 : tk_sg Z = updS (tk_sg K1) c g := by rw [hZ]
    have z2 : tk_st Z = upd (tk_st K1) c (nI (ps A c)) := by rw [hZ]
    have z3 : tk_wo Z = vp_updL (tk_wo K1) c 0 := by rw [hZ]
    have z4 : tk_sz Z = nI (c + 1) := by rw [hZ]
    rw [← hZ]
    have hall : ∀ j, j < c → ps A j < mo_sz M ∧ TKj A Z j (sgn A j) := by
      intro j hj
      obtain ⟨b0, b1, b2, b3⟩ := a5 j hj
      exact ⟨b0, by rw [z1, updS_ne _ _ (by omega)]; exact b1, by rw [z2, upd_ne _ _ (by omega)]; exact b2, by rw [z3, updL_ne _ _ (by omega)]; exact b3⟩
    have hsome : ∃ w, tk_sg Z 0 = some w := by
      by_cases e : c = 0
      · rw [z1, e, updS_at]; exact ⟨g, rfl⟩
      · exact ⟨_, (hall 0 (by omega)).2.1⟩
    obtain ⟨w, hw⟩ := hsome
    exact ⟨Z, adv_m1 hw z4 a2, z4, hall, by rw [z1, updS_at], by rw [z2, upd_at]⟩
  by_cases h : mo_sz M ≤ ps A c
  · rw [if_pos (nI_le h (by omega))]
    obtain ⟨K', b1, b2, b3, b4, b5⟩ := fin 52
    exact ⟨c, K', b1, a2, b2, a3, b3, by rw [if_pos h]; exact b4, b5, a6⟩
  · rw [if_neg (fun w => h ((nI_leI (by omega) (by omega)).mp w))]
    obtain ⟨K', b1, b2, b3, b4, b5⟩ := fin 53
    exact ⟨c, K', b1, a2, b2, a3, b3, by rw [if_neg h]; exact b4, b5, a6⟩
theorem sgn_or {wd : Int32} {bs : List Int32} : ∀ k i, i + k = 54 → (sgnF wd bs k i = (if wd = 0 then 53 else 50)) ∨ ∃ j, j < 54 ∧ sgnF wd bs k i = fin54 j ∧ sgX j = bs := by
  intro k
  induction k with
  | zero => intro i _; exact .inl rfl
  | succ k ih =>
    intro i h
    rw [sgnF, f54 (by omega)]
    by_cases e : sgX i = bs
    · rw [if_pos e]; exact .inr ⟨i, by omega, rfl, e⟩
    · rw [if_neg e]; exact ih (i + 1) (by omega)
theorem sg_nil : ∀ i, i < 54 → 50 ≤ i → sgX i = [] := by decide +kernel
/-- what a token's sign says of its bytes -/
theorem sign_f {A : TA} {P : CP} {M : MO} (hT : RT A P M) (H : SH) {f : Nat} (hf : f < mo_sz M) : ¬ (s_Tokens_signOf A f (s_Tokens_tokenEnd A f)).val = 52 ∧ ((s_Tokens_signOf A f (s_Tokens_tokenEnd A f)).val = 50 → ¬ s_Model_isLetter (s_Model_byteAt M H f) = 0 ∧ s_Tokens_tokenEnd A f - f ≤ 10) ∧ ((s_Tokens_signOf A f (s_Tokens_tokenEnd A f)).val = 51 → ¬ s_Model_isDigit (s_Model_byteAt M H f) = 0 ∧ s_Tokens_tokenEnd A f - f ≤ 6) := by
  have h2000 := hT.2.1
  obtain ⟨-, t1, t2, -⟩ := tok_end hT H hf
  generalize s_Tokens_tokenEnd A f = e at t1 t2 ⊢
  have i10a : nI (e - f) ≤ 10 ↔ e - f ≤ 10 := nI_leI (b := 10) (by omega) (by omega)
  have i6b : 6 < nI (e - f) ↔ 6 < e - f := nI_ltI (a := 6) (by omega) (by omega)
  unfold s_Tokens_signOf
  rw [dig_eq hT H (by omega), let_eq hT H (by omega), nI_subn (by omega)]
  by_cases hd : s_Model_isDigit (s_Model_byteAt M H f) = 0
  · rw [if_pos hd]
    have nn : ∀ {wd : Int32} {j : Nat}, j < 54 → 50 ≤ j → sgX j = bm M f (e - f) → False := by
      intro _ j a b c
      have := congrArg List.length c
      rw [bm_len, sg_nil j a b] at this
      simp at this
      omega
    by_cases hl : s_Model_isLetter (s_Model_byteAt M H f) = 0
    · rw [if_pos hl, hl, signs_eq hT H (by omega) t2 54 0 rfl]
      rcases sgn_or (wd := 0) (bs := bm M f (e - f)) 54 0 rfl with h | ⟨j, j1, j2, j3⟩
      · rw [h]; exact ⟨by decide, fun w => absurd w (by decide), fun w => absurd w (by decide)⟩
      · rw [j2, f54 j1]
        exact ⟨fun w => nn (wd := 0) j1 (by omega) j3, fun w => (nn (wd := 0) j1 (by omega) j3).elim, fun w => (nn (wd := 0) j1 (by omega) j3).elim⟩
    · rw [if_neg hl]
      by_cases h10 : e - f ≤ 10
      · rw [if_pos (i10a.mpr h10), signs_eq hT H (by omega) t2 54 0 rfl]
        rcases sgn_or (wd := s_Model_isLetter (s_Model_byteAt M H f)) (bs := bm M f (e - f)) 54 0 rfl with h | ⟨j, j1, j2, j3⟩
        · rw [h, if_neg hl]; exact ⟨by decide, fun _ => ⟨hl, h10⟩, fun w => absurd w (by decide)⟩
        · rw [j2, f54 j1]
          exact ⟨fun w => nn (wd := 0) j1 (by omega) j3, fun _ => ⟨hl, h10⟩, fun w => (nn (wd := 0) j1 (by omega) j3).elim⟩
      · rw [if_neg (fun w => h10 (i10a.mp w))]
        exact ⟨by decide, fun w => absurd w (by decide), fun w => absurd w (by decide)⟩
  · rw [if_neg hd]
    by_cases h6 : 6 < e - f
    · rw [if_pos (i6b.mpr h6)]
      exact ⟨by decide, fun w => absurd w (by decide), fun w => absurd w (by decide)⟩
    · rw [if_neg (fun w => h6 (i6b.mp w))]
      exact ⟨by decide, fun w => absurd w (by decide), fun _ => ⟨hd, by omega⟩⟩
theorem kOf_70 : ∀ g : Fin 54, ¬ g.val = 52 → (g.val < 52 ∧ kOf g < 70 ∧ ¬ kOf g = 70) ∨ (g = 53 ∧ kOf g = 71) := by decide +kernel
set_option maxRecDepth 20000 in
theorem cut_loop {A : TA} {P : CP} {M : MO} (hT : RT A P M) : ∀ k kk pl (H : SH), kk + k = 400 → pl ≤ 2000 → s_Tokens_pastBlanks A pl = ps A kk → ∃ n fr mn kd, l_Model_cut_4 M (k + 2) pl kk H = some (sh_kd' (sh_mn' (sh_fr' H fr) mn) kd) ∧ kk ≤ n ∧ n ≤ 400 ∧ (∀ j, j < kk → fr j = sh_fr H j ∧ mn j = sh_mn H j ∧ kd j = sh_kd H j) ∧ (∀ j, kk ≤ j → j < n → ps A j < mo_sz M ∧ fr j = ps A j ∧ mn j = s_Tokens_tokenEnd A (ps A j) - ps A j ∧ kd j = kOf (sgn A j) ∧ (sgn A j).val < 52) ∧ fr n = ps A n ∧ ((mo_sz M ≤ ps A n ∧ kd n = 70) ∨ (ps A n < mo_sz M ∧ kd n = 71 ∧ (n = 400 ∨ sgn A n = 53))) := by
  have h2000 := hT.2.1
  intro k
  induction k with
  | zero =>
    intro kk pl H hk hpl hq
    have e400 : kk = 400 := by omega
    subst e400
    obtain ⟨p1, p2, p3⟩ := pastB (kk := 400) hT H hpl
    rw [l_Model_cut_4, if_neg (by decide), p1, hq]
    rw [hq] at p2 p3
    have q2 : ps A 400 ≤ 2000 := by rcases p3 with p3 | p3 <;> omega
    simp only [Option.bind_some, if_pos (show (400 : Nat) < 401 by decide), if_pos (show nI 400 = (400 : Int32) from rfl), updN_at, upd_at]
    rw [if_pos (by omega)]
    by_cases h : mo_sz M ≤ ps A 400
    · have hb := out_let hT (sh_fr' H (updN (sh_fr H) 400 (ps A 400))) (show ps A 400 < 2 ^ 31 by omega) h
      have hl : s_Model_lengthAt M (sh_fr' H (updN (sh_fr H) 400 (ps A 400))) (ps A 400) = some 1 := by
        unfold s_Model_lengthAt
        rw [if_pos (by omega), hb, if_pos (by decide), if_pos (by decide), if_neg (by decide), if_neg (by decide), if_pos (by omega), Nat.add_sub_cancel_left]
      rw [hl]
      simp only [Option.bind_some, updN_at]
      have hk : ∀ H', s_Model_kindAt M H' (ps A 400) 1 = some 70 := by
        intro H'
        have hb := out_let hT H' (show ps A 400 < 2 ^ 31 by omega) h
        unfold s_Model_kindAt
        rw [if_pos (by omega), hb, if_pos rfl]
      rw [hk]
      simp only [Option.bind_some, upd_at]
      exact ⟨400, _, _, _, rfl, by omega, by omega, fun j hj => ⟨updN_ne _ _ (by omega), updN_ne _ _ (by omega), upd_ne _ _ (by omega)⟩, fun j a b => absurd b (by omega), updN_at _ _ _, .inl ⟨h, upd_at _ _ _⟩⟩
    · obtain ⟨t0, t1, t2, -⟩ := tok_end hT (sh_fr' H (updN (sh_fr H) 400 (ps A 400))) (show ps A 400 < mo_sz M by omega)
      rw [t0]
      simp only [Option.bind_some, updN_at]
      rw [if_pos (by omega), kind_eq hT _ (by omega)]
      simp only [Option.bind_some, upd_at]
      have hs := (sign_f hT H (show ps A 400 < mo_sz M by omega)).1
      have h70 : ¬ kOf (s_Tokens_signOf A (ps A 400) (s_Tokens_tokenEnd A (ps A 400))) = 70 := by
        rcases kOf_70 _ hs with ⟨-, -, h3⟩ | ⟨-, h3⟩
        · exact h3
        · rw [h3]; decide
      rw [if_neg h70]
      generalize kOf (s_Tokens_signOf A (ps A 400) (s_Tokens_tokenEnd A (ps A 400))) = kk
      refine ⟨400, updN (sh_fr H) 400 (ps A 400), updN (sh_mn H) 400 (s_Tokens_tokenEnd A (ps A 400) - ps A 400), upd (upd (sh_kd H) 400 kk) 400 71, rfl, by omega, by omega, fun j hj => ⟨updN_ne _ _ (by omega), updN_ne _ _ (by omega), ?_⟩, fun j a b => absurd b (by omega), updN_at _ _ _, .inr ⟨by omega, upd_at _ _ _, .inl rfl⟩⟩
      rw [upd_ne _ _ (by omega), upd_ne _ _ (by omega)]
  | succ k ih =>
    intro kk pl H hk hpl hq
    obtain ⟨p1, p2, p3⟩ := pastB (kk := kk) hT H hpl
    have h4 : ¬ (400 : Int32) < nI kk := fun w => absurd ((nI_ltI (a := 400) (b := kk) (by decide) (by omega)).mp w) (by omega)
    have h5 : ¬ nI kk = (400 : Int32) := fun w => absurd ((nI_eq (a := kk) (b := 400) (by omega) (by decide)).mp w) (by omega)
    have hkk : kk < 401 := by omega
    rw [l_Model_cut_4, if_neg h4, p1, hq]
    rw [hq] at p2 p3
    have q2 : ps A kk ≤ 2000 := by rcases p3 with p3 | p3 <;> omega
    simp only [Option.bind_some, if_pos hkk, if_neg h5, updN_at, upd_at]
    rw [if_pos (by omega)]
    by_cases h : mo_sz M ≤ ps A kk
    · have hb := out_let hT (sh_fr' H (updN (sh_fr H) kk (ps A kk))) (show ps A kk < 2 ^ 31 by omega) h
      have hl : s_Model_lengthAt M (sh_fr' H (updN (sh_fr H) kk (ps A kk))) (ps A kk) = some 1 := by
        unfold s_Model_lengthAt
        rw [if_pos (by omega), hb, if_pos (by decide), if_pos (by decide), if_neg (by decide), if_neg (by decide), if_pos (by omega), Nat.add_sub_cancel_left]
      rw [hl]
      simp only [Option.bind_some, updN_at]
      have hk : ∀ H', s_Model_kindAt M H' (ps A kk) 1 = some 70 := by
        intro H'
        have hb := out_let hT H' (show ps A kk < 2 ^ 31 by omega) h
        unfold s_Model_kindAt
        rw [if_pos (by omega), hb, if_pos rfl]
      rw [hk]
      simp only [Option.bind_some, upd_at]
      exact ⟨kk, _, _, _, rfl, by omega, by omega, fun j hj => ⟨updN_ne _ _ (by omega), updN_ne _ _ (by omega), upd_ne _ _ (by omega)⟩, fun j a b => absurd b (by omega), updN_at _ _ _, .inl ⟨h, upd_at _ _ _⟩⟩
    · obtain ⟨t0, t1, t2, -⟩ := tok_end hT (sh_fr' H (updN (sh_fr H) kk (ps A kk))) (show ps A kk < mo_sz M by omega)
      rw [t0]
      simp only [Option.bind_some, updN_at]
      rw [if_pos (by omega), kind_eq hT _ (by omega)]
      simp only [Option.bind_some, upd_at]
      have hs := (sign_f hT H (show ps A kk < mo_sz M by omega)).1
      rcases kOf_70 _ hs with ⟨h1, h2, -⟩ | ⟨h1, h2⟩
      · rw [if_pos h2]
        obtain ⟨n, fr, mn, kd, r1, r2, r3, r4, r5, r6, r7⟩ := ih (kk + 1) (ps A kk + (s_Tokens_tokenEnd A (ps A kk) - ps A kk)) (sh_kd' (sh_mn' (sh_fr' H (updN (sh_fr H) kk (ps A kk))) (updN (sh_mn H) kk (s_Tokens_tokenEnd A (ps A kk) - ps A kk))) (upd (sh_kd H) kk (kOf (s_Tokens_signOf A (ps A kk) (s_Tokens_tokenEnd A (ps A kk)))))) (by omega) (by omega) (by rw [show ps A kk + (s_Tokens_tokenEnd A (ps A kk) - ps A kk) = s_Tokens_tokenEnd A (ps A kk) by omega]; rfl)
        refine ⟨n, fr, mn, kd, r1, by omega, r3, fun j hj => ?_, fun j a b => ?_, r6, r7⟩
        · obtain ⟨w1, w2, w3⟩ := r4 j (by omega)
          exact ⟨w1.trans (updN_ne _ _ (by omega)), w2.trans (updN_ne _ _ (by omega)), w3.trans (upd_ne _ _ (by omega))⟩
        · by_cases e : j = kk
          · subst e
            obtain ⟨w1, w2, w3⟩ := r4 j (by omega)
            exact ⟨by omega, w1.trans (updN_at _ _ _), w2.trans (updN_at _ _ _), w3.trans (upd_at _ _ _), h1⟩
          · exact r5 j (by omega) b
      · rw [if_neg (by rw [h2]; decide)]
        exact ⟨kk, _, _, _, rfl, by omega, by omega, fun j hj => ⟨updN_ne _ _ (by omega), updN_ne _ _ (by omega), upd_ne _ _ (by omega)⟩, fun j a b => absurd b (by omega), updN_at _ _ _, .inr ⟨by omega, (upd_at _ _ _).trans h2, .inr h1⟩⟩
