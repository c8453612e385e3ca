/-! reading tests and sums: both, all through -/
theorem rt_gl {N0 N1 N2 N3 N4 : NM} {rec : Nat → Nat → Fin 54 → RS → RS} {x : Nat} (K : TK) (F : FM) (E : TE) : s_Teacher_readTest K F E N0 N1 N2 N3 N4 rec x = gl (fun S => rec 1 x 0 S) i32 400 (rec 1 x 0 (K, F, E)) := gl32 400 0 _ _ _
theorem rb_gl {N0 N1 N2 N3 N4 : NM} {rec : Nat → Nat → Fin 54 → RS → RS} {x : Nat} (K : TK) (F : FM) (E : TE) : s_Teacher_readBoth K F E N0 N1 N2 N3 N4 rec x = gl (fun S => rec 2 x 0 S) i31 400 (rec 2 x 0 (K, F, E)) := gl31 400 0 _ _ _
theorem rs_gl {N0 N1 N2 N3 N4 : NM} {rec : Nat → Nat → Fin 54 → RS → RS} {x : Nat} (K : TK) (F : FM) (E : TE) : s_Teacher_readSum K F E N0 N1 N2 N3 N4 rec x = gl (fun S => rec 4 x 0 S) i41 400 (rec 4 x 0 (K, F, E)) := gl41 400 0 _ _ _
theorem rp_gl {N0 N1 N2 N3 N4 : NM} {rec : Nat → Nat → Fin 54 → RS → RS} {x : Nat} (K : TK) (F : FM) (E : TE) : s_Teacher_readProduct K F E N0 N1 N2 N3 N4 rec x = gl (fun S => rec 5 x 0 S) i43 400 (rec 5 x 0 (K, F, E)) := gl43 400 0 _ _ _
theorem gl_B {K : TK} {t : Nat} {F : FM} {E : TE} {rc : RS → RS} {isop : Fin 54 → Bool} (h : isop 53 = false) : ∀ k, gl rc isop k (tB K t, F, E) = (tB K t, F, E)
  | 0 => rfl
  | k + 1 => by
    rw [gl]
    show (if isop 53 = true then _ else _) = _
    rw [h]
    rfl
theorem rd_B {K : TK} {H : SH} {n t : Nat} {N : Nat → NM} (hX : LX K H n) (ht : t ≤ n) : ∀ f w x (c : Fin 54) (F : FM) (E : TE), (w ≤ 5 ∨ c.val = 53) → ∃ F' E', rd_ (N 0) (N 1) (N 2) (N 3) (N 4) f w x c (tB K t, F, E) = (tB K t, F', E') := by
  intro f
  induction f with
  | zero => intro w x c F E _; exact ⟨F, E, rfl⟩
  | succ f ih =>
    intro w x c F E hw
    rw [rd_]
    by_cases w0 : w = 0
    · rw [if_pos w0, rt_gl]
      obtain ⟨F', E', h⟩ := ih 1 x 0 F E (.inl (by omega))
      exact ⟨F', E', by rw [h, gl_B rfl]⟩
    rw [if_neg w0]
    by_cases w1 : w = 1
    · rw [if_pos w1, rb_gl]
      obtain ⟨F', E', h⟩ := ih 2 x 0 F E (.inl (by omega))
      exact ⟨F', E', by rw [h, gl_B rfl]⟩
    rw [if_neg w1]
    by_cases w2 : w = 2
    · rw [if_pos w2]
      obtain ⟨F', E', h⟩ := ih 3 x 0 F E (.inl (by omega))
      refine ⟨F', E', ?_⟩
      unfold s_Teacher_readSingle
      rw [show s_Tokens_sign ((tB K t, F, E) : RS).1 = 53 from rfl, if_neg (by decide), if_neg (by decide), if_neg (by decide), if_neg (by decide), if_neg (by decide)]
      rw [show ((tB K t, F, E) : RS).1 = tB K t from rfl, show ((tB K t, F, E) : RS).2.1 = F from rfl, show ((tB K t, F, E) : RS).2.2 = E from rfl, h]
      show (if s_Teacher_isComparison 53 = 0 then (s_Tokens_breakOff (tB K t), F', E') else _) = _
      rw [if_pos (by decide), hX.brk ht]
    rw [if_neg w2]
    by_cases w3 : w = 3
    · rw [if_pos w3, rs_gl]
      obtain ⟨F', E', h⟩ := ih 4 x 0 F E (.inl (by omega))
      exact ⟨F', E', by rw [h, gl_B rfl]⟩
    rw [if_neg w3]
    by_cases w4 : w = 4
    · rw [if_pos w4, rp_gl]
      obtain ⟨F', E', h⟩ := ih 5 x 0 F E (.inl (by omega))
      exact ⟨F', E', by rw [h, gl_B rfl]⟩
    rw [if_neg w4]
    by_cases w5 : w = 5
    · rw [if_pos w5]
      obtain ⟨F', E', h⟩ := ih 6 x 53 F E (.inr rfl)
      refine ⟨F', E', ?_⟩
      unfold s_Teacher_readValue
      rw [show s_Tokens_sign ((tB K t, F, E) : RS).1 = 53 from rfl, if_neg (by decide), if_neg (by decide), if_neg (by decide), if_neg (by decide), if_neg (by decide), if_neg (by decide), if_neg (by decide), if_neg (by decide), if_neg (by decide)]
      exact h
    · rw [if_neg w5]
      have hc : c.val = 53 := hw.resolve_left (by omega)
      refine ⟨F, E, ?_⟩
      unfold s_Teacher_readNested
      rw [if_neg (by omega), if_neg (by omega), if_neg (by omega), if_neg (by omega)]
      show (s_Tokens_breakOff (tB K t), F, E) = _
      rw [hX.brk ht]
theorem read_ok {K : TK} {H : SH} {n : Nat} {M : MO} {N : Nat → NM} (hX : LX K H n) (hW : LW (mo_tk' M n) K (sh_fr H) (sh_mn H) n) : ∀ B w x, w ≤ 5 → x ≤ 8 → ND w x ≤ B → ∀ f fk, ND w x ≤ f → ND w x ≤ fk → ∀ t F E M1, t ≤ n → RDN K H n M N w x t F E M1 (rd_ (N 0) (N 1) (N 2) (N 3) (N 4) f w x 0 (tA K t, F, E)) (rk_ H fk w (mS M1 t x)) := by
  intro B
  induction B with
  | zero => intro w x hw hx hB; unfold ND at hB; omega
  | succ B ih =>
    intro w x hw hx hB f fk hf hfk t F E M1 ht
    have sub : ∀ w' x', w' ≤ 5 → x' ≤ 8 → ND w' x' < ND w x → ∀ f fk, ND w' x' ≤ f → ND w' x' ≤ fk → ∀ t F E M1, t ≤ n → RDN K H n M N w' x' t F E M1 (rd_ (N 0) (N 1) (N 2) (N 3) (N 4) f w' x' 0 (tA K t, F, E)) (rk_ H fk w' (mS M1 t x')) :=
      fun w' x' h1 h2 h3 => ih w' x' h1 h2 (by omega)
    unfold ND at hf hfk sub
    obtain ⟨f1, rfl⟩ := Nat.exists_eq_succ_of_ne_zero (show f ≠ 0 by omega)
    obtain ⟨fk1, rfl⟩ := Nat.exists_eq_succ_of_ne_zero (show fk ≠ 0 by omega)
    match w, hw with
    | 0, _ =>
      show RDN K H n M N 0 x t F E M1 (s_Teacher_readTest (tA K t) F E (N 0) (N 1) (N 2) (N 3) (N 4) (rd_ (N 0) (N 1) (N 2) (N 3) (N 4) f1) x) (l_Model_isTest H (rk_ H fk1) 401 (mS M1 t x))
      rw [rt_gl, ml32]
      exact level hX ops32 (by omega) (fun v h _ => h (by omega)) (fun t F E M1 ht => sub 1 x (by omega) hx (by omega) f1 fk1 (by omega) (by omega) t F E M1 ht) ev32 t F E M1 ht
    | 1, _ =>
      show RDN K H n M N 1 x t F E M1 (s_Teacher_readBoth (tA K t) F E (N 0) (N 1) (N 2) (N 3) (N 4) (rd_ (N 0) (N 1) (N 2) (N 3) (N 4) f1) x) (l_Model_isBoth H (rk_ H fk1) 401 (mS M1 t x))
      rw [rb_gl, ml31]
      exact level hX ops31 (by omega) (fun v h _ => h (by omega)) (fun t F E M1 ht => sub 2 x (by omega) hx (by omega) f1 fk1 (by omega) (by omega) t F E M1 ht) ev31 t F E M1 ht
    | 2, _ =>
      show RDN K H n M N 2 x t F E M1 (s_Teacher_readSingle (tA K t) F E (N 0) (N 1) (N 2) (N 3) (N 4) (rd_ (N 0) (N 1) (N 2) (N 3) (N 4) f1) x) (s_Model_isSingle H (rk_ H fk1) (mS M1 t x))
      by_cases g30 : (gk K t).val = 30
      · exact sng_not hX ht hx (fun h8 t F E M1 ht => sub 2 (x + 1) (by omega) (by omega) (by omega) f1 fk1 (by omega) (by omega) t F E M1 ht) (Fin.ext g30)
      by_cases g37 : (gk K t).val = 37
      · exact sng_open hX ht hx (fun h8 t F E M1 ht => sub 0 (x + 1) (by omega) (by omega) (by omega) f1 fk1 (by omega) (by omega) t F E M1 ht) (Fin.ext g37)
      by_cases g27 : (gk K t).val = 27
      · exact sng_standing hX ht hx hW (Fin.ext g27)
      by_cases g28 : (gk K t).val = 28
      · exact sng_here hX ht hx hW (Fin.ext g28)
      by_cases g29 : (gk K t).val = 29
      · exact sng_known hX ht hx hW (Fin.ext g29)
      exact sng_cmp hX ht hx (fun t F E M1 ht => sub 3 x (by omega) (by omega) (by omega) f1 fk1 (by omega) (by omega) t F E M1 ht) (by omega)
    | 3, _ =>
      show RDN K H n M N 3 x t F E M1 (s_Teacher_readSum (tA K t) F E (N 0) (N 1) (N 2) (N 3) (N 4) (rd_ (N 0) (N 1) (N 2) (N 3) (N 4) f1) x) (l_Model_isSum H (rk_ H fk1) 401 (mS M1 t x))
      rw [rs_gl, ml46]
      exact level hX ops41 (by omega) (fun v h w => absurd w (by decide)) (fun t F E M1 ht => sub 4 x (by omega) hx (by omega) f1 fk1 (by omega) (by omega) t F E M1 ht) ev46 t F E M1 ht
    | 4, _ =>
      show RDN K H n M N 4 x t F E M1 (s_Teacher_readProduct (tA K t) F E (N 0) (N 1) (N 2) (N 3) (N 4) (rd_ (N 0) (N 1) (N 2) (N 3) (N 4) f1) x) (l_Model_isProduct H (rk_ H fk1) 401 (mS M1 t x))
      rw [rp_gl, ml48]
      exact level hX ops43 (by omega) (fun v h w => absurd w (by decide)) (fun t F E M1 ht => sub 5 x (by omega) hx (by omega) f1 fk1 (by omega) (by omega) t F E M1 ht) ev48 t F E M1 ht
    | 5, _ =>
      obtain ⟨f2, rfl⟩ := Nat.exists_eq_succ_of_ne_zero (show f1 ≠ 0 by omega)
      show RDN K H n M N 5 x t F E M1 (s_Teacher_readValue (tA K t) F E (N 0) (N 1) (N 2) (N 3) (N 4) (rd_ (N 0) (N 1) (N 2) (N 3) (N 4) (f2 + 1)) x) (s_Model_isValue H (rk_ H fk1) (mS M1 t x))
      have hrec : ∀ g S, rd_ (N 0) (N 1) (N 2) (N 3) (N 4) (f2 + 1) 6 x g S = s_Teacher_readNested S.1 S.2.1 S.2.2 (N 0) (N 1) (N 2) (N 3) (N 4) (rd_ (N 0) (N 1) (N 2) (N 3) (N 4) f2) g x := fun _ _ => rfl
      have h5 : x < 8 → ∀ t F E M1, t ≤ n → RDN K H n M N 5 (x + 1) t F E M1 (rd_ (N 0) (N 1) (N 2) (N 3) (N 4) f2 5 (x + 1) 0 (tA K t, F, E)) (rk_ H fk1 5 (mS M1 t (x + 1))) := fun h8 t F E M1 ht => sub 5 (x + 1) (by omega) (by omega) (by omega) f2 fk1 (by omega) (by omega) t F E M1 ht
      have h3 : x < 8 → ∀ t F E M1, t ≤ n → RDN K H n M N 3 (x + 1) t F E M1 (rd_ (N 0) (N 1) (N 2) (N 3) (N 4) f2 3 (x + 1) 0 (tA K t, F, E)) (rk_ H fk1 3 (mS M1 t (x + 1))) := fun h8 t F E M1 ht => sub 3 (x + 1) (by omega) (by omega) (by omega) f2 fk1 (by omega) (by omega) t F E M1 ht
      have hb : ∀ t F E, t ≤ n → ∃ F' E', rd_ (N 0) (N 1) (N 2) (N 3) (N 4) f2 3 (x + 1) 0 (tB K t, F, E) = (tB K t, F', E') := fun t F E ht => rd_B hX ht f2 3 (x + 1) 0 F E (.inl (by omega))
      by_cases g51 : (gk K t).val = 51
      · exact val_num hX hW ht (Fin.ext g51)
      by_cases g13 : (gk K t).val = 13
      · exact val_day hX hW ht (Fin.ext g13)
      by_cases g14 : (gk K t).val = 14
      · exact val_warm hX hW ht (Fin.ext g14)
      by_cases g2 : (gk K t).val = 2
      · exact val_snow hX hW ht (Fin.ext g2)
      by_cases g8 : (gk K t).val = 8
      · exact val_bridge hX hW ht (Fin.ext g8)
      by_cases g23 : (gk K t).val = 23
      · exact val_out hX hW ht (Fin.ext g23)
      by_cases g24 : (gk K t).val = 24
      · exact val_stock hX hW ht (Fin.ext g24)
      by_cases g25 : (gk K t).val = 25
      · exact val_sack hX hW ht (Fin.ext g25)
      by_cases g26 : (gk K t).val = 26
      · exact val_place hX hW ht (Fin.ext g26)
      by_cases g42 : (gk K t).val = 42
      · exact val_minus hX ht hx hrec h5 (Fin.ext g42)
      by_cases g35 : (gk K t).val = 35
      · exact val_open hX ht hx hrec h3 (Fin.ext g35)
      by_cases g33 : (gk K t).val = 33
      · exact val_min hX ht hx hrec h3 hb (Fin.ext g33)
      by_cases g34 : (gk K t).val = 34
      · exact val_max hX ht hx hrec h3 hb (Fin.ext g34)
      exact val_else hX ht hx hrec (by omega) g42 g35 (by omega)
    | _ + 6, w => exact absurd w (by omega)
