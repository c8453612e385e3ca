/-! reading: what the tokens are for both -/
def gk (K : TK) (t : Nat) : Fin 54 := (tk_sg K t).getD 0
def mS (M : MO) (t d : Nat) : MO := mo_tk' (mo_dp' M d) t
/-- the class's tokens, the sheet's: n is the last -/
def LX (K : TK) (H : SH) (n : Nat) : Prop := n ≤ 400 ∧ (∃ s, tk_sz K = nI s ∧ n < s ∧ s ≤ 401) ∧ ∀ j, j ≤ n → tk_sg K j = some (gk K j) ∧ sh_kd H j = kOf (gk K j) ∧ tk_st K j = nI (sh_fr H j) ∧ sh_fr H j ≤ 2000 ∧ (j < n ↔ (gk K j).val < 52)
/-- names and numbers -/
def LW (M : MO) (K : TK) (fr mn : Nat → Nat) (n : Nat) : Prop := (∀ j i, j < n → i < n → (gk K j).val = 50 → (gk K i).val = 50 → ∀ H, sh_fr H = fr → sh_mn H = mn → s_Model_areSame M H j i = some (if tk_wo K j = tk_wo K i then 1 else 0)) ∧ ∀ j, j < n → (gk K j).val = 51 → ∀ H, sh_fr H = fr → sh_mn H = mn → ∃ v, v < 1000000 ∧ s_Model_number M H j = some (nI v) ∧ (tk_wo K j).toInt32 = nI v
theorem RT.of {A : TA} {P : CP} {M M' : MO} (h : RT A P M) (h1 : mo_ta M' = mo_ta M) (h2 : mo_sz M' = mo_sz M) : RT A (mo_ea M') M' :=
  ⟨by rw [h2]; exact h.1, by rw [h2]; exact h.2.1, rfl, fun i hi => by rw [h1]; exact h.2.2.2 i (by rw [← h2]; exact hi)⟩
theorem dig_nlet : ∀ u, u < 256 → ¬ s_Model_isDigit (nI u) = 0 → s_Model_isLetter (nI u) = 0 := by decide +kernel
theorem lex {A : TA} {P : CP} {M : MO} (hT : RT A P M) (K : TK) (H0 : SH) : ∃ K' n fr mn kd, s_Tokens_readFrom A K = tA K' 0 ∧ s_Model_cut M H0 = some (sh_kd' (sh_mn' (sh_fr' H0 fr) mn) kd) ∧ LX K' (sh_kd' (sh_mn' (sh_fr' H0 fr) mn) kd) n ∧ ∀ M', mo_ta M' = mo_ta M → mo_sz M' = mo_sz M → LW M' K' fr mn n := by
  have h2000 := hT.2.1
  obtain ⟨c, K', a1, a2, a3, a4, a5, a6, a7, a8⟩ := lex_c hT H0 K
  obtain ⟨n, fr, mn, kd, b1, b2, b3, b4, b5, b6, b7⟩ := cut_loop hT 400 0 0 H0 rfl (by omega) rfl
  have hnc : n ≤ c := by
    refine Nat.le_of_not_lt fun w => ?_
    obtain ⟨q, -⟩ := b5 c (by omega) w
    rcases a8 with h | h <;> omega
  have hg : ∀ j, j < c → gk K' j = sgn A j := fun j hj => by unfold gk; rw [(a5 j hj).2.1]; rfl
  have tok : ∀ j, j < n → (gk K' j).val < 52 ∧ sgn A j = gk K' j ∧ ps A j < mo_sz M ∧ fr j = ps A j ∧ mn j = s_Tokens_tokenEnd A (ps A j) - ps A j ∧ tk_wo K' j = s_Tokens_worthOf A (gk K' j) (ps A j) (s_Tokens_tokenEnd A (ps A j)) := by
    intro j hj
    obtain ⟨c1, c2, c3, c4, c5⟩ := b5 j (by omega) hj
    obtain ⟨d1, d2, d3, d4⟩ := a5 j (by omega)
    rw [hg j (by omega)]
    exact ⟨c5, rfl, c1, c2, c3, d4⟩
  refine ⟨K', n, fr, mn, kd, a1, b1, ⟨b3, ⟨c + 1, a3, by omega, by omega⟩, fun j hj => ?_⟩, fun M' m1 m2 => ?_⟩
  · by_cases e : j < n
    · obtain ⟨c1, c2, c3, c4, c5⟩ := b5 j (by omega) e
      obtain ⟨d1, d2, d3, d4⟩ := a5 j (by omega)
      rw [hg j (by omega)]
      refine ⟨d2, c4, ?_, ?_, fun _ => c5, fun _ => e⟩
      · show tk_st K' j = nI (fr j)
        rw [d3, c2]
      · show fr j ≤ 2000
        omega
    · have ej : j = n := by omega
      rw [ej]
      by_cases ec : n < c
      · obtain ⟨d1, d2, d3, d4⟩ := a5 n ec
        rcases b7 with ⟨g, -⟩ | ⟨-, g1, g2⟩
        · omega
        · have hs : sgn A n = 53 := by rcases g2 with g2 | g2; · omega
                                       · exact g2
          rw [hg n ec]
          refine ⟨d2, ?_, ?_, ?_, fun w => absurd w (by omega), fun w => absurd w (by rw [hs]; decide)⟩
          · show kd n = kOf (sgn A n)
            rw [g1, hs]; rfl
          · show tk_st K' n = nI (fr n)
            rw [d3, b6]
          · show fr n ≤ 2000
            omega
      · have en : c = n := by omega
        subst en
        have hgc : gk K' c = if mo_sz M ≤ ps A c then 52 else 53 := by unfold gk; rw [a6]; rfl
        rw [hgc]
        refine ⟨a6, ?_, ?_, ?_, fun w => absurd w (by omega), fun w => ?_⟩
        · show kd c = _
          rcases b7 with ⟨g, g1⟩ | ⟨g, g1, -⟩
          · rw [if_pos g, g1]; rfl
          · rw [if_neg (by omega), g1]; rfl
        · show tk_st K' c = nI (fr c)
          rw [a7, b6]
        · show fr c ≤ 2000
          omega
        · by_cases g : mo_sz M ≤ ps A c
          · rw [if_pos g] at w; exact absurd w (by decide)
          · rw [if_neg g] at w; exact absurd w (by decide)
  · have hT' := hT.of m1 m2
    have hu : ∀ i, uB M' i = uB M i := fun i => by unfold uB; rw [m1]
    constructor
    · intro j i hj hi gj gi H h1 h2
      have fact : ∀ j, j < n → (gk K' j).val = 50 → fr j + mn j ≤ mo_sz M ∧ mn j ≤ 10 ∧ (∀ q, fr j ≤ q → q < fr j + mn j → isC (uB M q)) ∧ tk_wo K' j = lN (NV M (mn j) (fr j) 0) := by
        intro j hj gj
        obtain ⟨t0, t1, t2, t3, t4, t5⟩ := tok j hj
        obtain ⟨-, e1, e2, e3, -⟩ := tok_end hT H0 t2
        have s := (sign_f hT H0 t2).2.1
        obtain ⟨s1, s2⟩ := s (by show (sgn A j).val = 50; rw [t1]; exact gj)
        rw [t3, t4]
        have hc : ∀ q, ps A j ≤ q → q < s_Tokens_tokenEnd A (ps A j) → isC (uB M q) := by
          intro q q1 q2
          have w := e3 s1 q q1 q2
          obtain ⟨-, -, w3, -⟩ := uB_of hT H0 (show q < mo_sz M by omega)
          rw [w3] at w
          exact w
        refine ⟨by omega, s2, fun q q1 q2 => hc q q1 (by omega), ?_⟩
        rw [t5]
        unfold s_Tokens_worthOf
        rw [if_neg (by omega), if_pos gj]
        exact name_v hT H0 (by omega) e2 hc
      obtain ⟨j1, j2, j3, j4⟩ := fact j hj gj
      obtain ⟨i1, i2, i3, i4⟩ := fact i hi gi
      rw [j4, i4]
      have ni := name_iff hT H0 j1 i1 j2 i2 j3 i3
      rcases same_eq hT' H (x := j) (y := i) (by omega) (by omega) (congrFun h1 j) (congrFun h2 j) (congrFun h1 i) (congrFun h2 i) (by omega) (by omega) (by omega) with ⟨w1, w2⟩ | ⟨w1, w2⟩
      · rw [m1] at w2
        rw [w1, if_pos (ni.mpr w2)]
      · rw [m1] at w2
        rw [w1, if_neg (fun w => w2 (ni.mp w))]
    · intro j hj gj H h1 h2
      obtain ⟨t0, t1, t2, t3, t4, t5⟩ := tok j hj
      obtain ⟨-, e1, e2, -, e3, -⟩ := tok_end hT H0 t2
      have s := (sign_f hT H0 t2).2.2
      obtain ⟨s1, s2⟩ := s (by show (sgn A j).val = 51; rw [t1]; exact gj)
      obtain ⟨u1, -, u3, -⟩ := uB_of hT H0 t2
      have hd : ∀ q, ps A j ≤ q → q < s_Tokens_tokenEnd A (ps A j) → ¬ s_Model_isDigit (nI (uB M q)) = 0 := by
        intro q q1 q2
        have w := e3 (by rw [u3] at s1 ⊢; exact dig_nlet _ u1 s1) s1 q q1 q2
        obtain ⟨-, -, w3, -⟩ := uB_of hT H0 (show q < mo_sz M by omega)
        rw [w3] at w
        exact w
      have hle : ∀ q, ps A j ≤ q → q < ps A j + (s_Tokens_tokenEnd A (ps A j) - ps A j) → uB M q ≤ 57 := by
        intro q q1 q2
        obtain ⟨w1, -⟩ := uB_of hT H0 (show q < mo_sz M by omega)
        exact (dg_u _ w1 (hd q q1 (by omega))).2.1
      have hdv : ∀ k i v, DV M' k i v = DV M k i v := by
        intro k
        induction k with
        | zero => intro i v; rfl
        | succ k ih => intro i v; rw [DV, DV, hu, ih]
      refine ⟨DV M (mn j) (fr j) 0, ?_, ?_, ?_⟩
      · rw [t3, t4]; exact dv_6 s2 hle
      · rw [mnum_eq hT' H (x := j) (f := fr j) (n := mn j) (by omega) (congrFun h1 j) (congrFun h2 j) (by rw [m2, t3, t4]; omega) (fun q q1 q2 => by rw [hu]; exact hd q (by omega) (by omega)), hdv]
      · rw [t5]
        unfold s_Tokens_worthOf
        rw [if_pos gj, num_v hT H0 (by omega) e2 hd, lN_i, t3, t4]
/-! the class's tokens, one by one -/
theorem LX.adv {K : TK} {H : SH} {n t : Nat} (h : LX K H n) (ht : t < n) : s_Tokens_advance (tA K t) = tA K (t + 1) := by
  obtain ⟨-, ⟨s, s1, s2, s3⟩, h3⟩ := h
  exact adv_gen (Z := tA K t) (nI_1 t) (h3 (t + 1) (by omega)).1 s1 (by omega) s3
theorem brk_A {K : TK} {t : Nat} : s_Tokens_breakOff (tA K t) = tB K t := by
  unfold s_Tokens_breakOff
  rw [if_neg (show ¬ (0 : Int32) ≤ tk_br (tA K t) by show ¬ (0 : Int32) ≤ -1; decide)]
  rfl
theorem LX.brk {K : TK} {H : SH} {n t : Nat} (h : LX K H n) (ht : t ≤ n) : s_Tokens_breakOff (tB K t) = tB K t := by
  obtain ⟨-, -, h3⟩ := h
  unfold s_Tokens_breakOff
  rw [if_pos (show (0 : Int32) ≤ tk_br (tB K t) by show (0 : Int32) ≤ tk_st K t; rw [(h3 t ht).2.2.1]; exact nI_pos' (by have := (h3 t ht).2.2.2.1; omega))]
  rfl
theorem exp_A {K : TK} {H : SH} {n t : Nat} (h : LX K H n) {g : Fin 54} (hg : g.val < 52) (ht : t ≤ n) : s_Tokens_expect (tA K t) g = if (gk K t).val = g.val then tA K (t + 1) else tB K t := by
  unfold s_Tokens_expect
  rw [show tk_sn (tA K t) = gk K t from rfl]
  by_cases e : (gk K t).val = g.val
  · rw [if_pos e, if_pos e, h.adv (((h.2.2 t ht).2.2.2.2).mpr (by omega))]
  · rw [if_neg e, if_neg e, brk_A]
theorem exp_B {K : TK} {H : SH} {n t : Nat} (h : LX K H n) {g : Fin 54} (hg : g.val < 52) (ht : t ≤ n) : s_Tokens_expect (tB K t) g = tB K t := by
  unfold s_Tokens_expect
  rw [show tk_sn (tB K t) = 53 from rfl, if_neg (show ¬ ((53 : Fin 54).val = g.val) by show ¬ (53 = g.val); omega), h.brk ht]
theorem kOf_iff : ∀ g h : Fin 54, kOf g = kOf h ↔ g = h := by decide +kernel
theorem eat_S {K : TK} {H : SH} {n t d : Nat} {M : MO} (h : LX K H n) (ht : t ≤ n) {g : Fin 54} {x : Int32} (hx : x = kOf g) : s_Model_eat_0 H x (mS M t d) = some (if (gk K t).val = g.val then (1, mS M (t + 1) d) else (0, mS M t d)) := by
  have h400 := h.1
  unfold s_Model_eat_0
  rw [if_pos (show mo_tk (mS M t d) < 401 by show t < 401; omega)]
  show (if sh_kd H t = x then some ((1 : Int32), mS M (t + 1) d) else some (0, mS M t d)) = _
  rw [(h.2.2 t ht).2.1, hx]
  by_cases e : (gk K t).val = g.val
  · rw [if_pos e, if_pos ((kOf_iff _ _).mpr (Fin.ext e))]
  · rw [if_neg e, if_neg (fun w => e (congrArg Fin.val ((kOf_iff _ _).mp w)))]
theorem down_S {K : TK} {H : SH} {n t d : Nat} {M : MO} (h : LX K H n) (ht : t ≤ n) (hd : d ≤ 8) {g : Fin 54} {x : Int32} (hx : x = kOf g) : s_Model_goDown H x (mS M t d) = some (if (gk K t).val = g.val ∧ d < 8 then (1, mS M (t + 1) (d + 1)) else (0, mS M t d)) := by
  have h400 := h.1
  unfold s_Model_goDown
  rw [if_pos (show mo_tk (mS M t d) < 401 by show t < 401; omega)]
  show (if sh_kd H t = x then (if nI d = 8 then some ((0 : Int32), mS M t d) else some (1, mS M (t + 1) (d + 1))) else some (0, mS M t d)) = _
  rw [(h.2.2 t ht).2.1, hx]
  by_cases e : (gk K t).val = g.val
  · rw [if_pos ((kOf_iff _ _).mpr (Fin.ext e))]
    have h8 : nI d = 8 ↔ d = 8 := nI_eq (a := d) (b := 8) (by omega) (by decide)
    by_cases e8 : d < 8
    · rw [if_neg (fun w => absurd (h8.mp w) (by omega)), if_pos ⟨e, e8⟩]
    · rw [if_pos (h8.mpr (by omega)), if_neg (c := (gk K t).val = g.val ∧ d < 8) (fun w => e8 w.2)]
  · rw [if_neg (c := kOf (gk K t) = kOf g) (fun w => e (congrArg Fin.val ((kOf_iff _ _).mp w))), if_neg (c := (gk K t).val = g.val ∧ d < 8) (fun w => e w.1)]
theorem deep_A {K : TK} {H : SH} {n t x : Nat} {E : TE} (h : LX K H n) (ht : t < n) (hx : x ≤ 8) : s_Teacher_goesDeeper (tA K t) E x = if x < 8 then (1, tA K (t + 1)) else (0, tB K t) := by
  unfold s_Teacher_goesDeeper
  by_cases e : x < 8
  · rw [if_pos (show nI x < 8 from nI_lt (b := 8) e (by decide)), if_pos e, h.adv ht]
  · rw [if_neg (c := nI x < 8) (fun w => absurd ((nI_ltI (a := x) (b := 8) (by omega) (by decide)).mp w) e), if_neg e, brk_A]
/-! what the reference tells of a token -/
def RDm (M : MO) (n i : Nat) (H : SH) : Option (Int32 × MO × SH) := l_Model_read_40 (402 - i) i (mo_tk' M n) H
theorem rd_step {M : MO} {n i : Nat} {H H2 : SH} {e : Int32} (hi : i < n) (hn : n ≤ 400) (h : s_Model_errorOf (mo_tk' M n) H i = some (e, H2)) : RDm M n i H = if e = 0 then RDm M n (i + 1) H2 else some (e, mo_ea' (mo_tk' M n) (nI (sh_fr H2 i)), H2) := by
  unfold RDm
  rw [show 402 - i = (402 - (i + 1)) + 1 by omega, l_Model_read_40, if_neg (show ¬ nI (mo_tk (mo_tk' M n)) ≤ nI i from fun w => absurd ((nI_leI (a := n) (b := i) (by omega) (by omega)).mp w) (by omega)), if_pos (by omega), h]
  show (if e = 0 then _ else (if i < 401 then _ else none)) = _
  rw [if_pos (show i < 401 by omega)]
theorem rd_end {M : MO} {n : Nat} {H : SH} (hn : n ≤ 400) : RDm M n n H = some (0, mo_tk' M n, H) := by
  unfold RDm
  rw [show 402 - n = (401 - n) + 1 by omega, l_Model_read_40, if_pos (show nI (mo_tk (mo_tk' M n)) ≤ nI n from nI_le (a := n) (Nat.le_refl _) (by omega))]
theorem err_in {M : MO} {H : SH} {i : Nat} (hi : 1 ≤ i) (h400 : i ≤ 400) (h44 : ¬ sh_kd H (i - 1) = 44) : s_Model_errorOf M H i = l_Model_errorOf_27 M i 1 H := by
  unfold s_Model_errorOf
  rw [if_neg (c := nI i = 0) (fun w => absurd ((nI_eq (a := i) (b := 0) (by omega) (by decide)).mp w) (by omega)), if_pos hi, if_pos (by omega), if_neg h44]
/-- tokens that tell nothing -/
abbrev neu (g : Fin 54) : Prop := s_Model_isOrder (kOf g) = 0 ∧ ¬ kOf g = 20 ∧ ¬ kOf g = 22 ∧ ¬ kOf g = 36 ∧ ¬ kOf g = 37
theorem err_neu {M : MO} {H : SH} {i : Nat} {g : Fin 54} (hi : 1 ≤ i) (h400 : i ≤ 400) (h44 : ¬ sh_kd H (i - 1) = 44) (hk : sh_kd H i = kOf g) (hg : neu g) : s_Model_errorOf M H i = some (0, H) := by
  obtain ⟨g1, g2, g3, g4, g5⟩ := hg
  rw [err_in hi h400 h44, l_Model_errorOf_27, hk, if_pos (by omega), if_pos g1, if_neg g2, if_neg g3, if_neg g4, if_neg g5]
theorem err_num {M : MO} {H : SH} {i v : Nat} {g : Fin 54} (hi : 1 ≤ i) (h400 : i ≤ 400) (hp : sh_kd H (i - 1) = kOf g) (hg : ¬ kOf g = 1 ∧ ¬ kOf g = 2 ∧ ¬ kOf g = 5 ∧ ¬ kOf g = 8 ∧ ¬ kOf g = 10 ∧ ¬ kOf g = 12 ∧ ¬ kOf g = 13 ∧ ¬ kOf g = 14 ∧ ¬ kOf g = 44) (hk : sh_kd H i = 37) (hn : s_Model_number M H i = some (nI v)) : s_Model_errorOf M H i = some (0, sh_me' H (upd (sh_me H) i (nI v))) := by
  obtain ⟨g1, g2, g3, g4, g5, g6, g7, g8, g9⟩ := hg
  rw [err_in hi h400 (by rw [hp]; exact g9), l_Model_errorOf_27, hk, if_pos (by omega), if_pos (by decide), if_neg (by decide), if_neg (by decide), if_neg (by decide), if_pos rfl, if_pos (by omega)]
  unfold s_Model_errorOfNumber
  rw [if_pos (by omega), hn]
  show ((if i < 401 then _ else none) : Option (Int32 × SH)).bind _ = _
  rw [if_pos (by omega), if_pos hi, if_pos (by omega), hp, if_neg g1, if_neg g2, if_neg g3, if_neg g4, if_neg g5, if_neg g6, if_neg g7, if_neg g8]
  rfl
/-! names told ahead -/
def srt (i : Nat) : Nat := [0, 3, 6, 9, 11].getD i 0
def NRel (K : TK) (H : SH) (N : Nat → NM) (n : Nat) : Prop := ∀ i, i < 5 → nm_sz (N i) = sh_ha H (srt i) ∧ nm_sz (N i) ≤ 6 ∧ ∀ q, q < nm_sz (N i) → sh_na H (6 * srt i + q) < n ∧ (gk K (sh_na H (6 * srt i + q))).val = 50 ∧ nm_na (N i) q = tk_wo K (sh_na H (6 * srt i + q))
theorem srt12 : ∀ i, i < 5 → srt i ≤ 11 := by decide
theorem find_eq {M : MO} {K : TK} {H : SH} {N : Nat → NM} {n i x : Nat} (hn : n ≤ 400) (hW : LW M K (sh_fr H) (sh_mn H) n) (hN : NRel K H N n) (hi : i < 5) (hx : x < n) (hg : (gk K x).val = 50) : s_Model_find M H (srt i) x = some (s_Names_find (N i) (tk_wo K x)) ∧ (s_Names_find (N i) (tk_wo K x) = -1 ∨ ∃ r, r < sh_ha H (srt i) ∧ s_Names_find (N i) (tk_wo K x) = nI r) := by
  obtain ⟨h1, h2, h3⟩ := hN i hi
  have s11 := srt12 i hi
  have loop : ∀ k q m, q + k = nm_sz (N i) → k < m → l_Model_find_3 M H (srt i) x m q = some (l_Names_find_2 (N i) (tk_wo K x) k q) ∧ (l_Names_find_2 (N i) (tk_wo K x) k q = -1 ∨ ∃ r, r < sh_ha H (srt i) ∧ l_Names_find_2 (N i) (tk_wo K x) k q = nI r) := by
    intro k
    induction k with
    | zero =>
      intro q m e1 e2
      obtain ⟨m', rfl⟩ := Nat.exists_eq_succ_of_ne_zero (show m ≠ 0 by omega)
      rw [l_Model_find_3, if_pos (by omega), if_pos (nI_le (by omega) (by omega))]
      exact ⟨rfl, .inl rfl⟩
    | succ k ih =>
      intro q m e1 e2
      obtain ⟨m', rfl⟩ := Nat.exists_eq_succ_of_ne_zero (show m ≠ 0 by omega)
      obtain ⟨q1, q2, q3⟩ := h3 q (by omega)
      rw [l_Model_find_3, if_pos (by omega), if_neg (fun w => absurd ((nI_leI (by omega) (by omega)).mp w) (by omega)), if_pos (by omega), if_pos (by omega), if_pos (by omega), hW.1 _ _ q1 hx q2 hg H rfl rfl, l_Names_find_2, q3]
      show (if (if tk_wo K (sh_na H (6 * srt i + q)) = tk_wo K x then (1 : Int32) else 0) = 0 then _ else _) = _ ∧ _
      by_cases e : tk_wo K (sh_na H (6 * srt i + q)) = tk_wo K x
      · rw [if_pos e, if_neg (by decide), if_pos ((lg_cmp_eq _ _).mpr e)]
        exact ⟨rfl, .inr ⟨q, by omega, rfl⟩⟩
      · rw [if_neg e, if_pos rfl, if_neg (fun w => e ((lg_cmp_eq _ _).mp w))]
        exact ih (q + 1) m' (by omega) (by omega)
  exact loop (nm_sz (N i)) 0 100 (by omega) (by omega)
/-! reading a stretch of tokens: what both make of it -/
def ND (w x : Nat) : Nat := 7 * (8 - x) + (7 - w)
def VP (w : Nat) (v : Int32) : Prop := w ≤ 2 → v = 0 ∨ v = 1
def SameT (H H1 : SH) : Prop := sh_kd H1 = sh_kd H ∧ sh_fr H1 = sh_fr H ∧ sh_mn H1 = sh_mn H
abbrev pv (g : Fin 54) : Prop := ¬ kOf g = 1 ∧ ¬ kOf g = 2 ∧ ¬ kOf g = 5 ∧ ¬ kOf g = 8 ∧ ¬ kOf g = 10 ∧ ¬ kOf g = 12 ∧ ¬ kOf g = 13 ∧ ¬ kOf g = 14 ∧ ¬ kOf g = 44
def EXT (F F' : FM) (a b : Nat) : Prop := (∀ j, j < a → fm_sg F' j = fm_sg F j ∧ fm_op F' j = fm_op F j) ∧ ∀ j, a ≤ j → j < b → ¬ fm_sg F' j = none
theorem EXT.refl (F : FM) (a : Nat) : EXT F F a a := ⟨fun _ _ => ⟨rfl, rfl⟩, fun j h1 h2 => absurd h2 (by omega)⟩
theorem EXT.trans {F F1 F2 : FM} {a b c : Nat} (h1 : EXT F F1 a b) (h2 : EXT F1 F2 b c) (hab : a ≤ b) : EXT F F2 a c := by
  refine ⟨fun j hj => ?_, fun j j1 j2 => ?_⟩
  · obtain ⟨e1, e2⟩ := h1.1 j hj
    obtain ⟨e3, e4⟩ := h2.1 j (by omega)
    exact ⟨e3.trans e1, e4.trans e2⟩
  · by_cases e : j < b
    · rw [(h2.1 j e).1]; exact h1.2 j j1 e
    · exact h2.2 j (by omega) j2
theorem ne_le {x : Int32} (h : ¬ x ≤ 0) : ¬ x = 0 := fun w => h (by rw [w]; exact Int32.le_refl _)
def SemT (K : TK) (H : SH) (n : Nat) (M : MO) (N : Nat → NM) (t t' : Nat) (F : FM) (E : TE) (F' : FM) (E' : TE) (Q : SH → Nat → Nat → Prop) : Prop :=
  (¬ te_er E = 0 → E' = E) ∧ (te_er E = 0 → ∀ a H1, fm_sz F = nI a → a ≤ 2 * t → SameT H H1 → NRel K H1 N n →
    (¬ te_er E' ≤ 0 ∧ ∃ H2, RDm M n t H1 = some (te_er E', mo_ea' (mo_tk' M n) (te_ep E'), H2)) ∨
    (E' = E ∧ ∃ me b, RDm M n t H1 = RDm M n t' (sh_me' H1 me) ∧ (∀ j, j < t ∨ t' ≤ j → me j = sh_me H1 j) ∧ fm_sz F' = nI b ∧ a ≤ b ∧ b + 2 * t ≤ a + 2 * t' ∧ EXT F F' a b ∧ Q (sh_me' H1 me) a b))
theorem NRel.me {K : TK} {H : SH} {N : Nat → NM} {n : Nat} {me : Nat → Int32} (h : NRel K H N n) : NRel K (sh_me' H me) N n := h
theorem SameT.me {H H1 : SH} {me : Nat → Int32} (h : SameT H H1) : SameT H (sh_me' H1 me) := h
theorem SemT.mono {K : TK} {H : SH} {n : Nat} {M : MO} {N : Nat → NM} {t t' : Nat} {F F' : FM} {E E' : TE} {Q Q' : SH → Nat → Nat → Prop} (h : SemT K H n M N t t' F E F' E' Q) (hq : ∀ H2 a b, a ≤ b → Q H2 a b → Q' H2 a b) : SemT K H n M N t t' F E F' E' Q' := by
  refine ⟨h.1, fun hE a H1 h1 h2 h3 h4 => ?_⟩
  rcases h.2 hE a H1 h1 h2 h3 h4 with w | ⟨w1, me, b, w2, w3, w4, w5, w6, w7, w8⟩
  · exact .inl w
  · exact .inr ⟨w1, me, b, w2, w3, w4, w5, w6, w7, hq _ _ _ w5 w8⟩
theorem SemT.seq {K : TK} {H : SH} {n : Nat} {M : MO} {N : Nat → NM} {t t1 t2 : Nat} {F F1 F2 : FM} {E E1 E2 : TE} {Q1 Q2 : SH → Nat → Nat → Prop} (h1 : SemT K H n M N t t1 F E F1 E1 Q1) (h2 : SemT K H n M N t1 t2 F1 E1 F2 E2 Q2) (ht : t ≤ t1) (ht2 : t1 ≤ t2) : SemT K H n M N t t2 F E F2 E2 (fun H2 a c => ∃ b H1, a ≤ b ∧ b ≤ c ∧ Q1 H1 a b ∧ Q2 H2 b c ∧ b + 2 * t ≤ a + 2 * t1 ∧ c + 2 * t1 ≤ b + 2 * t2 ∧ (∀ j, j < t1 → sh_me H2 j = sh_me H1 j) ∧ sh_ha H2 = sh_ha H1 ∧ ∀ j, j < b → fm_sg F2 j = fm_sg F1 j ∧ fm_op F2 j = fm_op F1 j) := by
  refine ⟨fun hE => ?_, fun hE a H1 w1 w2 w3 w4 => ?_⟩
  · have e1 := h1.1 hE
    exact (h2.1 (by rw [e1]; exact hE)).trans e1
  · rcases h1.2 hE a H1 w1 w2 w3 w4 with ⟨a1, Hx, a2⟩ | ⟨a1, me, b, a2, a3, a4, a5, a6, a7, a8⟩
    · have e2 := h2.1 (ne_le a1)
      exact .inl ⟨by rw [e2]; exact a1, Hx, by rw [e2]; exact a2⟩
    · rcases h2.2 (by rw [a1]; exact hE) b (sh_me' H1 me) a4 (by omega) w3 w4 with ⟨b1, Hx, b2⟩ | ⟨b1, me2, c, b2, b3, b4, b5, b6, b7, b8⟩
      · exact .inl ⟨b1, Hx, a2.trans b2⟩
      · refine .inr ⟨b1.trans a1, me2, c, a2.trans b2, fun j hj => ?_, b4, by omega, by omega, a7.trans b7 a5, b, sh_me' H1 me, a5, b5, a8, b8, a6, b6, fun j hj => ?_, rfl, b7.1⟩
        · have e1 := b3 j (by omega)
          have e2 := a3 j (by omega)
          exact e1.trans e2
        · exact b3 j (.inl hj)
theorem put_sz {F : FM} {b : Nat} {g : Fin 54} {o : Int32} (h : fm_sz F = nI b) (hb : b < 800) : fm_sz (s_Formulas_put F g o) = nI (b + 1) ∧ fm_sg (s_Formulas_put F g o) b = some g ∧ fm_op (s_Formulas_put F g o) b = o ∧ ∀ j, j < b → fm_sg (s_Formulas_put F g o) j = fm_sg F j ∧ fm_op (s_Formulas_put F g o) j = fm_op F j := by
  unfold s_Formulas_put
  rw [h, if_neg (nI_pos (by omega)), if_neg (fun w => absurd ((nI_leI (by omega) (by omega)).mp w) (by omega)), nI_clamp (by omega), nI_1]
  exact ⟨rfl, updS_at _ _ _, upd_at _ _ _, fun j hj => ⟨updS_ne _ _ (by omega), upd_ne _ _ (by omega)⟩⟩
theorem SemT.put {K : TK} {H : SH} {n : Nat} {M : MO} {N : Nat → NM} {t t1 : Nat} {F F1 : FM} {E E1 : TE} {Q : SH → Nat → Nat → Prop} {g : Fin 54} {o : Int32} (h : SemT K H n M N t t1 F E F1 E1 Q) (h400 : t1 ≤ 400) (hq : ∀ H2 a b, Q H2 a b → b + 1 + 2 * t ≤ a + 2 * t1) : SemT K H n M N t t1 F E (s_Formulas_put F1 g o) E1 (fun H2 a c => ∃ b, c = b + 1 ∧ Q H2 a b ∧ a ≤ b ∧ fm_sg (s_Formulas_put F1 g o) b = some g ∧ fm_op (s_Formulas_put F1 g o) b = o ∧ ∀ j, j < b → fm_sg (s_Formulas_put F1 g o) j = fm_sg F1 j ∧ fm_op (s_Formulas_put F1 g o) j = fm_op F1 j) := by
  refine ⟨h.1, fun hE a H1 w1 w2 w3 w4 => ?_⟩
  rcases h.2 hE a H1 w1 w2 w3 w4 with a1 | ⟨a1, me, b, a2, a3, a4, a5, a6, a7, a8⟩
  · exact .inl a1
  · have q := hq _ _ _ a8
    obtain ⟨p1, p2, p3, p4⟩ := put_sz (g := g) (o := o) a4 (by omega)
    refine .inr ⟨a1, me, b + 1, a2, a3, p1, by omega, by omega, a7.trans ⟨p4, fun j j1 j2 => ?_⟩ a5, b, rfl, a8, a5, p2, p3, p4⟩
    rw [show j = b by omega, p2]
    exact fun w => by cases w
/-- a token that tells nothing -/
theorem sem_neu {K : TK} {H : SH} {n : Nat} {M : MO} {N : Nat → NM} {t : Nat} {F : FM} {E : TE} (hX : LX K H n) (ht : t < n) (h1 : 1 ≤ t) (h39 : ¬ (gk K (t - 1)).val = 39) (hg : neu (gk K t)) : SemT K H n M N t (t + 1) F E F E (fun _ a b => b = a) := by
  have h400 := hX.1
  refine ⟨fun _ => rfl, fun hE a H1 w1 w2 w3 w4 => .inr ⟨rfl, sh_me H1, a, ?_, fun _ _ => rfl, w1, Nat.le_refl _, by omega, EXT.refl F a, rfl⟩⟩
  have e := err_neu (M := mo_tk' M n) (H := H1) h1 (show t ≤ 400 by omega) (by rw [w3.1, (hX.2.2 (t - 1) (by omega)).2.1]; exact fun w => h39 (congrArg Fin.val ((kOf_iff _ 39).mp w))) (by rw [w3.1, (hX.2.2 t (by omega)).2.1]) hg
  exact (rd_step ht h400 e).trans (if_pos rfl)
/-- a number -/
theorem sem_num {K : TK} {H : SH} {n : Nat} {M : MO} {N : Nat → NM} {t : Nat} {F : FM} {E : TE} (hX : LX K H n) (hW : LW (mo_tk' M n) K (sh_fr H) (sh_mn H) n) (ht : t < n) (h1 : 1 ≤ t) (hp : pv (gk K (t - 1))) (hg : (gk K t).val = 51) : SemT K H n M N t (t + 1) F E F E (fun H2 a b => b = a ∧ sh_me H2 t = (tk_wo K t).toInt32) := by
  have h400 := hX.1
  refine ⟨fun _ => rfl, fun hE a H1 w1 w2 w3 w4 => ?_⟩
  obtain ⟨v, v1, v2, v3⟩ := hW.2 t ht hg H1 w3.2.1 w3.2.2
  have e := err_num (M := mo_tk' M n) (H := H1) (v := v) h1 (show t ≤ 400 by omega) (by rw [w3.1, (hX.2.2 (t - 1) (by omega)).2.1]) hp (by rw [w3.1, (hX.2.2 t (by omega)).2.1, show gk K t = 51 from Fin.ext hg]; rfl) v2
  refine .inr ⟨rfl, upd (sh_me H1) t (nI v), a, (rd_step ht h400 e).trans (if_pos rfl), fun j hj => upd_ne _ _ (by omega), w1, Nat.le_refl _, by omega, EXT.refl F a, rfl, ?_⟩
  show upd (sh_me H1) t (nI v) t = _
  rw [upd_at, v3]
/-- a keyword of a sum or test with a name behind it: of which sort -/
abbrev nmk (g : Fin 54) (i : Nat) : Prop := i < 5 ∧ neu g ∧ g.val < 52 ∧ ¬ g.val = 39 ∧ s_Model_isSort (kOf g) = 0 ∧ s_Model_sortBehind (kOf g) = nI (srt i) ∧ ¬ kOf g = 4 ∧ ¬ kOf g = 7 ∧ ¬ kOf g = 15 ∧ ¬ kOf g = 16 ∧ ¬ kOf g = 17 ∧ ¬ kOf g = 18 ∧ ¬ kOf g = 19 ∧ ¬ kOf g = 21
theorem err_name {M : MO} {K : TK} {H : SH} {N : Nat → NM} {n i t : Nat} {g : Fin 54} (hn : n ≤ 400) (hW : LW M K (sh_fr H) (sh_mn H) n) (hN : NRel K H N n) (ht : t < n) (h1 : 1 ≤ t) (hp : sh_kd H (t - 1) = kOf g) (hk : nmk g i) (hk2 : sh_kd H t = 36) (hg : (gk K t).val = 50) : (∃ r, r < sh_ha H (srt i) ∧ s_Names_find (N i) (tk_wo K t) = nI r ∧ s_Model_errorOf M H t = some (0, sh_me' H (upd (sh_me H) t (nI r)))) ∨ (s_Names_find (N i) (tk_wo K t) = -1 ∧ ∃ H2, s_Model_errorOf M H t = some (3, H2) ∧ sh_fr H2 = sh_fr H) := by
  obtain ⟨k0, -, -, k39, k1, k2, k3, k4, k5, k6, k7, k8, k9, k10⟩ := hk
  have s11 := srt12 i k0
  obtain ⟨f1, f2⟩ := find_eq hn hW hN k0 ht hg
  have e : s_Model_errorOf M H t = (s_Model_errorOfName M H t).bind fun p => some (p.1, p.2) := by
    rw [err_in h1 (by omega) (by rw [hp]; exact fun w => k39 (congrArg Fin.val ((kOf_iff _ 39).mp w))), l_Model_errorOf_27, hk2, if_pos (by omega), if_pos (by decide), if_neg (by decide), if_neg (by decide), if_pos rfl, if_pos (by omega)]
  unfold s_Model_errorOfName at e
  rw [if_pos h1, if_pos (by omega), hp, if_pos k1, k2, if_pos (ok_nI (by omega) (by omega)), if_pos (by omega), nI_clamp (by omega), f1] at e
  rcases f2 with f2 | ⟨r, f2, f3⟩
  · refine .inr ⟨f2, sh_me' H (upd (sh_me H) t (-1)), ?_, rfl⟩
    rw [e, f2]
    show ((if t < 401 then (if (-1 : Int32) = -1 then _ else _) else none) : Option (Int32 × SH)).bind _ = _
    rw [if_pos (by omega), if_pos rfl]
    rfl
  · refine .inl ⟨r, f2, f3, ?_⟩
    rw [e, f3]
    show ((if t < 401 then (if nI r = -1 then _ else _) else none) : Option (Int32 × SH)).bind _ = _
    rw [if_pos (by omega), if_neg (fun w => nI_pos (n := r) (by have := (hN i k0).1; have := (hN i k0).2.1; omega) (by rw [w]; decide)), if_neg k3, if_neg k4, if_neg k5, if_neg k6, if_neg k7, if_neg k8, if_neg k9, if_neg k10]
    rfl
/-- the class's own reading of such a name -/
theorem old_A {K : TK} {H : SH} {n t : Nat} {N : NM} {E : TE} {g : Fin 54} (hX : LX K H n) (ht : t < n) (hg : gk K t = g) : s_Teacher_oldName (tA K t) E N g = if (gk K (t + 1)).val = 50 then (if 0 ≤ s_Names_find N (tk_wo K (t + 1)) then (s_Names_find N (tk_wo K (t + 1)), tA K (t + 2), E) else (s_Names_find N (tk_wo K (t + 1)), tA K (t + 2), s_Teacher_tellError (tA K (t + 1)) E 3)) else (-1, tB K (t + 1), E) := by
  have h52 : g.val < 52 := by rw [← hg]; exact (hX.2.2 t (by omega)).2.2.2.2.mp ht
  unfold s_Teacher_oldName
  rw [exp_A hX h52 (by omega), if_pos (show (gk K t).val = g.val by rw [hg])]
  show (if (gk K (t + 1)).val = 50 then (if 0 ≤ s_Names_find N (tk_wo K (t + 1)) then (s_Names_find N (tk_wo K (t + 1)), s_Tokens_advance (tA K (t + 1)), E) else (s_Names_find N (tk_wo K (t + 1)), s_Tokens_advance (tA K (t + 1)), s_Teacher_tellError (tA K (t + 1)) E 3)) else (-1, s_Tokens_breakOff (tA K (t + 1)), E)) = _
  by_cases e : (gk K (t + 1)).val = 50
  · have h2 : t + 1 < n := (hX.2.2 (t + 1) (by omega)).2.2.2.2.mpr (by omega)
    rw [if_pos e, if_pos e, hX.adv h2]
  · rw [if_neg e, if_neg e, brk_A]
theorem sem_name {K : TK} {H : SH} {n : Nat} {M : MO} {N : Nat → NM} {t i : Nat} {F : FM} {E : TE} (hX : LX K H n) (hW : LW (mo_tk' M n) K (sh_fr H) (sh_mn H) n) (ht : t + 1 < n) (h1 : 1 ≤ t) (h39 : ¬ (gk K (t - 1)).val = 39) (hk : nmk (gk K t) i) (hg : (gk K (t + 1)).val = 50) : SemT K H n M N t (t + 2) F E F (s_Teacher_oldName (tA K t) E (N i) (gk K t)).2.2 (fun H2 a b => b = a ∧ ∃ r, r < sh_ha H2 (srt i) ∧ (s_Teacher_oldName (tA K t) E (N i) (gk K t)).1 = nI r ∧ sh_me H2 (t + 1) = nI r) := by
  have h400 := hX.1
  rw [old_A hX (by omega) rfl, if_pos hg]
  refine ⟨fun hE => ?_, fun hE a H1 w1 w2 w3 w4 => ?_⟩
  · by_cases e : 0 ≤ s_Names_find (N i) (tk_wo K (t + 1))
    · rw [if_pos e]
    · rw [if_neg e]
      show s_Teacher_tellError _ E 3 = E
      unfold s_Teacher_tellError
      rw [if_neg hE]
  · have kd1 : ∀ j, j ≤ n → sh_kd H1 j = kOf (gk K j) := fun j hj => by rw [w3.1, (hX.2.2 j hj).2.1]
    have e0 := err_neu (M := mo_tk' M n) (H := H1) h1 (show t ≤ 400 by omega) (by rw [kd1 _ (by omega)]; exact fun w => h39 (congrArg Fin.val ((kOf_iff _ 39).mp w))) (kd1 t (by omega)) hk.2.1
    have s0 := (rd_step (show t < n by omega) h400 e0).trans (if_pos rfl)
    rcases err_name (M := mo_tk' M n) h400 (by rw [w3.2.1, w3.2.2]; exact hW) w4 ht (by omega) (by rw [Nat.add_sub_cancel]; exact kd1 t (by omega)) hk (by rw [kd1 _ (by omega), show gk K (t + 1) = 50 from Fin.ext hg]; rfl) hg with ⟨r, r1, r2, r3⟩ | ⟨r1, H2, r2, r4⟩
    · have h31 : r < 2 ^ 31 := by have := (w4 i hk.1).1; have := (w4 i hk.1).2.1; omega
      rw [r2, if_pos (nI_pos' h31)]
      refine .inr ⟨rfl, upd (sh_me H1) (t + 1) (nI r), a, s0.trans ((rd_step ht h400 r3).trans (if_pos rfl)), fun j hj => upd_ne _ _ (by omega), w1, Nat.le_refl _, by omega, EXT.refl F a, rfl, r, r1, rfl, upd_at _ _ _⟩
    · rw [r1, if_neg (by decide)]
      refine .inl ?_
      show ¬ te_er (s_Teacher_tellError (tA K (t + 1)) E 3) ≤ 0 ∧ _
      have e3 : s_Teacher_tellError (tA K (t + 1)) E 3 = (3, tk_st K (t + 1)) := by
        unfold s_Teacher_tellError
        rw [if_pos hE]
        rfl
      refine ⟨by rw [e3]; show ¬ (3 : Int32) ≤ 0; decide, H2, ?_⟩
      show _ = some (te_er (s_Teacher_tellError (tA K (t + 1)) E 3), mo_ea' (mo_tk' M n) (te_ep (s_Teacher_tellError (tA K (t + 1)) E 3)), H2)
      rw [e3]
      rw [s0, rd_step ht h400 r2, if_neg (by decide)]
      show some ((3 : Int32), mo_ea' (mo_tk' M n) (nI (sh_fr H2 (t + 1))), H2) = some (3, mo_ea' (mo_tk' M n) (tk_st K (t + 1)), H2)
      rw [(hX.2.2 (t + 1) (by omega)).2.2.1, r4, w3.2.1]
