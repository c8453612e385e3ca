/-! a text, fed in words of four bytes -/
def cbt (x : Int32) (q : Nat) : Int32 := (x >>> (nI (24 - 8 * q))).toInt8.toInt32.toInt8.toInt32
theorem wst_n {a b : Nat} (hb : b < 256) : (nI a <<< (8 &&& 31)) ||| nI b = nI (a * 256 + b) := by
  apply Int32.toBitVec_inj.mp
  rw [Int32.toBitVec_or, show ((8 : Int32) &&& 31) = 8 from by decide, Int32.toBitVec_shiftLeft]
  apply BitVec.eq_of_toNat_eq
  rw [BitVec.toNat_or]
  rw [show ((8 : Int32).toBitVec.smod 32) = 8#32 from by decide]
  show ((BitVec.ofNat 32 a) <<< (8#32)).toNat ||| (BitVec.ofNat 32 b).toNat = (BitVec.ofNat 32 (a * 256 + b)).toNat
  rw [BitVec.shiftLeft_eq', BitVec.toNat_shiftLeft, BitVec.toNat_ofNat, BitVec.toNat_ofNat, BitVec.toNat_ofNat, BitVec.toNat_ofNat, show 8 % 2 ^ 32 = 8 from rfl, Nat.shiftLeft_eq]
  rw [show a % 2 ^ 32 * 2 ^ 8 % 2 ^ 32 = (a % 2 ^ 24) * 2 ^ 8 by omega, show b % 2 ^ 32 = b by omega, ← Nat.shiftLeft_eq, ← Nat.shiftLeft_add_eq_or_of_lt (show b < 2 ^ 8 by omega), Nat.shiftLeft_eq]
  omega
theorem byt_n {m q : Nat} (hq : q < 4) : (nI m >>> (nI (24 - 8 * q))).toInt8 = Int8.ofNat (m / 2 ^ (24 - 8 * q)) := by
  apply Int8.toBitVec_inj.mp
  apply BitVec.eq_of_getLsbD_eq
  intro i hi
  have key : ∀ s, s ≤ 24 → ((nI s).toBitVec.smod 32#32).toNat = s → ((nI m >>> (nI s)).toInt8).toBitVec.getLsbD i = (Int8.ofNat (m / 2 ^ s)).toBitVec.getLsbD i := by
    intro s hs e
    simp [Int32.toBitVec_shiftRight]
    rw [e, show (nI m).toBitVec = BitVec.ofNat 32 m from rfl]
    simp [BitVec.getLsbD_signExtend, BitVec.getLsbD_sshiftRight, hi, show i < 32 by omega]
    rw [BitVec.getElem_signExtend]
    simp [BitVec.getElem_sshiftRight, show i < 32 by omega, show s + i < 32 by omega]
    rw [← BitVec.getLsbD_eq_getElem, ← BitVec.getLsbD_eq_getElem, BitVec.getLsbD_ofNat, BitVec.getLsbD_ofNat, Nat.testBit_div_two_pow, Nat.add_comm s i, decide_eq_true (show i + s < 32 by omega), decide_eq_true hi]
  match q, hq with
  | 0, _ => exact key 24 (by decide) (by decide)
  | 1, _ => exact key 16 (by decide) (by decide)
  | 2, _ => exact key 8 (by decide) (by decide)
  | 3, _ => exact key 0 (by decide) (by decide)
  | _ + 4, w => exact absurd w (by omega)
theorem i8m (n : Nat) : Int8.ofNat n = Int8.ofNat (n % 256) := by
  apply Int8.toBitVec_inj.mp
  apply BitVec.eq_of_toNat_eq
  show (BitVec.ofNat 8 n).toNat = (BitVec.ofNat 8 (n % 256)).toNat
  rw [BitVec.toNat_ofNat, BitVec.toNat_ofNat]
  omega
theorem by8 : ∀ b, b < 256 → (((((Int8.ofNat b).toInt32 &&& 255).toUInt32 % 65536).toInt32)) = nI b := by decide +kernel
theorem by7 : ∀ b, b < 256 → (Int8.ofNat b).toInt32.toInt8.toInt32 = Int32.ofInt (if b < 128 then (b : Int) else (b : Int) - 256) := by decide +kernel
theorem by6 : ∀ b, b < 256 → (Int8.ofNat b).toInt32.toBitVec.toNat % 256 = b := by decide +kernel
theorem byE {x : Int32} (h1 : -128 ≤ x) (h2 : x ≤ 127) : ∃ b, b < 256 ∧ x = (Int8.ofNat b).toInt32 := by
  rw [Int32.le_iff_toInt_le] at h1 h2
  have h1 : -128 ≤ x.toInt := h1
  have h2 : x.toInt ≤ 127 := h2
  refine ⟨(x.toInt % 256).toNat, by omega, ?_⟩
  have h := by7 (x.toInt % 256).toNat (by omega)
  rw [Int8.toInt8_toInt32] at h
  rw [h]
  have e : (if (x.toInt % 256).toNat < 128 then (((x.toInt % 256).toNat : Nat) : Int) else (((x.toInt % 256).toNat : Nat) : Int) - 256) = x.toInt := by
    split <;> omega
  rw [e, Int32.ofInt_toInt]
/-- the byte of a text, and the spaces behind it -/
def tg8 (l : List Int32) (j : Nat) : Nat := if j < l.length then (l.getD j 0).toBitVec.toNat % 256 else 32
theorem tg_in {l : List Int32} (hl : LB l) {j : Nat} (hj : j < l.length) : chr l j = nI (tg8 l j) ∧ tg8 l j < 256 ∧ (Int8.ofNat (tg8 l j)).toInt32 = l.getD j 0 := by
  have h := hl j
  have h : (decide (-128 ≤ l.getD j 0) && decide (l.getD j 0 ≤ 127)) = true := h
  rw [Bool.and_eq_true, decide_eq_true_eq, decide_eq_true_eq] at h
  obtain ⟨b, hb, e⟩ := byE h.1 h.2
  have e1 : tg8 l j = b := by
    rw [tg8, if_pos hj, e]
    exact by6 b hb
  rw [e1]
  refine ⟨?_, hb, e.symm⟩
  rw [chr, e]
  exact by8 b hb
theorem tg_out {l : List Int32} {j : Nat} (hj : ¬ j < l.length) : tg8 l j = 32 := if_neg hj
theorem tg_lt {l : List Int32} (hl : LB l) (j : Nat) : tg8 l j < 256 := by
  by_cases h : j < l.length
  · exact (tg_in hl h).2.1
  · rw [tg_out h]
    decide
/-- the words, as they come to be -/
def wf9 (g : Nat → Nat) : Nat → Nat → Int32
  | 0 => fun _ => 0
  | i + 1 => upd (wf9 g i) (i / 4) ((wf9 g i (i / 4) <<< (8 &&& 31)) ||| nI (g i))
theorem wf_4 (g : Nat → Nat) (hg : ∀ i, g i < 256) (q : Nat) (hq : q < 5) : wf9 g 20 q = nI (((g (4 * q) * 256 + g (4 * q + 1)) * 256 + g (4 * q + 2)) * 256 + g (4 * q + 3)) := by
  have key : ∀ a b c d, a < 256 → b < 256 → c < 256 → d < 256 → ((((((((0 : Int32) <<< (8 &&& 31)) ||| nI a) <<< (8 &&& 31)) ||| nI b) <<< (8 &&& 31)) ||| nI c) <<< (8 &&& 31)) ||| nI d = nI (((a * 256 + b) * 256 + c) * 256 + d) := by
    intro a b c d ha hb hc hd
    rw [show (0 : Int32) = nI 0 from rfl, wst_n ha, wst_n hb, wst_n hc, wst_n hd, Nat.zero_mul, Nat.zero_add]
  match q, hq with
  | 0, _ => exact key _ _ _ _ (hg 0) (hg 1) (hg 2) (hg 3)
  | 1, _ => exact key _ _ _ _ (hg 4) (hg 5) (hg 6) (hg 7)
  | 2, _ => exact key _ _ _ _ (hg 8) (hg 9) (hg 10) (hg 11)
  | 3, _ => exact key _ _ _ _ (hg 12) (hg 13) (hg 14) (hg 15)
  | 4, _ => exact key _ _ _ _ (hg 16) (hg 17) (hg 18) (hg 19)
  | _ + 5, w => exact absurd w (by omega)
theorem wf_b (g : Nat → Nat) (hg : ∀ i, g i < 256) (i : Nat) (hi : i < 20) : cbt (wf9 g 20 (i / 4)) (i % 4) = (Int8.ofNat (g i)).toInt32 := by
  rw [wf_4 g hg (i / 4) (by omega)]
  unfold cbt
  rw [byt_n (show i % 4 < 4 by omega), i8m, Int8.toInt8_toInt32]
  have h0 := hg (4 * (i / 4))
  have h1 := hg (4 * (i / 4) + 1)
  have h2 := hg (4 * (i / 4) + 2)
  have h3 := hg (4 * (i / 4) + 3)
  have ei : i = 4 * (i / 4) + i % 4 := by omega
  generalize i / 4 = r at *
  have hm : i % 4 < 4 := by omega
  generalize i % 4 = m at *
  subst ei
  match m, hm with
  | 0, _ =>
    rw [show (((g (4 * r) * 256 + g (4 * r + 1)) * 256 + g (4 * r + 2)) * 256 + g (4 * r + 3)) / 2 ^ (24 - 8 * 0) % 256 = g (4 * r + 0) from by show _ / 16777216 % 256 = g (4 * r); omega]
  | 1, _ =>
    rw [show (((g (4 * r) * 256 + g (4 * r + 1)) * 256 + g (4 * r + 2)) * 256 + g (4 * r + 3)) / 2 ^ (24 - 8 * 1) % 256 = g (4 * r + 1) from by show _ / 65536 % 256 = g (4 * r + 1); omega]
  | 2, _ =>
    rw [show (((g (4 * r) * 256 + g (4 * r + 1)) * 256 + g (4 * r + 2)) * 256 + g (4 * r + 3)) / 2 ^ (24 - 8 * 2) % 256 = g (4 * r + 2) from by show _ / 256 % 256 = g (4 * r + 2); omega]
  | 3, _ =>
    rw [show (((g (4 * r) * 256 + g (4 * r + 1)) * 256 + g (4 * r + 2)) * 256 + g (4 * r + 3)) / 2 ^ (24 - 8 * 3) % 256 = g (4 * r + 3) from by show _ / 1 % 256 = g (4 * r + 3); omega]
  | _ + 4, w => exact absurd w (by omega)
theorem app_t {A : TA} {x : Int32} (h : ta_sz A + 4 ≤ 2000) : ∃ f, s_Tape_append A x = (f, ta_sz A + 4) ∧ (∀ q, q < 4 → f (ta_sz A + q) = cbt x q) ∧ ∀ j, j < ta_sz A → f j = ta_by A j := by
  have n0 : ∀ k, k < 2000 → ¬ nI 2000 ≤ nI k := fun k hk w => absurd ((nI_leI (by omega) (by omega)).mp w) (by omega)
  unfold s_Tape_append
  rw [if_neg (n0 _ (by omega)), if_neg (n0 _ (by omega)), if_neg (n0 _ (by omega)), if_neg (n0 _ (by omega))]
  refine ⟨_, rfl, fun q hq => ?_, fun j hj => ?_⟩
  · match q, hq with
    | 0, _ => exact (upd_ne _ _ (by omega)).trans ((upd_ne _ _ (by omega)).trans ((upd_ne _ _ (by omega)).trans (upd_at _ _ _)))
    | 1, _ => exact (upd_ne _ _ (by omega)).trans ((upd_ne _ _ (by omega)).trans (upd_at _ _ _))
    | 2, _ => exact (upd_ne _ _ (by omega)).trans (upd_at _ _ _)
    | 3, _ => exact upd_at _ _ _
    | _ + 4, w => exact absurd w (by omega)
  · exact (upd_ne _ _ (by omega)).trans ((upd_ne _ _ (by omega)).trans ((upd_ne _ _ (by omega)).trans (upd_ne _ _ (by omega))))
/-- what is fed stands on the tape -/
theorem feed_t {A : TA} {K : TK} {σ τ : GL} {T : TM} {F : FM} {U : TM} {G : FM} {P : CP} {x : Nat → Int32} (h : ta_sz A + 20 ≤ 2000) : ∃ f : Nat → Int32, s_Camp_feed A K σ τ T F U G P (x 0) (x 1) (x 2) (x 3) (x 4) = (0, ta_sz A + 20, (f, ta_sz A + 20)) ∧ (∀ i, i < 20 → f (ta_sz A + i) = cbt (x (i / 4)) (i % 4)) ∧ ∀ j, j < ta_sz A → f j = ta_by A j := by
  unfold s_Camp_feed
  have h0 : nI (ta_sz A) ≤ 1980 := (nI_leI (b := 1980) (by omega) (by decide)).mpr (by omega)
  rw [if_pos h0]
  obtain ⟨f1, a1, b1, c1⟩ := app_t (A := A) (x := x 0) (by omega)
  rw [a1]
  obtain ⟨f2, a2, b2, c2⟩ := app_t (A := (f1, ta_sz A + 4)) (x := x 1) (by show ta_sz A + 4 + 4 ≤ 2000; omega)
  rw [a2]
  obtain ⟨f3, a3, b3, c3⟩ := app_t (A := (f2, ta_sz (f1, ta_sz A + 4) + 4)) (x := x 2) (by show ta_sz A + 4 + 4 + 4 ≤ 2000; omega)
  rw [a3]
  obtain ⟨f4, a4, b4, c4⟩ := app_t (A := (f3, ta_sz (f2, ta_sz (f1, ta_sz A + 4) + 4) + 4)) (x := x 3) (by show ta_sz A + 4 + 4 + 4 + 4 ≤ 2000; omega)
  rw [a4]
  obtain ⟨f5, a5, b5, c5⟩ := app_t (A := (f4, ta_sz (f3, ta_sz (f2, ta_sz (f1, ta_sz A + 4) + 4) + 4) + 4)) (x := x 4) (by show ta_sz A + 4 + 4 + 4 + 4 + 4 ≤ 2000; omega)
  rw [a5]
  replace b2 : ∀ q, q < 4 → f2 (ta_sz A + 4 + q) = cbt (x 1) q := b2
  replace c2 : ∀ j, j < ta_sz A + 4 → f2 j = f1 j := c2
  replace b3 : ∀ q, q < 4 → f3 (ta_sz A + 4 + 4 + q) = cbt (x 2) q := b3
  replace c3 : ∀ j, j < ta_sz A + 4 + 4 → f3 j = f2 j := c3
  replace b4 : ∀ q, q < 4 → f4 (ta_sz A + 4 + 4 + 4 + q) = cbt (x 3) q := b4
  replace c4 : ∀ j, j < ta_sz A + 4 + 4 + 4 → f4 j = f3 j := c4
  replace b5 : ∀ q, q < 4 → f5 (ta_sz A + 4 + 4 + 4 + 4 + q) = cbt (x 4) q := b5
  replace c5 : ∀ j, j < ta_sz A + 4 + 4 + 4 + 4 → f5 j = f4 j := c5
  refine ⟨f5, rfl, fun i hi => ?_, fun j hj => (c5 j (by omega)).trans ((c4 j (by omega)).trans ((c3 j (by omega)).trans ((c2 j (by omega)).trans (c1 j hj))))⟩
  by_cases i4 : i < 4
  · rw [show i / 4 = 0 by omega, show i % 4 = i by omega]
    exact (c5 _ (by omega)).trans ((c4 _ (by omega)).trans ((c3 _ (by omega)).trans ((c2 _ (by omega)).trans (b1 i i4))))
  by_cases i8 : i < 8
  · have q := b2 (i - 4) (by omega)
    rw [show ta_sz A + 4 + (i - 4) = ta_sz A + i by omega] at q
    rw [show i / 4 = 1 by omega, show i % 4 = i - 4 by omega]
    exact (c5 _ (by omega)).trans ((c4 _ (by omega)).trans ((c3 _ (by omega)).trans q))
  by_cases i12 : i < 12
  · have q := b3 (i - 8) (by omega)
    rw [show ta_sz A + 4 + 4 + (i - 8) = ta_sz A + i by omega] at q
    rw [show i / 4 = 2 by omega, show i % 4 = i - 8 by omega]
    exact (c5 _ (by omega)).trans ((c4 _ (by omega)).trans q)
  by_cases i16 : i < 16
  · have q := b4 (i - 12) (by omega)
    rw [show ta_sz A + 4 + 4 + 4 + (i - 12) = ta_sz A + i by omega] at q
    rw [show i / 4 = 3 by omega, show i % 4 = i - 12 by omega]
    exact (c5 _ (by omega)).trans q
  · have q := b5 (i - 16) (by omega)
    rw [show ta_sz A + 4 + 4 + 4 + 4 + (i - 16) = ta_sz A + i by omega] at q
    rw [show i / 4 = 4 by omega, show i % 4 = i - 16 by omega]
    exact q
theorem dTx_len {D : DL} (hD : DOk D) : (dTx D).length ≤ 1200 := by
  obtain ⟨h0, h1, h2, h3, h4, h5, h6, k0, -, k1, k2, k3, k4, k5, k6⟩ := hD
  have q0 := tAll_len (K := 10) (c := 29) (f := tBand) (fun k a => len_tBand) rfl (by omega) k0
  have q1 := tAll_len (K := 10) (c := 24) (f := tStake) (fun k a => len_tStake h0.2) rfl (by omega) k1
  have q2 := tAll_len (K := 10) (c := 31) (f := tCrev) (fun k a => len_tCrev h0.2) rfl (by omega) k2
  have q3 := tAll_len (K := 10) (c := 23) (f := tDepot) (fun k a => len_tDepot h0.2) rfl (by omega) k3
  have q4 := tAll_len (K := 10) (c := 29) (f := tTeam) (fun k a => len_tTeam h0.2) rfl (by omega) k4
  have q5 := tAll_len (K := 10) (c := 14) (f := tDay) (fun k a => len_tDay) rfl (by omega) k5
  have q6 := tAll_len (K := 10) (c := 71) (f := tOrd) (fun k a => len_tOrd ⟨h0.2, h1.2, h2.2, by omega, by omega⟩) rfl (by omega) k6
  unfold dTx
  rw [List.length_append, List.length_append, List.length_append, List.length_append, List.length_append, List.length_append]
  omega
