/-! feed: the bytes -/
theorem b255 : ∀ i, i < 8 → (255#8).getLsbD i = true := by decide
theorem byte_24 (x : Int32) : (x >>> (nI 24)).toInt8 = ((x.toUInt32 >>> (24 : UInt32)).toInt32 &&& 255).toInt8 := by
  apply Int8.toBitVec_inj.mp
  apply BitVec.eq_of_getLsbD_eq
  intro i hi
  simp [Int32.toBitVec_shiftRight]
  rw [show ((nI 24).toBitVec.smod 32#32).toNat = 24 by decide, b255 i hi]
  simp [BitVec.getLsbD_signExtend, BitVec.getLsbD_sshiftRight, hi, show i < 32 by omega]
  simp [BitVec.getElem_signExtend, BitVec.getElem_sshiftRight, BitVec.getElem_ushiftRight, show i < 32 by omega, show 24 + i < 32 by omega]
theorem byte_16 (x : Int32) : (x >>> (nI 16)).toInt8 = ((x.toUInt32 >>> (16 : UInt32)).toInt32 &&& 255).toInt8 := by
  apply Int8.toBitVec_inj.mp
  apply BitVec.eq_of_getLsbD_eq
  intro i hi
  simp [Int32.toBitVec_shiftRight]
  rw [show ((nI 16).toBitVec.smod 32#32).toNat = 16 by decide, b255 i hi]
  simp [BitVec.getLsbD_signExtend, BitVec.getLsbD_sshiftRight, hi, show i < 32 by omega]
  simp [BitVec.getElem_signExtend, BitVec.getElem_sshiftRight, BitVec.getElem_ushiftRight, show i < 32 by omega, show 16 + i < 32 by omega]
theorem byte_8 (x : Int32) : (x >>> (nI 8)).toInt8 = ((x.toUInt32 >>> (8 : UInt32)).toInt32 &&& 255).toInt8 := by
  apply Int8.toBitVec_inj.mp
  apply BitVec.eq_of_getLsbD_eq
  intro i hi
  simp [Int32.toBitVec_shiftRight]
  rw [show ((nI 8).toBitVec.smod 32#32).toNat = 8 by decide, b255 i hi]
  simp [BitVec.getLsbD_signExtend, BitVec.getLsbD_sshiftRight, hi, show i < 32 by omega]
  simp [BitVec.getElem_signExtend, BitVec.getElem_sshiftRight, BitVec.getElem_ushiftRight, show i < 32 by omega, show 8 + i < 32 by omega]
theorem byte_0 (x : Int32) : (x >>> (nI 0)).toInt8 = ((x.toUInt32 >>> (0 : UInt32)).toInt32 &&& 255).toInt8 := by
  apply Int8.toBitVec_inj.mp
  apply BitVec.eq_of_getLsbD_eq
  intro i hi
  simp [Int32.toBitVec_shiftRight]
  rw [show ((nI 0).toBitVec.smod 32#32).toNat = 0 by decide, b255 i hi]
  simp [BitVec.getLsbD_signExtend, BitVec.getLsbD_sshiftRight, hi, show i < 32 by omega]
theorem and255 (y : Int32) : btw 0 (y &&& 255) 255 := by
  refine ⟨(y &&& 255).toBitVec.toNat, ?_, Nat.zero_le _, ?_⟩
  · apply Int32.toBitVec_inj.mp
    show _ = BitVec.ofNat 32 _
    rw [BitVec.ofNat_toNat]
    simp
  · rw [Int32.toBitVec_and, BitVec.toNat_and]
    exact Nat.and_le_right
def mbt (x : Int32) (q : Nat) : Int32 := ((x.toUInt32 >>> (UInt32.ofNat (24 - 8 * q))).toInt32) &&& 255
def cbt (x : Int32) (q : Nat) : Int32 := (x >>> (nI (24 - 8 * q))).toInt8.toInt32.toInt8.toInt32
theorem cb_mb (x : Int32) {q : Nat} (hq : q < 4) : cbt x q = (mbt x q).toInt8.toInt32 := by
  unfold cbt mbt
  rw [Int8.toInt8_toInt32]
  match q, hq with
  | 0, _ => exact congrArg Int8.toInt32 (byte_24 x)
  | 1, _ => exact congrArg Int8.toInt32 (byte_16 x)
  | 2, _ => exact congrArg Int8.toInt32 (byte_8 x)
  | 3, _ => exact congrArg Int8.toInt32 (byte_0 x)
  | _ + 4, w => exact absurd w (by omega)
theorem app_t {A : TA} {x : Int32} (h : ta_sz A + 4 ≤ 2000) : ∃ f, s_Tape_append A x = (f, ta_sz A + 4) ∧ (∀ q, q < 4 → f (ta_sz A + q) = cbt x q) ∧ ∀ j, j < ta_sz A → f j = ta_by A j := by
  have n0 : ∀ k, k < 2000 → ¬ nI 2000 ≤ nI k := fun k hk w => absurd ((nI_leI (by omega) (by omega)).mp w) (by omega)
  unfold s_Tape_append
  rw [if_neg (n0 _ (by omega)), if_neg (n0 _ (by omega)), if_neg (n0 _ (by omega)), if_neg (n0 _ (by omega))]
  refine ⟨_, rfl, fun q hq => ?_, fun j hj => ?_⟩
  · match q, hq with
    | 0, _ => exact (upd_ne _ _ (by omega)).trans ((upd_ne _ _ (by omega)).trans ((upd_ne _ _ (by omega)).trans (upd_at _ _ _)))
    | 1, _ => exact (upd_ne _ _ (by omega)).trans ((upd_ne _ _ (by omega)).trans (upd_at _ _ _))
    | 2, _ => exact (upd_ne _ _ (by omega)).trans (upd_at _ _ _)
    | 3, _ => exact upd_at _ _ _
    | _ + 4, w => exact absurd w (by omega)
  · exact (upd_ne _ _ (by omega)).trans ((upd_ne _ _ (by omega)).trans ((upd_ne _ _ (by omega)).trans (upd_ne _ _ (by omega))))
theorem sh20 : ∀ i, i < 20 → ((24 - (((nI i) - (nI i) / 4 * 4) * 8)).toUInt32 &&& Int32.toUInt32 31) = UInt32.ofNat (24 - 8 * (i % 4)) := by decide +kernel
theorem feed_loop {H : SH} {Y : SX} {g : Nat → Int32} : ∀ k i (M : MO), i + k ≤ 20 → ∃ f, l_Model_feed_54 H Y g k i M = mo_ta' M f ∧ (∀ j, i ≤ j → j < i + k → f (mo_sz M + j) = mbt (g (j / 4)) (j % 4)) ∧ ∀ j, j < mo_sz M + i → f j = mo_ta M j := by
  intro k
  induction k with
  | zero => intro i M _; exact ⟨mo_ta M, rfl, fun j a b => absurd b (by omega), fun _ _ => rfl⟩
  | succ k ih =>
    intro i M hi
    rw [l_Model_feed_54, sh20 i (by omega)]
    obtain ⟨f, h1, h2, h3⟩ := ih (i + 1) (mo_ta' M (upd (mo_ta M) (mo_sz M + i) (mbt (g (i / 4)) (i % 4)))) (by omega)
    refine ⟨f, h1, fun j a b => ?_, fun j a => ?_⟩
    · by_cases e : j = i
      · rw [e]
        exact (h3 (mo_sz M + i) (by show mo_sz M + i < mo_sz M + (i + 1); omega)).trans (upd_at _ _ _)
      · exact h2 j (by omega) (by omega)
    · exact (h3 j (by show j < mo_sz M + (i + 1); omega)).trans (upd_ne _ _ (by omega))
theorem q_feed {A : TA} {K : TK} {σ τ : GL} {T : TM} {F : FM} {U : TM} {G : FM} {P : CP} {M : MO} {H : SH} {Y : SX} {x1 x2 x3 x4 x5 : Int32} (hT : RT A P M) : mo_th (s_Model_feed M H Y x1 x2 x3 x4 x5).2 = (if (s_Camp_feed A K σ τ T F U G P x1 x2 x3 x4 x5).1 = 0 then 0 else 1) ∧ ((s_Camp_feed A K σ τ T F U G P x1 x2 x3 x4 x5).1 = 0 → (nI (s_Camp_feed A K σ τ T F U G P x1 x2 x3 x4 x5).2.1) = (s_Model_feed M H Y x1 x2 x3 x4 x5).1) ∧ RT (s_Camp_feed A K σ τ T F U G P x1 x2 x3 x4 x5).2.2 P (s_Model_feed M H Y x1 x2 x3 x4 x5).2 := by
  obtain ⟨t1, t2, t3, t4⟩ := hT
  unfold s_Camp_feed s_Model_feed s_Model_no
  have e1 : nI (ta_sz A) ≤ 1980 ↔ ta_sz A ≤ 1980 := nI_leI (b := 1980) (by omega) (by decide)
  have e2 : nI (mo_sz M + 20) ≤ 2000 ↔ mo_sz M + 20 ≤ 2000 := nI_leI (b := 2000) (by omega) (by decide)
  by_cases h : mo_sz M + 20 ≤ 2000
  · rw [if_pos (e1.mpr (by omega)), if_pos (e2.mpr h)]
    obtain ⟨f1, a1, b1, c1⟩ := app_t (A := A) (x := x1) (by omega)
    rw [a1]
    obtain ⟨f2, a2, b2, c2⟩ := app_t (A := (f1, ta_sz A + 4)) (x := x2) (by show ta_sz A + 4 + 4 ≤ 2000; omega)
    rw [a2]
    obtain ⟨f3, a3, b3, c3⟩ := app_t (A := (f2, ta_sz (f1, ta_sz A + 4) + 4)) (x := x3) (by show ta_sz A + 4 + 4 + 4 ≤ 2000; omega)
    rw [a3]
    obtain ⟨f4, a4, b4, c4⟩ := app_t (A := (f3, ta_sz (f2, ta_sz (f1, ta_sz A + 4) + 4) + 4)) (x := x4) (by show ta_sz A + 4 + 4 + 4 + 4 ≤ 2000; omega)
    rw [a4]
    obtain ⟨f5, a5, b5, c5⟩ := app_t (A := (f4, ta_sz (f3, ta_sz (f2, ta_sz (f1, ta_sz A + 4) + 4) + 4) + 4)) (x := x5) (by show ta_sz A + 4 + 4 + 4 + 4 + 4 ≤ 2000; omega)
    rw [a5]
    replace b2 : ∀ q, q < 4 → f2 (ta_sz A + 4 + q) = cbt x2 q := b2
    replace c2 : ∀ j, j < ta_sz A + 4 → f2 j = f1 j := c2
    replace b3 : ∀ q, q < 4 → f3 (ta_sz A + 4 + 4 + q) = cbt x3 q := b3
    replace c3 : ∀ j, j < ta_sz A + 4 + 4 → f3 j = f2 j := c3
    replace b4 : ∀ q, q < 4 → f4 (ta_sz A + 4 + 4 + 4 + q) = cbt x4 q := b4
    replace c4 : ∀ j, j < ta_sz A + 4 + 4 + 4 → f4 j = f3 j := c4
    replace b5 : ∀ q, q < 4 → f5 (ta_sz A + 4 + 4 + 4 + 4 + q) = cbt x5 q := b5
    replace c5 : ∀ j, j < ta_sz A + 4 + 4 + 4 + 4 → f5 j = f4 j := c5
    obtain ⟨f, h1, h2, h3⟩ := feed_loop (H := H) (Y := Y) (g := fv5 x1 x2 x3 x4 x5) 20 0 (mo_th' M 0) (by omega)
    unfold s_Model_feedRest
    rw [h1]
    have lo : ∀ j, j < ta_sz A → f5 j = ta_by A j := fun j hj => (c5 j (by omega)).trans ((c4 j (by omega)).trans ((c3 j (by omega)).trans ((c2 j (by omega)).trans (c1 j hj))))
    have hi : ∀ i, i < 20 → f5 (ta_sz A + i) = cbt (fv5 x1 x2 x3 x4 x5 (i / 4)) (i % 4) := by
      intro i hi
      by_cases i4 : i < 4
      · rw [show i / 4 = 0 by omega, show i % 4 = i by omega]
        exact (c5 _ (by omega)).trans ((c4 _ (by omega)).trans ((c3 _ (by omega)).trans ((c2 _ (by omega)).trans (b1 i i4))))
      by_cases i8 : i < 8
      · have q := b2 (i - 4) (by omega)
        rw [show ta_sz A + 4 + (i - 4) = ta_sz A + i by omega] at q
        rw [show i / 4 = 1 by omega, show i % 4 = i - 4 by omega]
        exact (c5 _ (by omega)).trans ((c4 _ (by omega)).trans ((c3 _ (by omega)).trans q))
      by_cases i12 : i < 12
      · have q := b3 (i - 8) (by omega)
        rw [show ta_sz A + 4 + 4 + (i - 8) = ta_sz A + i by omega] at q
        rw [show i / 4 = 2 by omega, show i % 4 = i - 8 by omega]
        exact (c5 _ (by omega)).trans ((c4 _ (by omega)).trans q)
      by_cases i16 : i < 16
      · have q := b4 (i - 12) (by omega)
        rw [show ta_sz A + 4 + 4 + 4 + (i - 12) = ta_sz A + i by omega] at q
        rw [show i / 4 = 3 by omega, show i % 4 = i - 12 by omega]
        exact (c5 _ (by omega)).trans q
      · have q := b5 (i - 16) (by omega)
        rw [show ta_sz A + 4 + 4 + 4 + 4 + (i - 16) = ta_sz A + i by omega] at q
        rw [show i / 4 = 4 by omega, show i % 4 = i - 16 by omega]
        exact q
    refine ⟨rfl, fun _ => ?_, ?_, ?_, t3, fun i hi2 => ?_⟩
    · show nI (ta_sz A + 4 + 4 + 4 + 4 + 4) = nI (mo_sz M + 20)
      rw [t1]
    · show ta_sz A + 4 + 4 + 4 + 4 + 4 = mo_sz M + 20
      rw [t1]
    · exact h
    · show btw 0 (f i) 255 ∧ f5 i = (f i).toInt8.toInt32
      have hi3 : i < mo_sz M + 20 := hi2
      by_cases e : i < mo_sz M
      · rw [show f i = mo_ta M i from h3 i (by show i < mo_sz M + 0; omega), lo i (by omega)]
        exact t4 i e
      · have q := h2 (i - mo_sz M) (by omega) (by omega)
        rw [show mo_sz (mo_th' M 0) + (i - mo_sz M) = i by show mo_sz M + (i - mo_sz M) = i; omega] at q
        have r := hi (i - mo_sz M) (by omega)
        rw [show ta_sz A + (i - mo_sz M) = i by omega] at r
        rw [q, r]
        exact ⟨and255 _, cb_mb _ (by omega)⟩
  · rw [if_neg (c := nI (ta_sz A) ≤ 1980) (fun w => h (by have := e1.mp w; omega)), if_neg (c := nI (mo_sz M + 20) ≤ 2000) (fun w => h (e2.mp w))]
    exact ⟨rfl, fun w => absurd w (show ¬ (3 : Int32) = 0 by decide), t1, t2, t3, t4⟩
