/-! the pure part: counts, the tape cut, warmth, stock -/
theorem warm_of {σ : GL} {H : SH} {Y : SX} (hG : RG σ H Y) {j : Nat} (hj : j < 8) : s_Glacier_warmthOf σ (nI j) = sx_wa Y j := by
  unfold s_Glacier_warmthOf
  rw [if_neg (nI_pos (by omega)), if_neg (nI_ge hj (by decide)), nI_clamp (by omega)]
  exact hG.rest.1 j hj
theorem warm_today {σ : GL} {H : SH} {Y : SX} (hG : RG σ H Y) (hd : sx_dy Y < 1000000) : s_Glacier_warmthToday σ = s_State_warmth Y := by
  unfold s_Glacier_warmthToday s_State_warmth
  rw [hG.rest.2.1, nI_rem (by omega)]
  exact warm_of hG (Nat.mod_lt _ (by decide))
theorem here_out {σ : GL} {H : SH} {Y : SX} (hG : RG σ H Y) (hR : RR H Y) : ∀ n, n ≤ sh_ha H 11 → nI n - sumR (sx_he Y) n = sumR (fun i => 1 - sx_he Y i) n := by
  intro n
  induction n with
  | zero => intro _; show nI 0 - 0 = 0; decide
  | succ n ih =>
    intro h
    have := ih (by omega)
    show nI (n + 1) - (sumR (sx_he Y) n + sx_he Y n) = sumR (fun i => 1 - sx_he Y i) n + (1 - sx_he Y n)
    rw [← this, ← nI_1]
    generalize nI n = a; generalize sumR (sx_he Y) n = b; generalize sx_he Y n = c
    apply Int32.toBitVec_inj.mp
    show (a.toBitVec + 1#32) - (b.toBitVec + c.toBitVec) = (a.toBitVec - b.toBitVec) + (1#32 - c.toBitVec)
    generalize a.toBitVec = a; generalize b.toBitVec = b; generalize c.toBitVec = c
    bv_omega
theorem loop_sum {f : Nat → Int32} {g : Nat → Nat → Int32 → Int32} {n : Nat} (h0 : ∀ i s, g 0 i s = s) (hs : ∀ k i s, g (k + 1) i s = g k (i + 1) (s + f i)) : g n 0 0 = sumR f n := by
  have := sum_eq (f := f) (g := g) h0 hs n 0
  rw [Nat.zero_add] at this
  exact this
theorem sumR_congr {f g : Nat → Int32} : ∀ n, (∀ i, i < n → f i = g i) → sumR f n = sumR g n := by
  intro n
  induction n with
  | zero => intro _; rfl
  | succ n ih =>
    intro h
    show sumR f n + f n = sumR g n + g n
    rw [ih (fun i hi => h i (by omega)), h n (by omega)]
theorem q_count {A : TA} {K : TK} {σ τ : GL} {T : TM} {F : FM} {U : TM} {G : FM} {P : CP} {M : MO} {H : SH} {Y : SX} {x1 : Int32} (hG : RG σ H Y) (hC : RC H) (hR : RR H Y) (hT : RT A P M) (ho : T.2 = sh_or H) (hd : sx_dy Y < 1000000) : mo_th (s_Model_count M H Y x1).2 = (if (s_Camp_count A K σ τ T F U G P x1).1 = 0 then 0 else 1) ∧ ((s_Camp_count A K σ τ T F U G P x1).1 = 0 → (s_Camp_count A K σ τ T F U G P x1).2 = (s_Model_count M H Y x1).1) ∧ RT A P (s_Model_count M H Y x1).2 := by
  unfold s_Camp_count s_Model_count s_Model_no
  by_cases h2 : 0 ≤ x1 ∧ x1 ≤ 14
  · rw [what15, isIn_iff, if_pos h2, if_pos h2]
    simp only [if00, if10, if_true]
    refine ⟨by trivial, fun _ => ?_, hT⟩
    obtain ⟨c, hc, rfl⟩ := col_of (n := 14) (by decide) h2
    unfold s_Camp_counted s_Model_counted
    match c, hc with
    | 0, _ => exact hG.rest.2.1
    | 1, _ => show nI (gN σ 0) = nI (sh_ha H 0); rw [hG.n0]
    | 2, _ => show nI (gN σ 1) = nI (sh_ha H 3); rw [hG.n1]
    | 3, _ => show nI (gN σ 2) = nI (sh_ha H 6); rw [hG.n2]
    | 4, _ => show nI (gN σ 3) = nI (sh_ha H 9); rw [hG.n3]
    | 5, _ => show nI (gN σ 4) = nI (sh_ha H 11); rw [hG.n4]
    | 6, _ => show nI T.2 = nI (sh_or H); rw [ho]
    | 7, _ =>
      show gSum σ 3 1 = l_Model_counted_141 _ H Y _ (sh_ha H 9) 0 0
      rw [gSum_s hG.n3 (f := sx_fo Y) (fun r hr => (hG.depots hr).2)]
      exact (loop_sum (g := l_Model_counted_141 (mo_th' M 0) H Y (nI 7)) (fun _ _ => rfl) (fun _ _ _ => rfl)).symm
    | 8, _ =>
      show gSum σ 0 2 = l_Model_counted_177 _ H Y _ (sh_ha H 0) 0 0
      rw [gSum_s hG.n0 (f := sx_ic Y) (fun r hr => (hG.bands hr).2.2)]
      exact (loop_sum (g := l_Model_counted_177 (mo_th' M 0) H Y (nI 8)) (fun _ _ => rfl) (fun _ _ _ => rfl)).symm
    | 9, _ => exact (gSum_s hG.n4 (f := sx_ma Y) (fun r hr => (hG.teams hr).2.2.2.2.2.1)).trans hG.rest.2.2.2.1.symm
    | 10, _ => exact (gSum_s hG.n4 (f := sx_fn Y) (fun r hr => (hG.teams hr).2.2.2.2.2.2.1)).trans hG.rest.2.2.2.2.symm
    | 11, _ => exact hG.rest.2.2.1
    | 12, _ =>
      show nI (gN σ 4) - gSum σ 4 4 = l_Model_counted_227 _ H Y _ (sh_ha H 11) 0 0
      rw [gSum_s hG.n4 (f := sx_he Y) (fun r hr => (hG.teams hr).2.2.2.2.1), hG.n4, here_out hG hR _ (Nat.le_refl _)]
      exact (loop_sum (g := l_Model_counted_227 (mo_th' M 0) H Y (nI 12)) (fun _ _ => rfl) (fun _ _ _ => rfl)).symm
    | 13, _ => exact warm_today hG hd
    | 14, _ => show nI (ta_sz A) = nI (mo_sz M); rw [hT.1]
    | _ + 15, w => exact absurd w (by omega)
  · rw [what15, isIn_iff, if_neg h2, if_neg h2]
    simp only [if00, if10, if_true]
    exact ⟨by trivial, fun h => absurd h i10, hT⟩
theorem q_trim {A : TA} {K : TK} {σ τ : GL} {T : TM} {F : FM} {U : TM} {G : FM} {P : CP} {M : MO} {H : SH} {Y : SX} {x1 : Nat} (hT : RT A P M) (hx : x1 < 2 ^ 31) : mo_th (s_Model_trim M H Y x1).2 = (if (s_Camp_trim A K σ τ T F U G P x1).1 = 0 then 0 else 1) ∧ ((s_Camp_trim A K σ τ T F U G P x1).1 = 0 → (s_Camp_trim A K σ τ T F U G P x1).2.1 = (s_Model_trim M H Y x1).1) ∧ RT (s_Camp_trim A K σ τ T F U G P x1).2.2 P (s_Model_trim M H Y x1).2 := by
  unfold s_Camp_trim s_Model_trim s_Model_no
  rw [isIn_iff, hT.1]
  have hs := hT.2.1
  by_cases h : x1 ≤ mo_sz M
  · rw [if_pos (c := 0 ≤ nI x1 ∧ nI x1 ≤ nI (mo_sz M)) ⟨nI_pos' hx, nI_le h (by omega)⟩, if_pos (nI_le h (by omega)), if_neg i10]
    exact ⟨rfl, fun _ => rfl, rfl, Nat.le_trans h hs, hT.2.2.1, fun i hi => hT.2.2.2 i (Nat.lt_of_lt_of_le hi h)⟩
  · rw [if_neg (c := 0 ≤ nI x1 ∧ nI x1 ≤ nI (mo_sz M)) (fun w => nI_ge (Nat.not_le.mp h) hx w.2), if_neg (nI_ge (Nat.not_le.mp h) hx), if_pos rfl]
    exact ⟨rfl, fun h => absurd h i20, hT⟩
theorem q_trimN {A : TA} {K : TK} {σ τ : GL} {T : TM} {F : FM} {U : TM} {G : FM} {P : CP} {M : MO} {H : SH} {Y : SX} {x1 : Int32} (hT : RT A P M) : mo_th (s_Model_trimN M H Y x1).2 = (if (s_Camp_trimN A K σ τ T F U G P x1).1 = 0 then 0 else 1) ∧ ((s_Camp_trimN A K σ τ T F U G P x1).1 = 0 → (s_Camp_trimN A K σ τ T F U G P x1).2.1 = (s_Model_trimN M H Y x1).1) ∧ RT (s_Camp_trimN A K σ τ T F U G P x1).2.2 P (s_Model_trimN M H Y x1).2 :=
  ⟨rfl, fun h => absurd h i20, hT⟩
theorem q_errorAt {A : TA} {K : TK} {σ τ : GL} {T : TM} {F : FM} {U : TM} {G : FM} {P : CP} {M : MO} {H : SH} {Y : SX} (hT : RT A P M) : s_Camp_errorAt A K σ τ T F U G P = (s_Model_errorAt M H Y).1 ∧ RT A P (s_Model_errorAt M H Y).2 := ⟨hT.2.2.1, hT⟩
theorem upd_at (f : Nat → Int32) (k : Nat) (v : Int32) : upd f k v k = v := if_pos rfl
theorem upd_ne (f : Nat → Int32) {k j : Nat} (v : Int32) (h : j ≠ k) : upd f k v j = f j := if_neg h
theorem q_setWarm {A : TA} {K : TK} {σ τ : GL} {T : TM} {F : FM} {U : TM} {G : FM} {P : CP} {M : MO} {H : SH} {Y : SX} {x1 x2 : Int32} (hG : RG σ H Y) (hR : RR H Y) : mo_th (s_Model_setWarm M H Y x1 x2).2.1 = (if (s_Camp_setWarm A K σ τ T F U G P x1 x2).1 = 0 then 0 else if (s_Camp_setWarm A K σ τ T F U G P x1 x2).1 = 1 then 1 else 2) ∧ ((s_Camp_setWarm A K σ τ T F U G P x1 x2).1 = 0 → (s_Camp_setWarm A K σ τ T F U G P x1 x2).2.1 = (s_Model_setWarm M H Y x1 x2).1) ∧ RG (s_Camp_setWarm A K σ τ T F U G P x1 x2).2.2 H (s_Model_setWarm M H Y x1 x2).2.2 ∧ RR H (s_Model_setWarm M H Y x1 x2).2.2 ∧ sx_dy (s_Model_setWarm M H Y x1 x2).2.2 = sx_dy Y ∧ (RT A P M → RT A P (s_Model_setWarm M H Y x1 x2).2.1) := by
  unfold s_Camp_setWarm s_Model_setWarm s_Model_no
  rw [what8, isIn_iff, isIn_iff, range_iff]
  by_cases h1 : 0 ≤ x1 ∧ x1 ≤ 7
  · by_cases h2 : 0 ≤ x2 ∧ x2 ≤ 30
    · rw [if_pos h1, if_pos h1, if_pos h2, if_pos h2, if_pos (c := (0 : Int32) = 0) rfl, if_pos (c := (0 : Int32) = 0) rfl, if_neg i10, if_neg i10]
      obtain ⟨c, hc, rfl⟩ := col_of (n := 7) (by decide) h1
      refine ⟨rfl, fun _ => ?_, ?_, ⟨⟨hR.1.1, fun i hi => ?_⟩, hR.2⟩, rfl, fun h => h⟩
      rotate_left 2
      · show btw 0 (upd (sx_wa Y) (nI c).toNatClampNeg x2 i) 30
        unfold upd
        split
        · obtain ⟨j, hj, rfl⟩ := col_of (n := 30) (x := x2) (by decide) h2
          exact ⟨j, rfl, by omega, hj⟩
        · exact hR.1.2 i hi
      · rw [nI_clamp (by omega)]
        exact warm_of hG (by omega)
      · unfold s_Glacier_changeWarmth
        dsimp only
        rw [if_neg (nI_pos (by omega)), if_neg (nI_ge (by omega) (by decide)), nI_clamp (by omega)]
        refine ⟨hG.1, hG.2.1, hG.2.2.1, hG.2.2.2.1, hG.2.2.2.2.1, hG.2.2.2.2.2.1, fun i hi => ?_, hG.rest.2⟩
        show upd (gW σ) c x2 i = upd (sx_wa Y) c x2 i
        unfold upd
        rw [hG.rest.1 i hi]
    · rw [if_pos h1, if_pos h1, if_neg h2, if_neg h2, if_pos (c := (0 : Int32) = 0) rfl, if_neg i20, if_neg i10, if_pos (c := (0 : Int32) = 0) rfl]
      exact ⟨rfl, fun h => absurd h i20, hG, hR, rfl, fun h => h⟩
  · rw [if_neg h1, if_neg h1, if_neg i10, if_pos (c := (0 : Int32) = 0) rfl]
    exact ⟨rfl, fun h => absurd h i10, hG, hR, rfl, fun h => h⟩
