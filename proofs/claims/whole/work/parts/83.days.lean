/-! days that go by: pass, until, foresee, advise -/
theorem bec_loop {src : GL} : ∀ k i (s : GL), ∃ W, l_Glacier_become_57 src k i s = gSW s W ∧ (∀ j, i ≤ j → j < i + k → W j = gW src j) ∧ ∀ j, j < i → W j = gW s j := by
  intro k
  induction k with
  | zero => intro i s; exact ⟨gW s, rfl, fun j h1 h2 => absurd h2 (by omega), fun _ _ => rfl⟩
  | succ k ih =>
    intro i s
    obtain ⟨W, h1, h2, h3⟩ := ih (i + 1) (gSW s (upd (gW s) i (gW src i)))
    refine ⟨W, h1, fun j a b => ?_, fun j a => (h3 j (by omega)).trans (upd_ne _ _ (by omega))⟩
    by_cases e : j = i
    · subst e; exact (h3 j (by omega)).trans (upd_at _ _ _)
    · exact h2 j (by omega) (by omega)
theorem bec_rg {σ τ : GL} {H : SH} {Y : SX} (hG : RG σ H Y) : RG (s_Glacier_become σ τ) H Y := by
  unfold s_Glacier_become
  obtain ⟨W, h1, h2, -⟩ := bec_loop (src := σ) 8 0 (gP (gP (gP (gP (gP τ 0 (σ.1 0)) 1 (σ.1 1)) 2 (σ.1 2)) 3 (σ.1 3)) 4 (σ.1 4))
  rw [h1]
  exact ⟨hG.1, hG.2.1, hG.2.2.1, hG.2.2.2.1, hG.2.2.2.2.1, hG.2.2.2.2.2.1, ⟨fun i hi => (h2 i (by omega) (by omega)).trans (hG.rest.1 i hi), hG.rest.2⟩⟩
def daysC (T : TM) : Nat → GL → FM → GL × FM
  | 0, σ, F => (σ, F)
  | k + 1, σ, F => daysC T k (s_Glacier_passDay T σ F).1 (s_Glacier_passDay T σ F).2
theorem days_pass {A : TA} {K : TK} {τ : GL} {T U : TM} {G : FM} {P : CP} {b : Int32} : ∀ k i σ F, l_Camp_pass_21 A K τ T U G P b k i σ F = daysC T k σ F
  | 0, _, _, _ => rfl
  | k + 1, i, σ, F => by rw [l_Camp_pass_21, days_pass k]; rfl
theorem days_fore {A : TA} {K : TK} {σ : GL} {T U : TM} {G : FM} {P : CP} {b : Int32} : ∀ k i τ F, l_Camp_foresee_42 A K σ T U G P b k i τ F = daysC T k τ F
  | 0, _, _, _ => rfl
  | k + 1, i, σ, F => by rw [l_Camp_foresee_42, days_fore k]; rfl
theorem days_adv {A : TA} {K : TK} {σ : GL} {T U : TM} {G : FM} {P : CP} {a b c d : Int32} : ∀ k i τ F, l_Camp_advise_94 A K σ T U G P a b c d k i τ F = daysC T k τ F
  | 0, _, _, _ => rfl
  | k + 1, i, σ, F => by rw [l_Camp_advise_94, days_adv k]; rfl
theorem days_eq {T : TM} {H : SH} (hC : RC H) : ∀ k (σ : GL) (F : FM) (M : MO) (Y : SX), RG σ H Y → RR H Y → sx_dy Y + k < 1000000 → RO T F H → ∃ p, l_Model_daysOn H k M Y = some p ∧ RG (daysC T k σ F).1 H p.2 ∧ RR H p.2 ∧ sx_dy p.2 = sx_dy Y + k ∧ (∀ B, MB H Y B → MB H p.2 (B + 6 * k)) ∧ FK F (daysC T k σ F).2 ∧ ∃ x, p.1 = mo_wk' M x := by
  intro k
  induction k with
  | zero => intro σ F M Y hG hR _ _; exact ⟨(M, Y), rfl, hG, hR, rfl, fun B h => h, FK.refl F, mo_wk M, rfl⟩
  | succ k ih =>
    intro σ F M Y hG hR hd hO
    obtain ⟨p, a1, a2, a3, a4, a5, a6, x, a7⟩ := day_eq (M := M) hG hC hR (by omega) hO
    unfold l_Model_daysOn daysC
    rw [a1]
    show ∃ q, (if sx_dy p.2 < 1000000 then l_Model_daysOn H k p.1 p.2 else none) = some q ∧ _
    rw [if_pos (by omega)]
    obtain ⟨q, b1, b2, b3, b4, b5, b6, y, b7⟩ := ih _ _ p.1 p.2 a2 a3 (by omega) (hO.fk a6)
    exact ⟨q, b1, b2, b3, by omega, fun B h => by rw [show B + 6 * (k + 1) = B + 6 + 6 * k by omega]; exact b5 _ (a5 B h), a6.trans b6, y, by rw [b7, a7]⟩
theorem rg_made {σ : GL} {H : SH} {Y : SX} (hG : RG σ H Y) : gSum σ 4 5 = sx_rd Y := (gSum_s hG.n4 (f := sx_ma Y) (fun r hr => (hG.teams hr).2.2.2.2.2.1)).trans hG.rest.2.2.2.1.symm
theorem q_pass {A : TA} {K : TK} {σ τ : GL} {T : TM} {F : FM} {U : TM} {G : FM} {P : CP} {M : MO} {H : SH} {Y Ah : SX} {ow : Nat} {x1 : Int32} (hG : RG σ H Y) (hC : RC H) (hR : RR H Y) (hd : sx_dy Y < 900000) (hO : RO T F H) : ∃ p, (s_Model_pass M H Y Ah ow x1) = some p ∧ mo_th p.2.1 = (if (s_Camp_pass A K σ τ T F U G P x1).1 = 0 then 0 else 1) ∧ ((s_Camp_pass A K σ τ T F U G P x1).1 = 0 → (s_Camp_pass A K σ τ T F U G P x1).2.1 = p.1) ∧ RG (s_Camp_pass A K σ τ T F U G P x1).2.2.1 H p.2.2.1 ∧ RR H p.2.2.1 ∧ sx_dy p.2.2.1 ≤ sx_dy Y + 60 ∧ (MB H Y (6 * sx_dy Y) → MB H p.2.2.1 (6 * sx_dy p.2.2.1)) ∧ FK F (s_Camp_pass A K σ τ T F U G P x1).2.2.2 ∧ (RT A P M → RT A P p.2.1) := by
  unfold s_Model_pass s_Camp_pass s_Model_no
  rw [range_iff, isIn_iff]
  by_cases h : 1 ≤ x1 ∧ x1 ≤ 60
  · rw [if_pos h, if_pos h, if00, if10]
    obtain ⟨d, hd2, rfl⟩ := col_of (n := 60) (x := x1) (by decide) ⟨pos_of h.1, h.2⟩
    rw [nI_clamp (by omega), days_pass]
    obtain ⟨p, a1, a2, a3, a4, a5, a6, x, a7⟩ := days_eq (T := T) hC d σ F (mo_th' M 0) Y hG hR (by omega) hO
    rw [a1]
    refine ⟨_, rfl, ?_, fun _ => ?_, a2, a3, by show sx_dy p.2 ≤ _; omega, fun hB => ?_, a6, fun hT => ?_⟩
    · show mo_th p.1 = 0
      rw [a7]
    · show gSum (daysC T d σ F).1 4 5 - gSum σ 4 5 = sx_rd p.2 - sx_rd Y
      rw [rg_made a2, rg_made hG]
    · have := a5 _ hB
      rw [show 6 * sx_dy Y + 6 * d = 6 * (sx_dy Y + d) by omega, ← a4] at this
      exact this
    · show RT A P p.1
      rw [a7]
      exact hT
  · rw [if_neg h, if_neg h, if20, if00]
    exact ⟨_, rfl, rfl, fun h => absurd h i20, hG, hR, by show sx_dy Y ≤ _; omega, fun h => h, FK.refl F, fun h => h⟩
theorem total_eq {σ : GL} {M : MO} {H : SH} {Y : SX} {x : Int32} (hG : RG σ H Y) (hR : RR H Y) (h7 : 7 ≤ x) (h12 : x ≤ 12) : s_Glacier_total σ x = s_Model_counted M H Y x := by
  obtain ⟨c, hc, rfl⟩ := col_of (n := 12) (x := x) (by decide) ⟨by rw [Int32.le_iff_toInt_le] at h7 ⊢; exact Int.le_trans (by decide) h7, h12⟩
  have h7' : 7 ≤ c := (nI_leI (a := 7) (by decide) (by omega)).mp h7
  unfold s_Glacier_total s_Model_counted
  match c, h7', hc with
  | 7, _, _ =>
    show gSum σ 3 1 = l_Model_counted_141 _ H Y _ (sh_ha H 9) 0 0
    rw [gSum_s hG.n3 (f := sx_fo Y) (fun r hr => (hG.depots hr).2)]
    exact (loop_sum (g := l_Model_counted_141 M H Y (nI 7)) (fun _ _ => rfl) (fun _ _ _ => rfl)).symm
  | 8, _, _ =>
    show gSum σ 0 2 = l_Model_counted_177 _ H Y _ (sh_ha H 0) 0 0
    rw [gSum_s hG.n0 (f := sx_ic Y) (fun r hr => (hG.bands hr).2.2)]
    exact (loop_sum (g := l_Model_counted_177 M H Y (nI 8)) (fun _ _ => rfl) (fun _ _ _ => rfl)).symm
  | 9, _, _ => exact rg_made hG
  | 10, _, _ => exact (gSum_s hG.n4 (f := sx_fn Y) (fun r hr => (hG.teams hr).2.2.2.2.2.2.1)).trans hG.rest.2.2.2.2.symm
  | 11, _, _ => exact hG.rest.2.2.1
  | 12, _, _ =>
    show nI (gN σ 4) - gSum σ 4 4 = l_Model_counted_227 _ H Y _ (sh_ha H 11) 0 0
    rw [gSum_s hG.n4 (f := sx_he Y) (fun r hr => (hG.teams hr).2.2.2.2.1), hG.n4, here_out hG hR _ (Nat.le_refl _)]
    exact (loop_sum (g := l_Model_counted_227 M H Y (nI 12)) (fun _ _ => rfl) (fun _ _ _ => rfl)).symm
  | _ + 13, _, w => exact absurd w (by omega)
theorem q_foresee {A : TA} {K : TK} {σ τ : GL} {T : TM} {F : FM} {U : TM} {G : FM} {P : CP} {M : MO} {H : SH} {Y Ah : SX} {ow : Nat} {x1 x2 : Int32} (hG : RG σ H Y) (hC : RC H) (hR : RR H Y) (hd : sx_dy Y < 900000) (hO : RO T F H) (hW : WFG τ) : ∃ p, (s_Model_foresee M H Y Ah ow x1 x2) = some p ∧ mo_th p.2.1 = (if (s_Camp_foresee A K σ τ T F U G P x1 x2).1 = 0 then 0 else if (s_Camp_foresee A K σ τ T F U G P x1 x2).1 = 2 then 1 else 2) ∧ ((s_Camp_foresee A K σ τ T F U G P x1 x2).1 = 0 → (s_Camp_foresee A K σ τ T F U G P x1 x2).2.1 = p.1) ∧ FK F (s_Camp_foresee A K σ τ T F U G P x1 x2).2.2.2 ∧ (RT A P M → RT A P p.2.1) ∧ WFG (s_Camp_foresee A K σ τ T F U G P x1 x2).2.2.1 := by
  unfold s_Model_foresee s_Camp_foresee s_Model_no
  rw [range_iff, isIn_iff]
  by_cases h : 1 ≤ x1 ∧ x1 ≤ 60
  · rw [if_pos h, if_pos h, if00, if10]
    obtain ⟨d, hd2, rfl⟩ := col_of (n := 60) (x := x1) (by decide) ⟨pos_of h.1, h.2⟩
    rw [nI_clamp (by omega), days_fore, isIn_iff]
    by_cases h7 : x2 < 7
    · rw [if_pos h7, if_neg (c := 7 ≤ x2 ∧ x2 ≤ 12) (fun w => j_nlt.mpr w.1 h7), if00]
      exact ⟨_, rfl, rfl, fun h => absurd h i10, FK.refl F, fun h => h, hW⟩
    rw [if_neg h7]
    by_cases h12 : x2 ≤ 12
    · rw [if_pos h12, if_pos (c := 7 ≤ x2 ∧ x2 ≤ 12) ⟨j_nlt.mp h7, h12⟩, if10]
      obtain ⟨p, a1, a2, a3, a4, a5, a6, x, a7⟩ := days_eq (T := T) hC d (s_Glacier_become σ τ) F (mo_th' M 0) Y (bec_rg hG) hR (by omega) hO
      rw [a1]
      refine ⟨_, rfl, ?_, fun _ => ?_, a6, fun hT => ?_, hC.wf a2⟩
      · show mo_th p.1 = 0
        rw [a7]
      · exact total_eq a2 a3 (j_nlt.mp h7) h12
      · show RT A P p.1
        rw [a7]
        exact hT
    · rw [if_neg h12, if_neg (c := 7 ≤ x2 ∧ x2 ≤ 12) (fun w => h12 w.2), if00]
      exact ⟨_, rfl, rfl, fun h => absurd h i10, FK.refl F, fun h => h, hW⟩
  · rw [if_neg h, if_neg h, if20, if00]
    exact ⟨_, rfl, rfl, fun h => absurd h i20, FK.refl F, fun h => h, hW⟩
theorem lies_eq {A : TA} {K : TK} {σ : GL} {T U : TM} {G : FM} {P : CP} {H : SH} {Y0 : SX} {r : Nat} (hC : RC H) (hr : r < sh_ha H 3) : ∀ k i (τ : GL) (F : FM) (M : MO) (Y : SX) (ow : Nat), i + k = 99 → RG τ H Y → RR H Y → sx_dy Y + k < 900000 → RO T F H → ∃ p, l_Model_lies_13 H Y0 r (k + 2) i M Y ow = some p ∧ (l_Camp_until_24 A K σ T U G P (nI r) k i τ F).1 = 0 ∧ (l_Camp_until_24 A K σ T U G P (nI r) k i τ F).2.1 = p.1 ∧ FK F (l_Camp_until_24 A K σ T U G P (nI r) k i τ F).2.2.2 ∧ WFG (l_Camp_until_24 A K σ T U G P (nI r) k i τ F).2.2.1 ∧ ∃ x, p.2.1 = mo_wk' M x := by
  intro k
  induction k with
  | zero =>
    intro i τ F M Y ow hi hG hR hd hO
    have e99 : i = 99 := by omega
    subst e99
    rw [l_Model_lies_13, if_neg (by decide), l_Camp_until_24, hG.rb.g_1_3 hr hC]
    by_cases hz : sx_sd Y r = 0
    · rw [if_pos hz, if_pos hz]
      exact ⟨_, rfl, rfl, rfl, FK.refl F, hC.wf hG, mo_wk M, rfl⟩
    · rw [if_neg hz, if_neg hz]
      obtain ⟨p, a1, a2, a3, a4, a5, a6, x, a7⟩ := day_eq (M := M) hG hC hR (by omega) hO
      unfold dayC
      rw [a1]
      show ∃ q, ((if sx_dy p.2 < 1000000 then some p else none).bind fun p38 => l_Model_lies_13 H Y0 r 1 100 p38.1 p38.2 1) = some q ∧ _
      rw [if_pos (by omega)]
      show ∃ q, l_Model_lies_13 H Y0 r 1 100 p.1 p.2 1 = some q ∧ _
      rw [l_Model_lies_13, if_pos (by decide)]
      exact ⟨_, rfl, rfl, rfl, FK.refl F, hC.wf hG, x, a7⟩
  | succ k ih =>
    intro i τ F M Y ow hi hG hR hd hO
    have h100 : ¬ (100 : Int32) ≤ nI i := fun w => absurd ((nI_leI (a := 100) (b := i) (by decide) (by omega)).mp w) (by omega)
    rw [l_Model_lies_13, if_neg h100, l_Camp_until_24, hG.rb.g_1_3 hr hC]
    by_cases hz : sx_sd Y r = 0
    · rw [if_pos hz, if_pos hz]
      exact ⟨_, rfl, rfl, rfl, FK.refl F, hC.wf hG, mo_wk M, rfl⟩
    · rw [if_neg hz, if_neg hz]
      obtain ⟨p, a1, a2, a3, a4, a5, a6, x, a7⟩ := day_eq (M := M) hG hC hR (by omega) hO
      unfold dayC
      rw [a1]
      show ∃ q, ((if sx_dy p.2 < 1000000 then some p else none).bind fun p38 => l_Model_lies_13 H Y0 r (k + 2) (i + 1) p38.1 p38.2 1) = some q ∧ _
      rw [if_pos (by omega)]
      obtain ⟨q, b1, b2, b3, b4, b5, y, b6⟩ := ih (i + 1) _ _ p.1 p.2 1 (by omega) a2 a3 (by omega) (hO.fk a6)
      exact ⟨q, b1, b2, b3, a6.trans b4, b5, y, by rw [b6, a7]⟩
theorem q_until {A : TA} {K : TK} {σ τ : GL} {T : TM} {F : FM} {U : TM} {G : FM} {P : CP} {M : MO} {H : SH} {Y Ah : SX} {ow : Nat} {x1 : Int32} (hG : RG σ H Y) (hC : RC H) (hR : RR H Y) (hd : sx_dy Y < 800000) (hO : RO T F H) (hW : WFG τ) : ∃ p, (s_Model_until M H Y Ah ow x1) = some p ∧ mo_th p.2.1 = (if (s_Camp_until A K σ τ T F U G P x1).1 = 0 then 0 else 1) ∧ ((s_Camp_until A K σ τ T F U G P x1).1 = 0 → (s_Camp_until A K σ τ T F U G P x1).2.1 = p.1) ∧ FK F (s_Camp_until A K σ τ T F U G P x1).2.2.2 ∧ (RT A P M → RT A P p.2.1) ∧ WFG (s_Camp_until A K σ τ T F U G P x1).2.2.1 := by
  have e0 : (σ.1 1).2 = sh_ha H 3 := hG.n1
  have hM : sh_ha H 3 ≤ 1000 := by unfold RC at hC; omega
  unfold s_Model_until s_Camp_until s_Model_no s_Model_lies
  by_cases h1 : 0 ≤ x1 ∧ x1 < nI (sh_ha H 3)
  · rw [need_in e0 h1, is_in h1 hM, if00, if10]
    obtain ⟨r, hr, rfl⟩ := row_of hM (j_nlt.mpr h1.1) h1.2
    rw [nI_clamp (by omega)]
    obtain ⟨p, a1, a2, a3, a4, a5, x, a6⟩ := lies_eq (A := A) (K := K) (σ := σ) (U := U) (G := G) (P := P) (Y0 := Y) hC hr 99 0 (s_Glacier_become σ τ) F (mo_th' M 0) Y ow rfl (bec_rg hG) hR (by omega) hO
    rw [a1, a2, if00]
    refine ⟨_, rfl, ?_, fun _ => a3, a4, fun hT => ?_, a5⟩
    · show mo_th p.2.1 = 0
      rw [a6]
    · show RT A P p.2.1
      rw [a6]
      exact hT
  · rw [need_out e0 h1, is_out h1 hM, if10, if00]
    exact ⟨_, rfl, rfl, fun h => absurd h i10, FK.refl F, fun h => h, hW⟩
/-- one choice of what to advise -/
theorem adv0 {A : TA} {K : TK} {σ τ : GL} {T : TM} {F : FM} {U : TM} {G : FM} {P : CP} {M : MO} {H : SH} {Y Ah : SX} {ow t d k : Nat} {b m : Int32} (hG : RG σ H Y) (hC : RC H) (hR : RR H Y) (hd : sx_dy Y < 800000) (hd2 : d ≤ 40) (hO : RO T F H) (hB : MB H Y 5000000) (ht : t < sh_ha H 11) (hm : m = -1) : ∃ p, s_Model_reads M H Y Ah ow t 0 d = some p ∧ (∃ x, p.2.1 = mo_wk' M x) ∧ ∃ v τ' F', p.1 = nI v ∧ v < 2 ^ 31 ∧ FK F F' ∧ WFG τ' ∧ l_Camp_advise_47 A K σ T U G P (nI t) d (k + 1) 0 b m τ F = l_Camp_advise_47 A K σ T U G P (nI t) d k 1 0 (nI v) τ' F' := by
  obtain ⟨p, a1, a2, a3, a4, a5, a6, x, a7⟩ := days_eq (T := T) hC d (s_Glacier_become σ τ) F M Y (bec_rg hG) hR (by omega) hO
  obtain ⟨v, v1, v2⟩ := a5 _ hB t ht
  have g5 := a2.rb.g_4_5 ht hC
  unfold s_Model_reads
  rw [if_pos (by decide), a1, l_Camp_advise_47, if_pos (c := nI 0 = 0) rfl, days_adv, hm, g5, v1, if_neg (fun w => nI_pos (n := v) (by omega) (Int32.lt_of_le_of_lt w (by decide)))]
  exact ⟨_, rfl, ⟨x, a7⟩, v, _, _, v1, by omega, a6, hC.wf a2, rfl⟩
theorem adv_step {A : TA} {K : TK} {σ τ : GL} {T : TM} {F : FM} {U : TM} {G : FM} {P : CP} {M : MO} {H : SH} {Y Ah : SX} {ow t d k i v : Nat} {b : Int32} (hG : RG σ H Y) (hC : RC H) (hR : RR H Y) (hd : sx_dy Y < 800000) (hd2 : d ≤ 40) (hO : RO T F H) (hB : MB H Y 5000000) (ht : t < sh_ha H 11) (hv : v < 2 ^ 31) (hi : i = 1 ∨ i = 2) (hw : WFG τ) : ∃ p, s_Model_reads M H Y Ah ow t (nI i) d = some p ∧ (∃ x, p.2.1 = mo_wk' M x) ∧ ∃ b' v' τ' F', v' < 2 ^ 31 ∧ (if nI v < p.1 then (nI i, p.1) else (b, nI v)) = (b', nI v') ∧ FK F F' ∧ WFG τ' ∧ l_Camp_advise_47 A K σ T U G P (nI t) d (k + 1) i b (nI v) τ F = l_Camp_advise_47 A K σ T U G P (nI t) d k (i + 1) b' (nI v') τ' F' := by
  have main : ∀ (x : Int32) (L : Int32 × Int32 × GL × FM), (L = (if (s_Glacier_tryGo (s_Glacier_become σ τ) (nI t) x).1 = 0 then (l_Camp_advise_47 A K σ T U G P (nI t) d k (i + 1) b (nI v) (s_Glacier_tryGo (s_Glacier_become σ τ) (nI t) x).2 F) else (if (gG (daysC T d (s_Glacier_tryGo (s_Glacier_become σ τ) (nI t) x).2 F).1 4 (nI t) 5) ≤ (nI v) then (l_Camp_advise_47 A K σ T U G P (nI t) d k (i + 1) b (nI v) (daysC T d (s_Glacier_tryGo (s_Glacier_become σ τ) (nI t) x).2 F).1 (daysC T d (s_Glacier_tryGo (s_Glacier_become σ τ) (nI t) x).2 F).2) else (l_Camp_advise_47 A K σ T U G P (nI t) d k (i + 1) (nI i) (gG (daysC T d (s_Glacier_tryGo (s_Glacier_become σ τ) (nI t) x).2 F).1 4 (nI t) 5) (daysC T d (s_Glacier_tryGo (s_Glacier_become σ τ) (nI t) x).2 F).1 (daysC T d (s_Glacier_tryGo (s_Glacier_become σ τ) (nI t) x).2 F).2)))) → ∃ p, (if (s_Model_moved M H Y t x).1 = 0 then some ((-1), M, (s_Model_moved M H Y t x).2, ow) else ((l_Model_daysOn H d M (s_Model_moved M H Y t x).2).bind fun p45_7 => some (((sx_ma p45_7.2) t), p45_7.1, p45_7.2, (if d = 0 then ow else 1)))) = some p ∧ (∃ x, p.2.1 = mo_wk' M x) ∧ ∃ b' v' τ' F', v' < 2 ^ 31 ∧ (if nI v < p.1 then (nI i, p.1) else (b, nI v)) = (b', nI v') ∧ FK F F' ∧ WFG τ' ∧ L = l_Camp_advise_47 A K σ T U G P (nI t) d k (i + 1) b' (nI v') τ' F' := by
    intro x L hL
    obtain ⟨e1, e2, e3, e4, -⟩ := tryGo_eq (M := M) (x := x) (bec_rg (τ := τ) hG) hC hR ht
    rw [e1] at hL
    by_cases hz : (s_Model_moved M H Y t x).1 = 0
    · rw [if_pos hz] at hL
      rw [if_pos hz]
      refine ⟨_, rfl, ⟨mo_wk M, rfl⟩, b, v, _, _, hv, ?_, FK.refl F, hC.wf e2, hL⟩
      rw [if_neg]
      show ¬ nI v < -1
      rw [Int32.lt_iff_toInt_lt, nI_toInt hv, show (-1 : Int32).toInt = -1 from by decide]
      omega
    · rw [if_neg hz] at hL
      rw [if_neg hz]
      obtain ⟨p, a1, a2, a3, a4, a5, a6, x7, a7⟩ := days_eq (T := T) hC d _ F M _ e2 e3 (by rw [e4]; omega) hO
      have hB2 : MB H (s_Model_moved M H Y t x).2 5000000 := fun j hj => by rw [moved_ca.2]; exact hB j hj
      obtain ⟨u, u1, u2⟩ := a5 _ hB2 t ht
      rw [a2.rb.g_4_5 ht hC, u1] at hL
      rw [a1]
      by_cases hle : nI u ≤ nI v
      · rw [if_pos hle] at hL
        refine ⟨_, rfl, ⟨x7, a7⟩, b, v, _, _, hv, ?_, a6, hC.wf a2, hL⟩
        rw [if_neg]
        show ¬ nI v < sx_ma p.2 t
        rw [u1]
        exact j_nlt.mpr hle
      · rw [if_neg hle] at hL
        refine ⟨_, rfl, ⟨x7, a7⟩, nI i, u, _, _, by omega, ?_, a6, hC.wf a2, hL⟩
        show (if nI v < sx_ma p.2 t then (nI i, sx_ma p.2 t) else (b, nI v)) = _
        rw [u1, if_pos (j_nle.mp hle)]
  rcases hi with rfl | rfl
  · unfold s_Model_reads
    rw [if_neg (c := nI 1 ≤ 0) (by decide), if_pos (c := nI 1 = 1) rfl]
    refine main 1 _ ?_
    rw [l_Camp_advise_47, if_neg (c := nI 1 = 0) (by decide), if_pos (c := nI 1 = 1) rfl]
    simp only [days_adv]
  · unfold s_Model_reads
    rw [if_neg (c := nI 2 ≤ 0) (by decide), if_neg (c := nI 2 = 1) (by decide)]
    refine main 0 _ ?_
    rw [l_Camp_advise_47, if_neg (c := nI 2 = 0) (by decide), if_neg (c := nI 2 = 1) (by decide)]
    simp only [days_adv]
theorem q_advise {A : TA} {K : TK} {σ τ : GL} {T : TM} {F : FM} {U : TM} {G : FM} {P : CP} {M : MO} {H : SH} {Y Ah : SX} {ow : Nat} {x1 x2 : Int32} (hG : RG σ H Y) (hC : RC H) (hR : RR H Y) (hd : sx_dy Y < 800000) (hO : RO T F H) (hB : MB H Y 5000000) (hW : WFG τ) : ∃ p, (s_Model_advise M H Y Ah ow x1 x2) = some p ∧ mo_th p.2.1 = (if (s_Camp_advise A K σ τ T F U G P x1 x2).1 = 0 then 0 else if (s_Camp_advise A K σ τ T F U G P x1 x2).1 = 1 then 1 else if (s_Camp_advise A K σ τ T F U G P x1 x2).1 = 2 then 2 else 3) ∧ ((s_Camp_advise A K σ τ T F U G P x1 x2).1 = 0 → (s_Camp_advise A K σ τ T F U G P x1 x2).2.1 = p.1) ∧ FK F (s_Camp_advise A K σ τ T F U G P x1 x2).2.2.2 ∧ (RT A P M → RT A P p.2.1) ∧ WFG (s_Camp_advise A K σ τ T F U G P x1 x2).2.2.1 := by
  have e0 : (σ.1 4).2 = sh_ha H 11 := hG.n4
  have hM : sh_ha H 11 ≤ 4 := by unfold RC at hC; omega
  unfold s_Model_advise s_Camp_advise s_Model_no
  by_cases h1 : 0 ≤ x1 ∧ x1 < nI (sh_ha H 11)
  · rw [need_in e0 h1, is_in h1 (by omega), if00, if10, range_iff, isIn_iff]
    obtain ⟨t, ht, rfl⟩ := row_of (by omega) (j_nlt.mpr h1.1) h1.2
    by_cases h2 : 1 ≤ x2 ∧ x2 ≤ 40
    · rw [if_pos h2, if_pos h2, if00, if10, if_pos (ok_nI (by omega) (by omega)), nI_clamp (by omega), here_eq hG.rb hC ht]
      obtain ⟨d, hd2, rfl⟩ := col_of (n := 40) (x := x2) (by decide) ⟨pos_of h2.1, h2.2⟩
      obtain ⟨-, -, -, ⟨z, z1, z2, z3⟩, -⟩ := hR.2.2.2.2 t ht
      by_cases hz : sx_he Y t = 0
      · rw [if_pos hz, if_neg (c := sx_he Y t = 1) (by rw [hz]; decide), if00]
        exact ⟨_, rfl, rfl, fun h => absurd h (show ¬ (3 : Int32) = 0 by decide), FK.refl F, fun h => h, hW⟩
      · have hz1 : sx_he Y t = 1 := by
          match z, z3 with
          | 0, _ => exact absurd z1 hz
          | 1, _ => exact z1
          | _ + 2, w => exact absurd w (by omega)
        rw [if_neg hz, if_pos hz1, if10, nI_clamp (by omega)]
        obtain ⟨p0, a1, ⟨y0, a2⟩, v0, τ0, F0, a3, a4, a5, a6, a7⟩ := adv0 (A := A) (K := K) (U := U) (G := G) (P := P) (M := mo_th' M 0) (Ah := Ah) (ow := ow) (τ := τ) (d := d) (k := 2) (b := 0) (m := -1) hG hC hR hd hd2 hO hB ht rfl
        rw [a1, a7]
        show ∃ p, l_Model_advise_69 H Y (nI t) (nI d) 4 0 p0.1 1 p0.2.1 p0.2.2.1 p0.2.2.2 = some p ∧ _
        rw [l_Model_advise_69, if_neg (by decide), if_pos (ok_nI (by omega) (by omega)), if_pos (ok_nI (by omega) (by omega)), nI_clamp (by omega), nI_clamp (by omega), a3]
        obtain ⟨p1, b1, ⟨y1, b2⟩, bb, v1, τ1, F1, b3, b4, b5, b6, b7⟩ := adv_step (A := A) (K := K) (U := U) (G := G) (P := P) (M := p0.2.1) (Ah := p0.2.2.1) (ow := p0.2.2.2) (τ := τ0) (d := d) (k := 1) (i := 1) (b := 0) hG hC hR hd hd2 (hO.fk a5) hB ht a4 (.inl rfl) a6
        rw [b1, b7]
        have key1 : (((some p1).bind fun p80_4 => (if nI v0 < p80_4.1 then (l_Model_advise_69 H Y (nI t) (nI d) 3 (nI 1) p80_4.1 (1 + 1) p80_4.2.1 p80_4.2.2.1 p80_4.2.2.2) else (l_Model_advise_69 H Y (nI t) (nI d) 3 0 (nI v0) (1 + 1) p80_4.2.1 p80_4.2.2.1 p80_4.2.2.2))) : Option (Int32 × MO × SX × Nat)) = l_Model_advise_69 H Y (nI t) (nI d) 3 bb (nI v1) 2 p1.2.1 p1.2.2.1 p1.2.2.2 := by
          show (if nI v0 < p1.1 then (l_Model_advise_69 H Y (nI t) (nI d) 3 (nI 1) p1.1 (1 + 1) p1.2.1 p1.2.2.1 p1.2.2.2) else (l_Model_advise_69 H Y (nI t) (nI d) 3 0 (nI v0) (1 + 1) p1.2.1 p1.2.2.1 p1.2.2.2)) = _
          by_cases hlt : nI v0 < p1.1
          · rw [if_pos hlt] at b4 ⊢
            rw [(Prod.mk.inj b4).1, (Prod.mk.inj b4).2]
          · rw [if_neg hlt] at b4 ⊢
            rw [(Prod.mk.inj b4).1, (Prod.mk.inj b4).2]
        rw [key1, l_Model_advise_69, if_neg (by decide), if_pos (ok_nI (by omega) (by omega)), if_pos (ok_nI (by omega) (by omega)), nI_clamp (by omega), nI_clamp (by omega)]
        obtain ⟨p2, c1, ⟨y2, c2⟩, bb2, v2, τ2, F2, c3, c4, c5, c6, c7⟩ := adv_step (A := A) (K := K) (U := U) (G := G) (P := P) (M := p1.2.1) (Ah := p1.2.2.1) (ow := p1.2.2.2) (τ := τ1) (d := d) (k := 0) (i := 2) (b := bb) hG hC hR hd hd2 ((hO.fk a5).fk b5) hB ht b3 (.inr rfl) b6
        rw [c1, c7]
        have key2 : (((some p2).bind fun p80_4 => (if nI v1 < p80_4.1 then (l_Model_advise_69 H Y (nI t) (nI d) 2 (nI 2) p80_4.1 (2 + 1) p80_4.2.1 p80_4.2.2.1 p80_4.2.2.2) else (l_Model_advise_69 H Y (nI t) (nI d) 2 bb (nI v1) (2 + 1) p80_4.2.1 p80_4.2.2.1 p80_4.2.2.2))) : Option (Int32 × MO × SX × Nat)) = some (bb2, p2.2.1, p2.2.2.1, p2.2.2.2) := by
          show (if nI v1 < p2.1 then (l_Model_advise_69 H Y (nI t) (nI d) 2 (nI 2) p2.1 (2 + 1) p2.2.1 p2.2.2.1 p2.2.2.2) else (l_Model_advise_69 H Y (nI t) (nI d) 2 bb (nI v1) (2 + 1) p2.2.1 p2.2.2.1 p2.2.2.2)) = _
          by_cases hlt : nI v1 < p2.1
          · rw [if_pos hlt] at c4 ⊢
            rw [l_Model_advise_69, if_pos (by decide), (Prod.mk.inj c4).1]
          · rw [if_neg hlt] at c4 ⊢
            rw [l_Model_advise_69, if_pos (by decide), (Prod.mk.inj c4).1]
        rw [key2, l_Camp_advise_47]
        refine ⟨_, rfl, ?_, fun _ => rfl, (a5.trans b5).trans c5, fun hT => ?_, c6⟩
        · show mo_th p2.2.1 = 0
          rw [c2, b2, a2]
        · show RT A P p2.2.1
          rw [c2, b2, a2]
          exact hT
    · rw [if_neg h2, if_neg h2, if20, if00]
      exact ⟨_, rfl, rfl, fun h => absurd h i20, FK.refl F, fun h => h, hW⟩
  · rw [need_out e0 h1, is_out h1 (by omega), if10, if00]
    exact ⟨_, rfl, rfl, fun h => absurd h i10, FK.refl F, fun h => h, hW⟩
