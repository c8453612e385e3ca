/-! the pure part: the calls that only tell -/
theorem RT.th {A : TA} {P : CP} {M : MO} {v : Int32} (h : RT A P M) : RT A P (mo_th' M v) := h
theorem what6 {x : Int32} : s_Camp_needWhat x 6 = (if 0 ≤ x ∧ x ≤ 5 then 0 else 1) := by
  rw [what_iff]
  have h : x < 6 ↔ x ≤ 5 := by
    rw [Int32.lt_iff_toInt_lt, Int32.le_iff_toInt_le, show (6 : Int32).toInt = 6 from by decide, show (5 : Int32).toInt = 5 from by decide]
    omega
  simp only [h]
theorem what8 {x : Int32} : s_Camp_needWhat x 8 = (if 0 ≤ x ∧ x ≤ 7 then 0 else 1) := by
  rw [what_iff]
  have h : x < 8 ↔ x ≤ 7 := by
    rw [Int32.lt_iff_toInt_lt, Int32.le_iff_toInt_le, show (8 : Int32).toInt = 8 from by decide, show (7 : Int32).toInt = 7 from by decide]
    omega
  simp only [h]
theorem what2 {x : Int32} : s_Camp_needWhat x 2 = (if 0 ≤ x ∧ x ≤ 1 then 0 else 1) := by
  rw [what_iff]
  have h : x < 2 ↔ x ≤ 1 := by
    rw [Int32.lt_iff_toInt_lt, Int32.le_iff_toInt_le, show (2 : Int32).toInt = 2 from by decide, show (1 : Int32).toInt = 1 from by decide]
    omega
  simp only [h]
theorem what15 {x : Int32} : s_Camp_needWhat x 15 = (if 0 ≤ x ∧ x ≤ 14 then 0 else 1) := by
  rw [what_iff]
  have h : x < 15 ↔ x ≤ 14 := by
    rw [Int32.lt_iff_toInt_lt, Int32.le_iff_toInt_le, show (15 : Int32).toInt = 15 from by decide, show (14 : Int32).toInt = 14 from by decide]
    omega
  simp only [h]
theorem if00 {α : Type} {a b : α} : (if (0 : Int32) = 0 then a else b) = a := rfl
theorem if10 {α : Type} {a b : α} : (if (1 : Int32) = 0 then a else b) = b := rfl
theorem if20 {α : Type} {a b : α} : (if (2 : Int32) = 0 then a else b) = b := rfl
theorem if30 {α : Type} {a b : α} : (if (3 : Int32) = 0 then a else b) = b := rfl
theorem if11 {α : Type} {a b : α} : (if (1 : Int32) = 1 then a else b) = a := rfl
theorem if21 {α : Type} {a b : α} : (if (2 : Int32) = 1 then a else b) = b := rfl
theorem if31 {α : Type} {a b : α} : (if (3 : Int32) = 1 then a else b) = b := rfl
theorem if22 {α : Type} {a b : α} : (if (2 : Int32) = 2 then a else b) = a := rfl
theorem if32 {α : Type} {a b : α} : (if (3 : Int32) = 2 then a else b) = b := rfl
theorem i10 : ¬ (1 : Int32) = 0 := by decide
theorem i20 : ¬ (2 : Int32) = 0 := by decide
theorem i30 : ¬ (3 : Int32) = 0 := by decide
theorem need_in {T : TM} {x : Int32} {n : Nat} (e : T.2 = n) (h : 0 ≤ x ∧ x < nI n) : s_Camp_needRow T x = 0 := by rw [need_row, e, if_pos h]
theorem need_out {T : TM} {x : Int32} {n : Nat} (e : T.2 = n) (h : ¬ (0 ≤ x ∧ x < nI n)) : s_Camp_needRow T x = 1 := by rw [need_row, e, if_neg h]
theorem is_in {M : MO} {H : SH} {Y : SX} {k : Nat} {x : Int32} (h : 0 ≤ x ∧ x < nI (sh_ha H k)) (hn : sh_ha H k ≤ 1000) : s_Model_is M H Y k x = 1 := by rw [is_row M Y x hn, if_pos h]
theorem is_out {M : MO} {H : SH} {Y : SX} {k : Nat} {x : Int32} (h : ¬ (0 ≤ x ∧ x < nI (sh_ha H k))) (hn : sh_ha H k ≤ 1000) : s_Model_is M H Y k x = 0 := by rw [is_row M Y x hn, if_neg h]
theorem col_of {x : Int32} {n : Nat} (hn : n < 2 ^ 31) (h : 0 ≤ x ∧ x ≤ nI n) : ∃ c, c ≤ n ∧ x = nI c := by
  obtain ⟨j, hj, rfl⟩ := nI_of (j_nlt.mpr h.1)
  exact ⟨j, (nI_leI hj hn).mp h.2, rfl⟩
theorem gG_at {σ : GL} {k r c n : Nat} (hn : gN σ k = n) (hr : r < n) (hb : n ≤ 1000) : gG σ k (nI r) c = (σ.1 k).1 (8 * r + c) := tgI_at (by show r < gN σ k; omega) (by show gN σ k < _; omega)
theorem tmat_cnt {T : TM} {c1 c2 : Nat} {v1 v2 : Int32} {g : Nat → Nat → Int32 → Int32} (h0 : ∀ i s, g 0 i s = s) (hs : ∀ k i s, g (k + 1) i s = g k (i + 1) (if T.1 (8 * i + c1) = v1 ∧ T.1 (8 * i + c2) = v2 then s + 1 else s)) : ∀ k i s, tmatF T c1 v1 c2 v2 k i s = g k i s := by
  intro k
  induction k with
  | zero => intro i s; exact (h0 i s).symm
  | succ k ih => intro i s; rw [hs]; exact ih _ _
/-- a count of rows against the reference's loop, row by row -/
theorem tmat_eq {T : TM} {c1 c2 n : Nat} {v1 v2 : Int32} {g : Nat → Nat → Int32 → Int32} (h0 : ∀ i s, g 0 i s = s) (hs : ∀ k i s, i < n → g (k + 1) i s = g k (i + 1) (if T.1 (8 * i + c1) = v1 ∧ T.1 (8 * i + c2) = v2 then s + 1 else s)) : ∀ k i s, i + k ≤ n → tmatF T c1 v1 c2 v2 k i s = g k i s := by
  intro k
  induction k with
  | zero => intro i s _; exact (h0 i s).symm
  | succ k ih => intro i s h; rw [hs k i s (by omega)]; exact ih _ _ (by omega)
theorem sum_eq {f : Nat → Int32} {g : Nat → Nat → Int32 → Int32} (h0 : ∀ i s, g 0 i s = s) (hs : ∀ k i s, g (k + 1) i s = g k (i + 1) (s + f i)) : ∀ k i, g k i (sumR f i) = sumR f (i + k) := by
  intro k
  induction k with
  | zero => intro i; exact h0 i _
  | succ k ih =>
    intro i
    rw [hs, show i + (k + 1) = i + 1 + k by omega]
    exact ih (i + 1)
theorem q_stake {A : TA} {K : TK} {σ τ : GL} {T : TM} {F : FM} {U : TM} {G : FM} {P : CP} {M : MO} {H : SH} {Y : SX} {x1 x2 : Int32} (hG : RG σ H Y) (hC : RC H) : mo_th (s_Model_stake M H Y x1 x2).2 = (if (s_Camp_stake A K σ τ T F U G P x1 x2).1 = 0 then 0 else 1) ∧ ((s_Camp_stake A K σ τ T F U G P x1 x2).1 = 0 → (s_Camp_stake A K σ τ T F U G P x1 x2).2 = (s_Model_stake M H Y x1 x2).1) ∧ (RT A P M → RT A P (s_Model_stake M H Y x1 x2).2) := by
  have e0 : (σ.1 1).2 = sh_ha H 3 := hG.n1
  have hb : sh_ha H 3 ≤ 6 := by have := hC; unfold RC at this; omega
  have hM : sh_ha H 3 ≤ 1000 := by omega
  unfold s_Camp_stake s_Model_stake s_Model_no
  by_cases h1 : 0 ≤ x1 ∧ x1 < nI (sh_ha H 3)
  · rw [need_in e0 h1, is_in h1 hM]
    by_cases h2 : 0 ≤ x2 ∧ x2 ≤ 5
    · rw [what6, isIn_iff, if_pos h2, if_pos h2]
      simp only [if00, if10, if_true]
      refine ⟨by trivial, fun _ => ?_, fun h => h⟩
      obtain ⟨r, hr, rfl⟩ := row_of (by omega) (j_nlt.mpr h1.1) h1.2
      obtain ⟨c, hc, rfl⟩ := col_of (n := 5) (by decide) h2
      rw [nI_clamp (by omega), nI_clamp (by omega)]
      have hh := hG.stakes hr
      rw [gG_at hG.n1 hr (by omega)]
      unfold s_Model_stakeTold
      match c, hc with
      | 0, _ => exact hh.1
      | 1, _ => exact hh.2.1
      | 2, _ => exact hh.2.2.1
      | 3, _ => exact hh.2.2.2.1
      | 4, _ => exact hh.2.2.2.2.1
      | 5, _ => exact hh.2.2.2.2.2
      | _ + 6, w => exact absurd w (by omega)
    · rw [what6, isIn_iff, if_neg h2, if_neg h2]
      simp only [if00, if10, if_true]
      exact ⟨by trivial, fun h => absurd h i10, fun h => h⟩
  · rw [need_out e0 h1, is_out h1 hM]
    simp only [if00, if10, if_true]
    exact ⟨rfl, fun h => absurd h i10, fun h => h⟩
theorem q_depot {A : TA} {K : TK} {σ τ : GL} {T : TM} {F : FM} {U : TM} {G : FM} {P : CP} {M : MO} {H : SH} {Y : SX} {x1 x2 : Int32} (hG : RG σ H Y) (hC : RC H) : mo_th (s_Model_depot M H Y x1 x2).2 = (if (s_Camp_depot A K σ τ T F U G P x1 x2).1 = 0 then 0 else 1) ∧ ((s_Camp_depot A K σ τ T F U G P x1 x2).1 = 0 → (s_Camp_depot A K σ τ T F U G P x1 x2).2 = (s_Model_depot M H Y x1 x2).1) ∧ (RT A P M → RT A P (s_Model_depot M H Y x1 x2).2) := by
  have e0 : (σ.1 3).2 = sh_ha H 9 := hG.n3
  have hb : sh_ha H 9 ≤ 6 := by have := hC; unfold RC at this; omega
  have hM : sh_ha H 9 ≤ 1000 := by omega
  unfold s_Camp_depot s_Model_depot s_Model_no
  by_cases h1 : 0 ≤ x1 ∧ x1 < nI (sh_ha H 9)
  · rw [need_in e0 h1, is_in h1 hM]
    by_cases h2 : 0 ≤ x2 ∧ x2 ≤ 1
    · rw [what2, isIn_iff, if_pos h2, if_pos h2]
      simp only [if00, if10, if_true]
      refine ⟨by trivial, fun _ => ?_, fun h => h⟩
      obtain ⟨r, hr, rfl⟩ := row_of (by omega) (j_nlt.mpr h1.1) h1.2
      obtain ⟨c, hc, rfl⟩ := col_of (n := 1) (by decide) h2
      rw [nI_clamp (by omega), nI_clamp (by omega)]
      have hh := hG.depots hr
      rw [gG_at hG.n3 hr (by omega)]
      unfold s_Model_depotTold
      match c, hc with
      | 0, _ => exact hh.1
      | 1, _ => exact hh.2
      | _ + 2, w => exact absurd w (by omega)
    · rw [what2, isIn_iff, if_neg h2, if_neg h2]
      simp only [if00, if10, if_true]
      exact ⟨by trivial, fun h => absurd h i10, fun h => h⟩
  · rw [need_out e0 h1, is_out h1 hM]
    simp only [if00, if10, if_true]
    exact ⟨rfl, fun h => absurd h i10, fun h => h⟩
theorem q_team {A : TA} {K : TK} {σ τ : GL} {T : TM} {F : FM} {U : TM} {G : FM} {P : CP} {M : MO} {H : SH} {Y : SX} {x1 x2 : Int32} (hG : RG σ H Y) (hC : RC H) : mo_th (s_Model_team M H Y x1 x2).2 = (if (s_Camp_team A K σ τ T F U G P x1 x2).1 = 0 then 0 else 1) ∧ ((s_Camp_team A K σ τ T F U G P x1 x2).1 = 0 → (s_Camp_team A K σ τ T F U G P x1 x2).2 = (s_Model_team M H Y x1 x2).1) ∧ (RT A P M → RT A P (s_Model_team M H Y x1 x2).2) := by
  have e0 : (σ.1 4).2 = sh_ha H 11 := hG.n4
  have hb : sh_ha H 11 ≤ 6 := by have := hC; unfold RC at this; omega
  have hM : sh_ha H 11 ≤ 1000 := by omega
  unfold s_Camp_team s_Model_team s_Model_no
  by_cases h1 : 0 ≤ x1 ∧ x1 < nI (sh_ha H 11)
  · rw [need_in e0 h1, is_in h1 hM]
    by_cases h2 : 0 ≤ x2 ∧ x2 ≤ 7
    · rw [what8, isIn_iff, if_pos h2, if_pos h2]
      simp only [if00, if10, if_true]
      refine ⟨by trivial, fun _ => ?_, fun h => h⟩
      obtain ⟨r, hr, rfl⟩ := row_of (by omega) (j_nlt.mpr h1.1) h1.2
      obtain ⟨c, hc, rfl⟩ := col_of (n := 7) (by decide) h2
      rw [nI_clamp (by omega), nI_clamp (by omega)]
      have hh := hG.teams hr
      rw [gG_at hG.n4 hr (by omega)]
      unfold s_Model_teamTold
      match c, hc with
      | 0, _ => exact hh.1
      | 1, _ => exact hh.2.1
      | 2, _ => exact hh.2.2.1
      | 3, _ => exact hh.2.2.2.1
      | 4, _ => exact hh.2.2.2.2.1
      | 5, _ => exact hh.2.2.2.2.2.1
      | 6, _ => exact hh.2.2.2.2.2.2.1
      | 7, _ => exact hh.2.2.2.2.2.2.2
      | _ + 8, w => exact absurd w (by omega)
    · rw [what8, isIn_iff, if_neg h2, if_neg h2]
      simp only [if00, if10, if_true]
      exact ⟨by trivial, fun h => absurd h i10, fun h => h⟩
  · rw [need_out e0 h1, is_out h1 hM]
    simp only [if00, if10, if_true]
    exact ⟨rfl, fun h => absurd h i10, fun h => h⟩
theorem q_crevasse {A : TA} {K : TK} {σ τ : GL} {T : TM} {F : FM} {U : TM} {G : FM} {P : CP} {M : MO} {H : SH} {Y : SX} {x1 x2 : Int32} (hG : RG σ H Y) (hC : RC H) (hR : RR H Y) : mo_th (s_Model_crevasse M H Y x1 x2).2 = (if (s_Camp_crevasse A K σ τ T F U G P x1 x2).1 = 0 then 0 else 1) ∧ ((s_Camp_crevasse A K σ τ T F U G P x1 x2).1 = 0 → (s_Camp_crevasse A K σ τ T F U G P x1 x2).2 = (s_Model_crevasse M H Y x1 x2).1) ∧ (RT A P M → RT A P (s_Model_crevasse M H Y x1 x2).2) := by
  have e0 : (σ.1 2).2 = sh_ha H 6 := hG.n2
  have hb : sh_ha H 6 ≤ 6 := by have := hC; unfold RC at this; omega
  have hM : sh_ha H 6 ≤ 1000 := by omega
  unfold s_Camp_crevasse s_Model_crevasse s_Model_no
  by_cases h1 : 0 ≤ x1 ∧ x1 < nI (sh_ha H 6)
  · rw [need_in e0 h1, is_in h1 hM]
    by_cases h2 : 0 ≤ x2 ∧ x2 ≤ 5
    · rw [what6, isIn_iff, if_pos h2, if_pos h2]
      simp only [if00, if10, if_true]
      refine ⟨by trivial, fun _ => ?_, fun h => h⟩
      obtain ⟨r, hr, rfl⟩ := row_of (by omega) (j_nlt.mpr h1.1) h1.2
      obtain ⟨c, hc, rfl⟩ := col_of (n := 5) (by decide) h2
      rw [nI_clamp (by omega), nI_clamp (by omega)]
      have hh := hG.crev hr
      obtain ⟨kk, hk, hk0, hk3⟩ := (hR.2.2.1 r hr).2.2
      unfold s_Glacier_crevasseFact
      rw [gG_at hG.n2 hr (by omega)]
      unfold s_Model_crevasseTold
      match c, hc with
      | 0, _ => exact hh.1
      | 1, _ => exact hh.2.1
      | 2, _ =>
        show iMin 1 ((σ.1 2).1 (8 * r + 2)) = if sx_kn Y r ≤ 0 then 0 else 1
        rw [hh.2.2.1, hk]
        match kk, hk3 with
        | 0, _ => decide
        | 1, _ => decide
        | 2, _ => decide
        | 3, _ => decide
        | _ + 4, w => exact absurd w (by omega)
      | 3, _ => exact hh.2.2.2.1
      | 4, _ => exact hh.2.2.2.2.1
      | 5, _ => exact hh.2.2.2.2.2
      | _ + 6, w => exact absurd w (by omega)
    · rw [what6, isIn_iff, if_neg h2, if_neg h2]
      simp only [if00, if10, if_true]
      exact ⟨by trivial, fun h => absurd h i10, fun h => h⟩
  · rw [need_out e0 h1, is_out h1 hM]
    simp only [if00, if10, if_true]
    exact ⟨rfl, fun h => absurd h i10, fun h => h⟩
theorem gMat_eq {σ : GL} {k c1 c2 n : Nat} {v1 v2 : Int32} {g : Nat → Nat → Int32 → Int32} (hn : gN σ k = n) (h0 : ∀ i s, g 0 i s = s) (hs : ∀ k' i s, i < n → g (k' + 1) i s = g k' (i + 1) (if (σ.1 k).1 (8 * i + c1) = v1 ∧ (σ.1 k).1 (8 * i + c2) = v2 then s + 1 else s)) : gMat σ k c1 v1 c2 v2 = g n 0 0 := by
  unfold gMat
  rw [hn]
  exact tmat_eq h0 hs n 0 0 (by omega)
theorem teams_in {σ : GL} {M : MO} {H : SH} {Y : SX} {x : Int32} (hG : RG σ H Y) : gMat σ 4 2 x 4 1 = s_Model_teamsIn M H Y x := by
  refine gMat_eq hG.n4 (g := l_Model_teamsIn_5 M H Y x) (fun _ _ => rfl) fun k i s hi => ?_
  have hh := hG.teams hi
  show (if (sx_he Y) i = 1 then (if (sx_pl Y) i = x then l_Model_teamsIn_5 M H Y x k (i + 1) (s + 1) else l_Model_teamsIn_5 M H Y x k (i + 1) (s + 0)) else l_Model_teamsIn_5 M H Y x k (i + 1) (s + 0)) = _
  rw [hh.2.2.1, hh.2.2.2.2.1, Int32.add_zero]
  by_cases h1 : sx_he Y i = 1
  · by_cases h2 : sx_pl Y i = x
    · rw [if_pos h1, if_pos h2, if_pos ⟨h2, h1⟩]
    · rw [if_pos h1, if_neg h2, if_neg (fun w => h2 w.1)]
  · rw [if_neg h1, if_neg (fun w => h1 w.2)]
theorem q_band {A : TA} {K : TK} {σ τ : GL} {T : TM} {F : FM} {U : TM} {G : FM} {P : CP} {M : MO} {H : SH} {Y : SX} {x1 x2 : Int32} (hG : RG σ H Y) (hC : RC H) (hR : RR H Y) : mo_th (s_Model_band M H Y x1 x2).2 = (if (s_Camp_band A K σ τ T F U G P x1 x2).1 = 0 then 0 else 1) ∧ ((s_Camp_band A K σ τ T F U G P x1 x2).1 = 0 → (s_Camp_band A K σ τ T F U G P x1 x2).2 = (s_Model_band M H Y x1 x2).1) ∧ (RT A P M → RT A P (s_Model_band M H Y x1 x2).2) := by
  have e0 : (σ.1 0).2 = sh_ha H 0 := hG.n0
  have hb : sh_ha H 0 ≤ 6 := by have := hC; unfold RC at this; omega
  have hM : sh_ha H 0 ≤ 1000 := by omega
  unfold s_Camp_band s_Model_band s_Model_no
  by_cases h1 : 0 ≤ x1 ∧ x1 < nI (sh_ha H 0)
  · rw [need_in e0 h1, is_in h1 hM]
    by_cases h2 : 0 ≤ x2 ∧ x2 ≤ 5
    · rw [what6, isIn_iff, if_pos h2, if_pos h2]
      simp only [if00, if10, if_true]
      refine ⟨by trivial, fun _ => ?_, fun h => h⟩
      obtain ⟨r, hr, rfl⟩ := row_of (by omega) (j_nlt.mpr h1.1) h1.2
      obtain ⟨c, hc, rfl⟩ := col_of (n := 5) (by decide) h2
      rw [nI_clamp (by omega), nI_clamp (by omega)]
      have hh := hG.bands hr
      unfold s_Glacier_bandFact
      rw [gG_at hG.n0 hr (by omega)]
      unfold s_Model_bandTold
      match c, hc with
      | 0, _ => exact hh.1
      | 1, _ => exact hh.2.1
      | 2, _ => exact hh.2.2
      | 3, _ => exact teams_in hG
      | 4, _ =>
        show gMat σ 1 0 (nI r) 3 1 = l_Model_bandTold_79 _ H Y r _ (sh_ha H 3) 0 0
        refine gMat_eq hG.n1 (g := l_Model_bandTold_79 (mo_th' M 0) H Y r (nI 4)) (fun _ _ => rfl) fun k i s hi => ?_
        have h9 := hG.stakes hi
        obtain ⟨b, e, -, hb1⟩ := (hR.2.1 i hi).2.1
        show (if (sh_si H) i = nI r then l_Model_bandTold_79 _ H Y r _ k (i + 1) (s + (sx_sd Y) i) else l_Model_bandTold_79 _ H Y r _ k (i + 1) (s + 0)) = _
        rw [h9.1, h9.2.2.2.1, Int32.add_zero]
        by_cases h1 : sh_si H i = nI r
        · rw [if_pos h1, e]
          match b, hb1 with
          | 0, _ => rw [if_neg (fun w => absurd w.2 (by decide)), nI_0, Int32.add_zero]
          | 1, _ => rw [if_pos ⟨h1, rfl⟩]; rfl
          | _ + 2, w => exact absurd w (by omega)
        · rw [if_neg h1, if_neg (fun w => h1 w.1)]
      | 5, _ =>
        show gMat σ 2 0 (nI r) 0 (nI r) = l_Model_bandTold_135 _ H Y r _ (sh_ha H 6) 0 0
        refine gMat_eq hG.n2 (g := l_Model_bandTold_135 (mo_th' M 0) H Y r (nI 5)) (fun _ _ => rfl) fun k i s hi => ?_
        have h9 := hG.crev hi
        show (if (sh_ab H) i = nI r then l_Model_bandTold_135 _ H Y r _ k (i + 1) (s + 1) else l_Model_bandTold_135 _ H Y r _ k (i + 1) (s + 0)) = _
        rw [h9.1, Int32.add_zero]
        by_cases h1 : sh_ab H i = nI r
        · rw [if_pos h1, if_pos ⟨h1, h1⟩]
        · rw [if_neg h1, if_neg (fun w => h1 w.1)]
      | _ + 6, w => exact absurd w (by omega)
    · rw [what6, isIn_iff, if_neg h2, if_neg h2]
      simp only [if00, if10, if_true]
      exact ⟨by trivial, fun h => absurd h i10, fun h => h⟩
  · rw [need_out e0 h1, is_out h1 hM]
    simp only [if00, if10, if_true]
    exact ⟨rfl, fun h => absurd h i10, fun h => h⟩
