/-! the pure part: filling, drilling -/
theorem iMin_comm (x y : Int32) : iMin x y = iMin y x := by
  unfold iMin
  by_cases h : y < x
  · have h2 : ¬ x < y := by rw [Int32.lt_iff_toInt_lt] at *; omega
    rw [if_pos h, if_neg h2]
  · by_cases h2 : x < y
    · rw [if_neg h, if_pos h2]
    · rw [if_neg h, if_neg h2]
      exact Int32.toInt_inj.mp (by rw [Int32.lt_iff_toInt_lt] at *; omega)
theorem iMin_nI {a b : Nat} (ha : a < 2 ^ 31) (hb : b < 2 ^ 31) : iMin (nI a) (nI b) = nI (min a b) := by
  unfold iMin
  by_cases h : b < a
  · rw [if_pos ((nI_ltI hb ha).mpr h), Nat.min_eq_right (by omega)]
  · rw [if_neg (fun w => h ((nI_ltI hb ha).mp w)), Nat.min_eq_left (by omega)]
theorem amt {x : Int32} {s f : Nat} (hs : s ≤ 40) (hf : f ≤ 999) : ∃ n, iMin (iMax 0 (iMin x (40 - nI s))) (nI f) = nI n ∧ n ≤ f ∧ n ≤ 40 - s := by
  rw [show (40 : Int32) - nI s = nI (40 - s) from nI_subn (a := 40) hs]
  by_cases hx : x < 0
  · have h1 : iMin x (nI (40 - s)) = x := by
      unfold iMin
      rw [if_neg]
      intro w
      rw [Int32.lt_iff_toInt_lt, nI_toInt (by omega)] at w
      rw [Int32.lt_iff_toInt_lt, show (0 : Int32).toInt = 0 from by decide] at hx
      omega
    have h2 : iMax 0 x = nI 0 := by
      unfold iMax
      rw [if_neg, nI_0]
      intro w
      rw [Int32.lt_iff_toInt_lt] at w hx
      omega
    rw [h1, h2, iMin_nI (by omega) (by omega)]
    exact ⟨_, rfl, by omega, by omega⟩
  · obtain ⟨k, hk, rfl⟩ := nI_of hx
    rw [iMin_nI hk (by omega)]
    have h2 : iMax 0 (nI (min k (40 - s))) = nI (min k (40 - s)) := by
      unfold iMax
      by_cases e : min k (40 - s) = 0
      · rw [e]; decide
      · rw [if_pos]
        rw [Int32.lt_iff_toInt_lt, nI_toInt (by omega), show (0 : Int32).toInt = 0 from by decide]
        omega
    rw [h2, iMin_nI (by omega) (by omega)]
    exact ⟨_, rfl, by omega, by omega⟩
theorem store_eq {σ : GL} {H : SH} {Y : SX} {M : MO} {t : Nat} (hB : RB σ H Y) (hC : RC H) : ∀ k i, i + k ≤ sh_ha H 9 → l_Glacier_firstStore_2 (sx_pl Y t) σ k i = l_Model_depotOf_2 M H Y t k i ∧ (l_Model_depotOf_2 M H Y t k i = -1 ∨ ∃ j, j < sh_ha H 9 ∧ l_Model_depotOf_2 M H Y t k i = nI j) := by
  intro k
  induction k with
  | zero => intro i _; exact ⟨rfl, Or.inl rfl⟩
  | succ k ih =>
    intro i h
    obtain ⟨a1, a2⟩ := ih (i + 1) (by omega)
    rw [l_Glacier_firstStore_2, l_Model_depotOf_2, hB.g_3_0 (by omega) hC, hB.g_3_1 (by omega) hC, a1]
    by_cases e : sh_di H i = sx_pl Y t
    · by_cases e2 : sx_fo Y i ≤ 0
      · rw [if_pos e, if_pos e2]
        exact ⟨rfl, a2⟩
      · rw [if_pos e, if_neg e2]
        exact ⟨rfl, Or.inr ⟨i, by omega, rfl⟩⟩
    · rw [if_neg e]
      exact ⟨rfl, a2⟩
theorem takeFood_eq {σ : GL} {H : SH} {Y : SX} {M : MO} {t : Nat} {x : Int32} (hG : RG σ H Y) (hC : RC H) (hR : RR H Y) (ht : t < sh_ha H 11) : (s_Glacier_takeFood σ (nI t) x).1 = (s_Model_filled M H Y t x).1 ∧ RG (s_Glacier_takeFood σ (nI t) x).2 H (s_Model_filled M H Y t x).2 ∧ RR H (s_Model_filled M H Y t x).2 ∧ sx_dy (s_Model_filled M H Y t x).2 = sx_dy Y ∧ btw 0 (s_Model_filled M H Y t x).1 40 := by
  have h4 : sh_ha H 11 ≤ 1000 := by unfold RC at hC; omega
  have h9 : sh_ha H 9 ≤ 4 := hC.2.2.2.1
  obtain ⟨-, -, ⟨s, hs, -, hs4⟩, ⟨e1, he1, -, he2⟩, -⟩ := hR.2.2.2.2 t ht
  obtain ⟨d1, d2⟩ := store_eq (M := M) (t := t) hG.rb hC (sh_ha H 9) 0 (by omega)
  have hst : s_Glacier_firstStore σ (sx_pl Y t) = s_Model_depotOf M H Y t := by
    unfold s_Glacier_firstStore s_Model_depotOf
    rw [hG.n3]
    exact d1
  unfold s_Glacier_takeFood s_Model_filled s_Glacier_isHere
  rw [hG.rb.g_4_4 ht hC, hG.rb.g_4_2 ht hC, hG.rb.g_4_1 ht hC, hst]
  have nil : RG σ H Y ∧ RR H Y := ⟨hG, hR⟩
  rw [he1]
  match e1, he2 with
  | _ + 2, w => exact absurd w (by omega)
  | 0, _ =>
    rw [if_neg (c := (nI 0 : Int32) = 1) (by decide), if00, if_pos (c := (nI 0 : Int32) = 0) rfl]
    exact ⟨rfl, hG, hR, rfl, 0, rfl, by omega, by omega⟩
  | 1, _ =>
    rw [if_pos (c := (nI 1 : Int32) = 1) rfl, if10, if_neg (c := (nI 1 : Int32) = 0) (by decide)]
    have d3 : s_Model_depotOf M H Y t = -1 ∨ ∃ j, j < sh_ha H 9 ∧ s_Model_depotOf M H Y t = nI j := d2
    rcases d3 with e | ⟨j, hj, e⟩
    · rw [e, if_neg (c := (0 : Int32) ≤ -1) (by decide), if_pos (c := (-1 : Int32) = -1) rfl]
      exact ⟨rfl, hG, hR, rfl, 0, rfl, by omega, by omega⟩
    · have hne : ¬ nI j = -1 := fun w => by
        have := nI_pos (n := j) (by omega)
        rw [w] at this
        exact this (by decide)
      obtain ⟨f, hf, -, hf9⟩ := (hR.2.2.2.1 j hj).2
      obtain ⟨n, hn, hn1, hn2⟩ := amt (x := x) hs4 hf9
      rw [e, if_pos (nI_pos' (n := j) (by omega)), if_neg hne, nI_clamp (by omega), hG.rb.g_3_1 hj hC, iMin_comm (sx_fo Y j), iMin_comm (40 - sx_sk Y t) x, hs, hf, hn]
      obtain ⟨Y1, h1⟩ : ∃ Z, Z = sx_fo' Y (upd (sx_fo Y) j (sx_fo Y j + -nI n)) := ⟨_, rfl⟩
      have s1 := sx_set_fo h1
      obtain ⟨σ1, c1⟩ : ∃ s, s = gA σ 3 (nI j) 1 (-nI n) := ⟨_, rfl⟩
      have b1 : RB σ1 H Y1 := by rw [c1, gA_at (hG.rb.g_3_1 hj hC), h1]; exact hG.rb.w_3_1 hj (by omega)
      have v1 : sx_fo Y j + -nI n = nI (f - n) := by rw [hf, ← Int32.sub_eq_add_neg, nI_subn hn1]
      have r1 : RR H Y1 := by rw [h1]; exact hR.w_fo (by rw [v1]; exact ⟨f - n, rfl, by omega, by omega⟩)
      have p1 : sx_sk Y1 = sx_sk Y := by simp only [s1]
      obtain ⟨Y2, h2⟩ : ∃ Z, Z = sx_sk' Y1 (upd (sx_sk Y1) t (sx_sk Y1 t + nI n)) := ⟨_, rfl⟩
      have s2 := sx_set_sk h2
      have b2 : RB (gA σ1 4 (nI t) 1 (nI n)) H Y2 := by rw [gA_at (b1.g_4_1 ht hC), h2]; exact b1.w_4_1 ht h4
      have r2 : RR H Y2 := by rw [h2]; exact r1.w_sk (by rw [p1, hs, nI_add]; exact ⟨s + n, rfl, by omega, by omega⟩)
      have m : sx_sk' (sx_fo' Y (upd (sx_fo Y) j (nI f - nI n))) (upd (sx_sk Y) t (nI s + nI n)) = Y2 := by
        rw [h2, p1, hs, h1, hf, Int32.sub_eq_add_neg]
      rw [m, ← c1]
      refine ⟨rfl, b2.rg ⟨?_, ?_⟩, r2, by simp only [s1, s2], n, rfl, by omega, by omega⟩
      · simp only [s1, s2]; exact hG.ru.1
      · simp only [s1, s2]; exact hG.ru.2
theorem q_fill {A : TA} {K : TK} {σ τ : GL} {T : TM} {F : FM} {U : TM} {G : FM} {P : CP} {M : MO} {H : SH} {Y : SX} {x1 x2 : Int32} (hG : RG σ H Y) (hC : RC H) (hR : RR H Y) : mo_th (s_Model_fill_0 M H Y x1 x2).2.1 = (if (s_Camp_fill A K σ τ T F U G P x1 x2).1 = 0 then 0 else if (s_Camp_fill A K σ τ T F U G P x1 x2).1 = 1 then 1 else if (s_Camp_fill A K σ τ T F U G P x1 x2).1 = 2 then 2 else 3) ∧ ((s_Camp_fill A K σ τ T F U G P x1 x2).1 = 0 → (s_Camp_fill A K σ τ T F U G P x1 x2).2.1 = (s_Model_fill_0 M H Y x1 x2).1) ∧ RG (s_Camp_fill A K σ τ T F U G P x1 x2).2.2 H (s_Model_fill_0 M H Y x1 x2).2.2 ∧ RR H (s_Model_fill_0 M H Y x1 x2).2.2 ∧ sx_dy (s_Model_fill_0 M H Y x1 x2).2.2 = sx_dy Y ∧ (RT A P M → RT A P (s_Model_fill_0 M H Y x1 x2).2.1) := by
  have e0 : (σ.1 4).2 = sh_ha H 11 := hG.n4
  have hM : sh_ha H 11 ≤ 1000 := by unfold RC at hC; omega
  unfold s_Camp_fill s_Model_fill_0 s_Model_no
  by_cases h1 : 0 ≤ x1 ∧ x1 < nI (sh_ha H 11)
  · rw [need_in e0 h1, is_in h1 hM, if00, if10, range_iff, isIn_iff]
    obtain ⟨r, hr, rfl⟩ := row_of hM (j_nlt.mpr h1.1) h1.2
    rw [nI_clamp (by omega)]
    by_cases h2 : 1 ≤ x2 ∧ x2 ≤ 40
    · rw [if_pos h2, if_pos h2, if00, if10]
      obtain ⟨a1, a2, a3, a4, n, a5, -, a6⟩ := takeFood_eq (M := mo_th' M 0) (x := x2) hG hC hR hr
      rw [a1, a5]
      match n, a6 with
      | 0, _ =>
        rw [if_pos (c := (nI 0 : Int32) = 0) rfl, if_pos (c := (nI 0 : Int32) ≤ 0) (by decide)]
        exact ⟨rfl, fun h => absurd h i30, a2, a3, a4, fun h => h⟩
      | n + 1, a6 =>
        rw [if_neg (c := (nI (n + 1) : Int32) = 0) (nI_ne0 (by omega) (by omega)), if_neg (c := (nI (n + 1) : Int32) ≤ 0) (nI_nle (by omega) (by omega))]
        exact ⟨rfl, fun _ => rfl, a2, a3, a4, fun h => h⟩
    · rw [if_neg h2, if_neg h2, if20, if00]
      exact ⟨rfl, fun h => absurd h i20, hG, hR, rfl, fun h => h⟩
  · rw [need_out e0 h1, is_out h1 hM, if10, if00]
    exact ⟨rfl, fun h => absurd h i10, hG, hR, rfl, fun h => h⟩
theorem tryDrill_eq {σ : GL} {H : SH} {Y : SX} {M : MO} {r : Nat} (hG : RG σ H Y) (hC : RC H) (hR : RR H Y) (hr : r < sh_ha H 3) : (s_Glacier_tryDrill σ (nI r)).1 = (s_Model_drilled M H Y r).1 ∧ RG (s_Glacier_tryDrill σ (nI r)).2 H (s_Model_drilled M H Y r).2 ∧ RR H (s_Model_drilled M H Y r).2 ∧ sx_dy (s_Model_drilled M H Y r).2 = sx_dy Y ∧ ((s_Model_drilled M H Y r).1 = 0 ∨ (s_Model_drilled M H Y r).1 = 1) := by
  have h3 : sh_ha H 3 ≤ 1000 := by unfold RC at hC; omega
  obtain ⟨-, ⟨d, hd, -, hd1⟩, dd, sk1, sk2, sk3, -⟩ := hR.2.1 r hr
  unfold s_Glacier_tryDrill s_Model_drilled
  rw [gH_at hG.n1 h3 (by omega), if_pos hr, if10, hG.rb.g_1_3 hr hC, hG.rb.g_1_0 hr hC, teams_in (M := M) hG, hd]
  match d, hd1 with
  | _ + 2, w => exact absurd w (by omega)
  | 1, _ =>
    rw [if_neg (c := (nI 1 : Int32) = 0) (by decide), if_pos (c := (nI 1 : Int32) = 1) rfl]
    exact ⟨rfl, hG, hR, rfl, Or.inl rfl⟩
  | 0, _ =>
    rw [if_pos (c := (nI 0 : Int32) = 0) rfl, if_neg (c := (nI 0 : Int32) = 1) (by decide)]
    by_cases h : s_Model_teamsIn M H Y (sh_si H r) = 0
    · rw [if_pos h, if_pos h]
      exact ⟨rfl, hG, hR, rfl, Or.inl rfl⟩
    · rw [if_neg h, if_neg h]
      obtain ⟨Y1, h1⟩ : ∃ Z, Z = sx_sd' Y (upd (sx_sd Y) r 1) := ⟨_, rfl⟩
      have s1 := sx_set_sd h1
      have b1 : RB (gS σ 1 (nI r) 3 1) H Y1 := by rw [h1]; exact hG.rb.w_1_3 hr h3
      have p1 : sx_ou Y1 = sx_ou Y := by simp only [s1]
      obtain ⟨Y2, h2⟩ : ∃ Z, Z = sx_ou' Y1 (upd (sx_ou Y1) r 0) := ⟨_, rfl⟩
      have s2 := sx_set_ou h2
      have b2 : RB (gS (gS σ 1 (nI r) 3 1) 1 (nI r) 2 0) H Y2 := by rw [h2]; exact b1.w_1_2 hr h3
      obtain ⟨W1, w1⟩ : ∃ Z, Z = sx_ou' Y (upd (sx_ou Y) r 0) := ⟨_, rfl⟩
      have u1 := sx_set_ou w1
      have q1 : RR H W1 := by rw [w1]; exact hR.w_ou (fun _ d e _ => ⟨0, nI_0.symm, by
        rw [sk1] at e
        have := (nI_eq (a := dd) (b := d) (by omega) (by omega)).mp e
        omega⟩)
      obtain ⟨W2, w2⟩ : ∃ Z, Z = sx_sd' W1 (upd (sx_sd W1) r 1) := ⟨_, rfl⟩
      have u2 := sx_set_sd w2
      have q2 : RR H W2 := by rw [w2]; exact q1.w_sd1 ⟨0, dd, by rw [w1]; exact (upd_at _ _ _).trans nI_0.symm, sk1, sk2, sk3, by omega⟩
      have eW : W2 = Y2 := sx_ext (by simp only [s1, s2, u1, u2]) (by simp only [s1, s2, u1, u2]) (by simp only [s1, s2, u1, u2]) (by simp only [s1, s2, u1, u2]) (by simp only [s1, s2, u1, u2]) (by simp only [s1, s2, u1, u2]) (by simp only [s1, s2, u1, u2]) (by simp only [s1, s2, u1, u2]) (by simp only [s1, s2, u1, u2]) (by simp only [s1, s2, u1, u2]) (by simp only [s1, s2, u1, u2]) (by simp only [s1, s2, u1, u2]) (by simp only [s1, s2, u1, u2]) (by simp only [s1, s2, u1, u2]) (by simp only [s1, s2, u1, u2]) (by simp only [s1, s2, u1, u2]) (by simp only [s1, s2, u1, u2]) (by simp only [s1, s2, u1, u2]) (by simp only [s1, s2, u1, u2]) (by simp only [s1, s2, u1, u2]) (by simp only [s1, s2, u1, u2]) (by simp only [s1, s2, u1, u2]) (by simp only [s1, s2, u1, u2]) (by simp only [s1, s2, u1, u2])
      have r2 : RR H Y2 := by rw [← eW]; exact q2
      have m : sx_ou' (sx_sd' Y (upd (sx_sd Y) r 1)) (upd (sx_ou Y) r 0) = Y2 := by rw [h2, p1, h1]
      rw [m]
      refine ⟨rfl, b2.rg ⟨?_, ?_⟩, r2, by simp only [s1, s2], Or.inr rfl⟩
      · simp only [s1, s2]; exact hG.ru.1
      · simp only [s1, s2]; exact hG.ru.2
