/-! the pure part: probing; the calls go, probe, safe, stock -/
theorem tryProbe_eq {σ : GL} {H : SH} {Y : SX} {M : MO} {t j : Nat} (hG : RG σ H Y) (hC : RC H) (hR : RR H Y) (ht : t < sh_ha H 11) (hj : j < sh_ha H 6) : (s_Glacier_tryProbe σ (nI t) (nI j)).1 = (s_Model_probed M H Y t j).1 ∧ RG (s_Glacier_tryProbe σ (nI t) (nI j)).2 H (s_Model_probed M H Y t j).2 ∧ RR H (s_Model_probed M H Y t j).2 ∧ sx_dy (s_Model_probed M H Y t j).2 = sx_dy Y ∧ ((s_Model_probed M H Y t j).1 = 0 ∨ (s_Model_probed M H Y t j).1 = 1) := by
  have h4 : sh_ha H 11 ≤ 1000 := by unfold RC at hC; omega
  have h6 : sh_ha H 6 ≤ 1000 := by unfold RC at hC; omega
  have hcp : s_Model_canProbe M H Y t j = if sx_he Y t = 1 ∧ sx_do Y t = 0 ∧ 0 ≤ sx_pl Y t - sh_ab H j ∧ sx_pl Y t - sh_ab H j ≤ 1 then 1 else 0 := by
    unfold s_Model_canProbe
    rw [isIn_iff]
    by_cases a : sx_he Y t = 1
    · by_cases b : sx_do Y t = 0
      · by_cases c : 0 ≤ sx_pl Y t - sh_ab H j ∧ sx_pl Y t - sh_ab H j ≤ 1
        · rw [if_pos a, if_pos b, if_pos c, if10, if_pos ⟨a, b, c⟩]
        · rw [if_pos a, if_pos b, if_neg c, if00, if_neg (fun w => c w.2.2)]
      · rw [if_pos a, if_neg b, if_neg (fun w => b w.2.1)]
    · rw [if_neg a, if_neg (fun w => a w.1)]
  unfold s_Glacier_tryProbe s_Model_probed
  rw [canDo_eq hG.rb hC ht, gH_at hG.n2 (by omega) (by omega), if_pos hj, hG.rb.g_4_2 ht hC, hG.rb.g_2_0 hj hC, hcp]
  by_cases h : sx_he Y t = 1 ∧ sx_do Y t = 0 ∧ 0 ≤ sx_pl Y t - sh_ab H j ∧ sx_pl Y t - sh_ab H j ≤ 1
  · rw [if_pos h, if_pos (c := sx_he Y t = 1 ∧ sx_do Y t = 0) ⟨h.1, h.2.1⟩, if_neg i10, if_neg i10, if_neg (j_nlt.mpr h.2.2.1), if_pos h.2.2.2, if_neg i10]
    obtain ⟨Y1, h1⟩ : ∃ Z, Z = sx_kn' Y (upd (sx_kn Y) j 3) := ⟨_, rfl⟩
    have s1 := sx_set_kn h1
    obtain ⟨σ1, c1⟩ : ∃ s, s = gS σ 2 (nI j) 2 3 := ⟨_, rfl⟩
    have b1 : RB σ1 H Y1 := by rw [c1, h1]; exact hG.rb.w_2_2 hj h6
    have r1 : RR H Y1 := by rw [h1]; exact hR.w_kn ⟨3, rfl, by omega, by omega⟩
    have p1 : sx_br Y1 = sx_br Y := by simp only [s1]
    obtain ⟨Y2, h2⟩ : ∃ Z, Z = sx_pr' Y1 (upd (sx_pr Y1) j (sx_br Y j)) := ⟨_, rfl⟩
    have s2 := sx_set_pr h2
    obtain ⟨σ2, c2⟩ : ∃ s, s = gS σ1 2 (nI j) 3 (gG σ1 2 (nI j) 1) := ⟨_, rfl⟩
    have b2 : RB σ2 H Y2 := by rw [c2, b1.g_2_1 hj hC, p1, h2]; exact b1.w_2_3 hj h6
    have r2 : RR H Y2 := by rw [h2]; exact r1
    obtain ⟨Y3, h3⟩ : ∃ Z, Z = sx_do' Y2 (upd (sx_do Y2) t 1) := ⟨_, rfl⟩
    have s3 := sx_set_do h3
    have b3 : RB (gS σ2 4 (nI t) 7 1) H Y3 := by rw [h3]; exact b2.w_4_7 ht h4
    have r3 : RR H Y3 := by rw [h3]; exact r2.w_do ⟨1, rfl, by omega, by omega⟩
    obtain ⟨Z1, z1⟩ : ∃ Z, Z = sx_kn' Y (upd (sx_kn Y) j 3) := ⟨_, rfl⟩
    have t1 := sx_set_kn z1
    obtain ⟨Z2, z2⟩ : ∃ Z, Z = sx_pr' Z1 (upd (sx_pr Y) j (sx_br Y j)) := ⟨_, rfl⟩
    have t2 := sx_set_pr z2
    obtain ⟨Z3, z3⟩ : ∃ Z, Z = sx_do' Z2 (upd (sx_do Y) t 1) := ⟨_, rfl⟩
    have t3 := sx_set_do z3
    have m : s_Model_look M H Y t j = Z3 := by rw [z3, z2, z1]; rfl
    have eY : Z3 = Y3 := sx_ext (by simp only [s1, s2, s3, t1, t2, t3]) (by simp only [s1, s2, s3, t1, t2, t3]) (by simp only [s1, s2, s3, t1, t2, t3]) (by simp only [s1, s2, s3, t1, t2, t3]) (by simp only [s1, s2, s3, t1, t2, t3]) (by simp only [s1, s2, s3, t1, t2, t3]) (by simp only [s1, s2, s3, t1, t2, t3]) (by simp only [s1, s2, s3, t1, t2, t3]) (by simp only [s1, s2, s3, t1, t2, t3]) (by simp only [s1, s2, s3, t1, t2, t3]) (by simp only [s1, s2, s3, t1, t2, t3]) (by simp only [s1, s2, s3, t1, t2, t3]) (by simp only [s1, s2, s3, t1, t2, t3]) (by simp only [s1, s2, s3, t1, t2, t3]) (by simp only [s1, s2, s3, t1, t2, t3]) (by simp only [s1, s2, s3, t1, t2, t3]) (by simp only [s1, s2, s3, t1, t2, t3]) (by simp only [s1, s2, s3, t1, t2, t3]) (by simp only [s1, s2, s3, t1, t2, t3]) (by simp only [s1, s2, s3, t1, t2, t3]) (by simp only [s1, s2, s3, t1, t2, t3]) (by simp only [s1, s2, s3, t1, t2, t3]) (by simp only [s1, s2, s3, t1, t2, t3]) (by simp only [s1, s2, s3, t1, t2, t3])
    rw [m, eY, ← c1, ← c2]
    refine ⟨rfl, b3.rg ⟨?_, ?_⟩, r3, by simp only [s1, s2, s3], Or.inr rfl⟩
    · simp only [s1, s2, s3]; exact hG.ru.1
    · simp only [s1, s2, s3]; exact hG.ru.2
  · rw [if_neg h, if_pos (c := (0 : Int32) = 0) rfl]
    have fin : ∀ p : Int32 × GL, p = (0, σ) → p.1 = (0 : Int32) ∧ RG p.2 H Y ∧ RR H Y ∧ sx_dy Y = sx_dy Y ∧ ((0 : Int32) = 0 ∨ (0 : Int32) = 1) := fun p hp => by rw [hp]; exact ⟨rfl, hG, hR, rfl, Or.inl rfl⟩
    refine fin _ ?_
    by_cases a : sx_he Y t = 1 ∧ sx_do Y t = 0
    · rw [if_pos a, if10, if10]
      by_cases b : sx_pl Y t - sh_ab H j < 0
      · rw [if_pos b]
      · rw [if_neg b]
        by_cases c : sx_pl Y t - sh_ab H j ≤ 1
        · exact absurd ⟨a.1, a.2, j_nlt.mp b, c⟩ h
        · rw [if_neg c]
    · rw [if_neg a, if00]
theorem q_go {A : TA} {K : TK} {σ τ : GL} {T : TM} {F : FM} {U : TM} {G : FM} {P : CP} {M : MO} {H : SH} {Y : SX} {x1 x2 : Int32} (hG : RG σ H Y) (hC : RC H) (hR : RR H Y) : mo_th (s_Model_go M H Y x1 x2).2.1 = (if (s_Camp_go A K σ τ T F U G P x1 x2).1 = 0 then 0 else if (s_Camp_go A K σ τ T F U G P x1 x2).1 = 1 then 1 else 2) ∧ ((s_Camp_go A K σ τ T F U G P x1 x2).1 = 0 → (s_Camp_go A K σ τ T F U G P x1 x2).2.1 = (s_Model_go M H Y x1 x2).1) ∧ RG (s_Camp_go A K σ τ T F U G P x1 x2).2.2 H (s_Model_go M H Y x1 x2).2.2 ∧ RR H (s_Model_go M H Y x1 x2).2.2 ∧ sx_dy (s_Model_go M H Y x1 x2).2.2 = sx_dy Y ∧ (RT A P M → RT A P (s_Model_go M H Y x1 x2).2.1) := by
  have e0 : (σ.1 4).2 = sh_ha H 11 := hG.n4
  have hM : sh_ha H 11 ≤ 1000 := by unfold RC at hC; omega
  unfold s_Camp_go s_Model_go s_Model_no
  by_cases h1 : 0 ≤ x1 ∧ x1 < nI (sh_ha H 11)
  · rw [need_in e0 h1, is_in h1 hM, if00, if10]
    obtain ⟨r, hr, rfl⟩ := row_of hM (j_nlt.mpr h1.1) h1.2
    rw [nI_clamp (by omega)]
    obtain ⟨a1, a2, a3, a4, a5⟩ := tryGo_eq (M := mo_th' M 0) (x := x2) hG hC hR hr
    rw [a1]
    rcases a5 with e | e
    · rw [e, if00, if00]
      exact ⟨rfl, fun h => absurd h i30, a2, a3, a4, fun h => h⟩
    · rw [e, if10, if10]
      exact ⟨rfl, fun _ => a2.rb.g_4_2 hr hC, a2, a3, a4, fun h => h⟩
  · rw [need_out e0 h1, is_out h1 hM, if10, if00]
    exact ⟨rfl, fun h => absurd h i10, hG, hR, rfl, fun h => h⟩
theorem q_probe {A : TA} {K : TK} {σ τ : GL} {T : TM} {F : FM} {U : TM} {G : FM} {P : CP} {M : MO} {H : SH} {Y : SX} {x1 x2 : Int32} (hG : RG σ H Y) (hC : RC H) (hR : RR H Y) : mo_th (s_Model_probe M H Y x1 x2).2.1 = (if (s_Camp_probe A K σ τ T F U G P x1 x2).1 = 0 then 0 else if (s_Camp_probe A K σ τ T F U G P x1 x2).1 = 1 then 1 else 2) ∧ ((s_Camp_probe A K σ τ T F U G P x1 x2).1 = 0 → (s_Camp_probe A K σ τ T F U G P x1 x2).2.1 = (s_Model_probe M H Y x1 x2).1) ∧ RG (s_Camp_probe A K σ τ T F U G P x1 x2).2.2 H (s_Model_probe M H Y x1 x2).2.2 ∧ RR H (s_Model_probe M H Y x1 x2).2.2 ∧ sx_dy (s_Model_probe M H Y x1 x2).2.2 = sx_dy Y ∧ (RT A P M → RT A P (s_Model_probe M H Y x1 x2).2.1) := by
  have e0 : (σ.1 4).2 = sh_ha H 11 := hG.n4
  have e2 : (σ.1 2).2 = sh_ha H 6 := hG.n2
  have hM : sh_ha H 11 ≤ 1000 := by unfold RC at hC; omega
  have hN : sh_ha H 6 ≤ 1000 := by unfold RC at hC; omega
  unfold s_Camp_probe s_Model_probe s_Model_no
  by_cases h1 : 0 ≤ x1 ∧ x1 < nI (sh_ha H 11)
  · rw [need_in e0 h1, is_in h1 hM, if00, if10]
    obtain ⟨r, hr, rfl⟩ := row_of hM (j_nlt.mpr h1.1) h1.2
    by_cases h2 : 0 ≤ x2 ∧ x2 < nI (sh_ha H 6)
    · rw [need_in e2 h2, is_in h2 hN, if00, if10]
      obtain ⟨j, hj, rfl⟩ := row_of hN (j_nlt.mpr h2.1) h2.2
      rw [nI_clamp (by omega), nI_clamp (by omega)]
      obtain ⟨a1, a2, a3, a4, a5⟩ := tryProbe_eq (M := mo_th' M 0) hG hC hR hr hj
      rw [a1]
      rcases a5 with e | e
      · rw [e, if00, if00]
        exact ⟨rfl, fun h => absurd h i30, a2, a3, a4, fun h => h⟩
      · rw [e, if10, if10]
        exact ⟨rfl, fun _ => a2.rb.g_2_1 hj hC, a2, a3, a4, fun h => h⟩
    · rw [need_out e2 h2, is_out h2 hN, if10, if00]
      exact ⟨rfl, fun h => absurd h i10, hG, hR, rfl, fun h => h⟩
  · rw [need_out e0 h1, is_out h1 hM, if10, if00]
    exact ⟨rfl, fun h => absurd h i10, hG, hR, rfl, fun h => h⟩
theorem q_safe {A : TA} {K : TK} {σ τ : GL} {T : TM} {F : FM} {U : TM} {G : FM} {P : CP} {M : MO} {H : SH} {Y : SX} {x1 x2 : Int32} (hG : RG σ H Y) (hC : RC H) (hR : RR H Y) : mo_th (s_Model_safe M H Y x1 x2).2 = (if (s_Camp_safe A K σ τ T F U G P x1 x2).1 = 0 then 0 else 1) ∧ ((s_Camp_safe A K σ τ T F U G P x1 x2).1 = 0 → (s_Camp_safe A K σ τ T F U G P x1 x2).2 = (s_Model_safe M H Y x1 x2).1) ∧ (RT A P M → RT A P (s_Model_safe M H Y x1 x2).2) := by
  have e0 : (σ.1 4).2 = sh_ha H 11 := hG.n4
  have hM : sh_ha H 11 ≤ 1000 := by unfold RC at hC; omega
  unfold s_Camp_safe s_Model_safe
  by_cases h1 : 0 ≤ x1 ∧ x1 < nI (sh_ha H 11)
  · rw [need_in e0 h1, is_in h1 hM, if00, if10]
    obtain ⟨r, hr, rfl⟩ := row_of hM (j_nlt.mpr h1.1) h1.2
    rw [nI_clamp (by omega)]
    obtain ⟨f1, f2⟩ := fall_eq (M := mo_th' M 0) (x := x2) hG.rb hC hr
    rw [canGo_eq (M := mo_th' M 0) hG.rb hC hR hr, f1]
    by_cases h : s_Model_canGo (mo_th' M 0) H Y r x2 = 0
    · rw [if_pos h, if_pos h]
      exact ⟨rfl, fun _ => rfl, fun h => h⟩
    · rw [if_neg h, if_neg h]
      rcases f2 with e | ⟨j, hj, e⟩
      · rw [e, if_neg (c := (0 : Int32) ≤ -1) (by decide), if_pos (c := (-1 : Int32) = -1) rfl]
        exact ⟨rfl, fun _ => rfl, fun h => h⟩
      · have hj6 : sh_ha H 6 ≤ 4 := hC.2.2.1
        have hne : ¬ nI j = -1 := fun w => by
          have := nI_pos (n := j) (by omega)
          rw [w] at this
          exact this (by decide)
        rw [e, if_pos (nI_pos' (by omega)), if_neg hne]
        exact ⟨rfl, fun _ => rfl, fun h => h⟩
  · rw [need_out e0 h1, is_out h1 hM, if10, if00]
    exact ⟨rfl, fun h => absurd h i10, fun h => h⟩
theorem min_999 {a b : Nat} (ha : a ≤ 999) (hb : b ≤ 200) : btw 0 (iMin 999 (nI a + nI b)) 999 := by
  unfold iMin
  rw [nI_add]
  by_cases h : nI (a + b) < 999
  · rw [if_pos h]
    exact ⟨a + b, rfl, by omega, by have := (nI_ltI (b := 999) (by omega) (by decide)).mp h; omega⟩
  · rw [if_neg h]
    exact ⟨999, rfl, by omega, by omega⟩
theorem q_stock {A : TA} {K : TK} {σ τ : GL} {T : TM} {F : FM} {U : TM} {G : FM} {P : CP} {M : MO} {H : SH} {Y : SX} {x1 x2 : Int32} (hG : RG σ H Y) (hC : RC H) (hR : RR H Y) : mo_th (s_Model_stock M H Y x1 x2).2.1 = (if (s_Camp_stock A K σ τ T F U G P x1 x2).1 = 0 then 0 else if (s_Camp_stock A K σ τ T F U G P x1 x2).1 = 1 then 1 else 2) ∧ ((s_Camp_stock A K σ τ T F U G P x1 x2).1 = 0 → (s_Camp_stock A K σ τ T F U G P x1 x2).2.1 = (s_Model_stock M H Y x1 x2).1) ∧ RG (s_Camp_stock A K σ τ T F U G P x1 x2).2.2 H (s_Model_stock M H Y x1 x2).2.2 ∧ RR H (s_Model_stock M H Y x1 x2).2.2 ∧ sx_dy (s_Model_stock M H Y x1 x2).2.2 = sx_dy Y ∧ (RT A P M → RT A P (s_Model_stock M H Y x1 x2).2.1) := by
  have e0 : (σ.1 3).2 = sh_ha H 9 := hG.n3
  have hM : sh_ha H 9 ≤ 1000 := by unfold RC at hC; omega
  unfold s_Camp_stock s_Model_stock s_Model_no
  by_cases h1 : 0 ≤ x1 ∧ x1 < nI (sh_ha H 9)
  · rw [need_in e0 h1, is_in h1 hM, if00, if10, range_iff, isIn_iff]
    obtain ⟨r, hr, rfl⟩ := row_of hM (j_nlt.mpr h1.1) h1.2
    rw [nI_clamp (by omega), hG.rb.g_3_1 hr hC]
    by_cases h2 : 1 ≤ x2 ∧ x2 ≤ 200
    · rw [if_pos h2, if_pos h2, if00, if10]
      obtain ⟨a, ha, -, ha9⟩ := (hR.2.2.2.1 r hr).2
      obtain ⟨b, hb, rfl⟩ := col_of (n := 200) (x := x2) (by decide) ⟨j_nlt.mp (fun w => by have := Int32.lt_iff_toInt_lt.mp w; have := Int32.le_iff_toInt_le.mp h2.1; rw [show (1 : Int32).toInt = 1 from by decide] at this; rw [show (0 : Int32).toInt = 0 from by decide] at *; omega), h2.2⟩
      have b1 := hG.rb.w_3_1 (v := iMin 999 (sx_fo Y r + nI b)) hr hM
      refine ⟨rfl, fun _ => (upd_at _ _ _).symm, b1.rg hG.ru, hR.w_fo (by rw [ha]; exact min_999 ha9 hb), rfl, fun h => h⟩
    · rw [if_neg h2, if_neg h2, if20, if00]
      exact ⟨rfl, fun h => absurd h i20, hG, hR, rfl, fun h => h⟩
  · rw [need_out e0 h1, is_out h1 hM, if10, if00]
    exact ⟨rfl, fun h => absurd h i10, hG, hR, rfl, fun h => h⟩
