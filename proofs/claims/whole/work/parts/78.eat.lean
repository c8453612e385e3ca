/-! the pure part: a team eats -/
theorem FR.fo {Y : SX} {v : Nat → Int32} : FR Y (sx_fo' Y v) := ⟨rfl, rfl, rfl, rfl, rfl, rfl, rfl⟩
theorem FR.sk {Y : SX} {v : Nat → Int32} : FR Y (sx_sk' Y v) := ⟨rfl, rfl, rfl, rfl, rfl, rfl, rfl⟩
theorem FR.hu {Y : SX} {v : Nat → Int32} : FR Y (sx_hu' Y v) := ⟨rfl, rfl, rfl, rfl, rfl, rfl, rfl⟩
theorem FR.he {Y : SX} {v : Nat → Int32} : FR Y (sx_he' Y v) := ⟨rfl, rfl, rfl, rfl, rfl, rfl, rfl⟩
theorem eat_loop {H : SH} {M : MO} {t : Nat} (hC : RC H) (ht : t < sh_ha H 11) : ∀ k i l (σ : GL) (Y : SX), i + k ≤ sh_ha H 9 → l ≤ 40 → RB σ H Y → RR H Y → (l_Glacier_eat_46 (nI t) k i (nI l) σ).1 = (l_Model_eat_1_45 M H t k i (nI l) Y).1 ∧ btw 0 (l_Model_eat_1_45 M H t k i (nI l) Y).1 40 ∧ RB (l_Glacier_eat_46 (nI t) k i (nI l) σ).2 H (l_Model_eat_1_45 M H t k i (nI l) Y).2 ∧ RR H (l_Model_eat_1_45 M H t k i (nI l) Y).2 ∧ FR Y (l_Model_eat_1_45 M H t k i (nI l) Y).2 ∧ sx_hu (l_Model_eat_1_45 M H t k i (nI l) Y).2 = sx_hu Y ∧ sx_he (l_Model_eat_1_45 M H t k i (nI l) Y).2 = sx_he Y := by
  intro k
  induction k with
  | zero => intro i l σ Y _ hl h hr; exact ⟨rfl, ⟨l, rfl, by omega, hl⟩, h, hr, FR.rf, rfl, rfl⟩
  | succ k ih =>
    intro i l σ Y h hl hB hR
    have h9 : sh_ha H 9 ≤ 1000 := by unfold RC at hC; omega
    have hi : i < sh_ha H 9 := by omega
    obtain ⟨f, hf, -, hf9⟩ := (hR.2.2.2.1 i hi).2
    have e1 : iMin (nI l) (sx_fo Y i) = nI (min l f) := by rw [hf, iMin_nI (by omega) (by omega)]
    rw [l_Glacier_eat_46, l_Model_eat_1_45, hB.g_3_0 hi hC, hB.g_3_1 hi hC, hB.g_4_2 ht hC, e1]
    by_cases e : sh_di H i = sx_pl Y t
    · rw [if_pos e, if_pos e, nI_subn (by omega : min l f ≤ l), gA_at (hB.g_3_1 hi hC), ← Int32.sub_eq_add_neg]
      obtain ⟨Y1, h1⟩ : ∃ Z, Z = sx_fo' Y (upd (sx_fo Y) i (sx_fo Y i - nI (min l f))) := ⟨_, rfl⟩
      have s1 := sx_set_fo h1
      have b1 := hB.w_3_1 (v := sx_fo Y i - nI (min l f)) hi h9
      have r1 : RR H Y1 := by rw [h1]; exact hR.w_fo (by rw [hf, nI_subn (by omega)]; exact ⟨_, rfl, by omega, by omega⟩)
      have f1 : FR Y Y1 := by rw [h1]; exact FR.fo
      rw [← h1] at b1 ⊢
      obtain ⟨k1, k2, k3, k4, k5, k6, k7⟩ := ih (i + 1) (l - min l f) _ Y1 (by omega) (by omega) b1 r1
      exact ⟨k1, k2, k3, k4, f1.tr k5, k6.trans (by simp only [s1]), k7.trans (by simp only [s1])⟩
    · rw [if_neg e, if_neg e]
      exact ih _ _ _ _ (by omega) hl hB hR
theorem he_same {Y : SX} {i : Nat} {v : Int32} (h : sx_he Y i = v) : sx_he' Y (upd (sx_he Y) i v) = Y := by
  have e : upd (sx_he Y) i v = sx_he Y := by
    funext j
    unfold upd
    by_cases e : j = i
    · rw [if_pos e, e, h]
    · rw [if_neg e]
  rw [e]
theorem eat_eq {σ : GL} {H : SH} {Y : SX} {M : MO} {t : Nat} (hB : RB σ H Y) (hC : RC H) (hR : RR H Y) (ht : t < sh_ha H 11) (hh : sx_he Y t = 1) : RB (s_Glacier_eat σ (nI t)) H (s_Model_eat_1 M H Y t) ∧ RR H (s_Model_eat_1 M H Y t) ∧ FR Y (s_Model_eat_1 M H Y t) := by
  have h4 : sh_ha H 11 ≤ 1000 := by unfold RC at hC; omega
  obtain ⟨-, ⟨z, hz, -, hz6⟩, ⟨s, hs, -, hs4⟩, -, -, -, hhu⟩ := hR.2.2.2.2 t ht
  obtain ⟨u, hu, -, hu2⟩ := hhu hh
  have e1 : (sh_sz H t + 1) / 2 = nI ((z + 1) / 2) := by rw [hz, nI_1, half_b _ (by omega)]
  have e2 : iMin (nI ((z + 1) / 2)) (sx_sk Y t) = nI (min ((z + 1) / 2) s) := by rw [hs, iMin_nI (by omega) (by omega)]
  unfold s_Glacier_eat s_Model_eat_1
  rw [hB.g_4_0 ht hC, hB.g_4_1 ht hC, e1, e2, nI_subn (by omega : min ((z + 1) / 2) s ≤ (z + 1) / 2), gA_at (hB.g_4_1 ht hC), ← Int32.sub_eq_add_neg]
  have b1 := hB.w_4_1 (v := sx_sk Y t - nI (min ((z + 1) / 2) s)) ht h4
  have r1 : RR H (sx_sk' Y (upd (sx_sk Y) t (sx_sk Y t - nI (min ((z + 1) / 2) s)))) := hR.w_sk (by rw [hs, nI_subn (by omega)]; exact ⟨_, rfl, by omega, by omega⟩)
  obtain ⟨Y1, h1⟩ : ∃ Z, Z = sx_sk' Y (upd (sx_sk Y) t (sx_sk Y t - nI (min ((z + 1) / 2) s))) := ⟨_, rfl⟩
  have s1 := sx_set_sk h1
  have f1 : FR Y Y1 := by rw [h1]; exact FR.sk
  rw [← h1] at b1 r1 ⊢
  generalize gS σ 4 (nI t) 1 (sx_sk Y t - nI (min ((z + 1) / 2) s)) = σ1 at b1 ⊢
  have n1 : gN σ1 3 = sh_ha H 9 := b1.1.2.2.2.1
  rw [n1]
  obtain ⟨k1, ⟨q, kq, -, kq4⟩, k3, k4, k5, k6, k7⟩ := eat_loop (M := M) hC ht (sh_ha H 9) 0 ((z + 1) / 2 - min ((z + 1) / 2) s) σ1 Y1 (by omega) (by omega) b1 r1
  generalize l_Glacier_eat_46 (nI t) (sh_ha H 9) 0 (nI ((z + 1) / 2 - min ((z + 1) / 2) s)) σ1 = pc at k1 k3 ⊢
  generalize l_Model_eat_1_45 M H t (sh_ha H 9) 0 (nI ((z + 1) / 2 - min ((z + 1) / 2) s)) Y1 = pm at k1 kq k3 k4 k5 k6 k7 ⊢
  obtain ⟨lc, σ2⟩ := pc
  obtain ⟨lm, Y2⟩ := pm
  dsimp only at k1 kq k3 k4 k5 k6 k7 ⊢
  have hu2' : sx_hu Y2 t = nI u := by rw [k6, ← hu]; simp only [s1]
  have he2 : sx_he Y2 t = 1 := by rw [k7, ← hh]; simp only [s1]
  have fr := f1.tr k5
  rw [k1, kq, k3.g_4_3 ht hC, hu2', upd_at, upd_at, nI_1]
  match q, kq4 with
  | 0, _ =>
    rw [if_pos (c := (nI 0 : Int32) ≤ 0) (by decide), if_pos (c := (nI 0 : Int32) ≤ 0) (by decide), if_neg (c := (0 : Int32) = 3) (by decide)]
    obtain ⟨Y3, h3⟩ : ∃ Z, Z = sx_hu' Y2 (upd (sx_hu Y2) t 0) := ⟨_, rfl⟩
    have s3 := sx_set_hu h3
    have b3 := k3.w_4_3 (v := 0) ht h4
    rw [← h3] at b3 ⊢
    have b4 := b3.w_4_4 (v := 1) ht h4
    rw [he_same (by rw [← he2]; simp only [s3])] at b4
    exact ⟨b4, by rw [h3]; exact k4.w_hu ⟨⟨0, rfl, by omega, by omega⟩, fun _ => ⟨0, rfl, by omega, by omega⟩⟩, fr.tr (by rw [h3]; exact FR.hu)⟩
  | q + 1, _ =>
    rw [if_neg (c := (nI (q + 1) : Int32) ≤ 0) (nI_nle (by omega) (by omega)), if_neg (c := (nI (q + 1) : Int32) ≤ 0) (nI_nle (by omega) (by omega))]
    obtain ⟨Y3, h3⟩ : ∃ Z, Z = sx_hu' Y2 (upd (sx_hu Y2) t (nI (u + 1))) := ⟨_, rfl⟩
    have s3 := sx_set_hu h3
    have b3 := k3.w_4_3 (v := nI (u + 1)) ht h4
    have p3 : sx_he Y3 = sx_he Y2 := by simp only [s3]
    rw [← h3] at b3 ⊢
    by_cases c : u + 1 = 3
    · rw [c, show (nI 3 : Int32) = 3 from rfl, if_pos (c := (3 : Int32) ≤ 3) (by decide), if_pos (c := (3 : Int32) = 3) rfl]
      rw [c, show (nI 3 : Int32) = 3 from rfl] at b3
      have b4 := b3.w_4_4 (v := 0) ht h4
      rw [← p3]
      obtain ⟨Z1, z1⟩ : ∃ Z, Z = sx_he' Y2 (upd (sx_he Y2) t 0) := ⟨_, rfl⟩
      have t1 := sx_set_he z1
      have q1 : RR H Z1 := by rw [z1]; exact k4.w_he0
      obtain ⟨Z2, z2⟩ : ∃ Z, Z = sx_hu' Z1 (upd (sx_hu Z1) t (nI (u + 1))) := ⟨_, rfl⟩
      have t2 := sx_set_hu z2
      have q2 : RR H Z2 := by
        rw [z2]
        refine q1.w_hu ⟨⟨u + 1, rfl, by omega, by omega⟩, fun y => ?_⟩
        have : sx_he Z1 t = 0 := by rw [z1]; exact upd_at _ _ _
        rw [this] at y
        exact absurd y (by decide)
      obtain ⟨Y4, h4'⟩ : ∃ Z, Z = sx_he' Y3 (upd (sx_he Y3) t 0) := ⟨_, rfl⟩
      have s4 := sx_set_he h4'
      have eZ : Z2 = Y4 := sx_ext (by simp only [s3, s4, t1, t2]) (by simp only [s3, s4, t1, t2]) (by simp only [s3, s4, t1, t2]) (by simp only [s3, s4, t1, t2]) (by simp only [s3, s4, t1, t2]) (by simp only [s3, s4, t1, t2]) (by simp only [s3, s4, t1, t2]) (by simp only [s3, s4, t1, t2]) (by simp only [s3, s4, t1, t2]) (by simp only [s3, s4, t1, t2]) (by simp only [s3, s4, t1, t2]) (by simp only [s3, s4, t1, t2]) (by simp only [s3, s4, t1, t2]) (by simp only [s3, s4, t1, t2]) (by simp only [s3, s4, t1, t2]) (by simp only [s3, s4, t1, t2]) (by simp only [s3, s4, t1, t2]) (by simp only [s3, s4, t1, t2]) (by simp only [s3, s4, t1, t2]) (by simp only [s3, s4, t1, t2]) (by simp only [s3, s4, t1, t2]) (by simp only [s3, s4, t1, t2]) (by simp only [s3, s4, t1, t2]) (by simp only [s3, s4, t1, t2])
      rw [← h4'] at b4 ⊢
      exact ⟨b4, by rw [← eZ]; exact q2, fr.tr (FR.tr (Y := Y3) (by rw [h3]; exact FR.hu) (by rw [h4']; exact FR.he))⟩
    · rw [if_neg (c := (3 : Int32) ≤ nI (u + 1)) (nI_ge (a := u + 1) (b := 3) (by omega) (by omega)), if_neg (c := nI (u + 1) = 3) (fun w => c ((nI_eq (a := u + 1) (b := 3) (by omega) (by omega)).mp w))]
      have b4 := b3.w_4_4 (v := 1) ht h4
      rw [he_same (by rw [← he2, p3])] at b4
      exact ⟨b4, by rw [h3]; exact k4.w_hu ⟨⟨u + 1, rfl, by omega, by omega⟩, fun _ => ⟨u + 1, rfl, by omega, by omega⟩⟩, fr.tr (by rw [h3]; exact FR.hu)⟩
