/-! the pure part: crossing; a team goes or does not -/
theorem upd_same (f : Nat → Int32) (i : Nat) : upd f i (f i + 0) = f := by
  funext j
  unfold upd
  by_cases h : j = i
  · rw [if_pos h, h, Int32.add_zero]
  · rw [if_neg h]
theorem cr_self {S : SX} : sx_cr' S (sx_cr S) = S := rfl
theorem move_s {H : SH} {M : MO} {t : Nat} {x w : Int32} {k i : Nat} {Y : SX} : l_Model_move_42 M H t x w (k + 1) i Y = if sh_ab H i = w then l_Model_move_42 M H t x w k (i + 1) (sx_cr' Y (upd (sx_cr Y) i (sx_cr Y i + 1))) else l_Model_move_42 M H t x w k (i + 1) Y := by
  rw [l_Model_move_42, upd_same, cr_self]
theorem move_cr {H : SH} {M : MO} {t : Nat} {x w : Int32} : ∀ k i Y, ∃ c, l_Model_move_42 M H t x w k i Y = sx_cr' Y c ∧ ∀ Z, sx_cr Z = sx_cr Y → l_Model_move_42 M H t x w k i Z = sx_cr' Z c := by
  intro k
  induction k with
  | zero => intro i Y; exact ⟨sx_cr Y, rfl, fun Z h => by rw [← h]; rfl⟩
  | succ k ih =>
    intro i Y
    have key : ∀ Z, sx_cr Z = sx_cr Y → ∃ Z', (sx_cr Z' = (if sh_ab H i = w then upd (sx_cr Y) i (sx_cr Y i + 1) else sx_cr Y)) ∧ (∀ c, sx_cr' Z' c = sx_cr' Z c) ∧ l_Model_move_42 M H t x w (k + 1) i Z = l_Model_move_42 M H t x w k (i + 1) Z' := by
      intro Z h
      rw [move_s]
      by_cases e : sh_ab H i = w
      · rw [if_pos e, if_pos e, h]
        exact ⟨sx_cr' Z (upd (sx_cr Y) i (sx_cr Y i + 1)), rfl, fun _ => rfl, rfl⟩
      · rw [if_neg e, if_neg e]
        exact ⟨Z, h, fun _ => rfl, rfl⟩
    obtain ⟨Y', a1, a2, a3⟩ := key Y rfl
    obtain ⟨c, hc, hz⟩ := ih (i + 1) Y'
    refine ⟨c, by rw [a3, hc, a2], fun Z h => ?_⟩
    obtain ⟨Z', b1, b2, b3⟩ := key Z h
    rw [b3, hz Z' (b1.trans a1.symm), b2]
theorem cross_eq {H : SH} {M : MO} {t : Nat} {x w : Int32} (hC : RC H) : ∀ k i (σ : GL) (Y : SX), i + k ≤ sh_ha H 6 → RB σ H Y → RB (l_Glacier_letCross_23 (nI t) x w k i σ) H (l_Model_move_42 M H t x w k i Y) := by
  intro k
  induction k with
  | zero => intro i σ Y _ h; exact h
  | succ k ih =>
    intro i σ Y h hB
    have h2 : sh_ha H 6 ≤ 1000 := by unfold RC at hC; omega
    rw [move_s, l_Glacier_letCross_23, hB.g_2_0 (by omega) hC, gA_at (hB.g_2_4 (by omega) hC)]
    by_cases e : sh_ab H i = w
    · rw [if_pos e, if_pos e]
      exact ih _ _ _ (by omega) (hB.w_2_4 (by omega) h2)
    · rw [if_neg e, if_neg e]
      exact ih _ _ _ (by omega) hB
theorem letCross_eq {σ : GL} {H : SH} {Y : SX} {M : MO} {t b : Nat} {x v : Int32} (hG : RG σ H Y) (hC : RC H) (hR : RR H Y) (ht : t < sh_ha H 11) (hv : v = sx_pl Y t + (if x = 0 then -1 else 1)) (hb : v = nI b) (hb0 : b < sh_ha H 0) (hm : s_Model_trap M H Y t x = -1) : RG (gS (s_Glacier_letCross σ (nI t) x) 4 (nI t) 7 1) H (s_Model_move M H Y t x) ∧ RR H (s_Model_move M H Y t x) ∧ sx_dy (s_Model_move M H Y t x) = sx_dy Y := by
  have h4 : sh_ha H 11 ≤ 1000 := by unfold RC at hC; omega
  obtain ⟨c, hc, hz⟩ := move_cr (H := H) (M := M) (t := t) (x := x) (w := s_Model_wayOf Y t x) (sh_ha H 6) 0 Y
  -- the class
  obtain ⟨σ1, c1⟩ : ∃ s, s = l_Glacier_letCross_23 (nI t) x (s_Model_wayOf Y t x) (sh_ha H 6) 0 σ := ⟨_, rfl⟩
  obtain ⟨Y1, h1⟩ : ∃ Z, Z = sx_cr' Y c := ⟨_, rfl⟩
  have s1 := sx_set_cr h1
  have b1 : RB σ1 H Y1 := by rw [c1, h1, ← hc]; exact cross_eq hC _ 0 σ Y (by omega) hG.rb
  have r1 : RR H Y1 := by rw [h1]; exact hR
  obtain ⟨Y2, h2⟩ : ∃ Z, Z = sx_pl' Y1 (upd (sx_pl Y1) t v) := ⟨_, rfl⟩
  have s2 := sx_set_pl h2
  have p1 : sx_pl Y1 = sx_pl Y := by simp only [s1]
  obtain ⟨σ2, c2⟩ : ∃ s, s = gA σ1 4 (nI t) 2 (if x = 0 then -1 else 1) := ⟨_, rfl⟩
  have b2 : RB σ2 H Y2 := by rw [c2, gA_at (b1.g_4_2 ht hC), p1, ← hv, h2]; exact b1.w_4_2 ht h4
  have r2 : RR H Y2 := by rw [h2]; exact r1.w_pl ⟨b, hb0, hb⟩
  obtain ⟨Y3, h3⟩ : ∃ Z, Z = sx_do' Y2 (upd (sx_do Y2) t 1) := ⟨_, rfl⟩
  have s3 := sx_set_do h3
  have b3 : RB (gS σ2 4 (nI t) 7 1) H Y3 := by rw [h3]; exact b2.w_4_7 ht h4
  have r3 : RR H Y3 := by rw [h3]; exact r2.w_do ⟨1, rfl, by omega, by omega⟩
  have cl : s_Glacier_letCross σ (nI t) x = σ2 := by
    have g0 : gG σ 4 (nI t) 2 = sx_pl Y t := hG.rb.g_4_2 ht hC
    have n2 : gN σ 2 = sh_ha H 6 := hG.n2
    unfold s_Glacier_letCross
    rw [g0, n2, c2, c1]
    unfold s_Model_wayOf
    by_cases e : x = 0
    · rw [if_pos e, if_pos e, if_pos e, if_pos e]
    · rw [if_neg e, if_neg e, if_neg e, if_neg e, Int32_sub0]
  -- the reference
  obtain ⟨Z0, z0⟩ : ∃ Z, Z = sx_do' Y (upd (sx_do Y) t 1) := ⟨_, rfl⟩
  have t0 := sx_set_do z0
  obtain ⟨Z1, z1⟩ : ∃ Z, Z = sx_cr' Z0 c := ⟨_, rfl⟩
  have t1 := sx_set_cr z1
  obtain ⟨Z2, z2⟩ : ∃ Z, Z = sx_pl' Z1 (upd (sx_pl Z1) t (sx_pl Z1 t + (if x = 0 then -1 else 1))) := ⟨_, rfl⟩
  have t2 := sx_set_pl z2
  have m : s_Model_move M H Y t x = Z2 := by
    unfold s_Model_move
    rw [if_pos hm, ← z0, hz Z0 (by simp only [t0]), ← z1, z2]
    by_cases e : x = 0
    · rw [if_pos e, if_pos e]
    · rw [if_neg e, if_neg e]
  have q : sx_pl Z1 = sx_pl Y := by simp only [t0, t1]
  have eY : Z2 = Y3 := by
    rw [q, ← hv] at t2
    exact sx_ext (by simp only [s1, s2, s3, t0, t1, t2]) (by simp only [s1, s2, s3, t0, t1, t2]) (by simp only [s1, s2, s3, t0, t1, t2]) (by simp only [s1, s2, s3, t0, t1, t2]) (by simp only [s1, s2, s3, t0, t1, t2]) (by simp only [s1, s2, s3, t0, t1, t2]) (by simp only [s1, s2, s3, t0, t1, t2]) (by simp only [s1, s2, s3, t0, t1, t2]) (by simp only [s1, s2, s3, t0, t1, t2]) (by simp only [s1, s2, s3, t0, t1, t2]) (by simp only [s1, s2, s3, t0, t1, t2]) (by simp only [s1, s2, s3, t0, t1, t2]) (by simp only [s1, s2, s3, t0, t1, t2]) (by simp only [s1, s2, s3, t0, t1, t2]) (by simp only [s1, s2, s3, t0, t1, t2]) (by simp only [s1, s2, s3, t0, t1, t2]) (by simp only [s1, s2, s3, t0, t1, t2]) (by simp only [s1, s2, s3, t0, t1, t2]) (by simp only [s1, s2, s3, t0, t1, t2]) (by simp only [s1, s2, s3, t0, t1, t2]) (by simp only [s1, s2, s3, t0, t1, t2]) (by simp only [s1, s2, s3, t0, t1, t2]) (by simp only [s1, s2, s3, t0, t1, t2]) (by simp only [s1, s2, s3, t0, t1, t2])
  rw [m, cl, eY]
  refine ⟨b3.rg ⟨?_, ?_⟩, r3, by simp only [s1, s2, s3]⟩
  · simp only [s1, s2, s3]; exact hG.ru.1
  · simp only [s1, s2, s3]; exact hG.ru.2
theorem go_01 {H : SH} {Y : SX} {M : MO} {t : Nat} {x w : Int32} : ∀ k i, l_Model_canGo_53 M H Y t x w k i = 0 ∨ l_Model_canGo_53 M H Y t x w k i = 1 := by
  intro k
  induction k with
  | zero => intro i; exact Or.inr rfl
  | succ k ih =>
    intro i
    rw [l_Model_canGo_53]
    split
    · split
      · exact ih _
      · split
        · exact ih _
        · exact Or.inl rfl
    · exact ih _
theorem canGo_01 {H : SH} {Y : SX} {M : MO} {t : Nat} {x : Int32} : s_Model_canGo M H Y t x = 0 ∨ s_Model_canGo M H Y t x = 1 := by
  unfold s_Model_canGo
  split
  · exact Or.inl rfl
  · split
    · exact Or.inl rfl
    · split
      · exact Or.inl rfl
      · split
        · exact go_01 _ _
        · exact Or.inl rfl
/-- where a team can go, the place beyond is a band's -/
theorem canGo_row {H : SH} {Y : SX} {M : MO} {t : Nat} {x : Int32} (hC : RC H) (hR : RR H Y) (ht : t < sh_ha H 11) (h : ¬ s_Model_canGo M H Y t x = 0) : ∃ b, b < sh_ha H 0 ∧ sx_pl Y t + (if x = 0 then -1 else 1) = nI b := by
  obtain ⟨⟨b, hb, hpl⟩, -⟩ := hR.2.2.2.2 t ht
  have hb5 : sh_ha H 0 ≤ 5 := hC.1
  unfold s_Model_canGo s_Model_wayOf at h
  rw [hpl] at h ⊢
  by_cases e : x = 0
  · rw [if_pos e]
    match b, hb with
    | 0, _ =>
      refine absurd ?_ h
      rw [if_pos e, if_pos (c := (nI 0 - 1 : Int32) < 0) (by decide)]
      split
      · rfl
      · split
        · rfl
        · rfl
    | b + 1, hb => exact ⟨b, by omega, (Int32.sub_eq_add_neg _ _).symm.trans (nI_pred b)⟩
  · rw [if_neg e]
    by_cases h2 : b + 1 < sh_ha H 0
    · exact ⟨b + 1, h2, nI_1 b⟩
    · refine absurd ?_ h
      rw [if_neg e, nI_1, if_neg (c := nI (b + 1) < nI (sh_ha H 0)) (fun w => h2 ((nI_ltI (by omega) (by omega)).mp w))]
      split
      · rfl
      · split
        · rfl
        · split
          · rfl
          · rfl
theorem tryGo_eq {σ : GL} {H : SH} {Y : SX} {M : MO} {t : Nat} {x : Int32} (hG : RG σ H Y) (hC : RC H) (hR : RR H Y) (ht : t < sh_ha H 11) : (s_Glacier_tryGo σ (nI t) x).1 = (s_Model_moved M H Y t x).1 ∧ RG (s_Glacier_tryGo σ (nI t) x).2 H (s_Model_moved M H Y t x).2 ∧ RR H (s_Model_moved M H Y t x).2 ∧ sx_dy (s_Model_moved M H Y t x).2 = sx_dy Y ∧ ((s_Model_moved M H Y t x).1 = 0 ∨ (s_Model_moved M H Y t x).1 = 1) := by
  obtain ⟨f1, f2⟩ := fall_eq (M := M) (x := x) hG.rb hC ht
  unfold s_Glacier_tryGo s_Model_moved
  rw [canGo_eq (M := M) hG.rb hC hR ht, f1]
  by_cases h : s_Model_canGo M H Y t x = 0
  · rw [if_pos h, if_pos h, h]
    exact ⟨rfl, hG, hR, rfl, Or.inl rfl⟩
  · have h1 : s_Model_canGo M H Y t x = 1 := canGo_01.resolve_left h
    rw [if_neg h, if_neg h, h1]
    rcases f2 with e | ⟨j, hj, e⟩
    · rw [if_pos (by rw [e]; decide)]
      obtain ⟨b, hb, hb2⟩ := canGo_row hC hR ht h
      obtain ⟨a1, a2, a3⟩ := letCross_eq hG hC hR ht rfl hb2 hb e
      exact ⟨rfl, a1, a2, a3, Or.inr rfl⟩
    · have hj6 : sh_ha H 6 ≤ 4 := hC.2.2.1
      rw [if_neg (by rw [e]; exact nI_pos (by omega)), e]
      obtain ⟨a1, a2, a3⟩ := letFall_eq (M := M) hG hC hR ht hj
      have em : s_Model_move M H Y t x = s_Model_fall M H (sx_do' Y (upd (sx_do Y) t 1)) t j := by
        unfold s_Model_move
        have hne : ¬ nI j = -1 := fun w => by
          have := nI_pos (n := j) (by omega)
          rw [w] at this
          exact this (by decide)
        rw [e, if_neg hne, nI_clamp (by omega)]
      rw [em]
      exact ⟨rfl, a1, a2, a3, Or.inr rfl⟩
