/-! the pure part: a team goes -/
theorem half_eq : ∀ k, k ≤ 40 → (nI k) / 2 = nI k - (nI k + 1) / 2 := by decide +kernel
theorem half_b : ∀ k, k ≤ 40 → (nI k) / 2 = nI (k / 2) := by decide +kernel
theorem gA_at {σ : GL} {k c : Nat} {row v w : Int32} (h : gG σ k row c = w) : gA σ k row c v = gS σ k row c (w + v) := by unfold gA; rw [h]
theorem sumR_upd {f : Nat → Int32} {t : Nat} {v : Int32} : ∀ n, sumR (upd f t (f t + v)) n = if t < n then sumR f n + v else sumR f n := by
  intro n
  induction n with
  | zero => rfl
  | succ n ih =>
    show sumR (upd f t (f t + v)) n + upd f t (f t + v) n = if t < n + 1 then sumR f n + f n + v else sumR f n + f n
    rw [ih]
    by_cases h : t < n
    · rw [if_pos h, if_pos (by omega), upd_ne _ _ (by omega : n ≠ t), Int32.add_assoc, Int32.add_assoc, Int32.add_comm v]
    · rw [if_neg h]
      by_cases e : t = n
      · subst e
        rw [if_pos (by omega), upd_at, Int32.add_assoc]
      · rw [if_neg (by omega), upd_ne _ _ (by omega : n ≠ t)]
theorem letFall_eq {σ : GL} {H : SH} {Y : SX} {M : MO} {t j : Nat} (hG : RG σ H Y) (hC : RC H) (hR : RR H Y) (ht : t < sh_ha H 11) (hj : j < sh_ha H 6) : RG (gS (s_Glacier_letFall σ (nI t) (nI j)) 4 (nI t) 7 1) H (s_Model_fall M H (sx_do' Y (upd (sx_do Y) t 1)) t j) ∧ RR H (s_Model_fall M H (sx_do' Y (upd (sx_do Y) t 1)) t j) := by
  have h4 : sh_ha H 11 ≤ 1000 := by unfold RC at hC; omega
  have h2 : sh_ha H 6 ≤ 1000 := by unfold RC at hC; omega
  obtain ⟨k, hk, -, hk4⟩ := (hR.2.2.2.2 t ht).2.2.1
  have b1 := hG.rb.w_2_1 (v := 0) hj h2
  have e1 := gA_at (v := 1) (b1.g_2_5 hj hC)
  have b2 := b1.w_2_5 (v := sx_fe (sx_br' Y (upd (sx_br Y) j 0)) j + 1) hj h2
  unfold s_Glacier_letFall
  rw [e1, b2.g_4_1 ht hC]
  have b3 := b2.w_4_1 (v := sx_sk Y t / 2) ht h4
  have e3 := gA_at (v := 1) (b3.g_4_6 ht hC)
  have b4 := b3.w_4_6 (v := sx_fn Y t + 1) ht h4
  have b5 := b4.w_4_7 (v := 1) ht h4
  have e5 : sx_sk Y t / 2 = sx_sk Y t - (sx_sk Y t + 1) / 2 := by rw [hk]; exact half_eq k hk4
  have eY : s_Model_fall M H (sx_do' Y (upd (sx_do Y) t 1)) t j = sx_fa' (sx_do' (sx_fn' (sx_sk' (sx_fe' (sx_br' Y (upd (sx_br Y) j 0)) (upd (sx_fe Y) j (sx_fe Y j + 1))) (upd (sx_sk Y) t (sx_sk Y t / 2))) (upd (sx_fn Y) t (sx_fn Y t + 1))) (upd (sx_do Y) t 1)) (sx_fa Y + 1) := by
    rw [e5]
    rfl
  rw [eY]
  constructor
  · refine RB.rg ?_ ⟨hG.ru.1, ?_⟩
    · have e6 : gA (gS (gS (gS σ 2 (nI j) 1 0) 2 (nI j) 5 (sx_fe (sx_br' Y (upd (sx_br Y) j 0)) j + 1)) 4 (nI t) 1 (sx_sk Y t / 2)) 4 (nI t) 6 1 = gS (gS (gS (gS σ 2 (nI j) 1 0) 2 (nI j) 5 (sx_fe (sx_br' Y (upd (sx_br Y) j 0)) j + 1)) 4 (nI t) 1 (sx_sk Y t / 2)) 4 (nI t) 6 (sx_fn Y t + 1) := e3
      show RB (gS (gA (gS (gS (gS σ 2 (nI j) 1 0) 2 (nI j) 5 (sx_fe (sx_br' Y (upd (sx_br Y) j 0)) j + 1)) 4 (nI t) 1 (sx_sk Y t / 2)) 4 (nI t) 6 1) 4 (nI t) 7 1) H _
      rw [e6]
      exact b5
    · show sx_fa Y + 1 = sumR (upd (sx_fn Y) t (sx_fn Y t + 1)) (sh_ha H 11)
      rw [sumR_upd, if_pos ht, hG.ru.2]
  · have r1 : RR H (sx_br' Y (upd (sx_br Y) j 0)) := hR.w_br ⟨0, rfl, by omega, by omega⟩
    have r3 : RR H (sx_sk' (sx_fe' (sx_br' Y (upd (sx_br Y) j 0)) (upd (sx_fe Y) j (sx_fe Y j + 1))) (upd (sx_sk Y) t (sx_sk Y t / 2))) := RR.w_sk (Y := sx_fe' (sx_br' Y (upd (sx_br Y) j 0)) (upd (sx_fe Y) j (sx_fe Y j + 1))) r1 (by rw [hk, half_b k hk4]; exact ⟨k / 2, rfl, by omega, by omega⟩)
    exact RR.w_do (Y := sx_fn' (sx_sk' (sx_fe' (sx_br' Y (upd (sx_br Y) j 0)) (upd (sx_fe Y) j (sx_fe Y j + 1))) (upd (sx_sk Y) t (sx_sk Y t / 2))) (upd (sx_fn Y) t (sx_fn Y t + 1))) r3 ⟨1, rfl, by omega, by omega⟩
theorem move_cr {H : SH} {M : MO} {t : Nat} {x w : Int32} : ∀ k i Y, ∃ c, l_Model_move_42 M H t x w k i Y = sx_cr' Y c := by
  intro k
  induction k with
  | zero => intro i Y; exact ⟨sx_cr Y, rfl⟩
  | succ k ih =>
    intro i Y
    show ∃ c, (if sh_ab H i = w then l_Model_move_42 M H t x w k (i + 1) (sx_cr' Y (upd (sx_cr Y) i (sx_cr Y i + 1))) else l_Model_move_42 M H t x w k (i + 1) (sx_cr' Y (upd (sx_cr Y) i (sx_cr Y i + 0)))) = sx_cr' Y c
    by_cases h : sh_ab H i = w
    · rw [if_pos h]
      obtain ⟨c, hc⟩ := ih (i + 1) (sx_cr' Y (upd (sx_cr Y) i (sx_cr Y i + 1)))
      exact ⟨c, hc⟩
    · rw [if_neg h]
      obtain ⟨c, hc⟩ := ih (i + 1) (sx_cr' Y (upd (sx_cr Y) i (sx_cr Y i + 0)))
      exact ⟨c, hc⟩
theorem move_do {H : SH} {M : MO} {t : Nat} {x w : Int32} {d : Nat → Int32} : ∀ k i Y, l_Model_move_42 M H t x w k i (sx_do' Y d) = sx_do' (l_Model_move_42 M H t x w k i Y) d := by
  intro k
  induction k with
  | zero => intro i Y; rfl
  | succ k ih =>
    intro i Y
    show (if sh_ab H i = w then l_Model_move_42 M H t x w k (i + 1) (sx_do' (sx_cr' Y (upd (sx_cr Y) i (sx_cr Y i + 1))) d) else l_Model_move_42 M H t x w k (i + 1) (sx_do' (sx_cr' Y (upd (sx_cr Y) i (sx_cr Y i + 0))) d)) = sx_do' (if sh_ab H i = w then l_Model_move_42 M H t x w k (i + 1) (sx_cr' Y (upd (sx_cr Y) i (sx_cr Y i + 1))) else l_Model_move_42 M H t x w k (i + 1) (sx_cr' Y (upd (sx_cr Y) i (sx_cr Y i + 0)))) d
    by_cases h : sh_ab H i = w
    · rw [if_pos h, if_pos h, ih]
    · rw [if_neg h, if_neg h, ih]
theorem upd_same (f : Nat → Int32) (i : Nat) : upd f i (f i + 0) = f := by
  funext j
  unfold upd
  by_cases h : j = i
  · rw [if_pos h, h, Int32.add_zero]
  · rw [if_neg h]
theorem cross_eq {H : SH} {M : MO} {t : Nat} {x w : Int32} (hC : RC H) : ∀ k i (σ : GL) (Y : SX), i + k ≤ sh_ha H 6 → RB σ H Y → RB (l_Glacier_letCross_23 (nI t) x w k i σ) H (l_Model_move_42 M H t x w k i Y) := by
  intro k
  induction k with
  | zero => intro i σ Y _ h; exact h
  | succ k ih =>
    intro i σ Y h hB
    have h2 : sh_ha H 6 ≤ 1000 := by unfold RC at hC; omega
    show RB (if gG σ 2 (nI i) 0 = w then l_Glacier_letCross_23 (nI t) x w k (i + 1) (gA σ 2 (nI i) 4 1) else l_Glacier_letCross_23 (nI t) x w k (i + 1) σ) H (if sh_ab H i = w then l_Model_move_42 M H t x w k (i + 1) (sx_cr' Y (upd (sx_cr Y) i (sx_cr Y i + 1))) else l_Model_move_42 M H t x w k (i + 1) (sx_cr' Y (upd (sx_cr Y) i (sx_cr Y i + 0))))
    rw [hB.g_2_0 (by omega) hC, gA_at (hB.g_2_4 (by omega) hC)]
    by_cases e : sh_ab H i = w
    · rw [if_pos e, if_pos e]
      exact ih _ _ _ (by omega) (hB.w_2_4 (by omega) h2)
    · rw [if_neg e, if_neg e, upd_same]
      exact ih _ _ _ (by omega) hB
