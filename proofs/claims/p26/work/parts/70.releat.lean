/-! the camp and the law's own glacier: eating -/
section Pe
variable {A : AD} {σ : GL} {Y : SM}
theorem sm_eqv {Y Y' : SM} (h1 : Y.1 = Y'.1) (h2 : Y.2.1 = Y'.2.1) (h3 : Y.2.2.1 = Y'.2.2.1) (h4 : Y.2.2.2.1 = Y'.2.2.2.1) (h5 : Y.2.2.2.2.1 = Y'.2.2.2.2.1) (h6 : ∀ k r j, sm_v Y k r j = sm_v Y' k r j) : Y = Y' := Prod.ext h1 (Prod.ext h2 (Prod.ext h3 (Prod.ext h4 (Prod.ext h5 (by funext k r j; exact h6 k r j)))))
theorem sm_set_self {k r j : Nat} {x : Int32} (h : sm_v Y k r j = x) : sm_set Y k r j x = Y := by
  refine sm_eqv rfl rfl rfl rfl rfl (fun a b c => ?_)
  rw [sm_v_set]
  by_cases e : a = k ∧ b = r ∧ c = j
  · rw [if_pos e, e.1, e.2.1, e.2.2, h]
  · rw [if_neg e]
theorem sm_set_set {k r j : Nat} {x y : Int32} : sm_set (sm_set Y k r j x) k r j y = sm_set Y k r j y := by
  refine sm_eqv rfl rfl rfl rfl rfl (fun a b c => ?_)
  rw [sm_v_set, sm_v_set, sm_v_set]
  by_cases e : a = k ∧ b = r ∧ c = j
  · rw [if_pos e, if_pos e]
  · rw [if_neg e, if_neg e, if_neg e]
theorem eats57 {t j : Nat} : ∀ (k f : Nat) (Y : SM), sm_v Y 3 j 0 = sm_v Y 4 t 2 → sm_v Y 3 j 1 = nI f → f < 1000 → k < 1000 → l_Sim_eats_57 A t j k (nI k) Y = (nI (k - min k f), sm_set Y 3 j 1 (nI (f - min k f)))
  | 0, f, Y, hb, hf, _, _ => by
    rw [Nat.zero_min, Nat.sub_zero, Nat.sub_zero, sm_set_self hf]
    rfl
  | k + 1, 0, Y, hb, hf, _, hk => by
    unfold l_Sim_eats_57
    have hn : ¬ nI (k + 1) ≤ 0 := show ¬ nI (k + 1) ≤ nI 0 from nI_ge (by omega) (by omega)
    rw [if_neg hn, if_pos hb, hf, if_pos (show nI 0 ≤ 0 by decide), Nat.min_zero, Nat.sub_zero, sm_set_self hf]
  | k + 1, f + 1, Y, hb, hf, hf2, hk => by
    have hn : ¬ nI (k + 1) ≤ 0 := show ¬ nI (k + 1) ≤ nI 0 from nI_ge (by omega) (by omega)
    have hn2 : ¬ nI (f + 1) ≤ 0 := show ¬ nI (f + 1) ≤ nI 0 from nI_ge (by omega) (by omega)
    unfold l_Sim_eats_57
    rw [if_neg hn, if_pos hb, hf, if_neg hn2, show nI (k + 1) + (-1) = nI k from (Int32.sub_eq_add_neg (nI (k + 1)) 1).symm.trans (nI_sub (a := k + 1) (b := 1) (by omega)), show nI (f + 1) - 1 = nI f from nI_sub (a := f + 1) (b := 1) (by omega)]
    rw [eats57 k f (sm_set Y 3 j 1 (nI f)) (by rw [sm_v_ne (fun w => absurd w.2.2 (by decide)), sm_v_ne (fun w => absurd w.1 (by decide))]; exact hb) sm_v_at (by omega) (by omega), sm_set_set, show k + 1 - min (k + 1) (f + 1) = k - min k f by omega, show f + 1 - min (k + 1) (f + 1) = f - min k f by omega]
theorem eats57n {t j : Nat} {k : Nat} {lk : Int32} (hb : ¬ sm_v Y 3 j 0 = sm_v Y 4 t 2) : l_Sim_eats_57 A t j k lk Y = (lk, Y) := by
  cases k with
  | zero => rfl
  | succ k =>
    unfold l_Sim_eats_57
    by_cases h : lk ≤ 0
    · rw [if_pos h]
    · rw [if_neg h, if_neg hb]
def FOk (A : AD) (Y : SM) : Prop := ∀ r, r < cn A 3 → ∃ f, sm_v Y 3 r 1 = nI f ∧ f < 1000
theorem eat_loop (hA : AOk A) {t : Nat} (ht : t < cn A 4) : ∀ (k i l : Nat) (σ : GL) (Y : SM), PM A σ Y → FOk A Y → i + k ≤ cn A 3 → l < 100 → ∃ l', l' ≤ l ∧ (l_Glacier_eat_46 (nI t) k i (nI l) σ).1 = nI l' ∧ (l_Sim_eats_43 A t k i (nI l) Y).1 = nI l' ∧ PM A (l_Glacier_eat_46 (nI t) k i (nI l) σ).2 (l_Sim_eats_43 A t k i (nI l) Y).2 ∧ FOk A (l_Sim_eats_43 A t k i (nI l) Y).2 ∧ ∀ a b c, ¬ (a = 3 ∧ c = 1) → sm_v (l_Sim_eats_43 A t k i (nI l) Y).2 a b c = sm_v Y a b c
  | 0, _, l, _, _, hP, hF, _, _ => ⟨l, Nat.le_refl _, rfl, rfl, hP, hF, fun _ _ _ _ => rfl⟩
  | k + 1, i, l, σ, Y, hP, hF, hi, hl => by
    have hr : i < cn A 3 := by omega
    obtain ⟨f, ef, hf⟩ := hF i hr
    unfold l_Glacier_eat_46 l_Sim_eats_43
    rw [hP.get hA (k := 3) (c := 0) (by decide) hr (by decide) (by decide), hP.get hA (k := 4) (c := 2) (by decide) ht (by decide) (by decide), hP.get hA (k := 3) (c := 1) (by decide) hr (by decide) (by decide), nI_clamp (show l < 2 ^ 31 by omega)]
    by_cases hb : sm_v Y 3 i 0 = sm_v Y 4 t 2
    · rw [if_pos hb, eats57 l f Y hb ef hf (by omega), ef, iMin_n (by omega) (by omega)]
      dsimp only
      rw [nI_sub (show min l f ≤ l by omega)]
      have hP2 : PM A (gA σ 3 (nI i) 1 (-nI (min l f))) (sm_set Y 3 i 1 (nI (f - min l f))) := by
        have h := hP.add hA (k := 3) (r := i) (c := 1) (v := -nI (min l f)) (by decide) hr (by decide) (by decide)
        rw [ef, ← Int32.sub_eq_add_neg, nI_sub (show min l f ≤ f by omega)] at h
        exact h
      have hF2 : FOk A (sm_set Y 3 i 1 (nI (f - min l f))) := fun r hr' => by
        rw [sm_v_set]
        by_cases e : 3 = 3 ∧ r = i ∧ 1 = 1
        · rw [if_pos e]
          exact ⟨_, rfl, by omega⟩
        · rw [if_neg e]
          exact hF r hr'
      obtain ⟨l', q0, q1, q2, q3, q4, q5⟩ := eat_loop hA ht k (i + 1) (l - min l f) _ _ hP2 hF2 (by omega) (by omega)
      exact ⟨l', by omega, q1, q2, q3, q4, fun a b c h => (q5 a b c h).trans (sm_v_ne (fun w => h ⟨w.1, w.2.2⟩))⟩
    · rw [if_neg hb, eats57n hb]
      exact eat_loop hA ht k (i + 1) l _ _ hP hF (by omega) hl
theorem half7 : ∀ z : Fin 7, nI z.val - nI z.val / 2 = nI ((z.val + 1) / 2) ∧ (nI z.val + 1) / 2 = nI ((z.val + 1) / 2) := by decide +kernel
/-- what a meal changes -/
theorem eat_eq (hP : PM A σ Y) (hA : AOk A) (hF : FOk A Y) {t z s hu : Nat} (ht : t < cn A 4) (hz : sm_v Y 4 t 0 = nI z) (hz6 : z ≤ 6) (hs : sm_v Y 4 t 1 = nI s) (hs4 : s ≤ 40) (hh : sm_v Y 4 t 3 = nI hu) (hu2 : hu ≤ 2) (h4 : sm_v Y 4 t 4 = 1) : PM A (s_Glacier_eat σ (nI t)) (s_Sim_eats A Y t) ∧ FOk A (s_Sim_eats A Y t) := by
  obtain ⟨z1, z2⟩ := half7 ⟨z, by omega⟩
  dsimp only at z1 z2
  have hP1 : PM A (gA σ 4 (nI t) 1 (-nI (min ((z + 1) / 2) s))) (sm_set Y 4 t 1 (nI (s - min ((z + 1) / 2) s))) := by
    have h := hP.add hA (k := 4) (r := t) (c := 1) (v := -nI (min ((z + 1) / 2) s)) (by decide) ht (by decide) (by decide)
    rw [hs, ← Int32.sub_eq_add_neg, nI_sub (show min ((z + 1) / 2) s ≤ s by omega)] at h
    exact h
  have hF1 : FOk A (sm_set Y 4 t 1 (nI (s - min ((z + 1) / 2) s))) := fun r hr => by
    rw [sm_v_ne (fun w => absurd w.1 (by decide))]
    exact hF r hr
  obtain ⟨l', q0, q1, q2, q3, q4, q5⟩ := eat_loop hA ht (cn A 3) 0 ((z + 1) / 2 - min ((z + 1) / 2) s) _ _ hP1 hF1 (by omega) (by omega)
  have g3 := hP1.1 3 (by decide)
  unfold s_Glacier_eat s_Sim_eats
  rw [hP.get hA (k := 4) (c := 0) (by decide) ht (by decide) (by decide), hP.get hA (k := 4) (c := 1) (by decide) ht (by decide) (by decide), hz, hs, z1, z2, iMin_n (by omega) (by omega), nI_sub (show min ((z + 1) / 2) s ≤ (z + 1) / 2 by omega), nI_sub (show min ((z + 1) / 2) s ≤ s by omega), g3]
  generalize l_Glacier_eat_46 (nI t) (cn A 3) 0 (nI ((z + 1) / 2 - min ((z + 1) / 2) s)) (gA σ 4 (nI t) 1 (-nI (min ((z + 1) / 2) s))) = p at q1 q3 ⊢
  generalize l_Sim_eats_43 A t (cn A 3) 0 (nI ((z + 1) / 2 - min ((z + 1) / 2) s)) (sm_set Y 4 t 1 (nI (s - min ((z + 1) / 2) s))) = y at q2 q3 q4 q5 ⊢
  have v3 : sm_v y.2 4 t 3 = nI hu := (q5 4 t 3 (by decide)).trans ((sm_v_ne (fun w => absurd w.2.2 (by decide))).trans hh)
  have v4 : sm_v y.2 4 t 4 = 1 := (q5 4 t 4 (by decide)).trans ((sm_v_ne (fun w => absurd w.2.2 (by decide))).trans h4)
  rw [q1, q2, q3.get hA (k := 4) (c := 3) (by decide) ht (by decide) (by decide), v3, show nI hu + 1 = nI (hu + 1) from nI_ad hu 1, sm_v_at, sm_v_at]
  have hFs : ∀ {c : Nat} {x : Int32} {Z : SM}, FOk A Z → FOk A (sm_set Z 4 t c x) := fun {c x Z} h r hr => by
    rw [sm_v_ne (fun w => absurd w.1 (by decide))]
    exact h r hr
  have hset := fun (x : Int32) => q3.set hA (k := 4) (r := t) (c := 3) (v := x) (by decide) ht (by decide) (by decide)
  have hset1 : ∀ x : Int32, PM A (gS (gS p.2 4 (nI t) 3 x) 4 (nI t) 4 1) (sm_set y.2 4 t 3 x) := fun x => by
    have h := (hset x).set hA (k := 4) (r := t) (c := 4) (v := 1) (by decide) ht (by decide) (by decide)
    rw [sm_set_self (show sm_v (sm_set y.2 4 t 3 x) 4 t 4 = 1 from (sm_v_ne (fun w => absurd w.2.2 (by decide))).trans v4)] at h
    exact h
  by_cases c : l' = 0
  · rw [c, if_pos (show nI 0 ≤ 0 by decide), if_pos (show nI 0 = 0 from rfl), if_pos (show (0 : Int32) ≤ 2 by decide)]
    exact ⟨hset1 0, hFs q4⟩
  · have hn : ¬ nI l' ≤ 0 := show ¬ nI l' ≤ nI 0 from nI_ge (by omega) (by omega)
    rw [if_neg hn, if_neg (show ¬ nI l' = 0 from fun w => c (nI_eqn (a := l') (c := 0) (by omega) (by decide) w))]
    by_cases c3 : hu + 1 ≤ 2
    · rw [if_pos (show nI (hu + 1) ≤ 2 from nI_le (b := 2) c3 (by omega)), if_neg (show ¬ (3 : Int32) ≤ nI (hu + 1) from nI_ge (a := hu + 1) (b := 3) (by omega) (by omega))]
      exact ⟨hset1 _, hFs q4⟩
    · have hn3 : ¬ nI (hu + 1) ≤ 2 := show ¬ nI (hu + 1) ≤ nI 2 from nI_ge (by omega) (by omega)
      rw [if_neg hn3, if_pos (show (3 : Int32) ≤ nI (hu + 1) from nI_le (a := 3) (by omega) (by omega))]
      exact ⟨(hset _).set hA (by decide) ht (by decide) (by decide), hFs (hFs q4)⟩
end Pe
