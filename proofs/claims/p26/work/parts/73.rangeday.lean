/-! the law's own glacier: its ranges over a day -/
section Rd
variable {A : AD} {σ : GL} {Y : SM} {N : Nat}
/-- rows of depots where only food changed -/
theorem RI.food (h : RI A Y N) {Y' : SM} (hw : sm_wa Y' = sm_wa Y) (hF : FOk A Y') (hv : ∀ a b c, ¬ (a = 3 ∧ c = 1) → sm_v Y' a b c = sm_v Y a b c) : RI A Y' N := by
  refine h.of hw (Nat.le_refl _) (fun k r hk hr => ?_)
  by_cases e : k = 3
  · subst e
    refine Or.inr ⟨?_, hF r hr⟩
    rw [hv 3 r 0 (by decide)]
    exact (h.2 3 r (by decide) hr).1
  · refine Or.inl ?_
    funext c
    exact hv k r c (fun w => e w.1)
theorem wa57 {t j : Nat} : ∀ (k : Nat) (lk : Int32) (Y : SM), sm_wa (l_Sim_eats_57 A t j k lk Y).2 = sm_wa Y
  | 0, _, _ => rfl
  | k + 1, lk, Y => by
    unfold l_Sim_eats_57
    by_cases c1 : lk ≤ 0
    · rw [if_pos c1]
    · rw [if_neg c1]
      by_cases c2 : sm_v Y 3 j 0 = sm_v Y 4 t 2
      · rw [if_pos c2]
        by_cases c3 : sm_v Y 3 j 1 ≤ 0
        · rw [if_pos c3]
        · rw [if_neg c3]
          exact wa57 k _ _
      · rw [if_neg c2]
theorem wa43 {t : Nat} : ∀ (k i : Nat) (lk : Int32) (Y : SM), sm_wa (l_Sim_eats_43 A t k i lk Y).2 = sm_wa Y
  | 0, _, _, _ => rfl
  | k + 1, i, lk, Y => (wa43 k (i + 1) _ _).trans (wa57 _ _ _)
/-- a meal -/
theorem RI.eat (h : RI A Y N) (hP : PM A σ Y) (hA : AOk A) {t : Nat} (ht : t < cn A 4) (h4 : sm_v Y 4 t 4 = 1) : PM A (s_Glacier_eat σ (nI t)) (s_Sim_eats A Y t) ∧ RI A (s_Sim_eats A Y t) N := by
  obtain ⟨⟨z, hz, z2, z6⟩, ⟨s, hs, hs4⟩, hp, ⟨hu, hh, hx⟩, h7, hn⟩ := h.2 4 t (by decide) ht
  have hu2 : hu ≤ 2 := by
    rcases hx with w | w
    · exact w.2
    · rw [h4] at w
      exact absurd w.1 (by decide)
  refine ⟨(eat_eq hP hA h.fok ht hz z6 hs hs4 hh hu2 h4).1, ?_⟩
  obtain ⟨e1, e2⟩ := half7 ⟨z, by omega⟩
  dsimp only at e1 e2
  have hP1 : PM A (gA σ 4 (nI t) 1 (-nI (min ((z + 1) / 2) s))) (sm_set Y 4 t 1 (nI (s - min ((z + 1) / 2) s))) := by
    have h := hP.add hA (k := 4) (r := t) (c := 1) (v := -nI (min ((z + 1) / 2) s)) (by decide) ht (by decide) (by decide)
    rw [hs, ← Int32.sub_eq_add_neg, nI_sub (show min ((z + 1) / 2) s ≤ s by omega)] at h
    exact h
  have hR1 : RI A (sm_set Y 4 t 1 (nI (s - min ((z + 1) / 2) s))) N := by
    refine h.set (Nat.le_refl _) ⟨⟨z, ?_, z2, z6⟩, ⟨_, sm_v_at, by omega⟩, ?_, ⟨hu, ?_, ?_⟩, ?_, ?_⟩
    · rw [sm_v_ne (fun w => absurd w.2.2 (by decide))]
      exact hz
    · rw [sm_v_ne (fun w => absurd w.2.2 (by decide))]
      exact hp
    · rw [sm_v_ne (fun w => absurd w.2.2 (by decide))]
      exact hh
    · rw [sm_v_ne (fun w => absurd w.2.2 (by decide))]
      exact hx
    · rw [sm_v_ne (fun w => absurd w.2.2 (by decide))]
      exact h7
    · rw [sm_v_ne (fun w => absurd w.2.2 (by decide))]
      exact hn
  obtain ⟨l', q0, q1, q2, q3, q4, q5⟩ := eat_loop hA ht (cn A 3) 0 ((z + 1) / 2 - min ((z + 1) / 2) s) _ _ hP1 hR1.fok (by omega) (by omega)
  have hR2 := hR1.food (wa43 _ _ _ _) q4 q5
  unfold s_Sim_eats
  rw [hz, hs, e1, iMin_n (by omega) (by omega), nI_sub (show min ((z + 1) / 2) s ≤ (z + 1) / 2 by omega), nI_sub (show min ((z + 1) / 2) s ≤ s by omega)]
  generalize l_Sim_eats_43 A t (cn A 3) 0 (nI ((z + 1) / 2 - min ((z + 1) / 2) s)) (sm_set Y 4 t 1 (nI (s - min ((z + 1) / 2) s))) = y at q2 q5 hR2 ⊢
  obtain ⟨r1, r2, r3, ⟨hu', r4, r5⟩, r6, r7⟩ := hR2.2 4 t (by decide) ht
  have v4 : sm_v y.2 4 t 4 = 1 := (q5 4 t 4 (by decide)).trans ((sm_v_ne (fun w => absurd w.2.2 (by decide))).trans h4)
  have hu3 : hu' ≤ 2 := by
    rcases r5 with w | w
    · exact w.2
    · rw [v4] at w
      exact absurd w.1 (by decide)
  rw [q2, r4, show nI hu' + 1 = nI (hu' + 1) from nI_ad hu' 1, sm_v_at, sm_v_at]
  have hset : ∀ {x : Nat}, x ≤ 2 → RI A (sm_set y.2 4 t 3 (nI x)) N := fun {x} hx2 => by
    refine hR2.set (Nat.le_refl _) ⟨?_, ?_, ?_, ⟨x, sm_v_at, ?_⟩, ?_, ?_⟩
    · rw [sm_v_ne (fun w => absurd w.2.2 (by decide))]
      exact r1
    · rw [sm_v_ne (fun w => absurd w.2.2 (by decide))]
      exact r2
    · rw [sm_v_ne (fun w => absurd w.2.2 (by decide))]
      exact r3
    · rw [sm_v_ne (fun w => absurd w.2.2 (by decide))]
      exact Or.inl ⟨v4, hx2⟩
    · rw [sm_v_ne (fun w => absurd w.2.2 (by decide))]
      exact r6
    · rw [sm_v_ne (fun w => absurd w.2.2 (by decide))]
      exact r7
  by_cases c : l' = 0
  · rw [c, if_pos (show nI 0 = 0 from rfl), if_pos (show (0 : Int32) ≤ 2 by decide)]
    exact hset (x := 0) (by decide)
  · rw [if_neg (show ¬ nI l' = 0 from fun w => c (nI_eqn (a := l') (c := 0) (by omega) (by decide) w))]
    by_cases c3 : hu' + 1 ≤ 2
    · rw [if_pos (show nI (hu' + 1) ≤ 2 from nI_le (b := 2) c3 (by omega))]
      exact hset c3
    · have hn3 : ¬ nI (hu' + 1) ≤ 2 := show ¬ nI (hu' + 1) ≤ nI 2 from nI_ge (by omega) (by omega)
      rw [if_neg hn3]
      refine hR2.of rfl (Nat.le_refl _) (fun k' r' _ _ => ?_)
      by_cases e : k' = 4 ∧ r' = t
      · refine Or.inr ?_
        rw [e.1, e.2]
        refine ⟨?_, ?_, ?_, ⟨hu' + 1, ?_, Or.inr ⟨sm_v_at, by omega⟩⟩, ?_, ?_⟩
        · rw [sm_v_ne (fun w => absurd w.2.2 (by decide)), sm_v_ne (fun w => absurd w.2.2 (by decide))]
          exact r1
        · rw [sm_v_ne (fun w => absurd w.2.2 (by decide)), sm_v_ne (fun w => absurd w.2.2 (by decide))]
          exact r2
        · rw [sm_v_ne (fun w => absurd w.2.2 (by decide)), sm_v_ne (fun w => absurd w.2.2 (by decide))]
          exact r3
        · rw [sm_v_ne (fun w => absurd w.2.2 (by decide)), sm_v_at]
        · rw [sm_v_ne (fun w => absurd w.2.2 (by decide)), sm_v_ne (fun w => absurd w.2.2 (by decide))]
          exact r6
        · rw [sm_v_ne (fun w => absurd w.2.2 (by decide)), sm_v_ne (fun w => absurd w.2.2 (by decide))]
          exact r7
      · exact Or.inl ((sm_row_ne e).trans (sm_row_ne e))
theorem RI.rd (h : RI A Y N) {x : Int32} : RI A (sm_rd' Y x) N := h.of rfl (Nat.le_refl _) (fun _ _ _ _ => Or.inl rfl)
theorem rdY_row {m i k r : Nat} (h1 : ¬ (k = 1 ∧ r = i)) (h2 : ¬ (k = 4 ∧ r = m)) : sm_v (rdY Y m i) k r = sm_v Y k r := by
  funext c
  exact rdY_v (fun w => h1 ⟨w.1, w.2.1⟩) (fun w => h2 ⟨w.1, w.2.1⟩)
theorem RI.read (h : RI A Y N) {m i : Nat} (hm : m < cn A 4) (hi : i < cn A 1) : RI A (rdY Y m i) (N + 1) := by
  refine h.of rfl (by omega) (fun k r _ _ => ?_)
  by_cases e1 : k = 1 ∧ r = i
  · refine Or.inr ?_
    rw [e1.1, e1.2]
    obtain ⟨a1, ⟨d, o, a2, a3, a4, a5, a6, a7⟩, n, a8, a9, -⟩ := h.2 1 i (by decide) hi
    have e0 : sm_v (rdY Y m i) 1 i 0 = sm_v Y 1 i 0 := rdY_v (fun w => by rcases w.2.2 with w | w <;> exact absurd w (by decide)) (fun w => absurd w.1 (by decide))
    have e1' : sm_v (rdY Y m i) 1 i 1 = sm_v Y 1 i 1 := rdY_v (fun w => by rcases w.2.2 with w | w <;> exact absurd w (by decide)) (fun w => absurd w.1 (by decide))
    have e2 : sm_v (rdY Y m i) 1 i 2 = sm_v Y 1 i 2 := rdY_v (fun w => by rcases w.2.2 with w | w <;> exact absurd w (by decide)) (fun w => absurd w.1 (by decide))
    have e3 : sm_v (rdY Y m i) 1 i 3 = sm_v Y 1 i 3 := rdY_v (fun w => by rcases w.2.2 with w | w <;> exact absurd w (by decide)) (fun w => absurd w.1 (by decide))
    have e4 : sm_v (rdY Y m i) 1 i 4 = sm_v Y 1 i 2 := by
      unfold rdY
      rw [sm_v_ne (fun w => absurd w.1 (by decide)), sm_v_ne (fun w => absurd w.2.2 (by decide)), sm_v_at]
    have e5 : sm_v (rdY Y m i) 1 i 5 = sm_v Y 1 i 5 + 1 := by
      unfold rdY
      rw [sm_v_ne (fun w => absurd w.1 (by decide)), sm_v_at]
    refine ⟨by rw [e0]; exact a1, ⟨d, o, by rw [e1']; exact a2, a3, a4, by rw [e2]; exact a5, a6, by rw [e3]; exact a7⟩, n + 1, ?_, by omega, Or.inr ⟨by omega, o, by rw [e4]; exact a5, a6⟩⟩
    rw [e5, a8]
    exact nI_ad n 1
  · by_cases e2 : k = 4 ∧ r = m
    · refine Or.inr ?_
      rw [e2.1, e2.2]
      have hv : ∀ c, c ≠ 5 → sm_v (rdY Y m i) 4 m c = sm_v Y 4 m c := fun c hc => rdY_v (fun w => absurd w.1 (by decide)) (fun w => hc w.2.2)
      obtain ⟨b1, b2, b3, b4, b5, n, b6, b7⟩ := h.2 4 m (by decide) hm
      refine ⟨by rw [hv 0 (by decide)]; exact b1, by rw [hv 1 (by decide)]; exact b2, by rw [hv 2 (by decide)]; exact b3, by rw [hv 3 (by decide), hv 4 (by decide)]; exact b4, by rw [hv 7 (by decide)]; exact b5, n, by rw [hv 6 (by decide)]; exact b6, by omega⟩
    · exact Or.inl (rdY_row e1 e2)
theorem RI.r184 {m : Nat} (hm : m < cn A 4) : ∀ (k i : Nat) (Y : SM) (N : Nat), RI A Y N → i + k ≤ cn A 1 → RI A (l_Sim_pass_184 A m k i Y) (N + k)
  | 0, _, _, _, h, _ => h
  | k + 1, i, Y, N, h, hi => by
    have h' : ∀ {Z : SM} {M : Nat}, RI A Z M → M ≤ N + 1 → RI A (l_Sim_pass_184 A m k (i + 1) Z) (N + (k + 1)) := fun {Z M} hz hM => by
      refine (RI.r184 hm k (i + 1) Z M hz (by omega)).of rfl (by omega) (fun _ _ _ _ => Or.inl rfl)
    rw [read_step]
    by_cases c : sm_v Y 4 m 4 = 0
    · rw [if_pos c]
      exact h' h (by omega)
    · rw [if_neg c]
      by_cases c0 : sm_v Y 1 i 0 = sm_v Y 4 m 2
      · rw [if_pos c0]
        by_cases c1 : sm_v Y 1 i 3 = 0
        · rw [if_pos c1]
          exact h' h (by omega)
        · rw [if_neg c1]
          exact h' (h.read hm (by omega)).rd (Nat.le_refl _)
      · rw [if_neg c0]
        exact h' h (by omega)
theorem RI.up (h : RI A Y N) {N' : Nat} (hN : N ≤ N') : RI A Y N' := h.of rfl hN (fun _ _ _ _ => Or.inl rfl)
theorem RI.r156 (hA : AOk A) : ∀ (k i : Nat) (Y : SM) (N : Nat), RI A Y N → i + k ≤ cn A 4 → RI A (l_Sim_pass_156 A k i Y) (N + 8 * k)
  | 0, _, _, _, h, _ => h
  | k + 1, i, Y, N, h, hi => by
    have h8 := hA.2.2 1 (by decide)
    unfold l_Sim_pass_156
    exact (RI.r156 hA k (i + 1) _ _ (RI.r184 (m := i) (by omega) (cn A 1) 0 Y N h (by omega)) (by omega)).up (by omega)
theorem RI.done (h : RI A Y N) {t : Nat} (ht : t < cn A 4) {x : Int32} (hx : x = 0 ∨ x = 1) : RI A (sm_set Y 4 t 7 x) N := by
  obtain ⟨b1, b2, b3, b4, b5, b6⟩ := h.2 4 t (by decide) ht
  have hv : ∀ c, c ≠ 7 → sm_v (sm_set Y 4 t 7 x) 4 t c = sm_v Y 4 t c := fun c hc => sm_v_ne (fun w => hc w.2.2)
  exact h.set (Nat.le_refl _) ⟨by rw [hv 0 (by decide)]; exact b1, by rw [hv 1 (by decide)]; exact b2, by rw [hv 2 (by decide)]; exact b3, by rw [hv 3 (by decide), hv 4 (by decide)]; exact b4, by rw [sm_v_at]; exact hx, by rw [hv 6 (by decide)]; exact b6⟩
theorem RI.r286 : ∀ (k i : Nat) (Y : SM), RI A Y N → i + k ≤ cn A 4 → RI A (l_Sim_pass_286 A k i Y) N
  | 0, _, _, h, _ => h
  | k + 1, i, Y, h, hi => RI.r286 k (i + 1) _ (h.done (by omega) (Or.inl rfl)) (by omega)
theorem RI.dy (h : RI A Y N) {v : Nat} : RI A (sm_dy' Y v) N := h.of rfl (Nat.le_refl _) (fun _ _ _ _ => Or.inl rfl)
/-- weather over all bands, meals of all teams: both -/
theorem both72 (hA : AOk A) {T : TM} {F : FM} : ∀ (k i : Nat) (σ : GL) (Y : SM) (N : Nat), PM A σ Y → RI A Y N → i + k ≤ cn A 0 → PM A (l_Glacier_passDay_37 T F k i σ) (l_Sim_pass_72 A k i Y) ∧ RI A (l_Sim_pass_72 A k i Y) (N + k)
  | 0, _, _, _, _, hP, h, _ => ⟨hP, h⟩
  | k + 1, i, σ, Y, N, hP, h, hi => by
    have hb : i < cn A 0 := by omega
    obtain ⟨w, hw, hw3⟩ := h.1 (sm_dy Y % 8) (Nat.mod_lt _ (by decide))
    obtain ⟨⟨g, hg, hg3⟩, ⟨s, hs, hs3⟩, -⟩ := h.2 0 i (by decide) hb
    have e := weather_eq hP hA h.s01 hb hw hw3 hg hg3 hs hs3
    obtain ⟨q1, q2⟩ := both72 hA (T := T) (F := F) k (i + 1) _ _ _ e.1 (h.weather hb) (by omega)
    exact ⟨q1, q2.up (by omega)⟩
theorem both108 (hA : AOk A) {T : TM} {F : FM} : ∀ (k i : Nat) (σ : GL) (Y : SM), PM A σ Y → RI A Y N → i + k ≤ cn A 4 → PM A (l_Glacier_passDay_61 T F k i σ) (l_Sim_pass_108 A k i Y) ∧ RI A (l_Sim_pass_108 A k i Y) N
  | 0, _, _, _, hP, h, _ => ⟨hP, h⟩
  | k + 1, i, σ, Y, hP, h, hi => by
    have ht : i < cn A 4 := by omega
    unfold l_Glacier_passDay_61 l_Sim_pass_108 s_Glacier_isHere
    rw [hP.get hA (k := 4) (c := 4) (by decide) ht (by decide) (by decide)]
    rcases h.h01 i ht with e | e
    · rw [e, if_neg (show ¬ (0 : Int32) = 1 by decide), if_pos (show (0 : Int32) = 0 from rfl), if_neg (show ¬ (0 : Int32) = 1 by decide)]
      exact both108 hA k (i + 1) σ Y hP h (by omega)
    · rw [e, if_pos (show (1 : Int32) = 1 from rfl), if_neg (show ¬ (1 : Int32) = 0 by decide), if_pos (show (1 : Int32) = 1 from rfl)]
      obtain ⟨q1, q2⟩ := h.eat hP hA ht e
      exact both108 hA k (i + 1) _ _ q1 q2 (by omega)
/-- the day after its orders -/
theorem rest_eq (hP : PM A σ Y) (hA : AOk A) (h : RI A Y N) (hd : sm_dy Y + 1 < 1000000) {T : TM} {F F2 F3 : FM} : PM A (s_Glacier_endDay (l_Glacier_passDay_93 T F3 (cn A 4) 0 (l_Glacier_passDay_61 T F2 (cn A 4) 0 (l_Glacier_passDay_37 T F (cn A 0) 0 σ)))) (sm_dy' (restF A Y) (sm_dy (restF A Y) + 1)) ∧ RI A (sm_dy' (restF A Y) (sm_dy (restF A Y) + 1)) (N + 72) := by
  have h80 := hA.2.2 0 (by decide)
  have h84 := hA.2.2 4 (by decide)
  obtain ⟨a1, a2⟩ := both72 hA (T := T) (F := F) (cn A 0) 0 σ Y N hP h (by omega)
  obtain ⟨b1, b2⟩ := both108 hA (T := T) (F := F2) (cn A 4) 0 _ _ a1 a2 (by omega)
  have c1 := reads_eq hA (T := T) (F := F3) (cn A 4) 0 _ _ b1 b2.s01 b2.h01 (by omega)
  have c2 := RI.r156 hA (cn A 4) 0 _ _ b2 (by omega)
  have hr := sm_dy_rest (A := A) (Y := Y)
  have e : sm_dy (l_Sim_pass_156 A (cn A 4) 0 (l_Sim_pass_108 A (cn A 4) 0 (l_Sim_pass_72 A (cn A 0) 0 Y))) = sm_dy Y := by
    have := sm_dy_l_Sim_pass_286 (A := A) (cn A 4) 0 (l_Sim_pass_156 A (cn A 4) 0 (l_Sim_pass_108 A (cn A 4) 0 (l_Sim_pass_72 A (cn A 0) 0 Y)))
    exact this.symm.trans hr
  have d1 := endDay_eq c1 hA (by rw [e]; exact hd)
  refine ⟨?_, (RI.r286 (cn A 4) 0 _ c2 (by omega)).dy.up (by omega)⟩
  rw [hr]
  rw [e] at d1
  exact d1
end Rd
