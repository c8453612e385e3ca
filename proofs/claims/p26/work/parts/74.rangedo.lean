/-! the law's own glacier: its ranges where something is done -/
section Ra
variable {A : AD} {σ : GL} {Y : SM} {N : Nat}
theorem crossF_v {k r j : Nat} (h : ¬ (k = 2 ∧ j = 4)) : ∀ (l : List Nat) (Y : SM), sm_v (crossF Y l) k r j = sm_v Y k r j
  | [], _ => rfl
  | c :: l, Y => (crossF_v h l _).trans (sm_v_ne (fun w => h ⟨w.1, w.2.2⟩))
theorem crossF_wa : ∀ (l : List Nat) (Y : SM), sm_wa (crossF Y l) = sm_wa Y
  | [], _ => rfl
  | _ :: l, _ => crossF_wa l _
theorem RI.cross (h : RI A Y N) {l : List Nat} : RI A (crossF Y l) N := by
  refine h.of (crossF_wa _ _) (Nat.le_refl _) (fun k r hk hr => ?_)
  by_cases e : k = 2
  · subst e
    refine Or.inr ?_
    obtain ⟨a1, a2, a3⟩ := h.2 2 r (by decide) hr
    exact ⟨by rw [crossF_v (by decide)]; exact a1, by rw [crossF_v (by decide)]; exact a2, by rw [crossF_v (by decide), crossF_v (by decide)]; exact a3⟩
  · refine Or.inl ?_
    funext j
    exact crossF_v (fun w => e w.1) _ _
theorem RI.place (h : RI A Y N) {t p : Nat} (ht : t < cn A 4) {x : Int32} (hx : x = nI p) (hp : p < cn A 0) : RI A (sm_set Y 4 t 2 x) N := by
  obtain ⟨b1, b2, b3, b4, b5, b6⟩ := h.2 4 t (by decide) ht
  have hv : ∀ c, c ≠ 2 → sm_v (sm_set Y 4 t 2 x) 4 t c = sm_v Y 4 t c := fun c hc => sm_v_ne (fun w => hc w.2.2)
  exact h.set (Nat.le_refl _) ⟨by rw [hv 0 (by decide)]; exact b1, by rw [hv 1 (by decide)]; exact b2, ⟨p, by rw [sm_v_at]; exact hx, hp⟩, by rw [hv 3 (by decide), hv 4 (by decide)]; exact b4, by rw [hv 7 (by decide)]; exact b5, by rw [hv 6 (by decide)]; exact b6⟩
theorem RI.sack (h : RI A Y N) {t s : Nat} (ht : t < cn A 4) {x : Int32} (hx : x = nI s) (hs : s ≤ 40) : RI A (sm_set Y 4 t 1 x) N := by
  obtain ⟨b1, b2, b3, b4, b5, b6⟩ := h.2 4 t (by decide) ht
  have hv : ∀ c, c ≠ 1 → sm_v (sm_set Y 4 t 1 x) 4 t c = sm_v Y 4 t c := fun c hc => sm_v_ne (fun w => hc w.2.2)
  exact h.set (Nat.le_refl _) ⟨by rw [hv 0 (by decide)]; exact b1, ⟨s, by rw [sm_v_at]; exact hx, hs⟩, by rw [hv 2 (by decide)]; exact b3, by rw [hv 3 (by decide), hv 4 (by decide)]; exact b4, by rw [hv 7 (by decide)]; exact b5, by rw [hv 6 (by decide)]; exact b6⟩
theorem half41 : ∀ s : Fin 41, nI s.val / 2 = nI (s.val / 2) := by decide +kernel
theorem RI.fall (h : RI A Y N) {t c : Nat} (ht : t < cn A 4) (hc : c < cn A 2) : RI A (fallY Y t c) (N + 1) := by
  have h1 : RI A (fall1 Y c) N := by
    refine h.of rfl (Nat.le_refl _) (fun k r _ _ => ?_)
    by_cases e : k = 2 ∧ r = c
    · refine Or.inr ?_
      rw [e.1, e.2]
      obtain ⟨a1, a2, a3⟩ := h.2 2 c (by decide) hc
      have hv : ∀ j, j ≠ 1 → j ≠ 5 → sm_v (fall1 Y c) 2 c j = sm_v Y 2 c j := fun j q1 q2 => by
        unfold fall1
        rw [sm_v_ne (fun w => q2 w.2.2), sm_v_ne (fun w => q1 w.2.2)]
      refine ⟨by rw [hv 0 (by decide) (by decide)]; exact a1, ⟨0, ?_, by decide⟩, by rw [hv 2 (by decide) (by decide), hv 3 (by decide) (by decide)]; exact a3⟩
      unfold fall1
      rw [sm_v_ne (fun w => absurd w.2.2 (by decide)), sm_v_at]
      rfl
    · exact Or.inl ((sm_row_ne e).trans (sm_row_ne e))
  obtain ⟨-, ⟨s, hs, hs4⟩, -⟩ := h1.2 4 t (by decide) ht
  have e2 := half41 ⟨s, by omega⟩
  dsimp only at e2
  have h2 := h1.sack (x := sm_v (fall1 Y c) 4 t 1 / 2) ht (s := s / 2) (by rw [hs]; exact e2) (by omega)
  obtain ⟨b1, b2, b3, b4, b5, n, b6, b7⟩ := h2.2 4 t (by decide) ht
  have h3 : RI A (fall2 (fall1 Y c) t) (N + 1) := by
    unfold fall2
    have hv : ∀ j, j ≠ 6 → ∀ x, sm_v (sm_set (sm_set (fall1 Y c) 4 t 1 (sm_v (fall1 Y c) 4 t 1 / 2)) 4 t 6 x) 4 t j = sm_v (sm_set (fall1 Y c) 4 t 1 (sm_v (fall1 Y c) 4 t 1 / 2)) 4 t j := fun j hj x => sm_v_ne (fun w => hj w.2.2)
    exact h2.set (by omega) ⟨by rw [hv 0 (by decide)]; exact b1, by rw [hv 1 (by decide)]; exact b2, by rw [hv 2 (by decide)]; exact b3, by rw [hv 3 (by decide), hv 4 (by decide)]; exact b4, by rw [hv 7 (by decide)]; exact b5, n + 1, by rw [sm_v_at, b6]; exact nI_ad n 1, by omega⟩
  exact h3.of rfl (Nat.le_refl _) (fun _ _ _ _ => Or.inl rfl)
theorem RI.goes (h : RI A Y N) (hA : AOk A) {t : Nat} (ht : t < cn A 4) {x : Int32} : RI A (s_Sim_goes A Y t x).2 (N + 1) := by
  unfold s_Sim_goes
  by_cases h0 : s_Sim_can A Y t x = 0
  · rw [if_pos h0]
    exact h.up (by omega)
  rw [if_neg h0]
  obtain ⟨⟨p, hp, hpn⟩, -, -⟩ := h.tok ht
  have h8 := hA.2.2 0 (by decide)
  have hw := s_can_way h0 hA hp hpn
  have hw2 := hw
  rw [wayO_some hA hp hpn] at hw2
  rw [hw]
  dsimp only
  unfold goesL
  rw [fallF_set]
  cases ef : fallF Y t (wayF Y (lowF Y t x) x (cn A 2) 0 []) with
  | some f =>
    have hm := fallF_mem _ ef
    have hf : f < cn A 2 := by
      have := ((wayA_mem _ _).mp (wayF_mem.mp hm)).1.2
      omega
    exact (h.done ht (Or.inr rfl)).fall ht hf
  | none =>
    dsimp only
    unfold crossY
    have e1 : sm_v (crossF (sm_set Y 4 t 7 1) (wayF Y (lowF Y t x) x (cn A 2) 0 [])) 4 t 2 = nI p := by
      rw [crossF_v (by decide), sm_v_ne (fun w => absurd w.2.2 (by decide)), hp]
    by_cases hx : x = 0
    · rw [if_pos hx] at hw2 ⊢
      have hp0 : ¬ p = 0 := fun w => by
        rw [if_pos w] at hw2
        cases hw2
      exact (((h.done ht (Or.inr rfl)).cross).place ht (p := p - 1) (by rw [e1]; exact (Int32.sub_eq_add_neg (nI p) 1).symm.trans (nI_sub (a := p) (b := 1) (by omega))) (by omega)).up (by omega)
    · rw [if_neg hx] at hw2 ⊢
      have hp1 : p + 1 < cn A 0 := by
        by_cases q : p + 1 < cn A 0
        · exact q
        · rw [if_neg q] at hw2
          cases hw2
      exact (((h.done ht (Or.inr rfl)).cross).place ht (p := p + 1) (by rw [e1]; exact nI_ad p 1) hp1).up (by omega)
theorem RI.probed (h : RI A Y N) {t c v : Nat} (ht : t < cn A 4) (hc : c < cn A 2) : RI A (sm_set (sm_set (sm_set Y 4 t 7 1) 2 c 2 (nI v)) 2 c 3 (sm_v (sm_set (sm_set Y 4 t 7 1) 2 c 2 (nI v)) 2 c 1)) N := by
  have h1 := h.done ht (x := 1) (Or.inr rfl)
  generalize sm_set Y 4 t 7 1 = Z at h1 ⊢
  refine h1.of rfl (Nat.le_refl _) (fun k r _ _ => ?_)
  by_cases e : k = 2 ∧ r = c
  · refine Or.inr ?_
    rw [e.1, e.2]
    obtain ⟨a1, ⟨g, a2, a4⟩, a3⟩ := h1.2 2 c (by decide) hc
    rw [sm_v_ne (k' := 2) (r' := c) (j' := 1) (j := 2) (fun w => absurd w.2.2 (by decide))]
    refine ⟨?_, ⟨g, ?_, a4⟩, v, ?_, Or.inr ⟨g, ?_, a4⟩⟩
    · rw [sm_v_ne (fun w => absurd w.2.2 (by decide)), sm_v_ne (fun w => absurd w.2.2 (by decide))]
      exact a1
    · rw [sm_v_ne (fun w => absurd w.2.2 (by decide)), sm_v_ne (fun w => absurd w.2.2 (by decide))]
      exact a2
    · rw [sm_v_ne (fun w => absurd w.2.2 (by decide)), sm_v_at]
    · rw [sm_v_at]
      exact a2
  · exact Or.inl ((sm_row_ne e).trans (sm_row_ne e))
theorem RI.probes (h : RI A Y N) {t c : Nat} (ht : t < cn A 4) (hc : c < cn A 2) : RI A (s_Sim_probes Y t c).2 N := by
  unfold s_Sim_probes
  by_cases c1 : sm_v Y 4 t 4 = 0
  · rw [if_pos c1]
    exact h
  rw [if_neg c1]
  by_cases c2 : sm_v Y 4 t 7 = 1
  · rw [if_pos c2]
    exact h
  rw [if_neg c2]
  by_cases c3 : sm_v Y 4 t 2 = sm_v Y 2 c 0
  · rw [if_pos c3]
    exact h.probed ht hc
  rw [if_neg c3]
  by_cases c4 : sm_v Y 4 t 2 = sm_v Y 2 c 0 + 1
  · rw [if_pos c4]
    exact h.probed ht hc
  · rw [if_neg c4]
    exact h
theorem gvA_n {t s : Nat} {w : Int32} (hs : sm_v Y 4 t 1 = nI s) (hk : s ≤ 40) : ∃ a, a ≤ 40 - s ∧ gvA Y t w = nI a := by
  have e40 : (40 : Int32) - nI s = nI (40 - s) := nI_sub (a := 40) hk
  unfold gvA
  rw [hs, e40]
  by_cases c2 : 0 ≤ w
  · rw [if_pos c2]
    by_cases c3 : w ≤ nI (40 - s)
    · rw [if_pos c3]
      have hb : w = nI w.toNatClampNeg := nI_back (by rw [Int32.lt_iff_toInt_lt]; rw [Int32.le_iff_toInt_le] at c2; omega)
      refine ⟨w.toNatClampNeg, ?_, hb⟩
      rw [hb] at c3
      exact Nat.not_lt.mp (fun q => nI_ge q (tnc_lt w) c3)
    · rw [if_neg c3]
      exact ⟨_, Nat.le_refl _, rfl⟩
  · rw [if_neg c2, if_pos (show (0 : Int32) ≤ nI (40 - s) from nI_le (a := 0) (by omega) (by omega))]
    exact ⟨0, by omega, rfl⟩
theorem RI.food1 (h : RI A Y N) {j g : Nat} (hj : j < cn A 3) {x : Int32} (hx : x = nI g) (hg : g < 1000) : RI A (sm_set Y 3 j 1 x) N := by
  obtain ⟨b1, -⟩ := h.2 3 j (by decide) hj
  exact h.set (Nat.le_refl _) ⟨by rw [sm_v_ne (fun w => absurd w.2.2 (by decide))]; exact b1, g, by rw [sm_v_at]; exact hx, hg⟩
theorem RI.fills (h : RI A Y N) (hP : PM A σ Y) (hA : AOk A) {t : Nat} (ht : t < cn A 4) {w : Int32} : RI A (s_Sim_fills A Y t w).2 N ∧ ∃ m, m ≤ 40 ∧ (s_Sim_fills A Y t w).1 = nI m := by
  obtain ⟨-, ⟨s, hs, hs4⟩, -⟩ := h.2 4 t (by decide) ht
  unfold s_Sim_fills
  by_cases c1 : sm_v Y 4 t 4 = 0
  · rw [if_pos c1]
    exact ⟨h, 0, by decide, rfl⟩
  rw [if_neg c1]
  rcases store_loop hP hA h.fok (t := t) (w := w) (cn A 3) 0 (by omega) with ⟨-, e2⟩ | ⟨j, hj, -, e2⟩
  · rw [e2]
    exact ⟨h, 0, by decide, rfl⟩
  · rw [e2]
    obtain ⟨a, ha, ea⟩ := gvA_n (w := w) hs hs4
    obtain ⟨f, ef, hf⟩ := h.fok j hj
    have em : gvF Y t j w = nI (min a f) := by
      unfold gvF
      rw [ea, ef]
      by_cases q : a ≤ f
      · rw [if_pos (nI_le q (by omega)), Nat.min_eq_left q]
      · rw [if_neg (nI_ge (by omega) (by omega)), Nat.min_eq_right (by omega)]
    rw [em]
    refine ⟨?_, min a f, by omega, rfl⟩
    unfold gvY
    rw [ef, nI_sub (show min a f ≤ f by omega)]
    exact (h.food1 hj rfl (by omega)).sack ht (s := s + min a f) (by rw [sm_v_ne (fun w => absurd w.1 (by decide)), hs]; exact nI_ad _ _) (by omega)
theorem RI.drills (h : RI A Y N) {s : Nat} (hs : s < cn A 1) : RI A (s_Sim_drills A Y s).2 N := by
  unfold s_Sim_drills
  by_cases c1 : sm_v Y 1 s 3 = 1
  · rw [if_pos c1]
    exact h
  rw [if_neg c1]
  rcases drill_loop (A := A) (Y := Y) (k0 := s) (cn A 4) 0 with ⟨-, e⟩ | ⟨-, e⟩ <;> rw [e]
  · exact h
  · refine h.of rfl (Nat.le_refl _) (fun k r _ _ => ?_)
    by_cases e1 : k = 1 ∧ r = s
    · refine Or.inr ?_
      rw [e1.1, e1.2]
      obtain ⟨b1, ⟨d, o, a2, a3, a4, a5, a6, a7⟩, b5⟩ := h.2 1 s (by decide) hs
      have hv : ∀ j, j ≠ 2 → j ≠ 3 → sm_v (sm_set (sm_set Y 1 s 2 0) 1 s 3 1) 1 s j = sm_v Y 1 s j := fun j q1 q2 => by
        rw [sm_v_ne (fun w => q2 w.2.2), sm_v_ne (fun w => q1 w.2.2)]
      refine ⟨by rw [hv 0 (by decide) (by decide)]; exact b1, ⟨d, 0, by rw [hv 1 (by decide) (by decide)]; exact a2, a3, a4, ?_, by decide, Or.inl ⟨sm_v_at, by omega⟩⟩, by rw [hv 5 (by decide) (by decide), hv 4 (by decide) (by decide)]; exact b5⟩
      rw [sm_v_ne (fun w => absurd w.2.2 (by decide)), sm_v_at]
      rfl
    · exact Or.inl ((sm_row_ne e1).trans (sm_row_ne e1))
theorem RI.stock (h : RI A Y N) {j m : Nat} (hj : j < cn A 3) (hm : m ≤ 200) : RI A (sm_set Y 3 j 1 (iMin 999 (sm_v Y 3 j 1 + nI m))) N := by
  obtain ⟨f, ef, hf⟩ := h.fok j hj
  exact h.food1 hj (g := min 999 (f + m)) (by rw [ef, nI_ad]; exact iMin_n (x := 999) (by omega) (by omega)) (by omega)
theorem RI.warm (h : RI A Y N) {j w : Nat} {x : Int32} (hx : x = nI w) (hw : w ≤ 30) : RI A (sm_wa' Y (upd (sm_wa Y) j x)) N := by
  refine ⟨fun i hi => ?_, h.2⟩
  show ∃ w, upd (sm_wa Y) j x i = nI w ∧ w ≤ 30
  unfold upd
  by_cases e : i = j
  · rw [if_pos e]
    exact ⟨w, hx, hw⟩
  · rw [if_neg e]
    exact h.1 i hi
end Ra
