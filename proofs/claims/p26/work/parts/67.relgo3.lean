/-! the camp and the law's own glacier: a go, a probe -/
section Ph
variable {A : AD} {σ : GL} {Y : SM}
theorem fallF_set {t s : Nat} {x : Int32} : ∀ l : List Nat, fallF (sm_set Y 4 s 7 x) t l = fallF Y t l
  | [] => rfl
  | c :: l => by
    unfold fallF
    rw [fallF_set l, sm_v_ne (fun w => absurd w.1 (by decide)), sm_v_ne (k' := 4) (j' := 0) (fun w => absurd w.2.2 (by decide))]
theorem cro_set {t c : Nat} {x : Int32} : cro (sm_set Y 4 t 7 x) c = sm_set (cro Y c) 4 t 7 x := by
  unfold cro
  rw [sm_v_ne (fun w => absurd w.1 (by decide)), sm_set_comm (fun w => absurd w.1 (by decide))]
theorem crossF_set {t : Nat} {x : Int32} : ∀ (l : List Nat) (Y : SM), crossF (sm_set Y 4 t 7 x) l = sm_set (crossF Y l) 4 t 7 x
  | [], _ => rfl
  | c :: l, Y => by
    show crossF (cro (sm_set Y 4 t 7 x) c) l = sm_set (crossF (cro Y c) l) 4 t 7 x
    rw [cro_set, crossF_set l]
theorem fall1_set {t c : Nat} {x : Int32} : fall1 (sm_set Y 4 t 7 x) c = sm_set (fall1 Y c) 4 t 7 x := by
  unfold fall1
  rw [sm_v_ne (fun w => absurd w.2.2 (by decide)), sm_v_ne (k' := 2) (r' := c) (j' := 5) (fun w => absurd w.1 (by decide)), sm_v_ne (k := 2) (r := c) (j := 1) (k' := 2) (r' := c) (j' := 5) (fun w => absurd w.2.2 (by decide)), sm_set_comm (k := 4) (k' := 2) (fun w => absurd w.1 (by decide)), sm_set_comm (k := 4) (k' := 2) (fun w => absurd w.1 (by decide))]
theorem fall2_set {t : Nat} {x : Int32} : fall2 (sm_set Y 4 t 7 x) t = sm_set (fall2 Y t) 4 t 7 x := by
  unfold fall2
  rw [sm_v_ne (k' := 4) (r' := t) (j' := 6) (j := 1) (fun w => absurd w.2.2 (by decide)), sm_v_ne (k' := 4) (r' := t) (j' := 6) (j := 7) (fun w => absurd w.2.2 (by decide)), sm_v_ne (k' := 4) (r' := t) (j' := 1) (j := 7) (fun w => absurd w.2.2 (by decide)), sm_v_ne (k' := 4) (r' := t) (j' := 6) (j := 1) (fun w => absurd w.2.2 (by decide)), sm_set_comm (j := 7) (j' := 1) (fun w => absurd w.2.2 (by decide)), sm_set_comm (j := 7) (j' := 6) (fun w => absurd w.2.2 (by decide))]
theorem crossY_set {t : Nat} {x y : Int32} : crossY (sm_set Y 4 t 7 y) t x = sm_set (crossY Y t x) 4 t 7 y := by
  unfold crossY
  rw [sm_v_ne (fun w => absurd w.2.2 (by decide)), sm_set_comm (fun w => absurd w.2.2 (by decide))]
theorem letCross_ok (hP : PM A σ Y) (hA : AOk A) {t : Nat} (ht : t < cn A 4) {x : Int32} : PM A (s_Glacier_letCross σ (nI t) x) (crossY (crossF Y (wayF Y (lowF Y t x) x (cn A 2) 0 [])) t x) := by
  unfold s_Glacier_letCross crossY lowF
  rw [hP.get hA (k := 4) (c := 2) (by decide) ht (by decide) (by decide), i_sub0]
  by_cases hx : x = 0
  · rw [if_pos hx, if_pos hx, if_pos hx, if_pos hx]
    exact (cross_eq hP hA).add hA (by decide) ht (by decide) (by decide)
  · rw [if_neg hx, if_neg hx, if_neg hx, if_neg hx]
    exact (cross_eq hP hA).add hA (by decide) ht (by decide) (by decide)
theorem letFall_ok (hP : PM A σ Y) (hA : AOk A) {t f : Nat} (ht : t < cn A 4) (hf : f < cn A 2) : PM A (s_Glacier_letFall σ (nI t) (nI f)) (fall2 (fall1 Y f) t) := by
  have h1 := (hP.set hA (k := 2) (r := f) (c := 1) (v := 0) (by decide) hf (by decide) (by decide)).add hA (k := 2) (r := f) (c := 5) (v := 1) (by decide) hf (by decide) (by decide)
  have h2 := h1.set hA (k := 4) (r := t) (c := 1) (v := gG (gA (gS σ 2 (nI f) 1 0) 2 (nI f) 5 1) 4 (nI t) 1 / 2) (by decide) ht (by decide) (by decide)
  have h3 := h2.add hA (k := 4) (r := t) (c := 6) (v := 1) (by decide) ht (by decide) (by decide)
  rw [h1.get hA (k := 4) (r := t) (c := 1) (by decide) ht (by decide) (by decide)] at h3
  unfold s_Glacier_letFall
  rw [h1.get hA (k := 4) (r := t) (c := 1) (by decide) ht (by decide) (by decide)]
  exact h3
theorem s_can_way {t : Nat} {x : Int32} (h : ¬ s_Sim_can A Y t x = 0) {p : Nat} (hA : AOk A) (hp : sm_v Y 4 t 2 = nI p) (hpn : p < cn A 0) : wayO A Y t x = some (wayF Y (lowF Y t x) x (cn A 2) 0 []) := by
  cases e : wayO A Y t x with
  | none =>
    unfold s_Sim_can at h
    rw [e] at h
    exact absurd rfl h
  | some l =>
    rw [wayO_some hA hp hpn] at e
    by_cases hx : x = 0
    · rw [if_pos hx] at e
      by_cases h0 : p = 0
      · rw [if_pos h0] at e
        cases e
      · rw [if_neg h0] at e
        exact e.symm
    · rw [if_neg hx] at e
      by_cases h1 : p + 1 < cn A 0
      · rw [if_pos h1] at e
        exact e.symm
      · rw [if_neg h1] at e
        cases e
theorem go_eq (hP : PM A σ Y) (hA : AOk A) {t : Nat} (ht : t < cn A 4) {x : Int32} (hT : TOk A Y t) : (s_Glacier_tryGo σ (nI t) x).1 = (s_Sim_goes A Y t x).1 ∧ PM A (s_Glacier_tryGo σ (nI t) x).2 (s_Sim_goes A Y t x).2 := by
  have hc := canGo_eq hP hA ht (x := x) hT
  obtain ⟨⟨p, hp, hpn⟩, -, -⟩ := hT
  unfold s_Glacier_tryGo s_Sim_goes
  rw [hc]
  by_cases h0 : s_Sim_can A Y t x = 0
  · rw [if_pos h0, if_pos h0]
    exact ⟨rfl, hP⟩
  rw [if_neg h0, if_neg h0, s_can_way h0 hA hp hpn, fall_eq hP hA ht]
  dsimp only
  unfold goesL
  rw [fallF_set]
  cases ef : fallF Y t (wayF Y (lowF Y t x) x (cn A 2) 0 []) with
  | none =>
    rw [if_pos (show fallN none < 0 by decide)]
    refine ⟨rfl, ?_⟩
    dsimp only
    rw [crossF_set, crossY_set]
    exact (letCross_ok hP hA ht).set hA (by decide) ht (by decide) (by decide)
  | some f =>
    have hm := fallF_mem _ ef
    have hf : f < cn A 2 := by
      have := ((wayA_mem _ _).mp (wayF_mem.mp hm)).1.2
      omega
    have h8 := hA.2.2 2 (by decide)
    rw [if_neg (show ¬ fallN (some f) < 0 from nI_pos (by omega))]
    refine ⟨rfl, ?_⟩
    dsimp only
    unfold fallY
    rw [fall1_set, fall2_set]
    refine PM.of (Y := sm_set (fall2 (fall1 Y f) t) 4 t 7 1) ?_ (fun _ _ _ _ _ _ => rfl) rfl rfl rfl
    exact (letFall_ok hP hA ht hf).set hA (by decide) ht (by decide) (by decide)
theorem small8 : ∀ p a : Fin 8, (nI p.val - nI a.val < 0 ↔ p.val < a.val) ∧ (nI p.val - nI a.val ≤ 1 ↔ p.val ≤ a.val + 1) ∧ (nI p.val = nI a.val ↔ p.val = a.val) ∧ (nI p.val = nI a.val + 1 ↔ p.val = a.val + 1) := by decide +kernel
theorem probe_eq (hP : PM A σ Y) (hA : AOk A) {t c : Nat} (ht : t < cn A 4) (hc : c < cn A 2) (hT : TOk A Y t) (hC : ∃ a, sm_v Y 2 c 0 = nI a ∧ a < cn A 0) : (s_Glacier_tryProbe σ (nI t) (nI c)).1 = (s_Sim_probes Y t c).1 ∧ PM A (s_Glacier_tryProbe σ (nI t) (nI c)).2 (s_Sim_probes Y t c).2 := by
  have h80 := hA.2.2 0 (by decide)
  have h82 := hA.2.2 2 (by decide)
  obtain ⟨⟨p, hp, hpn⟩, h4, h7⟩ := hT
  obtain ⟨a, ha, han⟩ := hC
  obtain ⟨s1, s2, s3, s4⟩ := small8 ⟨p, by omega⟩ ⟨a, by omega⟩
  dsimp only at s1 s2 s3 s4
  have hok : PM A (gS (gS (gS σ 2 (nI c) 2 3) 2 (nI c) 3 (gG (gS σ 2 (nI c) 2 3) 2 (nI c) 1)) 4 (nI t) 7 1) (sm_set (sm_set (sm_set Y 4 t 7 1) 2 c 2 (nI ((sm_dy (sm_set Y 4 t 7 1)) + 3))) 2 c 3 ((sm_v (sm_set (sm_set Y 4 t 7 1) 2 c 2 (nI ((sm_dy (sm_set Y 4 t 7 1)) + 3))) 2 c) 1)) := by
    have h1 : PM A (gS σ 2 (nI c) 2 3) (sm_set Y 2 c 2 (nI (sm_dy Y + 3))) := hP.put hA (by decide) hc (by decide) (fun _ => ⟨sm_dy Y + 3, rfl, Nat.le_refl _, by rw [Nat.add_sub_cancel_left]; rfl⟩) (fun w => absurd ⟨rfl, rfl⟩ w)
    have e1 := h1.get hA (k := 2) (r := c) (c := 1) (by decide) hc (by decide) (by decide)
    have h2 := h1.set hA (k := 2) (r := c) (c := 3) (v := gG (gS σ 2 (nI c) 2 3) 2 (nI c) 1) (by decide) hc (by decide) (by decide)
    have h3 := h2.set hA (k := 4) (r := t) (c := 7) (v := 1) (by decide) ht (by decide) (by decide)
    rw [e1] at h3 ⊢
    rw [sm_set_comm (k := 4) (k' := 2) (fun w => absurd w.1 (by decide)), sm_set_comm (k := 4) (k' := 2) (fun w => absurd w.1 (by decide)), sm_v_ne (k := 4) (k' := 2) (fun w => absurd w.1 (by decide))]
    exact h3
  unfold s_Glacier_tryProbe s_Sim_probes
  rw [canDo_eq hP hA ht, gH_at (hP.1 2 (by decide)) (by omega) (by omega), if_pos hc, hP.get hA (k := 4) (c := 2) (by decide) ht (by decide) (by decide), hP.get hA (k := 2) (c := 0) (by decide) hc (by decide) (by decide), hp, ha]
  rcases h4 with e4 | e4 <;> rw [e4]
  · exact ⟨rfl, hP⟩
  rcases h7 with e7 | e7 <;> rw [e7]
  · rw [if_pos (show (1 : Int32) = 1 from rfl), if_pos (show (0 : Int32) = 0 from rfl), if_neg (show ¬ (1 : Int32) = 0 by decide), if_neg (show ¬ (1 : Int32) = 0 by decide), if_neg (show ¬ (1 : Int32) = 0 by decide), if_neg (show ¬ (0 : Int32) = 1 by decide)]
    by_cases q1 : p < a
    · rw [if_pos (s1.mpr q1), if_neg (fun w => absurd (s3.mp w) (by omega)), if_neg (fun w => absurd (s4.mp w) (by omega))]
      exact ⟨rfl, hP⟩
    · rw [if_neg (fun w => q1 (s1.mp w))]
      by_cases q2 : p ≤ a + 1
      · rw [if_pos (s2.mpr q2)]
        by_cases q3 : p = a
        · rw [if_pos (s3.mpr q3)]
          exact ⟨rfl, hok⟩
        · rw [if_neg (fun w => q3 (s3.mp w)), if_pos (s4.mpr (by omega))]
          exact ⟨rfl, hok⟩
      · rw [if_neg (fun w => q2 (s2.mp w)), if_neg (fun w => absurd (s3.mp w) (by omega)), if_neg (fun w => absurd (s4.mp w) (by omega))]
        exact ⟨rfl, hP⟩
  · exact ⟨rfl, hP⟩
end Ph
