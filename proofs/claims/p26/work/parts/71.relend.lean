/-! the camp and the law's own glacier: readings, the end of a day -/
section Pn
variable {A : AD} {σ : GL} {Y : SM}
/-- one reading -/
def rdY (Y : SM) (m i : Nat) : SM := sm_set (sm_set (sm_set Y 1 i 4 (sm_v Y 1 i 2)) 1 i 5 (sm_v Y 1 i 5 + 1)) 4 m 5 (sm_v Y 4 m 5 + 1)
theorem read_step {m k i : Nat} : l_Sim_pass_184 A m (k + 1) i Y = if sm_v Y 4 m 4 = 0 then l_Sim_pass_184 A m k (i + 1) Y else if sm_v Y 1 i 0 = sm_v Y 4 m 2 then (if sm_v Y 1 i 3 = 0 then l_Sim_pass_184 A m k (i + 1) Y else l_Sim_pass_184 A m k (i + 1) (sm_rd' (rdY Y m i) (sm_rd Y + 1))) else l_Sim_pass_184 A m k (i + 1) Y := by
  rw [l_Sim_pass_184]
  unfold rdY
  rw [sm_v_ne (k := 1) (r := i) (j := 5) (k' := 4) (r' := m) (j' := 5) (fun w => absurd w.1 (by decide)), sm_v_ne (k := 1) (r := i) (j := 4) (k' := 4) (r' := m) (j' := 5) (fun w => absurd w.1 (by decide)), sm_v_ne (k := 1) (r := i) (j := 4) (k' := 1) (r' := i) (j' := 5) (fun w => absurd w.2.2 (by decide))]
  rfl
theorem rd_v {x : Int32} {k r j : Nat} : sm_v (sm_rd' Y x) k r j = sm_v Y k r j := rfl
theorem rdY_v {m i k r j : Nat} (h : ¬ (k = 1 ∧ r = i ∧ (j = 4 ∨ j = 5))) (h2 : ¬ (k = 4 ∧ r = m ∧ j = 5)) : sm_v (rdY Y m i) k r j = sm_v Y k r j := by
  unfold rdY
  rw [sm_v_ne h2, sm_v_ne (fun w => h ⟨w.1, w.2.1, Or.inr w.2.2⟩), sm_v_ne (fun w => h ⟨w.1, w.2.1, Or.inl w.2.2⟩)]
theorem read_loop (hA : AOk A) {m : Nat} (hm : m < cn A 4) : ∀ (k i : Nat) (σ : GL) (Y : SM), PM A σ Y → S01 A Y → sm_v Y 4 m 4 = 1 → i + k ≤ cn A 1 → PM A (l_Glacier_readStakes_2 (nI m) k i σ) (l_Sim_pass_184 A m k i Y) ∧ S01 A (l_Sim_pass_184 A m k i Y)
  | 0, _, _, _, hP, h1, _, _ => ⟨hP, h1⟩
  | k + 1, i, σ, Y, hP, h1, h4, hi => by
    have hr : i < cn A 1 := by omega
    rw [read_step]
    unfold l_Glacier_readStakes_2
    rw [hP.get hA (k := 1) (c := 0) (by decide) hr (by decide) (by decide), hP.get hA (k := 4) (c := 2) (by decide) hm (by decide) (by decide), hP.get hA (k := 1) (c := 3) (by decide) hr (by decide) (by decide), hP.get hA (k := 1) (c := 2) (by decide) hr (by decide) (by decide), h4, if_neg (show ¬ (1 : Int32) = 0 by decide)]
    by_cases c0 : sm_v Y 1 i 0 = sm_v Y 4 m 2
    · rw [if_pos c0, if_pos c0]
      rcases h1 i hr with c1 | c1
      · rw [c1, if_neg (show ¬ (0 : Int32) = 1 by decide), if_pos (show (0 : Int32) = 0 from rfl)]
        exact read_loop hA hm k (i + 1) σ Y hP h1 h4 (by omega)
      · rw [c1, if_pos (show (1 : Int32) = 1 from rfl), if_neg (show ¬ (1 : Int32) = 0 by decide)]
        have e1 := ((hP.set hA (k := 1) (r := i) (c := 4) (v := sm_v Y 1 i 2) (by decide) hr (by decide) (by decide)).add hA (k := 1) (r := i) (c := 5) (v := 1) (by decide) hr (by decide) (by decide)).add hA (k := 4) (r := m) (c := 5) (v := 1) (by decide) hm (by decide) (by decide)
        rw [sm_v_ne (k := 1) (r := i) (j := 5) (k' := 4) (r' := m) (j' := 5) (fun w => absurd w.1 (by decide)), sm_v_ne (k := 1) (r := i) (j := 4) (k' := 4) (r' := m) (j' := 5) (fun w => absurd w.1 (by decide)), sm_v_ne (k := 1) (r := i) (j := 4) (k' := 1) (r' := i) (j' := 5) (fun w => absurd w.2.2 (by decide))] at e1
        refine read_loop hA hm k (i + 1) _ _ (PM.of e1 (fun _ _ _ _ _ _ => rfl) rfl rfl rfl) (fun r hr' => ?_) ?_ (by omega)
        · rw [rd_v, rdY_v (fun w => by rcases w.2.2 with w | w <;> exact absurd w (by decide)) (fun w => absurd w.1 (by decide))]
          exact h1 r hr'
        · rw [rd_v, rdY_v (fun w => absurd w.1 (by decide)) (fun w => absurd w.2.2 (by decide))]
          exact h4
    · rw [if_neg c0, if_neg c0]
      exact read_loop hA hm k (i + 1) σ Y hP h1 h4 (by omega)
theorem read_gone {m : Nat} (h4 : sm_v Y 4 m 4 = 0) : ∀ k i, l_Sim_pass_184 A m k i Y = Y
  | 0, _ => rfl
  | k + 1, i => by
    rw [read_step, if_pos h4]
    exact read_gone h4 k (i + 1)
def H01 (A : AD) (Y : SM) : Prop := ∀ t, t < cn A 4 → sm_v Y 4 t 4 = 0 ∨ sm_v Y 4 t 4 = 1
theorem read_here {m : Nat} : ∀ (k i : Nat) (Y : SM) (t : Nat), sm_v (l_Sim_pass_184 A m k i Y) 4 t 4 = sm_v Y 4 t 4
  | 0, _, _, _ => rfl
  | k + 1, i, Y, t => by
    rw [read_step]
    by_cases c : sm_v Y 4 m 4 = 0
    · rw [if_pos c]
      exact read_here k (i + 1) Y t
    · rw [if_neg c]
      by_cases c0 : sm_v Y 1 i 0 = sm_v Y 4 m 2
      · rw [if_pos c0]
        by_cases c1 : sm_v Y 1 i 3 = 0
        · rw [if_pos c1]
          exact read_here k (i + 1) Y t
        · rw [if_neg c1, read_here k (i + 1) _ t, rd_v]
          exact rdY_v (fun w => absurd w.1 (by decide)) (fun w => absurd w.2.2 (by decide))
      · rw [if_neg c0]
        exact read_here k (i + 1) Y t
theorem reads_eq (hA : AOk A) {T : TM} {F : FM} : ∀ (k i : Nat) (σ : GL) (Y : SM), PM A σ Y → S01 A Y → H01 A Y → i + k ≤ cn A 4 → PM A (l_Glacier_passDay_93 T F k i σ) (l_Sim_pass_156 A k i Y)
  | 0, _, _, _, hP, _, _, _ => hP
  | k + 1, i, σ, Y, hP, h1, h4, hi => by
    have ht : i < cn A 4 := by omega
    unfold l_Glacier_passDay_93 l_Sim_pass_156 s_Glacier_isHere
    rw [hP.get hA (k := 4) (c := 4) (by decide) ht (by decide) (by decide)]
    have h4' : H01 A (l_Sim_pass_184 A i (cn A 1) 0 Y) := fun t ht' => by
      rw [read_here]
      exact h4 t ht'
    rcases h4 i ht with e | e
    · rw [e, if_neg (show ¬ (0 : Int32) = 1 by decide), if_pos (show (0 : Int32) = 0 from rfl), read_gone e]
      exact reads_eq hA k (i + 1) σ Y hP h1 h4 (by omega)
    · rw [e, if_pos (show (1 : Int32) = 1 from rfl), if_neg (show ¬ (1 : Int32) = 0 by decide)]
      unfold s_Glacier_readStakes
      rw [hP.1 1 (by decide)]
      obtain ⟨q1, q2⟩ := read_loop hA ht (cn A 1) 0 σ Y hP h1 e (by omega)
      exact reads_eq hA k (i + 1) _ _ q1 q2 h4' (by omega)
theorem rest_loop (hA : AOk A) : ∀ (k i : Nat) (σ : GL) (Y : SM), PM A σ Y → i + k ≤ cn A 4 → PM A (l_Glacier_endDay_12 k i σ) (l_Sim_pass_286 A k i Y)
  | 0, _, _, _, hP, _ => hP
  | k + 1, i, σ, Y, hP, hi => rest_loop hA k (i + 1) _ _ (hP.set hA (by decide) (by omega) (by decide) (by decide)) (by omega)
theorem end12_sd {v : Int32} : ∀ (k i : Nat) (σ : GL), l_Glacier_endDay_12 k i (gSD σ v) = gSD (l_Glacier_endDay_12 k i σ) v
  | 0, _, _ => rfl
  | k + 1, i, σ => end12_sd k (i + 1) (gS σ 4 (nI i) 7 0)
theorem end42_sd {v : Int32} : ∀ (k i : Nat) (σ : GL), l_Glacier_endDay_42 k i (gSD σ v) = gSD (l_Glacier_endDay_42 k i σ) v
  | 0, _, _ => rfl
  | k + 1, i, σ => end42_sd k (i + 1) (gS σ 2 (nI i) 2 (iMax 0 (gG σ 2 (nI i) 2 - 1)))
theorem end42_cells {n : Nat} (hn8 : n ≤ 8) : ∀ (k i : Nat) (σ : GL), gN σ 2 = n → i + k ≤ n → (∀ j, gN (l_Glacier_endDay_42 k i σ) j = gN σ j) ∧ (l_Glacier_endDay_42 k i σ).2 = σ.2 ∧ ∀ k' r c, c < 8 → ((l_Glacier_endDay_42 k i σ).1 k').1 (8 * r + c) = if k' = 2 ∧ c = 2 ∧ i ≤ r ∧ r < i + k then iMax 0 ((σ.1 k').1 (8 * r + c) - 1) else (σ.1 k').1 (8 * r + c)
  | 0, i, σ, _, _ => ⟨fun _ => rfl, rfl, fun k' r c _ => by rw [if_neg (by omega)]; rfl⟩
  | k + 1, i, σ, hn, hi => by
    have hn' : (σ.1 2).2 = n := hn
    have eg : gS σ 2 (nI i) 2 (iMax 0 (gG σ 2 (nI i) 2 - 1)) = gP σ 2 (upd (σ.1 2).1 (8 * i + 2) (iMax 0 ((σ.1 2).1 (8 * i + 2) - 1)), (σ.1 2).2) := by
      unfold gS gG
      rw [tgI_at (by omega) (by omega), tsI_at (by omega) (by omega)]
    obtain ⟨q1, q2, q3⟩ := end42_cells hn8 k (i + 1) (gS σ 2 (nI i) 2 (iMax 0 (gG σ 2 (nI i) 2 - 1))) ((gN_gS 2).trans hn) (by omega)
    refine ⟨fun j => (q1 j).trans (gN_gS j), q2, fun k' r c hc => ?_⟩
    refine (q3 k' r c hc).trans ?_
    have hcell : ((gS σ 2 (nI i) 2 (iMax 0 (gG σ 2 (nI i) 2 - 1))).1 k').1 (8 * r + c) = if k' = 2 ∧ r = i ∧ c = 2 then iMax 0 ((σ.1 k').1 (8 * r + c) - 1) else (σ.1 k').1 (8 * r + c) := by
      rw [eg]
      show (if k' = 2 then (upd (σ.1 2).1 (8 * i + 2) (iMax 0 ((σ.1 2).1 (8 * i + 2) - 1)), (σ.1 2).2) else σ.1 k').1 _ = _
      by_cases e1 : k' = 2
      · subst e1
        rw [if_pos rfl]
        show upd _ _ _ _ = _
        rw [cellu (by decide) hc]
        by_cases e2 : r = i ∧ c = 2
        · rw [if_pos e2, if_pos ⟨rfl, e2⟩, e2.1, e2.2]
        · rw [if_neg e2, if_neg (fun w => e2 w.2)]
      · rw [if_neg e1, if_neg (fun w => e1 w.1)]
    rw [hcell]
    by_cases a1 : k' = 2 ∧ c = 2 ∧ i + 1 ≤ r ∧ r < i + 1 + k
    · rw [if_pos a1, if_neg (show ¬ (k' = 2 ∧ r = i ∧ c = 2) by omega), if_pos ⟨a1.1, a1.2.1, by omega, by omega⟩]
    · rw [if_neg a1]
      by_cases a2 : k' = 2 ∧ r = i ∧ c = 2
      · rw [if_pos a2, if_pos ⟨a2.1, a2.2.2, by omega, by omega⟩]
      · rw [if_neg a2, if_neg (by omega)]
theorem endDay_eq (hP : PM A σ Y) (hA : AOk A) (hd : sm_dy Y + 1 < 1000000) : PM A (s_Glacier_endDay σ) (sm_dy' (l_Sim_pass_286 A (cn A 4) 0 Y) (sm_dy Y + 1)) := by
  have h8 := hA.2.2 2 (by decide)
  have e : s_Glacier_endDay σ = gSD (l_Glacier_endDay_42 (cn A 2) 0 (l_Glacier_endDay_12 (cn A 4) 0 σ)) (nI (sm_dy Y + 1)) := by
    unfold s_Glacier_endDay
    rw [show gN (gSD σ (gD σ + 1)) 4 = gN σ 4 from rfl, hP.1 4 (by decide), end12_sd, end42_sd, hP.2.2.2.1, show nI (sm_dy Y) + 1 = nI (sm_dy Y + 1) from nI_ad _ 1]
    have := (rest_loop hA (cn A 4) 0 σ Y hP (by omega)).1 2 (by decide)
    rw [show gN (gSD (l_Glacier_endDay_12 (cn A 4) 0 σ) (nI (sm_dy Y + 1))) 2 = gN (l_Glacier_endDay_12 (cn A 4) 0 σ) 2 from rfl, this]
  rw [e]
  have h1 := rest_loop hA (cn A 4) 0 σ Y hP (by omega)
  have hdy : sm_dy (l_Sim_pass_286 A (cn A 4) 0 Y) = sm_dy Y := sm_dy_l_Sim_pass_286 ..
  generalize l_Glacier_endDay_12 (cn A 4) 0 σ = σ1 at h1 ⊢
  generalize l_Sim_pass_286 A (cn A 4) 0 Y = Y1 at h1 hdy ⊢
  obtain ⟨q1, q2, q3⟩ := end42_cells (n := cn A 2) h8 (cn A 2) 0 σ1 (h1.1 2 (by decide)) (by omega)
  refine ⟨fun k hk => (q1 k).trans (h1.1 k hk), fun k r c hk hr hc hn => ?_, fun r hr => ?_, rfl, hd, fun j hj => ?_, ?_⟩
  · show ((l_Glacier_endDay_42 (cn A 2) 0 σ1).1 k).1 (8 * r + c) = sm_v Y1 k r c
    rw [q3 k r c (Nat.lt_of_lt_of_le hc (wdt_le hk)), if_neg (fun w => hn ⟨w.1, w.2.1⟩)]
    exact h1.2.1 k r c hk hr hc hn
  · obtain ⟨v, e1, e2, e3⟩ := h1.2.2.1 r hr
    refine ⟨v, e1, by show v ≤ sm_dy Y + 1 + 3; omega, ?_⟩
    show ((l_Glacier_endDay_42 (cn A 2) 0 σ1).1 2).1 (8 * r + 2) = nI (v - (sm_dy Y + 1))
    rw [q3 2 r 2 (by decide), if_pos ⟨rfl, rfl, by omega, by omega⟩, e3, hdy]
    by_cases c : v - sm_dy Y = 0
    · rw [c, show v - (sm_dy Y + 1) = 0 by omega]
      decide
    · rw [show nI (v - sm_dy Y) - 1 = nI (v - sm_dy Y - 1) from nI_sub (a := v - sm_dy Y) (b := 1) (by omega), show iMax 0 (nI (v - sm_dy Y - 1)) = nI (max 0 (v - sm_dy Y - 1)) from iMax_n (x := 0) (by omega) (by omega), show max 0 (v - sm_dy Y - 1) = v - (sm_dy Y + 1) by omega]
  · show (l_Glacier_endDay_42 (cn A 2) 0 σ1).2.1 j = _
    rw [q2]
    exact h1.2.2.2.2.2.1 j hj
  · show (l_Glacier_endDay_42 (cn A 2) 0 σ1).2.2.2 = _
    rw [q2]
    exact h1.2.2.2.2.2.2
end Pn
