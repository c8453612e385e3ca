/-! the camp and the law's own glacier: a fill, a drill, what is told of warmth -/
section Pf
variable {A : AD} {σ : GL} {Y : SM}
/-- how much comes -/
def gvA (Y : SM) (t : Nat) (w : Int32) : Int32 := if (if 0 ≤ w then w else 0) ≤ 40 - sm_v Y 4 t 1 then (if 0 ≤ w then w else 0) else 40 - sm_v Y 4 t 1
def gvF (Y : SM) (t i : Nat) (w : Int32) : Int32 := if gvA Y t w ≤ sm_v Y 3 i 1 then gvA Y t w else sm_v Y 3 i 1
def gvY (Y : SM) (t i : Nat) (m : Int32) : SM := sm_set (sm_set Y 3 i 1 (sm_v Y 3 i 1 - m)) 4 t 1 (sm_v (sm_set Y 3 i 1 (sm_v Y 3 i 1 - m)) 4 t 1 + m)
theorem fills_step {t k i : Nat} {w : Int32} : l_Sim_fills_29 A Y t w (k + 1) i = if sm_v Y 3 i 0 = sm_v Y 4 t 2 then (if sm_v Y 3 i 1 = 0 then l_Sim_fills_29 A Y t w k (i + 1) else (gvF Y t i w, gvY Y t i (gvF Y t i w))) else l_Sim_fills_29 A Y t w k (i + 1) := by
  unfold gvF gvA gvY
  rw [l_Sim_fills_29]
  by_cases c0 : sm_v Y 3 i 0 = sm_v Y 4 t 2
  · rw [if_pos c0, if_pos c0]
    by_cases c1 : sm_v Y 3 i 1 = 0
    · rw [if_pos c1, if_pos c1]
    · rw [if_neg c1, if_neg c1]
      by_cases c2 : 0 ≤ w
      · simp only [if_pos c2]
        by_cases c3 : w ≤ 40 - sm_v Y 4 t 1
        · simp only [if_pos c3]
          by_cases c4 : w ≤ sm_v Y 3 i 1
          · simp only [if_pos c4]
          · simp only [if_neg c4]
        · simp only [if_neg c3]
          by_cases c4 : 40 - sm_v Y 4 t 1 ≤ sm_v Y 3 i 1
          · simp only [if_pos c4]
          · simp only [if_neg c4]
      · simp only [if_neg c2]
        by_cases c3 : 0 ≤ 40 - sm_v Y 4 t 1
        · simp only [if_pos c3]
          by_cases c4 : 0 ≤ sm_v Y 3 i 1
          · simp only [if_pos c4]
          · simp only [if_neg c4]
        · simp only [if_neg c3]
          by_cases c4 : 40 - sm_v Y 4 t 1 ≤ sm_v Y 3 i 1
          · simp only [if_pos c4]
          · simp only [if_neg c4]
  · rw [if_neg c0, if_neg c0]
theorem store_loop (hP : PM A σ Y) (hA : AOk A) (hF : ∀ r, r < cn A 3 → ∃ f, sm_v Y 3 r 1 = nI f ∧ f < 1000) {t : Nat} {w : Int32} : ∀ (k i : Nat), i + k ≤ cn A 3 → (l_Glacier_firstStore_2 (sm_v Y 4 t 2) σ k i = -1 ∧ l_Sim_fills_29 A Y t w k i = (0, Y)) ∨ ∃ j, j < cn A 3 ∧ l_Glacier_firstStore_2 (sm_v Y 4 t 2) σ k i = nI j ∧ l_Sim_fills_29 A Y t w k i = (gvF Y t j w, gvY Y t j (gvF Y t j w))
  | 0, _, _ => Or.inl ⟨rfl, rfl⟩
  | k + 1, i, hi => by
    have ih := store_loop hP hA hF (t := t) (w := w) k (i + 1) (by omega)
    obtain ⟨f, ef, hf⟩ := hF i (by omega)
    rw [fills_step]
    unfold l_Glacier_firstStore_2
    rw [hP.get hA (k := 3) (c := 0) (by decide) (by omega) (by decide) (by decide), hP.get hA (k := 3) (c := 1) (by decide) (by omega) (by decide) (by decide)]
    by_cases c0 : sm_v Y 3 i 0 = sm_v Y 4 t 2
    · rw [if_pos c0, if_pos c0]
      by_cases c1 : sm_v Y 3 i 1 = 0
      · rw [if_pos c1, if_pos (by rw [c1]; decide)]
        exact ih
      · rw [if_neg c1, if_neg ?_]
        · exact Or.inr ⟨i, by omega, rfl, rfl⟩
        · rw [ef]
          rw [ef] at c1
          exact (show ¬ nI f ≤ nI 0 from nI_ge (Nat.pos_of_ne_zero (fun e => c1 (by rw [e]; rfl))) (by omega))
    · rw [if_neg c0, if_neg c0]
      exact ih
theorem gv_eq {t i k : Nat} {w : Int32} (hs : sm_v Y 4 t 1 = nI k) (hk : k ≤ 40) : iMin (iMax 0 (iMin w (40 - sm_v Y 4 t 1))) (sm_v Y 3 i 1) = gvF Y t i w := by
  have e40 : (40 : Int32) - nI k = nI (40 - k) := nI_sub (a := 40) hk
  have hn : ¬ nI (40 - k) < 0 := nI_pos (by omega)
  unfold gvF gvA
  rw [hs, e40]
  have hm : iMax 0 (iMin w (nI (40 - k))) = if (if 0 ≤ w then w else 0) ≤ nI (40 - k) then (if 0 ≤ w then w else 0) else nI (40 - k) := by
    unfold iMax iMin
    rw [Int32.lt_iff_toInt_lt] at hn
    by_cases c2 : 0 ≤ w
    · rw [if_pos c2]
      by_cases c3 : w ≤ nI (40 - k)
      · rw [if_pos c3, if_neg (show ¬ nI (40 - k) < w by rw [Int32.lt_iff_toInt_lt]; rw [Int32.le_iff_toInt_le] at c3; omega)]
        by_cases c4 : 0 < w
        · rw [if_pos c4]
        · rw [if_neg c4]
          apply Int32.toInt_inj.mp
          rw [Int32.lt_iff_toInt_lt] at c4
          rw [Int32.le_iff_toInt_le] at c2
          omega
      · rw [if_neg c3, if_pos (show nI (40 - k) < w by rw [Int32.lt_iff_toInt_lt]; rw [Int32.le_iff_toInt_le] at c3; omega)]
        by_cases c4 : 0 < nI (40 - k)
        · rw [if_pos c4]
        · rw [if_neg c4]
          apply Int32.toInt_inj.mp
          rw [Int32.lt_iff_toInt_lt] at c4
          omega
    · rw [if_neg c2, if_pos (show (0 : Int32) ≤ nI (40 - k) by rw [Int32.le_iff_toInt_le]; omega), if_neg (show ¬ nI (40 - k) < w by rw [Int32.lt_iff_toInt_lt]; rw [Int32.le_iff_toInt_le] at c2; omega), if_neg (show ¬ 0 < w by rw [Int32.lt_iff_toInt_lt]; rw [Int32.le_iff_toInt_le] at c2; omega)]
  rw [hm]
  generalize (if (if 0 ≤ w then w else 0) ≤ nI (40 - k) then (if 0 ≤ w then w else 0) else nI (40 - k)) = m
  unfold iMin
  by_cases c : m ≤ sm_v Y 3 i 1
  · rw [if_pos c, if_neg (show ¬ sm_v Y 3 i 1 < m by rw [Int32.lt_iff_toInt_lt]; rw [Int32.le_iff_toInt_le] at c; omega)]
  · rw [if_neg c, if_pos (show sm_v Y 3 i 1 < m by rw [Int32.lt_iff_toInt_lt]; rw [Int32.le_iff_toInt_le] at c; omega)]
theorem fill_eq (hP : PM A σ Y) (hA : AOk A) (hF : ∀ r, r < cn A 3 → ∃ f, sm_v Y 3 r 1 = nI f ∧ f < 1000) {t : Nat} (ht : t < cn A 4) {w : Int32} (h4 : sm_v Y 4 t 4 = 0 ∨ sm_v Y 4 t 4 = 1) {k : Nat} (hs : sm_v Y 4 t 1 = nI k) (hk : k ≤ 40) : (s_Glacier_takeFood σ (nI t) w).1 = (s_Sim_fills A Y t w).1 ∧ PM A (s_Glacier_takeFood σ (nI t) w).2 (s_Sim_fills A Y t w).2 := by
  unfold s_Glacier_takeFood s_Sim_fills s_Glacier_isHere s_Glacier_firstStore
  rw [hP.get hA (k := 4) (c := 4) (by decide) ht (by decide) (by decide), hP.get hA (k := 4) (c := 2) (by decide) ht (by decide) (by decide), hP.get hA (k := 4) (c := 1) (by decide) ht (by decide) (by decide), hP.1 3 (by decide)]
  rcases h4 with e4 | e4 <;> rw [e4]
  · exact ⟨rfl, hP⟩
  rw [if_pos (show (1 : Int32) = 1 from rfl), if_neg (show ¬ (1 : Int32) = 0 by decide), if_neg (show ¬ (1 : Int32) = 0 by decide)]
  rcases store_loop hP hA hF (t := t) (w := w) (cn A 3) 0 (by omega) with ⟨e1, e2⟩ | ⟨j, hj, e1, e2⟩
  · rw [e1, e2, if_neg (show ¬ (0 : Int32) ≤ -1 by decide)]
    exact ⟨rfl, hP⟩
  · have h8 := hA.2.2 3 (by decide)
    rw [e1, e2, if_pos (show (0 : Int32) ≤ nI j from nI_le (a := 0) (by omega) (by omega)), hP.get hA (k := 3) (c := 1) (by decide) hj (by decide) (by decide), gv_eq hs hk]
    refine ⟨rfl, ?_⟩
    unfold gvY
    rw [Int32.sub_eq_add_neg]
    exact (hP.add hA (by decide) hj (by decide) (by decide)).add hA (by decide) ht (by decide) (by decide)
theorem tmat_cnt {T : TM} {c1 c2 : Nat} {v1 v2 : Int32} : ∀ (k i : Nat) (acc : Int32), ∃ n, n ≤ k ∧ tmatF T c1 v1 c2 v2 k i acc = acc + nI n ∧ (n = 0 ↔ ∀ j, i ≤ j → j < i + k → ¬ (T.1 (8 * j + c1) = v1 ∧ T.1 (8 * j + c2) = v2))
  | 0, i, acc => ⟨0, Nat.le_refl _, (Int32.add_zero acc).symm, fun _ j h1 h2 => by omega, fun _ => rfl⟩
  | k + 1, i, acc => by
    unfold tmatF
    by_cases h : T.1 (8 * i + c1) = v1 ∧ T.1 (8 * i + c2) = v2
    · rw [if_pos h]
      obtain ⟨n, h1, h2, h3⟩ := tmat_cnt (T := T) (c1 := c1) (c2 := c2) (v1 := v1) (v2 := v2) k (i + 1) (acc + 1)
      refine ⟨n + 1, by omega, ?_, fun w => by omega, fun w => absurd h (w i (Nat.le_refl _) (by omega))⟩
      rw [h2, Int32.add_assoc, show (1 : Int32) + nI n = nI (1 + n) from nI_ad 1 n, Nat.add_comm]
    · rw [if_neg h]
      obtain ⟨n, h1, h2, h3⟩ := tmat_cnt (T := T) (c1 := c1) (c2 := c2) (v1 := v1) (v2 := v2) k (i + 1) acc
      refine ⟨n, by omega, h2, h3.trans ⟨fun w j q1 q2 => ?_, fun w j q1 q2 => w j (by omega) (by omega)⟩⟩
      by_cases e : j = i
      · rw [e]
        exact h
      · exact w j (by omega) (by omega)
theorem drill_loop {k0 : Nat} : ∀ (k i : Nat), ((∀ j, i ≤ j → j < i + k → ¬ (sm_v Y 4 j 2 = sm_v Y 1 k0 0 ∧ ¬ sm_v Y 4 j 4 = 0)) ∧ l_Sim_drills_25 A Y k0 k i = (0, Y)) ∨ (¬ (∀ j, i ≤ j → j < i + k → ¬ (sm_v Y 4 j 2 = sm_v Y 1 k0 0 ∧ ¬ sm_v Y 4 j 4 = 0)) ∧ l_Sim_drills_25 A Y k0 k i = (1, sm_set (sm_set Y 1 k0 2 0) 1 k0 3 1))
  | 0, i => Or.inl ⟨fun j h1 h2 => by omega, rfl⟩
  | k + 1, i => by
    have ih := drill_loop (k0 := k0) k (i + 1)
    have hrec : ¬ (sm_v Y 4 i 2 = sm_v Y 1 k0 0 ∧ ¬ sm_v Y 4 i 4 = 0) → ((∀ j, i + 1 ≤ j → j < i + 1 + k → ¬ (sm_v Y 4 j 2 = sm_v Y 1 k0 0 ∧ ¬ sm_v Y 4 j 4 = 0)) ↔ ∀ j, i ≤ j → j < i + (k + 1) → ¬ (sm_v Y 4 j 2 = sm_v Y 1 k0 0 ∧ ¬ sm_v Y 4 j 4 = 0)) := fun hn => ⟨fun w j q1 q2 => by
      by_cases e : j = i
      · rw [e]
        exact hn
      · exact w j (by omega) (by omega), fun w j q1 q2 => w j (by omega) (by omega)⟩
    unfold l_Sim_drills_25
    by_cases c1 : sm_v Y 4 i 4 = 0
    · rw [if_pos c1]
      have hr := hrec (fun w => w.2 c1)
      exact ih.imp (fun w => ⟨hr.mp w.1, w.2⟩) (fun w => ⟨fun q => w.1 (hr.mpr q), w.2⟩)
    · rw [if_neg c1]
      by_cases c2 : sm_v Y 4 i 2 = sm_v Y 1 k0 0
      · rw [if_pos c2]
        exact Or.inr ⟨fun w => w i (Nat.le_refl _) (by omega) ⟨c2, c1⟩, rfl⟩
      · rw [if_neg c2]
        have hr := hrec (fun w => c2 w.1)
        exact ih.imp (fun w => ⟨hr.mp w.1, w.2⟩) (fun w => ⟨fun q => w.1 (hr.mpr q), w.2⟩)
theorem drill_eq (hP : PM A σ Y) (hA : AOk A) {s : Nat} (hs : s < cn A 1) (h3 : sm_v Y 1 s 3 = 0 ∨ sm_v Y 1 s 3 = 1) (h4 : ∀ t, t < cn A 4 → sm_v Y 4 t 4 = 0 ∨ sm_v Y 4 t 4 = 1) : (s_Glacier_tryDrill σ (nI s)).1 = (s_Sim_drills A Y s).1 ∧ PM A (s_Glacier_tryDrill σ (nI s)).2 (s_Sim_drills A Y s).2 := by
  have h81 := hA.2.2 1 (by decide)
  have h84 := hA.2.2 4 (by decide)
  unfold s_Glacier_tryDrill s_Sim_drills
  rw [gH_at (hP.1 1 (by decide)) (by omega) (by omega), if_pos hs, if_neg (show ¬ (1 : Int32) = 0 by decide), hP.get hA (k := 1) (c := 3) (by decide) hs (by decide) (by decide), hP.get hA (k := 1) (c := 0) (by decide) hs (by decide) (by decide)]
  rcases h3 with e3 | e3 <;> rw [e3]
  · rw [if_pos (show (0 : Int32) = 0 from rfl), if_neg (show ¬ (0 : Int32) = 1 by decide)]
    unfold gMat
    have hn4 := hP.1 4 (by decide)
    obtain ⟨n, q1, q2, q3⟩ := tmat_cnt (T := σ.1 4) (c1 := 2) (v1 := sm_v Y 1 s 0) (c2 := 4) (v2 := 1) (gN σ 4) 0 0
    rw [q2, Int32.zero_add]
    have hq : (n = 0 ↔ ∀ j, 0 ≤ j → j < 0 + cn A 4 → ¬ (sm_v Y 4 j 2 = sm_v Y 1 s 0 ∧ ¬ sm_v Y 4 j 4 = 0)) := by
      rw [q3, hn4]
      refine forall_congr' (fun j => forall_congr' (fun _ => forall_congr' (fun hj => ?_)))
      rw [hP.2.1 4 j 2 (by decide) (by omega) (by decide) (by decide), hP.2.1 4 j 4 (by decide) (by omega) (by decide) (by decide)]
      rcases h4 j (by omega) with e | e <;> rw [e]
      · exact ⟨fun _ w => w.2 rfl, fun _ w => absurd w.2 (by decide)⟩
      · exact ⟨fun w w2 => w ⟨w2.1, rfl⟩, fun w w2 => w ⟨w2.1, by decide⟩⟩
    rcases drill_loop (A := A) (Y := Y) (k0 := s) (cn A 4) 0 with ⟨d1, d2⟩ | ⟨d1, d2⟩
    · rw [d2, hq.mpr d1, if_pos (show nI 0 = 0 from rfl)]
      exact ⟨rfl, hP⟩
    · have hn0 : ¬ n = 0 := fun w => d1 (hq.mp w)
      rw [d2, if_neg (show ¬ nI n = 0 from fun w => hn0 (nI_eqn (a := n) (c := 0) (by omega) (by decide) w))]
      refine ⟨rfl, ?_⟩
      dsimp only
      rw [sm_set_comm (fun w => absurd w.2.2 (by decide))]
      exact (hP.set hA (by decide) hs (by decide) (by decide)).set hA (by decide) hs (by decide) (by decide)
  · rw [if_neg (show ¬ (1 : Int32) = 0 by decide), if_pos (show (1 : Int32) = 1 from rfl)]
    exact ⟨rfl, hP⟩
theorem warm_eq (hP : PM A σ Y) {j : Nat} {v : Int32} (hj : j < 8) : s_Glacier_warmthOf σ (nI j) = sm_wa Y j ∧ PM A (s_Glacier_changeWarmth σ (nI j) v) (sm_wa' Y (upd (sm_wa Y) j v)) := by
  have h1 : ¬ nI j < 0 := nI_pos (by omega)
  have h2 : ¬ nI 8 ≤ nI j := nI_ge (by omega) (by omega)
  unfold s_Glacier_warmthOf s_Glacier_changeWarmth
  rw [if_neg h1, if_neg h2, if_neg h1, if_neg h2, nI_clamp (by omega)]
  refine ⟨hP.2.2.2.2.2.1 j hj, hP.1, hP.2.1, hP.2.2.1, hP.2.2.2.1, hP.2.2.2.2.1, fun i hi => ?_, hP.2.2.2.2.2.2⟩
  show upd (gW σ) j v i = upd (sm_wa Y) j v i
  unfold upd
  by_cases e : i = j
  · rw [if_pos e, if_pos e]
  · rw [if_neg e, if_neg e]
    exact hP.2.2.2.2.2.1 i hi
theorem today_eq (hP : PM A σ Y) : s_Glacier_warmthToday σ = sm_wa Y (sm_dy Y % 8) := by
  have hd := hP.2.2.2.2.1
  unfold s_Glacier_warmthToday
  rw [hP.2.2.2.1, show nI (sm_dy Y) - nI (sm_dy Y) / 8 * 8 = nI (sm_dy Y % 8) from nI_remm (d := sm_dy Y) (m := 8) (by omega) (by decide) (by decide) rfl]
  exact (warm_eq (v := 0) hP (Nat.mod_lt _ (by decide))).1
end Pf
