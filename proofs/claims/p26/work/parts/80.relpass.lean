/-! counts over deeds and days; pass -/
section Cp
variable {A : AD} {σ : GL} {Y : SM} {N : Nat} {T : TM} {F : FM}
theorem scX : ∀ (l : List Nat) (Y : SM), SC (crossF Y l) Y
  | [], _ => SC.rf
  | _ :: l, _ => (scX l _).tr (SC.set (by decide))
theorem CT.fall (h : CT A Y) {t c : Nat} (ht : t < cn A 4) : CT A (fallY Y t c) := by
  obtain ⟨h1, h2, h3⟩ := h
  have v5 : ∀ t', sm_v (fallY Y t c) 4 t' 5 = sm_v Y 4 t' 5 := fun t' => by
    show sm_v (fall2 (fall1 Y c) t) 4 t' 5 = _
    unfold fall2 fall1
    rw [sm_v_ne (fun w => absurd w.2.2 (by decide)), sm_v_ne (fun w => absurd w.2.2 (by decide)), sm_v_ne (fun w => absurd w.1 (by decide)), sm_v_ne (fun w => absurd w.1 (by decide))]
  have v1 : ∀ r, sm_v (fallY Y t c) 1 r 5 = sm_v Y 1 r 5 := fun r => by
    show sm_v (fall2 (fall1 Y c) t) 1 r 5 = _
    unfold fall2 fall1
    rw [sm_v_ne (fun w => absurd w.1 (by decide)), sm_v_ne (fun w => absurd w.1 (by decide)), sm_v_ne (fun w => absurd w.1 (by decide)), sm_v_ne (fun w => absurd w.1 (by decide))]
  have e1 : ∀ t', sm_v (fall1 Y c) 4 t' 6 = sm_v Y 4 t' 6 := fun t' => by
    unfold fall1
    rw [sm_v_ne (fun w => absurd w.1 (by decide)), sm_v_ne (fun w => absurd w.1 (by decide))]
  have v6 : ∀ t', sm_v (fallY Y t c) 4 t' 6 = if t' = t then sm_v Y 4 t' 6 + 1 else sm_v Y 4 t' 6 := fun t' => by
    show sm_v (fall2 (fall1 Y c) t) 4 t' 6 = _
    unfold fall2
    rw [sm_v_set]
    by_cases e : t' = t
    · rw [if_pos ⟨rfl, e, rfl⟩, if_pos e, sm_v_ne (fun w => absurd w.2.2 (by decide)), e1, e]
    · rw [if_neg (fun w => e w.2.1), if_neg e, sm_v_ne (fun w => absurd w.2.2 (by decide)), e1]
  refine ⟨?_, ?_, ?_⟩
  · show sm_rd Y = _
    rw [h1]
    exact sumN_ext _ (fun i _ => (v5 i).symm)
  · show sm_rd Y = _
    rw [h2]
    exact sumN_ext _ (fun i _ => (v1 i).symm)
  · show sm_fl Y + 1 = sumN (fun t' => sm_v (fallY Y t c) 4 t' 6) (cn A 4)
    rw [sumN_inc (f := fun t' => sm_v Y 4 t' 6) (i := t) v6 _ ht, h3]
theorem CT.goes (h : CT A Y) {t : Nat} (ht : t < cn A 4) {x : Int32} : CT A (s_Sim_goes A Y t x).2 := by
  unfold s_Sim_goes
  by_cases h0 : s_Sim_can A Y t x = 0
  · rw [if_pos h0]
    exact h
  rw [if_neg h0]
  have h1 := h.of (SC.set (Y := Y) (k := 4) (r := t) (j := 7) (x := 1) (by decide))
  cases wayO A Y t x with
  | none => exact h
  | some l =>
    show CT A (goesL (sm_set Y 4 t 7 1) t x l)
    unfold goesL
    cases fallF (sm_set Y 4 t 7 1) t l with
    | some f => exact h1.fall ht
    | none => exact h1.of ((SC.set (by decide)).tr (scX l _))
theorem scP {t c : Nat} : SC (s_Sim_probes Y t c).2 Y := by
  unfold s_Sim_probes
  (repeat' split) <;> first | exact SC.rf | exact (SC.set (by decide)).tr ((SC.set (by decide)).tr (SC.set (by decide)))
theorem scF29 {t : Nat} {w : Int32} : ∀ (k i : Nat), SC (l_Sim_fills_29 A Y t w k i).2 Y
  | 0, _ => SC.rf
  | k + 1, i => by
    rw [fills_step]
    (repeat' split) <;> first | exact scF29 _ _ | exact (SC.set (by decide)).tr (SC.set (by decide))
theorem scF {t : Nat} {w : Int32} : SC (s_Sim_fills A Y t w).2 Y := by
  unfold s_Sim_fills
  (repeat' split) <;> first | exact SC.rf | exact scF29 _ _
theorem scD {s : Nat} : SC (s_Sim_drills A Y s).2 Y := by
  unfold s_Sim_drills
  by_cases c : sm_v Y 1 s 3 = 1
  · rw [if_pos c]
    exact SC.rf
  · rw [if_neg c]
    rcases drill_loop (A := A) (Y := Y) (k0 := s) (cn A 4) 0 with ⟨-, q⟩ | ⟨-, q⟩ <;> rw [q]
    · exact SC.rf
    · exact (SC.set (by decide)).tr (SC.set (by decide))
theorem CT.carries (h : CT A Y) {r : Nat} {a : RO} (ho : OAt A Y r a) : CT A (s_Sim_carries A Y r).2 := by
  obtain ⟨hob, q0, q1, q2, q3, q4, q5, -⟩ := ho.2
  unfold s_Sim_carries
  rw [ho.j (j := 0) (by decide), ho.c (j := 1) (by decide), ho.c (j := 2) (by decide)]
  by_cases h0 : s_Sim_holds A Y r = 0
  · rw [if_pos h0]
    exact h
  rw [if_neg h0]
  rcases (show oF a 0 = 0 ∨ oF a 0 = 1 ∨ oF a 0 = 2 ∨ oF a 0 = 3 ∨ oF a 0 = 4 by omega) with e | e | e | e | e <;> rw [e]
  · exact h.goes (x := 1) (q3 (by omega) (by omega))
  · exact h.goes (x := 0) (q3 (by omega) (by omega))
  · exact h.of scP
  · exact h.of scF
  · exact h.of scD
theorem CT.ord : ∀ (k i : Nat) (Y : SM), CT A Y → (∀ r, r < cn A 5 → ∃ a, OAt A Y r a) → i + k ≤ cn A 5 → CT A (ordF A k i Y)
  | 0, _, _, h, _, _ => h
  | k + 1, i, Y, h, ho, hi => by
    obtain ⟨a, h1⟩ := ho i (by omega)
    have hv : sm_v (s_Sim_carries A Y i).2 5 = sm_v Y 5 := v5_carries
    exact CT.ord k (i + 1) _ ((h.carries h1).of ⟨fun _ => ⟨rfl, rfl⟩, fun _ => rfl, rfl, rfl⟩) (fun r hr => by
      obtain ⟨b, b1, b2⟩ := ho r hr
      exact ⟨b, by
        show sm_v (s_Sim_carries A Y i).2 5 r = rOrd b
        rw [hv]
        exact b1, b2⟩) (by omega)
theorem CT.day (h : CT A Y) (ho : ∀ r, r < cn A 5 → ∃ a, OAt A Y r a) : CT A (dayF A Y) := (CT.rest (CT.ord _ _ _ h ho (by omega))).of ⟨fun _ => ⟨rfl, rfl⟩, fun _ => rfl, rfl, rfl⟩
theorem CT.pass : ∀ (n : Nat) (Y : SM), CT A Y → (∀ r, r < cn A 5 → ∃ a, OAt A Y r a) → CT A (passF A n Y)
  | 0, _, h, _ => h
  | n + 1, Y, h, ho => CT.pass n _ (h.day ho) (fun r hr => by
      obtain ⟨b, b1, b2⟩ := ho r hr
      exact ⟨b, by
        rw [show sm_v (dayF A Y) 5 = sm_v Y 5 from v5_day]
        exact b1, b2⟩)
theorem in_range {n a b : Nat} (h1 : a ≤ n) (h2 : n ≤ b) (hb : b < 2 ^ 31) : s_Camp_needRange (nI n) (nI a) (nI b) = 0 := by
  unfold s_Camp_needRange
  (repeat' split) <;> first | rfl | (exfalso; rename_i w; exact absurd w (nI_ge (by omega) (by omega))) | (exfalso; rename_i w; exact w (nI_le (by omega) (by omega))) | (exfalso; rename_i w _; revert w; rw [nI_ltI (by omega) (by omega)]; omega) | (exfalso; rename_i w; revert w; rw [nI_ltI (by omega) (by omega)]; omega) | skip
  all_goals (exfalso; simp only [nI_ltI (show n < 2 ^ 31 by omega) (show a < 2 ^ 31 by omega), nI_ltI (show b < 2 ^ 31 by omega) (show n < 2 ^ 31 by omega), nI_leI (show n < 2 ^ 31 by omega) hb] at *; omega)
theorem pass_eq (hP : PM A σ Y) (hA : AOk A) (h : RI A Y N) (ho : OR A Y T F) (hc : CT A Y) {n : Nat} (hn : 1 ≤ n ∧ n ≤ 60) (hd : sm_dy Y + n < 1000000) {Ta : TA} {K : TK} {τ : GL} {U : TM} {G : FM} {P : CP} : (s_Camp_pass Ta K σ τ T F U G P (nI n)).1 = 0 ∧ (s_Camp_pass Ta K σ τ T F U G P (nI n)).2.1 = (s_Sim_pass A Y n).1 ∧ PM A (s_Camp_pass Ta K σ τ T F U G P (nI n)).2.2.1 (s_Sim_pass A Y n).2 ∧ OR A (s_Sim_pass A Y n).2 T (s_Camp_pass Ta K σ τ T F U G P (nI n)).2.2.2 ∧ RI A (s_Sim_pass A Y n).2 (N + 80 * n) ∧ CT A (s_Sim_pass A Y n).2 := by
  have hr : s_Camp_needRange (nI n) 1 60 = 0 := in_range (a := 1) (b := 60) hn.1 hn.2 (by decide)
  have hcl : (nI n).toNatClampNeg = n := nI_clamp (by omega)
  obtain ⟨d1, d2, d3⟩ := days_eq hA (Ta := Ta) (K := K) (τ := τ) (U := U) (G := G) (P := P) (b := gSum σ 4 5) n 0 σ Y F N hP h ho hd
  have hct := CT.pass n Y hc (fun r hr' => by
    obtain ⟨a, a1, -⟩ := ho.2 r hr'
    exact ⟨a, a1⟩)
  unfold s_Camp_pass s_Sim_pass
  rw [if_pos hr, hcl]
  refine ⟨rfl, ?_, d1, d3, d2, hct⟩
  dsimp only
  rw [d1.sum (k := 4) (c := 5) (by decide) (by decide) (by decide), hP.sum (k := 4) (c := 5) (by decide) (by decide) (by decide), ← hct.1, ← hc.1]
end Cp
