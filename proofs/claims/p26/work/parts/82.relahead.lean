/-! what the camp foresees, by the law's own glacier -/
section Ah
variable {A : AD} {σ τ : GL} {Y : SM} {N : Nat} {T U : TM} {F G : FM} {Ta : TA} {K : TK} {P : CP}
theorem become57 {n : Nat} : ∀ (k i : Nat) (ρ : GL), i + k = 8 → (l_Glacier_become_57 σ k i ρ).1 = ρ.1 ∧ ∀ j, j < 8 → gW (l_Glacier_become_57 σ k i ρ) j = if i ≤ j then gW σ j else gW ρ j
  | 0, i, ρ, hi => ⟨rfl, fun j hj => by rw [if_neg (by omega)]; rfl⟩
  | k + 1, i, ρ, hi => by
    have h1 : ¬ nI i < 0 := nI_pos (by omega)
    have h2 : ¬ nI 8 ≤ nI i := nI_ge (by omega) (by omega)
    unfold l_Glacier_become_57
    obtain ⟨q1, q2⟩ := become57 (n := n) k (i + 1) (gSW ρ (upd (gW ρ) i (gW σ i))) (by omega)
    refine ⟨q1, fun j hj => (q2 j hj).trans ?_⟩
    by_cases c1 : i + 1 ≤ j
    · rw [if_pos c1, if_pos (by omega)]
    · rw [if_neg c1]
      show upd (gW ρ) i (gW σ i) j = _
      unfold upd
      by_cases c2 : j = i
      · rw [if_pos c2, if_pos (by omega), c2]
      · rw [if_neg c2, if_neg (by omega)]
theorem become_ok (hP : PM A σ Y) : PM A (s_Glacier_become σ τ) Y := by
  have hw := fun ρ => (become57 (σ := σ) (n := 0) 8 0 ρ rfl)
  have hc : ∀ k, k < 5 → (s_Glacier_become σ τ).1 k = σ.1 k := fun k hk => by
    unfold s_Glacier_become
    show (l_Glacier_become_57 σ 8 0 _).1 k = _
    rw [(hw _).1]
    match k, hk with
    | 0, _ => rfl
    | 1, _ => rfl
    | 2, _ => rfl
    | 3, _ => rfl
    | 4, _ => rfl
  refine ⟨fun k hk => ?_, fun k r c hk hr hcc hn => ?_, fun r hr => ?_, hP.2.2.2.1, hP.2.2.2.2.1, fun j hj => ?_, hP.2.2.2.2.2.2⟩
  · unfold gN
    rw [hc k hk]
    exact hP.1 k hk
  · rw [hc k hk]
    exact hP.2.1 k r c hk hr hcc hn
  · rw [hc 2 (by decide)]
    exact hP.2.2.1 r hr
  · show gW (l_Glacier_become_57 σ 8 0 _) j = _
    rw [(hw _).2 j hj, if_pos (Nat.zero_le j)]
    exact hP.2.2.2.2.2.1 j hj
/-- a day ahead: readings, and orders carried out -/
theorem foresee_tell (hP : PM A σ Y) (hA : AOk A) (h : RI A Y N) (ho : OR A Y T F) (hc : CT A Y) (hd : sm_dy Y + 1 < 1000000) : (s_Camp_foresee Ta K σ τ T F U G P 1 9).1 = 0 ∧ (s_Camp_foresee Ta K σ τ T F U G P 1 9).2.1 = sm_rd (dayF A Y) ∧ OR A Y T (s_Camp_foresee Ta K σ τ T F U G P 1 9).2.2.2 ∧ (s_Camp_foresee Ta K σ τ T F U G P 1 11).1 = 0 ∧ (s_Camp_foresee Ta K σ τ T F U G P 1 11).2.1 = sm_ca (dayF A Y) ∧ OR A Y T (s_Camp_foresee Ta K σ τ T F U G P 1 11).2.2.2 := by
  have hr : s_Camp_needRange 1 1 60 = 0 := by decide
  obtain ⟨q1, q2, q3, q4⟩ := passDay_eq (become_ok (τ := τ) hP) hA h ho hd
  have hct := hc.day (fun r hr' => by
    obtain ⟨a, a1, -⟩ := ho.2 r hr'
    exact ⟨a, a1⟩)
  have hO : OR A Y T (s_Glacier_passDay T (s_Glacier_become σ τ) F).2 := q3.keep (FK.refl _) (by rw [show sm_v (dayF A Y) 5 = sm_v Y 5 from v5_day])
  have e1 : (1 : Int32).toNatClampNeg = 1 := by decide
  unfold s_Camp_foresee
  rw [if_pos hr, if_pos hr, if_neg (show ¬ (9 : Int32) < 7 by decide), if_pos (show (9 : Int32) ≤ 12 by decide), if_neg (show ¬ (11 : Int32) < 7 by decide), if_pos (show (11 : Int32) ≤ 12 by decide), e1]
  refine ⟨rfl, ?_, hO, rfl, ?_, hO⟩
  · show gSum (s_Glacier_passDay T (s_Glacier_become σ τ) F).1 4 5 = _
    rw [q1.sum (k := 4) (c := 5) (by decide) (by decide) (by decide)]
    exact hct.1.symm
  · show gC (s_Glacier_passDay T (s_Glacier_become σ τ) F).1 = _
    exact q1.2.2.2.2.2.2
/-- what melts in a day -/
theorem melt_tell (hP : PM A σ Y) (hA : AOk A) {r : Nat} (hr : r < cn A 0) : s_Camp_melt Ta K σ τ T F U G P (nI r) 1 = (0, 3 * iMax 0 (sm_wa Y (sm_dy Y % 8) - sm_v Y 0 r 0)) := by
  have h8 := hA.2.2 0 (by decide)
  have hd := hP.2.2.2.2.1
  have e1 : (1 : Int32).toNatClampNeg = 1 := by decide
  have ht := today_eq hP
  unfold s_Glacier_warmthToday at ht
  unfold s_Camp_melt
  rw [if_pos (in_row (hP.1 0 (by decide)) hr (by omega)), if_pos (show s_Camp_needRange 1 1 60 = 0 by decide), e1, hP.get hA (k := 0) (c := 0) (by decide) hr (by decide) (by decide)]
  show (0, 0 + 3 * iMax 0 (s_Glacier_warmthOf σ (s_Glacier_day σ + nI 0 - (s_Glacier_day σ + nI 0) / 8 * 8) - sm_v Y 0 r 0)) = _
  rw [show s_Glacier_day σ + nI 0 = gD σ from Int32.add_zero _, ht, Int32.zero_add]
/-- no days, where the stake doesn't stand -/
theorem until_tell (hP : PM A σ Y) (hA : AOk A) (h : RI A Y N) (ho : OR A Y T F) {s : Nat} (hs : s < cn A 1) (hd : sm_dy Y + 99 < 1000000) : (s_Camp_until Ta K σ τ T F U G P (nI s)).1 = 0 ∧ ((s_Camp_until Ta K σ τ T F U G P (nI s)).2.1 = 0 ↔ sm_v Y 1 s 3 = 0) ∧ OR A Y T (s_Camp_until Ta K σ τ T F U G P (nI s)).2.2.2 := by
  have h8 := hA.2.2 1 (by decide)
  have hloop : ∀ (k i : Nat) (ρ : GL) (Z : SM) (F : FM) (N : Nat), PM A ρ Z → RI A Z N → OR A Z T F → sm_v Z 5 = sm_v Y 5 → sm_dy Z + k < 1000000 → i + k = 99 → (l_Camp_until_24 Ta K σ T U G P (nI s) k i ρ F).1 = 0 ∧ (1 ≤ i → ¬ (l_Camp_until_24 Ta K σ T U G P (nI s) k i ρ F).2.1 = 0) ∧ OR A Y T (l_Camp_until_24 Ta K σ T U G P (nI s) k i ρ F).2.2.2 := by
    intro k
    induction k with
    | zero =>
      intro i ρ Z F N hp hz hor hv hdz hi
      unfold l_Camp_until_24
      by_cases c : gG ρ 1 (nI s) 3 = 0
      · rw [if_pos c]
        exact ⟨rfl, fun _ => (show ¬ (99 : Int32) = 0 by decide), hor.keep (FK.refl _) hv.symm⟩
      · rw [if_neg c]
        exact ⟨rfl, fun _ => (show ¬ (-1 : Int32) = 0 by decide), hor.keep (FK.refl _) hv.symm⟩
    | succ k ih =>
      intro i ρ Z F N hp hz hor hv hdz hi
      unfold l_Camp_until_24
      by_cases c : gG ρ 1 (nI s) 3 = 0
      · rw [if_pos c]
        exact ⟨rfl, fun h1 w => by have := nI_eqn (a := i) (c := 0) (by omega) (by decide) w; omega, hor.keep (FK.refl _) hv.symm⟩
      · rw [if_neg c]
        obtain ⟨q1, q2, q3, q4⟩ := passDay_eq hp hA hz hor (by omega)
        obtain ⟨r1, r2, r3⟩ := ih (i + 1) _ _ _ _ q1 q2 q3 ((show sm_v (dayF A Z) 5 = sm_v Z 5 from v5_day).trans hv) (by rw [q4]; omega) (by omega)
        exact ⟨r1, fun _ => r2 (by omega), r3⟩
  have hB := become_ok (τ := τ) hP
  have hg := hB.get hA (k := 1) (c := 3) (by decide) hs (by decide) (by decide)
  unfold s_Camp_until
  rw [if_pos (in_row (hP.1 1 (by decide)) hs (by omega))]
  rw [show l_Camp_until_24 Ta K σ T U G P (nI s) 99 0 (s_Glacier_become σ τ) F = if gG (s_Glacier_become σ τ) 1 (nI s) 3 = 0 then (0, nI 0, s_Glacier_become σ τ, F) else l_Camp_until_24 Ta K σ T U G P (nI s) 98 1 (s_Glacier_passDay T (s_Glacier_become σ τ) F).1 (s_Glacier_passDay T (s_Glacier_become σ τ) F).2 from rfl, hg]
  by_cases c : sm_v Y 1 s 3 = 0
  · rw [if_pos c]
    exact ⟨rfl, ⟨fun _ => c, fun _ => rfl⟩, ho⟩
  · rw [if_neg c]
    obtain ⟨q1, q2, q3, q4⟩ := passDay_eq hB hA h ho (by omega)
    obtain ⟨r1, r2, r3⟩ := hloop 98 1 _ _ _ _ q1 q2 q3 (show sm_v (dayF A Y) 5 = sm_v Y 5 from v5_day) (by rw [q4]; omega) rfl
    exact ⟨r1, ⟨fun w => absurd w (r2 (Nat.le_refl _)), fun w => absurd w c⟩, r3⟩
end Ah
