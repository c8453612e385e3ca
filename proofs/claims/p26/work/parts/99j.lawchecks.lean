/-! the law: sums, the morrow, crevasses, a safe way -/
section Lw
variable {Γ : G9} {A : AD} {c z0 z sa it : Nat} {Y : SM} {N : Nat} {dg : Int64} {h h' : AH} {ms : Nat → Nat} {Q : QT} {X : XT} {w8 : Int32}
theorem sum_B {f : Nat → Int32} {B : Nat} : ∀ n, (∀ r, r < n → ∃ s, f r = nI s ∧ s ≤ B) → ∃ s, sumN f n = nI s ∧ s ≤ B * n
  | 0, _ => ⟨0, rfl, Nat.zero_le _⟩
  | n + 1, h => by
    obtain ⟨s, s1, s2⟩ := sum_B n (fun r hr => h r (by omega))
    obtain ⟨k, k1, k2⟩ := h n (by omega)
    exact ⟨s + k, by rw [show sumN f (n + 1) = sumN f n + f n from rfl, s1, k1, nI_ad], by rw [Nat.mul_succ]; omega⟩
theorem IV.rd (h : IV A Y N) (h4 : cn A 1 ≤ 4) : ∃ n, sm_rd Y = nI n ∧ n ≤ 40 * N := by
  obtain ⟨s, s1, s2⟩ := sum_B (f := fun r => sm_v Y 1 r 5) (B := 10 * N) (cn A 1) (fun r hr => by
    obtain ⟨-, -, n, e5, x5, -⟩ := h.1.2 1 r (by decide) hr
    exact ⟨n, e5, x5⟩)
  refine ⟨s, h.2.1.2.1.trans s1, Nat.le_trans s2 (Nat.le_trans (Nat.mul_le_mul_left _ h4) (by omega))⟩
abbrev safeV (A : AD) (Y : SM) (t : Nat) (x : Int32) : Int32 := if s_Sim_can A Y t x = 0 then 0 else if 0 ≤ fallN (fallF Y t (wayF Y (lowF Y t x) x (cn A 2) 0 [])) then 0 else 1
theorem can_done {t : Nat} {x : Int32} (h : sm_v Y 4 t 7 = 1) : s_Sim_can A Y t x = 0 := by
  unfold s_Sim_can
  cases wayO A Y t x with
  | none => rfl
  | some l =>
    show (if sm_v Y 4 t 4 = 0 then (0 : Int32) else if sm_v Y 4 t 7 = 1 then 0 else canF Y t l) = 0
    rw [if_pos h]
    exact ite_self _
/-- a safe team comes over: nothing else changes -/
theorem safe_go (h5 : cn A 2 ≤ 8) {t : Nat} {x : Int32} (hs : ¬ safeV A Y t x = 0) : (s_Sim_goes A Y t x).1 = 1 ∧ sm_v (s_Sim_goes A Y t x).2 4 t 2 = sm_v Y 4 t 2 + (if x = 0 then -1 else 1) ∧ (∀ r, sm_v (s_Sim_goes A Y t x).2 4 r 1 = sm_v Y 4 r 1) ∧ sm_v (s_Sim_goes A Y t x).2 4 t 6 = sm_v Y 4 t 6 ∧ sm_v (s_Sim_goes A Y t x).2 4 t 7 = 1 := by
  have hc : ¬ s_Sim_can A Y t x = 0 := fun w => hs (if_pos w)
  have hf : ¬ 0 ≤ fallN (fallF Y t (wayF Y (lowF Y t x) x (cn A 2) 0 [])) := fun w => hs ((if_neg hc).trans (if_pos w))
  have hn : fallF Y t (wayF Y (lowF Y t x) x (cn A 2) 0 []) = none := by
    cases e : fallF Y t (wayF Y (lowF Y t x) x (cn A 2) 0 []) with
    | none => rfl
    | some c =>
      rw [e] at hf
      have hm := wayF_lt (n := cn A 2) (cn A 2) 0 [] (fun c hc => absurd hc List.not_mem_nil) (by omega) c (fallF_mem _ e)
      exact absurd (nI_pos' (n := c) (by omega)) hf
  have hw : wayO A Y t x = some (wayF Y (lowF Y t x) x (cn A 2) 0 []) := by
    have hne : wayO A Y t x ≠ none := fun w => hc (by unfold s_Sim_can; rw [w])
    unfold wayO wayR at hne ⊢
    by_cases c1 : lowF Y t x < 0
    · exact absurd (if_pos c1) hne
    · rw [if_neg c1] at hne ⊢
      by_cases c2 : lowF Y t x ≤ nI (cn A 0) - 2
      · exact if_pos c2
      · exact absurd (if_neg c2) hne
  have e : s_Sim_goes A Y t x = (1, crossY (crossF (sm_set Y 4 t 7 1) (wayF Y (lowF Y t x) x (cn A 2) 0 [])) t x) := by
    unfold s_Sim_goes
    rw [if_neg hc, hw]
    show (1, goesL (sm_set Y 4 t 7 1) t x _) = _
    unfold goesL
    rw [fallF_set, hn]
  rw [e]
  refine ⟨rfl, ?_, fun r => ?_, ?_, ?_⟩
  · show sm_v (crossY _ t x) 4 t 2 = _
    unfold crossY
    rw [sm_v_set, if_pos ⟨rfl, rfl, rfl⟩, crossF_v (by decide), sm_v_set, if_neg (fun w => absurd w.2.2 (by decide))]
  · show sm_v (crossY _ t x) 4 r 1 = _
    unfold crossY
    rw [sm_v_set, if_neg (fun w => absurd w.2.2 (by decide)), crossF_v (by decide), sm_v_set, if_neg (fun w => absurd w.2.2 (by decide))]
  · show sm_v (crossY _ t x) 4 t 6 = _
    unfold crossY
    rw [sm_v_set, if_neg (fun w => absurd w.2.2 (by decide)), crossF_v (by decide), sm_v_set, if_neg (fun w => absurd w.2.2 (by decide))]
  · show sm_v (crossY _ t x) 4 t 7 = _
    unfold crossY
    rw [sm_v_set, if_neg (fun w => absurd w.2.2 (by decide)), crossF_v (by decide), sm_v_set, if_pos ⟨rfl, rfl, rfl⟩]
/-- what the go in the law leaves -/
def GR (A : AD) (Y2 Y : SM) : Prop := (Y2 = Y ∨ ∃ t x, t < cn A 4 ∧ Y2 = (s_Sim_goes A Y t x).2) ∧ ∀ r, sm_v Y2 4 r 1 = sm_v Y 4 r 1
theorem d_law_584 : decode M_law.2.1 584 = .ok (.iload 16, 2) := by decide +kernel
theorem d_law_586 : decode M_law.2.1 586 = .ok (.aload_n 1, 1) := by decide +kernel
theorem d_law_587 : decode M_law.2.1 587 = .ok (.bipush 9, 2) := by decide +kernel
theorem d_law_589 : decode M_law.2.1 589 = .ok (.invokevirtual 257, 3) := by decide +kernel
theorem d_law_592 : decode M_law.2.1 592 = .ok (.if_icmp .ne 56, 3) := by decide +kernel
theorem d_law_595 : decode M_law.2.1 595 = .ok (.iload 17, 2) := by decide +kernel
theorem d_law_597 : decode M_law.2.1 597 = .ok (.iload 16, 2) := by decide +kernel
theorem d_law_599 : decode M_law.2.1 599 = .ok (.if_icmp .ne 49, 3) := by decide +kernel
theorem d_law_602 : decode M_law.2.1 602 = .ok (.iload 19, 2) := by decide +kernel
theorem d_law_604 : decode M_law.2.1 604 = .ok (.aload_n 1, 1) := by decide +kernel
theorem d_law_605 : decode M_law.2.1 605 = .ok (.bipush 10, 2) := by decide +kernel
theorem d_law_607 : decode M_law.2.1 607 = .ok (.invokevirtual 257, 3) := by decide +kernel
theorem d_law_610 : decode M_law.2.1 610 = .ok (.if_icmp .ne 38, 3) := by decide +kernel
theorem d_law_613 : decode M_law.2.1 613 = .ok (.aload_n 1, 1) := by decide +kernel
theorem d_law_614 : decode M_law.2.1 614 = .ok (.iconst 1, 1) := by decide +kernel
theorem d_law_615 : decode M_law.2.1 615 = .ok (.bipush 9, 2) := by decide +kernel
theorem d_law_617 : decode M_law.2.1 617 = .ok (.invokevirtual 287, 3) := by decide +kernel
theorem d_law_620 : decode M_law.2.1 620 = .ok (.iload 16, 2) := by decide +kernel
theorem d_law_622 : decode M_law.2.1 622 = .ok (.if_icmp .lt 26, 3) := by decide +kernel
theorem d_law_625 : decode M_law.2.1 625 = .ok (.aload_n 1, 1) := by decide +kernel
theorem d_law_626 : decode M_law.2.1 626 = .ok (.iconst 1, 1) := by decide +kernel
theorem d_law_627 : decode M_law.2.1 627 = .ok (.bipush 11, 2) := by decide +kernel
theorem d_law_629 : decode M_law.2.1 629 = .ok (.invokevirtual 287, 3) := by decide +kernel
theorem d_law_632 : decode M_law.2.1 632 = .ok (.aload_n 1, 1) := by decide +kernel
theorem d_law_633 : decode M_law.2.1 633 = .ok (.bipush 11, 2) := by decide +kernel
theorem d_law_635 : decode M_law.2.1 635 = .ok (.invokevirtual 257, 3) := by decide +kernel
theorem d_law_638 : decode M_law.2.1 638 = .ok (.aload_n 1, 1) := by decide +kernel
theorem d_law_639 : decode M_law.2.1 639 = .ok (.bipush 6, 2) := by decide +kernel
theorem d_law_641 : decode M_law.2.1 641 = .ok (.invokevirtual 257, 3) := by decide +kernel
theorem d_law_644 : decode M_law.2.1 644 = .ok (.iadd, 1) := by decide +kernel
theorem d_law_645 : decode M_law.2.1 645 = .ok (.if_icmp .le 5, 3) := by decide +kernel
set_option maxRecDepth 100000 in
set_option maxHeartbeats 4000000 in
theorem law_584 (hj : AJ A c z0) (hms : MsOk Γ ms) (hth : ThOk Γ) (J : JW Γ A c Y Y N dg h h') (hN : N ≤ 900000) {am as ai aw aH C S : Nat} (hC : 40 ≤ C) (hS : 240 ≤ S) (kx : ∀ (h3 : AH) (C2 S2 : Nat), JW Γ A c Y Y N dg h h3 → C ≤ C2 + 40 → S ≤ S2 + 240 → Go Γ M_law 80 C2 S2 650 [some (.ref sa), some (.ref c), none, some (.ref ((ad A 6 0))), some (.int ((nI (cn A 0)))), some (.int ((nI (cn A 1)))), some (.int ((nI (cn A 4)))), some (.int ((nI it))), some (.int w8), some (.long dg), none, some (.ref am), some (.ref as), some (.ref ai), none, some (.ref aw), some (.int ((sumN (fun s => sm_v Y 1 s 5) (cn A 1)))), some (.int ((sumN (fun t => sm_v Y 4 t 5) (cn A 4)))), some (.int ((sumN (fun t => sm_v Y 4 t 1) (cn A 4)))), some (.int ((sumN (fun t => sm_v Y 4 t 6) (cn A 4)))), some (.ref aH), none, none, none, none, none, none, none, none, none, none] [] h3 z Q X) : Go Γ M_law 80 C S 584 [some (.ref sa), some (.ref c), none, some (.ref ((ad A 6 0))), some (.int ((nI (cn A 0)))), some (.int ((nI (cn A 1)))), some (.int ((nI (cn A 4)))), some (.int ((nI it))), some (.int w8), some (.long dg), none, some (.ref am), some (.ref as), some (.ref ai), none, some (.ref aw), some (.int ((sumN (fun s => sm_v Y 1 s 5) (cn A 1)))), some (.int ((sumN (fun t => sm_v Y 4 t 5) (cn A 4)))), some (.int ((sumN (fun t => sm_v Y 4 t 1) (cn A 4)))), some (.int ((sumN (fun t => sm_v Y 4 t 6) (cn A 4)))), some (.ref aH), some (.int ((nI (cn A 4)))), none, none, none, none, none, none, none, none, none] [] h' z Q X := by
  obtain ⟨p0, p1, p2, p3, p4⟩ := aj_p hj
  obtain ⟨n1, m1, m2⟩ := J.iv.rd (by omega)
  obtain ⟨d1, m3, m4⟩ := day_rd (Y := Y) hj.1
  obtain ⟨ca, m5, m6⟩ := J.iv.2.2.2.1
  obtain ⟨σ, T, F, hP, hO⟩ := J.po
  obtain ⟨d2, m7, m8⟩ := day_ca hP hj.1 J.iv.1 hO
  have h85 := hj.1.2.2 5 (by decide)
  have hct := J.iv.2.1
  refine Go.iload_16 d_law_584 rfl ?_
  refine Go.aload_1 d_law_586 rfl ?_
  refine Go.bipush (v := 9) d_law_587 rfl (by decide) ?_
  refine Go.cvT (C1 := C - 4) (S1 := S - 24) (as := [.int 9]) (rest := [.int ((sumN (fun s => sm_v Y 1 s 5) (cn A 1)))]) d_law_589 rfl l_Law_257 k_Camp_count_v rfl (J.cam hj) rfl rfl (j_count hj J hms hth (k := 9) rfl (by first | decide | assumption | omega)) rfl rfl (by omega) (by omega) rfl ?_
  refine Go.icmp_ne (t := 648) d_law_592 (by decide) rfl (fun w => absurd (hct.2.1.symm) w) (fun _ => ?_)
  refine Go.iload_17 d_law_595 rfl ?_
  refine Go.iload_16 d_law_597 rfl ?_
  refine Go.icmp_ne (t := 648) d_law_599 (by decide) rfl (fun w => absurd (hct.1.symm.trans hct.2.1) w) (fun _ => ?_)
  refine Go.iload_19 d_law_602 rfl ?_
  refine Go.aload_1 d_law_604 rfl ?_
  refine Go.bipush (v := 10) d_law_605 rfl (by decide) ?_
  refine Go.cvT (C1 := C - 8) (S1 := S - 48) (as := [.int 10]) (rest := [.int ((sumN (fun t => sm_v Y 4 t 6) (cn A 4)))]) d_law_607 rfl l_Law_257 k_Camp_count_v rfl (J.cam hj) rfl rfl (j_count hj J hms hth (k := 10) rfl (by first | decide | assumption | omega)) rfl rfl (by omega) (by omega) rfl ?_
  refine Go.icmp_ne (t := 648) d_law_610 (by decide) rfl (fun w => absurd (hct.2.2.symm) w) (fun _ => ?_)
  refine Go.aload_1 d_law_613 rfl ?_
  refine Go.iconst (v := 1) d_law_614 rfl (by decide) ?_
  refine Go.bipush (v := 9) d_law_615 rfl (by decide) ?_
  obtain ⟨tk1, Jk1, ck1⟩ := j_foresee9 (z := z) hj J hms hth hN (v := 1) (w := 9) rfl rfl
  refine Go.cvT (C1 := C - 12) (S1 := S - 72) (as := [.int 1, .int 9]) (rest := []) d_law_617 rfl l_Law_287 k_Camp_foresee_v rfl (J.cam hj) rfl rfl ck1 rfl rfl (by omega) (by omega) rfl ?_
  refine Go.iload_16 d_law_620 rfl ?_
  refine Go.icmp_lt (t := 648) d_law_622 (by decide) rfl (fun w => absurd w (by rw [m4, ← hct.2.1, m1, nI_ad]; exact fun w => absurd ((nI_ltI (by omega) (by omega)).mp w) (by omega))) (fun _ => ?_)
  refine Go.aload_1 d_law_625 rfl ?_
  refine Go.iconst (v := 1) d_law_626 rfl (by decide) ?_
  refine Go.bipush (v := 11) d_law_627 rfl (by decide) ?_
  obtain ⟨tk2, Jk2, ck2⟩ := j_foresee11 (z := z) hj Jk1 hms hth hN (v := 1) (w := 11) rfl rfl
  refine Go.cvT (C1 := C - 16) (S1 := S - 96) (as := [.int 1, .int 11]) (rest := []) d_law_629 rfl l_Law_287 k_Camp_foresee_v rfl (Jk1.cam hj) rfl rfl ck2 rfl rfl (by omega) (by omega) rfl ?_
  refine Go.aload_1 d_law_632 rfl ?_
  refine Go.bipush (v := 11) d_law_633 rfl (by decide) ?_
  refine Go.cvT (C1 := C - 20) (S1 := S - 120) (as := [.int 11]) (rest := [.int ((sm_ca (dayF A Y)))]) d_law_635 rfl l_Law_257 k_Camp_count_v rfl (Jk2.cam hj) rfl rfl (j_count hj Jk2 hms hth (k := 11) rfl (by first | decide | assumption | omega)) rfl rfl (by omega) (by omega) rfl ?_
  refine Go.aload_1 d_law_638 rfl ?_
  refine Go.bipush (v := 6) d_law_639 rfl (by decide) ?_
  refine Go.cvT (C1 := C - 24) (S1 := S - 144) (as := [.int 6]) (rest := [.int ((tells A Y 0 11)), .int ((sm_ca (dayF A Y)))]) d_law_641 rfl l_Law_257 k_Camp_count_v rfl (Jk2.cam hj) rfl rfl (j_count hj Jk2 hms hth (k := 6) rfl (by first | decide | assumption | omega)) rfl rfl (by omega) (by omega) rfl ?_
  refine Go.iadd d_law_644 rfl ?_
  refine Go.icmp_le (t := 650) d_law_645 (by decide) rfl (fun _ => ?_) (fun w => absurd (by show sm_ca (dayF A Y) ≤ sm_ca Y + nI (cn A 5); rw [m8, m5, nI_ad, nI_ad]; exact nI_le (by omega) (by omega)) w)
  refine Go.fgt [some (.ref sa), some (.ref c), none, some (.ref ((ad A 6 0))), some (.int ((nI (cn A 0)))), some (.int ((nI (cn A 1)))), some (.int ((nI (cn A 4)))), some (.int ((nI it))), some (.int w8), some (.long dg), none, some (.ref am), some (.ref as), some (.ref ai), none, some (.ref aw), some (.int ((sumN (fun s => sm_v Y 1 s 5) (cn A 1)))), some (.int ((sumN (fun t => sm_v Y 4 t 5) (cn A 4)))), some (.int ((sumN (fun t => sm_v Y 4 t 1) (cn A 4)))), some (.int ((sumN (fun t => sm_v Y 4 t 6) (cn A 4)))), some (.ref aH), none, none, none, none, none, none, none, none, none, none] (by repeat' (first | exact trivial | refine ⟨rfl, ?_⟩)) ?_
  exact kx _ _ _ Jk2 (by omega) (by omega)
theorem d_law_653 : decode M_law.2.1 653 = .ok (.iload 21, 2) := by decide +kernel
theorem d_law_655 : decode M_law.2.1 655 = .ok (.aload_n 1, 1) := by decide +kernel
theorem d_law_656 : decode M_law.2.1 656 = .ok (.iconst 3, 1) := by decide +kernel
theorem d_law_657 : decode M_law.2.1 657 = .ok (.invokevirtual 257, 3) := by decide +kernel
theorem d_law_660 : decode M_law.2.1 660 = .ok (.if_icmp .ge 54, 3) := by decide +kernel
theorem d_law_663 : decode M_law.2.1 663 = .ok (.aload_n 1, 1) := by decide +kernel
theorem d_law_664 : decode M_law.2.1 664 = .ok (.iload 21, 2) := by decide +kernel
theorem d_law_666 : decode M_law.2.1 666 = .ok (.iconst 1, 1) := by decide +kernel
theorem d_law_667 : decode M_law.2.1 667 = .ok (.invokevirtual 290, 3) := by decide +kernel
theorem d_law_670 : decode M_law.2.1 670 = .ok (.ifCond .lt 36, 3) := by decide +kernel
theorem d_law_673 : decode M_law.2.1 673 = .ok (.aload_n 1, 1) := by decide +kernel
theorem d_law_674 : decode M_law.2.1 674 = .ok (.iload 21, 2) := by decide +kernel
theorem d_law_676 : decode M_law.2.1 676 = .ok (.iconst 1, 1) := by decide +kernel
theorem d_law_677 : decode M_law.2.1 677 = .ok (.invokevirtual 290, 3) := by decide +kernel
theorem d_law_680 : decode M_law.2.1 680 = .ok (.bipush 99, 2) := by decide +kernel
theorem d_law_682 : decode M_law.2.1 682 = .ok (.if_icmp .gt 24, 3) := by decide +kernel
theorem d_law_685 : decode M_law.2.1 685 = .ok (.aload_n 1, 1) := by decide +kernel
theorem d_law_686 : decode M_law.2.1 686 = .ok (.iload 21, 2) := by decide +kernel
theorem d_law_688 : decode M_law.2.1 688 = .ok (.iconst 2, 1) := by decide +kernel
theorem d_law_689 : decode M_law.2.1 689 = .ok (.invokevirtual 290, 3) := by decide +kernel
theorem d_law_692 : decode M_law.2.1 692 = .ok (.iconst 1, 1) := by decide +kernel
theorem d_law_693 : decode M_law.2.1 693 = .ok (.if_icmp .ne 15, 3) := by decide +kernel
theorem d_law_696 : decode M_law.2.1 696 = .ok (.aload_n 1, 1) := by decide +kernel
theorem d_law_697 : decode M_law.2.1 697 = .ok (.iload 21, 2) := by decide +kernel
theorem d_law_699 : decode M_law.2.1 699 = .ok (.iconst 3, 1) := by decide +kernel
theorem d_law_700 : decode M_law.2.1 700 = .ok (.invokevirtual 290, 3) := by decide +kernel
theorem d_law_703 : decode M_law.2.1 703 = .ok (.ifCond .ge 5, 3) := by decide +kernel
theorem d_law_708 : decode M_law.2.1 708 = .ok (.iinc 21 1, 3) := by decide +kernel
theorem d_law_711 : decode M_law.2.1 711 = .ok (.goto (-58), 3) := by decide +kernel
set_option maxRecDepth 100000 in
set_option maxHeartbeats 4000000 in
theorem law_653 (hj : AJ A c z0) (hms : MsOk Γ ms) (hth : ThOk Γ) {am as ai aw aH : Nat} (J : JW Γ A c Y Y N dg h h') (hN : N ≤ 900000) {C0 S0 : Nat} (kx : ∀ C S, C0 ≤ C → S0 ≤ S → Go Γ M_law 80 C S 714 [some (.ref sa), some (.ref c), none, some (.ref ((ad A 6 0))), some (.int ((nI (cn A 0)))), some (.int ((nI (cn A 1)))), some (.int ((nI (cn A 4)))), some (.int ((nI it))), some (.int w8), some (.long dg), none, some (.ref am), some (.ref as), some (.ref ai), none, some (.ref aw), some (.int ((sumN (fun s => sm_v Y 1 s 5) (cn A 1)))), some (.int ((sumN (fun t => sm_v Y 4 t 5) (cn A 4)))), some (.int ((sumN (fun t => sm_v Y 4 t 1) (cn A 4)))), some (.int ((sumN (fun t => sm_v Y 4 t 6) (cn A 4)))), some (.ref aH), some (.int ((nI (cn A 2)))), none, none, none, none, none, none, none, none, none] [] h' z Q X) : ∀ (k r C S : Nat), r + k = cn A 2 → C0 + 20 * k + 4 ≤ C → S0 + 120 * k + 24 ≤ S → Go Γ M_law 80 C S 653 [some (.ref sa), some (.ref c), none, some (.ref ((ad A 6 0))), some (.int ((nI (cn A 0)))), some (.int ((nI (cn A 1)))), some (.int ((nI (cn A 4)))), some (.int ((nI it))), some (.int w8), some (.long dg), none, some (.ref am), some (.ref as), some (.ref ai), none, some (.ref aw), some (.int ((sumN (fun s => sm_v Y 1 s 5) (cn A 1)))), some (.int ((sumN (fun t => sm_v Y 4 t 5) (cn A 4)))), some (.int ((sumN (fun t => sm_v Y 4 t 1) (cn A 4)))), some (.int ((sumN (fun t => sm_v Y 4 t 6) (cn A 4)))), some (.ref aH), some (.int ((nI r))), none, none, none, none, none, none, none, none, none] [] h' z Q X := by
  intro k
  induction k with
  | zero =>
    intro r C S hi hC hS
    have e : r = cn A 2 := by omega
    subst e
    obtain ⟨p0, p1, p2, p3, p4⟩ := aj_p hj
    refine Go.iload_21 d_law_653 rfl ?_
    refine Go.aload_1 d_law_655 rfl ?_
    refine Go.iconst (v := 3) d_law_656 rfl (by decide) ?_
    refine Go.cvT (C1 := C - 4) (S1 := S - 24) (as := [.int 3]) (rest := [.int ((nI (cn A 2)))]) d_law_657 rfl l_Law_257 k_Camp_count_v rfl (J.cam hj) rfl rfl (j_count hj J hms hth (k := 3) rfl (by first | decide | assumption | omega)) rfl rfl (by omega) (by omega) rfl ?_
    refine Go.icmp_ge (t := 714) d_law_660 (by decide) rfl (fun _ => ?_) (fun w => absurd (nI_le (Nat.le_refl (cn A 2)) (by omega)) w)
    exact kx _ _ (by omega) (by omega)
  | succ k ih =>
    intro r C S hi hC hS
    obtain ⟨p0, p1, p2, p3, p4⟩ := aj_p hj
    have hr : r < cn A 2 := by omega
    obtain ⟨-, ⟨gq, e1, x1⟩, v, e2, hv⟩ := J.iv.1.2 2 r (by decide) hr
    by_cases hkn : s_Sim_isKnown Y r = 1
    · refine Go.iload_21 d_law_653 rfl ?_
      refine Go.aload_1 d_law_655 rfl ?_
      refine Go.iconst (v := 3) d_law_656 rfl (by decide) ?_
      refine Go.cvT (C1 := C - 4) (S1 := S - 24) (as := [.int 3]) (rest := [.int ((nI r))]) d_law_657 rfl l_Law_257 k_Camp_count_v rfl (J.cam hj) rfl rfl (j_count hj J hms hth (k := 3) rfl (by first | decide | assumption | omega)) rfl rfl (by omega) (by omega) rfl ?_
      refine Go.icmp_ge (t := 714) d_law_660 (by decide) rfl (fun w => absurd w (nI_ge (show r < cn A 2 by omega) (by omega))) (fun _ => ?_)
      refine Go.aload_1 d_law_663 rfl ?_
      refine Go.iload_21 d_law_664 rfl ?_
      refine Go.iconst (v := 1) d_law_666 rfl (by decide) ?_
      refine Go.cvT (C1 := C - 8) (S1 := S - 48) (as := [.int ((nI r)), .int 1]) (rest := []) d_law_667 rfl l_Law_290 k_Camp_crevasse_v rfl (J.cam hj) rfl rfl (j_crevasse hj J hms hth (r := r) (k := 1) rfl rfl (by first | decide | assumption | omega) (by first | decide | assumption | omega)) rfl rfl (by omega) (by omega) rfl ?_
      rw [if_neg (show ¬ ((1 : Nat) = 2) by decide)]
      refine Go.if_lt (t := 706) d_law_670 (by decide) rfl (fun w => absurd w (by rw [e1]; exact nI_pos (by omega))) (fun _ => ?_)
      refine Go.aload_1 d_law_673 rfl ?_
      refine Go.iload_21 d_law_674 rfl ?_
      refine Go.iconst (v := 1) d_law_676 rfl (by decide) ?_
      refine Go.cvT (C1 := C - 12) (S1 := S - 72) (as := [.int ((nI r)), .int 1]) (rest := []) d_law_677 rfl l_Law_290 k_Camp_crevasse_v rfl (J.cam hj) rfl rfl (j_crevasse hj J hms hth (r := r) (k := 1) rfl rfl (by first | decide | assumption | omega) (by first | decide | assumption | omega)) rfl rfl (by omega) (by omega) rfl ?_
      rw [if_neg (show ¬ ((1 : Nat) = 2) by decide)]
      refine Go.bipush (v := 99) d_law_680 rfl (by decide) ?_
      refine Go.icmp_gt (t := 706) d_law_682 (by decide) rfl (fun w => absurd w (by rw [e1]; exact fun w => absurd ((nI_ltI (a := 99) (b := gq) (by decide) (by omega)).mp w) (by omega))) (fun _ => ?_)
      refine Go.aload_1 d_law_685 rfl ?_
      refine Go.iload_21 d_law_686 rfl ?_
      refine Go.iconst (v := 2) d_law_688 rfl (by decide) ?_
      refine Go.cvT (C1 := C - 16) (S1 := S - 96) (as := [.int ((nI r)), .int 2]) (rest := []) d_law_689 rfl l_Law_290 k_Camp_crevasse_v rfl (J.cam hj) rfl rfl (j_crevasse hj J hms hth (r := r) (k := 2) rfl rfl (by first | decide | assumption | omega) (by first | decide | assumption | omega)) rfl rfl (by omega) (by omega) rfl ?_
      rw [if_pos (rfl : (2 : Nat) = 2)]
      refine Go.iconst (v := 1) d_law_692 rfl (by decide) ?_
      refine Go.icmp_ne (t := 708) d_law_693 (by decide) rfl (fun w => absurd (hkn) w) (fun _ => ?_)
      refine Go.aload_1 d_law_696 rfl ?_
      refine Go.iload_21 d_law_697 rfl ?_
      refine Go.iconst (v := 3) d_law_699 rfl (by decide) ?_
      refine Go.cvT (C1 := C - 20) (S1 := S - 120) (as := [.int ((nI r)), .int 3]) (rest := []) d_law_700 rfl l_Law_290 k_Camp_crevasse_v rfl (J.cam hj) rfl rfl (j_crevasse hj J hms hth (r := r) (k := 3) rfl rfl (by first | decide | assumption | omega) (by first | decide | assumption | omega)) rfl rfl (by omega) (by omega) rfl ?_
      rw [if_neg (show ¬ ((3 : Nat) = 2) by decide)]
      have e3 : ∃ q, sm_v Y 2 r 3 = nI q ∧ q ≤ 99 := by
        rcases hv with ⟨rfl, -⟩ | hq
        · unfold s_Sim_isKnown at hkn
          rw [e2, if_pos (nI_le (Nat.zero_le _) (by have := J.iv.2.2.2.2; omega))] at hkn
          exact absurd hkn (by decide)
        · exact hq
      obtain ⟨q, e3, x3⟩ := e3
      refine Go.if_ge (t := 708) d_law_703 (by decide) rfl (fun _ => ?_) (fun w => absurd (by rw [e3]; exact nI_pos' (by omega)) w)
      refine Go.iinc_21 d_law_708 rfl (by rfl) (show nI r + Int32.ofInt 1 = nI (r + 1) from nI_ad r 1) ?_
      refine Go.goto (t := 653) d_law_711 (by decide) ?_
      exact ih (r + 1) _ _ (by omega) (by omega) (by omega)
    · refine Go.iload_21 d_law_653 rfl ?_
      refine Go.aload_1 d_law_655 rfl ?_
      refine Go.iconst (v := 3) d_law_656 rfl (by decide) ?_
      refine Go.cvT (C1 := C - 4) (S1 := S - 24) (as := [.int 3]) (rest := [.int ((nI r))]) d_law_657 rfl l_Law_257 k_Camp_count_v rfl (J.cam hj) rfl rfl (j_count hj J hms hth (k := 3) rfl (by first | decide | assumption | omega)) rfl rfl (by omega) (by omega) rfl ?_
      refine Go.icmp_ge (t := 714) d_law_660 (by decide) rfl (fun w => absurd w (nI_ge (show r < cn A 2 by omega) (by omega))) (fun _ => ?_)
      refine Go.aload_1 d_law_663 rfl ?_
      refine Go.iload_21 d_law_664 rfl ?_
      refine Go.iconst (v := 1) d_law_666 rfl (by decide) ?_
      refine Go.cvT (C1 := C - 8) (S1 := S - 48) (as := [.int ((nI r)), .int 1]) (rest := []) d_law_667 rfl l_Law_290 k_Camp_crevasse_v rfl (J.cam hj) rfl rfl (j_crevasse hj J hms hth (r := r) (k := 1) rfl rfl (by first | decide | assumption | omega) (by first | decide | assumption | omega)) rfl rfl (by omega) (by omega) rfl ?_
      rw [if_neg (show ¬ ((1 : Nat) = 2) by decide)]
      refine Go.if_lt (t := 706) d_law_670 (by decide) rfl (fun w => absurd w (by rw [e1]; exact nI_pos (by omega))) (fun _ => ?_)
      refine Go.aload_1 d_law_673 rfl ?_
      refine Go.iload_21 d_law_674 rfl ?_
      refine Go.iconst (v := 1) d_law_676 rfl (by decide) ?_
      refine Go.cvT (C1 := C - 12) (S1 := S - 72) (as := [.int ((nI r)), .int 1]) (rest := []) d_law_677 rfl l_Law_290 k_Camp_crevasse_v rfl (J.cam hj) rfl rfl (j_crevasse hj J hms hth (r := r) (k := 1) rfl rfl (by first | decide | assumption | omega) (by first | decide | assumption | omega)) rfl rfl (by omega) (by omega) rfl ?_
      rw [if_neg (show ¬ ((1 : Nat) = 2) by decide)]
      refine Go.bipush (v := 99) d_law_680 rfl (by decide) ?_
      refine Go.icmp_gt (t := 706) d_law_682 (by decide) rfl (fun w => absurd w (by rw [e1]; exact fun w => absurd ((nI_ltI (a := 99) (b := gq) (by decide) (by omega)).mp w) (by omega))) (fun _ => ?_)
      refine Go.aload_1 d_law_685 rfl ?_
      refine Go.iload_21 d_law_686 rfl ?_
      refine Go.iconst (v := 2) d_law_688 rfl (by decide) ?_
      refine Go.cvT (C1 := C - 16) (S1 := S - 96) (as := [.int ((nI r)), .int 2]) (rest := []) d_law_689 rfl l_Law_290 k_Camp_crevasse_v rfl (J.cam hj) rfl rfl (j_crevasse hj J hms hth (r := r) (k := 2) rfl rfl (by first | decide | assumption | omega) (by first | decide | assumption | omega)) rfl rfl (by omega) (by omega) rfl ?_
      rw [if_pos (rfl : (2 : Nat) = 2)]
      refine Go.iconst (v := 1) d_law_692 rfl (by decide) ?_
      refine Go.icmp_ne (t := 708) d_law_693 (by decide) rfl (fun _ => ?_) (fun w => absurd w (hkn))
      refine Go.iinc_21 d_law_708 rfl (by rfl) (show nI r + Int32.ofInt 1 = nI (r + 1) from nI_ad r 1) ?_
      refine Go.goto (t := 653) d_law_711 (by decide) ?_
      exact ih (r + 1) _ _ (by omega) (by omega) (by omega)
theorem d_law_714 : decode M_law.2.1 714 = .ok (.iload 8, 2) := by decide +kernel
theorem d_law_716 : decode M_law.2.1 716 = .ok (.iconst 4, 1) := by decide +kernel
theorem d_law_717 : decode M_law.2.1 717 = .ok (.ishr, 1) := by decide +kernel
theorem d_law_718 : decode M_law.2.1 718 = .ok (.iload 6, 2) := by decide +kernel
theorem d_law_720 : decode M_law.2.1 720 = .ok (.invokestatic 125, 3) := by decide +kernel
theorem d_law_723 : decode M_law.2.1 723 = .ok (.istore 21, 2) := by decide +kernel
theorem d_law_725 : decode M_law.2.1 725 = .ok (.iload 8, 2) := by decide +kernel
theorem d_law_727 : decode M_law.2.1 727 = .ok (.bipush 6, 2) := by decide +kernel
theorem d_law_729 : decode M_law.2.1 729 = .ok (.ishr, 1) := by decide +kernel
theorem d_law_730 : decode M_law.2.1 730 = .ok (.iconst 2, 1) := by decide +kernel
theorem d_law_731 : decode M_law.2.1 731 = .ok (.invokestatic 125, 3) := by decide +kernel
theorem d_law_734 : decode M_law.2.1 734 = .ok (.ifCond .ne 7, 3) := by decide +kernel
theorem d_law_737 : decode M_law.2.1 737 = .ok (.iconst 1, 1) := by decide +kernel
theorem d_law_738 : decode M_law.2.1 738 = .ok (.goto 4, 3) := by decide +kernel
theorem d_law_741 : decode M_law.2.1 741 = .ok (.iconst 0, 1) := by decide +kernel
theorem d_law_742 : decode M_law.2.1 742 = .ok (.istore 22, 2) := by decide +kernel
theorem d_law_744 : decode M_law.2.1 744 = .ok (.aload_n 1, 1) := by decide +kernel
theorem d_law_745 : decode M_law.2.1 745 = .ok (.iload 21, 2) := by decide +kernel
theorem d_law_747 : decode M_law.2.1 747 = .ok (.iload 22, 2) := by decide +kernel
theorem d_law_749 : decode M_law.2.1 749 = .ok (.invokevirtual 293, 3) := by decide +kernel
theorem d_law_752 : decode M_law.2.1 752 = .ok (.istore 23, 2) := by decide +kernel
theorem d_law_754 : decode M_law.2.1 754 = .ok (.aload_n 1, 1) := by decide +kernel
theorem d_law_755 : decode M_law.2.1 755 = .ok (.invokevirtual 264, 3) := by decide +kernel
theorem d_law_758 : decode M_law.2.1 758 = .ok (.lload 9, 2) := by decide +kernel
theorem d_law_760 : decode M_law.2.1 760 = .ok (.lcmp, 1) := by decide +kernel
theorem d_law_761 : decode M_law.2.1 761 = .ok (.ifCond .eq 5, 3) := by decide +kernel
set_option maxRecDepth 100000 in
set_option maxHeartbeats 4000000 in
theorem law_714 (hj : AJ A c z0) (hms : MsOk Γ ms) (hth : ThOk Γ) (J : JW Γ A c Y Y N dg h h') {am as ai aw aH C S : Nat} (hC : 10 ≤ C) (hS : 60 ≤ S) (kx : ∀ (t : Nat) (x : Int32) (C2 S2 : Nat), t < cn A 4 → x = 0 ∨ x = 1 → C ≤ C2 + 10 → S ≤ S2 + 60 → Go Γ M_law 80 C2 S2 766 [some (.ref sa), some (.ref c), none, some (.ref ((ad A 6 0))), some (.int ((nI (cn A 0)))), some (.int ((nI (cn A 1)))), some (.int ((nI (cn A 4)))), some (.int ((nI it))), some (.int w8), some (.long dg), none, some (.ref am), some (.ref as), some (.ref ai), none, some (.ref aw), some (.int ((sumN (fun s => sm_v Y 1 s 5) (cn A 1)))), some (.int ((sumN (fun t => sm_v Y 4 t 5) (cn A 4)))), some (.int ((sumN (fun t => sm_v Y 4 t 1) (cn A 4)))), some (.int ((sumN (fun t => sm_v Y 4 t 6) (cn A 4)))), some (.ref aH), some (.int ((nI t))), some (.int x), some (.int ((safeV A Y t x))), none, none, none, none, none, none, none] [] h' z Q X) : Go Γ M_law 80 C S 714 [some (.ref sa), some (.ref c), none, some (.ref ((ad A 6 0))), some (.int ((nI (cn A 0)))), some (.int ((nI (cn A 1)))), some (.int ((nI (cn A 4)))), some (.int ((nI it))), some (.int w8), some (.long dg), none, some (.ref am), some (.ref as), some (.ref ai), none, some (.ref aw), some (.int ((sumN (fun s => sm_v Y 1 s 5) (cn A 1)))), some (.int ((sumN (fun t => sm_v Y 4 t 5) (cn A 4)))), some (.int ((sumN (fun t => sm_v Y 4 t 1) (cn A 4)))), some (.int ((sumN (fun t => sm_v Y 4 t 6) (cn A 4)))), some (.ref aH), some (.int ((nI (cn A 2)))), none, none, none, none, none, none, none, none, none] [] h' z Q X := by
  obtain ⟨p0, p1, p2, p3, p4⟩ := aj_p hj
  refine Go.iload_8 d_law_714 rfl ?_
  refine Go.iconst (v := 4) d_law_716 rfl (by decide) ?_
  refine Go.ishr d_law_717 rfl ?_
  refine Go.iload_6 d_law_718 rfl ?_
  refine Go.jbel d_law_720 rfl l_Law_125 (n := (cn A 4)) rfl (by first | decide | omega) (by first | decide | omega) rfl (fun y1 hy1 => ?_)
  refine Go.istore_21 d_law_723 rfl (by rfl) ?_
  refine Go.iload_8 d_law_725 rfl ?_
  refine Go.bipush (v := 6) d_law_727 rfl (by decide) ?_
  refine Go.ishr d_law_729 rfl ?_
  refine Go.iconst (v := 2) d_law_730 rfl (by decide) ?_
  refine Go.jbel d_law_731 rfl l_Law_125 (n := 2) rfl (by first | decide | omega) (by first | decide | omega) rfl (fun y2 hy2 => ?_)
  have main : ∀ x : Int32, x = 0 ∨ x = 1 → Go Γ M_law 80 C S 742 [some (.ref sa), some (.ref c), none, some (.ref ((ad A 6 0))), some (.int ((nI (cn A 0)))), some (.int ((nI (cn A 1)))), some (.int ((nI (cn A 4)))), some (.int ((nI it))), some (.int w8), some (.long dg), none, some (.ref am), some (.ref as), some (.ref ai), none, some (.ref aw), some (.int ((sumN (fun s => sm_v Y 1 s 5) (cn A 1)))), some (.int ((sumN (fun t => sm_v Y 4 t 5) (cn A 4)))), some (.int ((sumN (fun t => sm_v Y 4 t 1) (cn A 4)))), some (.int ((sumN (fun t => sm_v Y 4 t 6) (cn A 4)))), some (.ref aH), some (.int ((nI y1))), none, none, none, none, none, none, none, none, none] [.int x] h' z Q X := by
    intro x hx
    refine Go.istore_22 d_law_742 rfl (by rfl) ?_
    refine Go.aload_1 d_law_744 rfl ?_
    refine Go.iload_21 d_law_745 rfl ?_
    refine Go.iload_22 d_law_747 rfl ?_
    refine Go.cvT (C1 := C - 4) (S1 := S - 24) (as := [.int ((nI y1)), .int x]) (rest := []) d_law_749 rfl l_Law_293 k_Camp_safe_v rfl (J.cam hj) rfl rfl (j_safe hj J hms hth (r := y1) (x := x) rfl (by first | decide | assumption | omega)) rfl rfl (by omega) (by omega) rfl ?_
    refine Go.istore_23 d_law_752 rfl (by rfl) ?_
    refine Go.aload_1 d_law_754 rfl ?_
    refine Go.cvR (as := []) (rest := []) d_law_755 rfl l_Law_264 k_Camp_digest_v rfl (J.cam hj) rfl rfl (j_digest hj J) rfl rfl rfl ?_
    refine Go.lload_9 d_law_758 rfl ?_
    refine Go.lcmp d_law_760 rfl ?_
    rw [lg_self]
    refine Go.if_eq (t := 766) d_law_761 (by decide) rfl (fun _ => ?_) (fun w => absurd (rfl) w)
    exact kx y1 x _ _ hy1 hx (by omega) (by omega)
  by_cases e0 : nI y2 = 0
  · refine Go.if_ne (t := 741) d_law_734 (by decide) rfl (fun w => absurd (e0) w) (fun _ => ?_)
    refine Go.iconst (v := 1) d_law_737 rfl (by decide) ?_
    refine Go.goto (t := 742) d_law_738 (by decide) ?_
    exact main _ (Or.inr rfl)
  · refine Go.if_ne (t := 741) d_law_734 (by decide) rfl (fun _ => ?_) (fun w => absurd w (e0))
    refine Go.iconst (v := 0) d_law_741 rfl (by decide) ?_
    exact main _ (Or.inl rfl)
end Lw
