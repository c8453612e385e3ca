/-! the law: the safe way gone -/
section Lw
variable {Γ : G9} {A : AD} {c z0 z sa it : Nat} {Y : SM} {N : Nat} {dg : Int64} {h h' : AH} {ms : Nat → Nat} {Q : QT} {X : XT} {w8 : Int32}
theorem d_law_766 : decode M_law.2.1 766 = .ok (.iload 23, 2) := by decide +kernel
theorem d_law_768 : decode M_law.2.1 768 = .ok (.ifCond .eq 124, 3) := by decide +kernel
theorem d_law_771 : decode M_law.2.1 771 = .ok (.iload 8, 2) := by decide +kernel
theorem d_law_773 : decode M_law.2.1 773 = .ok (.bipush 7, 2) := by decide +kernel
theorem d_law_775 : decode M_law.2.1 775 = .ok (.ishr, 1) := by decide +kernel
theorem d_law_776 : decode M_law.2.1 776 = .ok (.iconst 2, 1) := by decide +kernel
theorem d_law_777 : decode M_law.2.1 777 = .ok (.invokestatic 125, 3) := by decide +kernel
theorem d_law_780 : decode M_law.2.1 780 = .ok (.ifCond .ne 112, 3) := by decide +kernel
theorem d_law_783 : decode M_law.2.1 783 = .ok (.aload_n 1, 1) := by decide +kernel
theorem d_law_784 : decode M_law.2.1 784 = .ok (.iload 21, 2) := by decide +kernel
theorem d_law_786 : decode M_law.2.1 786 = .ok (.iload 22, 2) := by decide +kernel
theorem d_law_788 : decode M_law.2.1 788 = .ok (.invokevirtual 214, 3) := by decide +kernel
theorem d_law_791 : decode M_law.2.1 791 = .ok (.aload 20, 2) := by decide +kernel
theorem d_law_793 : decode M_law.2.1 793 = .ok (.iload 21, 2) := by decide +kernel
theorem d_law_795 : decode M_law.2.1 795 = .ok (.aaload, 1) := by decide +kernel
theorem d_law_796 : decode M_law.2.1 796 = .ok (.iconst 2, 1) := by decide +kernel
theorem d_law_797 : decode M_law.2.1 797 = .ok (.iaload, 1) := by decide +kernel
theorem d_law_798 : decode M_law.2.1 798 = .ok (.iload 22, 2) := by decide +kernel
theorem d_law_800 : decode M_law.2.1 800 = .ok (.ifCond .eq 7, 3) := by decide +kernel
theorem d_law_803 : decode M_law.2.1 803 = .ok (.iconst 1, 1) := by decide +kernel
theorem d_law_804 : decode M_law.2.1 804 = .ok (.goto 4, 3) := by decide +kernel
theorem d_law_807 : decode M_law.2.1 807 = .ok (.iconst (-1), 1) := by decide +kernel
theorem d_law_808 : decode M_law.2.1 808 = .ok (.iadd, 1) := by decide +kernel
theorem d_law_809 : decode M_law.2.1 809 = .ok (.if_icmp .ne 81, 3) := by decide +kernel
theorem d_law_812 : decode M_law.2.1 812 = .ok (.aload_n 3, 1) := by decide +kernel
theorem d_law_813 : decode M_law.2.1 813 = .ok (.iload 21, 2) := by decide +kernel
theorem d_law_815 : decode M_law.2.1 815 = .ok (.iload 22, 2) := by decide +kernel
theorem d_law_817 : decode M_law.2.1 817 = .ok (.invokevirtual 210, 3) := by decide +kernel
theorem d_law_820 : decode M_law.2.1 820 = .ok (.ifCond .eq 70, 3) := by decide +kernel
theorem d_law_823 : decode M_law.2.1 823 = .ok (.aload_n 1, 1) := by decide +kernel
theorem d_law_824 : decode M_law.2.1 824 = .ok (.iload 21, 2) := by decide +kernel
theorem d_law_826 : decode M_law.2.1 826 = .ok (.bipush 6, 2) := by decide +kernel
theorem d_law_828 : decode M_law.2.1 828 = .ok (.invokevirtual 284, 3) := by decide +kernel
theorem d_law_831 : decode M_law.2.1 831 = .ok (.aload 20, 2) := by decide +kernel
theorem d_law_833 : decode M_law.2.1 833 = .ok (.iload 21, 2) := by decide +kernel
theorem d_law_835 : decode M_law.2.1 835 = .ok (.aaload, 1) := by decide +kernel
theorem d_law_836 : decode M_law.2.1 836 = .ok (.bipush 6, 2) := by decide +kernel
theorem d_law_838 : decode M_law.2.1 838 = .ok (.iaload, 1) := by decide +kernel
theorem d_law_839 : decode M_law.2.1 839 = .ok (.if_icmp .ne 51, 3) := by decide +kernel
theorem d_law_842 : decode M_law.2.1 842 = .ok (.aload_n 1, 1) := by decide +kernel
theorem d_law_843 : decode M_law.2.1 843 = .ok (.iload 21, 2) := by decide +kernel
theorem d_law_845 : decode M_law.2.1 845 = .ok (.iconst 1, 1) := by decide +kernel
theorem d_law_846 : decode M_law.2.1 846 = .ok (.invokevirtual 284, 3) := by decide +kernel
theorem d_law_849 : decode M_law.2.1 849 = .ok (.aload 20, 2) := by decide +kernel
theorem d_law_851 : decode M_law.2.1 851 = .ok (.iload 21, 2) := by decide +kernel
theorem d_law_853 : decode M_law.2.1 853 = .ok (.aaload, 1) := by decide +kernel
theorem d_law_854 : decode M_law.2.1 854 = .ok (.iconst 1, 1) := by decide +kernel
theorem d_law_855 : decode M_law.2.1 855 = .ok (.iaload, 1) := by decide +kernel
theorem d_law_856 : decode M_law.2.1 856 = .ok (.if_icmp .ne 34, 3) := by decide +kernel
theorem d_law_859 : decode M_law.2.1 859 = .ok (.aload_n 1, 1) := by decide +kernel
theorem d_law_860 : decode M_law.2.1 860 = .ok (.iload 21, 2) := by decide +kernel
theorem d_law_862 : decode M_law.2.1 862 = .ok (.bipush 7, 2) := by decide +kernel
theorem d_law_864 : decode M_law.2.1 864 = .ok (.invokevirtual 284, 3) := by decide +kernel
theorem d_law_867 : decode M_law.2.1 867 = .ok (.iconst 1, 1) := by decide +kernel
theorem d_law_868 : decode M_law.2.1 868 = .ok (.if_icmp .ne 22, 3) := by decide +kernel
theorem d_law_871 : decode M_law.2.1 871 = .ok (.aload_n 1, 1) := by decide +kernel
theorem d_law_872 : decode M_law.2.1 872 = .ok (.iload 21, 2) := by decide +kernel
theorem d_law_874 : decode M_law.2.1 874 = .ok (.iload 22, 2) := by decide +kernel
theorem d_law_876 : decode M_law.2.1 876 = .ok (.ifCond .ne 7, 3) := by decide +kernel
theorem d_law_879 : decode M_law.2.1 879 = .ok (.iconst 1, 1) := by decide +kernel
theorem d_law_880 : decode M_law.2.1 880 = .ok (.goto 4, 3) := by decide +kernel
theorem d_law_883 : decode M_law.2.1 883 = .ok (.iconst 0, 1) := by decide +kernel
theorem d_law_884 : decode M_law.2.1 884 = .ok (.invokevirtual 293, 3) := by decide +kernel
theorem d_law_887 : decode M_law.2.1 887 = .ok (.ifCond .eq 5, 3) := by decide +kernel
set_option maxRecDepth 100000 in
set_option maxHeartbeats 4000000 in
theorem law_766 (hj : AJ A c z0) (hms : MsOk Γ ms) (hth : ThOk Γ) (J : JW Γ A c Y Y N dg h h') {am as ai aw aH C S : Nat} {t : Nat} {x : Int32} (ht : t < cn A 4) (hx : x = 0 ∨ x = 1) (hd : HD Γ A Y z0 h aH) (hz : z0 ≤ z) (hC : 60 ≤ C) (hS : 400 ≤ S) (kx : ∀ (Y2 : SM) (dg2 : Int64) (h3 : AH) (z C2 S2 : Nat), JW Γ A c Y2 Y2 (N + 1) dg2 h h3 → GR A Y2 Y → z0 ≤ z → C ≤ C2 + 60 → S ≤ S2 + 400 → Go Γ M_law 80 C2 S2 892 [some (.ref sa), some (.ref c), none, some (.ref ((ad A 6 0))), some (.int ((nI (cn A 0)))), some (.int ((nI (cn A 1)))), some (.int ((nI (cn A 4)))), some (.int ((nI it))), some (.int w8), none, none, some (.ref am), some (.ref as), some (.ref ai), none, some (.ref aw), some (.int ((sumN (fun s => sm_v Y 1 s 5) (cn A 1)))), none, some (.int ((sumN (fun t => sm_v Y 4 t 1) (cn A 4)))), none, some (.ref aH), none, none, none, none, none, none, none, none, none, none] [] h3 z Q X) : Go Γ M_law 80 C S 766 [some (.ref sa), some (.ref c), none, some (.ref ((ad A 6 0))), some (.int ((nI (cn A 0)))), some (.int ((nI (cn A 1)))), some (.int ((nI (cn A 4)))), some (.int ((nI it))), some (.int w8), some (.long dg), none, some (.ref am), some (.ref as), some (.ref ai), none, some (.ref aw), some (.int ((sumN (fun s => sm_v Y 1 s 5) (cn A 1)))), some (.int ((sumN (fun t => sm_v Y 4 t 5) (cn A 4)))), some (.int ((sumN (fun t => sm_v Y 4 t 1) (cn A 4)))), some (.int ((sumN (fun t => sm_v Y 4 t 6) (cn A 4)))), some (.ref aH), some (.int ((nI t))), some (.int x), some (.int ((safeV A Y t x))), none, none, none, none, none, none, none] [] h' z Q X := by
  obtain ⟨p0, p1, p2, p3, p4⟩ := aj_p hj
  obtain ⟨b, f, ⟨gH, gB, -, hH, hR⟩, hf⟩ := hd
  rcases hx with rfl | rfl
  · by_cases hs : safeV A Y t 0 = 0
    · refine Go.iload_23 d_law_766 rfl ?_
      refine Go.if_eq (t := 892) d_law_768 (by decide) rfl (fun _ => ?_) (fun w => absurd (hs) w)
      refine Go.fgt [some (.ref sa), some (.ref c), none, some (.ref ((ad A 6 0))), some (.int ((nI (cn A 0)))), some (.int ((nI (cn A 1)))), some (.int ((nI (cn A 4)))), some (.int ((nI it))), some (.int w8), none, none, some (.ref am), some (.ref as), some (.ref ai), none, some (.ref aw), some (.int ((sumN (fun s => sm_v Y 1 s 5) (cn A 1)))), none, some (.int ((sumN (fun t => sm_v Y 4 t 1) (cn A 4)))), none, some (.ref aH), none, none, none, none, none, none, none, none, none, none] (by repeat' (first | exact trivial | refine ⟨rfl, ?_⟩)) ?_
      exact kx Y dg _ z _ _ (J.upN (by omega)) ⟨Or.inl rfl, fun _ => rfl⟩ hz (by omega) (by omega)
    · refine Go.iload_23 d_law_766 rfl ?_
      refine Go.if_eq (t := 892) d_law_768 (by decide) rfl (fun w => absurd w (hs)) (fun _ => ?_)
      refine Go.iload_8 d_law_771 rfl ?_
      refine Go.bipush (v := 7) d_law_773 rfl (by decide) ?_
      refine Go.ishr d_law_775 rfl ?_
      refine Go.iconst (v := 2) d_law_776 rfl (by decide) ?_
      refine Go.jbel d_law_777 rfl l_Law_125 (n := 2) rfl (by first | decide | omega) (by first | decide | omega) rfl (fun y1 hy1 => ?_)
      by_cases e0 : nI y1 = 0
      · refine Go.if_ne (t := 892) d_law_780 (by decide) rfl (fun w => absurd (e0) w) (fun _ => ?_)
        obtain ⟨o1, o2, o3, o4, o5⟩ := safe_go (A := A) (Y := Y) (t := t) (x := 0) (by omega) hs
        obtain ⟨k1, dg2, J1, w, hw, c1⟩ := j_cgo (z := z) hj J hms hth (t := t) (x := 0) rfl ht
        rw [if_neg (fun w => absurd (o1.symm.trans w) (by decide))] at c1
        replace hw := hw (fun w => absurd (o1.symm.trans w) (by decide))
        refine Go.aload_1 d_law_783 rfl ?_
        refine Go.iload_21 d_law_784 rfl ?_
        refine Go.iload_22 d_law_786 rfl ?_
        refine Go.cvT (C1 := C - 4) (S1 := S - 24) (as := [.int (nI t), .int 0]) (rest := []) d_law_788 rfl l_Law_214 k_Camp_go_v rfl (J.cam hj) rfl rfl c1 rfl rfl (by omega) (by omega) rfl ?_
        obtain ⟨k2, J2, c2⟩ := j_sgoes (z := z) hj J1 (t := t) (x := 0) rfl ht
        obtain ⟨Y2, eY⟩ : ∃ Y2, Y2 = (s_Sim_goes A Y t 0).2 := ⟨_, rfl⟩
        rw [← eY] at o2 o3 o4 o5 hw J1 J2
        refine Go.aload_20 d_law_791 rfl ?_
        refine Go.iload_21 d_law_793 rfl ?_
        refine Go.oaal d_law_795 rfl hj J1 gH hH (j := t) rfl (by first | assumption | omega) (by omega) rfl ?_
        refine Go.iconst (v := 2) d_law_796 rfl (by decide) ?_
        refine Go.oial d_law_797 rfl hj J1 (gB t ht).1 (hR t ht) (j := 2) rfl (by decide) (by decide) ?_
        rw [hf t ht 2 (by decide)]
        refine Go.iload_22 d_law_798 rfl ?_
        refine Go.if_eq (t := 807) d_law_800 (by decide) rfl (fun _ => ?_) (fun w => absurd (rfl) w)
        refine Go.iconst (v := (-1)) d_law_807 rfl (by decide) ?_
        refine Go.iadd d_law_808 rfl ?_
        refine Go.icmp_ne (t := 890) d_law_809 (by decide) rfl (fun w => absurd (hw.trans (o2.trans (by rw [if_pos rfl]))) w) (fun _ => ?_)
        refine Go.aload_3 d_law_812 rfl ?_
        refine Go.iload_21 d_law_813 rfl ?_
        refine Go.iload_22 d_law_815 rfl ?_
        refine Go.cvH (C1 := C - 22) (S1 := S - 152) (as := [.int (nI t), .int 0]) (rest := []) d_law_817 rfl l_Law_210 k_Sim_goes_v rfl (J1.ob hj) rfl rfl c2 rfl rfl (by omega) (by omega) rfl (fun z2 hz2 => ?_)
        refine Go.if_eq (t := 890) d_law_820 (by decide) rfl (fun w => absurd w (fun w => absurd (o1.symm.trans w) (by decide))) (fun _ => ?_)
        refine Go.aload_1 d_law_823 rfl ?_
        refine Go.iload_21 d_law_824 rfl ?_
        refine Go.bipush (v := 6) d_law_826 rfl (by decide) ?_
        refine Go.cvT (C1 := C - 26) (S1 := S - 176) (as := [.int ((nI t)), .int 6]) (rest := []) d_law_828 rfl l_Law_284 k_Camp_team_v rfl (J2.cam hj) rfl rfl (j_team hj J2 hms hth (r := t) (k := 6) rfl rfl (by first | decide | assumption | omega) (by first | decide | assumption | omega)) rfl rfl (by omega) (by omega) rfl ?_
        refine Go.aload_20 d_law_831 rfl ?_
        refine Go.iload_21 d_law_833 rfl ?_
        refine Go.oaal d_law_835 rfl hj J2 gH hH (j := t) rfl (by first | assumption | omega) (by omega) rfl ?_
        refine Go.bipush (v := 6) d_law_836 rfl (by decide) ?_
        refine Go.oial d_law_838 rfl hj J2 (gB t ht).1 (hR t ht) (j := 6) rfl (by decide) (by decide) ?_
        rw [hf t ht 6 (by decide)]
        refine Go.icmp_ne (t := 890) d_law_839 (by decide) rfl (fun w => absurd (o4) w) (fun _ => ?_)
        refine Go.aload_1 d_law_842 rfl ?_
        refine Go.iload_21 d_law_843 rfl ?_
        refine Go.iconst (v := 1) d_law_845 rfl (by decide) ?_
        refine Go.cvT (C1 := C - 30) (S1 := S - 200) (as := [.int ((nI t)), .int 1]) (rest := []) d_law_846 rfl l_Law_284 k_Camp_team_v rfl (J2.cam hj) rfl rfl (j_team hj J2 hms hth (r := t) (k := 1) rfl rfl (by first | decide | assumption | omega) (by first | decide | assumption | omega)) rfl rfl (by omega) (by omega) rfl ?_
        refine Go.aload_20 d_law_849 rfl ?_
        refine Go.iload_21 d_law_851 rfl ?_
        refine Go.oaal d_law_853 rfl hj J2 gH hH (j := t) rfl (by first | assumption | omega) (by omega) rfl ?_
        refine Go.iconst (v := 1) d_law_854 rfl (by decide) ?_
        refine Go.oial d_law_855 rfl hj J2 (gB t ht).1 (hR t ht) (j := 1) rfl (by decide) (by decide) ?_
        rw [hf t ht 1 (by decide)]
        refine Go.icmp_ne (t := 890) d_law_856 (by decide) rfl (fun w => absurd (o3 t) w) (fun _ => ?_)
        refine Go.aload_1 d_law_859 rfl ?_
        refine Go.iload_21 d_law_860 rfl ?_
        refine Go.bipush (v := 7) d_law_862 rfl (by decide) ?_
        refine Go.cvT (C1 := C - 34) (S1 := S - 224) (as := [.int ((nI t)), .int 7]) (rest := []) d_law_864 rfl l_Law_284 k_Camp_team_v rfl (J2.cam hj) rfl rfl (j_team hj J2 hms hth (r := t) (k := 7) rfl rfl (by first | decide | assumption | omega) (by first | decide | assumption | omega)) rfl rfl (by omega) (by omega) rfl ?_
        refine Go.iconst (v := 1) d_law_867 rfl (by decide) ?_
        refine Go.icmp_ne (t := 890) d_law_868 (by decide) rfl (fun w => absurd (o5) w) (fun _ => ?_)
        refine Go.aload_1 d_law_871 rfl ?_
        refine Go.iload_21 d_law_872 rfl ?_
        refine Go.iload_22 d_law_874 rfl ?_
        refine Go.if_ne (t := 883) d_law_876 (by decide) rfl (fun w => absurd (rfl) w) (fun _ => ?_)
        refine Go.iconst (v := 1) d_law_879 rfl (by decide) ?_
        refine Go.goto (t := 884) d_law_880 (by decide) ?_
        refine Go.cvT (C1 := C - 38) (S1 := S - 248) (as := [.int ((nI t)), .int 1]) (rest := []) d_law_884 rfl l_Law_293 k_Camp_safe_v rfl (J2.cam hj) rfl rfl (j_safe hj J2 hms hth (r := t) (x := 1) rfl (by first | decide | assumption | omega)) rfl rfl (by omega) (by omega) rfl ?_
        refine Go.if_eq (t := 892) d_law_887 (by decide) rfl (fun _ => ?_) (fun w => absurd (if_pos (can_done o5)) w)
        refine Go.fgt [some (.ref sa), some (.ref c), none, some (.ref ((ad A 6 0))), some (.int ((nI (cn A 0)))), some (.int ((nI (cn A 1)))), some (.int ((nI (cn A 4)))), some (.int ((nI it))), some (.int w8), none, none, some (.ref am), some (.ref as), some (.ref ai), none, some (.ref aw), some (.int ((sumN (fun s => sm_v Y 1 s 5) (cn A 1)))), none, some (.int ((sumN (fun t => sm_v Y 4 t 1) (cn A 4)))), none, some (.ref aH), none, none, none, none, none, none, none, none, none, none] (by repeat' (first | exact trivial | refine ⟨rfl, ?_⟩)) ?_
        exact kx Y2 _ _ z2 _ _ J2 ⟨Or.inr ⟨t, 0, ht, eY⟩, o3⟩ (by omega) (by omega) (by omega)
      · refine Go.if_ne (t := 892) d_law_780 (by decide) rfl (fun _ => ?_) (fun w => absurd w (e0))
        refine Go.fgt [some (.ref sa), some (.ref c), none, some (.ref ((ad A 6 0))), some (.int ((nI (cn A 0)))), some (.int ((nI (cn A 1)))), some (.int ((nI (cn A 4)))), some (.int ((nI it))), some (.int w8), none, none, some (.ref am), some (.ref as), some (.ref ai), none, some (.ref aw), some (.int ((sumN (fun s => sm_v Y 1 s 5) (cn A 1)))), none, some (.int ((sumN (fun t => sm_v Y 4 t 1) (cn A 4)))), none, some (.ref aH), none, none, none, none, none, none, none, none, none, none] (by repeat' (first | exact trivial | refine ⟨rfl, ?_⟩)) ?_
        exact kx Y dg _ z _ _ (J.upN (by omega)) ⟨Or.inl rfl, fun _ => rfl⟩ hz (by omega) (by omega)
  · by_cases hs : safeV A Y t 1 = 0
    · refine Go.iload_23 d_law_766 rfl ?_
      refine Go.if_eq (t := 892) d_law_768 (by decide) rfl (fun _ => ?_) (fun w => absurd (hs) w)
      refine Go.fgt [some (.ref sa), some (.ref c), none, some (.ref ((ad A 6 0))), some (.int ((nI (cn A 0)))), some (.int ((nI (cn A 1)))), some (.int ((nI (cn A 4)))), some (.int ((nI it))), some (.int w8), none, none, some (.ref am), some (.ref as), some (.ref ai), none, some (.ref aw), some (.int ((sumN (fun s => sm_v Y 1 s 5) (cn A 1)))), none, some (.int ((sumN (fun t => sm_v Y 4 t 1) (cn A 4)))), none, some (.ref aH), none, none, none, none, none, none, none, none, none, none] (by repeat' (first | exact trivial | refine ⟨rfl, ?_⟩)) ?_
      exact kx Y dg _ z _ _ (J.upN (by omega)) ⟨Or.inl rfl, fun _ => rfl⟩ hz (by omega) (by omega)
    · refine Go.iload_23 d_law_766 rfl ?_
      refine Go.if_eq (t := 892) d_law_768 (by decide) rfl (fun w => absurd w (hs)) (fun _ => ?_)
      refine Go.iload_8 d_law_771 rfl ?_
      refine Go.bipush (v := 7) d_law_773 rfl (by decide) ?_
      refine Go.ishr d_law_775 rfl ?_
      refine Go.iconst (v := 2) d_law_776 rfl (by decide) ?_
      refine Go.jbel d_law_777 rfl l_Law_125 (n := 2) rfl (by first | decide | omega) (by first | decide | omega) rfl (fun y1 hy1 => ?_)
      by_cases e0 : nI y1 = 0
      · refine Go.if_ne (t := 892) d_law_780 (by decide) rfl (fun w => absurd (e0) w) (fun _ => ?_)
        obtain ⟨o1, o2, o3, o4, o5⟩ := safe_go (A := A) (Y := Y) (t := t) (x := 1) (by omega) hs
        obtain ⟨k1, dg2, J1, w, hw, c1⟩ := j_cgo (z := z) hj J hms hth (t := t) (x := 1) rfl ht
        rw [if_neg (fun w => absurd (o1.symm.trans w) (by decide))] at c1
        replace hw := hw (fun w => absurd (o1.symm.trans w) (by decide))
        refine Go.aload_1 d_law_783 rfl ?_
        refine Go.iload_21 d_law_784 rfl ?_
        refine Go.iload_22 d_law_786 rfl ?_
        refine Go.cvT (C1 := C - 4) (S1 := S - 24) (as := [.int (nI t), .int 1]) (rest := []) d_law_788 rfl l_Law_214 k_Camp_go_v rfl (J.cam hj) rfl rfl c1 rfl rfl (by omega) (by omega) rfl ?_
        obtain ⟨k2, J2, c2⟩ := j_sgoes (z := z) hj J1 (t := t) (x := 1) rfl ht
        obtain ⟨Y2, eY⟩ : ∃ Y2, Y2 = (s_Sim_goes A Y t 1).2 := ⟨_, rfl⟩
        rw [← eY] at o2 o3 o4 o5 hw J1 J2
        refine Go.aload_20 d_law_791 rfl ?_
        refine Go.iload_21 d_law_793 rfl ?_
        refine Go.oaal d_law_795 rfl hj J1 gH hH (j := t) rfl (by first | assumption | omega) (by omega) rfl ?_
        refine Go.iconst (v := 2) d_law_796 rfl (by decide) ?_
        refine Go.oial d_law_797 rfl hj J1 (gB t ht).1 (hR t ht) (j := 2) rfl (by decide) (by decide) ?_
        rw [hf t ht 2 (by decide)]
        refine Go.iload_22 d_law_798 rfl ?_
        refine Go.if_eq (t := 807) d_law_800 (by decide) rfl (fun w => absurd w (by decide)) (fun _ => ?_)
        refine Go.iconst (v := 1) d_law_803 rfl (by decide) ?_
        refine Go.goto (t := 808) d_law_804 (by decide) ?_
        refine Go.iadd d_law_808 rfl ?_
        refine Go.icmp_ne (t := 890) d_law_809 (by decide) rfl (fun w => absurd (hw.trans (o2.trans (by rw [if_neg (by decide)]))) w) (fun _ => ?_)
        refine Go.aload_3 d_law_812 rfl ?_
        refine Go.iload_21 d_law_813 rfl ?_
        refine Go.iload_22 d_law_815 rfl ?_
        refine Go.cvH (C1 := C - 22) (S1 := S - 152) (as := [.int (nI t), .int 1]) (rest := []) d_law_817 rfl l_Law_210 k_Sim_goes_v rfl (J1.ob hj) rfl rfl c2 rfl rfl (by omega) (by omega) rfl (fun z2 hz2 => ?_)
        refine Go.if_eq (t := 890) d_law_820 (by decide) rfl (fun w => absurd w (fun w => absurd (o1.symm.trans w) (by decide))) (fun _ => ?_)
        refine Go.aload_1 d_law_823 rfl ?_
        refine Go.iload_21 d_law_824 rfl ?_
        refine Go.bipush (v := 6) d_law_826 rfl (by decide) ?_
        refine Go.cvT (C1 := C - 26) (S1 := S - 176) (as := [.int ((nI t)), .int 6]) (rest := []) d_law_828 rfl l_Law_284 k_Camp_team_v rfl (J2.cam hj) rfl rfl (j_team hj J2 hms hth (r := t) (k := 6) rfl rfl (by first | decide | assumption | omega) (by first | decide | assumption | omega)) rfl rfl (by omega) (by omega) rfl ?_
        refine Go.aload_20 d_law_831 rfl ?_
        refine Go.iload_21 d_law_833 rfl ?_
        refine Go.oaal d_law_835 rfl hj J2 gH hH (j := t) rfl (by first | assumption | omega) (by omega) rfl ?_
        refine Go.bipush (v := 6) d_law_836 rfl (by decide) ?_
        refine Go.oial d_law_838 rfl hj J2 (gB t ht).1 (hR t ht) (j := 6) rfl (by decide) (by decide) ?_
        rw [hf t ht 6 (by decide)]
        refine Go.icmp_ne (t := 890) d_law_839 (by decide) rfl (fun w => absurd (o4) w) (fun _ => ?_)
        refine Go.aload_1 d_law_842 rfl ?_
        refine Go.iload_21 d_law_843 rfl ?_
        refine Go.iconst (v := 1) d_law_845 rfl (by decide) ?_
        refine Go.cvT (C1 := C - 30) (S1 := S - 200) (as := [.int ((nI t)), .int 1]) (rest := []) d_law_846 rfl l_Law_284 k_Camp_team_v rfl (J2.cam hj) rfl rfl (j_team hj J2 hms hth (r := t) (k := 1) rfl rfl (by first | decide | assumption | omega) (by first | decide | assumption | omega)) rfl rfl (by omega) (by omega) rfl ?_
        refine Go.aload_20 d_law_849 rfl ?_
        refine Go.iload_21 d_law_851 rfl ?_
        refine Go.oaal d_law_853 rfl hj J2 gH hH (j := t) rfl (by first | assumption | omega) (by omega) rfl ?_
        refine Go.iconst (v := 1) d_law_854 rfl (by decide) ?_
        refine Go.oial d_law_855 rfl hj J2 (gB t ht).1 (hR t ht) (j := 1) rfl (by decide) (by decide) ?_
        rw [hf t ht 1 (by decide)]
        refine Go.icmp_ne (t := 890) d_law_856 (by decide) rfl (fun w => absurd (o3 t) w) (fun _ => ?_)
        refine Go.aload_1 d_law_859 rfl ?_
        refine Go.iload_21 d_law_860 rfl ?_
        refine Go.bipush (v := 7) d_law_862 rfl (by decide) ?_
        refine Go.cvT (C1 := C - 34) (S1 := S - 224) (as := [.int ((nI t)), .int 7]) (rest := []) d_law_864 rfl l_Law_284 k_Camp_team_v rfl (J2.cam hj) rfl rfl (j_team hj J2 hms hth (r := t) (k := 7) rfl rfl (by first | decide | assumption | omega) (by first | decide | assumption | omega)) rfl rfl (by omega) (by omega) rfl ?_
        refine Go.iconst (v := 1) d_law_867 rfl (by decide) ?_
        refine Go.icmp_ne (t := 890) d_law_868 (by decide) rfl (fun w => absurd (o5) w) (fun _ => ?_)
        refine Go.aload_1 d_law_871 rfl ?_
        refine Go.iload_21 d_law_872 rfl ?_
        refine Go.iload_22 d_law_874 rfl ?_
        refine Go.if_ne (t := 883) d_law_876 (by decide) rfl (fun _ => ?_) (fun w => absurd w (by decide))
        refine Go.iconst (v := 0) d_law_883 rfl (by decide) ?_
        refine Go.cvT (C1 := C - 38) (S1 := S - 248) (as := [.int ((nI t)), .int 0]) (rest := []) d_law_884 rfl l_Law_293 k_Camp_safe_v rfl (J2.cam hj) rfl rfl (j_safe hj J2 hms hth (r := t) (x := 0) rfl (by first | decide | assumption | omega)) rfl rfl (by omega) (by omega) rfl ?_
        refine Go.if_eq (t := 892) d_law_887 (by decide) rfl (fun _ => ?_) (fun w => absurd (if_pos (can_done o5)) w)
        refine Go.fgt [some (.ref sa), some (.ref c), none, some (.ref ((ad A 6 0))), some (.int ((nI (cn A 0)))), some (.int ((nI (cn A 1)))), some (.int ((nI (cn A 4)))), some (.int ((nI it))), some (.int w8), none, none, some (.ref am), some (.ref as), some (.ref ai), none, some (.ref aw), some (.int ((sumN (fun s => sm_v Y 1 s 5) (cn A 1)))), none, some (.int ((sumN (fun t => sm_v Y 4 t 1) (cn A 4)))), none, some (.ref aH), none, none, none, none, none, none, none, none, none, none] (by repeat' (first | exact trivial | refine ⟨rfl, ?_⟩)) ?_
        exact kx Y2 _ _ z2 _ _ J2 ⟨Or.inr ⟨t, 1, ht, eY⟩, o3⟩ (by omega) (by omega) (by omega)
      · refine Go.if_ne (t := 892) d_law_780 (by decide) rfl (fun _ => ?_) (fun w => absurd w (e0))
        refine Go.fgt [some (.ref sa), some (.ref c), none, some (.ref ((ad A 6 0))), some (.int ((nI (cn A 0)))), some (.int ((nI (cn A 1)))), some (.int ((nI (cn A 4)))), some (.int ((nI it))), some (.int w8), none, none, some (.ref am), some (.ref as), some (.ref ai), none, some (.ref aw), some (.int ((sumN (fun s => sm_v Y 1 s 5) (cn A 1)))), none, some (.int ((sumN (fun t => sm_v Y 4 t 1) (cn A 4)))), none, some (.ref aH), none, none, none, none, none, none, none, none, none, none] (by repeat' (first | exact trivial | refine ⟨rfl, ?_⟩)) ?_
        exact kx Y dg _ z _ _ (J.upN (by omega)) ⟨Or.inl rfl, fun _ => rfl⟩ hz (by omega) (by omega)
end Lw
