/-! the law: a day, and what the teams eat -/
section Lw
variable {Γ : G9} {A : AD} {c z0 z sa it : Nat} {Y : SM} {N : Nat} {dg : Int64} {h h' : AH} {ms : Nat → Nat} {Q : QT} {X : XT} {w8 : Int32}
variable {Y2 Y3 : SM} {N2 : Nat} {dg2 : Int64}
theorem lin4 {a b c d m : Int32} (h : a + d = b + c + m) : a - b + d - c = m := by
  apply Int32.toBitVec_inj.mp
  have h := congrArg Int32.toBitVec h
  simp only [Int32.toBitVec_add, Int32.toBitVec_sub] at h ⊢
  bv_omega
theorem sub2 {a b c : Int32} : a - b - c = a - (b + c) := by
  apply Int32.toBitVec_inj.mp
  simp only [Int32.toBitVec_add, Int32.toBitVec_sub]
  bv_omega
theorem lin2 {a b c : Int32} : a - b + c - c = a - b := by
  apply Int32.toBitVec_inj.mp
  simp only [Int32.toBitVec_add, Int32.toBitVec_sub]
  bv_omega
theorem lin1 {a b : Int32} : a = b + (a - b) := by
  apply Int32.toBitVec_inj.mp
  simp only [Int32.toBitVec_add, Int32.toBitVec_sub]
  bv_omega
theorem GR.all (hg : GR A Y2 Y) : SB0 Y2 Y ∧ HQ Y2 Y ∧ ∀ t, GT t Y2 Y := by
  rcases hg.1 with rfl | ⟨t, x, -, rfl⟩
  · exact ⟨⟨fun _ _ => rfl, rfl, rfl⟩, ⟨fun _ => ⟨rfl, rfl⟩, rfl⟩, fun _ _ _ _ _ _ _ => rfl⟩
  · exact ⟨sbG, hrG, fun _ => gtG⟩
theorem day_done {t : Nat} (ht : t < cn A 4) : sm_v (dayF A Y) 4 t 7 = 0 := (done_day (cn A 4) 0 _).1 ⟨Nat.zero_le _, by omega⟩
theorem sN_M {f : Nat → Int32} : ∀ n, (∀ r, r < n → ∃ s, f r = nI s ∧ s ≤ 1000) → sumN f n = nI (sumM (fun r => (f r).toNatClampNeg) n) ∧ sumM (fun r => (f r).toNatClampNeg) n ≤ 1000 * n
  | 0, _ => ⟨rfl, Nat.zero_le _⟩
  | n + 1, h => by
    obtain ⟨s1, s2⟩ := sN_M n (fun r hr => h r (by omega))
    obtain ⟨k, k1, k2⟩ := h n (by omega)
    have k3 : (f n).toNatClampNeg = k := by rw [k1]; exact nI_clamp (by omega)
    refine ⟨?_, ?_⟩
    · show sumN f n + f n = nI (sumM _ n + (f n).toNatClampNeg)
      rw [s1, k3, k1, nI_ad]
    · show sumM _ n + (f n).toNatClampNeg ≤ _
      rw [k3]
      omega
theorem IV.dep (h : IV A Y N) : sumN (fun r => sm_v Y 3 r 1) (cn A 3) = nI (sumM (fun r => vN Y 3 r 1) (cn A 3)) ∧ sumM (fun r => vN Y 3 r 1) (cn A 3) ≤ 1000 * cn A 3 := sN_M _ (fun r hr => by
  obtain ⟨-, g, g1, g2⟩ := h.1.2 3 r (by decide) hr
  exact ⟨g, g1, by omega⟩)
theorem IV.sac (h : IV A Y N) : sumN (fun r => sm_v Y 4 r 1) (cn A 4) = nI (sumM (fun r => vN Y 4 r 1) (cn A 4)) ∧ sumM (fun r => vN Y 4 r 1) (cn A 4) ≤ 1000 * cn A 4 := sN_M _ (fun r hr => by
  obtain ⟨-, ⟨g, g1, g2⟩, -⟩ := h.1.2 4 r (by decide) hr
  exact ⟨g, g1, by omega⟩)
theorem IV.food (h : IV A Y N) (h4 : cn A 3 ≤ 4 ∧ cn A 4 ≤ 4) : sumN (fun r => sm_v Y 3 r 1) (cn A 3) + sumN (fun r => sm_v Y 4 r 1) (cn A 4) = nI (fdN A Y) ∧ fdN A Y ≤ 8000 := by
  obtain ⟨a1, a2⟩ := h.dep
  obtain ⟨b1, b2⟩ := h.sac
  refine ⟨by rw [a1, b1, nI_ad]; rfl, ?_⟩
  show _ + _ ≤ _
  omega
/-- what the teams need a day, added up from the first on -/
def ndT (Y : SM) (r : Nat) : Nat := if sm_v Y 4 r 4 = 1 then (vN Y 4 r 0 + 1) / 2 else 0
def nds (Y : SM) : Nat → Int32
  | 0 => 0
  | n + 1 => nds Y n + (if sm_v Y 4 n 4 = 1 then nI ((vN Y 4 n 0 + 1) / 2) else 0)
theorem needF_snoc : ∀ (k i : Nat), needF Y (k + 1) i = needF Y k i + ndT Y (i + k)
  | 0, i => by
    show (if sm_v Y 4 i 4 = 1 then (vN Y 4 i 0 + 1) / 2 else 0) + 0 = 0 + ndT Y (i + 0)
    rw [Nat.add_zero, Nat.zero_add]
    rfl
  | k + 1, i => by
    show (if sm_v Y 4 i 4 = 1 then (vN Y 4 i 0 + 1) / 2 else 0) + needF Y (k + 1) (i + 1) = ((if sm_v Y 4 i 4 = 1 then (vN Y 4 i 0 + 1) / 2 else 0) + needF Y k (i + 1)) + ndT Y (i + (k + 1))
    rw [needF_snoc k (i + 1), show i + 1 + k = i + (k + 1) by omega, Nat.add_assoc]
theorem nds_need : ∀ n, nds Y n = nI (needF Y n 0)
  | 0 => rfl
  | n + 1 => by
    rw [needF_snoc, ← nI_ad, ← nds_need n, Nat.zero_add]
    show nds Y n + _ = _
    unfold ndT
    by_cases h : sm_v Y 4 n 4 = 1
    · rw [if_pos h, if_pos h]
    · rw [if_neg h, if_neg h]
      rfl
theorem need_le : ∀ n, (∀ r, r < n → vN Y 4 r 0 ≤ 6) → needF Y n 0 ≤ 4 * n
  | 0, _ => Nat.zero_le _
  | n + 1, h => by
    rw [needF_snoc, Nat.zero_add]
    have h1 := need_le n (fun r hr => h r (by omega))
    have h2 := h n (by omega)
    have h3 : ndT Y n ≤ 4 := by
      unfold ndT
      split <;> omega
    omega
theorem half : ∀ z, z < 7 → (nI z + 1) / 2 = nI ((z + 1) / 2) := by decide +kernel
theorem d_law_892 : decode M_law.2.1 892 = .ok (.aload_n 1, 1) := by decide +kernel
theorem d_law_893 : decode M_law.2.1 893 = .ok (.bipush 7, 2) := by decide +kernel
theorem d_law_895 : decode M_law.2.1 895 = .ok (.invokevirtual 257, 3) := by decide +kernel
theorem d_law_898 : decode M_law.2.1 898 = .ok (.iload 18, 2) := by decide +kernel
theorem d_law_900 : decode M_law.2.1 900 = .ok (.iadd, 1) := by decide +kernel
theorem d_law_901 : decode M_law.2.1 901 = .ok (.istore 24, 2) := by decide +kernel
theorem d_law_903 : decode M_law.2.1 903 = .ok (.iload 24, 2) := by decide +kernel
theorem d_law_905 : decode M_law.2.1 905 = .ok (.istore 25, 2) := by decide +kernel
theorem d_law_907 : decode M_law.2.1 907 = .ok (.aload_n 1, 1) := by decide +kernel
theorem d_law_908 : decode M_law.2.1 908 = .ok (.bipush 10, 2) := by decide +kernel
theorem d_law_910 : decode M_law.2.1 910 = .ok (.invokevirtual 257, 3) := by decide +kernel
theorem d_law_913 : decode M_law.2.1 913 = .ok (.istore 26, 2) := by decide +kernel
theorem d_law_915 : decode M_law.2.1 915 = .ok (.aload_n 1, 1) := by decide +kernel
theorem d_law_916 : decode M_law.2.1 916 = .ok (.iconst 1, 1) := by decide +kernel
theorem d_law_917 : decode M_law.2.1 917 = .ok (.invokevirtual 244, 3) := by decide +kernel
theorem d_law_920 : decode M_law.2.1 920 = .ok (.istore 27, 2) := by decide +kernel
theorem d_law_922 : decode M_law.2.1 922 = .ok (.aload_n 3, 1) := by decide +kernel
theorem d_law_923 : decode M_law.2.1 923 = .ok (.iconst 1, 1) := by decide +kernel
theorem d_law_924 : decode M_law.2.1 924 = .ok (.invokevirtual 247, 3) := by decide +kernel
theorem d_law_927 : decode M_law.2.1 927 = .ok (.iload 27, 2) := by decide +kernel
theorem d_law_929 : decode M_law.2.1 929 = .ok (.if_icmp .ne 17, 3) := by decide +kernel
theorem d_law_932 : decode M_law.2.1 932 = .ok (.aload_n 1, 1) := by decide +kernel
theorem d_law_933 : decode M_law.2.1 933 = .ok (.bipush 9, 2) := by decide +kernel
theorem d_law_935 : decode M_law.2.1 935 = .ok (.invokevirtual 257, 3) := by decide +kernel
theorem d_law_938 : decode M_law.2.1 938 = .ok (.iload 16, 2) := by decide +kernel
theorem d_law_940 : decode M_law.2.1 940 = .ok (.iload 27, 2) := by decide +kernel
theorem d_law_942 : decode M_law.2.1 942 = .ok (.iadd, 1) := by decide +kernel
theorem d_law_943 : decode M_law.2.1 943 = .ok (.if_icmp .eq 5, 3) := by decide +kernel
set_option maxRecDepth 100000 in
set_option maxHeartbeats 4000000 in
theorem law_892 (hj : AJ A c z0) (hms : MsOk Γ ms) (hth : ThOk Γ) (J : JW Γ A c Y2 Y2 N2 dg2 h h') (hg : GR A Y2 Y) (hY : IV A Y N) (hN : N2 ≤ 900000) (hz : z0 ≤ z) {am as ai aw aH C S : Nat} (hC : 180 ≤ C) (hS : 1200 ≤ S) (kx : ∀ (dg3 : Int64) (h3 : AH) (z C2 S2 : Nat), JW Γ A c (dayF A Y2) (dayF A Y2) (N2 + 80) dg3 h h3 → z0 ≤ z → C ≤ C2 + 180 → S ≤ S2 + 1200 → Go Γ M_law 80 C2 S2 948 [some (.ref sa), some (.ref c), none, some (.ref ((ad A 6 0))), some (.int ((nI (cn A 0)))), some (.int ((nI (cn A 1)))), some (.int ((nI (cn A 4)))), some (.int ((nI it))), some (.int w8), none, none, some (.ref am), some (.ref as), some (.ref ai), none, some (.ref aw), none, none, none, none, some (.ref aH), none, none, none, some (.int ((tells A Y2 0 7 + (sumN (fun t => sm_v Y 4 t 1) (cn A 4))))), some (.int ((tells A Y2 0 7 + (sumN (fun t => sm_v Y 4 t 1) (cn A 4))))), some (.int ((sm_fl Y2))), none, none, none, none] [] h3 z Q X) : Go Γ M_law 80 C S 892 [some (.ref sa), some (.ref c), none, some (.ref ((ad A 6 0))), some (.int ((nI (cn A 0)))), some (.int ((nI (cn A 1)))), some (.int ((nI (cn A 4)))), some (.int ((nI it))), some (.int w8), none, none, some (.ref am), some (.ref as), some (.ref ai), none, some (.ref aw), some (.int ((sumN (fun s => sm_v Y 1 s 5) (cn A 1)))), none, some (.int ((sumN (fun t => sm_v Y 4 t 1) (cn A 4)))), none, some (.ref aH), none, none, none, none, none, none, none, none, none, none] [] h' z Q X := by
  obtain ⟨p0, p1, p2, p3, p4⟩ := aj_p hj
  obtain ⟨-, hq, -⟩ := hg.all
  refine Go.aload_1 d_law_892 rfl ?_
  refine Go.bipush (v := 7) d_law_893 rfl (by decide) ?_
  refine Go.cvT (C1 := C - 4) (S1 := S - 24) (as := [.int 7]) (rest := []) d_law_895 rfl l_Law_257 k_Camp_count_v rfl (J.cam hj) rfl rfl (j_count hj J hms hth (k := 7) rfl (by first | decide | assumption | omega)) rfl rfl (by omega) (by omega) rfl ?_
  refine Go.iload_18 d_law_898 rfl ?_
  refine Go.iadd d_law_900 rfl ?_
  refine Go.istore_24 d_law_901 rfl (by rfl) ?_
  refine Go.iload_24 d_law_903 rfl ?_
  refine Go.istore_25 d_law_905 rfl (by rfl) ?_
  refine Go.aload_1 d_law_907 rfl ?_
  refine Go.bipush (v := 10) d_law_908 rfl (by decide) ?_
  refine Go.cvT (C1 := C - 8) (S1 := S - 48) (as := [.int 10]) (rest := []) d_law_910 rfl l_Law_257 k_Camp_count_v rfl (J.cam hj) rfl rfl (j_count hj J hms hth (k := 10) rfl (by first | decide | assumption | omega)) rfl rfl (by omega) (by omega) rfl ?_
  refine Go.istore_26 d_law_913 rfl (by rfl) ?_
  refine Go.aload_1 d_law_915 rfl ?_
  refine Go.iconst (v := 1) d_law_916 rfl (by decide) ?_
  obtain ⟨k1, dg3, J1, c1⟩ : ∃ h2 dg3, JW Γ A c (dayF A Y2) Y2 (N2 + 80) dg3 h h2 ∧ CallT Γ M_Camp_pass 7 4 24 [.ref c, .int 1] h' z 0 (some (.int (sm_rd (dayF A Y2) - sm_rd Y2))) h2 := j_cpass hj J hms hth (by omega) (n := 1) rfl ⟨by decide, by decide⟩
  refine Go.cvT (C1 := C - 12) (S1 := S - 72) (as := [.int 1]) (rest := []) d_law_917 rfl l_Law_244 k_Camp_pass_v rfl (J.cam hj) rfl rfl c1 rfl rfl (by omega) (by omega) rfl ?_
  refine Go.istore_27 d_law_920 rfl (by rfl) ?_
  refine Go.aload_3 d_law_922 rfl ?_
  refine Go.iconst (v := 1) d_law_923 rfl (by decide) ?_
  have hor := J.iv.ords hj.1 (fun k hk => Nat.le_trans (hj.2.2.2.2 k hk).2 (by decide))
  have hdy := J.iv.2.2.2.2
  obtain ⟨k2, J2, c2⟩ : ∃ h2, JW Γ A c (dayF A Y2) (dayF A Y2) (N2 + 80) dg3 h h2 ∧ CallG Γ M_Sim_pass 4 (1 * 144) (1 * 1024) [.ref (ad A 6 0), .int 1] k1 z (some (.int (sm_rd (dayF A Y2) - sm_rd Y2))) h2 := j_spass hj J1 (n := 1) rfl (by decide) hor (by omega)
  refine Go.cvH (C1 := C - 4 * 3 - 144) (S1 := S - 24 * 3 - 1024) (as := [.int 1]) (rest := []) d_law_924 rfl l_Law_247 k_Sim_pass_v rfl (J1.ob hj) rfl rfl c2 rfl rfl (by omega) (by omega) rfl (fun z2 hz2 => ?_)
  refine Go.iload_27 d_law_927 rfl ?_
  refine Go.icmp_ne (t := 946) d_law_929 (by decide) rfl (fun w => absurd (rfl) w) (fun _ => ?_)
  refine Go.aload_1 d_law_932 rfl ?_
  refine Go.bipush (v := 9) d_law_933 rfl (by decide) ?_
  refine Go.cvT (C1 := C - 160) (S1 := S - 1120) (as := [.int 9]) (rest := []) d_law_935 rfl l_Law_257 k_Camp_count_v rfl (J2.cam hj) rfl rfl (j_count hj J2 hms hth (k := 9) rfl (by first | decide | assumption | omega)) rfl rfl (by omega) (by omega) rfl ?_
  refine Go.iload_16 d_law_938 rfl ?_
  refine Go.iload_27 d_law_940 rfl ?_
  refine Go.iadd d_law_942 rfl ?_
  have hr : sumN (fun s => sm_v Y 1 s 5) (cn A 1) = sm_rd Y2 := hY.2.1.2.1.symm.trans hq.2.symm
  refine Go.icmp_eq (t := 948) d_law_943 (by decide) rfl (fun _ => ?_) (fun w => absurd (by rw [hr]; exact lin1) w)
  refine Go.fgt [some (.ref sa), some (.ref c), none, some (.ref ((ad A 6 0))), some (.int ((nI (cn A 0)))), some (.int ((nI (cn A 1)))), some (.int ((nI (cn A 4)))), some (.int ((nI it))), some (.int w8), none, none, some (.ref am), some (.ref as), some (.ref ai), none, some (.ref aw), none, none, none, none, some (.ref aH), none, none, none, some (.int ((tells A Y2 0 7 + (sumN (fun t => sm_v Y 4 t 1) (cn A 4))))), some (.int ((tells A Y2 0 7 + (sumN (fun t => sm_v Y 4 t 1) (cn A 4))))), some (.int ((sm_fl Y2))), none, none, none, none] (by repeat' (first | exact trivial | refine ⟨rfl, ?_⟩)) ?_
  exact kx _ _ z2 _ _ J2 (by omega) (by omega) (by omega)
theorem d_law_959 : decode M_law.2.1 959 = .ok (.iload 29, 2) := by decide +kernel
theorem d_law_961 : decode M_law.2.1 961 = .ok (.iload 6, 2) := by decide +kernel
theorem d_law_963 : decode M_law.2.1 963 = .ok (.if_icmp .ge 136, 3) := by decide +kernel
theorem d_law_966 : decode M_law.2.1 966 = .ok (.iload 28, 2) := by decide +kernel
theorem d_law_968 : decode M_law.2.1 968 = .ok (.aload_n 1, 1) := by decide +kernel
theorem d_law_969 : decode M_law.2.1 969 = .ok (.iload 29, 2) := by decide +kernel
theorem d_law_971 : decode M_law.2.1 971 = .ok (.iconst 1, 1) := by decide +kernel
theorem d_law_972 : decode M_law.2.1 972 = .ok (.invokevirtual 284, 3) := by decide +kernel
theorem d_law_975 : decode M_law.2.1 975 = .ok (.iadd, 1) := by decide +kernel
theorem d_law_976 : decode M_law.2.1 976 = .ok (.istore 28, 2) := by decide +kernel
theorem d_law_978 : decode M_law.2.1 978 = .ok (.aload_n 1, 1) := by decide +kernel
theorem d_law_979 : decode M_law.2.1 979 = .ok (.iload 29, 2) := by decide +kernel
theorem d_law_981 : decode M_law.2.1 981 = .ok (.bipush 7, 2) := by decide +kernel
theorem d_law_983 : decode M_law.2.1 983 = .ok (.invokevirtual 284, 3) := by decide +kernel
theorem d_law_986 : decode M_law.2.1 986 = .ok (.ifCond .ne 74, 3) := by decide +kernel
theorem d_law_989 : decode M_law.2.1 989 = .ok (.aload 20, 2) := by decide +kernel
theorem d_law_991 : decode M_law.2.1 991 = .ok (.iload 29, 2) := by decide +kernel
theorem d_law_993 : decode M_law.2.1 993 = .ok (.aaload, 1) := by decide +kernel
theorem d_law_994 : decode M_law.2.1 994 = .ok (.iconst 4, 1) := by decide +kernel
theorem d_law_995 : decode M_law.2.1 995 = .ok (.iaload, 1) := by decide +kernel
theorem d_law_996 : decode M_law.2.1 996 = .ok (.ifCond .ne 66, 3) := by decide +kernel
theorem d_law_999 : decode M_law.2.1 999 = .ok (.aload_n 1, 1) := by decide +kernel
theorem d_law_1000 : decode M_law.2.1 1000 = .ok (.iload 29, 2) := by decide +kernel
theorem d_law_1002 : decode M_law.2.1 1002 = .ok (.iconst 4, 1) := by decide +kernel
theorem d_law_1003 : decode M_law.2.1 1003 = .ok (.invokevirtual 284, 3) := by decide +kernel
theorem d_law_1006 : decode M_law.2.1 1006 = .ok (.ifCond .ne 54, 3) := by decide +kernel
theorem d_law_1009 : decode M_law.2.1 1009 = .ok (.aload_n 1, 1) := by decide +kernel
theorem d_law_1010 : decode M_law.2.1 1010 = .ok (.iload 29, 2) := by decide +kernel
theorem d_law_1012 : decode M_law.2.1 1012 = .ok (.iconst 1, 1) := by decide +kernel
theorem d_law_1013 : decode M_law.2.1 1013 = .ok (.invokevirtual 284, 3) := by decide +kernel
theorem d_law_1016 : decode M_law.2.1 1016 = .ok (.aload 20, 2) := by decide +kernel
theorem d_law_1018 : decode M_law.2.1 1018 = .ok (.iload 29, 2) := by decide +kernel
theorem d_law_1020 : decode M_law.2.1 1020 = .ok (.aaload, 1) := by decide +kernel
theorem d_law_1021 : decode M_law.2.1 1021 = .ok (.iconst 1, 1) := by decide +kernel
theorem d_law_1022 : decode M_law.2.1 1022 = .ok (.iaload, 1) := by decide +kernel
theorem d_law_1023 : decode M_law.2.1 1023 = .ok (.if_icmp .ne 37, 3) := by decide +kernel
theorem d_law_1026 : decode M_law.2.1 1026 = .ok (.aload_n 1, 1) := by decide +kernel
theorem d_law_1027 : decode M_law.2.1 1027 = .ok (.iload 29, 2) := by decide +kernel
theorem d_law_1029 : decode M_law.2.1 1029 = .ok (.iconst 2, 1) := by decide +kernel
theorem d_law_1030 : decode M_law.2.1 1030 = .ok (.invokevirtual 284, 3) := by decide +kernel
theorem d_law_1033 : decode M_law.2.1 1033 = .ok (.aload 20, 2) := by decide +kernel
theorem d_law_1035 : decode M_law.2.1 1035 = .ok (.iload 29, 2) := by decide +kernel
theorem d_law_1037 : decode M_law.2.1 1037 = .ok (.aaload, 1) := by decide +kernel
theorem d_law_1038 : decode M_law.2.1 1038 = .ok (.iconst 2, 1) := by decide +kernel
theorem d_law_1039 : decode M_law.2.1 1039 = .ok (.iaload, 1) := by decide +kernel
theorem d_law_1040 : decode M_law.2.1 1040 = .ok (.if_icmp .ne 20, 3) := by decide +kernel
theorem d_law_1043 : decode M_law.2.1 1043 = .ok (.aload_n 1, 1) := by decide +kernel
theorem d_law_1044 : decode M_law.2.1 1044 = .ok (.iload 29, 2) := by decide +kernel
theorem d_law_1046 : decode M_law.2.1 1046 = .ok (.iconst 5, 1) := by decide +kernel
theorem d_law_1047 : decode M_law.2.1 1047 = .ok (.invokevirtual 284, 3) := by decide +kernel
theorem d_law_1050 : decode M_law.2.1 1050 = .ok (.aload 20, 2) := by decide +kernel
theorem d_law_1052 : decode M_law.2.1 1052 = .ok (.iload 29, 2) := by decide +kernel
theorem d_law_1054 : decode M_law.2.1 1054 = .ok (.aaload, 1) := by decide +kernel
theorem d_law_1055 : decode M_law.2.1 1055 = .ok (.iconst 5, 1) := by decide +kernel
theorem d_law_1056 : decode M_law.2.1 1056 = .ok (.iaload, 1) := by decide +kernel
theorem d_law_1057 : decode M_law.2.1 1057 = .ok (.if_icmp .eq 5, 3) := by decide +kernel
theorem d_law_1062 : decode M_law.2.1 1062 = .ok (.iload 25, 2) := by decide +kernel
theorem d_law_1064 : decode M_law.2.1 1064 = .ok (.aload 20, 2) := by decide +kernel
theorem d_law_1066 : decode M_law.2.1 1066 = .ok (.iload 29, 2) := by decide +kernel
theorem d_law_1068 : decode M_law.2.1 1068 = .ok (.aaload, 1) := by decide +kernel
theorem d_law_1069 : decode M_law.2.1 1069 = .ok (.iconst 4, 1) := by decide +kernel
theorem d_law_1070 : decode M_law.2.1 1070 = .ok (.iaload, 1) := by decide +kernel
theorem d_law_1071 : decode M_law.2.1 1071 = .ok (.iconst 1, 1) := by decide +kernel
theorem d_law_1072 : decode M_law.2.1 1072 = .ok (.if_icmp .ne 17, 3) := by decide +kernel
theorem d_law_1075 : decode M_law.2.1 1075 = .ok (.aload 20, 2) := by decide +kernel
theorem d_law_1077 : decode M_law.2.1 1077 = .ok (.iload 29, 2) := by decide +kernel
theorem d_law_1079 : decode M_law.2.1 1079 = .ok (.aaload, 1) := by decide +kernel
theorem d_law_1080 : decode M_law.2.1 1080 = .ok (.iconst 0, 1) := by decide +kernel
theorem d_law_1081 : decode M_law.2.1 1081 = .ok (.iaload, 1) := by decide +kernel
theorem d_law_1082 : decode M_law.2.1 1082 = .ok (.iconst 1, 1) := by decide +kernel
theorem d_law_1083 : decode M_law.2.1 1083 = .ok (.iadd, 1) := by decide +kernel
theorem d_law_1084 : decode M_law.2.1 1084 = .ok (.iconst 2, 1) := by decide +kernel
theorem d_law_1085 : decode M_law.2.1 1085 = .ok (.idiv, 1) := by decide +kernel
theorem d_law_1086 : decode M_law.2.1 1086 = .ok (.goto 4, 3) := by decide +kernel
theorem d_law_1089 : decode M_law.2.1 1089 = .ok (.iconst 0, 1) := by decide +kernel
theorem d_law_1090 : decode M_law.2.1 1090 = .ok (.isub, 1) := by decide +kernel
theorem d_law_1091 : decode M_law.2.1 1091 = .ok (.istore 25, 2) := by decide +kernel
theorem d_law_1093 : decode M_law.2.1 1093 = .ok (.iinc 29 1, 3) := by decide +kernel
theorem d_law_1096 : decode M_law.2.1 1096 = .ok (.goto (-137), 3) := by decide +kernel
set_option maxRecDepth 100000 in
set_option maxHeartbeats 4000000 in
theorem law_959 (hj : AJ A c z0) (hms : MsOk Γ ms) (hth : ThOk Γ) {am as ai aw aH : Nat} (J : JW Γ A c Y3 Y3 N2 dg2 h h') (hd : HD Γ A Y z0 h aH) (hY : IV A Y N) (hg : GR A Y2 Y) (h3 : Y3 = dayF A Y2) {C0 S0 : Nat} (kx : ∀ C S, C0 ≤ C → S0 ≤ S → Go Γ M_law 80 C S 1099 [some (.ref sa), some (.ref c), none, some (.ref ((ad A 6 0))), some (.int ((nI (cn A 0)))), some (.int ((nI (cn A 1)))), some (.int ((nI (cn A 4)))), some (.int ((nI it))), some (.int w8), none, none, some (.ref am), some (.ref as), some (.ref ai), none, some (.ref aw), none, none, none, none, some (.ref aH), none, none, none, some (.int ((tells A Y2 0 7 + (sumN (fun t => sm_v Y 4 t 1) (cn A 4))))), some (.int (((tells A Y2 0 7 + (sumN (fun t => sm_v Y 4 t 1) (cn A 4))) - nds Y (cn A 4)))), some (.int ((sm_fl Y2))), none, some (.int ((tells A Y3 0 7 + (sumN (fun t => sm_v Y3 4 t 1) (cn A 4))))), some (.int ((nI (cn A 4)))), none] [] h' z Q X) : ∀ (k r C S : Nat), r + k = cn A 4 → C0 + 24 * k ≤ C → S0 + 144 * k ≤ S → Go Γ M_law 80 C S 959 [some (.ref sa), some (.ref c), none, some (.ref ((ad A 6 0))), some (.int ((nI (cn A 0)))), some (.int ((nI (cn A 1)))), some (.int ((nI (cn A 4)))), some (.int ((nI it))), some (.int w8), none, none, some (.ref am), some (.ref as), some (.ref ai), none, some (.ref aw), none, none, none, none, some (.ref aH), none, none, none, some (.int ((tells A Y2 0 7 + (sumN (fun t => sm_v Y 4 t 1) (cn A 4))))), some (.int (((tells A Y2 0 7 + (sumN (fun t => sm_v Y 4 t 1) (cn A 4))) - nds Y r))), some (.int ((sm_fl Y2))), none, some (.int ((tells A Y3 0 7 + (sumN (fun t => sm_v Y3 4 t 1) r)))), some (.int ((nI r))), none] [] h' z Q X := by
  intro k
  induction k with
  | zero =>
    intro r C S hi hC hS
    have e : r = cn A 4 := by omega
    subst e
    obtain ⟨p0, p1, p2, p3, p4⟩ := aj_p hj
    refine Go.iload_29 d_law_959 rfl ?_
    refine Go.iload_6 d_law_961 rfl ?_
    refine Go.icmp_ge (t := 1099) d_law_963 (by decide) rfl (fun _ => ?_) (fun w => absurd (nI_le (Nat.le_refl _) (by omega)) w)
    exact kx C S (by omega) (by omega)
  | succ k ih =>
    intro r C S hi hC hS
    obtain ⟨p0, p1, p2, p3, p4⟩ := aj_p hj
    have hr : r < cn A 4 := by omega
    have hd2 := hd
    obtain ⟨b, f, ⟨gH, gB, -, hH, hR⟩, hf⟩ := hd2
    obtain ⟨⟨s0, e0, x0, x1⟩, -, -, ⟨hu, -, hhu⟩, -⟩ := hY.1.2 4 r (by decide) hr
    obtain ⟨-, -, hgt⟩ := hg.all
    have gone : sm_v Y 4 r 4 = 0 → ∀ c, c ≠ 0 → c ≠ 3 → c ≠ 6 → c ≠ 7 → sm_v Y3 4 r c = sm_v Y 4 r c := fun w c a1 a2 a3 a4 => by
      rw [h3]
      exact (gtDay ((hgt r w 4 (by decide) (by decide) (by decide) (by decide)).trans w) c a1 a2 a3 a4).trans (hgt r w c a1 a2 a3 a4)
    have hdn : sm_v Y3 4 r 7 = 0 := by rw [h3]; exact day_done hr
    refine Go.iload_29 d_law_959 rfl ?_
    refine Go.iload_6 d_law_961 rfl ?_
    refine Go.icmp_ge (t := 1099) d_law_963 (by decide) rfl (fun w => absurd w (nI_ge (show r < cn A 4 by omega) (by omega))) (fun _ => ?_)
    refine Go.iload_28 d_law_966 rfl ?_
    refine Go.aload_1 d_law_968 rfl ?_
    refine Go.iload_29 d_law_969 rfl ?_
    refine Go.iconst (v := 1) d_law_971 rfl (by decide) ?_
    refine Go.cvT (C1 := C - 4) (S1 := S - 24) (as := [.int ((nI r)), .int 1]) (rest := [.int ((tells A Y3 0 7 + (sumN (fun t => sm_v Y3 4 t 1) r)))]) d_law_972 rfl l_Law_284 k_Camp_team_v rfl (J.cam hj) rfl rfl (j_team hj J hms hth (r := r) (k := 1) rfl rfl (by first | decide | assumption | omega) (by first | decide | assumption | omega)) rfl rfl (by omega) (by omega) rfl ?_
    refine Go.iadd d_law_975 rfl ?_
    rw [Int32.add_assoc, show (sumN (fun t => sm_v Y3 4 t 1) r) + sm_v Y3 4 r 1 = (sumN (fun t => sm_v Y3 4 t 1) (r + 1)) from rfl]
    refine Go.istore_28 d_law_976 rfl (by rfl) ?_
    refine Go.aload_1 d_law_978 rfl ?_
    refine Go.iload_29 d_law_979 rfl ?_
    refine Go.bipush (v := 7) d_law_981 rfl (by decide) ?_
    refine Go.cvT (C1 := C - 8) (S1 := S - 48) (as := [.int ((nI r)), .int 7]) (rest := []) d_law_983 rfl l_Law_284 k_Camp_team_v rfl (J.cam hj) rfl rfl (j_team hj J hms hth (r := r) (k := 7) rfl rfl (by first | decide | assumption | omega) (by first | decide | assumption | omega)) rfl rfl (by omega) (by omega) rfl ?_
    refine Go.if_ne (t := 1060) d_law_986 (by decide) rfl (fun w => absurd (hdn) w) (fun _ => ?_)
    refine Go.aload_20 d_law_989 rfl ?_
    refine Go.iload_29 d_law_991 rfl ?_
    refine Go.oaal d_law_993 rfl hj J gH hH (j := r) rfl (by first | assumption | omega) (by omega) rfl ?_
    refine Go.iconst (v := 4) d_law_994 rfl (by decide) ?_
    refine Go.oial d_law_995 rfl hj J (gB r hr).1 (hR r hr) (j := 4) rfl (by decide) (by decide) ?_
    rw [hf r hr 4 (by decide)]
    have main : ∀ C2 S2, C0 + 24 * k ≤ C2 → S0 + 144 * k ≤ S2 → Go Γ M_law 80 C2 S2 1062 [some (.ref sa), some (.ref c), none, some (.ref ((ad A 6 0))), some (.int ((nI (cn A 0)))), some (.int ((nI (cn A 1)))), some (.int ((nI (cn A 4)))), some (.int ((nI it))), some (.int w8), none, none, some (.ref am), some (.ref as), some (.ref ai), none, some (.ref aw), none, none, none, none, some (.ref aH), none, none, none, some (.int ((tells A Y2 0 7 + (sumN (fun t => sm_v Y 4 t 1) (cn A 4))))), some (.int (((tells A Y2 0 7 + (sumN (fun t => sm_v Y 4 t 1) (cn A 4))) - nds Y r))), some (.int ((sm_fl Y2))), none, some (.int ((tells A Y3 0 7 + (sumN (fun t => sm_v Y3 4 t 1) (r + 1))))), some (.int ((nI r))), none] [] h' z Q X := by
      intro C2 S2 hC2 hS2
      refine Go.iload_25 d_law_1062 rfl ?_
      refine Go.aload_20 d_law_1064 rfl ?_
      refine Go.iload_29 d_law_1066 rfl ?_
      refine Go.oaal d_law_1068 rfl hj J gH hH (j := r) rfl (by first | assumption | omega) (by omega) rfl ?_
      refine Go.iconst (v := 4) d_law_1069 rfl (by decide) ?_
      refine Go.oial d_law_1070 rfl hj J (gB r hr).1 (hR r hr) (j := 4) rfl (by decide) (by decide) ?_
      rw [hf r hr 4 (by decide)]
      refine Go.iconst (v := 1) d_law_1071 rfl (by decide) ?_
      have fin : ∀ x : Int32, x = (if sm_v Y 4 r 4 = 1 then nI ((vN Y 4 r 0 + 1) / 2) else 0) → Go Γ M_law 80 C2 S2 1090 [some (.ref sa), some (.ref c), none, some (.ref ((ad A 6 0))), some (.int ((nI (cn A 0)))), some (.int ((nI (cn A 1)))), some (.int ((nI (cn A 4)))), some (.int ((nI it))), some (.int w8), none, none, some (.ref am), some (.ref as), some (.ref ai), none, some (.ref aw), none, none, none, none, some (.ref aH), none, none, none, some (.int ((tells A Y2 0 7 + (sumN (fun t => sm_v Y 4 t 1) (cn A 4))))), some (.int (((tells A Y2 0 7 + (sumN (fun t => sm_v Y 4 t 1) (cn A 4))) - nds Y r))), some (.int ((sm_fl Y2))), none, some (.int ((tells A Y3 0 7 + (sumN (fun t => sm_v Y3 4 t 1) (r + 1))))), some (.int ((nI r))), none] [.int x, .int ((tells A Y2 0 7 + (sumN (fun t => sm_v Y 4 t 1) (cn A 4))) - nds Y r)] h' z Q X := by
        intro x hx
        refine Go.isub d_law_1090 rfl ?_
        rw [sub2, hx, show nds Y r + (if sm_v Y 4 r 4 = 1 then nI ((vN Y 4 r 0 + 1) / 2) else 0) = nds Y (r + 1) from rfl]
        refine Go.istore_25 d_law_1091 rfl (by rfl) ?_
        refine Go.iinc_29 d_law_1093 rfl (by rfl) (show nI r + Int32.ofInt 1 = nI (r + 1) from nI_ad r 1) ?_
        refine Go.goto (t := 959) d_law_1096 (by decide) ?_
        refine Go.fgt [some (.ref sa), some (.ref c), none, some (.ref ((ad A 6 0))), some (.int ((nI (cn A 0)))), some (.int ((nI (cn A 1)))), some (.int ((nI (cn A 4)))), some (.int ((nI it))), some (.int w8), none, none, some (.ref am), some (.ref as), some (.ref ai), none, some (.ref aw), none, none, none, none, some (.ref aH), none, none, none, some (.int ((tells A Y2 0 7 + (sumN (fun t => sm_v Y 4 t 1) (cn A 4))))), some (.int (((tells A Y2 0 7 + (sumN (fun t => sm_v Y 4 t 1) (cn A 4))) - nds Y (r + 1)))), some (.int ((sm_fl Y2))), none, some (.int ((tells A Y3 0 7 + (sumN (fun t => sm_v Y3 4 t 1) (r + 1))))), some (.int ((nI (r + 1)))), none] (by repeat' (first | exact trivial | refine ⟨rfl, ?_⟩)) ?_
        exact ih (r + 1) _ _ (by omega) (by omega) (by omega)
      by_cases e4 : sm_v Y 4 r 4 = 1
      · refine Go.icmp_ne (t := 1089) d_law_1072 (by decide) rfl (fun w => absurd (e4) w) (fun _ => ?_)
        refine Go.aload_20 d_law_1075 rfl ?_
        refine Go.iload_29 d_law_1077 rfl ?_
        refine Go.oaal d_law_1079 rfl hj J gH hH (j := r) rfl (by first | assumption | omega) (by omega) rfl ?_
        refine Go.iconst (v := 0) d_law_1080 rfl (by decide) ?_
        refine Go.oial d_law_1081 rfl hj J (gB r hr).1 (hR r hr) (j := 0) rfl (by decide) (by decide) ?_
        rw [hf r hr 0 (by decide)]
        refine Go.iconst (v := 1) d_law_1082 rfl (by decide) ?_
        refine Go.iadd d_law_1083 rfl ?_
        refine Go.iconst (v := 2) d_law_1084 rfl (by decide) ?_
        refine Go.idiv d_law_1085 rfl (by decide) ?_
        refine Go.goto (t := 1090) d_law_1086 (by decide) ?_
        exact fin _ (by rw [if_pos e4, e0, half s0 (by omega), show vN Y 4 r 0 = s0 from by show (sm_v Y 4 r 0).toNatClampNeg = s0; rw [e0]; exact nI_clamp (by omega)])
      · refine Go.icmp_ne (t := 1089) d_law_1072 (by decide) rfl (fun _ => ?_) (fun w => absurd w (e4))
        refine Go.iconst (v := 0) d_law_1089 rfl (by decide) ?_
        exact fin _ (by rw [if_neg e4])
    by_cases ez : sm_v Y 4 r 4 = 0
    · refine Go.if_ne (t := 1062) d_law_996 (by decide) rfl (fun w => absurd (ez) w) (fun _ => ?_)
      refine Go.aload_1 d_law_999 rfl ?_
      refine Go.iload_29 d_law_1000 rfl ?_
      refine Go.iconst (v := 4) d_law_1002 rfl (by decide) ?_
      refine Go.cvT (C1 := C - 12) (S1 := S - 72) (as := [.int ((nI r)), .int 4]) (rest := []) d_law_1003 rfl l_Law_284 k_Camp_team_v rfl (J.cam hj) rfl rfl (j_team hj J hms hth (r := r) (k := 4) rfl rfl (by first | decide | assumption | omega) (by first | decide | assumption | omega)) rfl rfl (by omega) (by omega) rfl ?_
      refine Go.if_ne (t := 1060) d_law_1006 (by decide) rfl (fun w => absurd ((gone ez 4 (by decide) (by decide) (by decide) (by decide)).trans ez) w) (fun _ => ?_)
      refine Go.aload_1 d_law_1009 rfl ?_
      refine Go.iload_29 d_law_1010 rfl ?_
      refine Go.iconst (v := 1) d_law_1012 rfl (by decide) ?_
      refine Go.cvT (C1 := C - 16) (S1 := S - 96) (as := [.int ((nI r)), .int 1]) (rest := []) d_law_1013 rfl l_Law_284 k_Camp_team_v rfl (J.cam hj) rfl rfl (j_team hj J hms hth (r := r) (k := 1) rfl rfl (by first | decide | assumption | omega) (by first | decide | assumption | omega)) rfl rfl (by omega) (by omega) rfl ?_
      refine Go.aload_20 d_law_1016 rfl ?_
      refine Go.iload_29 d_law_1018 rfl ?_
      refine Go.oaal d_law_1020 rfl hj J gH hH (j := r) rfl (by first | assumption | omega) (by omega) rfl ?_
      refine Go.iconst (v := 1) d_law_1021 rfl (by decide) ?_
      refine Go.oial d_law_1022 rfl hj J (gB r hr).1 (hR r hr) (j := 1) rfl (by decide) (by decide) ?_
      rw [hf r hr 1 (by decide)]
      refine Go.icmp_ne (t := 1060) d_law_1023 (by decide) rfl (fun w => absurd (gone ez 1 (by decide) (by decide) (by decide) (by decide)) w) (fun _ => ?_)
      refine Go.aload_1 d_law_1026 rfl ?_
      refine Go.iload_29 d_law_1027 rfl ?_
      refine Go.iconst (v := 2) d_law_1029 rfl (by decide) ?_
      refine Go.cvT (C1 := C - 20) (S1 := S - 120) (as := [.int ((nI r)), .int 2]) (rest := []) d_law_1030 rfl l_Law_284 k_Camp_team_v rfl (J.cam hj) rfl rfl (j_team hj J hms hth (r := r) (k := 2) rfl rfl (by first | decide | assumption | omega) (by first | decide | assumption | omega)) rfl rfl (by omega) (by omega) rfl ?_
      refine Go.aload_20 d_law_1033 rfl ?_
      refine Go.iload_29 d_law_1035 rfl ?_
      refine Go.oaal d_law_1037 rfl hj J gH hH (j := r) rfl (by first | assumption | omega) (by omega) rfl ?_
      refine Go.iconst (v := 2) d_law_1038 rfl (by decide) ?_
      refine Go.oial d_law_1039 rfl hj J (gB r hr).1 (hR r hr) (j := 2) rfl (by decide) (by decide) ?_
      rw [hf r hr 2 (by decide)]
      refine Go.icmp_ne (t := 1060) d_law_1040 (by decide) rfl (fun w => absurd (gone ez 2 (by decide) (by decide) (by decide) (by decide)) w) (fun _ => ?_)
      refine Go.aload_1 d_law_1043 rfl ?_
      refine Go.iload_29 d_law_1044 rfl ?_
      refine Go.iconst (v := 5) d_law_1046 rfl (by decide) ?_
      refine Go.cvT (C1 := C - 24) (S1 := S - 144) (as := [.int ((nI r)), .int 5]) (rest := []) d_law_1047 rfl l_Law_284 k_Camp_team_v rfl (J.cam hj) rfl rfl (j_team hj J hms hth (r := r) (k := 5) rfl rfl (by first | decide | assumption | omega) (by first | decide | assumption | omega)) rfl rfl (by omega) (by omega) rfl ?_
      refine Go.aload_20 d_law_1050 rfl ?_
      refine Go.iload_29 d_law_1052 rfl ?_
      refine Go.oaal d_law_1054 rfl hj J gH hH (j := r) rfl (by first | assumption | omega) (by omega) rfl ?_
      refine Go.iconst (v := 5) d_law_1055 rfl (by decide) ?_
      refine Go.oial d_law_1056 rfl hj J (gB r hr).1 (hR r hr) (j := 5) rfl (by decide) (by decide) ?_
      rw [hf r hr 5 (by decide)]
      refine Go.icmp_eq (t := 1062) d_law_1057 (by decide) rfl (fun _ => ?_) (fun w => absurd (gone ez 5 (by decide) (by decide) (by decide) (by decide)) w)
      exact main _ _ (by omega) (by omega)
    · refine Go.if_ne (t := 1062) d_law_996 (by decide) rfl (fun _ => ?_) (fun w => absurd w (ez))
      exact main _ _ (by omega) (by omega)
theorem d_law_948 : decode M_law.2.1 948 = .ok (.aload_n 1, 1) := by decide +kernel
theorem d_law_949 : decode M_law.2.1 949 = .ok (.bipush 7, 2) := by decide +kernel
theorem d_law_951 : decode M_law.2.1 951 = .ok (.invokevirtual 257, 3) := by decide +kernel
theorem d_law_954 : decode M_law.2.1 954 = .ok (.istore 28, 2) := by decide +kernel
theorem d_law_956 : decode M_law.2.1 956 = .ok (.iconst 0, 1) := by decide +kernel
theorem d_law_957 : decode M_law.2.1 957 = .ok (.istore 29, 2) := by decide +kernel
theorem d_law_1099 : decode M_law.2.1 1099 = .ok (.iload 28, 2) := by decide +kernel
theorem d_law_1101 : decode M_law.2.1 1101 = .ok (.iload 25, 2) := by decide +kernel
theorem d_law_1103 : decode M_law.2.1 1103 = .ok (.if_icmp .ge 14, 3) := by decide +kernel
theorem d_law_1106 : decode M_law.2.1 1106 = .ok (.aload_n 1, 1) := by decide +kernel
theorem d_law_1107 : decode M_law.2.1 1107 = .ok (.bipush 10, 2) := by decide +kernel
theorem d_law_1109 : decode M_law.2.1 1109 = .ok (.invokevirtual 257, 3) := by decide +kernel
theorem d_law_1112 : decode M_law.2.1 1112 = .ok (.iload 26, 2) := by decide +kernel
theorem d_law_1114 : decode M_law.2.1 1114 = .ok (.if_icmp .eq 10, 3) := by decide +kernel
theorem d_law_1117 : decode M_law.2.1 1117 = .ok (.iload 28, 2) := by decide +kernel
theorem d_law_1119 : decode M_law.2.1 1119 = .ok (.iload 24, 2) := by decide +kernel
theorem d_law_1121 : decode M_law.2.1 1121 = .ok (.if_icmp .le 5, 3) := by decide +kernel
theorem Go.lst29 {M : MI} {d pc : Nat} {C S : Nat} {L L' : List (Option Value)} {st : List Value} (e : L = L') (k : Go Γ M d C S pc L' st h z Q X) : Go Γ M d C S pc L st h z Q X := by
  rw [e]
  exact k
set_option maxRecDepth 100000 in
set_option maxHeartbeats 4000000 in
theorem law_948 (hj : AJ A c z0) (hms : MsOk Γ ms) (hth : ThOk Γ) {am as ai aw aH C S : Nat} (J : JW Γ A c Y3 Y3 N2 dg2 h h') {N1 : Nat} (hd : HD Γ A Y z0 h aH) (hY : IV A Y N) (hI2 : IV A Y2 N1) (hg : GR A Y2 Y) (h3 : Y3 = dayF A Y2) (hfd : ∃ d, d ≤ 8 ∧ sm_fl (dayF A Y2) = sm_fl Y2 + nI d ∧ fdN A (dayF A Y2) ≤ fdN A Y2 ∧ (d = 0 → fdN A Y2 ≤ fdN A (dayF A Y2) + needF Y2 (cn A 4) 0)) (hC : 120 ≤ C) (hS : 700 ≤ S) (kx : ∀ (C2 S2 : Nat), C ≤ C2 + 120 → S ≤ S2 + 700 → Go Γ M_law 80 C2 S2 1126 [some (.ref sa), some (.ref c), none, some (.ref ((ad A 6 0))), some (.int ((nI (cn A 0)))), some (.int ((nI (cn A 1)))), some (.int ((nI (cn A 4)))), some (.int ((nI it))), some (.int w8), none, none, some (.ref am), some (.ref as), some (.ref ai), none, some (.ref aw), none, none, none, none, some (.ref aH), none, none, none, none, none, none, none, none, none, none] [] h' z Q X) : Go Γ M_law 80 C S 948 [some (.ref sa), some (.ref c), none, some (.ref ((ad A 6 0))), some (.int ((nI (cn A 0)))), some (.int ((nI (cn A 1)))), some (.int ((nI (cn A 4)))), some (.int ((nI it))), some (.int w8), none, none, some (.ref am), some (.ref as), some (.ref ai), none, some (.ref aw), none, none, none, none, some (.ref aH), none, none, none, some (.int ((tells A Y2 0 7 + (sumN (fun t => sm_v Y 4 t 1) (cn A 4))))), some (.int ((tells A Y2 0 7 + (sumN (fun t => sm_v Y 4 t 1) (cn A 4))))), some (.int ((sm_fl Y2))), none, none, none, none] [] h' z Q X := by
  obtain ⟨p0, p1, p2, p3, p4⟩ := aj_p hj
  refine Go.aload_1 d_law_948 rfl ?_
  refine Go.bipush (v := 7) d_law_949 rfl (by decide) ?_
  refine Go.cvT (C1 := C - 4) (S1 := S - 24) (as := [.int 7]) (rest := []) d_law_951 rfl l_Law_257 k_Camp_count_v rfl (J.cam hj) rfl rfl (j_count hj J hms hth (k := 7) rfl (by first | decide | assumption | omega)) rfl rfl (by omega) (by omega) rfl ?_
  refine Go.istore_28 d_law_954 rfl (by rfl) ?_
  refine Go.iconst (v := 0) d_law_956 rfl (by decide) ?_
  refine Go.istore_29 d_law_957 rfl (by rfl) ?_
  refine Go.fgt [some (.ref sa), some (.ref c), none, some (.ref ((ad A 6 0))), some (.int ((nI (cn A 0)))), some (.int ((nI (cn A 1)))), some (.int ((nI (cn A 4)))), some (.int ((nI it))), some (.int w8), none, none, some (.ref am), some (.ref as), some (.ref ai), none, some (.ref aw), none, none, none, none, some (.ref aH), none, none, none, some (.int ((tells A Y2 0 7 + (sumN (fun t => sm_v Y 4 t 1) (cn A 4))))), some (.int ((tells A Y2 0 7 + (sumN (fun t => sm_v Y 4 t 1) (cn A 4))))), some (.int ((sm_fl Y2))), none, some (.int ((tells A Y3 0 7))), some (.int ((nI 0))), none] (by repeat' (first | exact trivial | refine ⟨rfl, ?_⟩)) ?_
  have z1 : (tells A Y2 0 7 + (sumN (fun t => sm_v Y 4 t 1) (cn A 4))) = (tells A Y2 0 7 + (sumN (fun t => sm_v Y 4 t 1) (cn A 4))) - nds Y 0 := (Int32.sub_zero _).symm
  have z2 : tells A Y3 0 7 = (tells A Y3 0 7 + (sumN (fun t => sm_v Y3 4 t 1) 0)) := (Int32.add_zero _).symm
  refine Go.lst29 (L' := [some (.ref sa), some (.ref c), none, some (.ref ((ad A 6 0))), some (.int ((nI (cn A 0)))), some (.int ((nI (cn A 1)))), some (.int ((nI (cn A 4)))), some (.int ((nI it))), some (.int w8), none, none, some (.ref am), some (.ref as), some (.ref ai), none, some (.ref aw), none, none, none, none, some (.ref aH), none, none, none, some (.int ((tells A Y2 0 7 + (sumN (fun t => sm_v Y 4 t 1) (cn A 4))))), some (.int (((tells A Y2 0 7 + (sumN (fun t => sm_v Y 4 t 1) (cn A 4))) - nds Y 0))), some (.int ((sm_fl Y2))), none, some (.int ((tells A Y3 0 7 + (sumN (fun t => sm_v Y3 4 t 1) 0)))), some (.int ((nI 0))), none]) (by rw [← z1, ← z2]) ?_
  refine law_959 hj hms hth J hd hY hg h3 (C0 := C - 104) (S0 := S - 624) (fun C2 S2 hC2 hS2 => ?_) (cn A 4) 0 _ _ (Nat.zero_add _) (by omega) (by omega)
  obtain ⟨f2, f2b⟩ := hI2.food ⟨by omega, by omega⟩
  obtain ⟨f3, f3b⟩ := J.iv.food ⟨by omega, by omega⟩
  obtain ⟨d, d8, df, dl, dz⟩ := hfd
  rw [← h3] at df dl dz
  obtain ⟨-, hq, -⟩ := hg.all
  have en : needF Y2 (cn A 4) 0 = needF Y (cn A 4) 0 := needF_ext _ _ (fun t _ => hq.1 t)
  rw [en] at dz
  have nb : needF Y (cn A 4) 0 ≤ 4 * cn A 4 := need_le _ (fun r hr => by
    obtain ⟨⟨s0, e0, x0, x1⟩, -⟩ := hY.1.2 4 r (by decide) hr
    show (sm_v Y 4 r 0).toNatClampNeg ≤ 6
    rw [e0, nI_clamp (by omega)]
    exact x1)
  have w24 : (tells A Y2 0 7 + (sumN (fun t => sm_v Y 4 t 1) (cn A 4))) = nI (fdN A Y2) := by
    rw [← f2]
    show sumN (fun r => sm_v Y2 3 r 1) (cn A 3) + _ = _
    rw [show (fun t => sm_v Y 4 t 1) = (fun t => sm_v Y2 4 t 1) from funext fun t => (hg.2 t).symm]
  have w28 : (tells A Y3 0 7 + (sumN (fun t => sm_v Y3 4 t 1) (cn A 4))) = nI (fdN A Y3) := f3
  have hcmp : fdN A Y2 ≤ fdN A Y3 + needF Y (cn A 4) 0 → (tells A Y2 0 7 + (sumN (fun t => sm_v Y 4 t 1) (cn A 4))) - nds Y (cn A 4) ≤ (tells A Y3 0 7 + (sumN (fun t => sm_v Y3 4 t 1) (cn A 4))) := fun w => by
    rw [w24, w28, nds_need, Int32.le_iff_toInt_le, pk_sub_toInt (by omega) (by omega), nI_toInt (by omega)]
    omega
  have end_ : ∀ C3 S3, C ≤ C3 + 120 → S ≤ S3 + 700 → Go Γ M_law 80 C3 S3 1117 [some (.ref sa), some (.ref c), none, some (.ref ((ad A 6 0))), some (.int ((nI (cn A 0)))), some (.int ((nI (cn A 1)))), some (.int ((nI (cn A 4)))), some (.int ((nI it))), some (.int w8), none, none, some (.ref am), some (.ref as), some (.ref ai), none, some (.ref aw), none, none, none, none, some (.ref aH), none, none, none, some (.int ((tells A Y2 0 7 + (sumN (fun t => sm_v Y 4 t 1) (cn A 4))))), some (.int (((tells A Y2 0 7 + (sumN (fun t => sm_v Y 4 t 1) (cn A 4))) - nds Y (cn A 4)))), some (.int ((sm_fl Y2))), none, some (.int ((tells A Y3 0 7 + (sumN (fun t => sm_v Y3 4 t 1) (cn A 4))))), some (.int ((nI (cn A 4)))), none] [] h' z Q X := by
    intro C3 S3 hC3 hS3
    refine Go.iload_28 d_law_1117 rfl ?_
    refine Go.iload_24 d_law_1119 rfl ?_
    refine Go.icmp_le (t := 1126) d_law_1121 (by decide) rfl (fun _ => ?_) (fun w => absurd (by rw [w24, w28]; exact nI_le dl (by omega)) w)
    refine Go.fgt [some (.ref sa), some (.ref c), none, some (.ref ((ad A 6 0))), some (.int ((nI (cn A 0)))), some (.int ((nI (cn A 1)))), some (.int ((nI (cn A 4)))), some (.int ((nI it))), some (.int w8), none, none, some (.ref am), some (.ref as), some (.ref ai), none, some (.ref aw), none, none, none, none, some (.ref aH), none, none, none, none, none, none, none, none, none, none] (by repeat' (first | exact trivial | refine ⟨rfl, ?_⟩)) ?_
    exact kx _ _ (by omega) (by omega)
  refine Go.iload_28 d_law_1099 rfl ?_
  refine Go.iload_25 d_law_1101 rfl ?_
  by_cases hc : (tells A Y2 0 7 + (sumN (fun t => sm_v Y 4 t 1) (cn A 4))) - nds Y (cn A 4) ≤ (tells A Y3 0 7 + (sumN (fun t => sm_v Y3 4 t 1) (cn A 4)))
  · refine Go.icmp_ge (t := 1117) d_law_1103 (by decide) rfl (fun _ => ?_) (fun w => absurd (hc) w)
    exact end_ _ _ (by omega) (by omega)
  · refine Go.icmp_ge (t := 1117) d_law_1103 (by decide) rfl (fun w => absurd w (hc)) (fun _ => ?_)
    refine Go.aload_1 d_law_1106 rfl ?_
    refine Go.bipush (v := 10) d_law_1107 rfl (by decide) ?_
    refine Go.cvT (C1 := C2 - 4) (S1 := S2 - 24) (as := [.int 10]) (rest := []) d_law_1109 rfl l_Law_257 k_Camp_count_v rfl (J.cam hj) rfl rfl (j_count hj J hms hth (k := 10) rfl (by first | decide | assumption | omega)) rfl rfl (by omega) (by omega) rfl ?_
    refine Go.iload_26 d_law_1112 rfl ?_
    have hne : ¬ sm_fl Y3 = sm_fl Y2 := fun w => by
      refine hc (hcmp (dz ?_))
      have w2 : nI d = 0 := by
        have w3 := df.symm.trans w
        have w4 := congrArg (fun x => x - sm_fl Y2) w3
        have w5 : sm_fl Y2 + nI d - sm_fl Y2 = nI d := by rw [Int32.add_comm]; exact Int32.add_sub_cancel _ _
        exact w5.symm.trans (w4.trans (Int32.sub_self _))
      by_cases d0 : d = 0
      · exact d0
      · exact absurd w2 (nI_ne0 (by omega) (by omega))
    refine Go.icmp_eq (t := 1124) d_law_1114 (by decide) rfl (fun w => absurd w (hne)) (fun _ => ?_)
    exact end_ _ _ (by omega) (by omega)
end Lw
