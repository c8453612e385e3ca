/-! the law: an act, and the end -/
section Lw
variable {Γ : G9} {A : AD} {c z0 z sa it : Nat} {Y : SM} {N : Nat} {dg : Int64} {h h' : AH} {ms : Nat → Nat} {Q : QT} {X : XT} {w8 : Int32}
theorem rem16 : ∀ i, i < 20 → nI i - (nI i / 16) * 16 = nI (i % 16) := by decide +kernel
theorem d_law_59 : decode M_law.2.1 59 = .ok (.iload 7, 2) := by decide +kernel
theorem d_law_61 : decode M_law.2.1 61 = .ok (.bipush 20, 2) := by decide +kernel
theorem d_law_63 : decode M_law.2.1 63 = .ok (.if_icmp .ge 1235, 3) := by decide +kernel
theorem d_law_66 : decode M_law.2.1 66 = .ok (.aload_n 0, 1) := by decide +kernel
theorem d_law_67 : decode M_law.2.1 67 = .ok (.iload 7, 2) := by decide +kernel
theorem d_law_69 : decode M_law.2.1 69 = .ok (.bipush 16, 2) := by decide +kernel
theorem d_law_71 : decode M_law.2.1 71 = .ok (.irem, 1) := by decide +kernel
theorem d_law_72 : decode M_law.2.1 72 = .ok (.invokestatic 119, 3) := by decide +kernel
theorem d_law_75 : decode M_law.2.1 75 = .ok (.iconst 3, 1) := by decide +kernel
theorem d_law_76 : decode M_law.2.1 76 = .ok (.ishr, 1) := by decide +kernel
theorem d_law_77 : decode M_law.2.1 77 = .ok (.bipush 59, 2) := by decide +kernel
theorem d_law_79 : decode M_law.2.1 79 = .ok (.iload 7, 2) := by decide +kernel
theorem d_law_81 : decode M_law.2.1 81 = .ok (.imul, 1) := by decide +kernel
theorem d_law_82 : decode M_law.2.1 82 = .ok (.iadd, 1) := by decide +kernel
theorem d_law_83 : decode M_law.2.1 83 = .ok (.istore 8, 2) := by decide +kernel
theorem d_law_85 : decode M_law.2.1 85 = .ok (.aload_n 1, 1) := by decide +kernel
theorem d_law_86 : decode M_law.2.1 86 = .ok (.aload_n 3, 1) := by decide +kernel
theorem d_law_87 : decode M_law.2.1 87 = .ok (.iload 8, 2) := by decide +kernel
theorem d_law_89 : decode M_law.2.1 89 = .ok (.invokestatic 260, 3) := by decide +kernel
theorem d_law_92 : decode M_law.2.1 92 = .ok (.ifCond .ne 5, 3) := by decide +kernel
set_option maxRecDepth 100000 in
set_option maxHeartbeats 4000000 in
theorem law_59 (hj : AJ A c z0) (hms : MsOk Γ ms) (hth : ThOk Γ) (J : JW Γ A c Y Y N dg h h') (hN : N ≤ 900000) (hz : z0 ≤ z) {n : Nat} {xs : Nat → Int32} (hsc : ScOk Γ sa n xs) (hn : n < 2 ^ 31) (hit : it < 20) {C S : Nat} (hC : 2400 ≤ C) (hS : 16000 ≤ S) (kx : ∀ (w8 : Int32) (Y2 : SM) (dg2 : Int64) (h3 : AH) (z C2 S2 : Nat), JW Γ A c Y2 Y2 (N + 1000) dg2 h h3 → z0 ≤ z → C ≤ C2 + 2400 → S ≤ S2 + 16000 → Go Γ M_law 80 C2 S2 97 [some (.ref sa), some (.ref c), none, some (.ref ((ad A 6 0))), some (.int ((nI (cn A 0)))), some (.int ((nI (cn A 1)))), some (.int ((nI (cn A 4)))), some (.int ((nI it))), some (.int w8), none, none, none, none, none, none, none, none, none, none, none, none, none, none, none, none, none, none, none, none, none, none] [] h3 z Q X) : Go Γ M_law 80 C S 59 [some (.ref sa), some (.ref c), none, some (.ref ((ad A 6 0))), some (.int ((nI (cn A 0)))), some (.int ((nI (cn A 1)))), some (.int ((nI (cn A 4)))), some (.int ((nI it))), none, none, none, none, none, none, none, none, none, none, none, none, none, none, none, none, none, none, none, none, none, none, none] [] h' z Q X := by
  refine Go.iload_7 d_law_59 rfl ?_
  refine Go.bipush (v := 20) d_law_61 rfl (by decide) ?_
  refine Go.icmp_ge (t := 1298) d_law_63 (by decide) rfl (fun w => absurd w (nI_ge (show it < 20 by omega) (by decide))) (fun _ => ?_)
  refine Go.aload_0 d_law_66 rfl ?_
  refine Go.iload_7 d_law_67 rfl ?_
  refine Go.bipush (v := 16) d_law_69 rfl (by decide) ?_
  refine Go.irem d_law_71 rfl (by decide) ?_
  rw [rem16 it hit]
  obtain ⟨x, hx⟩ := c_cell (h := h') (z := z) hsc hn (k := it % 16) rfl (by omega)
  refine Go.cs2r d_law_72 rfl l_Law_119 k_Law_cell_s rfl hx rfl rfl rfl ?_
  refine Go.iconst (v := 3) d_law_75 rfl (by decide) ?_
  refine Go.ishr d_law_76 rfl ?_
  refine Go.bipush (v := 59) d_law_77 rfl (by decide) ?_
  refine Go.iload_7 d_law_79 rfl ?_
  refine Go.imul d_law_81 rfl ?_
  refine Go.iadd d_law_82 rfl ?_
  obtain ⟨w8, ew⟩ : ∃ w, w = ((x >>> (3 &&& 31)) + (59 * (nI it))) := ⟨_, rfl⟩
  rw [← ew]
  refine Go.istore_8 d_law_83 rfl (by rfl) ?_
  refine Go.aload_1 d_law_85 rfl ?_
  refine Go.aload_3 d_law_86 rfl ?_
  refine Go.iload_8 d_law_87 rfl ?_
  refine Go.callSW (C1 := C - 2400) (S1 := S - 16000) (as := [.ref c, .ref (ad A 6 0), .int w8]) (rest := []) d_law_89 rfl l_Law_260 k_Law_act_s (by decide) rfl rfl (c_act hj J hms hth hN) (by decide) (by decide) (by omega) (by omega) (by decide) (fun _ _ _ w _ => w.elim) (fun v9 h9 z9 w9 hz9 => ?_)
  obtain ⟨rfl, Y2, dg2, J2⟩ := w9
  refine Go.if_ne (t := 97) d_law_92 (by decide) rfl (fun _ => ?_) (fun w => absurd w (by decide))
  refine Go.fgt [some (.ref sa), some (.ref c), none, some (.ref ((ad A 6 0))), some (.int ((nI (cn A 0)))), some (.int ((nI (cn A 1)))), some (.int ((nI (cn A 4)))), some (.int ((nI it))), some (.int w8), none, none, none, none, none, none, none, none, none, none, none, none, none, none, none, none, none, none, none, none, none, none] (by repeat' (first | exact trivial | refine ⟨rfl, ?_⟩)) ?_
  exact kx w8 Y2 dg2 h9 z9 _ _ J2 (by omega) (by omega) (by omega)
theorem d_law_1298 : decode M_law.2.1 1298 = .ok (.aload_n 3, 1) := by decide +kernel
theorem d_law_1299 : decode M_law.2.1 1299 = .ok (.aload_n 1, 1) := by decide +kernel
theorem d_law_1300 : decode M_law.2.1 1300 = .ok (.invokevirtual 296, 3) := by decide +kernel
theorem d_law_1303 : decode M_law.2.1 1303 = .ok (.ireturn, 1) := by decide +kernel
set_option maxRecDepth 100000 in
set_option maxHeartbeats 4000000 in
theorem law_1298 (hj : AJ A c z0) (hms : MsOk Γ ms) (hth : ThOk Γ) (J : JW Γ A c Y Y N dg h h') (hN : N ≤ 900000) (hz : z0 ≤ z) {C S : Nat} (hC : 600 ≤ C) (hS : 4000 ≤ S) (hQ : ∀ h3 z3, Q (some (.int 1)) h3 z3) : Go Γ M_law 80 C S 59 [some (.ref sa), some (.ref c), none, some (.ref ((ad A 6 0))), some (.int ((nI (cn A 0)))), some (.int ((nI (cn A 1)))), some (.int ((nI (cn A 4)))), some (.int ((nI 20))), none, none, none, none, none, none, none, none, none, none, none, none, none, none, none, none, none, none, none, none, none, none, none] [] h' z Q X := by
  refine Go.iload_7 d_law_59 rfl ?_
  refine Go.bipush (v := 20) d_law_61 rfl (by decide) ?_
  refine Go.icmp_ge (t := 1298) d_law_63 (by decide) rfl (fun _ => ?_) (fun w => absurd (nI_le (Nat.le_refl 20) (by decide)) w)
  refine Go.aload_3 d_law_1298 rfl ?_
  refine Go.aload_1 d_law_1299 rfl ?_
  obtain ⟨fs, ho⟩ := J.ob hj
  refine Go.callV (C1 := C - 600) (S1 := S - 4000) (as := [.ref c]) d_law_1300 rfl l_Law_296 k_Sim_isSame_v rfl ho rfl rfl (c_same hj J hms hth hz hN) (by decide) (by decide) (by omega) (by omega) (by decide) (fun _ _ _ w _ => w.elim) (fun v9 h3 z9 w9 hz9 => ?_)
  subst w9
  exact Go.iret d_law_1303 rfl (ret_z (Or.inr rfl)) (hQ h3 z9)
end Lw
