/-! the law's act -/
theorem lk_IS : Cond.classLink "GlacierCampLaw" 218 xIS ∈ gw := gm_7 (List.mem_of_getElem? (i := 34) rfl) rfl
theorem ca_IS : Cond.castable xIS xIS ∈ nw := gn_2 (List.mem_of_getElem? (i := 172) rfl) rfl
section GoB
variable {Γ : G9} {M : MI} {d C S pc q : Nat} {L : List (Option Value)} {st : List Value} {h : AH} {z : Nat} {Q : QT} {X : XT}
theorem Go.jbel {n idx : Nat} {v vn : Int32} (hd : decode M.2.1 pc = .ok (.invokestatic idx, 3)) (hq : pc + 3 = q) (lk : Cond.methodLink M.1.cls idx M_Law_below.1 ∈ gw) (en : vn = nI n) (h0 : 0 < n) (hn : n < 1000) (hw : Nat.ble (st.map fun v => v.category).sum 8 = true) (kk : ∀ y : Nat, y < n → Go Γ M (d + 1) C S q L (.int (nI y) :: st) h z Q X) : Go Γ M (d + 1) C S pc L (.int vn :: .int v :: st) h z Q X :=
  Go.cs2r hd hq lk k_Law_below_s rfl (c_below (v := v) en h0 (by omega)) (Nat.ble_eq.mpr (by omega)) (by decide) hw (kk _ (bel_lt h0))
end GoB
theorem JW.upN {Γ : G9} {A : AD} {c : Nat} {Yc Ys : SM} {N N' : Nat} {dg : Int64} {h h' : AH} (hJ : JW Γ A c Yc Ys N dg h h') (hN : N ≤ N') : JW Γ A c Yc Ys N' dg h h' := by
  obtain ⟨sg, sw, g, g2, o, o2, a, K, σ, τ, T, F, U, G, P, hss, geo, bd, hsz, ho, ho2, hT, hU, hV, hP, hI, hO, hd, e⟩ := hJ
  exact ⟨sg, sw, g, g2, o, o2, a, K, σ, τ, T, F, U, G, P, hss, geo, bd, hsz, ho, ho2, hT, hU, hV, hP, hI.up hN, hO, hd, e⟩
def ActQ (Γ : G9) (A : AD) (c N : Nat) (h : AH) : QT := fun v h2 _ => v = some (.int 1) ∧ ∃ Y2 dg2, JW Γ A c Y2 Y2 (N + 1000) dg2 h h2
theorem aj_p {A : AD} {c z0 : Nat} (hj : AJ A c z0) : (1 ≤ cn A 0 ∧ cn A 0 ≤ 4) ∧ (1 ≤ cn A 1 ∧ cn A 1 ≤ 4) ∧ (1 ≤ cn A 2 ∧ cn A 2 ≤ 4) ∧ (1 ≤ cn A 3 ∧ cn A 3 ≤ 4) ∧ 1 ≤ cn A 4 ∧ cn A 4 ≤ 4 := ⟨hj.2.2.2.2 0 (by decide), hj.2.2.2.2 1 (by decide), hj.2.2.2.2 2 (by decide), hj.2.2.2.2 3 (by decide), hj.2.2.2.2 4 (by decide)⟩
theorem ret_z {x : Int32} (h : x = 0 ∨ x = 1) : narrow .boolean (.int x) = .int x := by
  rcases h with e | e <;> rw [e] <;> rfl

theorem d_Law_act_68 : decode M_Law_act.2.1 68 = .ok (.iload_n 2, 1) := by decide +kernel
theorem d_Law_act_69 : decode M_Law_act.2.1 69 = .ok (.iconst 5, 1) := by decide +kernel
theorem d_Law_act_70 : decode M_Law_act.2.1 70 = .ok (.ishr, 1) := by decide +kernel
theorem d_Law_act_71 : decode M_Law_act.2.1 71 = .ok (.iconst 2, 1) := by decide +kernel
theorem d_Law_act_72 : decode M_Law_act.2.1 72 = .ok (.invokestatic 125, 3) := by decide +kernel
theorem d_Law_act_75 : decode M_Law_act.2.1 75 = .ok (.ifCond .ne 7, 3) := by decide +kernel
theorem d_Law_act_78 : decode M_Law_act.2.1 78 = .ok (.iconst 1, 1) := by decide +kernel
theorem d_Law_act_79 : decode M_Law_act.2.1 79 = .ok (.goto 4, 3) := by decide +kernel
theorem d_Law_act_82 : decode M_Law_act.2.1 82 = .ok (.iconst 0, 1) := by decide +kernel
theorem d_Law_act_83 : decode M_Law_act.2.1 83 = .ok (.istore 5, 2) := by decide +kernel
theorem d_Law_act_85 : decode M_Law_act.2.1 85 = .ok (.aload_n 1, 1) := by decide +kernel
theorem d_Law_act_86 : decode M_Law_act.2.1 86 = .ok (.iload_n 3, 1) := by decide +kernel
theorem d_Law_act_87 : decode M_Law_act.2.1 87 = .ok (.iload 5, 2) := by decide +kernel
theorem d_Law_act_89 : decode M_Law_act.2.1 89 = .ok (.invokevirtual 210, 3) := by decide +kernel
theorem d_Law_act_92 : decode M_Law_act.2.1 92 = .ok (.istore 6, 2) := by decide +kernel
theorem d_Law_act_94 : decode M_Law_act.2.1 94 = .ok (.aload_n 0, 1) := by decide +kernel
theorem d_Law_act_95 : decode M_Law_act.2.1 95 = .ok (.iload_n 3, 1) := by decide +kernel
theorem d_Law_act_96 : decode M_Law_act.2.1 96 = .ok (.iload 5, 2) := by decide +kernel
theorem d_Law_act_98 : decode M_Law_act.2.1 98 = .ok (.invokevirtual 214, 3) := by decide +kernel
theorem d_Law_act_101 : decode M_Law_act.2.1 101 = .ok (.istore 4, 2) := by decide +kernel
theorem d_Law_act_103 : decode M_Law_act.2.1 103 = .ok (.goto 8, 3) := by decide +kernel
theorem d_Law_act_106 : decode M_Law_act.2.1 106 = .ok (.astore 7, 2) := by decide +kernel
theorem d_Law_act_108 : decode M_Law_act.2.1 108 = .ok (.iconst (-1), 1) := by decide +kernel
theorem d_Law_act_109 : decode M_Law_act.2.1 109 = .ok (.istore 4, 2) := by decide +kernel
theorem d_Law_act_111 : decode M_Law_act.2.1 111 = .ok (.iload 4, 2) := by decide +kernel
theorem d_Law_act_113 : decode M_Law_act.2.1 113 = .ok (.iload 6, 2) := by decide +kernel
theorem d_Law_act_115 : decode M_Law_act.2.1 115 = .ok (.ifCond .eq 14, 3) := by decide +kernel
theorem d_Law_act_118 : decode M_Law_act.2.1 118 = .ok (.aload_n 1, 1) := by decide +kernel
theorem d_Law_act_119 : decode M_Law_act.2.1 119 = .ok (.getfield 170, 3) := by decide +kernel
theorem d_Law_act_122 : decode M_Law_act.2.1 122 = .ok (.iload_n 3, 1) := by decide +kernel
theorem d_Law_act_123 : decode M_Law_act.2.1 123 = .ok (.aaload, 1) := by decide +kernel
theorem d_Law_act_124 : decode M_Law_act.2.1 124 = .ok (.iconst 2, 1) := by decide +kernel
theorem d_Law_act_125 : decode M_Law_act.2.1 125 = .ok (.iaload, 1) := by decide +kernel
theorem d_Law_act_126 : decode M_Law_act.2.1 126 = .ok (.goto 4, 3) := by decide +kernel
theorem d_Law_act_129 : decode M_Law_act.2.1 129 = .ok (.iconst (-1), 1) := by decide +kernel
theorem d_Law_act_130 : decode M_Law_act.2.1 130 = .ok (.if_icmp .ne 7, 3) := by decide +kernel
theorem d_Law_act_133 : decode M_Law_act.2.1 133 = .ok (.iconst 1, 1) := by decide +kernel
theorem d_Law_act_134 : decode M_Law_act.2.1 134 = .ok (.goto 4, 3) := by decide +kernel
theorem d_Law_act_138 : decode M_Law_act.2.1 138 = .ok (.ireturn, 1) := by decide +kernel
set_option maxRecDepth 100000 in
set_option maxHeartbeats 4000000 in
theorem act_go {Γ : G9} {A : AD} {c z0 z C S : Nat} {Y : SM} {N : Nat} {dg : Int64} {h h' : AH} {ms : Nat → Nat} (hj : AJ A c z0) (hJ : JW Γ A c Y Y N dg h h') (hms : MsOk Γ ms) (hth : ThOk Γ) (hN : N ≤ 900000) {x : Int32} {t : Nat} (ht : t < cn A 4) (hC : 2400 ≤ C) (hS : 16000 ≤ S) : Go Γ M_Law_act 9 C S 68 [some (.ref c), some (.ref (ad A 6 0)), some (.int x), some (.int (nI t)), none, none, none, none] [] h' z (ActQ Γ A c N h) noX := by
  obtain ⟨p0, p1, p2, p3, p4⟩ := aj_p hj
  have main : ∀ up : Int32, Go Γ M_Law_act 9 C S 83 [some (.ref c), some (.ref (ad A 6 0)), some (.int x), some (.int (nI t)), none, none, none, none] [.int up] h' z (ActQ Γ A c N h) noX := by
    intro up
    refine Go.istore_5 d_Law_act_83 rfl (by rfl) ?_
    refine Go.aload_1 d_Law_act_85 rfl ?_
    refine Go.iload_3 d_Law_act_86 rfl ?_
    refine Go.iload_5 d_Law_act_87 rfl ?_
    obtain ⟨k1, Jk1, ck1⟩ := j_sgoes hj hJ (t := t) (x := up) (z := z) rfl ht
    refine Go.cvH (C1 := C - 18) (S1 := S - 128) (as := [.int ((nI t)), .int up]) (rest := []) d_Law_act_89 rfl l_Law_210 k_Sim_goes_v rfl (hJ.ob hj) rfl rfl ck1 rfl rfl (by omega) (by omega) rfl (fun zk1 hzk1 => ?_)
    refine Go.istore_6 d_Law_act_92 rfl (by rfl) ?_
    refine Go.aload_0 d_Law_act_94 rfl ?_
    refine Go.iload_3 d_Law_act_95 rfl ?_
    refine Go.iload_5 d_Law_act_96 rfl ?_
    by_cases hq : (s_Sim_goes A Y t up).1 = 0
    · obtain ⟨m2, dg2, J2, w, -, hc⟩ := j_cgo hj Jk1 hms hth (t := t) (x := up) rfl ht
      rw [if_pos hq] at hc
      refine Go.cvX (C1 := C - 22) (S1 := S - 152) (as := [.int ((nI t)), .int up]) (rest := []) d_Law_act_98 rfl l_Law_214 k_Camp_go_v rfl (Jk1.cam hj) rfl rfl hc rfl rfl (by omega) (by omega) rfl (fun z9 _ hz9 => ?_) (fun w => absurd w (by decide))
      rw [show exn 3 = xIS from rfl]
      refine Go.catch [] ⟨94, 103, 106, 218⟩ [⟨161, 170, 173, 218⟩, ⟨228, 237, 240, 218⟩] rfl (fun y hy => absurd hy List.not_mem_nil) (by decide) (by decide) lk_IS ca_IS (fun q9 => ?_)
      refine Go.astore_7 d_Law_act_106 rfl (by rfl) ?_
      refine Go.iconst (v := (-1)) d_Law_act_108 rfl (by decide) ?_
      refine Go.istore_4 d_Law_act_109 rfl (by rfl) ?_
      refine Go.iload_4 d_Law_act_111 rfl ?_
      refine Go.iload_6 d_Law_act_113 rfl ?_
      refine Go.if_eq (t := 129) d_Law_act_115 (by decide) rfl (fun _ => ?_) (fun w => absurd (hq) w)
      refine Go.iconst (v := (-1)) d_Law_act_129 rfl (by decide) ?_
      refine Go.icmp_ne (t := 137) d_Law_act_130 (by decide) rfl (fun w => absurd (rfl) w) (fun _ => ?_)
      refine Go.iconst (v := 1) d_Law_act_133 rfl (by decide) ?_
      refine Go.goto (t := 138) d_Law_act_134 (by decide) ?_
      exact Go.iret d_Law_act_138 rfl (ret_z (Or.inr rfl)) ⟨rfl, _, _, J2.upN (by omega)⟩
    · obtain ⟨m2, dg2, J2, w, hw, hc⟩ := j_cgo hj Jk1 hms hth (t := t) (x := up) rfl ht
      rw [if_neg hq] at hc
      have hw := hw hq
      subst hw
      refine Go.cvX (C1 := C - 22) (S1 := S - 152) (as := [.int ((nI t)), .int up]) (rest := []) d_Law_act_98 rfl l_Law_214 k_Camp_go_v rfl (Jk1.cam hj) rfl rfl hc rfl rfl (by omega) (by omega) rfl (fun z9 w => absurd rfl w) (fun _ => ?_)
      refine Go.istore_4 d_Law_act_101 rfl (by rfl) ?_
      refine Go.goto (t := 111) d_Law_act_103 (by decide) ?_
      refine Go.iload_4 d_Law_act_111 rfl ?_
      refine Go.iload_6 d_Law_act_113 rfl ?_
      refine Go.if_eq (t := 129) d_Law_act_115 (by decide) rfl (fun w => absurd w (hq)) (fun _ => ?_)
      refine Go.aload_1 d_Law_act_118 rfl ?_
      refine Go.getfield d_Law_act_119 rfl f_Law_170 (J2.obj hj) rfl ?_
      refine Go.iload_3 d_Law_act_122 rfl ?_
      refine Go.jaal d_Law_act_123 rfl hj J2 (k := 4) (r := t) (by decide) rfl (by first | assumption | omega) ?_
      refine Go.iconst (v := 2) d_Law_act_124 rfl (by decide) ?_
      refine Go.jial d_Law_act_125 rfl hj J2 (k := 4) (r := t) (j := 2) (by decide) (by first | assumption | omega) rfl (by first | decide | assumption | omega) ?_
      refine Go.goto (t := 130) d_Law_act_126 (by decide) ?_
      refine Go.icmp_ne (t := 137) d_Law_act_130 (by decide) rfl (fun w => absurd (rfl) w) (fun _ => ?_)
      refine Go.iconst (v := 1) d_Law_act_133 rfl (by decide) ?_
      refine Go.goto (t := 138) d_Law_act_134 (by decide) ?_
      exact Go.iret d_Law_act_138 rfl (ret_z (Or.inr rfl)) ⟨rfl, _, _, J2.upN (by omega)⟩
  refine Go.iload_2 d_Law_act_68 rfl ?_
  refine Go.iconst (v := 5) d_Law_act_69 rfl (by decide) ?_
  refine Go.ishr d_Law_act_70 rfl ?_
  refine Go.iconst (v := 2) d_Law_act_71 rfl (by decide) ?_
  refine Go.jbel d_Law_act_72 rfl l_Law_125 (n := 2) rfl (by first | decide | omega) (by first | decide | omega) rfl (fun y1 hy1 => ?_)
  refine Go.if_ne (t := 82) d_Law_act_75 (by decide) rfl (fun _ => ?_) (fun _ => ?_)
  · refine Go.iconst (v := 0) d_Law_act_82 rfl (by decide) ?_
    exact main 0
  · refine Go.iconst (v := 1) d_Law_act_78 rfl (by decide) ?_
    refine Go.goto (t := 83) d_Law_act_79 (by decide) ?_
    exact main 1
theorem d_Law_act_139 : decode M_Law_act.2.1 139 = .ok (.iload_n 2, 1) := by decide +kernel
theorem d_Law_act_140 : decode M_Law_act.2.1 140 = .ok (.iconst 5, 1) := by decide +kernel
theorem d_Law_act_141 : decode M_Law_act.2.1 141 = .ok (.ishr, 1) := by decide +kernel
theorem d_Law_act_142 : decode M_Law_act.2.1 142 = .ok (.aload_n 1, 1) := by decide +kernel
theorem d_Law_act_143 : decode M_Law_act.2.1 143 = .ok (.getfield 154, 3) := by decide +kernel
theorem d_Law_act_146 : decode M_Law_act.2.1 146 = .ok (.arraylength, 1) := by decide +kernel
theorem d_Law_act_147 : decode M_Law_act.2.1 147 = .ok (.invokestatic 125, 3) := by decide +kernel
theorem d_Law_act_150 : decode M_Law_act.2.1 150 = .ok (.istore 5, 2) := by decide +kernel
theorem d_Law_act_152 : decode M_Law_act.2.1 152 = .ok (.aload_n 1, 1) := by decide +kernel
theorem d_Law_act_153 : decode M_Law_act.2.1 153 = .ok (.iload_n 3, 1) := by decide +kernel
theorem d_Law_act_154 : decode M_Law_act.2.1 154 = .ok (.iload 5, 2) := by decide +kernel
theorem d_Law_act_156 : decode M_Law_act.2.1 156 = .ok (.invokevirtual 220, 3) := by decide +kernel
theorem d_Law_act_159 : decode M_Law_act.2.1 159 = .ok (.istore 6, 2) := by decide +kernel
theorem d_Law_act_161 : decode M_Law_act.2.1 161 = .ok (.aload_n 0, 1) := by decide +kernel
theorem d_Law_act_162 : decode M_Law_act.2.1 162 = .ok (.iload_n 3, 1) := by decide +kernel
theorem d_Law_act_163 : decode M_Law_act.2.1 163 = .ok (.iload 5, 2) := by decide +kernel
theorem d_Law_act_165 : decode M_Law_act.2.1 165 = .ok (.invokevirtual 224, 3) := by decide +kernel
theorem d_Law_act_168 : decode M_Law_act.2.1 168 = .ok (.istore 4, 2) := by decide +kernel
theorem d_Law_act_170 : decode M_Law_act.2.1 170 = .ok (.goto 8, 3) := by decide +kernel
theorem d_Law_act_173 : decode M_Law_act.2.1 173 = .ok (.astore 7, 2) := by decide +kernel
theorem d_Law_act_175 : decode M_Law_act.2.1 175 = .ok (.iconst (-1), 1) := by decide +kernel
theorem d_Law_act_176 : decode M_Law_act.2.1 176 = .ok (.istore 4, 2) := by decide +kernel
theorem d_Law_act_178 : decode M_Law_act.2.1 178 = .ok (.iload 4, 2) := by decide +kernel
theorem d_Law_act_180 : decode M_Law_act.2.1 180 = .ok (.iload 6, 2) := by decide +kernel
theorem d_Law_act_182 : decode M_Law_act.2.1 182 = .ok (.ifCond .eq 15, 3) := by decide +kernel
theorem d_Law_act_185 : decode M_Law_act.2.1 185 = .ok (.aload_n 1, 1) := by decide +kernel
theorem d_Law_act_186 : decode M_Law_act.2.1 186 = .ok (.getfield 154, 3) := by decide +kernel
theorem d_Law_act_189 : decode M_Law_act.2.1 189 = .ok (.iload 5, 2) := by decide +kernel
theorem d_Law_act_191 : decode M_Law_act.2.1 191 = .ok (.aaload, 1) := by decide +kernel
theorem d_Law_act_192 : decode M_Law_act.2.1 192 = .ok (.iconst 1, 1) := by decide +kernel
theorem d_Law_act_193 : decode M_Law_act.2.1 193 = .ok (.iaload, 1) := by decide +kernel
theorem d_Law_act_194 : decode M_Law_act.2.1 194 = .ok (.goto 4, 3) := by decide +kernel
theorem d_Law_act_197 : decode M_Law_act.2.1 197 = .ok (.iconst (-1), 1) := by decide +kernel
theorem d_Law_act_198 : decode M_Law_act.2.1 198 = .ok (.if_icmp .ne 7, 3) := by decide +kernel
theorem d_Law_act_201 : decode M_Law_act.2.1 201 = .ok (.iconst 1, 1) := by decide +kernel
theorem d_Law_act_202 : decode M_Law_act.2.1 202 = .ok (.goto 4, 3) := by decide +kernel
theorem d_Law_act_206 : decode M_Law_act.2.1 206 = .ok (.ireturn, 1) := by decide +kernel
set_option maxRecDepth 100000 in
set_option maxHeartbeats 4000000 in
theorem act_probe {Γ : G9} {A : AD} {c z0 z C S : Nat} {Y : SM} {N : Nat} {dg : Int64} {h h' : AH} {ms : Nat → Nat} (hj : AJ A c z0) (hJ : JW Γ A c Y Y N dg h h') (hms : MsOk Γ ms) (hth : ThOk Γ) (hN : N ≤ 900000) {x : Int32} {t : Nat} (ht : t < cn A 4) (hC : 2400 ≤ C) (hS : 16000 ≤ S) : Go Γ M_Law_act 9 C S 139 [some (.ref c), some (.ref (ad A 6 0)), some (.int x), some (.int (nI t)), none, none, none, none] [] h' z (ActQ Γ A c N h) noX := by
  obtain ⟨p0, p1, p2, p3, p4⟩ := aj_p hj
  refine Go.iload_2 d_Law_act_139 rfl ?_
  refine Go.iconst (v := 5) d_Law_act_140 rfl (by decide) ?_
  refine Go.ishr d_Law_act_141 rfl ?_
  refine Go.aload_1 d_Law_act_142 rfl ?_
  refine Go.getfield d_Law_act_143 rfl f_Law_154 (hJ.obj hj) rfl ?_
  refine Go.jal d_Law_act_146 rfl hj hJ (k := 2) (by decide) ?_
  refine Go.jbel d_Law_act_147 rfl l_Law_125 (n := (cn A 2)) rfl (by first | decide | omega) (by first | decide | omega) rfl (fun y1 hy1 => ?_)
  refine Go.istore_5 d_Law_act_150 rfl (by rfl) ?_
  refine Go.aload_1 d_Law_act_152 rfl ?_
  refine Go.iload_3 d_Law_act_153 rfl ?_
  refine Go.iload_5 d_Law_act_154 rfl ?_
  obtain ⟨k2, Jk2, ck2⟩ := j_sprobes hj hJ (t := t) (r := y1) (z := z) rfl rfl ht (by first | decide | assumption | omega)
  refine Go.cvR (as := [.int ((nI t)), .int ((nI y1))]) (rest := []) d_Law_act_156 rfl l_Law_220 k_Sim_probes_v rfl (hJ.ob hj) rfl rfl ck2 rfl rfl rfl ?_
  refine Go.istore_6 d_Law_act_159 rfl (by rfl) ?_
  refine Go.aload_0 d_Law_act_161 rfl ?_
  refine Go.iload_3 d_Law_act_162 rfl ?_
  refine Go.iload_5 d_Law_act_163 rfl ?_
  by_cases hq : (s_Sim_probes Y t y1).1 = 0
  · obtain ⟨m2, dg2, J2, w, -, hc⟩ := j_cprobe hj Jk2 hms hth (t := t) (r := y1) rfl rfl ht (by first | decide | assumption | omega)
    rw [if_pos hq] at hc
    refine Go.cvX (C1 := C - 4) (S1 := S - 24) (as := [.int ((nI t)), .int ((nI y1))]) (rest := []) d_Law_act_165 rfl l_Law_224 k_Camp_probe_v rfl (Jk2.cam hj) rfl rfl hc rfl rfl (by omega) (by omega) rfl (fun z9 _ hz9 => ?_) (fun w => absurd w (by decide))
    rw [show exn 3 = xIS from rfl]
    refine Go.catch [⟨94, 103, 106, 218⟩] ⟨161, 170, 173, 218⟩ [⟨228, 237, 240, 218⟩] rfl (fun y hy => Or.inl ((show ∀ y ∈ ([⟨94, 103, 106, 218⟩] : List ExceptionTableEntry), covers y 165 = false by decide) y hy)) (by decide) (by decide) lk_IS ca_IS (fun q9 => ?_)
    refine Go.astore_7 d_Law_act_173 rfl (by rfl) ?_
    refine Go.iconst (v := (-1)) d_Law_act_175 rfl (by decide) ?_
    refine Go.istore_4 d_Law_act_176 rfl (by rfl) ?_
    refine Go.iload_4 d_Law_act_178 rfl ?_
    refine Go.iload_6 d_Law_act_180 rfl ?_
    refine Go.if_eq (t := 197) d_Law_act_182 (by decide) rfl (fun _ => ?_) (fun w => absurd (hq) w)
    refine Go.iconst (v := (-1)) d_Law_act_197 rfl (by decide) ?_
    refine Go.icmp_ne (t := 205) d_Law_act_198 (by decide) rfl (fun w => absurd (rfl) w) (fun _ => ?_)
    refine Go.iconst (v := 1) d_Law_act_201 rfl (by decide) ?_
    refine Go.goto (t := 206) d_Law_act_202 (by decide) ?_
    exact Go.iret d_Law_act_206 rfl (ret_z (Or.inr rfl)) ⟨rfl, _, _, J2.upN (by omega)⟩
  · obtain ⟨m2, dg2, J2, w, hw, hc⟩ := j_cprobe hj Jk2 hms hth (t := t) (r := y1) rfl rfl ht (by first | decide | assumption | omega)
    rw [if_neg hq] at hc
    have hw := hw hq
    subst hw
    refine Go.cvX (C1 := C - 4) (S1 := S - 24) (as := [.int ((nI t)), .int ((nI y1))]) (rest := []) d_Law_act_165 rfl l_Law_224 k_Camp_probe_v rfl (Jk2.cam hj) rfl rfl hc rfl rfl (by omega) (by omega) rfl (fun z9 w => absurd rfl w) (fun _ => ?_)
    refine Go.istore_4 d_Law_act_168 rfl (by rfl) ?_
    refine Go.goto (t := 178) d_Law_act_170 (by decide) ?_
    refine Go.iload_4 d_Law_act_178 rfl ?_
    refine Go.iload_6 d_Law_act_180 rfl ?_
    refine Go.if_eq (t := 197) d_Law_act_182 (by decide) rfl (fun w => absurd w (hq)) (fun _ => ?_)
    refine Go.aload_1 d_Law_act_185 rfl ?_
    refine Go.getfield d_Law_act_186 rfl f_Law_154 (J2.obj hj) rfl ?_
    refine Go.iload_5 d_Law_act_189 rfl ?_
    refine Go.jaal d_Law_act_191 rfl hj J2 (k := 2) (r := y1) (by decide) rfl (by first | assumption | omega) ?_
    refine Go.iconst (v := 1) d_Law_act_192 rfl (by decide) ?_
    refine Go.jial d_Law_act_193 rfl hj J2 (k := 2) (r := y1) (j := 1) (by decide) (by first | assumption | omega) rfl (by first | decide | assumption | omega) ?_
    refine Go.goto (t := 198) d_Law_act_194 (by decide) ?_
    refine Go.icmp_ne (t := 205) d_Law_act_198 (by decide) rfl (fun w => absurd (rfl) w) (fun _ => ?_)
    refine Go.iconst (v := 1) d_Law_act_201 rfl (by decide) ?_
    refine Go.goto (t := 206) d_Law_act_202 (by decide) ?_
    exact Go.iret d_Law_act_206 rfl (ret_z (Or.inr rfl)) ⟨rfl, _, _, J2.upN (by omega)⟩
theorem d_Law_act_207 : decode M_Law_act.2.1 207 = .ok (.iconst 1, 1) := by decide +kernel
theorem d_Law_act_208 : decode M_Law_act.2.1 208 = .ok (.iload_n 2, 1) := by decide +kernel
theorem d_Law_act_209 : decode M_Law_act.2.1 209 = .ok (.iconst 4, 1) := by decide +kernel
theorem d_Law_act_210 : decode M_Law_act.2.1 210 = .ok (.ishr, 1) := by decide +kernel
theorem d_Law_act_211 : decode M_Law_act.2.1 211 = .ok (.bipush 40, 2) := by decide +kernel
theorem d_Law_act_213 : decode M_Law_act.2.1 213 = .ok (.invokestatic 125, 3) := by decide +kernel
theorem d_Law_act_216 : decode M_Law_act.2.1 216 = .ok (.iadd, 1) := by decide +kernel
theorem d_Law_act_217 : decode M_Law_act.2.1 217 = .ok (.istore 5, 2) := by decide +kernel
theorem d_Law_act_219 : decode M_Law_act.2.1 219 = .ok (.aload_n 1, 1) := by decide +kernel
theorem d_Law_act_220 : decode M_Law_act.2.1 220 = .ok (.iload_n 3, 1) := by decide +kernel
theorem d_Law_act_221 : decode M_Law_act.2.1 221 = .ok (.iload 5, 2) := by decide +kernel
theorem d_Law_act_223 : decode M_Law_act.2.1 223 = .ok (.invokevirtual 227, 3) := by decide +kernel
theorem d_Law_act_226 : decode M_Law_act.2.1 226 = .ok (.istore 6, 2) := by decide +kernel
theorem d_Law_act_228 : decode M_Law_act.2.1 228 = .ok (.aload_n 0, 1) := by decide +kernel
theorem d_Law_act_229 : decode M_Law_act.2.1 229 = .ok (.iload_n 3, 1) := by decide +kernel
theorem d_Law_act_230 : decode M_Law_act.2.1 230 = .ok (.iload 5, 2) := by decide +kernel
theorem d_Law_act_232 : decode M_Law_act.2.1 232 = .ok (.invokevirtual 230, 3) := by decide +kernel
theorem d_Law_act_235 : decode M_Law_act.2.1 235 = .ok (.istore 4, 2) := by decide +kernel
theorem d_Law_act_237 : decode M_Law_act.2.1 237 = .ok (.goto 8, 3) := by decide +kernel
theorem d_Law_act_240 : decode M_Law_act.2.1 240 = .ok (.astore 7, 2) := by decide +kernel
theorem d_Law_act_242 : decode M_Law_act.2.1 242 = .ok (.iconst 0, 1) := by decide +kernel
theorem d_Law_act_243 : decode M_Law_act.2.1 243 = .ok (.istore 4, 2) := by decide +kernel
theorem d_Law_act_245 : decode M_Law_act.2.1 245 = .ok (.iload 4, 2) := by decide +kernel
theorem d_Law_act_247 : decode M_Law_act.2.1 247 = .ok (.iload 6, 2) := by decide +kernel
theorem d_Law_act_249 : decode M_Law_act.2.1 249 = .ok (.if_icmp .ne 7, 3) := by decide +kernel
theorem d_Law_act_252 : decode M_Law_act.2.1 252 = .ok (.iconst 1, 1) := by decide +kernel
theorem d_Law_act_253 : decode M_Law_act.2.1 253 = .ok (.goto 4, 3) := by decide +kernel
theorem d_Law_act_257 : decode M_Law_act.2.1 257 = .ok (.ireturn, 1) := by decide +kernel
set_option maxRecDepth 100000 in
set_option maxHeartbeats 4000000 in
theorem act_fill {Γ : G9} {A : AD} {c z0 z C S : Nat} {Y : SM} {N : Nat} {dg : Int64} {h h' : AH} {ms : Nat → Nat} (hj : AJ A c z0) (hJ : JW Γ A c Y Y N dg h h') (hms : MsOk Γ ms) (hth : ThOk Γ) (hN : N ≤ 900000) {x : Int32} {t : Nat} (ht : t < cn A 4) (hC : 2400 ≤ C) (hS : 16000 ≤ S) : Go Γ M_Law_act 9 C S 207 [some (.ref c), some (.ref (ad A 6 0)), some (.int x), some (.int (nI t)), none, none, none, none] [] h' z (ActQ Γ A c N h) noX := by
  obtain ⟨p0, p1, p2, p3, p4⟩ := aj_p hj
  refine Go.iconst (v := 1) d_Law_act_207 rfl (by decide) ?_
  refine Go.iload_2 d_Law_act_208 rfl ?_
  refine Go.iconst (v := 4) d_Law_act_209 rfl (by decide) ?_
  refine Go.ishr d_Law_act_210 rfl ?_
  refine Go.bipush (v := 40) d_Law_act_211 rfl (by decide) ?_
  refine Go.jbel d_Law_act_213 rfl l_Law_125 (n := 40) rfl (by first | decide | omega) (by first | decide | omega) rfl (fun y1 hy1 => ?_)
  refine Go.iadd d_Law_act_216 rfl ?_
  rw [show (1 + (nI y1)) = nI (1 + y1) from nI_ad 1 y1]
  refine Go.istore_5 d_Law_act_217 rfl (by rfl) ?_
  refine Go.aload_1 d_Law_act_219 rfl ?_
  refine Go.iload_3 d_Law_act_220 rfl ?_
  refine Go.iload_5 d_Law_act_221 rfl ?_
  obtain ⟨k3, Jk3, ck3⟩ := j_sfills hj hJ (t := t) (x := (nI (1 + y1))) (z := z) rfl ht
  refine Go.cvR (as := [.int ((nI t)), .int ((nI (1 + y1)))]) (rest := []) d_Law_act_223 rfl l_Law_227 k_Sim_fills_v rfl (hJ.ob hj) rfl rfl ck3 rfl rfl rfl ?_
  refine Go.istore_6 d_Law_act_226 rfl (by rfl) ?_
  refine Go.aload_0 d_Law_act_228 rfl ?_
  refine Go.iload_3 d_Law_act_229 rfl ?_
  refine Go.iload_5 d_Law_act_230 rfl ?_
  by_cases hq : (s_Sim_fills A Y t (nI (1 + y1))).1 = 0
  · obtain ⟨m2, dg2, J2, w, -, hc⟩ := j_cfill hj Jk3 hms hth (t := t) (m := (1 + y1)) rfl rfl ht (by omega)
    rw [if_pos hq] at hc
    refine Go.cvX (C1 := C - 4) (S1 := S - 24) (as := [.int ((nI t)), .int ((nI (1 + y1)))]) (rest := []) d_Law_act_232 rfl l_Law_230 k_Camp_fill_v rfl (Jk3.cam hj) rfl rfl hc rfl rfl (by omega) (by omega) rfl (fun z9 _ hz9 => ?_) (fun w => absurd w (by decide))
    rw [show exn 3 = xIS from rfl]
    refine Go.catch [⟨94, 103, 106, 218⟩, ⟨161, 170, 173, 218⟩] ⟨228, 237, 240, 218⟩ [] rfl (fun y hy => Or.inl ((show ∀ y ∈ ([⟨94, 103, 106, 218⟩, ⟨161, 170, 173, 218⟩] : List ExceptionTableEntry), covers y 232 = false by decide) y hy)) (by decide) (by decide) lk_IS ca_IS (fun q9 => ?_)
    refine Go.astore_7 d_Law_act_240 rfl (by rfl) ?_
    refine Go.iconst (v := 0) d_Law_act_242 rfl (by decide) ?_
    refine Go.istore_4 d_Law_act_243 rfl (by rfl) ?_
    refine Go.iload_4 d_Law_act_245 rfl ?_
    refine Go.iload_6 d_Law_act_247 rfl ?_
    refine Go.icmp_ne (t := 256) d_Law_act_249 (by decide) rfl (fun w => absurd (hq.symm) w) (fun _ => ?_)
    refine Go.iconst (v := 1) d_Law_act_252 rfl (by decide) ?_
    refine Go.goto (t := 257) d_Law_act_253 (by decide) ?_
    exact Go.iret d_Law_act_257 rfl (ret_z (Or.inr rfl)) ⟨rfl, _, _, J2.upN (by omega)⟩
  · obtain ⟨m2, dg2, J2, w, hw, hc⟩ := j_cfill hj Jk3 hms hth (t := t) (m := (1 + y1)) rfl rfl ht (by omega)
    rw [if_neg hq] at hc
    have hw := hw hq
    subst hw
    refine Go.cvX (C1 := C - 4) (S1 := S - 24) (as := [.int ((nI t)), .int ((nI (1 + y1)))]) (rest := []) d_Law_act_232 rfl l_Law_230 k_Camp_fill_v rfl (Jk3.cam hj) rfl rfl hc rfl rfl (by omega) (by omega) rfl (fun z9 w => absurd rfl w) (fun _ => ?_)
    refine Go.istore_4 d_Law_act_235 rfl (by rfl) ?_
    refine Go.goto (t := 245) d_Law_act_237 (by decide) ?_
    refine Go.iload_4 d_Law_act_245 rfl ?_
    refine Go.iload_6 d_Law_act_247 rfl ?_
    refine Go.icmp_ne (t := 256) d_Law_act_249 (by decide) rfl (fun w => absurd (rfl) w) (fun _ => ?_)
    refine Go.iconst (v := 1) d_Law_act_252 rfl (by decide) ?_
    refine Go.goto (t := 257) d_Law_act_253 (by decide) ?_
    exact Go.iret d_Law_act_257 rfl (ret_z (Or.inr rfl)) ⟨rfl, _, _, J2.upN (by omega)⟩
theorem d_Law_act_427 : decode M_Law_act.2.1 427 = .ok (.iconst 1, 1) := by decide +kernel
theorem d_Law_act_428 : decode M_Law_act.2.1 428 = .ok (.iload_n 2, 1) := by decide +kernel
theorem d_Law_act_429 : decode M_Law_act.2.1 429 = .ok (.iconst 4, 1) := by decide +kernel
theorem d_Law_act_430 : decode M_Law_act.2.1 430 = .ok (.ishr, 1) := by decide +kernel
theorem d_Law_act_431 : decode M_Law_act.2.1 431 = .ok (.iload_n 2, 1) := by decide +kernel
theorem d_Law_act_432 : decode M_Law_act.2.1 432 = .ok (.bipush 7, 2) := by decide +kernel
theorem d_Law_act_434 : decode M_Law_act.2.1 434 = .ok (.ishr, 1) := by decide +kernel
theorem d_Law_act_435 : decode M_Law_act.2.1 435 = .ok (.iconst 5, 1) := by decide +kernel
theorem d_Law_act_436 : decode M_Law_act.2.1 436 = .ok (.invokestatic 125, 3) := by decide +kernel
theorem d_Law_act_439 : decode M_Law_act.2.1 439 = .ok (.ifCond .ne 8, 3) := by decide +kernel
theorem d_Law_act_442 : decode M_Law_act.2.1 442 = .ok (.bipush 12, 2) := by decide +kernel
theorem d_Law_act_444 : decode M_Law_act.2.1 444 = .ok (.goto 4, 3) := by decide +kernel
theorem d_Law_act_447 : decode M_Law_act.2.1 447 = .ok (.iconst 2, 1) := by decide +kernel
theorem d_Law_act_448 : decode M_Law_act.2.1 448 = .ok (.invokestatic 125, 3) := by decide +kernel
theorem d_Law_act_451 : decode M_Law_act.2.1 451 = .ok (.iadd, 1) := by decide +kernel
theorem d_Law_act_452 : decode M_Law_act.2.1 452 = .ok (.istore 5, 2) := by decide +kernel
theorem d_Law_act_454 : decode M_Law_act.2.1 454 = .ok (.aload_n 0, 1) := by decide +kernel
theorem d_Law_act_455 : decode M_Law_act.2.1 455 = .ok (.iload 5, 2) := by decide +kernel
theorem d_Law_act_457 : decode M_Law_act.2.1 457 = .ok (.invokevirtual 244, 3) := by decide +kernel
theorem d_Law_act_460 : decode M_Law_act.2.1 460 = .ok (.aload_n 1, 1) := by decide +kernel
theorem d_Law_act_461 : decode M_Law_act.2.1 461 = .ok (.iload 5, 2) := by decide +kernel
theorem d_Law_act_463 : decode M_Law_act.2.1 463 = .ok (.invokevirtual 247, 3) := by decide +kernel
theorem d_Law_act_466 : decode M_Law_act.2.1 466 = .ok (.if_icmp .ne 7, 3) := by decide +kernel
theorem d_Law_act_469 : decode M_Law_act.2.1 469 = .ok (.iconst 1, 1) := by decide +kernel
theorem d_Law_act_470 : decode M_Law_act.2.1 470 = .ok (.goto 4, 3) := by decide +kernel
theorem d_Law_act_474 : decode M_Law_act.2.1 474 = .ok (.ireturn, 1) := by decide +kernel
set_option maxRecDepth 100000 in
set_option maxHeartbeats 4000000 in
theorem act_pass {Γ : G9} {A : AD} {c z0 z C S : Nat} {Y : SM} {N : Nat} {dg : Int64} {h h' : AH} {ms : Nat → Nat} (hj : AJ A c z0) (hJ : JW Γ A c Y Y N dg h h') (hms : MsOk Γ ms) (hth : ThOk Γ) (hN : N ≤ 900000) {x : Int32} {t : Nat} (ht : t < cn A 4) (hC : 2400 ≤ C) (hS : 16000 ≤ S) : Go Γ M_Law_act 9 C S 427 [some (.ref c), some (.ref (ad A 6 0)), some (.int x), some (.int (nI t)), none, none, none, none] [] h' z (ActQ Γ A c N h) noX := by
  obtain ⟨p0, p1, p2, p3, p4⟩ := aj_p hj
  have main : ∀ n : Nat, 1 ≤ n → n ≤ 12 → Go Γ M_Law_act 9 C S 452 [some (.ref c), some (.ref (ad A 6 0)), some (.int x), some (.int (nI t)), none, none, none, none] [.int (nI n)] h' z (ActQ Γ A c N h) noX := by
    intro n hn1 hn2
    refine Go.istore_5 d_Law_act_452 rfl (by rfl) ?_
    refine Go.aload_0 d_Law_act_454 rfl ?_
    refine Go.iload_5 d_Law_act_455 rfl ?_
    obtain ⟨m2, dg2, J2, hc⟩ := j_cpass hj hJ hms hth hN (n := n) (z := z) rfl ⟨hn1, by omega⟩
    refine Go.cvT (C1 := C - 4) (S1 := S - 24) (as := [.int (nI n)]) (rest := []) d_Law_act_457 rfl l_Law_244 k_Camp_pass_v rfl (hJ.cam hj) rfl rfl hc rfl rfl (by omega) (by omega) rfl ?_
    have hiv := hJ.iv
    have hdy := hiv.2.2.2.2
    have hor := hiv.ords hj.1 (fun k hk => aj8 hj (by omega))
    refine Go.aload_1 d_Law_act_460 rfl ?_
    refine Go.iload_5 d_Law_act_461 rfl ?_
    obtain ⟨k4, Jk4, ck4⟩ := j_spass hj J2 (n := n) (z := z) rfl (by omega) hor (by omega)
    refine Go.cvH (C1 := 0) (S1 := 0) (as := [.int ((nI n))]) (rest := [.int ((s_Sim_pass A Y n).1)]) d_Law_act_463 rfl l_Law_247 k_Sim_pass_v rfl (J2.ob hj) rfl rfl ck4 rfl rfl (by omega) (by omega) rfl (fun zk4 hzk4 => ?_)
    refine Go.icmp_ne (t := 473) d_Law_act_466 (by decide) rfl (fun w => absurd (rfl) w) (fun _ => ?_)
    refine Go.iconst (v := 1) d_Law_act_469 rfl (by decide) ?_
    refine Go.goto (t := 474) d_Law_act_470 (by decide) ?_
    exact Go.iret d_Law_act_474 rfl (ret_z (Or.inr rfl)) ⟨rfl, _, _, Jk4.upN (by omega)⟩
  refine Go.iconst (v := 1) d_Law_act_427 rfl (by decide) ?_
  refine Go.iload_2 d_Law_act_428 rfl ?_
  refine Go.iconst (v := 4) d_Law_act_429 rfl (by decide) ?_
  refine Go.ishr d_Law_act_430 rfl ?_
  refine Go.iload_2 d_Law_act_431 rfl ?_
  refine Go.bipush (v := 7) d_Law_act_432 rfl (by decide) ?_
  refine Go.ishr d_Law_act_434 rfl ?_
  refine Go.iconst (v := 5) d_Law_act_435 rfl (by decide) ?_
  refine Go.jbel d_Law_act_436 rfl l_Law_125 (n := 5) rfl (by first | decide | omega) (by first | decide | omega) rfl (fun y1 hy1 => ?_)
  refine Go.if_ne (t := 447) d_Law_act_439 (by decide) rfl (fun _ => ?_) (fun _ => ?_)
  · refine Go.iconst (v := 2) d_Law_act_447 rfl (by decide) ?_
    refine Go.jbel d_Law_act_448 rfl l_Law_125 (n := 2) rfl (by first | decide | omega) (by first | decide | omega) rfl (fun y2 hy2 => ?_)
    refine Go.iadd d_Law_act_451 rfl ?_
    rw [show (1 + (nI y2)) = nI (1 + y2) from nI_ad 1 y2]
    exact main _ (by omega) (by omega)
  · refine Go.bipush (v := 12) d_Law_act_442 rfl (by decide) ?_
    refine Go.goto (t := 448) d_Law_act_444 (by decide) ?_
    refine Go.jbel d_Law_act_448 rfl l_Law_125 (n := 12) rfl (by first | decide | omega) (by first | decide | omega) rfl (fun y3 hy3 => ?_)
    refine Go.iadd d_Law_act_451 rfl ?_
    rw [show (1 + (nI y3)) = nI (1 + y3) from nI_ad 1 y3]
    exact main _ (by omega) (by omega)
theorem d_Law_act_258 : decode M_Law_act.2.1 258 = .ok (.iload_n 2, 1) := by decide +kernel
theorem d_Law_act_259 : decode M_Law_act.2.1 259 = .ok (.iconst 5, 1) := by decide +kernel
theorem d_Law_act_260 : decode M_Law_act.2.1 260 = .ok (.ishr, 1) := by decide +kernel
theorem d_Law_act_261 : decode M_Law_act.2.1 261 = .ok (.aload_n 1, 1) := by decide +kernel
theorem d_Law_act_262 : decode M_Law_act.2.1 262 = .ok (.getfield 163, 3) := by decide +kernel
theorem d_Law_act_265 : decode M_Law_act.2.1 265 = .ok (.arraylength, 1) := by decide +kernel
theorem d_Law_act_266 : decode M_Law_act.2.1 266 = .ok (.invokestatic 125, 3) := by decide +kernel
theorem d_Law_act_269 : decode M_Law_act.2.1 269 = .ok (.istore 5, 2) := by decide +kernel
theorem d_Law_act_271 : decode M_Law_act.2.1 271 = .ok (.iconst 1, 1) := by decide +kernel
theorem d_Law_act_272 : decode M_Law_act.2.1 272 = .ok (.iload_n 2, 1) := by decide +kernel
theorem d_Law_act_273 : decode M_Law_act.2.1 273 = .ok (.iconst 4, 1) := by decide +kernel
theorem d_Law_act_274 : decode M_Law_act.2.1 274 = .ok (.ishr, 1) := by decide +kernel
theorem d_Law_act_275 : decode M_Law_act.2.1 275 = .ok (.iload_n 2, 1) := by decide +kernel
theorem d_Law_act_276 : decode M_Law_act.2.1 276 = .ok (.bipush 7, 2) := by decide +kernel
theorem d_Law_act_278 : decode M_Law_act.2.1 278 = .ok (.ishr, 1) := by decide +kernel
theorem d_Law_act_279 : decode M_Law_act.2.1 279 = .ok (.iconst 3, 1) := by decide +kernel
theorem d_Law_act_280 : decode M_Law_act.2.1 280 = .ok (.invokestatic 125, 3) := by decide +kernel
theorem d_Law_act_283 : decode M_Law_act.2.1 283 = .ok (.ifCond .ne 9, 3) := by decide +kernel
theorem d_Law_act_286 : decode M_Law_act.2.1 286 = .ok (.sipush 200, 3) := by decide +kernel
theorem d_Law_act_289 : decode M_Law_act.2.1 289 = .ok (.goto 5, 3) := by decide +kernel
theorem d_Law_act_292 : decode M_Law_act.2.1 292 = .ok (.bipush 20, 2) := by decide +kernel
theorem d_Law_act_294 : decode M_Law_act.2.1 294 = .ok (.invokestatic 125, 3) := by decide +kernel
theorem d_Law_act_297 : decode M_Law_act.2.1 297 = .ok (.iadd, 1) := by decide +kernel
theorem d_Law_act_298 : decode M_Law_act.2.1 298 = .ok (.istore 6, 2) := by decide +kernel
theorem d_Law_act_300 : decode M_Law_act.2.1 300 = .ok (.aload_n 1, 1) := by decide +kernel
theorem d_Law_act_301 : decode M_Law_act.2.1 301 = .ok (.getfield 163, 3) := by decide +kernel
theorem d_Law_act_304 : decode M_Law_act.2.1 304 = .ok (.iload 5, 2) := by decide +kernel
theorem d_Law_act_306 : decode M_Law_act.2.1 306 = .ok (.aaload, 1) := by decide +kernel
theorem d_Law_act_307 : decode M_Law_act.2.1 307 = .ok (.iconst 1, 1) := by decide +kernel
theorem d_Law_act_308 : decode M_Law_act.2.1 308 = .ok (.sipush 999, 3) := by decide +kernel
theorem d_Law_act_311 : decode M_Law_act.2.1 311 = .ok (.aload_n 1, 1) := by decide +kernel
theorem d_Law_act_312 : decode M_Law_act.2.1 312 = .ok (.getfield 163, 3) := by decide +kernel
theorem d_Law_act_315 : decode M_Law_act.2.1 315 = .ok (.iload 5, 2) := by decide +kernel
theorem d_Law_act_317 : decode M_Law_act.2.1 317 = .ok (.aaload, 1) := by decide +kernel
theorem d_Law_act_318 : decode M_Law_act.2.1 318 = .ok (.iconst 1, 1) := by decide +kernel
theorem d_Law_act_319 : decode M_Law_act.2.1 319 = .ok (.iaload, 1) := by decide +kernel
theorem d_Law_act_320 : decode M_Law_act.2.1 320 = .ok (.iload 6, 2) := by decide +kernel
theorem d_Law_act_322 : decode M_Law_act.2.1 322 = .ok (.iadd, 1) := by decide +kernel
theorem d_Law_act_323 : decode M_Law_act.2.1 323 = .ok (.invokestatic 233, 3) := by decide +kernel
theorem d_Law_act_326 : decode M_Law_act.2.1 326 = .ok (.iastore, 1) := by decide +kernel
theorem d_Law_act_327 : decode M_Law_act.2.1 327 = .ok (.aload_n 0, 1) := by decide +kernel
theorem d_Law_act_328 : decode M_Law_act.2.1 328 = .ok (.iload 5, 2) := by decide +kernel
theorem d_Law_act_330 : decode M_Law_act.2.1 330 = .ok (.iload 6, 2) := by decide +kernel
theorem d_Law_act_332 : decode M_Law_act.2.1 332 = .ok (.invokevirtual 238, 3) := by decide +kernel
theorem d_Law_act_335 : decode M_Law_act.2.1 335 = .ok (.aload_n 1, 1) := by decide +kernel
theorem d_Law_act_336 : decode M_Law_act.2.1 336 = .ok (.getfield 163, 3) := by decide +kernel
theorem d_Law_act_339 : decode M_Law_act.2.1 339 = .ok (.iload 5, 2) := by decide +kernel
theorem d_Law_act_341 : decode M_Law_act.2.1 341 = .ok (.aaload, 1) := by decide +kernel
theorem d_Law_act_342 : decode M_Law_act.2.1 342 = .ok (.iconst 1, 1) := by decide +kernel
theorem d_Law_act_343 : decode M_Law_act.2.1 343 = .ok (.iaload, 1) := by decide +kernel
theorem d_Law_act_344 : decode M_Law_act.2.1 344 = .ok (.if_icmp .ne 7, 3) := by decide +kernel
theorem d_Law_act_347 : decode M_Law_act.2.1 347 = .ok (.iconst 1, 1) := by decide +kernel
theorem d_Law_act_348 : decode M_Law_act.2.1 348 = .ok (.goto 4, 3) := by decide +kernel
theorem d_Law_act_352 : decode M_Law_act.2.1 352 = .ok (.ireturn, 1) := by decide +kernel
set_option maxRecDepth 100000 in
set_option maxHeartbeats 4000000 in
theorem act_stock {Γ : G9} {A : AD} {c z0 z C S : Nat} {Y : SM} {N : Nat} {dg : Int64} {h h' : AH} {ms : Nat → Nat} (hj : AJ A c z0) (hJ : JW Γ A c Y Y N dg h h') (hms : MsOk Γ ms) (hth : ThOk Γ) (hN : N ≤ 900000) {x : Int32} {t : Nat} (ht : t < cn A 4) (hC : 2400 ≤ C) (hS : 16000 ≤ S) : Go Γ M_Law_act 9 C S 258 [some (.ref c), some (.ref (ad A 6 0)), some (.int x), some (.int (nI t)), none, none, none, none] [] h' z (ActQ Γ A c N h) noX := by
  obtain ⟨p0, p1, p2, p3, p4⟩ := aj_p hj
  have main : ∀ d n : Nat, d < cn A 3 → 1 ≤ n → n ≤ 200 → Go Γ M_Law_act 9 C S 298 [some (.ref c), some (.ref (ad A 6 0)), some (.int x), some (.int (nI t)), none, some (.int (nI d)), none, none] [.int (nI n)] h' z (ActQ Γ A c N h) noX := by
    intro d n hd hn1 hn2
    refine Go.istore_6 d_Law_act_298 rfl (by rfl) ?_
    refine Go.aload_1 d_Law_act_300 rfl ?_
    refine Go.getfield d_Law_act_301 rfl f_Law_163 (hJ.obj hj) rfl ?_
    refine Go.iload_5 d_Law_act_304 rfl ?_
    refine Go.jaal d_Law_act_306 rfl hj hJ (k := 3) (r := d) (by decide) rfl (by first | assumption | omega) ?_
    refine Go.iconst (v := 1) d_Law_act_307 rfl (by decide) ?_
    refine Go.sipush (v := 999) d_Law_act_308 rfl (by decide) ?_
    refine Go.aload_1 d_Law_act_311 rfl ?_
    refine Go.getfield d_Law_act_312 rfl f_Law_163 (hJ.obj hj) rfl ?_
    refine Go.iload_5 d_Law_act_315 rfl ?_
    refine Go.jaal d_Law_act_317 rfl hj hJ (k := 3) (r := d) (by decide) rfl (by first | assumption | omega) ?_
    refine Go.iconst (v := 1) d_Law_act_318 rfl (by decide) ?_
    refine Go.jial d_Law_act_319 rfl hj hJ (k := 3) (r := d) (j := 1) (by decide) (by first | assumption | omega) rfl (by first | decide | assumption | omega) ?_
    refine Go.iload_6 d_Law_act_320 rfl ?_
    refine Go.iadd d_Law_act_322 rfl ?_
    refine Go.mmin d_Law_act_323 rfl l_Law_233 (by decide) rfl ?_
    refine Go.jias d_Law_act_326 rfl hj hJ (k := 3) (r := d) (j := 1) (x := iMin 999 ((sm_v Y 3 d 1) + (nI n))) (by decide) hd rfl (by decide) (fun k1 J1 => ?_)
    refine Go.aload_0 d_Law_act_327 rfl ?_
    refine Go.iload_5 d_Law_act_328 rfl ?_
    refine Go.iload_6 d_Law_act_330 rfl ?_
    obtain ⟨m2, dg2, J2, hc⟩ := j_cstock hj J1 hms hth (r := d) (m := n) (z := z) rfl rfl hd ⟨hn1, hn2⟩
    refine Go.cvT (C1 := C - 4) (S1 := S - 24) (as := [.int (nI d), .int (nI n)]) (rest := []) d_Law_act_332 rfl l_Law_238 k_Camp_stock_v rfl (J1.cam hj) rfl rfl hc rfl rfl (by omega) (by omega) rfl ?_
    refine Go.aload_1 d_Law_act_335 rfl ?_
    refine Go.getfield d_Law_act_336 rfl f_Law_163 (J2.obj hj) rfl ?_
    refine Go.iload_5 d_Law_act_339 rfl ?_
    refine Go.jaal d_Law_act_341 rfl hj J2 (k := 3) (r := d) (by decide) rfl (by first | assumption | omega) ?_
    refine Go.iconst (v := 1) d_Law_act_342 rfl (by decide) ?_
    refine Go.jial d_Law_act_343 rfl hj J2 (k := 3) (r := d) (j := 1) (by decide) (by first | assumption | omega) rfl (by first | decide | assumption | omega) ?_
    refine Go.icmp_ne (t := 351) d_Law_act_344 (by decide) rfl (fun w => absurd (sm_v_at.symm) w) (fun _ => ?_)
    refine Go.iconst (v := 1) d_Law_act_347 rfl (by decide) ?_
    refine Go.goto (t := 352) d_Law_act_348 (by decide) ?_
    exact Go.iret d_Law_act_352 rfl (ret_z (Or.inr rfl)) ⟨rfl, _, _, J2.upN (by omega)⟩
  refine Go.iload_2 d_Law_act_258 rfl ?_
  refine Go.iconst (v := 5) d_Law_act_259 rfl (by decide) ?_
  refine Go.ishr d_Law_act_260 rfl ?_
  refine Go.aload_1 d_Law_act_261 rfl ?_
  refine Go.getfield d_Law_act_262 rfl f_Law_163 (hJ.obj hj) rfl ?_
  refine Go.jal d_Law_act_265 rfl hj hJ (k := 3) (by decide) ?_
  refine Go.jbel d_Law_act_266 rfl l_Law_125 (n := (cn A 3)) rfl (by first | decide | omega) (by first | decide | omega) rfl (fun y1 hy1 => ?_)
  refine Go.istore_5 d_Law_act_269 rfl (by rfl) ?_
  refine Go.iconst (v := 1) d_Law_act_271 rfl (by decide) ?_
  refine Go.iload_2 d_Law_act_272 rfl ?_
  refine Go.iconst (v := 4) d_Law_act_273 rfl (by decide) ?_
  refine Go.ishr d_Law_act_274 rfl ?_
  refine Go.iload_2 d_Law_act_275 rfl ?_
  refine Go.bipush (v := 7) d_Law_act_276 rfl (by decide) ?_
  refine Go.ishr d_Law_act_278 rfl ?_
  refine Go.iconst (v := 3) d_Law_act_279 rfl (by decide) ?_
  refine Go.jbel d_Law_act_280 rfl l_Law_125 (n := 3) rfl (by first | decide | omega) (by first | decide | omega) rfl (fun y2 hy2 => ?_)
  refine Go.if_ne (t := 292) d_Law_act_283 (by decide) rfl (fun _ => ?_) (fun _ => ?_)
  · refine Go.bipush (v := 20) d_Law_act_292 rfl (by decide) ?_
    refine Go.jbel d_Law_act_294 rfl l_Law_125 (n := 20) rfl (by first | decide | omega) (by first | decide | omega) rfl (fun y3 hy3 => ?_)
    refine Go.iadd d_Law_act_297 rfl ?_
    rw [show (1 + (nI y3)) = nI (1 + y3) from nI_ad 1 y3]
    exact main y1 _ (by first | decide | assumption | omega) (by omega) (by omega)
  · refine Go.sipush (v := 200) d_Law_act_286 rfl (by decide) ?_
    refine Go.goto (t := 294) d_Law_act_289 (by decide) ?_
    refine Go.jbel d_Law_act_294 rfl l_Law_125 (n := 200) rfl (by first | decide | omega) (by first | decide | omega) rfl (fun y4 hy4 => ?_)
    refine Go.iadd d_Law_act_297 rfl ?_
    rw [show (1 + (nI y4)) = nI (1 + y4) from nI_ad 1 y4]
    exact main y1 _ (by first | decide | assumption | omega) (by omega) (by omega)
theorem d_Law_act_353 : decode M_Law_act.2.1 353 = .ok (.iload_n 2, 1) := by decide +kernel
theorem d_Law_act_354 : decode M_Law_act.2.1 354 = .ok (.iconst 4, 1) := by decide +kernel
theorem d_Law_act_355 : decode M_Law_act.2.1 355 = .ok (.ishr, 1) := by decide +kernel
theorem d_Law_act_356 : decode M_Law_act.2.1 356 = .ok (.bipush 8, 2) := by decide +kernel
theorem d_Law_act_358 : decode M_Law_act.2.1 358 = .ok (.invokestatic 125, 3) := by decide +kernel
theorem d_Law_act_361 : decode M_Law_act.2.1 361 = .ok (.istore 5, 2) := by decide +kernel
theorem d_Law_act_363 : decode M_Law_act.2.1 363 = .ok (.aload_n 1, 1) := by decide +kernel
theorem d_Law_act_364 : decode M_Law_act.2.1 364 = .ok (.getfield 177, 3) := by decide +kernel
theorem d_Law_act_367 : decode M_Law_act.2.1 367 = .ok (.iload 5, 2) := by decide +kernel
theorem d_Law_act_369 : decode M_Law_act.2.1 369 = .ok (.iaload, 1) := by decide +kernel
theorem d_Law_act_370 : decode M_Law_act.2.1 370 = .ok (.istore 6, 2) := by decide +kernel
theorem d_Law_act_372 : decode M_Law_act.2.1 372 = .ok (.aload_n 1, 1) := by decide +kernel
theorem d_Law_act_373 : decode M_Law_act.2.1 373 = .ok (.getfield 177, 3) := by decide +kernel
theorem d_Law_act_376 : decode M_Law_act.2.1 376 = .ok (.iload 5, 2) := by decide +kernel
theorem d_Law_act_378 : decode M_Law_act.2.1 378 = .ok (.iload_n 2, 1) := by decide +kernel
theorem d_Law_act_379 : decode M_Law_act.2.1 379 = .ok (.bipush 6, 2) := by decide +kernel
theorem d_Law_act_381 : decode M_Law_act.2.1 381 = .ok (.ishr, 1) := by decide +kernel
theorem d_Law_act_382 : decode M_Law_act.2.1 382 = .ok (.iload_n 2, 1) := by decide +kernel
theorem d_Law_act_383 : decode M_Law_act.2.1 383 = .ok (.iconst 5, 1) := by decide +kernel
theorem d_Law_act_384 : decode M_Law_act.2.1 384 = .ok (.ishr, 1) := by decide +kernel
theorem d_Law_act_385 : decode M_Law_act.2.1 385 = .ok (.iconst 2, 1) := by decide +kernel
theorem d_Law_act_386 : decode M_Law_act.2.1 386 = .ok (.invokestatic 125, 3) := by decide +kernel
theorem d_Law_act_389 : decode M_Law_act.2.1 389 = .ok (.ifCond .ne 8, 3) := by decide +kernel
theorem d_Law_act_392 : decode M_Law_act.2.1 392 = .ok (.bipush 9, 2) := by decide +kernel
theorem d_Law_act_394 : decode M_Law_act.2.1 394 = .ok (.goto 5, 3) := by decide +kernel
theorem d_Law_act_397 : decode M_Law_act.2.1 397 = .ok (.bipush 31, 2) := by decide +kernel
theorem d_Law_act_399 : decode M_Law_act.2.1 399 = .ok (.invokestatic 125, 3) := by decide +kernel
theorem d_Law_act_402 : decode M_Law_act.2.1 402 = .ok (.iastore, 1) := by decide +kernel
theorem d_Law_act_403 : decode M_Law_act.2.1 403 = .ok (.aload_n 0, 1) := by decide +kernel
theorem d_Law_act_404 : decode M_Law_act.2.1 404 = .ok (.iload 5, 2) := by decide +kernel
theorem d_Law_act_406 : decode M_Law_act.2.1 406 = .ok (.aload_n 1, 1) := by decide +kernel
theorem d_Law_act_407 : decode M_Law_act.2.1 407 = .ok (.getfield 177, 3) := by decide +kernel
theorem d_Law_act_410 : decode M_Law_act.2.1 410 = .ok (.iload 5, 2) := by decide +kernel
theorem d_Law_act_412 : decode M_Law_act.2.1 412 = .ok (.iaload, 1) := by decide +kernel
theorem d_Law_act_413 : decode M_Law_act.2.1 413 = .ok (.invokevirtual 241, 3) := by decide +kernel
theorem d_Law_act_416 : decode M_Law_act.2.1 416 = .ok (.iload 6, 2) := by decide +kernel
theorem d_Law_act_418 : decode M_Law_act.2.1 418 = .ok (.if_icmp .ne 7, 3) := by decide +kernel
theorem d_Law_act_421 : decode M_Law_act.2.1 421 = .ok (.iconst 1, 1) := by decide +kernel
theorem d_Law_act_422 : decode M_Law_act.2.1 422 = .ok (.goto 4, 3) := by decide +kernel
theorem d_Law_act_426 : decode M_Law_act.2.1 426 = .ok (.ireturn, 1) := by decide +kernel
set_option maxRecDepth 100000 in
set_option maxHeartbeats 4000000 in
theorem act_warm {Γ : G9} {A : AD} {c z0 z C S : Nat} {Y : SM} {N : Nat} {dg : Int64} {h h' : AH} {ms : Nat → Nat} (hj : AJ A c z0) (hJ : JW Γ A c Y Y N dg h h') (hms : MsOk Γ ms) (hth : ThOk Γ) (hN : N ≤ 900000) {x : Int32} {t : Nat} (ht : t < cn A 4) (hC : 2400 ≤ C) (hS : 16000 ≤ S) : Go Γ M_Law_act 9 C S 353 [some (.ref c), some (.ref (ad A 6 0)), some (.int x), some (.int (nI t)), none, none, none, none] [] h' z (ActQ Γ A c N h) noX := by
  obtain ⟨p0, p1, p2, p3, p4⟩ := aj_p hj
  have main : ∀ j n : Nat, j < 8 → n ≤ 30 → Go Γ M_Law_act 9 C S 402 [some (.ref c), some (.ref (ad A 6 0)), some (.int x), some (.int (nI t)), none, some (.int (nI j)), some (.int (sm_wa Y j)), none] [.int (nI n), .int (nI j), .ref (ad A 7 0)] h' z (ActQ Γ A c N h) noX := by
    intro j n hj8 hn2
    refine Go.jwas d_Law_act_402 rfl hj hJ (j := j) (x := nI n) rfl hj8 (fun k1 J1 => ?_)
    refine Go.aload_0 d_Law_act_403 rfl ?_
    refine Go.iload_5 d_Law_act_404 rfl ?_
    refine Go.aload_1 d_Law_act_406 rfl ?_
    refine Go.getfield d_Law_act_407 rfl f_Law_177 (J1.obj hj) rfl ?_
    refine Go.iload_5 d_Law_act_410 rfl ?_
    refine Go.jwal d_Law_act_412 rfl hj J1 (j := j) rfl (by first | assumption | omega) ?_
    rw [show sm_wa (sm_wa' Y (upd (sm_wa Y) j (nI n))) j = nI n from upd_at _ _ _]
    obtain ⟨m2, dg2, J2, hc⟩ := j_cwarm hj J1 hms hth (r := j) (m := n) (z := z) rfl rfl hj8 hn2
    refine Go.cvT (C1 := C - 4) (S1 := S - 24) (as := [.int (nI j), .int (nI n)]) (rest := []) d_Law_act_413 rfl l_Law_241 k_Camp_setWarm_v rfl (J1.cam hj) rfl rfl hc rfl rfl (by omega) (by omega) rfl ?_
    refine Go.iload_6 d_Law_act_416 rfl ?_
    refine Go.icmp_ne (t := 425) d_Law_act_418 (by decide) rfl (fun w => absurd (rfl) w) (fun _ => ?_)
    refine Go.iconst (v := 1) d_Law_act_421 rfl (by decide) ?_
    refine Go.goto (t := 426) d_Law_act_422 (by decide) ?_
    exact Go.iret d_Law_act_426 rfl (ret_z (Or.inr rfl)) ⟨rfl, _, _, J2.upN (by omega)⟩
  refine Go.iload_2 d_Law_act_353 rfl ?_
  refine Go.iconst (v := 4) d_Law_act_354 rfl (by decide) ?_
  refine Go.ishr d_Law_act_355 rfl ?_
  refine Go.bipush (v := 8) d_Law_act_356 rfl (by decide) ?_
  refine Go.jbel d_Law_act_358 rfl l_Law_125 (n := 8) rfl (by first | decide | omega) (by first | decide | omega) rfl (fun y1 hy1 => ?_)
  refine Go.istore_5 d_Law_act_361 rfl (by rfl) ?_
  refine Go.aload_1 d_Law_act_363 rfl ?_
  refine Go.getfield d_Law_act_364 rfl f_Law_177 (hJ.obj hj) rfl ?_
  refine Go.iload_5 d_Law_act_367 rfl ?_
  refine Go.jwal d_Law_act_369 rfl hj hJ (j := y1) rfl (by first | assumption | omega) ?_
  refine Go.istore_6 d_Law_act_370 rfl (by rfl) ?_
  refine Go.aload_1 d_Law_act_372 rfl ?_
  refine Go.getfield d_Law_act_373 rfl f_Law_177 (hJ.obj hj) rfl ?_
  refine Go.iload_5 d_Law_act_376 rfl ?_
  refine Go.iload_2 d_Law_act_378 rfl ?_
  refine Go.bipush (v := 6) d_Law_act_379 rfl (by decide) ?_
  refine Go.ishr d_Law_act_381 rfl ?_
  refine Go.iload_2 d_Law_act_382 rfl ?_
  refine Go.iconst (v := 5) d_Law_act_383 rfl (by decide) ?_
  refine Go.ishr d_Law_act_384 rfl ?_
  refine Go.iconst (v := 2) d_Law_act_385 rfl (by decide) ?_
  refine Go.jbel d_Law_act_386 rfl l_Law_125 (n := 2) rfl (by first | decide | omega) (by first | decide | omega) rfl (fun y2 hy2 => ?_)
  refine Go.if_ne (t := 397) d_Law_act_389 (by decide) rfl (fun _ => ?_) (fun _ => ?_)
  · refine Go.bipush (v := 31) d_Law_act_397 rfl (by decide) ?_
    refine Go.jbel d_Law_act_399 rfl l_Law_125 (n := 31) rfl (by first | decide | omega) (by first | decide | omega) rfl (fun y3 hy3 => ?_)
    exact main y1 _ (by omega) (by omega)
  · refine Go.bipush (v := 9) d_Law_act_392 rfl (by decide) ?_
    refine Go.goto (t := 399) d_Law_act_394 (by decide) ?_
    refine Go.jbel d_Law_act_399 rfl l_Law_125 (n := 9) rfl (by first | decide | omega) (by first | decide | omega) rfl (fun y4 hy4 => ?_)
    exact main y1 _ (by omega) (by omega)
theorem d_Law_act_0 : decode M_Law_act.2.1 0 = .ok (.iload_n 2, 1) := by decide +kernel
theorem d_Law_act_1 : decode M_Law_act.2.1 1 = .ok (.iconst 3, 1) := by decide +kernel
theorem d_Law_act_2 : decode M_Law_act.2.1 2 = .ok (.ishr, 1) := by decide +kernel
theorem d_Law_act_3 : decode M_Law_act.2.1 3 = .ok (.aload_n 1, 1) := by decide +kernel
theorem d_Law_act_4 : decode M_Law_act.2.1 4 = .ok (.getfield 170, 3) := by decide +kernel
theorem d_Law_act_7 : decode M_Law_act.2.1 7 = .ok (.arraylength, 1) := by decide +kernel
theorem d_Law_act_8 : decode M_Law_act.2.1 8 = .ok (.invokestatic 125, 3) := by decide +kernel
theorem d_Law_act_11 : decode M_Law_act.2.1 11 = .ok (.istore_n 3, 1) := by decide +kernel
theorem d_Law_act_12 : decode M_Law_act.2.1 12 = .ok (.iload_n 2, 1) := by decide +kernel
theorem d_Law_act_13 : decode M_Law_act.2.1 13 = .ok (.bipush 14, 2) := by decide +kernel
theorem d_Law_act_15 : decode M_Law_act.2.1 15 = .ok (.invokestatic 125, 3) := by decide +kernel
theorem d_Law_act_18 : decode M_Law_act.2.1 18 = .ok (.tableswitch 409 0 8 #[50, 50, 50, 121, 121, 189, 189, 240, 335], 50) := by decide +kernel
set_option maxRecDepth 100000 in
set_option maxHeartbeats 4000000 in
theorem c_act {Γ : G9} {A : AD} {c z0 z : Nat} {Y : SM} {N : Nat} {dg : Int64} {h h' : AH} {ms : Nat → Nat} (hj : AJ A c z0) (hJ : JW Γ A c Y Y N dg h h') (hms : MsOk Γ ms) (hth : ThOk Γ) (hN : N ≤ 900000) {x : Int32} : Call Γ M_Law_act 9 2400 16000 [.ref c, .ref (ad A 6 0), .int x] h' z (ActQ Γ A c N h) noX := by
  obtain ⟨p0, p1, p2, p3, p4⟩ := aj_p hj
  refine Call.of_go (L := [some (.ref c), some (.ref (ad A 6 0)), some (.int x), none, none, none, none, none]) (by decide +kernel) rfl (by exact Nat.le_of_ble_eq_true rfl) ?_
  refine Go.iload_2 d_Law_act_0 rfl ?_
  refine Go.iconst (v := 3) d_Law_act_1 rfl (by decide) ?_
  refine Go.ishr d_Law_act_2 rfl ?_
  refine Go.aload_1 d_Law_act_3 rfl ?_
  refine Go.getfield d_Law_act_4 rfl f_Law_170 (hJ.obj hj) rfl ?_
  refine Go.jal d_Law_act_7 rfl hj hJ (k := 4) (by decide) ?_
  refine Go.jbel d_Law_act_8 rfl l_Law_125 (n := (cn A 4)) rfl (by first | decide | omega) (by first | decide | omega) rfl (fun y1 hy1 => ?_)
  refine Go.istore_3 d_Law_act_11 rfl (by rfl) ?_
  refine Go.iload_2 d_Law_act_12 rfl ?_
  refine Go.bipush (v := 14) d_Law_act_13 rfl (by decide) ?_
  refine Go.jbel d_Law_act_15 rfl l_Law_125 (n := 14) rfl (by first | decide | omega) (by first | decide | omega) rfl (fun y2 hy2 => ?_)
  rcases (show y2 = 0 ∨ y2 = 1 ∨ y2 = 2 ∨ y2 = 3 ∨ y2 = 4 ∨ y2 = 5 ∨ y2 = 6 ∨ y2 = 7 ∨ y2 = 8 ∨ y2 = 9 ∨ y2 = 10 ∨ y2 = 11 ∨ y2 = 12 ∨ y2 = 13 by omega) with e | e | e | e | e | e | e | e | e | e | e | e | e | e <;> rw [e]
  · refine Go.tsw (t := 68) d_Law_act_18 rfl ?_
    exact act_go hj hJ hms hth hN (t := y1) (by first | decide | assumption | omega) (by omega) (by omega)
  · refine Go.tsw (t := 68) d_Law_act_18 rfl ?_
    exact act_go hj hJ hms hth hN (t := y1) (by first | decide | assumption | omega) (by omega) (by omega)
  · refine Go.tsw (t := 68) d_Law_act_18 rfl ?_
    exact act_go hj hJ hms hth hN (t := y1) (by first | decide | assumption | omega) (by omega) (by omega)
  · refine Go.tsw (t := 139) d_Law_act_18 rfl ?_
    exact act_probe hj hJ hms hth hN (t := y1) (by first | decide | assumption | omega) (by omega) (by omega)
  · refine Go.tsw (t := 139) d_Law_act_18 rfl ?_
    exact act_probe hj hJ hms hth hN (t := y1) (by first | decide | assumption | omega) (by omega) (by omega)
  · refine Go.tsw (t := 207) d_Law_act_18 rfl ?_
    exact act_fill hj hJ hms hth hN (t := y1) (by first | decide | assumption | omega) (by omega) (by omega)
  · refine Go.tsw (t := 207) d_Law_act_18 rfl ?_
    exact act_fill hj hJ hms hth hN (t := y1) (by first | decide | assumption | omega) (by omega) (by omega)
  · refine Go.tsw (t := 258) d_Law_act_18 rfl ?_
    exact act_stock hj hJ hms hth hN (t := y1) (by first | decide | assumption | omega) (by omega) (by omega)
  · refine Go.tsw (t := 353) d_Law_act_18 rfl ?_
    exact act_warm hj hJ hms hth hN (t := y1) (by first | decide | assumption | omega) (by omega) (by omega)
  · refine Go.tsw (t := 427) d_Law_act_18 rfl ?_
    exact act_pass hj hJ hms hth hN (t := y1) (by first | decide | assumption | omega) (by omega) (by omega)
  · refine Go.tsw (t := 427) d_Law_act_18 rfl ?_
    exact act_pass hj hJ hms hth hN (t := y1) (by first | decide | assumption | omega) (by omega) (by omega)
  · refine Go.tsw (t := 427) d_Law_act_18 rfl ?_
    exact act_pass hj hJ hms hth hN (t := y1) (by first | decide | assumption | omega) (by omega) (by omega)
  · refine Go.tsw (t := 427) d_Law_act_18 rfl ?_
    exact act_pass hj hJ hms hth hN (t := y1) (by first | decide | assumption | omega) (by omega) (by omega)
  · refine Go.tsw (t := 427) d_Law_act_18 rfl ?_
    exact act_pass hj hJ hms hth hN (t := y1) (by first | decide | assumption | omega) (by omega) (by omega)
