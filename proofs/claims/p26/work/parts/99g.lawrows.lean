/-! the law: the rows that it keeps of the bands -/
abbrev M_law : MI := (x, code, 31, ret, [])
section Lw
variable {Γ : G9} {A : AD} {c z0 z sa it : Nat} {Y : SM} {N : Nat} {dg : Int64} {h h' : AH} {ms : Nat → Nat} {Q : QT} {X : XT} {w8 : Int32}
theorem IV.b0 (h : IV A Y N) {r : Nat} (hr : r < cn A 0) : ∃ e s i : Nat, sm_v Y 0 r 0 = nI e ∧ e ≤ 30 ∧ sm_v Y 0 r 1 = nI s ∧ s ≤ 300 ∧ sm_v Y 0 r 2 = nI i ∧ i ≤ 100 * N := by
  obtain ⟨⟨e, e1, e2⟩, ⟨s, s1, s2⟩, i, i1, i2⟩ := h.1.2 0 r (by decide) hr
  exact ⟨e, s, i, e1, e2, s1, s2, i1, i2⟩
abbrev mel (Y : SM) (r : Nat) : Int32 := 3 * iMax 0 (sm_wa Y (sm_dy Y % 8) - sm_v Y 0 r 0)
def BR (A : AD) (Y : SM) (n : Nat) (f1 f2 f3 : Nat → Int32) : Prop := ∀ r, r < n → f1 r = mel Y r ∧ f2 r = sm_v Y 0 r 1 ∧ f3 r = sm_v Y 0 r 2
def RW3 (Γ : G9) (A : AD) (Y : SM) (z0 : Nat) (h : AH) (a1 a2 a3 : Nat) : Prop := z0 ≤ a1 ∧ z0 ≤ a2 ∧ z0 ≤ a3 ∧ ∃ f1 f2 f3, h a1 = some (aI Γ (cn A 0) f1) ∧ h a2 = some (aI Γ (cn A 0) f2) ∧ h a3 = some (aI Γ (cn A 0) f3) ∧ BR A Y (cn A 0) f1 f2 f3
theorem RW3.of {h2 : AH} {a1 a2 a3 : Nat} (hr : RW3 Γ A Y z0 h a1 a2 a3) (he : ∀ a e, h a = some e → a ≠ z → h2 a = some e) (hn : h z = none) : RW3 Γ A Y z0 h2 a1 a2 a3 := by
  obtain ⟨g1, g2, g3, f1, f2, f3, h1, h4, h3, hb⟩ := hr
  have k : ∀ a e, h a = some e → a ≠ z := fun a e ha w => by rw [w, hn] at ha; cases ha
  exact ⟨g1, g2, g3, f1, f2, f3, he _ _ h1 (k _ _ h1), he _ _ h4 (k _ _ h4), he _ _ h3 (k _ _ h3), hb⟩
theorem d_law_124 : decode M_law.2.1 124 = .ok (.iload 14, 2) := by decide +kernel
theorem d_law_126 : decode M_law.2.1 126 = .ok (.iload 4, 2) := by decide +kernel
theorem d_law_128 : decode M_law.2.1 128 = .ok (.if_icmp .ge 102, 3) := by decide +kernel
theorem d_law_131 : decode M_law.2.1 131 = .ok (.aload 11, 2) := by decide +kernel
theorem d_law_133 : decode M_law.2.1 133 = .ok (.iload 14, 2) := by decide +kernel
theorem d_law_135 : decode M_law.2.1 135 = .ok (.aload_n 1, 1) := by decide +kernel
theorem d_law_136 : decode M_law.2.1 136 = .ok (.iload 14, 2) := by decide +kernel
theorem d_law_138 : decode M_law.2.1 138 = .ok (.iconst 1, 1) := by decide +kernel
theorem d_law_139 : decode M_law.2.1 139 = .ok (.invokevirtual 268, 3) := by decide +kernel
theorem d_law_142 : decode M_law.2.1 142 = .ok (.iastore, 1) := by decide +kernel
theorem d_law_143 : decode M_law.2.1 143 = .ok (.aload 12, 2) := by decide +kernel
theorem d_law_145 : decode M_law.2.1 145 = .ok (.iload 14, 2) := by decide +kernel
theorem d_law_147 : decode M_law.2.1 147 = .ok (.aload_n 1, 1) := by decide +kernel
theorem d_law_148 : decode M_law.2.1 148 = .ok (.iload 14, 2) := by decide +kernel
theorem d_law_150 : decode M_law.2.1 150 = .ok (.iconst 1, 1) := by decide +kernel
theorem d_law_151 : decode M_law.2.1 151 = .ok (.invokevirtual 271, 3) := by decide +kernel
theorem d_law_154 : decode M_law.2.1 154 = .ok (.iastore, 1) := by decide +kernel
theorem d_law_155 : decode M_law.2.1 155 = .ok (.aload 13, 2) := by decide +kernel
theorem d_law_157 : decode M_law.2.1 157 = .ok (.iload 14, 2) := by decide +kernel
theorem d_law_159 : decode M_law.2.1 159 = .ok (.aload_n 1, 1) := by decide +kernel
theorem d_law_160 : decode M_law.2.1 160 = .ok (.iload 14, 2) := by decide +kernel
theorem d_law_162 : decode M_law.2.1 162 = .ok (.iconst 2, 1) := by decide +kernel
theorem d_law_163 : decode M_law.2.1 163 = .ok (.invokevirtual 271, 3) := by decide +kernel
theorem d_law_166 : decode M_law.2.1 166 = .ok (.iastore, 1) := by decide +kernel
theorem d_law_167 : decode M_law.2.1 167 = .ok (.aload 12, 2) := by decide +kernel
theorem d_law_169 : decode M_law.2.1 169 = .ok (.iload 14, 2) := by decide +kernel
theorem d_law_171 : decode M_law.2.1 171 = .ok (.iaload, 1) := by decide +kernel
theorem d_law_172 : decode M_law.2.1 172 = .ok (.ifCond .lt 50, 3) := by decide +kernel
theorem d_law_175 : decode M_law.2.1 175 = .ok (.aload 12, 2) := by decide +kernel
theorem d_law_177 : decode M_law.2.1 177 = .ok (.iload 14, 2) := by decide +kernel
theorem d_law_179 : decode M_law.2.1 179 = .ok (.iaload, 1) := by decide +kernel
theorem d_law_180 : decode M_law.2.1 180 = .ok (.sipush 300, 3) := by decide +kernel
theorem d_law_183 : decode M_law.2.1 183 = .ok (.if_icmp .gt 39, 3) := by decide +kernel
theorem d_law_186 : decode M_law.2.1 186 = .ok (.aload 13, 2) := by decide +kernel
theorem d_law_188 : decode M_law.2.1 188 = .ok (.iload 14, 2) := by decide +kernel
theorem d_law_190 : decode M_law.2.1 190 = .ok (.iaload, 1) := by decide +kernel
theorem d_law_191 : decode M_law.2.1 191 = .ok (.ifCond .lt 31, 3) := by decide +kernel
theorem d_law_194 : decode M_law.2.1 194 = .ok (.aload 11, 2) := by decide +kernel
theorem d_law_196 : decode M_law.2.1 196 = .ok (.iload 14, 2) := by decide +kernel
theorem d_law_198 : decode M_law.2.1 198 = .ok (.iaload, 1) := by decide +kernel
theorem d_law_199 : decode M_law.2.1 199 = .ok (.iconst 3, 1) := by decide +kernel
theorem d_law_200 : decode M_law.2.1 200 = .ok (.iconst 0, 1) := by decide +kernel
theorem d_law_201 : decode M_law.2.1 201 = .ok (.aload_n 1, 1) := by decide +kernel
theorem d_law_202 : decode M_law.2.1 202 = .ok (.bipush 13, 2) := by decide +kernel
theorem d_law_204 : decode M_law.2.1 204 = .ok (.invokevirtual 257, 3) := by decide +kernel
theorem d_law_207 : decode M_law.2.1 207 = .ok (.aload_n 1, 1) := by decide +kernel
theorem d_law_208 : decode M_law.2.1 208 = .ok (.iload 14, 2) := by decide +kernel
theorem d_law_210 : decode M_law.2.1 210 = .ok (.iconst 0, 1) := by decide +kernel
theorem d_law_211 : decode M_law.2.1 211 = .ok (.invokevirtual 271, 3) := by decide +kernel
theorem d_law_214 : decode M_law.2.1 214 = .ok (.isub, 1) := by decide +kernel
theorem d_law_215 : decode M_law.2.1 215 = .ok (.invokestatic 274, 3) := by decide +kernel
theorem d_law_218 : decode M_law.2.1 218 = .ok (.imul, 1) := by decide +kernel
theorem d_law_219 : decode M_law.2.1 219 = .ok (.if_icmp .eq 5, 3) := by decide +kernel
theorem d_law_224 : decode M_law.2.1 224 = .ok (.iinc 14 1, 3) := by decide +kernel
theorem d_law_227 : decode M_law.2.1 227 = .ok (.goto (-103), 3) := by decide +kernel
set_option maxRecDepth 100000 in
set_option maxHeartbeats 4000000 in
theorem law_124 (hj : AJ A c z0) (hms : MsOk Γ ms) (hth : ThOk Γ) {am as ai : Nat} (gm : z0 ≤ am) (gs : z0 ≤ as) (gi : z0 ≤ ai) (d1 : am ≠ as) (d2 : am ≠ ai) (d3 : as ≠ ai) (hN : N ≤ 900000) {C0 S0 : Nat} (kx : ∀ (h2 h3 : AH) (C S : Nat), JW Γ A c Y Y N dg h2 h3 → C0 ≤ C → S0 ≤ S → RW3 Γ A Y z0 h2 am as ai → (∀ b, b ≠ am → b ≠ as → b ≠ ai → h2 b = h b) → Go Γ M_law 80 C S 230 [some (.ref sa), some (.ref c), none, some (.ref ((ad A 6 0))), some (.int ((nI (cn A 0)))), some (.int ((nI (cn A 1)))), some (.int ((nI (cn A 4)))), some (.int ((nI it))), some (.int w8), some (.long dg), none, some (.ref am), some (.ref as), some (.ref ai), some (.int ((nI (cn A 0)))), none, none, none, none, none, none, none, none, none, none, none, none, none, none, none, none] [] h3 z Q X) : ∀ (k r : Nat) (h2 h3 : AH) (f1 f2 f3 : Nat → Int32) (C S : Nat), r + k = cn A 0 → JW Γ A c Y Y N dg h2 h3 → h2 am = some (aI Γ (cn A 0) f1) → h2 as = some (aI Γ (cn A 0) f2) → h2 ai = some (aI Γ (cn A 0) f3) → BR A Y r f1 f2 f3 → (∀ b, b ≠ am → b ≠ as → b ≠ ai → h2 b = h b) → C0 + 20 * k ≤ C → S0 + 120 * k ≤ S → Go Γ M_law 80 C S 124 [some (.ref sa), some (.ref c), none, some (.ref ((ad A 6 0))), some (.int ((nI (cn A 0)))), some (.int ((nI (cn A 1)))), some (.int ((nI (cn A 4)))), some (.int ((nI it))), some (.int w8), some (.long dg), none, some (.ref am), some (.ref as), some (.ref ai), some (.int ((nI r))), none, none, none, none, none, none, none, none, none, none, none, none, none, none, none, none] [] h3 z Q X := by
  intro k
  induction k with
  | zero =>
    intro r h2 h3 f1 f2 f3 C S hr J hm hs hi hb hk hC hS
    have e : r = cn A 0 := by omega
    subst e
    obtain ⟨p0, p1, p2, p3, p4⟩ := aj_p hj
    refine Go.iload_14 d_law_124 rfl ?_
    refine Go.iload_4 d_law_126 rfl ?_
    refine Go.icmp_ge (t := 230) d_law_128 (by decide) rfl (fun _ => ?_) (fun w => absurd (nI_le (Nat.le_refl _) (by omega)) w)
    exact kx h2 h3 C S J (by omega) (by omega) ⟨gm, gs, gi, f1, f2, f3, hm, hs, hi, hb⟩ hk
  | succ k ih =>
    intro r h2 h3 f1 f2 f3 C S hi0 J hm hs hi hb hk hC hS
    obtain ⟨p0, p1, p2, p3, p4⟩ := aj_p hj
    have hr : r < cn A 0 := by omega
    obtain ⟨v0, v1, v2, t0, t1, t2, t3, t4, t5⟩ := J.iv.b0 hr
    refine Go.iload_14 d_law_124 rfl ?_
    refine Go.iload_4 d_law_126 rfl ?_
    refine Go.icmp_ge (t := 230) d_law_128 (by decide) rfl (fun w => absurd w (nI_ge (show r < cn A 0 by omega) (by omega))) (fun _ => ?_)
    refine Go.aload_11 d_law_131 rfl ?_
    refine Go.iload_14 d_law_133 rfl ?_
    refine Go.aload_1 d_law_135 rfl ?_
    refine Go.iload_14 d_law_136 rfl ?_
    refine Go.iconst (v := 1) d_law_138 rfl (by decide) ?_
    refine Go.cvT (C1 := C - 4) (S1 := S - 24) (as := [.int ((nI r)), .int 1]) (rest := [.int ((nI r)), .ref am]) d_law_139 rfl l_Law_268 k_Camp_melt_v rfl (J.cam hj) rfl rfl (j_melt hj J hms hth (r := r) rfl rfl (by first | decide | assumption | omega)) rfl rfl (by omega) (by omega) rfl ?_
    refine Go.oias d_law_142 rfl hj J gm hm (j := r) rfl (by first | decide | assumption | omega) (by first | decide | omega) (fun xm1 ym1 Jm1 bm1 em1 => ?_)
    obtain ⟨Fm1, qm1⟩ : ∃ F, F = upd f1 r ((3 * iMax 0 (sm_wa Y (sm_dy Y % 8) - sm_v Y 0 r 0))) := ⟨_, rfl⟩
    rw [← qm1] at bm1
    have um1 : Fm1 r = (3 * iMax 0 (sm_wa Y (sm_dy Y % 8) - sm_v Y 0 r 0)) := by rw [qm1]; exact upd_at _ _ _
    have vm1 : ∀ j, j ≠ r → Fm1 j = f1 j := fun j hj => by rw [qm1]; exact upd_ne _ _ hj
    have hs_m1 := (em1 as (by omega)).trans hs
    have hi_m1 := (em1 ai (by omega)).trans hi
    refine Go.aload_12 d_law_143 rfl ?_
    refine Go.iload_14 d_law_145 rfl ?_
    refine Go.aload_1 d_law_147 rfl ?_
    refine Go.iload_14 d_law_148 rfl ?_
    refine Go.iconst (v := 1) d_law_150 rfl (by decide) ?_
    refine Go.cvT (C1 := C - 8) (S1 := S - 48) (as := [.int ((nI r)), .int 1]) (rest := [.int ((nI r)), .ref as]) d_law_151 rfl l_Law_271 k_Camp_band_v rfl (Jm1.cam hj) rfl rfl (j_band hj Jm1 hms hth (r := r) (k := 1) rfl rfl (by first | decide | assumption | omega) (by first | decide | assumption | omega)) rfl rfl (by omega) (by omega) rfl ?_
    refine Go.oias d_law_154 rfl hj Jm1 gs hs_m1 (j := r) rfl (by first | decide | assumption | omega) (by first | decide | omega) (fun xs2 ys2 Js2 bs2 es2 => ?_)
    obtain ⟨Fs2, qs2⟩ : ∃ F, F = upd f2 r ((tellB A Y r 1)) := ⟨_, rfl⟩
    rw [← qs2] at bs2
    have us2 : Fs2 r = (tellB A Y r 1) := by rw [qs2]; exact upd_at _ _ _
    have vs2 : ∀ j, j ≠ r → Fs2 j = f2 j := fun j hj => by rw [qs2]; exact upd_ne _ _ hj
    have bm1_s2 := (es2 am (by omega)).trans bm1
    have hi_m1_s2 := (es2 ai (by omega)).trans hi_m1
    refine Go.aload_13 d_law_155 rfl ?_
    refine Go.iload_14 d_law_157 rfl ?_
    refine Go.aload_1 d_law_159 rfl ?_
    refine Go.iload_14 d_law_160 rfl ?_
    refine Go.iconst (v := 2) d_law_162 rfl (by decide) ?_
    refine Go.cvT (C1 := C - 12) (S1 := S - 72) (as := [.int ((nI r)), .int 2]) (rest := [.int ((nI r)), .ref ai]) d_law_163 rfl l_Law_271 k_Camp_band_v rfl (Js2.cam hj) rfl rfl (j_band hj Js2 hms hth (r := r) (k := 2) rfl rfl (by first | decide | assumption | omega) (by first | decide | assumption | omega)) rfl rfl (by omega) (by omega) rfl ?_
    refine Go.oias d_law_166 rfl hj Js2 gi hi_m1_s2 (j := r) rfl (by first | decide | assumption | omega) (by first | decide | omega) (fun xi3 yi3 Ji3 bi3 ei3 => ?_)
    obtain ⟨Fi3, qi3⟩ : ∃ F, F = upd f3 r ((tellB A Y r 2)) := ⟨_, rfl⟩
    rw [← qi3] at bi3
    have ui3 : Fi3 r = (tellB A Y r 2) := by rw [qi3]; exact upd_at _ _ _
    have vi3 : ∀ j, j ≠ r → Fi3 j = f3 j := fun j hj => by rw [qi3]; exact upd_ne _ _ hj
    have bm1_s2_i3 := (ei3 am (by omega)).trans bm1_s2
    have bs2_i3 := (ei3 as (by omega)).trans bs2
    refine Go.aload_12 d_law_167 rfl ?_
    refine Go.iload_14 d_law_169 rfl ?_
    refine Go.oial d_law_171 rfl hj Ji3 gs bs2_i3 (j := r) rfl (by first | decide | assumption | omega) (by first | decide | omega) ?_
    have us : Fs2 r = nI v1 := us2.trans t2
    refine Go.if_lt (t := 222) d_law_172 (by decide) rfl (fun w => absurd w (by rw [us]; exact nI_pos (by omega))) (fun _ => ?_)
    refine Go.aload_12 d_law_175 rfl ?_
    refine Go.iload_14 d_law_177 rfl ?_
    refine Go.oial d_law_179 rfl hj Ji3 gs bs2_i3 (j := r) rfl (by first | decide | assumption | omega) (by first | decide | omega) ?_
    refine Go.sipush (v := 300) d_law_180 rfl (by decide) ?_
    refine Go.icmp_gt (t := 222) d_law_183 (by decide) rfl (fun w => absurd w (by rw [us]; exact fun w => absurd ((nI_ltI (a := 300) (b := v1) (by decide) (by omega)).mp w) (by omega))) (fun _ => ?_)
    refine Go.aload_13 d_law_186 rfl ?_
    refine Go.iload_14 d_law_188 rfl ?_
    refine Go.oial d_law_190 rfl hj Ji3 gi bi3 (j := r) rfl (by first | decide | assumption | omega) (by first | decide | omega) ?_
    have ui : Fi3 r = nI v2 := ui3.trans t4
    have hNb : N ≤ 900000 := hN
    refine Go.if_lt (t := 222) d_law_191 (by decide) rfl (fun w => absurd w (by rw [ui]; exact nI_pos (by omega))) (fun _ => ?_)
    refine Go.aload_11 d_law_194 rfl ?_
    refine Go.iload_14 d_law_196 rfl ?_
    refine Go.oial d_law_198 rfl hj Ji3 gm bm1_s2_i3 (j := r) rfl (by first | decide | assumption | omega) (by first | decide | omega) ?_
    refine Go.iconst (v := 3) d_law_199 rfl (by decide) ?_
    refine Go.iconst (v := 0) d_law_200 rfl (by decide) ?_
    refine Go.aload_1 d_law_201 rfl ?_
    refine Go.bipush (v := 13) d_law_202 rfl (by decide) ?_
    refine Go.cvT (C1 := C - 16) (S1 := S - 96) (as := [.int 13]) (rest := [.int 0, .int 3, .int ((Fm1 r))]) d_law_204 rfl l_Law_257 k_Camp_count_v rfl (Ji3.cam hj) rfl rfl (j_count hj Ji3 hms hth (k := 13) rfl (by first | decide | assumption | omega)) rfl rfl (by omega) (by omega) rfl ?_
    refine Go.aload_1 d_law_207 rfl ?_
    refine Go.iload_14 d_law_208 rfl ?_
    refine Go.iconst (v := 0) d_law_210 rfl (by decide) ?_
    refine Go.cvT (C1 := C - 20) (S1 := S - 120) (as := [.int ((nI r)), .int 0]) (rest := [.int ((tells A Y 0 13)), .int 0, .int 3, .int ((Fm1 r))]) d_law_211 rfl l_Law_271 k_Camp_band_v rfl (Ji3.cam hj) rfl rfl (j_band hj Ji3 hms hth (r := r) (k := 0) rfl rfl (by first | decide | assumption | omega) (by first | decide | assumption | omega)) rfl rfl (by omega) (by omega) rfl ?_
    refine Go.isub d_law_214 rfl ?_
    refine Go.imax d_law_215 rfl l_Law_274 (by decide) rfl ?_
    refine Go.imul d_law_218 rfl ?_
    refine Go.icmp_eq (t := 224) d_law_219 (by decide) rfl (fun _ => ?_) (fun w => absurd (um1) w)
    refine Go.iinc_14 d_law_224 rfl (by rfl) (show nI r + Int32.ofInt 1 = nI (r + 1) from nI_ad r 1) ?_
    refine Go.goto (t := 124) d_law_227 (by decide) ?_
    exact ih (r + 1) _ _ Fm1 Fs2 Fi3 _ _ (by omega) Ji3 bm1_s2_i3 bs2_i3 bi3 (fun j hj2 => by
      by_cases e : j = r
      · subst e
        exact ⟨um1, us2, ui3⟩
      · have q := hb j (by omega)
        exact ⟨(vm1 j e).trans q.1, (vs2 j e).trans q.2.1, (vi3 j e).trans q.2.2⟩) (fun b w1 w2 w3 => (ei3 b w3).trans ((es2 b w2).trans ((em1 b w1).trans (hk b w1 w2 w3)))) (by omega) (by omega)
theorem d_law_97 : decode M_law.2.1 97 = .ok (.aload_n 1, 1) := by decide +kernel
theorem d_law_98 : decode M_law.2.1 98 = .ok (.invokevirtual 264, 3) := by decide +kernel
theorem d_law_101 : decode M_law.2.1 101 = .ok (.lstore 9, 2) := by decide +kernel
theorem d_law_103 : decode M_law.2.1 103 = .ok (.iload 4, 2) := by decide +kernel
theorem d_law_105 : decode M_law.2.1 105 = .ok (.newarray .int, 2) := by decide +kernel
theorem d_law_107 : decode M_law.2.1 107 = .ok (.astore 11, 2) := by decide +kernel
theorem d_law_109 : decode M_law.2.1 109 = .ok (.iload 4, 2) := by decide +kernel
theorem d_law_111 : decode M_law.2.1 111 = .ok (.newarray .int, 2) := by decide +kernel
theorem d_law_113 : decode M_law.2.1 113 = .ok (.astore 12, 2) := by decide +kernel
theorem d_law_115 : decode M_law.2.1 115 = .ok (.iload 4, 2) := by decide +kernel
theorem d_law_117 : decode M_law.2.1 117 = .ok (.newarray .int, 2) := by decide +kernel
theorem d_law_119 : decode M_law.2.1 119 = .ok (.astore 13, 2) := by decide +kernel
theorem d_law_121 : decode M_law.2.1 121 = .ok (.iconst 0, 1) := by decide +kernel
theorem d_law_122 : decode M_law.2.1 122 = .ok (.istore 14, 2) := by decide +kernel
set_option maxRecDepth 100000 in
set_option maxHeartbeats 4000000 in
theorem law_97 (hj : AJ A c z0) (hms : MsOk Γ ms) (hth : ThOk Γ) (J : JW Γ A c Y Y N dg h h') (hz : z0 ≤ z) (hN : N ≤ 900000) {C S : Nat} (hC : 90 ≤ C) (hS : 500 ≤ S) (kx : ∀ (h2 h3 : AH) (z am as ai C2 S2 : Nat), JW Γ A c Y Y N dg h2 h3 → z0 ≤ z → C ≤ C2 + 90 → S ≤ S2 + 500 → RW3 Γ A Y z0 h2 am as ai → Go Γ M_law 80 C2 S2 230 [some (.ref sa), some (.ref c), none, some (.ref ((ad A 6 0))), some (.int ((nI (cn A 0)))), some (.int ((nI (cn A 1)))), some (.int ((nI (cn A 4)))), some (.int ((nI it))), some (.int w8), some (.long dg), none, some (.ref am), some (.ref as), some (.ref ai), some (.int ((nI (cn A 0)))), none, none, none, none, none, none, none, none, none, none, none, none, none, none, none, none] [] h3 z Q X) : Go Γ M_law 80 C S 97 [some (.ref sa), some (.ref c), none, some (.ref ((ad A 6 0))), some (.int ((nI (cn A 0)))), some (.int ((nI (cn A 1)))), some (.int ((nI (cn A 4)))), some (.int ((nI it))), some (.int w8), none, none, none, none, none, none, none, none, none, none, none, none, none, none, none, none, none, none, none, none, none, none] [] h' z Q X := by
  obtain ⟨p0, p1, p2, p3, p4⟩ := aj_p hj
  refine Go.aload_1 d_law_97 rfl ?_
  refine Go.cvR (as := []) (rest := []) d_law_98 rfl l_Law_264 k_Camp_digest_v rfl (J.cam hj) rfl rfl (j_digest hj J) rfl rfl rfl ?_
  refine Go.lstore_9 d_law_101 rfl (by rfl) ?_
  refine Go.iload_4 d_law_103 rfl ?_
  refine Go.onew (C1 := C - 1) (S1 := S - 4) d_law_105 rfl hj J hz (n := (cn A 0)) rfl (by first | decide | omega) (by omega) (by omega) (fun xm1 ym1 Jm1 bm1 nm1 em1 => ?_)
  obtain ⟨am, qm1⟩ : ∃ a, a = z := ⟨z, rfl⟩
  rw [← qm1] at bm1 nm1 em1 ⊢
  have gm1 : z0 ≤ am := by omega
  refine Go.astore_11 d_law_107 rfl (by rfl) ?_
  refine Go.iload_4 d_law_109 rfl ?_
  refine Go.onew (C1 := C - 2) (S1 := S - 8) d_law_111 rfl hj Jm1 (show z0 ≤ am + 1 by omega) (n := (cn A 0)) rfl (by first | decide | omega) (by omega) (by omega) (fun xs2 ys2 Js2 bs2 ns2 es2 => ?_)
  obtain ⟨as, qs2⟩ : ∃ a, a = (am + 1) := ⟨(am + 1), rfl⟩
  rw [← qs2] at bs2 ns2 es2 ⊢
  have gs2 : z0 ≤ as := by omega
  have dms2 : am ≠ as := fun w => by rw [w, ns2] at bm1; cases bm1
  have bm1_s2 := (es2 _ dms2).trans bm1
  refine Go.astore_12 d_law_113 rfl (by rfl) ?_
  refine Go.iload_4 d_law_115 rfl ?_
  refine Go.onew (C1 := C - 3) (S1 := S - 12) d_law_117 rfl hj Js2 (show z0 ≤ as + 1 by omega) (n := (cn A 0)) rfl (by first | decide | omega) (by omega) (by omega) (fun xi3 yi3 Ji3 bi3 ni3 ei3 => ?_)
  obtain ⟨ai, qi3⟩ : ∃ a, a = (as + 1) := ⟨(as + 1), rfl⟩
  rw [← qi3] at bi3 ni3 ei3 ⊢
  have gi3 : z0 ≤ ai := by omega
  have dmi3 : am ≠ ai := fun w => by rw [w, ni3] at bm1_s2; cases bm1_s2
  have bm1_s2_i3 := (ei3 _ dmi3).trans bm1_s2
  have dsi3 : as ≠ ai := fun w => by rw [w, ni3] at bs2; cases bs2
  have bs2_i3 := (ei3 _ dsi3).trans bs2
  refine Go.astore_13 d_law_119 rfl (by rfl) ?_
  refine Go.iconst (v := 0) d_law_121 rfl (by decide) ?_
  refine Go.istore_14 d_law_122 rfl (by rfl) ?_
  refine Go.fgt [some (.ref sa), some (.ref c), none, some (.ref ((ad A 6 0))), some (.int ((nI (cn A 0)))), some (.int ((nI (cn A 1)))), some (.int ((nI (cn A 4)))), some (.int ((nI it))), some (.int w8), some (.long dg), none, some (.ref am), some (.ref as), some (.ref ai), some (.int ((nI 0))), none, none, none, none, none, none, none, none, none, none, none, none, none, none, none, none] (by repeat' (first | exact trivial | refine ⟨rfl, ?_⟩)) ?_
  refine law_124 hj hms hth gm1 gs2 gi3 (by omega) (by omega) (by omega) hN (C0 := C - 83) (S0 := S - 492) (fun h2 h3 C2 S2 J2 hC2 hS2 hr3 hk => ?_) (cn A 0) 0 _ _ _ _ _ _ _ (Nat.zero_add _) Ji3 bm1_s2_i3 bs2_i3 bi3 (fun j w => absurd w (by omega)) (fun _ _ _ _ => rfl) (by omega) (by omega)
  exact kx h2 h3 (ai + 1) am as ai C2 S2 J2 (by omega) (by omega) (by omega) hr3
end Lw
