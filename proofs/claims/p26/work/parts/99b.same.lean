/-! the law's counts, and whether all is the same -/
theorem i_ac (a s v : Int32) : a - s + (1 - v) = a + 1 - (s + v) := by
  simp only [Int32.sub_eq_add_neg, Int32.neg_add]
  ac_rfl
section Sm
variable {Γ : G9} {A : AD} {c z0 z C S d : Nat} {Y : SM} {N : Nat} {dg : Int64} {h h' : AH} {ms : Nat → Nat} {Q : QT} {X : XT}

theorem d_Sim_counts_132 : decode M_Sim_counts.2.1 132 = .ok (.iload 4, 2) := by decide +kernel
theorem d_Sim_counts_134 : decode M_Sim_counts.2.1 134 = .ok (.iload_n 3, 1) := by decide +kernel
theorem d_Sim_counts_135 : decode M_Sim_counts.2.1 135 = .ok (.if_icmp .ge 26, 3) := by decide +kernel
theorem d_Sim_counts_138 : decode M_Sim_counts.2.1 138 = .ok (.aload_n 2, 1) := by decide +kernel
theorem d_Sim_counts_139 : decode M_Sim_counts.2.1 139 = .ok (.iload 4, 2) := by decide +kernel
theorem d_Sim_counts_141 : decode M_Sim_counts.2.1 141 = .ok (.aaload, 1) := by decide +kernel
theorem d_Sim_counts_142 : decode M_Sim_counts.2.1 142 = .ok (.astore 5, 2) := by decide +kernel
theorem d_Sim_counts_144 : decode M_Sim_counts.2.1 144 = .ok (.aload_n 1, 1) := by decide +kernel
theorem d_Sim_counts_145 : decode M_Sim_counts.2.1 145 = .ok (.bipush 7, 2) := by decide +kernel
theorem d_Sim_counts_147 : decode M_Sim_counts.2.1 147 = .ok (.dup2, 1) := by decide +kernel
theorem d_Sim_counts_148 : decode M_Sim_counts.2.1 148 = .ok (.iaload, 1) := by decide +kernel
theorem d_Sim_counts_149 : decode M_Sim_counts.2.1 149 = .ok (.aload 5, 2) := by decide +kernel
theorem d_Sim_counts_151 : decode M_Sim_counts.2.1 151 = .ok (.iconst 1, 1) := by decide +kernel
theorem d_Sim_counts_152 : decode M_Sim_counts.2.1 152 = .ok (.iaload, 1) := by decide +kernel
theorem d_Sim_counts_153 : decode M_Sim_counts.2.1 153 = .ok (.iadd, 1) := by decide +kernel
theorem d_Sim_counts_154 : decode M_Sim_counts.2.1 154 = .ok (.iastore, 1) := by decide +kernel
theorem d_Sim_counts_155 : decode M_Sim_counts.2.1 155 = .ok (.iinc 4 1, 3) := by decide +kernel
theorem d_Sim_counts_158 : decode M_Sim_counts.2.1 158 = .ok (.goto (-26), 3) := by decide +kernel
set_option maxRecDepth 100000 in
set_option maxHeartbeats 4000000 in
theorem cnt_132 {a : Nat} {h0 : AH} {f0 : Nat → Int32} (hj : AJ A c z0) (hza : z0 ≤ a) (kx : ∀ h2 h3 f2, JW Γ A c Y Y N dg h2 h3 → h2 a = some (aI Γ 15 f2) → (∀ b, b ≠ a → h2 b = h0 b) → (∀ j, j ≠ 7 → f2 j = f0 j) → f2 7 = sumN (fun r => sm_v Y 3 r 1) (cn A 3) → Go Γ M_Sim_counts d C S 161 [some (.ref (ad A 6 0)), some (.ref a), some (.ref (ad A 8 3)), some (.int (nI (cn A 3))), some (.int (nI (cn A 3))), none] [] h3 z Q X) : ∀ (k i : Nat) (h2 h3 : AH) (f : Nat → Int32), i + k = cn A 3 → JW Γ A c Y Y N dg h2 h3 → h2 a = some (aI Γ 15 f) → (∀ b, b ≠ a → h2 b = h0 b) → (∀ j, j ≠ 7 → f j = f0 j) → f 7 = sumN (fun r => sm_v Y 3 r 1) i → Go Γ M_Sim_counts d C S 132 [some (.ref (ad A 6 0)), some (.ref a), some (.ref (ad A 8 3)), some (.int (nI (cn A 3))), some (.int (nI i)), none] [] h3 z Q X := by
  intro k
  induction k with
  | zero =>
    intro i h2 h3 f hi J ha hb hf hg
    have e : i = cn A 3 := by omega
    subst e
    refine Go.iload_4 d_Sim_counts_132 rfl ?_
    refine Go.iload_3 d_Sim_counts_134 rfl ?_
    refine Go.icmp_ge (t := 161) d_Sim_counts_135 (by decide) rfl (fun _ => ?_) (fun w => absurd (nI_le (Nat.le_refl _) (Nat.lt_of_le_of_lt (aj8 hj (by decide)) (by decide))) w)
    exact kx h2 h3 f J ha hb hf hg
  | succ k ih =>
    intro i h2 h3 f hi J ha hb hf hg
    refine Go.iload_4 d_Sim_counts_132 rfl ?_
    refine Go.iload_3 d_Sim_counts_134 rfl ?_
    refine Go.icmp_ge (t := 161) d_Sim_counts_135 (by decide) rfl (fun w => absurd w (nI_ge (show i < cn A 3 by omega) (Nat.lt_of_le_of_lt (aj8 hj (by decide)) (by decide)))) (fun _ => ?_)
    have hik : i < cn A 3 := by omega
    refine Go.aload_2 d_Sim_counts_138 rfl ?_
    refine Go.iload_4 d_Sim_counts_139 rfl ?_
    refine Go.jaal d_Sim_counts_141 rfl hj J (k := 3) (r := i) (by decide) rfl (by first | assumption | omega) ?_
    refine Go.astore_5 d_Sim_counts_142 rfl (by rfl) ?_
    refine Go.aload_1 d_Sim_counts_144 rfl ?_
    refine Go.bipush (v := 7) d_Sim_counts_145 rfl (by decide) ?_
    refine Go.dup2 d_Sim_counts_147 rfl rfl rfl ?_
    refine Go.oial d_Sim_counts_148 rfl hj J hza ha (j := 7) rfl (by first | decide | assumption | omega) (by first | decide | omega) ?_
    refine Go.aload_5 d_Sim_counts_149 rfl ?_
    refine Go.iconst (v := 1) d_Sim_counts_151 rfl (by decide) ?_
    refine Go.jial d_Sim_counts_152 rfl hj J (k := 3) (r := i) (j := 1) (by decide) (by first | assumption | omega) rfl (by first | decide | assumption | omega) ?_
    refine Go.iadd d_Sim_counts_153 rfl ?_
    refine Go.oias d_Sim_counts_154 rfl hj J hza ha (j := 7) rfl (by decide) (by decide) (fun h4 h5 J2 ha2 hb2 => ?_)
    refine Go.iinc_4 d_Sim_counts_155 rfl (by rfl) (show nI i + Int32.ofInt 1 = nI (i + 1) from nI_ad i 1) ?_
    refine Go.goto (t := 132) d_Sim_counts_158 (by decide) ?_
    refine Go.fgt [some (.ref (ad A 6 0)), some (.ref a), some (.ref (ad A 8 3)), some (.int (nI (cn A 3))), some (.int (nI (i + 1))), none] (by repeat' (first | exact trivial | refine ⟨rfl, ?_⟩)) ?_
    refine ih (i + 1) h4 h5 _ (by omega) J2 ha2 (fun b hq => (hb2 b hq).trans (hb b hq)) (fun j hq => (upd_ne _ _ hq).trans (hf j hq)) ?_
    rw [upd_at, hg]
    rfl
theorem d_Sim_counts_172 : decode M_Sim_counts.2.1 172 = .ok (.iload 4, 2) := by decide +kernel
theorem d_Sim_counts_174 : decode M_Sim_counts.2.1 174 = .ok (.iload_n 3, 1) := by decide +kernel
theorem d_Sim_counts_175 : decode M_Sim_counts.2.1 175 = .ok (.if_icmp .ge 26, 3) := by decide +kernel
theorem d_Sim_counts_178 : decode M_Sim_counts.2.1 178 = .ok (.aload_n 2, 1) := by decide +kernel
theorem d_Sim_counts_179 : decode M_Sim_counts.2.1 179 = .ok (.iload 4, 2) := by decide +kernel
theorem d_Sim_counts_181 : decode M_Sim_counts.2.1 181 = .ok (.aaload, 1) := by decide +kernel
theorem d_Sim_counts_182 : decode M_Sim_counts.2.1 182 = .ok (.astore 5, 2) := by decide +kernel
theorem d_Sim_counts_184 : decode M_Sim_counts.2.1 184 = .ok (.aload_n 1, 1) := by decide +kernel
theorem d_Sim_counts_185 : decode M_Sim_counts.2.1 185 = .ok (.bipush 8, 2) := by decide +kernel
theorem d_Sim_counts_187 : decode M_Sim_counts.2.1 187 = .ok (.dup2, 1) := by decide +kernel
theorem d_Sim_counts_188 : decode M_Sim_counts.2.1 188 = .ok (.iaload, 1) := by decide +kernel
theorem d_Sim_counts_189 : decode M_Sim_counts.2.1 189 = .ok (.aload 5, 2) := by decide +kernel
theorem d_Sim_counts_191 : decode M_Sim_counts.2.1 191 = .ok (.iconst 2, 1) := by decide +kernel
theorem d_Sim_counts_192 : decode M_Sim_counts.2.1 192 = .ok (.iaload, 1) := by decide +kernel
theorem d_Sim_counts_193 : decode M_Sim_counts.2.1 193 = .ok (.iadd, 1) := by decide +kernel
theorem d_Sim_counts_194 : decode M_Sim_counts.2.1 194 = .ok (.iastore, 1) := by decide +kernel
theorem d_Sim_counts_195 : decode M_Sim_counts.2.1 195 = .ok (.iinc 4 1, 3) := by decide +kernel
theorem d_Sim_counts_198 : decode M_Sim_counts.2.1 198 = .ok (.goto (-26), 3) := by decide +kernel
set_option maxRecDepth 100000 in
set_option maxHeartbeats 4000000 in
theorem cnt_172 {a : Nat} {h0 : AH} {f0 : Nat → Int32} (hj : AJ A c z0) (hza : z0 ≤ a) (kx : ∀ h2 h3 f2, JW Γ A c Y Y N dg h2 h3 → h2 a = some (aI Γ 15 f2) → (∀ b, b ≠ a → h2 b = h0 b) → (∀ j, j ≠ 8 → f2 j = f0 j) → f2 8 = sumN (fun r => sm_v Y 0 r 2) (cn A 0) → Go Γ M_Sim_counts d C S 201 [some (.ref (ad A 6 0)), some (.ref a), some (.ref (ad A 8 0)), some (.int (nI (cn A 0))), some (.int (nI (cn A 0))), none] [] h3 z Q X) : ∀ (k i : Nat) (h2 h3 : AH) (f : Nat → Int32), i + k = cn A 0 → JW Γ A c Y Y N dg h2 h3 → h2 a = some (aI Γ 15 f) → (∀ b, b ≠ a → h2 b = h0 b) → (∀ j, j ≠ 8 → f j = f0 j) → f 8 = sumN (fun r => sm_v Y 0 r 2) i → Go Γ M_Sim_counts d C S 172 [some (.ref (ad A 6 0)), some (.ref a), some (.ref (ad A 8 0)), some (.int (nI (cn A 0))), some (.int (nI i)), none] [] h3 z Q X := by
  intro k
  induction k with
  | zero =>
    intro i h2 h3 f hi J ha hb hf hg
    have e : i = cn A 0 := by omega
    subst e
    refine Go.iload_4 d_Sim_counts_172 rfl ?_
    refine Go.iload_3 d_Sim_counts_174 rfl ?_
    refine Go.icmp_ge (t := 201) d_Sim_counts_175 (by decide) rfl (fun _ => ?_) (fun w => absurd (nI_le (Nat.le_refl _) (Nat.lt_of_le_of_lt (aj8 hj (by decide)) (by decide))) w)
    exact kx h2 h3 f J ha hb hf hg
  | succ k ih =>
    intro i h2 h3 f hi J ha hb hf hg
    refine Go.iload_4 d_Sim_counts_172 rfl ?_
    refine Go.iload_3 d_Sim_counts_174 rfl ?_
    refine Go.icmp_ge (t := 201) d_Sim_counts_175 (by decide) rfl (fun w => absurd w (nI_ge (show i < cn A 0 by omega) (Nat.lt_of_le_of_lt (aj8 hj (by decide)) (by decide)))) (fun _ => ?_)
    have hik : i < cn A 0 := by omega
    refine Go.aload_2 d_Sim_counts_178 rfl ?_
    refine Go.iload_4 d_Sim_counts_179 rfl ?_
    refine Go.jaal d_Sim_counts_181 rfl hj J (k := 0) (r := i) (by decide) rfl (by first | assumption | omega) ?_
    refine Go.astore_5 d_Sim_counts_182 rfl (by rfl) ?_
    refine Go.aload_1 d_Sim_counts_184 rfl ?_
    refine Go.bipush (v := 8) d_Sim_counts_185 rfl (by decide) ?_
    refine Go.dup2 d_Sim_counts_187 rfl rfl rfl ?_
    refine Go.oial d_Sim_counts_188 rfl hj J hza ha (j := 8) rfl (by first | decide | assumption | omega) (by first | decide | omega) ?_
    refine Go.aload_5 d_Sim_counts_189 rfl ?_
    refine Go.iconst (v := 2) d_Sim_counts_191 rfl (by decide) ?_
    refine Go.jial d_Sim_counts_192 rfl hj J (k := 0) (r := i) (j := 2) (by decide) (by first | assumption | omega) rfl (by first | decide | assumption | omega) ?_
    refine Go.iadd d_Sim_counts_193 rfl ?_
    refine Go.oias d_Sim_counts_194 rfl hj J hza ha (j := 8) rfl (by decide) (by decide) (fun h4 h5 J2 ha2 hb2 => ?_)
    refine Go.iinc_4 d_Sim_counts_195 rfl (by rfl) (show nI i + Int32.ofInt 1 = nI (i + 1) from nI_ad i 1) ?_
    refine Go.goto (t := 172) d_Sim_counts_198 (by decide) ?_
    refine Go.fgt [some (.ref (ad A 6 0)), some (.ref a), some (.ref (ad A 8 0)), some (.int (nI (cn A 0))), some (.int (nI (i + 1))), none] (by repeat' (first | exact trivial | refine ⟨rfl, ?_⟩)) ?_
    refine ih (i + 1) h4 h5 _ (by omega) J2 ha2 (fun b hq => (hb2 b hq).trans (hb b hq)) (fun j hq => (upd_ne _ _ hq).trans (hf j hq)) ?_
    rw [upd_at, hg]
    rfl
theorem d_Sim_counts_212 : decode M_Sim_counts.2.1 212 = .ok (.iload 4, 2) := by decide +kernel
theorem d_Sim_counts_214 : decode M_Sim_counts.2.1 214 = .ok (.iload_n 3, 1) := by decide +kernel
theorem d_Sim_counts_215 : decode M_Sim_counts.2.1 215 = .ok (.if_icmp .ge 28, 3) := by decide +kernel
theorem d_Sim_counts_218 : decode M_Sim_counts.2.1 218 = .ok (.aload_n 2, 1) := by decide +kernel
theorem d_Sim_counts_219 : decode M_Sim_counts.2.1 219 = .ok (.iload 4, 2) := by decide +kernel
theorem d_Sim_counts_221 : decode M_Sim_counts.2.1 221 = .ok (.aaload, 1) := by decide +kernel
theorem d_Sim_counts_222 : decode M_Sim_counts.2.1 222 = .ok (.astore 5, 2) := by decide +kernel
theorem d_Sim_counts_224 : decode M_Sim_counts.2.1 224 = .ok (.aload_n 1, 1) := by decide +kernel
theorem d_Sim_counts_225 : decode M_Sim_counts.2.1 225 = .ok (.bipush 12, 2) := by decide +kernel
theorem d_Sim_counts_227 : decode M_Sim_counts.2.1 227 = .ok (.dup2, 1) := by decide +kernel
theorem d_Sim_counts_228 : decode M_Sim_counts.2.1 228 = .ok (.iaload, 1) := by decide +kernel
theorem d_Sim_counts_229 : decode M_Sim_counts.2.1 229 = .ok (.iconst 1, 1) := by decide +kernel
theorem d_Sim_counts_230 : decode M_Sim_counts.2.1 230 = .ok (.aload 5, 2) := by decide +kernel
theorem d_Sim_counts_232 : decode M_Sim_counts.2.1 232 = .ok (.iconst 4, 1) := by decide +kernel
theorem d_Sim_counts_233 : decode M_Sim_counts.2.1 233 = .ok (.iaload, 1) := by decide +kernel
theorem d_Sim_counts_234 : decode M_Sim_counts.2.1 234 = .ok (.isub, 1) := by decide +kernel
theorem d_Sim_counts_235 : decode M_Sim_counts.2.1 235 = .ok (.iadd, 1) := by decide +kernel
theorem d_Sim_counts_236 : decode M_Sim_counts.2.1 236 = .ok (.iastore, 1) := by decide +kernel
theorem d_Sim_counts_237 : decode M_Sim_counts.2.1 237 = .ok (.iinc 4 1, 3) := by decide +kernel
theorem d_Sim_counts_240 : decode M_Sim_counts.2.1 240 = .ok (.goto (-28), 3) := by decide +kernel
set_option maxRecDepth 100000 in
set_option maxHeartbeats 4000000 in
theorem cnt_212 {a : Nat} {h0 : AH} {f0 : Nat → Int32} (hj : AJ A c z0) (hza : z0 ≤ a) (kx : ∀ h2 h3 f2, JW Γ A c Y Y N dg h2 h3 → h2 a = some (aI Γ 15 f2) → (∀ b, b ≠ a → h2 b = h0 b) → (∀ j, j ≠ 12 → f2 j = f0 j) → f2 12 = (nI (cn A 4) - sumN (fun r => sm_v Y 4 r 4) (cn A 4)) → Go Γ M_Sim_counts d C S 243 [some (.ref (ad A 6 0)), some (.ref a), some (.ref (ad A 8 4)), some (.int (nI (cn A 4))), some (.int (nI (cn A 4))), none] [] h3 z Q X) : ∀ (k i : Nat) (h2 h3 : AH) (f : Nat → Int32), i + k = cn A 4 → JW Γ A c Y Y N dg h2 h3 → h2 a = some (aI Γ 15 f) → (∀ b, b ≠ a → h2 b = h0 b) → (∀ j, j ≠ 12 → f j = f0 j) → f 12 = (nI i - sumN (fun r => sm_v Y 4 r 4) i) → Go Γ M_Sim_counts d C S 212 [some (.ref (ad A 6 0)), some (.ref a), some (.ref (ad A 8 4)), some (.int (nI (cn A 4))), some (.int (nI i)), none] [] h3 z Q X := by
  intro k
  induction k with
  | zero =>
    intro i h2 h3 f hi J ha hb hf hg
    have e : i = cn A 4 := by omega
    subst e
    refine Go.iload_4 d_Sim_counts_212 rfl ?_
    refine Go.iload_3 d_Sim_counts_214 rfl ?_
    refine Go.icmp_ge (t := 243) d_Sim_counts_215 (by decide) rfl (fun _ => ?_) (fun w => absurd (nI_le (Nat.le_refl _) (Nat.lt_of_le_of_lt (aj8 hj (by decide)) (by decide))) w)
    exact kx h2 h3 f J ha hb hf hg
  | succ k ih =>
    intro i h2 h3 f hi J ha hb hf hg
    refine Go.iload_4 d_Sim_counts_212 rfl ?_
    refine Go.iload_3 d_Sim_counts_214 rfl ?_
    refine Go.icmp_ge (t := 243) d_Sim_counts_215 (by decide) rfl (fun w => absurd w (nI_ge (show i < cn A 4 by omega) (Nat.lt_of_le_of_lt (aj8 hj (by decide)) (by decide)))) (fun _ => ?_)
    have hik : i < cn A 4 := by omega
    refine Go.aload_2 d_Sim_counts_218 rfl ?_
    refine Go.iload_4 d_Sim_counts_219 rfl ?_
    refine Go.jaal d_Sim_counts_221 rfl hj J (k := 4) (r := i) (by decide) rfl (by first | assumption | omega) ?_
    refine Go.astore_5 d_Sim_counts_222 rfl (by rfl) ?_
    refine Go.aload_1 d_Sim_counts_224 rfl ?_
    refine Go.bipush (v := 12) d_Sim_counts_225 rfl (by decide) ?_
    refine Go.dup2 d_Sim_counts_227 rfl rfl rfl ?_
    refine Go.oial d_Sim_counts_228 rfl hj J hza ha (j := 12) rfl (by first | decide | assumption | omega) (by first | decide | omega) ?_
    refine Go.iconst (v := 1) d_Sim_counts_229 rfl (by decide) ?_
    refine Go.aload_5 d_Sim_counts_230 rfl ?_
    refine Go.iconst (v := 4) d_Sim_counts_232 rfl (by decide) ?_
    refine Go.jial d_Sim_counts_233 rfl hj J (k := 4) (r := i) (j := 4) (by decide) (by first | assumption | omega) rfl (by first | decide | assumption | omega) ?_
    refine Go.isub d_Sim_counts_234 rfl ?_
    refine Go.iadd d_Sim_counts_235 rfl ?_
    refine Go.oias d_Sim_counts_236 rfl hj J hza ha (j := 12) rfl (by decide) (by decide) (fun h4 h5 J2 ha2 hb2 => ?_)
    refine Go.iinc_4 d_Sim_counts_237 rfl (by rfl) (show nI i + Int32.ofInt 1 = nI (i + 1) from nI_ad i 1) ?_
    refine Go.goto (t := 212) d_Sim_counts_240 (by decide) ?_
    refine Go.fgt [some (.ref (ad A 6 0)), some (.ref a), some (.ref (ad A 8 4)), some (.int (nI (cn A 4))), some (.int (nI (i + 1))), none] (by repeat' (first | exact trivial | refine ⟨rfl, ?_⟩)) ?_
    refine ih (i + 1) h4 h5 _ (by omega) J2 ha2 (fun b hq => (hb2 b hq).trans (hb b hq)) (fun j hq => (upd_ne _ _ hq).trans (hf j hq)) ?_
    rw [upd_at, hg]
    exact (i_ac _ _ _).trans (by rw [nI_1]; rfl)
theorem d_Sim_counts_0 : decode M_Sim_counts.2.1 0 = .ok (.bipush 15, 2) := by decide +kernel
theorem d_Sim_counts_2 : decode M_Sim_counts.2.1 2 = .ok (.newarray .int, 2) := by decide +kernel
theorem d_Sim_counts_4 : decode M_Sim_counts.2.1 4 = .ok (.dup, 1) := by decide +kernel
theorem d_Sim_counts_5 : decode M_Sim_counts.2.1 5 = .ok (.iconst 0, 1) := by decide +kernel
theorem d_Sim_counts_6 : decode M_Sim_counts.2.1 6 = .ok (.aload_n 0, 1) := by decide +kernel
theorem d_Sim_counts_7 : decode M_Sim_counts.2.1 7 = .ok (.getfield 34, 3) := by decide +kernel
theorem d_Sim_counts_10 : decode M_Sim_counts.2.1 10 = .ok (.iastore, 1) := by decide +kernel
theorem d_Sim_counts_11 : decode M_Sim_counts.2.1 11 = .ok (.dup, 1) := by decide +kernel
theorem d_Sim_counts_12 : decode M_Sim_counts.2.1 12 = .ok (.iconst 1, 1) := by decide +kernel
theorem d_Sim_counts_13 : decode M_Sim_counts.2.1 13 = .ok (.aload_n 0, 1) := by decide +kernel
theorem d_Sim_counts_14 : decode M_Sim_counts.2.1 14 = .ok (.getfield 14, 3) := by decide +kernel
theorem d_Sim_counts_17 : decode M_Sim_counts.2.1 17 = .ok (.arraylength, 1) := by decide +kernel
theorem d_Sim_counts_18 : decode M_Sim_counts.2.1 18 = .ok (.iastore, 1) := by decide +kernel
theorem d_Sim_counts_19 : decode M_Sim_counts.2.1 19 = .ok (.dup, 1) := by decide +kernel
theorem d_Sim_counts_20 : decode M_Sim_counts.2.1 20 = .ok (.iconst 2, 1) := by decide +kernel
theorem d_Sim_counts_21 : decode M_Sim_counts.2.1 21 = .ok (.aload_n 0, 1) := by decide +kernel
theorem d_Sim_counts_22 : decode M_Sim_counts.2.1 22 = .ok (.getfield 18, 3) := by decide +kernel
theorem d_Sim_counts_25 : decode M_Sim_counts.2.1 25 = .ok (.arraylength, 1) := by decide +kernel
theorem d_Sim_counts_26 : decode M_Sim_counts.2.1 26 = .ok (.iastore, 1) := by decide +kernel
theorem d_Sim_counts_27 : decode M_Sim_counts.2.1 27 = .ok (.dup, 1) := by decide +kernel
theorem d_Sim_counts_28 : decode M_Sim_counts.2.1 28 = .ok (.iconst 3, 1) := by decide +kernel
theorem d_Sim_counts_29 : decode M_Sim_counts.2.1 29 = .ok (.aload_n 0, 1) := by decide +kernel
theorem d_Sim_counts_30 : decode M_Sim_counts.2.1 30 = .ok (.getfield 21, 3) := by decide +kernel
theorem d_Sim_counts_33 : decode M_Sim_counts.2.1 33 = .ok (.arraylength, 1) := by decide +kernel
theorem d_Sim_counts_34 : decode M_Sim_counts.2.1 34 = .ok (.iastore, 1) := by decide +kernel
theorem d_Sim_counts_35 : decode M_Sim_counts.2.1 35 = .ok (.dup, 1) := by decide +kernel
theorem d_Sim_counts_36 : decode M_Sim_counts.2.1 36 = .ok (.iconst 4, 1) := by decide +kernel
theorem d_Sim_counts_37 : decode M_Sim_counts.2.1 37 = .ok (.aload_n 0, 1) := by decide +kernel
theorem d_Sim_counts_38 : decode M_Sim_counts.2.1 38 = .ok (.getfield 24, 3) := by decide +kernel
theorem d_Sim_counts_41 : decode M_Sim_counts.2.1 41 = .ok (.arraylength, 1) := by decide +kernel
theorem d_Sim_counts_42 : decode M_Sim_counts.2.1 42 = .ok (.iastore, 1) := by decide +kernel
theorem d_Sim_counts_43 : decode M_Sim_counts.2.1 43 = .ok (.dup, 1) := by decide +kernel
theorem d_Sim_counts_44 : decode M_Sim_counts.2.1 44 = .ok (.iconst 5, 1) := by decide +kernel
theorem d_Sim_counts_45 : decode M_Sim_counts.2.1 45 = .ok (.aload_n 0, 1) := by decide +kernel
theorem d_Sim_counts_46 : decode M_Sim_counts.2.1 46 = .ok (.getfield 27, 3) := by decide +kernel
theorem d_Sim_counts_49 : decode M_Sim_counts.2.1 49 = .ok (.arraylength, 1) := by decide +kernel
theorem d_Sim_counts_50 : decode M_Sim_counts.2.1 50 = .ok (.iastore, 1) := by decide +kernel
theorem d_Sim_counts_51 : decode M_Sim_counts.2.1 51 = .ok (.dup, 1) := by decide +kernel
theorem d_Sim_counts_52 : decode M_Sim_counts.2.1 52 = .ok (.bipush 6, 2) := by decide +kernel
theorem d_Sim_counts_54 : decode M_Sim_counts.2.1 54 = .ok (.aload_n 0, 1) := by decide +kernel
theorem d_Sim_counts_55 : decode M_Sim_counts.2.1 55 = .ok (.getfield 30, 3) := by decide +kernel
theorem d_Sim_counts_58 : decode M_Sim_counts.2.1 58 = .ok (.arraylength, 1) := by decide +kernel
theorem d_Sim_counts_59 : decode M_Sim_counts.2.1 59 = .ok (.iastore, 1) := by decide +kernel
theorem d_Sim_counts_60 : decode M_Sim_counts.2.1 60 = .ok (.dup, 1) := by decide +kernel
theorem d_Sim_counts_61 : decode M_Sim_counts.2.1 61 = .ok (.bipush 7, 2) := by decide +kernel
theorem d_Sim_counts_63 : decode M_Sim_counts.2.1 63 = .ok (.iconst 0, 1) := by decide +kernel
theorem d_Sim_counts_64 : decode M_Sim_counts.2.1 64 = .ok (.iastore, 1) := by decide +kernel
theorem d_Sim_counts_65 : decode M_Sim_counts.2.1 65 = .ok (.dup, 1) := by decide +kernel
theorem d_Sim_counts_66 : decode M_Sim_counts.2.1 66 = .ok (.bipush 8, 2) := by decide +kernel
theorem d_Sim_counts_68 : decode M_Sim_counts.2.1 68 = .ok (.iconst 0, 1) := by decide +kernel
theorem d_Sim_counts_69 : decode M_Sim_counts.2.1 69 = .ok (.iastore, 1) := by decide +kernel
theorem d_Sim_counts_70 : decode M_Sim_counts.2.1 70 = .ok (.dup, 1) := by decide +kernel
theorem d_Sim_counts_71 : decode M_Sim_counts.2.1 71 = .ok (.bipush 9, 2) := by decide +kernel
theorem d_Sim_counts_73 : decode M_Sim_counts.2.1 73 = .ok (.aload_n 0, 1) := by decide +kernel
theorem d_Sim_counts_74 : decode M_Sim_counts.2.1 74 = .ok (.getfield 38, 3) := by decide +kernel
theorem d_Sim_counts_77 : decode M_Sim_counts.2.1 77 = .ok (.iastore, 1) := by decide +kernel
theorem d_Sim_counts_78 : decode M_Sim_counts.2.1 78 = .ok (.dup, 1) := by decide +kernel
theorem d_Sim_counts_79 : decode M_Sim_counts.2.1 79 = .ok (.bipush 10, 2) := by decide +kernel
theorem d_Sim_counts_81 : decode M_Sim_counts.2.1 81 = .ok (.aload_n 0, 1) := by decide +kernel
theorem d_Sim_counts_82 : decode M_Sim_counts.2.1 82 = .ok (.getfield 41, 3) := by decide +kernel
theorem d_Sim_counts_85 : decode M_Sim_counts.2.1 85 = .ok (.iastore, 1) := by decide +kernel
theorem d_Sim_counts_86 : decode M_Sim_counts.2.1 86 = .ok (.dup, 1) := by decide +kernel
theorem d_Sim_counts_87 : decode M_Sim_counts.2.1 87 = .ok (.bipush 11, 2) := by decide +kernel
theorem d_Sim_counts_89 : decode M_Sim_counts.2.1 89 = .ok (.aload_n 0, 1) := by decide +kernel
theorem d_Sim_counts_90 : decode M_Sim_counts.2.1 90 = .ok (.getfield 44, 3) := by decide +kernel
theorem d_Sim_counts_93 : decode M_Sim_counts.2.1 93 = .ok (.iastore, 1) := by decide +kernel
theorem d_Sim_counts_94 : decode M_Sim_counts.2.1 94 = .ok (.dup, 1) := by decide +kernel
theorem d_Sim_counts_95 : decode M_Sim_counts.2.1 95 = .ok (.bipush 12, 2) := by decide +kernel
theorem d_Sim_counts_97 : decode M_Sim_counts.2.1 97 = .ok (.iconst 0, 1) := by decide +kernel
theorem d_Sim_counts_98 : decode M_Sim_counts.2.1 98 = .ok (.iastore, 1) := by decide +kernel
theorem d_Sim_counts_99 : decode M_Sim_counts.2.1 99 = .ok (.dup, 1) := by decide +kernel
theorem d_Sim_counts_100 : decode M_Sim_counts.2.1 100 = .ok (.bipush 13, 2) := by decide +kernel
theorem d_Sim_counts_102 : decode M_Sim_counts.2.1 102 = .ok (.aload_n 0, 1) := by decide +kernel
theorem d_Sim_counts_103 : decode M_Sim_counts.2.1 103 = .ok (.getfield 7, 3) := by decide +kernel
theorem d_Sim_counts_106 : decode M_Sim_counts.2.1 106 = .ok (.aload_n 0, 1) := by decide +kernel
theorem d_Sim_counts_107 : decode M_Sim_counts.2.1 107 = .ok (.getfield 34, 3) := by decide +kernel
theorem d_Sim_counts_110 : decode M_Sim_counts.2.1 110 = .ok (.bipush 8, 2) := by decide +kernel
theorem d_Sim_counts_112 : decode M_Sim_counts.2.1 112 = .ok (.irem, 1) := by decide +kernel
theorem d_Sim_counts_113 : decode M_Sim_counts.2.1 113 = .ok (.iaload, 1) := by decide +kernel
theorem d_Sim_counts_114 : decode M_Sim_counts.2.1 114 = .ok (.iastore, 1) := by decide +kernel
theorem d_Sim_counts_115 : decode M_Sim_counts.2.1 115 = .ok (.dup, 1) := by decide +kernel
theorem d_Sim_counts_116 : decode M_Sim_counts.2.1 116 = .ok (.bipush 14, 2) := by decide +kernel
theorem d_Sim_counts_118 : decode M_Sim_counts.2.1 118 = .ok (.iconst 0, 1) := by decide +kernel
theorem d_Sim_counts_119 : decode M_Sim_counts.2.1 119 = .ok (.iastore, 1) := by decide +kernel
theorem d_Sim_counts_120 : decode M_Sim_counts.2.1 120 = .ok (.astore_n 1, 1) := by decide +kernel
theorem d_Sim_counts_121 : decode M_Sim_counts.2.1 121 = .ok (.aload_n 0, 1) := by decide +kernel
theorem d_Sim_counts_122 : decode M_Sim_counts.2.1 122 = .ok (.getfield 24, 3) := by decide +kernel
theorem d_Sim_counts_125 : decode M_Sim_counts.2.1 125 = .ok (.astore_n 2, 1) := by decide +kernel
theorem d_Sim_counts_126 : decode M_Sim_counts.2.1 126 = .ok (.aload_n 2, 1) := by decide +kernel
theorem d_Sim_counts_127 : decode M_Sim_counts.2.1 127 = .ok (.arraylength, 1) := by decide +kernel
theorem d_Sim_counts_128 : decode M_Sim_counts.2.1 128 = .ok (.istore_n 3, 1) := by decide +kernel
theorem d_Sim_counts_129 : decode M_Sim_counts.2.1 129 = .ok (.iconst 0, 1) := by decide +kernel
theorem d_Sim_counts_130 : decode M_Sim_counts.2.1 130 = .ok (.istore 4, 2) := by decide +kernel
theorem d_Sim_counts_161 : decode M_Sim_counts.2.1 161 = .ok (.aload_n 0, 1) := by decide +kernel
theorem d_Sim_counts_162 : decode M_Sim_counts.2.1 162 = .ok (.getfield 14, 3) := by decide +kernel
theorem d_Sim_counts_165 : decode M_Sim_counts.2.1 165 = .ok (.astore_n 2, 1) := by decide +kernel
theorem d_Sim_counts_166 : decode M_Sim_counts.2.1 166 = .ok (.aload_n 2, 1) := by decide +kernel
theorem d_Sim_counts_167 : decode M_Sim_counts.2.1 167 = .ok (.arraylength, 1) := by decide +kernel
theorem d_Sim_counts_168 : decode M_Sim_counts.2.1 168 = .ok (.istore_n 3, 1) := by decide +kernel
theorem d_Sim_counts_169 : decode M_Sim_counts.2.1 169 = .ok (.iconst 0, 1) := by decide +kernel
theorem d_Sim_counts_170 : decode M_Sim_counts.2.1 170 = .ok (.istore 4, 2) := by decide +kernel
theorem d_Sim_counts_201 : decode M_Sim_counts.2.1 201 = .ok (.aload_n 0, 1) := by decide +kernel
theorem d_Sim_counts_202 : decode M_Sim_counts.2.1 202 = .ok (.getfield 27, 3) := by decide +kernel
theorem d_Sim_counts_205 : decode M_Sim_counts.2.1 205 = .ok (.astore_n 2, 1) := by decide +kernel
theorem d_Sim_counts_206 : decode M_Sim_counts.2.1 206 = .ok (.aload_n 2, 1) := by decide +kernel
theorem d_Sim_counts_207 : decode M_Sim_counts.2.1 207 = .ok (.arraylength, 1) := by decide +kernel
theorem d_Sim_counts_208 : decode M_Sim_counts.2.1 208 = .ok (.istore_n 3, 1) := by decide +kernel
theorem d_Sim_counts_209 : decode M_Sim_counts.2.1 209 = .ok (.iconst 0, 1) := by decide +kernel
theorem d_Sim_counts_210 : decode M_Sim_counts.2.1 210 = .ok (.istore 4, 2) := by decide +kernel
theorem d_Sim_counts_243 : decode M_Sim_counts.2.1 243 = .ok (.aload_n 1, 1) := by decide +kernel
theorem d_Sim_counts_244 : decode M_Sim_counts.2.1 244 = .ok (.areturn, 1) := by decide +kernel
set_option maxRecDepth 100000 in
set_option maxHeartbeats 4000000 in
theorem c_counts (hj : AJ A c z0) (hJ : JW Γ A c Y Y N dg h h') (hz : z0 ≤ z) (hN : N ≤ 900000) : Call Γ M_Sim_counts 0 1 15 [.ref (ad A 6 0)] h' z (fun v h3 _ => ∃ (a : Nat) (h2 : AH) (f : Nat → Int32), v = some (.ref a) ∧ z0 ≤ a ∧ JW Γ A c Y Y N dg h2 h3 ∧ h2 a = some (aI Γ 15 f) ∧ (∀ b, b ≠ a → h2 b = h b) ∧ h a = none ∧ ∀ k, k < 15 → f k = tells A Y 0 k) noX := by
  have hdy := hJ.iv.2.2.2.2
  refine Call.of_go (L := [some (.ref (ad A 6 0)), none, none, none, none, none]) (by decide +kernel) rfl (by exact Nat.le_of_ble_eq_true rfl) ?_
  refine Go.bipush (v := 15) d_Sim_counts_0 rfl (by decide) ?_
  refine Go.onew (C1 := 0) (S1 := 0) d_Sim_counts_2 rfl hj hJ hz (n := 15) rfl (by decide) (by decide) (by decide) (fun h2 h3 J ha hn hb => ?_)
  obtain ⟨a, ea⟩ : ∃ a, a = z := ⟨z, rfl⟩
  rw [← ea] at ha hn hb ⊢
  have hza : z0 ≤ a := by omega
  obtain ⟨f, hf⟩ : ∃ f : Nat → Int32, f = fun _ => 0 := ⟨_, rfl⟩
  rw [← hf] at ha
  refine Go.dup d_Sim_counts_4 rfl rfl ?_
  refine Go.iconst (v := 0) d_Sim_counts_5 rfl (by decide) ?_
  refine Go.aload_0 d_Sim_counts_6 rfl ?_
  refine Go.getfield d_Sim_counts_7 rfl f_Sim_34 (J.obj hj) rfl ?_
  refine Go.oias d_Sim_counts_10 rfl hj J hza ha (j := 0) rfl (by decide) (by decide) (fun p1 q1 J1 b1 e1 => ?_)
  refine Go.dup d_Sim_counts_11 rfl rfl ?_
  refine Go.iconst (v := 1) d_Sim_counts_12 rfl (by decide) ?_
  refine Go.aload_0 d_Sim_counts_13 rfl ?_
  refine Go.getfield d_Sim_counts_14 rfl f_Sim_14 (J1.obj hj) rfl ?_
  refine Go.jal d_Sim_counts_17 rfl hj J1 (k := 0) (by decide) ?_
  refine Go.oias d_Sim_counts_18 rfl hj J1 hza b1 (j := 1) rfl (by decide) (by decide) (fun p2 q2 J2 b2 e2 => ?_)
  refine Go.dup d_Sim_counts_19 rfl rfl ?_
  refine Go.iconst (v := 2) d_Sim_counts_20 rfl (by decide) ?_
  refine Go.aload_0 d_Sim_counts_21 rfl ?_
  refine Go.getfield d_Sim_counts_22 rfl f_Sim_18 (J2.obj hj) rfl ?_
  refine Go.jal d_Sim_counts_25 rfl hj J2 (k := 1) (by decide) ?_
  refine Go.oias d_Sim_counts_26 rfl hj J2 hza b2 (j := 2) rfl (by decide) (by decide) (fun p3 q3 J3 b3 e3 => ?_)
  refine Go.dup d_Sim_counts_27 rfl rfl ?_
  refine Go.iconst (v := 3) d_Sim_counts_28 rfl (by decide) ?_
  refine Go.aload_0 d_Sim_counts_29 rfl ?_
  refine Go.getfield d_Sim_counts_30 rfl f_Sim_21 (J3.obj hj) rfl ?_
  refine Go.jal d_Sim_counts_33 rfl hj J3 (k := 2) (by decide) ?_
  refine Go.oias d_Sim_counts_34 rfl hj J3 hza b3 (j := 3) rfl (by decide) (by decide) (fun p4 q4 J4 b4 e4 => ?_)
  refine Go.dup d_Sim_counts_35 rfl rfl ?_
  refine Go.iconst (v := 4) d_Sim_counts_36 rfl (by decide) ?_
  refine Go.aload_0 d_Sim_counts_37 rfl ?_
  refine Go.getfield d_Sim_counts_38 rfl f_Sim_24 (J4.obj hj) rfl ?_
  refine Go.jal d_Sim_counts_41 rfl hj J4 (k := 3) (by decide) ?_
  refine Go.oias d_Sim_counts_42 rfl hj J4 hza b4 (j := 4) rfl (by decide) (by decide) (fun p5 q5 J5 b5 e5 => ?_)
  refine Go.dup d_Sim_counts_43 rfl rfl ?_
  refine Go.iconst (v := 5) d_Sim_counts_44 rfl (by decide) ?_
  refine Go.aload_0 d_Sim_counts_45 rfl ?_
  refine Go.getfield d_Sim_counts_46 rfl f_Sim_27 (J5.obj hj) rfl ?_
  refine Go.jal d_Sim_counts_49 rfl hj J5 (k := 4) (by decide) ?_
  refine Go.oias d_Sim_counts_50 rfl hj J5 hza b5 (j := 5) rfl (by decide) (by decide) (fun p6 q6 J6 b6 e6 => ?_)
  refine Go.dup d_Sim_counts_51 rfl rfl ?_
  refine Go.bipush (v := 6) d_Sim_counts_52 rfl (by decide) ?_
  refine Go.aload_0 d_Sim_counts_54 rfl ?_
  refine Go.getfield d_Sim_counts_55 rfl f_Sim_30 (J6.obj hj) rfl ?_
  refine Go.jal d_Sim_counts_58 rfl hj J6 (k := 5) (by decide) ?_
  refine Go.oias d_Sim_counts_59 rfl hj J6 hza b6 (j := 6) rfl (by decide) (by decide) (fun p7 q7 J7 b7 e7 => ?_)
  refine Go.dup d_Sim_counts_60 rfl rfl ?_
  refine Go.bipush (v := 7) d_Sim_counts_61 rfl (by decide) ?_
  refine Go.iconst (v := 0) d_Sim_counts_63 rfl (by decide) ?_
  refine Go.oias d_Sim_counts_64 rfl hj J7 hza b7 (j := 7) rfl (by decide) (by decide) (fun p8 q8 J8 b8 e8 => ?_)
  refine Go.dup d_Sim_counts_65 rfl rfl ?_
  refine Go.bipush (v := 8) d_Sim_counts_66 rfl (by decide) ?_
  refine Go.iconst (v := 0) d_Sim_counts_68 rfl (by decide) ?_
  refine Go.oias d_Sim_counts_69 rfl hj J8 hza b8 (j := 8) rfl (by decide) (by decide) (fun p9 q9 J9 b9 e9 => ?_)
  refine Go.dup d_Sim_counts_70 rfl rfl ?_
  refine Go.bipush (v := 9) d_Sim_counts_71 rfl (by decide) ?_
  refine Go.aload_0 d_Sim_counts_73 rfl ?_
  refine Go.getfield d_Sim_counts_74 rfl f_Sim_38 (J9.obj hj) rfl ?_
  refine Go.oias d_Sim_counts_77 rfl hj J9 hza b9 (j := 9) rfl (by decide) (by decide) (fun p10 q10 J10 b10 e10 => ?_)
  refine Go.dup d_Sim_counts_78 rfl rfl ?_
  refine Go.bipush (v := 10) d_Sim_counts_79 rfl (by decide) ?_
  refine Go.aload_0 d_Sim_counts_81 rfl ?_
  refine Go.getfield d_Sim_counts_82 rfl f_Sim_41 (J10.obj hj) rfl ?_
  refine Go.oias d_Sim_counts_85 rfl hj J10 hza b10 (j := 10) rfl (by decide) (by decide) (fun p11 q11 J11 b11 e11 => ?_)
  refine Go.dup d_Sim_counts_86 rfl rfl ?_
  refine Go.bipush (v := 11) d_Sim_counts_87 rfl (by decide) ?_
  refine Go.aload_0 d_Sim_counts_89 rfl ?_
  refine Go.getfield d_Sim_counts_90 rfl f_Sim_44 (J11.obj hj) rfl ?_
  refine Go.oias d_Sim_counts_93 rfl hj J11 hza b11 (j := 11) rfl (by decide) (by decide) (fun p12 q12 J12 b12 e12 => ?_)
  refine Go.dup d_Sim_counts_94 rfl rfl ?_
  refine Go.bipush (v := 12) d_Sim_counts_95 rfl (by decide) ?_
  refine Go.iconst (v := 0) d_Sim_counts_97 rfl (by decide) ?_
  refine Go.oias d_Sim_counts_98 rfl hj J12 hza b12 (j := 12) rfl (by decide) (by decide) (fun p13 q13 J13 b13 e13 => ?_)
  refine Go.dup d_Sim_counts_99 rfl rfl ?_
  refine Go.bipush (v := 13) d_Sim_counts_100 rfl (by decide) ?_
  refine Go.aload_0 d_Sim_counts_102 rfl ?_
  refine Go.getfield d_Sim_counts_103 rfl f_Sim_7 (J13.obj hj) rfl ?_
  refine Go.aload_0 d_Sim_counts_106 rfl ?_
  refine Go.getfield d_Sim_counts_107 rfl f_Sim_34 (J13.obj hj) rfl ?_
  refine Go.bipush (v := 8) d_Sim_counts_110 rfl (by decide) ?_
  refine Go.irem d_Sim_counts_112 rfl (by decide) ?_
  rw [show nI (sm_dy Y) - nI (sm_dy Y) / 8 * 8 = nI (sm_dy Y % 8) from nI_remm (d := sm_dy Y) (m := 8) (by omega) (by decide) (by decide) rfl]
  refine Go.jwal d_Sim_counts_113 rfl hj J13 (j := (sm_dy Y % 8)) rfl (by first | assumption | omega) ?_
  refine Go.oias d_Sim_counts_114 rfl hj J13 hza b13 (j := 13) rfl (by decide) (by decide) (fun p14 q14 J14 b14 e14 => ?_)
  refine Go.dup d_Sim_counts_115 rfl rfl ?_
  refine Go.bipush (v := 14) d_Sim_counts_116 rfl (by decide) ?_
  refine Go.iconst (v := 0) d_Sim_counts_118 rfl (by decide) ?_
  refine Go.oias d_Sim_counts_119 rfl hj J14 hza b14 (j := 14) rfl (by decide) (by decide) (fun p15 q15 J15 b15 e15 => ?_)
  refine Go.astore_1 d_Sim_counts_120 rfl (by rfl) ?_
  refine Go.aload_0 d_Sim_counts_121 rfl ?_
  refine Go.getfield d_Sim_counts_122 rfl f_Sim_24 (J15.obj hj) rfl ?_
  refine Go.astore_2 d_Sim_counts_125 rfl (by rfl) ?_
  refine Go.aload_2 d_Sim_counts_126 rfl ?_
  refine Go.jal d_Sim_counts_127 rfl hj J15 (k := 3) (by decide) ?_
  refine Go.istore_3 d_Sim_counts_128 rfl (by rfl) ?_
  refine Go.iconst (v := 0) d_Sim_counts_129 rfl (by decide) ?_
  refine Go.istore_4 d_Sim_counts_130 rfl (by rfl) ?_
  refine Go.fgt [some (.ref (ad A 6 0)), some (.ref a), some (.ref (ad A 8 3)), some (.int (nI (cn A 3))), some (.int (nI 0)), none] (by repeat' (first | exact trivial | refine ⟨rfl, ?_⟩)) ?_
  have hb9 : ∀ b, b ≠ a → p15 b = h b := fun b hq => (((((((((((((((e15 b hq).trans (e14 b hq)).trans (e13 b hq)).trans (e12 b hq)).trans (e11 b hq)).trans (e10 b hq)).trans (e9 b hq)).trans (e8 b hq)).trans (e7 b hq)).trans (e6 b hq)).trans (e5 b hq)).trans (e4 b hq)).trans (e3 b hq)).trans (e2 b hq)).trans (e1 b hq)).trans (hb b hq)
  refine cnt_132 hj hza (fun h6 h7 f6 J6 ha6 hb6 hf6 hg6 => ?_) (cn A 3) 0 _ _ _ (Nat.zero_add _) J15 b15 hb9 (fun _ _ => rfl) rfl
  refine Go.aload_0 d_Sim_counts_161 rfl ?_
  refine Go.getfield d_Sim_counts_162 rfl f_Sim_14 (J6.obj hj) rfl ?_
  refine Go.astore_2 d_Sim_counts_165 rfl (by rfl) ?_
  refine Go.aload_2 d_Sim_counts_166 rfl ?_
  refine Go.jal d_Sim_counts_167 rfl hj J6 (k := 0) (by decide) ?_
  refine Go.istore_3 d_Sim_counts_168 rfl (by rfl) ?_
  refine Go.iconst (v := 0) d_Sim_counts_169 rfl (by decide) ?_
  refine Go.istore_4 d_Sim_counts_170 rfl (by rfl) ?_
  refine cnt_172 hj hza (fun h8 h9 f8 J8 ha8 hb8 hf8 hg8 => ?_) (cn A 0) 0 _ _ _ (Nat.zero_add _) J6 ha6 hb6 (fun _ _ => rfl) ((hf6 8 (by decide)).trans rfl)
  refine Go.aload_0 d_Sim_counts_201 rfl ?_
  refine Go.getfield d_Sim_counts_202 rfl f_Sim_27 (J8.obj hj) rfl ?_
  refine Go.astore_2 d_Sim_counts_205 rfl (by rfl) ?_
  refine Go.aload_2 d_Sim_counts_206 rfl ?_
  refine Go.jal d_Sim_counts_207 rfl hj J8 (k := 4) (by decide) ?_
  refine Go.istore_3 d_Sim_counts_208 rfl (by rfl) ?_
  refine Go.iconst (v := 0) d_Sim_counts_209 rfl (by decide) ?_
  refine Go.istore_4 d_Sim_counts_210 rfl (by rfl) ?_
  refine cnt_212 hj hza (fun h10 h11 f10 J10 ha10 hb10 hf10 hg10 => ?_) (cn A 4) 0 _ _ _ (Nat.zero_add _) J8 ha8 hb8 (fun _ _ => rfl) ((hf8 12 (by decide)).trans ((hf6 12 (by decide)).trans (show (0 : Int32) = nI 0 - 0 by decide)))
  refine Go.aload_1 d_Sim_counts_243 rfl ?_
  refine Go.aretA d_Sim_counts_244 rfl ⟨a, h10, f10, rfl, hza, J10, ha10, hb10, hn, fun k hk => ?_⟩
  match k, hk with
  | 0, _ => exact (hf10 0 (by decide)).trans ((hf8 0 (by decide)).trans ((hf6 0 (by decide)).trans rfl))
  | 1, _ => exact (hf10 1 (by decide)).trans ((hf8 1 (by decide)).trans ((hf6 1 (by decide)).trans rfl))
  | 2, _ => exact (hf10 2 (by decide)).trans ((hf8 2 (by decide)).trans ((hf6 2 (by decide)).trans rfl))
  | 3, _ => exact (hf10 3 (by decide)).trans ((hf8 3 (by decide)).trans ((hf6 3 (by decide)).trans rfl))
  | 4, _ => exact (hf10 4 (by decide)).trans ((hf8 4 (by decide)).trans ((hf6 4 (by decide)).trans rfl))
  | 5, _ => exact (hf10 5 (by decide)).trans ((hf8 5 (by decide)).trans ((hf6 5 (by decide)).trans rfl))
  | 6, _ => exact (hf10 6 (by decide)).trans ((hf8 6 (by decide)).trans ((hf6 6 (by decide)).trans rfl))
  | 7, _ => exact (hf10 7 (by decide)).trans ((hf8 7 (by decide)).trans hg6)
  | 8, _ => exact (hf10 8 (by decide)).trans hg8
  | 9, _ => exact (hf10 9 (by decide)).trans ((hf8 9 (by decide)).trans ((hf6 9 (by decide)).trans rfl))
  | 10, _ => exact (hf10 10 (by decide)).trans ((hf8 10 (by decide)).trans ((hf6 10 (by decide)).trans rfl))
  | 11, _ => exact (hf10 11 (by decide)).trans ((hf8 11 (by decide)).trans ((hf6 11 (by decide)).trans rfl))
  | 12, _ => exact hg10
  | 13, _ => exact (hf10 13 (by decide)).trans ((hf8 13 (by decide)).trans ((hf6 13 (by decide)).trans rfl))
  | 14, _ => exact (hf10 14 (by decide)).trans ((hf8 14 (by decide)).trans ((hf6 14 (by decide)).trans rfl))
  | _ + 15, w => exact absurd w (by omega)
end Sm
