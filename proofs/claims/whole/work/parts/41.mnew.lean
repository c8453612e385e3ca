/-! the reference: what is new -/
theorem hup_comm {h : AH} {a b : Nat} {e e' : va_E} (hab : a ≠ b) : hup (hup h a e) b e' = hup (hup h b e') a e := by
  funext x
  unfold hup
  by_cases h1 : x = a
  · subst h1
    rw [if_neg hab, if_pos rfl, if_pos rfl]
  · by_cases h2 : x = b
    · rw [if_pos h2, if_neg h1, if_pos h2]
    · rw [if_neg h2, if_neg h1, if_neg h1, if_neg h2]
theorem blk0 {h : AH} {g : Nat} {f : Nat → Option va_E} : blk h g 0 f = h := by
  funext x
  unfold blk
  rw [if_neg (by omega)]
theorem blk_push {h : AH} {g n : Nat} {f : Nat → Option va_E} {e : va_E} : hup (blk h g n f) (g + n) e = blk h g (n + 1) (fun j => if j = n then some e else f j) := by
  funext x
  unfold hup blk
  by_cases h1 : x = g + n
  · subst h1
    rw [if_pos rfl, if_pos ⟨by omega, by omega⟩]
    dsimp only
    rw [if_pos (by omega)]
  · rw [if_neg h1]
    by_cases h2 : g ≤ x ∧ x < g + n
    · rw [if_pos h2, if_pos ⟨h2.1, by omega⟩]
      dsimp only
      rw [if_neg (by omega)]
    · rw [if_neg h2, if_neg (by omega)]
theorem blk_app {h : AH} {g n m : Nat} {f f' : Nat → Option va_E} : blk (blk h g n f) (g + n) m f' = blk h g (n + m) (fun j => if j < n then f j else f' (j - n)) := by
  funext x
  unfold blk
  by_cases h1 : g + n ≤ x ∧ x < g + n + m
  · rw [if_pos h1, if_pos ⟨by omega, by omega⟩]
    dsimp only
    rw [if_neg (by omega)]
    congr 1
    omega
  · rw [if_neg h1]
    by_cases h2 : g ≤ x ∧ x < g + n
    · rw [if_pos h2, if_pos ⟨h2.1, by omega⟩]
      dsimp only
      rw [if_pos (by omega)]
    · rw [if_neg h2, if_neg (by omega)]
theorem blk_cons {h : AH} {g n : Nat} {f : Nat → Option va_E} {e : va_E} : hup (blk h (g + 1) n f) g e = blk h g (n + 1) (fun j => if j = 0 then some e else f (j - 1)) := by
  funext x
  unfold hup blk
  by_cases h1 : x = g
  · subst h1
    rw [if_pos rfl, if_pos ⟨by omega, by omega⟩]
    dsimp only
    rw [if_pos (by omega)]
  · rw [if_neg h1]
    by_cases h2 : g + 1 ≤ x ∧ x < g + 1 + n
    · rw [if_pos h2, if_pos ⟨by omega, by omega⟩]
      dsimp only
      rw [if_neg (by omega)]
      congr 1 <;> omega
    · rw [if_neg h2, if_neg (by omega)]
/-- a row behind the rows so far -/
theorem ct_push {h : AH} {t n z : Nat} {f : Nat → Option va_E} {e o : va_E} (hz : z = t + 1 + n) : hup (hup (blk h (t + 1) n f) t o) z e = hup (blk h (t + 1) (n + 1) (fun j => if j = n then some e else f j)) t o := by
  subst hz
  rw [hup_comm (by omega), blk_push]
/-- an object with all that hangs on it, behind the rows so far -/
theorem ct_app {h : AH} {t n m z : Nat} {f C : Nat → Option va_E} {e o : va_E} (hz : z = t + 1 + n) (hm : 0 < m) : blk (hup (hup (blk h (t + 1) n f) t o) z e) z m C = hup (blk h (t + 1) (n + m) (fun j => if j < n then f j else C (j - n))) t o := by
  subst hz
  rw [hup_comm (by omega), ← hup_blk (by omega), blk_push, show blk (blk h (t + 1) (n + 1) (fun j => if j = n then some e else f j)) (t + 1 + n) m C = blk (blk h (t + 1) n f) (t + 1 + n) m C from by
    rw [← blk_push]
    funext x
    unfold blk hup
    by_cases h1 : t + 1 + n ≤ x ∧ x < t + 1 + n + m
    · rw [if_pos h1, if_pos h1]
    · rw [if_neg h1, if_neg h1, if_neg (by omega)], blk_app]
theorem ct_start {h : AH} {t : Nat} {o : va_E} (h0 : h t = some o) : h = hup (blk h (t + 1) 0 (fun _ => none)) t o := by
  rw [blk0, hup_self h0]
def sh0 : SH := (fun _ => 0, fun _ => 0, fun _ => 0, fun _ => 0, fun _ => 0, fun _ => 0, 0, fun _ => 0, fun _ => 0, fun _ => 0, fun _ => 0, fun _ => 0, fun _ => 0, fun _ => 0, fun _ => 0, fun _ => 0, fun _ => 0, fun _ => 0, fun _ => 10, 0, 0, fun _ => 0, fun _ => 0, fun _ => 0, fun _ => 0, fun _ => 0)
def sx0 : SX := (0, 0, 0, 0, fun _ => 10, fun _ => 0, fun _ => 0, fun _ => 0, fun _ => 0, fun _ => 0, fun _ => 0, fun _ => 0, fun _ => 0, fun _ => 0, fun _ => 0, fun _ => 0, fun _ => 0, fun _ => 0, fun _ => 0, fun _ => 0, fun _ => 0, fun _ => 0, fun _ => 0, fun _ => 0)
theorem d_Sheet_init_0 : decode M_Sheet_init.2.1 0 = .ok (.aload_n 0, 1) := by decide +kernel
theorem d_Sheet_init_1 : decode M_Sheet_init.2.1 1 = .ok (.invokespecial 3, 3) := by decide +kernel
theorem d_Sheet_init_4 : decode M_Sheet_init.2.1 4 = .ok (.aload_n 0, 1) := by decide +kernel
theorem d_Sheet_init_5 : decode M_Sheet_init.2.1 5 = .ok (.sipush 401, 3) := by decide +kernel
theorem d_Sheet_init_8 : decode M_Sheet_init.2.1 8 = .ok (.newarray .int, 2) := by decide +kernel
theorem d_Sheet_init_10 : decode M_Sheet_init.2.1 10 = .ok (.putfield 9, 3) := by decide +kernel
theorem d_Sheet_init_13 : decode M_Sheet_init.2.1 13 = .ok (.aload_n 0, 1) := by decide +kernel
theorem d_Sheet_init_14 : decode M_Sheet_init.2.1 14 = .ok (.sipush 401, 3) := by decide +kernel
theorem d_Sheet_init_17 : decode M_Sheet_init.2.1 17 = .ok (.newarray .int, 2) := by decide +kernel
theorem d_Sheet_init_19 : decode M_Sheet_init.2.1 19 = .ok (.putfield 15, 3) := by decide +kernel
theorem d_Sheet_init_22 : decode M_Sheet_init.2.1 22 = .ok (.aload_n 0, 1) := by decide +kernel
theorem d_Sheet_init_23 : decode M_Sheet_init.2.1 23 = .ok (.sipush 401, 3) := by decide +kernel
theorem d_Sheet_init_26 : decode M_Sheet_init.2.1 26 = .ok (.newarray .int, 2) := by decide +kernel
theorem d_Sheet_init_28 : decode M_Sheet_init.2.1 28 = .ok (.putfield 18, 3) := by decide +kernel
theorem d_Sheet_init_31 : decode M_Sheet_init.2.1 31 = .ok (.aload_n 0, 1) := by decide +kernel
theorem d_Sheet_init_32 : decode M_Sheet_init.2.1 32 = .ok (.sipush 401, 3) := by decide +kernel
theorem d_Sheet_init_35 : decode M_Sheet_init.2.1 35 = .ok (.newarray .int, 2) := by decide +kernel
theorem d_Sheet_init_37 : decode M_Sheet_init.2.1 37 = .ok (.putfield 21, 3) := by decide +kernel
theorem d_Sheet_init_40 : decode M_Sheet_init.2.1 40 = .ok (.aload_n 0, 1) := by decide +kernel
theorem d_Sheet_init_41 : decode M_Sheet_init.2.1 41 = .ok (.bipush 12, 2) := by decide +kernel
theorem d_Sheet_init_43 : decode M_Sheet_init.2.1 43 = .ok (.newarray .int, 2) := by decide +kernel
theorem d_Sheet_init_45 : decode M_Sheet_init.2.1 45 = .ok (.putfield 24, 3) := by decide +kernel
theorem d_Sheet_init_48 : decode M_Sheet_init.2.1 48 = .ok (.aload_n 0, 1) := by decide +kernel
theorem d_Sheet_init_49 : decode M_Sheet_init.2.1 49 = .ok (.bipush 72, 2) := by decide +kernel
theorem d_Sheet_init_51 : decode M_Sheet_init.2.1 51 = .ok (.newarray .int, 2) := by decide +kernel
theorem d_Sheet_init_53 : decode M_Sheet_init.2.1 53 = .ok (.putfield 27, 3) := by decide +kernel
theorem d_Sheet_init_56 : decode M_Sheet_init.2.1 56 = .ok (.aload_n 0, 1) := by decide +kernel
theorem d_Sheet_init_57 : decode M_Sheet_init.2.1 57 = .ok (.iconst 5, 1) := by decide +kernel
theorem d_Sheet_init_58 : decode M_Sheet_init.2.1 58 = .ok (.newarray .int, 2) := by decide +kernel
theorem d_Sheet_init_60 : decode M_Sheet_init.2.1 60 = .ok (.putfield 30, 3) := by decide +kernel
theorem d_Sheet_init_63 : decode M_Sheet_init.2.1 63 = .ok (.aload_n 0, 1) := by decide +kernel
theorem d_Sheet_init_64 : decode M_Sheet_init.2.1 64 = .ok (.iconst 5, 1) := by decide +kernel
theorem d_Sheet_init_65 : decode M_Sheet_init.2.1 65 = .ok (.newarray .int, 2) := by decide +kernel
theorem d_Sheet_init_67 : decode M_Sheet_init.2.1 67 = .ok (.putfield 33, 3) := by decide +kernel
theorem d_Sheet_init_70 : decode M_Sheet_init.2.1 70 = .ok (.aload_n 0, 1) := by decide +kernel
theorem d_Sheet_init_71 : decode M_Sheet_init.2.1 71 = .ok (.bipush 6, 2) := by decide +kernel
theorem d_Sheet_init_73 : decode M_Sheet_init.2.1 73 = .ok (.newarray .int, 2) := by decide +kernel
theorem d_Sheet_init_75 : decode M_Sheet_init.2.1 75 = .ok (.putfield 36, 3) := by decide +kernel
theorem d_Sheet_init_78 : decode M_Sheet_init.2.1 78 = .ok (.aload_n 0, 1) := by decide +kernel
theorem d_Sheet_init_79 : decode M_Sheet_init.2.1 79 = .ok (.bipush 6, 2) := by decide +kernel
theorem d_Sheet_init_81 : decode M_Sheet_init.2.1 81 = .ok (.newarray .int, 2) := by decide +kernel
theorem d_Sheet_init_83 : decode M_Sheet_init.2.1 83 = .ok (.putfield 39, 3) := by decide +kernel
theorem d_Sheet_init_86 : decode M_Sheet_init.2.1 86 = .ok (.aload_n 0, 1) := by decide +kernel
theorem d_Sheet_init_87 : decode M_Sheet_init.2.1 87 = .ok (.iconst 4, 1) := by decide +kernel
theorem d_Sheet_init_88 : decode M_Sheet_init.2.1 88 = .ok (.newarray .int, 2) := by decide +kernel
theorem d_Sheet_init_90 : decode M_Sheet_init.2.1 90 = .ok (.putfield 42, 3) := by decide +kernel
theorem d_Sheet_init_93 : decode M_Sheet_init.2.1 93 = .ok (.aload_n 0, 1) := by decide +kernel
theorem d_Sheet_init_94 : decode M_Sheet_init.2.1 94 = .ok (.iconst 4, 1) := by decide +kernel
theorem d_Sheet_init_95 : decode M_Sheet_init.2.1 95 = .ok (.newarray .int, 2) := by decide +kernel
theorem d_Sheet_init_97 : decode M_Sheet_init.2.1 97 = .ok (.putfield 45, 3) := by decide +kernel
theorem d_Sheet_init_100 : decode M_Sheet_init.2.1 100 = .ok (.aload_n 0, 1) := by decide +kernel
theorem d_Sheet_init_101 : decode M_Sheet_init.2.1 101 = .ok (.iconst 4, 1) := by decide +kernel
theorem d_Sheet_init_102 : decode M_Sheet_init.2.1 102 = .ok (.newarray .int, 2) := by decide +kernel
theorem d_Sheet_init_104 : decode M_Sheet_init.2.1 104 = .ok (.putfield 48, 3) := by decide +kernel
theorem d_Sheet_init_107 : decode M_Sheet_init.2.1 107 = .ok (.aload_n 0, 1) := by decide +kernel
theorem d_Sheet_init_108 : decode M_Sheet_init.2.1 108 = .ok (.iconst 4, 1) := by decide +kernel
theorem d_Sheet_init_109 : decode M_Sheet_init.2.1 109 = .ok (.newarray .int, 2) := by decide +kernel
theorem d_Sheet_init_111 : decode M_Sheet_init.2.1 111 = .ok (.putfield 51, 3) := by decide +kernel
theorem d_Sheet_init_114 : decode M_Sheet_init.2.1 114 = .ok (.aload_n 0, 1) := by decide +kernel
theorem d_Sheet_init_115 : decode M_Sheet_init.2.1 115 = .ok (.iconst 4, 1) := by decide +kernel
theorem d_Sheet_init_116 : decode M_Sheet_init.2.1 116 = .ok (.newarray .int, 2) := by decide +kernel
theorem d_Sheet_init_118 : decode M_Sheet_init.2.1 118 = .ok (.putfield 54, 3) := by decide +kernel
theorem d_Sheet_init_121 : decode M_Sheet_init.2.1 121 = .ok (.aload_n 0, 1) := by decide +kernel
theorem d_Sheet_init_122 : decode M_Sheet_init.2.1 122 = .ok (.iconst 4, 1) := by decide +kernel
theorem d_Sheet_init_123 : decode M_Sheet_init.2.1 123 = .ok (.newarray .int, 2) := by decide +kernel
theorem d_Sheet_init_125 : decode M_Sheet_init.2.1 125 = .ok (.putfield 57, 3) := by decide +kernel
theorem d_Sheet_init_128 : decode M_Sheet_init.2.1 128 = .ok (.aload_n 0, 1) := by decide +kernel
theorem d_Sheet_init_129 : decode M_Sheet_init.2.1 129 = .ok (.iconst 4, 1) := by decide +kernel
theorem d_Sheet_init_130 : decode M_Sheet_init.2.1 130 = .ok (.newarray .int, 2) := by decide +kernel
theorem d_Sheet_init_132 : decode M_Sheet_init.2.1 132 = .ok (.putfield 60, 3) := by decide +kernel
theorem d_Sheet_init_135 : decode M_Sheet_init.2.1 135 = .ok (.aload_n 0, 1) := by decide +kernel
theorem d_Sheet_init_136 : decode M_Sheet_init.2.1 136 = .ok (.bipush 8, 2) := by decide +kernel
theorem d_Sheet_init_138 : decode M_Sheet_init.2.1 138 = .ok (.newarray .int, 2) := by decide +kernel
theorem d_Sheet_init_140 : decode M_Sheet_init.2.1 140 = .ok (.dup, 1) := by decide +kernel
theorem d_Sheet_init_141 : decode M_Sheet_init.2.1 141 = .ok (.iconst 0, 1) := by decide +kernel
theorem d_Sheet_init_142 : decode M_Sheet_init.2.1 142 = .ok (.bipush 10, 2) := by decide +kernel
theorem d_Sheet_init_144 : decode M_Sheet_init.2.1 144 = .ok (.iastore, 1) := by decide +kernel
theorem d_Sheet_init_145 : decode M_Sheet_init.2.1 145 = .ok (.dup, 1) := by decide +kernel
theorem d_Sheet_init_146 : decode M_Sheet_init.2.1 146 = .ok (.iconst 1, 1) := by decide +kernel
theorem d_Sheet_init_147 : decode M_Sheet_init.2.1 147 = .ok (.bipush 10, 2) := by decide +kernel
theorem d_Sheet_init_149 : decode M_Sheet_init.2.1 149 = .ok (.iastore, 1) := by decide +kernel
theorem d_Sheet_init_150 : decode M_Sheet_init.2.1 150 = .ok (.dup, 1) := by decide +kernel
theorem d_Sheet_init_151 : decode M_Sheet_init.2.1 151 = .ok (.iconst 2, 1) := by decide +kernel
theorem d_Sheet_init_152 : decode M_Sheet_init.2.1 152 = .ok (.bipush 10, 2) := by decide +kernel
theorem d_Sheet_init_154 : decode M_Sheet_init.2.1 154 = .ok (.iastore, 1) := by decide +kernel
theorem d_Sheet_init_155 : decode M_Sheet_init.2.1 155 = .ok (.dup, 1) := by decide +kernel
theorem d_Sheet_init_156 : decode M_Sheet_init.2.1 156 = .ok (.iconst 3, 1) := by decide +kernel
theorem d_Sheet_init_157 : decode M_Sheet_init.2.1 157 = .ok (.bipush 10, 2) := by decide +kernel
theorem d_Sheet_init_159 : decode M_Sheet_init.2.1 159 = .ok (.iastore, 1) := by decide +kernel
theorem d_Sheet_init_160 : decode M_Sheet_init.2.1 160 = .ok (.dup, 1) := by decide +kernel
theorem d_Sheet_init_161 : decode M_Sheet_init.2.1 161 = .ok (.iconst 4, 1) := by decide +kernel
theorem d_Sheet_init_162 : decode M_Sheet_init.2.1 162 = .ok (.bipush 10, 2) := by decide +kernel
theorem d_Sheet_init_164 : decode M_Sheet_init.2.1 164 = .ok (.iastore, 1) := by decide +kernel
theorem d_Sheet_init_165 : decode M_Sheet_init.2.1 165 = .ok (.dup, 1) := by decide +kernel
theorem d_Sheet_init_166 : decode M_Sheet_init.2.1 166 = .ok (.iconst 5, 1) := by decide +kernel
theorem d_Sheet_init_167 : decode M_Sheet_init.2.1 167 = .ok (.bipush 10, 2) := by decide +kernel
theorem d_Sheet_init_169 : decode M_Sheet_init.2.1 169 = .ok (.iastore, 1) := by decide +kernel
theorem d_Sheet_init_170 : decode M_Sheet_init.2.1 170 = .ok (.dup, 1) := by decide +kernel
theorem d_Sheet_init_171 : decode M_Sheet_init.2.1 171 = .ok (.bipush 6, 2) := by decide +kernel
theorem d_Sheet_init_173 : decode M_Sheet_init.2.1 173 = .ok (.bipush 10, 2) := by decide +kernel
theorem d_Sheet_init_175 : decode M_Sheet_init.2.1 175 = .ok (.iastore, 1) := by decide +kernel
theorem d_Sheet_init_176 : decode M_Sheet_init.2.1 176 = .ok (.dup, 1) := by decide +kernel
theorem d_Sheet_init_177 : decode M_Sheet_init.2.1 177 = .ok (.bipush 7, 2) := by decide +kernel
theorem d_Sheet_init_179 : decode M_Sheet_init.2.1 179 = .ok (.bipush 10, 2) := by decide +kernel
theorem d_Sheet_init_181 : decode M_Sheet_init.2.1 181 = .ok (.iastore, 1) := by decide +kernel
theorem d_Sheet_init_182 : decode M_Sheet_init.2.1 182 = .ok (.putfield 63, 3) := by decide +kernel
theorem d_Sheet_init_185 : decode M_Sheet_init.2.1 185 = .ok (.aload_n 0, 1) := by decide +kernel
theorem d_Sheet_init_186 : decode M_Sheet_init.2.1 186 = .ok (.bipush 20, 2) := by decide +kernel
theorem d_Sheet_init_188 : decode M_Sheet_init.2.1 188 = .ok (.newarray .int, 2) := by decide +kernel
theorem d_Sheet_init_190 : decode M_Sheet_init.2.1 190 = .ok (.putfield 66, 3) := by decide +kernel
theorem d_Sheet_init_193 : decode M_Sheet_init.2.1 193 = .ok (.aload_n 0, 1) := by decide +kernel
theorem d_Sheet_init_194 : decode M_Sheet_init.2.1 194 = .ok (.bipush 20, 2) := by decide +kernel
theorem d_Sheet_init_196 : decode M_Sheet_init.2.1 196 = .ok (.newarray .int, 2) := by decide +kernel
theorem d_Sheet_init_198 : decode M_Sheet_init.2.1 198 = .ok (.putfield 69, 3) := by decide +kernel
theorem d_Sheet_init_201 : decode M_Sheet_init.2.1 201 = .ok (.aload_n 0, 1) := by decide +kernel
theorem d_Sheet_init_202 : decode M_Sheet_init.2.1 202 = .ok (.bipush 20, 2) := by decide +kernel
theorem d_Sheet_init_204 : decode M_Sheet_init.2.1 204 = .ok (.newarray .int, 2) := by decide +kernel
theorem d_Sheet_init_206 : decode M_Sheet_init.2.1 206 = .ok (.putfield 72, 3) := by decide +kernel
theorem d_Sheet_init_209 : decode M_Sheet_init.2.1 209 = .ok (.aload_n 0, 1) := by decide +kernel
theorem d_Sheet_init_210 : decode M_Sheet_init.2.1 210 = .ok (.bipush 20, 2) := by decide +kernel
theorem d_Sheet_init_212 : decode M_Sheet_init.2.1 212 = .ok (.newarray .int, 2) := by decide +kernel
theorem d_Sheet_init_214 : decode M_Sheet_init.2.1 214 = .ok (.putfield 75, 3) := by decide +kernel
theorem d_Sheet_init_217 : decode M_Sheet_init.2.1 217 = .ok (.aload_n 0, 1) := by decide +kernel
theorem d_Sheet_init_218 : decode M_Sheet_init.2.1 218 = .ok (.bipush 20, 2) := by decide +kernel
theorem d_Sheet_init_220 : decode M_Sheet_init.2.1 220 = .ok (.newarray .int, 2) := by decide +kernel
theorem d_Sheet_init_222 : decode M_Sheet_init.2.1 222 = .ok (.putfield 78, 3) := by decide +kernel
theorem d_Sheet_init_225 : decode M_Sheet_init.2.1 225 = .ok (.return_, 1) := by decide +kernel
set_option maxRecDepth 100000 in
set_option maxHeartbeats 800000 in
theorem c_Sheet_init {Γ : G9} {h : AH} {t : Nat} (h0 : h t = some (.inr (9, [.null, .null, .null, .null, .null, .null, .int 0, .null, .null, .null, .null, .null, .null, .null, .null, .null, .null, .null, .null, .int 0, .int 0, .null, .null, .null, .null, .null]))) : Call Γ M_Sheet_init 1 23 1846 [.ref t] h (t + 1) (fun v h2 z2 => v = none ∧ h2 = blk h t 24 (shC Γ t sh0) ∧ z2 = t + 24) noX := by
  refine Call.of_go (L := [some (.ref t)]) (by decide +kernel) rfl (by exact Nat.le_of_ble_eq_true rfl) ?_
  refine Go.heq (ct_start h0) ?_
  refine Go.aload_0 d_Sheet_init_0 rfl ?_
  refine Go.objInit d_Sheet_init_1 rfl l_Sheet_3 q_obj1 q_obj2 (by decide) rfl ?_
  refine Go.aload_0 d_Sheet_init_4 rfl ?_
  refine Go.sipush (v := 401) d_Sheet_init_5 rfl (by decide) ?_
  refine Go.newI (C1 := 22) (S1 := 1445) (N := 401) d_Sheet_init_8 rfl rfl (by decide) (by decide) (by decide) ?_
  refine Go.heq (ct_push (n := 0) (by omega)) ?_
  refine Go.putfield d_Sheet_init_10 rfl f_Sheet_9_p (Or.inr ⟨rfl, fun C T N h => by cases h; exact ⟨rfl, rfl⟩⟩) hup_at (by exact Nat.le_of_ble_eq_true rfl) rfl rfl ?_
  refine Go.heq hup_hup ?_
  simp only [List.set_cons_succ, List.set_cons_zero]
  refine Go.aload_0 d_Sheet_init_13 rfl ?_
  refine Go.sipush (v := 401) d_Sheet_init_14 rfl (by decide) ?_
  refine Go.newI (C1 := 21) (S1 := 1044) (N := 401) d_Sheet_init_17 rfl rfl (by decide) (by decide) (by decide) ?_
  refine Go.heq (ct_push (n := 1) (by omega)) ?_
  refine Go.putfield d_Sheet_init_19 rfl f_Sheet_15_p (Or.inr ⟨rfl, fun C T N h => by cases h; exact ⟨rfl, rfl⟩⟩) hup_at (by exact Nat.le_of_ble_eq_true rfl) rfl rfl ?_
  refine Go.heq hup_hup ?_
  simp only [List.set_cons_succ, List.set_cons_zero]
  refine Go.aload_0 d_Sheet_init_22 rfl ?_
  refine Go.sipush (v := 401) d_Sheet_init_23 rfl (by decide) ?_
  refine Go.newI (C1 := 20) (S1 := 643) (N := 401) d_Sheet_init_26 rfl rfl (by decide) (by decide) (by decide) ?_
  refine Go.heq (ct_push (n := 2) (by omega)) ?_
  refine Go.putfield d_Sheet_init_28 rfl f_Sheet_18_p (Or.inr ⟨rfl, fun C T N h => by cases h; exact ⟨rfl, rfl⟩⟩) hup_at (by exact Nat.le_of_ble_eq_true rfl) rfl rfl ?_
  refine Go.heq hup_hup ?_
  simp only [List.set_cons_succ, List.set_cons_zero]
  refine Go.aload_0 d_Sheet_init_31 rfl ?_
  refine Go.sipush (v := 401) d_Sheet_init_32 rfl (by decide) ?_
  refine Go.newI (C1 := 19) (S1 := 242) (N := 401) d_Sheet_init_35 rfl rfl (by decide) (by decide) (by decide) ?_
  refine Go.heq (ct_push (n := 3) (by omega)) ?_
  refine Go.putfield d_Sheet_init_37 rfl f_Sheet_21_p (Or.inr ⟨rfl, fun C T N h => by cases h; exact ⟨rfl, rfl⟩⟩) hup_at (by exact Nat.le_of_ble_eq_true rfl) rfl rfl ?_
  refine Go.heq hup_hup ?_
  simp only [List.set_cons_succ, List.set_cons_zero]
  refine Go.aload_0 d_Sheet_init_40 rfl ?_
  refine Go.bipush (v := 12) d_Sheet_init_41 rfl (by decide) ?_
  refine Go.newI (C1 := 18) (S1 := 230) (N := 12) d_Sheet_init_43 rfl rfl (by decide) (by decide) (by decide) ?_
  refine Go.heq (ct_push (n := 4) (by omega)) ?_
  refine Go.putfield d_Sheet_init_45 rfl f_Sheet_24_p (Or.inr ⟨rfl, fun C T N h => by cases h; exact ⟨rfl, rfl⟩⟩) hup_at (by exact Nat.le_of_ble_eq_true rfl) rfl rfl ?_
  refine Go.heq hup_hup ?_
  simp only [List.set_cons_succ, List.set_cons_zero]
  refine Go.aload_0 d_Sheet_init_48 rfl ?_
  refine Go.bipush (v := 72) d_Sheet_init_49 rfl (by decide) ?_
  refine Go.newI (C1 := 17) (S1 := 158) (N := 72) d_Sheet_init_51 rfl rfl (by decide) (by decide) (by decide) ?_
  refine Go.heq (ct_push (n := 5) (by omega)) ?_
  refine Go.putfield d_Sheet_init_53 rfl f_Sheet_27_p (Or.inr ⟨rfl, fun C T N h => by cases h; exact ⟨rfl, rfl⟩⟩) hup_at (by exact Nat.le_of_ble_eq_true rfl) rfl rfl ?_
  refine Go.heq hup_hup ?_
  simp only [List.set_cons_succ, List.set_cons_zero]
  refine Go.aload_0 d_Sheet_init_56 rfl ?_
  refine Go.iconst (v := 5) d_Sheet_init_57 rfl (by decide) ?_
  refine Go.newI (C1 := 16) (S1 := 153) (N := 5) d_Sheet_init_58 rfl rfl (by decide) (by decide) (by decide) ?_
  refine Go.heq (ct_push (n := 6) (by omega)) ?_
  refine Go.putfield d_Sheet_init_60 rfl f_Sheet_30_p (Or.inr ⟨rfl, fun C T N h => by cases h; exact ⟨rfl, rfl⟩⟩) hup_at (by exact Nat.le_of_ble_eq_true rfl) rfl rfl ?_
  refine Go.heq hup_hup ?_
  simp only [List.set_cons_succ, List.set_cons_zero]
  refine Go.aload_0 d_Sheet_init_63 rfl ?_
  refine Go.iconst (v := 5) d_Sheet_init_64 rfl (by decide) ?_
  refine Go.newI (C1 := 15) (S1 := 148) (N := 5) d_Sheet_init_65 rfl rfl (by decide) (by decide) (by decide) ?_
  refine Go.heq (ct_push (n := 7) (by omega)) ?_
  refine Go.putfield d_Sheet_init_67 rfl f_Sheet_33_p (Or.inr ⟨rfl, fun C T N h => by cases h; exact ⟨rfl, rfl⟩⟩) hup_at (by exact Nat.le_of_ble_eq_true rfl) rfl rfl ?_
  refine Go.heq hup_hup ?_
  simp only [List.set_cons_succ, List.set_cons_zero]
  refine Go.aload_0 d_Sheet_init_70 rfl ?_
  refine Go.bipush (v := 6) d_Sheet_init_71 rfl (by decide) ?_
  refine Go.newI (C1 := 14) (S1 := 142) (N := 6) d_Sheet_init_73 rfl rfl (by decide) (by decide) (by decide) ?_
  refine Go.heq (ct_push (n := 8) (by omega)) ?_
  refine Go.putfield d_Sheet_init_75 rfl f_Sheet_36_p (Or.inr ⟨rfl, fun C T N h => by cases h; exact ⟨rfl, rfl⟩⟩) hup_at (by exact Nat.le_of_ble_eq_true rfl) rfl rfl ?_
  refine Go.heq hup_hup ?_
  simp only [List.set_cons_succ, List.set_cons_zero]
  refine Go.aload_0 d_Sheet_init_78 rfl ?_
  refine Go.bipush (v := 6) d_Sheet_init_79 rfl (by decide) ?_
  refine Go.newI (C1 := 13) (S1 := 136) (N := 6) d_Sheet_init_81 rfl rfl (by decide) (by decide) (by decide) ?_
  refine Go.heq (ct_push (n := 9) (by omega)) ?_
  refine Go.putfield d_Sheet_init_83 rfl f_Sheet_39_p (Or.inr ⟨rfl, fun C T N h => by cases h; exact ⟨rfl, rfl⟩⟩) hup_at (by exact Nat.le_of_ble_eq_true rfl) rfl rfl ?_
  refine Go.heq hup_hup ?_
  simp only [List.set_cons_succ, List.set_cons_zero]
  refine Go.aload_0 d_Sheet_init_86 rfl ?_
  refine Go.iconst (v := 4) d_Sheet_init_87 rfl (by decide) ?_
  refine Go.newI (C1 := 12) (S1 := 132) (N := 4) d_Sheet_init_88 rfl rfl (by decide) (by decide) (by decide) ?_
  refine Go.heq (ct_push (n := 10) (by omega)) ?_
  refine Go.putfield d_Sheet_init_90 rfl f_Sheet_42_p (Or.inr ⟨rfl, fun C T N h => by cases h; exact ⟨rfl, rfl⟩⟩) hup_at (by exact Nat.le_of_ble_eq_true rfl) rfl rfl ?_
  refine Go.heq hup_hup ?_
  simp only [List.set_cons_succ, List.set_cons_zero]
  refine Go.aload_0 d_Sheet_init_93 rfl ?_
  refine Go.iconst (v := 4) d_Sheet_init_94 rfl (by decide) ?_
  refine Go.newI (C1 := 11) (S1 := 128) (N := 4) d_Sheet_init_95 rfl rfl (by decide) (by decide) (by decide) ?_
  refine Go.heq (ct_push (n := 11) (by omega)) ?_
  refine Go.putfield d_Sheet_init_97 rfl f_Sheet_45_p (Or.inr ⟨rfl, fun C T N h => by cases h; exact ⟨rfl, rfl⟩⟩) hup_at (by exact Nat.le_of_ble_eq_true rfl) rfl rfl ?_
  refine Go.heq hup_hup ?_
  simp only [List.set_cons_succ, List.set_cons_zero]
  refine Go.aload_0 d_Sheet_init_100 rfl ?_
  refine Go.iconst (v := 4) d_Sheet_init_101 rfl (by decide) ?_
  refine Go.newI (C1 := 10) (S1 := 124) (N := 4) d_Sheet_init_102 rfl rfl (by decide) (by decide) (by decide) ?_
  refine Go.heq (ct_push (n := 12) (by omega)) ?_
  refine Go.putfield d_Sheet_init_104 rfl f_Sheet_48_p (Or.inr ⟨rfl, fun C T N h => by cases h; exact ⟨rfl, rfl⟩⟩) hup_at (by exact Nat.le_of_ble_eq_true rfl) rfl rfl ?_
  refine Go.heq hup_hup ?_
  simp only [List.set_cons_succ, List.set_cons_zero]
  refine Go.aload_0 d_Sheet_init_107 rfl ?_
  refine Go.iconst (v := 4) d_Sheet_init_108 rfl (by decide) ?_
  refine Go.newI (C1 := 9) (S1 := 120) (N := 4) d_Sheet_init_109 rfl rfl (by decide) (by decide) (by decide) ?_
  refine Go.heq (ct_push (n := 13) (by omega)) ?_
  refine Go.putfield d_Sheet_init_111 rfl f_Sheet_51_p (Or.inr ⟨rfl, fun C T N h => by cases h; exact ⟨rfl, rfl⟩⟩) hup_at (by exact Nat.le_of_ble_eq_true rfl) rfl rfl ?_
  refine Go.heq hup_hup ?_
  simp only [List.set_cons_succ, List.set_cons_zero]
  refine Go.aload_0 d_Sheet_init_114 rfl ?_
  refine Go.iconst (v := 4) d_Sheet_init_115 rfl (by decide) ?_
  refine Go.newI (C1 := 8) (S1 := 116) (N := 4) d_Sheet_init_116 rfl rfl (by decide) (by decide) (by decide) ?_
  refine Go.heq (ct_push (n := 14) (by omega)) ?_
  refine Go.putfield d_Sheet_init_118 rfl f_Sheet_54_p (Or.inr ⟨rfl, fun C T N h => by cases h; exact ⟨rfl, rfl⟩⟩) hup_at (by exact Nat.le_of_ble_eq_true rfl) rfl rfl ?_
  refine Go.heq hup_hup ?_
  simp only [List.set_cons_succ, List.set_cons_zero]
  refine Go.aload_0 d_Sheet_init_121 rfl ?_
  refine Go.iconst (v := 4) d_Sheet_init_122 rfl (by decide) ?_
  refine Go.newI (C1 := 7) (S1 := 112) (N := 4) d_Sheet_init_123 rfl rfl (by decide) (by decide) (by decide) ?_
  refine Go.heq (ct_push (n := 15) (by omega)) ?_
  refine Go.putfield d_Sheet_init_125 rfl f_Sheet_57_p (Or.inr ⟨rfl, fun C T N h => by cases h; exact ⟨rfl, rfl⟩⟩) hup_at (by exact Nat.le_of_ble_eq_true rfl) rfl rfl ?_
  refine Go.heq hup_hup ?_
  simp only [List.set_cons_succ, List.set_cons_zero]
  refine Go.aload_0 d_Sheet_init_128 rfl ?_
  refine Go.iconst (v := 4) d_Sheet_init_129 rfl (by decide) ?_
  refine Go.newI (C1 := 6) (S1 := 108) (N := 4) d_Sheet_init_130 rfl rfl (by decide) (by decide) (by decide) ?_
  refine Go.heq (ct_push (n := 16) (by omega)) ?_
  refine Go.putfield d_Sheet_init_132 rfl f_Sheet_60_p (Or.inr ⟨rfl, fun C T N h => by cases h; exact ⟨rfl, rfl⟩⟩) hup_at (by exact Nat.le_of_ble_eq_true rfl) rfl rfl ?_
  refine Go.heq hup_hup ?_
  simp only [List.set_cons_succ, List.set_cons_zero]
  refine Go.aload_0 d_Sheet_init_135 rfl ?_
  refine Go.bipush (v := 8) d_Sheet_init_136 rfl (by decide) ?_
  refine Go.newI (C1 := 5) (S1 := 100) (N := 8) d_Sheet_init_138 rfl rfl (by decide) (by decide) (by decide) ?_
  refine Go.dup d_Sheet_init_140 rfl rfl ?_
  refine Go.iconst (v := 0) d_Sheet_init_141 rfl (by decide) ?_
  refine Go.bipush (v := 10) d_Sheet_init_142 rfl (by decide) ?_
  refine Go.iastore d_Sheet_init_144 rfl hup_at (show vp_in (nI 0) 8 from vp_in_nI (by decide) (by decide)) ?_
  refine Go.heq hup_hup ?_
  refine Go.dup d_Sheet_init_145 rfl rfl ?_
  refine Go.iconst (v := 1) d_Sheet_init_146 rfl (by decide) ?_
  refine Go.bipush (v := 10) d_Sheet_init_147 rfl (by decide) ?_
  refine Go.iastore d_Sheet_init_149 rfl hup_at (show vp_in (nI 1) 8 from vp_in_nI (by decide) (by decide)) ?_
  refine Go.heq hup_hup ?_
  refine Go.dup d_Sheet_init_150 rfl rfl ?_
  refine Go.iconst (v := 2) d_Sheet_init_151 rfl (by decide) ?_
  refine Go.bipush (v := 10) d_Sheet_init_152 rfl (by decide) ?_
  refine Go.iastore d_Sheet_init_154 rfl hup_at (show vp_in (nI 2) 8 from vp_in_nI (by decide) (by decide)) ?_
  refine Go.heq hup_hup ?_
  refine Go.dup d_Sheet_init_155 rfl rfl ?_
  refine Go.iconst (v := 3) d_Sheet_init_156 rfl (by decide) ?_
  refine Go.bipush (v := 10) d_Sheet_init_157 rfl (by decide) ?_
  refine Go.iastore d_Sheet_init_159 rfl hup_at (show vp_in (nI 3) 8 from vp_in_nI (by decide) (by decide)) ?_
  refine Go.heq hup_hup ?_
  refine Go.dup d_Sheet_init_160 rfl rfl ?_
  refine Go.iconst (v := 4) d_Sheet_init_161 rfl (by decide) ?_
  refine Go.bipush (v := 10) d_Sheet_init_162 rfl (by decide) ?_
  refine Go.iastore d_Sheet_init_164 rfl hup_at (show vp_in (nI 4) 8 from vp_in_nI (by decide) (by decide)) ?_
  refine Go.heq hup_hup ?_
  refine Go.dup d_Sheet_init_165 rfl rfl ?_
  refine Go.iconst (v := 5) d_Sheet_init_166 rfl (by decide) ?_
  refine Go.bipush (v := 10) d_Sheet_init_167 rfl (by decide) ?_
  refine Go.iastore d_Sheet_init_169 rfl hup_at (show vp_in (nI 5) 8 from vp_in_nI (by decide) (by decide)) ?_
  refine Go.heq hup_hup ?_
  refine Go.dup d_Sheet_init_170 rfl rfl ?_
  refine Go.bipush (v := 6) d_Sheet_init_171 rfl (by decide) ?_
  refine Go.bipush (v := 10) d_Sheet_init_173 rfl (by decide) ?_
  refine Go.iastore d_Sheet_init_175 rfl hup_at (show vp_in (nI 6) 8 from vp_in_nI (by decide) (by decide)) ?_
  refine Go.heq hup_hup ?_
  refine Go.dup d_Sheet_init_176 rfl rfl ?_
  refine Go.bipush (v := 7) d_Sheet_init_177 rfl (by decide) ?_
  refine Go.bipush (v := 10) d_Sheet_init_179 rfl (by decide) ?_
  refine Go.iastore d_Sheet_init_181 rfl hup_at (show vp_in (nI 7) 8 from vp_in_nI (by decide) (by decide)) ?_
  refine Go.heq hup_hup ?_
  refine Go.pic (g := fun _ => 10) hup_at (by decide +kernel) ?_
  refine Go.heq hup_hup ?_
  refine Go.heq (ct_push (n := 17) (by omega)) ?_
  refine Go.putfield d_Sheet_init_182 rfl f_Sheet_63_p (Or.inr ⟨rfl, fun C T N h => by cases h; exact ⟨rfl, rfl⟩⟩) hup_at (by exact Nat.le_of_ble_eq_true rfl) rfl rfl ?_
  refine Go.heq hup_hup ?_
  simp only [List.set_cons_succ, List.set_cons_zero]
  refine Go.aload_0 d_Sheet_init_185 rfl ?_
  refine Go.bipush (v := 20) d_Sheet_init_186 rfl (by decide) ?_
  refine Go.newI (C1 := 4) (S1 := 80) (N := 20) d_Sheet_init_188 rfl rfl (by decide) (by decide) (by decide) ?_
  refine Go.heq (ct_push (n := 18) (by omega)) ?_
  refine Go.putfield d_Sheet_init_190 rfl f_Sheet_66_p (Or.inr ⟨rfl, fun C T N h => by cases h; exact ⟨rfl, rfl⟩⟩) hup_at (by exact Nat.le_of_ble_eq_true rfl) rfl rfl ?_
  refine Go.heq hup_hup ?_
  simp only [List.set_cons_succ, List.set_cons_zero]
  refine Go.aload_0 d_Sheet_init_193 rfl ?_
  refine Go.bipush (v := 20) d_Sheet_init_194 rfl (by decide) ?_
  refine Go.newI (C1 := 3) (S1 := 60) (N := 20) d_Sheet_init_196 rfl rfl (by decide) (by decide) (by decide) ?_
  refine Go.heq (ct_push (n := 19) (by omega)) ?_
  refine Go.putfield d_Sheet_init_198 rfl f_Sheet_69_p (Or.inr ⟨rfl, fun C T N h => by cases h; exact ⟨rfl, rfl⟩⟩) hup_at (by exact Nat.le_of_ble_eq_true rfl) rfl rfl ?_
  refine Go.heq hup_hup ?_
  simp only [List.set_cons_succ, List.set_cons_zero]
  refine Go.aload_0 d_Sheet_init_201 rfl ?_
  refine Go.bipush (v := 20) d_Sheet_init_202 rfl (by decide) ?_
  refine Go.newI (C1 := 2) (S1 := 40) (N := 20) d_Sheet_init_204 rfl rfl (by decide) (by decide) (by decide) ?_
  refine Go.heq (ct_push (n := 20) (by omega)) ?_
  refine Go.putfield d_Sheet_init_206 rfl f_Sheet_72_p (Or.inr ⟨rfl, fun C T N h => by cases h; exact ⟨rfl, rfl⟩⟩) hup_at (by exact Nat.le_of_ble_eq_true rfl) rfl rfl ?_
  refine Go.heq hup_hup ?_
  simp only [List.set_cons_succ, List.set_cons_zero]
  refine Go.aload_0 d_Sheet_init_209 rfl ?_
  refine Go.bipush (v := 20) d_Sheet_init_210 rfl (by decide) ?_
  refine Go.newI (C1 := 1) (S1 := 20) (N := 20) d_Sheet_init_212 rfl rfl (by decide) (by decide) (by decide) ?_
  refine Go.heq (ct_push (n := 21) (by omega)) ?_
  refine Go.putfield d_Sheet_init_214 rfl f_Sheet_75_p (Or.inr ⟨rfl, fun C T N h => by cases h; exact ⟨rfl, rfl⟩⟩) hup_at (by exact Nat.le_of_ble_eq_true rfl) rfl rfl ?_
  refine Go.heq hup_hup ?_
  simp only [List.set_cons_succ, List.set_cons_zero]
  refine Go.aload_0 d_Sheet_init_217 rfl ?_
  refine Go.bipush (v := 20) d_Sheet_init_218 rfl (by decide) ?_
  refine Go.newI (C1 := 0) (S1 := 0) (N := 20) d_Sheet_init_220 rfl rfl (by decide) (by decide) (by decide) ?_
  refine Go.heq (ct_push (n := 22) (by omega)) ?_
  refine Go.putfield d_Sheet_init_222 rfl f_Sheet_78_p (Or.inr ⟨rfl, fun C T N h => by cases h; exact ⟨rfl, rfl⟩⟩) hup_at (by exact Nat.le_of_ble_eq_true rfl) rfl rfl ?_
  refine Go.heq hup_hup ?_
  simp only [List.set_cons_succ, List.set_cons_zero]
  refine Go.vret d_Sheet_init_225 rfl ⟨rfl, ?_, rfl⟩
  rw [blk_cons]
  refine blk_ext fun j hj => ?_
  match j, hj with
  | 0, _ => rfl
  | 1, _ => rfl
  | 2, _ => rfl
  | 3, _ => rfl
  | 4, _ => rfl
  | 5, _ => rfl
  | 6, _ => rfl
  | 7, _ => rfl
  | 8, _ => rfl
  | 9, _ => rfl
  | 10, _ => rfl
  | 11, _ => rfl
  | 12, _ => rfl
  | 13, _ => rfl
  | 14, _ => rfl
  | 15, _ => rfl
  | 16, _ => rfl
  | 17, _ => rfl
  | 18, _ => rfl
  | 19, _ => rfl
  | 20, _ => rfl
  | 21, _ => rfl
  | 22, _ => rfl
  | 23, _ => rfl
  | _ + 24, w => exact absurd w (by omega)
theorem d_State_init_0 : decode M_State_init.2.1 0 = .ok (.aload_n 0, 1) := by decide +kernel
theorem d_State_init_1 : decode M_State_init.2.1 1 = .ok (.invokespecial 3, 3) := by decide +kernel
theorem d_State_init_4 : decode M_State_init.2.1 4 = .ok (.aload_n 0, 1) := by decide +kernel
theorem d_State_init_5 : decode M_State_init.2.1 5 = .ok (.bipush 8, 2) := by decide +kernel
theorem d_State_init_7 : decode M_State_init.2.1 7 = .ok (.newarray .int, 2) := by decide +kernel
theorem d_State_init_9 : decode M_State_init.2.1 9 = .ok (.dup, 1) := by decide +kernel
theorem d_State_init_10 : decode M_State_init.2.1 10 = .ok (.iconst 0, 1) := by decide +kernel
theorem d_State_init_11 : decode M_State_init.2.1 11 = .ok (.bipush 10, 2) := by decide +kernel
theorem d_State_init_13 : decode M_State_init.2.1 13 = .ok (.iastore, 1) := by decide +kernel
theorem d_State_init_14 : decode M_State_init.2.1 14 = .ok (.dup, 1) := by decide +kernel
theorem d_State_init_15 : decode M_State_init.2.1 15 = .ok (.iconst 1, 1) := by decide +kernel
theorem d_State_init_16 : decode M_State_init.2.1 16 = .ok (.bipush 10, 2) := by decide +kernel
theorem d_State_init_18 : decode M_State_init.2.1 18 = .ok (.iastore, 1) := by decide +kernel
theorem d_State_init_19 : decode M_State_init.2.1 19 = .ok (.dup, 1) := by decide +kernel
theorem d_State_init_20 : decode M_State_init.2.1 20 = .ok (.iconst 2, 1) := by decide +kernel
theorem d_State_init_21 : decode M_State_init.2.1 21 = .ok (.bipush 10, 2) := by decide +kernel
theorem d_State_init_23 : decode M_State_init.2.1 23 = .ok (.iastore, 1) := by decide +kernel
theorem d_State_init_24 : decode M_State_init.2.1 24 = .ok (.dup, 1) := by decide +kernel
theorem d_State_init_25 : decode M_State_init.2.1 25 = .ok (.iconst 3, 1) := by decide +kernel
theorem d_State_init_26 : decode M_State_init.2.1 26 = .ok (.bipush 10, 2) := by decide +kernel
theorem d_State_init_28 : decode M_State_init.2.1 28 = .ok (.iastore, 1) := by decide +kernel
theorem d_State_init_29 : decode M_State_init.2.1 29 = .ok (.dup, 1) := by decide +kernel
theorem d_State_init_30 : decode M_State_init.2.1 30 = .ok (.iconst 4, 1) := by decide +kernel
theorem d_State_init_31 : decode M_State_init.2.1 31 = .ok (.bipush 10, 2) := by decide +kernel
theorem d_State_init_33 : decode M_State_init.2.1 33 = .ok (.iastore, 1) := by decide +kernel
theorem d_State_init_34 : decode M_State_init.2.1 34 = .ok (.dup, 1) := by decide +kernel
theorem d_State_init_35 : decode M_State_init.2.1 35 = .ok (.iconst 5, 1) := by decide +kernel
theorem d_State_init_36 : decode M_State_init.2.1 36 = .ok (.bipush 10, 2) := by decide +kernel
theorem d_State_init_38 : decode M_State_init.2.1 38 = .ok (.iastore, 1) := by decide +kernel
theorem d_State_init_39 : decode M_State_init.2.1 39 = .ok (.dup, 1) := by decide +kernel
theorem d_State_init_40 : decode M_State_init.2.1 40 = .ok (.bipush 6, 2) := by decide +kernel
theorem d_State_init_42 : decode M_State_init.2.1 42 = .ok (.bipush 10, 2) := by decide +kernel
theorem d_State_init_44 : decode M_State_init.2.1 44 = .ok (.iastore, 1) := by decide +kernel
theorem d_State_init_45 : decode M_State_init.2.1 45 = .ok (.dup, 1) := by decide +kernel
theorem d_State_init_46 : decode M_State_init.2.1 46 = .ok (.bipush 7, 2) := by decide +kernel
theorem d_State_init_48 : decode M_State_init.2.1 48 = .ok (.bipush 10, 2) := by decide +kernel
theorem d_State_init_50 : decode M_State_init.2.1 50 = .ok (.iastore, 1) := by decide +kernel
theorem d_State_init_51 : decode M_State_init.2.1 51 = .ok (.putfield 9, 3) := by decide +kernel
theorem d_State_init_54 : decode M_State_init.2.1 54 = .ok (.aload_n 0, 1) := by decide +kernel
theorem d_State_init_55 : decode M_State_init.2.1 55 = .ok (.iconst 5, 1) := by decide +kernel
theorem d_State_init_56 : decode M_State_init.2.1 56 = .ok (.newarray .int, 2) := by decide +kernel
theorem d_State_init_58 : decode M_State_init.2.1 58 = .ok (.putfield 15, 3) := by decide +kernel
theorem d_State_init_61 : decode M_State_init.2.1 61 = .ok (.aload_n 0, 1) := by decide +kernel
theorem d_State_init_62 : decode M_State_init.2.1 62 = .ok (.iconst 5, 1) := by decide +kernel
theorem d_State_init_63 : decode M_State_init.2.1 63 = .ok (.newarray .int, 2) := by decide +kernel
theorem d_State_init_65 : decode M_State_init.2.1 65 = .ok (.putfield 18, 3) := by decide +kernel
theorem d_State_init_68 : decode M_State_init.2.1 68 = .ok (.aload_n 0, 1) := by decide +kernel
theorem d_State_init_69 : decode M_State_init.2.1 69 = .ok (.bipush 6, 2) := by decide +kernel
theorem d_State_init_71 : decode M_State_init.2.1 71 = .ok (.newarray .int, 2) := by decide +kernel
theorem d_State_init_73 : decode M_State_init.2.1 73 = .ok (.putfield 21, 3) := by decide +kernel
theorem d_State_init_76 : decode M_State_init.2.1 76 = .ok (.aload_n 0, 1) := by decide +kernel
theorem d_State_init_77 : decode M_State_init.2.1 77 = .ok (.bipush 6, 2) := by decide +kernel
theorem d_State_init_79 : decode M_State_init.2.1 79 = .ok (.newarray .int, 2) := by decide +kernel
theorem d_State_init_81 : decode M_State_init.2.1 81 = .ok (.putfield 24, 3) := by decide +kernel
theorem d_State_init_84 : decode M_State_init.2.1 84 = .ok (.aload_n 0, 1) := by decide +kernel
theorem d_State_init_85 : decode M_State_init.2.1 85 = .ok (.bipush 6, 2) := by decide +kernel
theorem d_State_init_87 : decode M_State_init.2.1 87 = .ok (.newarray .int, 2) := by decide +kernel
theorem d_State_init_89 : decode M_State_init.2.1 89 = .ok (.putfield 27, 3) := by decide +kernel
theorem d_State_init_92 : decode M_State_init.2.1 92 = .ok (.aload_n 0, 1) := by decide +kernel
theorem d_State_init_93 : decode M_State_init.2.1 93 = .ok (.bipush 6, 2) := by decide +kernel
theorem d_State_init_95 : decode M_State_init.2.1 95 = .ok (.newarray .int, 2) := by decide +kernel
theorem d_State_init_97 : decode M_State_init.2.1 97 = .ok (.putfield 30, 3) := by decide +kernel
theorem d_State_init_100 : decode M_State_init.2.1 100 = .ok (.aload_n 0, 1) := by decide +kernel
theorem d_State_init_101 : decode M_State_init.2.1 101 = .ok (.iconst 4, 1) := by decide +kernel
theorem d_State_init_102 : decode M_State_init.2.1 102 = .ok (.newarray .int, 2) := by decide +kernel
theorem d_State_init_104 : decode M_State_init.2.1 104 = .ok (.putfield 33, 3) := by decide +kernel
theorem d_State_init_107 : decode M_State_init.2.1 107 = .ok (.aload_n 0, 1) := by decide +kernel
theorem d_State_init_108 : decode M_State_init.2.1 108 = .ok (.iconst 4, 1) := by decide +kernel
theorem d_State_init_109 : decode M_State_init.2.1 109 = .ok (.newarray .int, 2) := by decide +kernel
theorem d_State_init_111 : decode M_State_init.2.1 111 = .ok (.putfield 36, 3) := by decide +kernel
theorem d_State_init_114 : decode M_State_init.2.1 114 = .ok (.aload_n 0, 1) := by decide +kernel
theorem d_State_init_115 : decode M_State_init.2.1 115 = .ok (.iconst 4, 1) := by decide +kernel
theorem d_State_init_116 : decode M_State_init.2.1 116 = .ok (.newarray .int, 2) := by decide +kernel
theorem d_State_init_118 : decode M_State_init.2.1 118 = .ok (.putfield 39, 3) := by decide +kernel
theorem d_State_init_121 : decode M_State_init.2.1 121 = .ok (.aload_n 0, 1) := by decide +kernel
theorem d_State_init_122 : decode M_State_init.2.1 122 = .ok (.iconst 4, 1) := by decide +kernel
theorem d_State_init_123 : decode M_State_init.2.1 123 = .ok (.newarray .int, 2) := by decide +kernel
theorem d_State_init_125 : decode M_State_init.2.1 125 = .ok (.putfield 42, 3) := by decide +kernel
theorem d_State_init_128 : decode M_State_init.2.1 128 = .ok (.aload_n 0, 1) := by decide +kernel
theorem d_State_init_129 : decode M_State_init.2.1 129 = .ok (.iconst 4, 1) := by decide +kernel
theorem d_State_init_130 : decode M_State_init.2.1 130 = .ok (.newarray .int, 2) := by decide +kernel
theorem d_State_init_132 : decode M_State_init.2.1 132 = .ok (.putfield 45, 3) := by decide +kernel
theorem d_State_init_135 : decode M_State_init.2.1 135 = .ok (.aload_n 0, 1) := by decide +kernel
theorem d_State_init_136 : decode M_State_init.2.1 136 = .ok (.iconst 4, 1) := by decide +kernel
theorem d_State_init_137 : decode M_State_init.2.1 137 = .ok (.newarray .int, 2) := by decide +kernel
theorem d_State_init_139 : decode M_State_init.2.1 139 = .ok (.putfield 48, 3) := by decide +kernel
theorem d_State_init_142 : decode M_State_init.2.1 142 = .ok (.aload_n 0, 1) := by decide +kernel
theorem d_State_init_143 : decode M_State_init.2.1 143 = .ok (.iconst 4, 1) := by decide +kernel
theorem d_State_init_144 : decode M_State_init.2.1 144 = .ok (.newarray .int, 2) := by decide +kernel
theorem d_State_init_146 : decode M_State_init.2.1 146 = .ok (.putfield 51, 3) := by decide +kernel
theorem d_State_init_149 : decode M_State_init.2.1 149 = .ok (.aload_n 0, 1) := by decide +kernel
theorem d_State_init_150 : decode M_State_init.2.1 150 = .ok (.iconst 4, 1) := by decide +kernel
theorem d_State_init_151 : decode M_State_init.2.1 151 = .ok (.newarray .int, 2) := by decide +kernel
theorem d_State_init_153 : decode M_State_init.2.1 153 = .ok (.putfield 54, 3) := by decide +kernel
theorem d_State_init_156 : decode M_State_init.2.1 156 = .ok (.aload_n 0, 1) := by decide +kernel
theorem d_State_init_157 : decode M_State_init.2.1 157 = .ok (.iconst 4, 1) := by decide +kernel
theorem d_State_init_158 : decode M_State_init.2.1 158 = .ok (.newarray .int, 2) := by decide +kernel
theorem d_State_init_160 : decode M_State_init.2.1 160 = .ok (.putfield 57, 3) := by decide +kernel
theorem d_State_init_163 : decode M_State_init.2.1 163 = .ok (.aload_n 0, 1) := by decide +kernel
theorem d_State_init_164 : decode M_State_init.2.1 164 = .ok (.iconst 4, 1) := by decide +kernel
theorem d_State_init_165 : decode M_State_init.2.1 165 = .ok (.newarray .int, 2) := by decide +kernel
theorem d_State_init_167 : decode M_State_init.2.1 167 = .ok (.putfield 60, 3) := by decide +kernel
theorem d_State_init_170 : decode M_State_init.2.1 170 = .ok (.aload_n 0, 1) := by decide +kernel
theorem d_State_init_171 : decode M_State_init.2.1 171 = .ok (.iconst 4, 1) := by decide +kernel
theorem d_State_init_172 : decode M_State_init.2.1 172 = .ok (.newarray .int, 2) := by decide +kernel
theorem d_State_init_174 : decode M_State_init.2.1 174 = .ok (.putfield 63, 3) := by decide +kernel
theorem d_State_init_177 : decode M_State_init.2.1 177 = .ok (.aload_n 0, 1) := by decide +kernel
theorem d_State_init_178 : decode M_State_init.2.1 178 = .ok (.iconst 4, 1) := by decide +kernel
theorem d_State_init_179 : decode M_State_init.2.1 179 = .ok (.newarray .int, 2) := by decide +kernel
theorem d_State_init_181 : decode M_State_init.2.1 181 = .ok (.putfield 66, 3) := by decide +kernel
theorem d_State_init_184 : decode M_State_init.2.1 184 = .ok (.aload_n 0, 1) := by decide +kernel
theorem d_State_init_185 : decode M_State_init.2.1 185 = .ok (.iconst 4, 1) := by decide +kernel
theorem d_State_init_186 : decode M_State_init.2.1 186 = .ok (.newarray .int, 2) := by decide +kernel
theorem d_State_init_188 : decode M_State_init.2.1 188 = .ok (.putfield 69, 3) := by decide +kernel
theorem d_State_init_191 : decode M_State_init.2.1 191 = .ok (.return_, 1) := by decide +kernel
set_option maxRecDepth 100000 in
set_option maxHeartbeats 800000 in
theorem c_State_init {Γ : G9} {h : AH} {t : Nat} (h0 : h t = some (.inr (10, [.int 0, .int 0, .int 0, .int 0, .null, .null, .null, .null, .null, .null, .null, .null, .null, .null, .null, .null, .null, .null, .null, .null, .null, .null, .null, .null]))) : Call Γ M_State_init 1 20 94 [.ref t] h (t + 1) (fun v h2 z2 => v = none ∧ h2 = blk h t 21 (sxC Γ t sx0) ∧ z2 = t + 21) noX := by
  refine Call.of_go (L := [some (.ref t)]) (by decide +kernel) rfl (by exact Nat.le_of_ble_eq_true rfl) ?_
  refine Go.heq (ct_start h0) ?_
  refine Go.aload_0 d_State_init_0 rfl ?_
  refine Go.objInit d_State_init_1 rfl l_State_3 q_obj1 q_obj2 (by decide) rfl ?_
  refine Go.aload_0 d_State_init_4 rfl ?_
  refine Go.bipush (v := 8) d_State_init_5 rfl (by decide) ?_
  refine Go.newI (C1 := 19) (S1 := 86) (N := 8) d_State_init_7 rfl rfl (by decide) (by decide) (by decide) ?_
  refine Go.dup d_State_init_9 rfl rfl ?_
  refine Go.iconst (v := 0) d_State_init_10 rfl (by decide) ?_
  refine Go.bipush (v := 10) d_State_init_11 rfl (by decide) ?_
  refine Go.iastore d_State_init_13 rfl hup_at (show vp_in (nI 0) 8 from vp_in_nI (by decide) (by decide)) ?_
  refine Go.heq hup_hup ?_
  refine Go.dup d_State_init_14 rfl rfl ?_
  refine Go.iconst (v := 1) d_State_init_15 rfl (by decide) ?_
  refine Go.bipush (v := 10) d_State_init_16 rfl (by decide) ?_
  refine Go.iastore d_State_init_18 rfl hup_at (show vp_in (nI 1) 8 from vp_in_nI (by decide) (by decide)) ?_
  refine Go.heq hup_hup ?_
  refine Go.dup d_State_init_19 rfl rfl ?_
  refine Go.iconst (v := 2) d_State_init_20 rfl (by decide) ?_
  refine Go.bipush (v := 10) d_State_init_21 rfl (by decide) ?_
  refine Go.iastore d_State_init_23 rfl hup_at (show vp_in (nI 2) 8 from vp_in_nI (by decide) (by decide)) ?_
  refine Go.heq hup_hup ?_
  refine Go.dup d_State_init_24 rfl rfl ?_
  refine Go.iconst (v := 3) d_State_init_25 rfl (by decide) ?_
  refine Go.bipush (v := 10) d_State_init_26 rfl (by decide) ?_
  refine Go.iastore d_State_init_28 rfl hup_at (show vp_in (nI 3) 8 from vp_in_nI (by decide) (by decide)) ?_
  refine Go.heq hup_hup ?_
  refine Go.dup d_State_init_29 rfl rfl ?_
  refine Go.iconst (v := 4) d_State_init_30 rfl (by decide) ?_
  refine Go.bipush (v := 10) d_State_init_31 rfl (by decide) ?_
  refine Go.iastore d_State_init_33 rfl hup_at (show vp_in (nI 4) 8 from vp_in_nI (by decide) (by decide)) ?_
  refine Go.heq hup_hup ?_
  refine Go.dup d_State_init_34 rfl rfl ?_
  refine Go.iconst (v := 5) d_State_init_35 rfl (by decide) ?_
  refine Go.bipush (v := 10) d_State_init_36 rfl (by decide) ?_
  refine Go.iastore d_State_init_38 rfl hup_at (show vp_in (nI 5) 8 from vp_in_nI (by decide) (by decide)) ?_
  refine Go.heq hup_hup ?_
  refine Go.dup d_State_init_39 rfl rfl ?_
  refine Go.bipush (v := 6) d_State_init_40 rfl (by decide) ?_
  refine Go.bipush (v := 10) d_State_init_42 rfl (by decide) ?_
  refine Go.iastore d_State_init_44 rfl hup_at (show vp_in (nI 6) 8 from vp_in_nI (by decide) (by decide)) ?_
  refine Go.heq hup_hup ?_
  refine Go.dup d_State_init_45 rfl rfl ?_
  refine Go.bipush (v := 7) d_State_init_46 rfl (by decide) ?_
  refine Go.bipush (v := 10) d_State_init_48 rfl (by decide) ?_
  refine Go.iastore d_State_init_50 rfl hup_at (show vp_in (nI 7) 8 from vp_in_nI (by decide) (by decide)) ?_
  refine Go.heq hup_hup ?_
  refine Go.pic (g := fun _ => 10) hup_at (by decide +kernel) ?_
  refine Go.heq hup_hup ?_
  refine Go.heq (ct_push (n := 0) (by omega)) ?_
  refine Go.putfield d_State_init_51 rfl f_State_9_p (Or.inr ⟨rfl, fun C T N h => by cases h; exact ⟨rfl, rfl⟩⟩) hup_at (by exact Nat.le_of_ble_eq_true rfl) rfl rfl ?_
  refine Go.heq hup_hup ?_
  simp only [List.set_cons_succ, List.set_cons_zero]
  refine Go.aload_0 d_State_init_54 rfl ?_
  refine Go.iconst (v := 5) d_State_init_55 rfl (by decide) ?_
  refine Go.newI (C1 := 18) (S1 := 81) (N := 5) d_State_init_56 rfl rfl (by decide) (by decide) (by decide) ?_
  refine Go.heq (ct_push (n := 1) (by omega)) ?_
  refine Go.putfield d_State_init_58 rfl f_State_15_p (Or.inr ⟨rfl, fun C T N h => by cases h; exact ⟨rfl, rfl⟩⟩) hup_at (by exact Nat.le_of_ble_eq_true rfl) rfl rfl ?_
  refine Go.heq hup_hup ?_
  simp only [List.set_cons_succ, List.set_cons_zero]
  refine Go.aload_0 d_State_init_61 rfl ?_
  refine Go.iconst (v := 5) d_State_init_62 rfl (by decide) ?_
  refine Go.newI (C1 := 17) (S1 := 76) (N := 5) d_State_init_63 rfl rfl (by decide) (by decide) (by decide) ?_
  refine Go.heq (ct_push (n := 2) (by omega)) ?_
  refine Go.putfield d_State_init_65 rfl f_State_18_p (Or.inr ⟨rfl, fun C T N h => by cases h; exact ⟨rfl, rfl⟩⟩) hup_at (by exact Nat.le_of_ble_eq_true rfl) rfl rfl ?_
  refine Go.heq hup_hup ?_
  simp only [List.set_cons_succ, List.set_cons_zero]
  refine Go.aload_0 d_State_init_68 rfl ?_
  refine Go.bipush (v := 6) d_State_init_69 rfl (by decide) ?_
  refine Go.newI (C1 := 16) (S1 := 70) (N := 6) d_State_init_71 rfl rfl (by decide) (by decide) (by decide) ?_
  refine Go.heq (ct_push (n := 3) (by omega)) ?_
  refine Go.putfield d_State_init_73 rfl f_State_21_p (Or.inr ⟨rfl, fun C T N h => by cases h; exact ⟨rfl, rfl⟩⟩) hup_at (by exact Nat.le_of_ble_eq_true rfl) rfl rfl ?_
  refine Go.heq hup_hup ?_
  simp only [List.set_cons_succ, List.set_cons_zero]
  refine Go.aload_0 d_State_init_76 rfl ?_
  refine Go.bipush (v := 6) d_State_init_77 rfl (by decide) ?_
  refine Go.newI (C1 := 15) (S1 := 64) (N := 6) d_State_init_79 rfl rfl (by decide) (by decide) (by decide) ?_
  refine Go.heq (ct_push (n := 4) (by omega)) ?_
  refine Go.putfield d_State_init_81 rfl f_State_24_p (Or.inr ⟨rfl, fun C T N h => by cases h; exact ⟨rfl, rfl⟩⟩) hup_at (by exact Nat.le_of_ble_eq_true rfl) rfl rfl ?_
  refine Go.heq hup_hup ?_
  simp only [List.set_cons_succ, List.set_cons_zero]
  refine Go.aload_0 d_State_init_84 rfl ?_
  refine Go.bipush (v := 6) d_State_init_85 rfl (by decide) ?_
  refine Go.newI (C1 := 14) (S1 := 58) (N := 6) d_State_init_87 rfl rfl (by decide) (by decide) (by decide) ?_
  refine Go.heq (ct_push (n := 5) (by omega)) ?_
  refine Go.putfield d_State_init_89 rfl f_State_27_p (Or.inr ⟨rfl, fun C T N h => by cases h; exact ⟨rfl, rfl⟩⟩) hup_at (by exact Nat.le_of_ble_eq_true rfl) rfl rfl ?_
  refine Go.heq hup_hup ?_
  simp only [List.set_cons_succ, List.set_cons_zero]
  refine Go.aload_0 d_State_init_92 rfl ?_
  refine Go.bipush (v := 6) d_State_init_93 rfl (by decide) ?_
  refine Go.newI (C1 := 13) (S1 := 52) (N := 6) d_State_init_95 rfl rfl (by decide) (by decide) (by decide) ?_
  refine Go.heq (ct_push (n := 6) (by omega)) ?_
  refine Go.putfield d_State_init_97 rfl f_State_30_p (Or.inr ⟨rfl, fun C T N h => by cases h; exact ⟨rfl, rfl⟩⟩) hup_at (by exact Nat.le_of_ble_eq_true rfl) rfl rfl ?_
  refine Go.heq hup_hup ?_
  simp only [List.set_cons_succ, List.set_cons_zero]
  refine Go.aload_0 d_State_init_100 rfl ?_
  refine Go.iconst (v := 4) d_State_init_101 rfl (by decide) ?_
  refine Go.newI (C1 := 12) (S1 := 48) (N := 4) d_State_init_102 rfl rfl (by decide) (by decide) (by decide) ?_
  refine Go.heq (ct_push (n := 7) (by omega)) ?_
  refine Go.putfield d_State_init_104 rfl f_State_33_p (Or.inr ⟨rfl, fun C T N h => by cases h; exact ⟨rfl, rfl⟩⟩) hup_at (by exact Nat.le_of_ble_eq_true rfl) rfl rfl ?_
  refine Go.heq hup_hup ?_
  simp only [List.set_cons_succ, List.set_cons_zero]
  refine Go.aload_0 d_State_init_107 rfl ?_
  refine Go.iconst (v := 4) d_State_init_108 rfl (by decide) ?_
  refine Go.newI (C1 := 11) (S1 := 44) (N := 4) d_State_init_109 rfl rfl (by decide) (by decide) (by decide) ?_
  refine Go.heq (ct_push (n := 8) (by omega)) ?_
  refine Go.putfield d_State_init_111 rfl f_State_36_p (Or.inr ⟨rfl, fun C T N h => by cases h; exact ⟨rfl, rfl⟩⟩) hup_at (by exact Nat.le_of_ble_eq_true rfl) rfl rfl ?_
  refine Go.heq hup_hup ?_
  simp only [List.set_cons_succ, List.set_cons_zero]
  refine Go.aload_0 d_State_init_114 rfl ?_
  refine Go.iconst (v := 4) d_State_init_115 rfl (by decide) ?_
  refine Go.newI (C1 := 10) (S1 := 40) (N := 4) d_State_init_116 rfl rfl (by decide) (by decide) (by decide) ?_
  refine Go.heq (ct_push (n := 9) (by omega)) ?_
  refine Go.putfield d_State_init_118 rfl f_State_39_p (Or.inr ⟨rfl, fun C T N h => by cases h; exact ⟨rfl, rfl⟩⟩) hup_at (by exact Nat.le_of_ble_eq_true rfl) rfl rfl ?_
  refine Go.heq hup_hup ?_
  simp only [List.set_cons_succ, List.set_cons_zero]
  refine Go.aload_0 d_State_init_121 rfl ?_
  refine Go.iconst (v := 4) d_State_init_122 rfl (by decide) ?_
  refine Go.newI (C1 := 9) (S1 := 36) (N := 4) d_State_init_123 rfl rfl (by decide) (by decide) (by decide) ?_
  refine Go.heq (ct_push (n := 10) (by omega)) ?_
  refine Go.putfield d_State_init_125 rfl f_State_42_p (Or.inr ⟨rfl, fun C T N h => by cases h; exact ⟨rfl, rfl⟩⟩) hup_at (by exact Nat.le_of_ble_eq_true rfl) rfl rfl ?_
  refine Go.heq hup_hup ?_
  simp only [List.set_cons_succ, List.set_cons_zero]
  refine Go.aload_0 d_State_init_128 rfl ?_
  refine Go.iconst (v := 4) d_State_init_129 rfl (by decide) ?_
  refine Go.newI (C1 := 8) (S1 := 32) (N := 4) d_State_init_130 rfl rfl (by decide) (by decide) (by decide) ?_
  refine Go.heq (ct_push (n := 11) (by omega)) ?_
  refine Go.putfield d_State_init_132 rfl f_State_45_p (Or.inr ⟨rfl, fun C T N h => by cases h; exact ⟨rfl, rfl⟩⟩) hup_at (by exact Nat.le_of_ble_eq_true rfl) rfl rfl ?_
  refine Go.heq hup_hup ?_
  simp only [List.set_cons_succ, List.set_cons_zero]
  refine Go.aload_0 d_State_init_135 rfl ?_
  refine Go.iconst (v := 4) d_State_init_136 rfl (by decide) ?_
  refine Go.newI (C1 := 7) (S1 := 28) (N := 4) d_State_init_137 rfl rfl (by decide) (by decide) (by decide) ?_
  refine Go.heq (ct_push (n := 12) (by omega)) ?_
  refine Go.putfield d_State_init_139 rfl f_State_48_p (Or.inr ⟨rfl, fun C T N h => by cases h; exact ⟨rfl, rfl⟩⟩) hup_at (by exact Nat.le_of_ble_eq_true rfl) rfl rfl ?_
  refine Go.heq hup_hup ?_
  simp only [List.set_cons_succ, List.set_cons_zero]
  refine Go.aload_0 d_State_init_142 rfl ?_
  refine Go.iconst (v := 4) d_State_init_143 rfl (by decide) ?_
  refine Go.newI (C1 := 6) (S1 := 24) (N := 4) d_State_init_144 rfl rfl (by decide) (by decide) (by decide) ?_
  refine Go.heq (ct_push (n := 13) (by omega)) ?_
  refine Go.putfield d_State_init_146 rfl f_State_51_p (Or.inr ⟨rfl, fun C T N h => by cases h; exact ⟨rfl, rfl⟩⟩) hup_at (by exact Nat.le_of_ble_eq_true rfl) rfl rfl ?_
  refine Go.heq hup_hup ?_
  simp only [List.set_cons_succ, List.set_cons_zero]
  refine Go.aload_0 d_State_init_149 rfl ?_
  refine Go.iconst (v := 4) d_State_init_150 rfl (by decide) ?_
  refine Go.newI (C1 := 5) (S1 := 20) (N := 4) d_State_init_151 rfl rfl (by decide) (by decide) (by decide) ?_
  refine Go.heq (ct_push (n := 14) (by omega)) ?_
  refine Go.putfield d_State_init_153 rfl f_State_54_p (Or.inr ⟨rfl, fun C T N h => by cases h; exact ⟨rfl, rfl⟩⟩) hup_at (by exact Nat.le_of_ble_eq_true rfl) rfl rfl ?_
  refine Go.heq hup_hup ?_
  simp only [List.set_cons_succ, List.set_cons_zero]
  refine Go.aload_0 d_State_init_156 rfl ?_
  refine Go.iconst (v := 4) d_State_init_157 rfl (by decide) ?_
  refine Go.newI (C1 := 4) (S1 := 16) (N := 4) d_State_init_158 rfl rfl (by decide) (by decide) (by decide) ?_
  refine Go.heq (ct_push (n := 15) (by omega)) ?_
  refine Go.putfield d_State_init_160 rfl f_State_57_p (Or.inr ⟨rfl, fun C T N h => by cases h; exact ⟨rfl, rfl⟩⟩) hup_at (by exact Nat.le_of_ble_eq_true rfl) rfl rfl ?_
  refine Go.heq hup_hup ?_
  simp only [List.set_cons_succ, List.set_cons_zero]
  refine Go.aload_0 d_State_init_163 rfl ?_
  refine Go.iconst (v := 4) d_State_init_164 rfl (by decide) ?_
  refine Go.newI (C1 := 3) (S1 := 12) (N := 4) d_State_init_165 rfl rfl (by decide) (by decide) (by decide) ?_
  refine Go.heq (ct_push (n := 16) (by omega)) ?_
  refine Go.putfield d_State_init_167 rfl f_State_60_p (Or.inr ⟨rfl, fun C T N h => by cases h; exact ⟨rfl, rfl⟩⟩) hup_at (by exact Nat.le_of_ble_eq_true rfl) rfl rfl ?_
  refine Go.heq hup_hup ?_
  simp only [List.set_cons_succ, List.set_cons_zero]
  refine Go.aload_0 d_State_init_170 rfl ?_
  refine Go.iconst (v := 4) d_State_init_171 rfl (by decide) ?_
  refine Go.newI (C1 := 2) (S1 := 8) (N := 4) d_State_init_172 rfl rfl (by decide) (by decide) (by decide) ?_
  refine Go.heq (ct_push (n := 17) (by omega)) ?_
  refine Go.putfield d_State_init_174 rfl f_State_63_p (Or.inr ⟨rfl, fun C T N h => by cases h; exact ⟨rfl, rfl⟩⟩) hup_at (by exact Nat.le_of_ble_eq_true rfl) rfl rfl ?_
  refine Go.heq hup_hup ?_
  simp only [List.set_cons_succ, List.set_cons_zero]
  refine Go.aload_0 d_State_init_177 rfl ?_
  refine Go.iconst (v := 4) d_State_init_178 rfl (by decide) ?_
  refine Go.newI (C1 := 1) (S1 := 4) (N := 4) d_State_init_179 rfl rfl (by decide) (by decide) (by decide) ?_
  refine Go.heq (ct_push (n := 18) (by omega)) ?_
  refine Go.putfield d_State_init_181 rfl f_State_66_p (Or.inr ⟨rfl, fun C T N h => by cases h; exact ⟨rfl, rfl⟩⟩) hup_at (by exact Nat.le_of_ble_eq_true rfl) rfl rfl ?_
  refine Go.heq hup_hup ?_
  simp only [List.set_cons_succ, List.set_cons_zero]
  refine Go.aload_0 d_State_init_184 rfl ?_
  refine Go.iconst (v := 4) d_State_init_185 rfl (by decide) ?_
  refine Go.newI (C1 := 0) (S1 := 0) (N := 4) d_State_init_186 rfl rfl (by decide) (by decide) (by decide) ?_
  refine Go.heq (ct_push (n := 19) (by omega)) ?_
  refine Go.putfield d_State_init_188 rfl f_State_69_p (Or.inr ⟨rfl, fun C T N h => by cases h; exact ⟨rfl, rfl⟩⟩) hup_at (by exact Nat.le_of_ble_eq_true rfl) rfl rfl ?_
  refine Go.heq hup_hup ?_
  simp only [List.set_cons_succ, List.set_cons_zero]
  refine Go.vret d_State_init_191 rfl ⟨rfl, ?_, rfl⟩
  rw [blk_cons]
  refine blk_ext fun j hj => ?_
  match j, hj with
  | 0, _ => rfl
  | 1, _ => rfl
  | 2, _ => rfl
  | 3, _ => rfl
  | 4, _ => rfl
  | 5, _ => rfl
  | 6, _ => rfl
  | 7, _ => rfl
  | 8, _ => rfl
  | 9, _ => rfl
  | 10, _ => rfl
  | 11, _ => rfl
  | 12, _ => rfl
  | 13, _ => rfl
  | 14, _ => rfl
  | 15, _ => rfl
  | 16, _ => rfl
  | 17, _ => rfl
  | 18, _ => rfl
  | 19, _ => rfl
  | 20, _ => rfl
  | _ + 21, w => exact absurd w (by omega)
