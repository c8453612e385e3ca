/-! the tests of orders -/
section Ow
variable {A : AD} {σ : GL} {Y : SM} {N : Nat}
theorem test_val (hP : PM A σ Y) (hA : AOk A) (h : RI A Y N) {r : Nat} {a : RO} (ho : OAt A Y r a) (hne : ¬ a.2 = -1) : runL σ (codeW (oF a) a.2) [] = [s_Sim_holds A Y r] := by
  obtain ⟨hob, q0, q1, q2, q3, q4, q5, q6, q7, q8, q9, q10, q11, q12, q13, q14, q15⟩ := ho.2
  have hd := hP.2.2.2.2.1
  have e5 : sm_v Y 5 r 5 = a.2 := by
    rw [ho.1]
    exact if_pos rfl
  unfold s_Sim_holds codeW
  rw [e5, ho.j (j := 6) (by decide), ho.c (j := 9) (by decide), ho.c (j := 7) (by decide), ho.c (j := 8) (by decide)]
  have g1 := hP.get hA (k := 4) (r := oF a 9) (c := 1) (by decide) q13 (by decide) (by decide)
  have g2 := hP.get hA (k := 4) (r := oF a 9) (c := 2) (by decide) q13 (by decide) (by decide)
  have g3 := hP.get hA (k := 4) (r := oF a 9) (c := 4) (by decide) q13 (by decide) (by decide)
  have g4 := hP.get hA (k := 1) (r := oF a 7) (c := 3) (by decide) q11 (by decide) (by decide)
  have g5 := hP.get hA (k := 1) (r := oF a 7) (c := 2) (by decide) q11 (by decide) (by decide)
  have g6 := hP.get hA (k := 2) (r := oF a 8) (c := 1) (by decide) q12 (by decide) (by decide)
  have gk := known_v hP hA q12
  have s7 := h.s01 (oF a 7) q11
  have s9 := h.h01 (oF a 9) q13
  have gd := hP.day
  have gw := today_eq hP
  rcases q8 with e | e | e | e | e | e | e | e | e | e
  · exact absurd e hne
  · rw [e]
    show runL σ [(13, 0), (51, nI (oF a 6)), (46, 0)] [] = [if nI (sm_dy Y % 8) ≤ nI (oF a 6) then 0 else 1]
    simp only [runL, st2, st8, st13, st14, st23, st24, st25, st26, st27, st28, st29, st30, st31, st32, st33, st34, st41, st42, st43, st44, st45, st46, st47, st48, st49, st51]
    rw [gd]
  · rw [e]
    show runL σ [(25, nI (oF a 9)), (51, nI (oF a 6)), (51, 3), (43, 0), (45, 0)] [] = [if 3 * nI (oF a 6) ≤ sm_v Y 4 (oF a 9) 1 then 0 else 1]
    simp only [runL, st2, st8, st13, st14, st23, st24, st25, st26, st27, st28, st29, st30, st31, st32, st33, st34, st41, st42, st43, st44, st45, st46, st47, st48, st49, st51]
    rw [g1, Int32.mul_comm]
  · rw [e]
    show runL σ [(27, nI (oF a 7))] [] = [if sm_v Y 1 (oF a 7) 3 = 1 then 1 else 0]
    simp only [runL, st2, st8, st13, st14, st23, st24, st25, st26, st27, st28, st29, st30, st31, st32, st33, st34, st41, st42, st43, st44, st45, st46, st47, st48, st49, st51]
    rw [g4]
    rcases s7 with s | s <;> rw [s] <;> rfl
  · rw [e]
    show runL σ [(27, nI (oF a 7)), (30, 0), (23, nI (oF a 7)), (51, 9), (51, nI (oF a 6)), (43, 0), (46, 0), (32, 0)] [] = [if sm_v Y 1 (oF a 7) 3 = 0 then 1 else if sm_v Y 1 (oF a 7) 2 ≤ 9 * nI (oF a 6) then 0 else 1]
    simp only [runL, st2, st8, st13, st14, st23, st24, st25, st26, st27, st28, st29, st30, st31, st32, st33, st34, st41, st42, st43, st44, st45, st46, st47, st48, st49, st51]
    rw [g4, g5]
    by_cases c : sm_v Y 1 (oF a 7) 2 ≤ 9 * nI (oF a 6)
    · rw [if_pos c]
      rcases s7 with s | s <;> rw [s] <;> rfl
    · rw [if_neg c]
      rcases s7 with s | s <;> rw [s] <;> rfl
  · rw [e]
    show runL σ [(29, nI (oF a 8)), (8, nI (oF a 8)), (51, nI (6 * oF a 6)), (49, 0), (31, 0)] [] = [if s_Sim_isKnown Y (oF a 8) = 0 then 0 else if sm_v Y 2 (oF a 8) 1 < 6 * nI (oF a 6) then 0 else 1]
    simp only [runL, st2, st8, st13, st14, st23, st24, st25, st26, st27, st28, st29, st30, st31, st32, st33, st34, st41, st42, st43, st44, st45, st46, st47, st48, st49, st51]
    rw [gk, g6, show nI (6 * oF a 6) = 6 * nI (oF a 6) from Int32.ofNat_mul 6 (oF a 6)]
    by_cases c : sm_v Y 2 (oF a 8) 1 < 6 * nI (oF a 6)
    · rw [if_pos c]
      rcases s_Sim_isKnown_01 Y (oF a 8) with s | s <;> rw [s] <;> rfl
    · rw [if_neg c]
      rcases s_Sim_isKnown_01 Y (oF a 8) with s | s <;> rw [s] <;> rfl
  · rw [e]
    show runL σ [(29, nI (oF a 8)), (30, 0), (13, 0), (13, 0), (51, 3), (44, 0), (51, 3), (43, 0), (42, 0), (51, 0), (47, 0), (31, 0)] [] = [if s_Sim_isKnown Y (oF a 8) = 0 then (if nI (sm_dy Y % 8 % 3) = 0 then 1 else 0) else 0]
    simp only [runL, st2, st8, st13, st14, st23, st24, st25, st26, st27, st28, st29, st30, st31, st32, st33, st34, st41, st42, st43, st44, st45, st46, st47, st48, st49, st51]
    rw [gk, gd, if_neg (show ¬ (3 : Int32) = 0 by decide), show nI (sm_dy Y % 8) - nI (sm_dy Y % 8) / 3 * 3 = nI (sm_dy Y % 8 % 3) from nI_remm (d := sm_dy Y % 8) (m := 3) (by omega) (by decide) (by decide) rfl]
    by_cases c : nI (sm_dy Y % 8 % 3) = 0
    · rw [if_pos c]
      rcases s_Sim_isKnown_01 Y (oF a 8) with s | s <;> rw [s] <;> rfl
    · rw [if_neg c]
      rcases s_Sim_isKnown_01 Y (oF a 8) with s | s <;> rw [s] <;> rfl
  · rw [e]
    show runL σ [(28, nI (oF a 9)), (51, nI (oF a 6)), (51, 3), (46, 0), (32, 0), (14, 0), (51, 2), (51, nI (oF a 6)), (43, 0), (49, 0), (31, 0)] [] = [if sm_v Y 4 (oF a 9) 4 = 1 then (if sm_wa Y (sm_dy Y % 8) < 2 * nI (oF a 6) then 0 else 1) else if nI (oF a 6) ≤ 3 then 0 else if sm_wa Y (sm_dy Y % 8) < 2 * nI (oF a 6) then 0 else 1]
    simp only [runL, st2, st8, st13, st14, st23, st24, st25, st26, st27, st28, st29, st30, st31, st32, st33, st34, st41, st42, st43, st44, st45, st46, st47, st48, st49, st51]
    rw [g3, gw]
    by_cases c : sm_wa Y (sm_dy Y % 8) < 2 * nI (oF a 6)
    · rw [if_pos c]
      by_cases c2 : nI (oF a 6) ≤ 3
      · simp only [if_pos c2]
        rcases s9 with s | s <;> rw [s] <;> rfl
      · simp only [if_neg c2]
        rcases s9 with s | s <;> rw [s] <;> rfl
    · rw [if_neg c]
      by_cases c2 : nI (oF a 6) ≤ 3
      · simp only [if_pos c2]
        rcases s9 with s | s <;> rw [s] <;> rfl
      · simp only [if_neg c2]
        rcases s9 with s | s <;> rw [s] <;> rfl
  · rw [e]
    show runL σ [(26, nI (oF a 9)), (51, nI (oF a 6 % 3)), (47, 0), (30, 0)] [] = [if sm_v Y 4 (oF a 9) 2 = nI (oF a 6) - nI (oF a 6) / 3 * 3 then 0 else 1]
    simp only [runL, st2, st8, st13, st14, st23, st24, st25, st26, st27, st28, st29, st30, st31, st32, st33, st34, st41, st42, st43, st44, st45, st46, st47, st48, st49, st51]
    rw [g2, show nI (oF a 6) - nI (oF a 6) / 3 * 3 = nI (oF a 6 % 3) from nI_remm (d := oF a 6) (m := 3) (by omega) (by decide) (by decide) rfl]
    by_cases c : sm_v Y 4 (oF a 9) 2 = nI (oF a 6 % 3)
    · rw [if_pos c, if_pos c]
      rfl
    · rw [if_neg c, if_neg c]
      rfl
  · rw [e]
    show runL σ [(51, nI (oF a 6)), (51, nI (oF a 6)), (48, 0)] [] = [1]
    simp only [runL, st2, st8, st13, st14, st23, st24, st25, st26, st27, st28, st29, st30, st31, st32, st33, st34, st41, st42, st43, st44, st45, st46, st47, st48, st49, st51]
    rw [if_neg (fun w => Int32.lt_irrefl w)]
end Ow
