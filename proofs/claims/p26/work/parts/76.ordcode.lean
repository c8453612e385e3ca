/-! the signs of an order's sum and test, as the class keeps them -/
def runL (σ : GL) : List (Fin 54 × Int32) → List Int32 → List Int32
  | [], l => l
  | p :: c, l => runL σ c (stp σ p.1 p.2 l)
section Oc
variable {σ : GL} {o x y : Int32} {l : List Int32}
theorem st51 : stp σ 51 o l = o :: l := rfl
theorem st2 : stp σ 2 o l = gG σ 0 o 1 :: l := rfl
theorem st8 : stp σ 8 o l = gG σ 2 o 1 :: l := rfl
theorem st13 : stp σ 13 o l = ((gD σ) - (gD σ) / 8 * 8) :: l := rfl
theorem st14 : stp σ 14 o l = s_Glacier_warmthToday σ :: l := rfl
theorem st23 : stp σ 23 o l = gG σ 1 o 2 :: l := rfl
theorem st24 : stp σ 24 o l = gG σ 3 o 1 :: l := rfl
theorem st25 : stp σ 25 o l = gG σ 4 o 1 :: l := rfl
theorem st26 : stp σ 26 o l = gG σ 4 o 2 :: l := rfl
theorem st27 : stp σ 27 o l = gG σ 1 o 3 :: l := rfl
theorem st28 : stp σ 28 o l = gG σ 4 o 4 :: l := rfl
theorem st29 : stp σ 29 o l = s_Glacier_crevasseFact σ o 2 :: l := rfl
theorem st30 : stp σ 30 o (x :: l) = (1 - x) :: l := rfl
theorem st31 : stp σ 31 o (y :: x :: l) = (x &&& y) :: l := rfl
theorem st32 : stp σ 32 o (y :: x :: l) = (x ||| y) :: l := rfl
theorem st33 : stp σ 33 o (y :: x :: l) = (iMin x y) :: l := rfl
theorem st34 : stp σ 34 o (y :: x :: l) = (iMax x y) :: l := rfl
theorem st41 : stp σ 41 o (y :: x :: l) = (x + y) :: l := rfl
theorem st42 : stp σ 42 o (y :: x :: l) = (x - y) :: l := rfl
theorem st43 : stp σ 43 o (y :: x :: l) = (x * y) :: l := rfl
theorem st44 : stp σ 44 o (y :: x :: l) = (if y = 0 then 0 else x / y) :: l := rfl
theorem st45 : stp σ 45 o (y :: x :: l) = (if y ≤ x then 0 else 1) :: l := rfl
theorem st46 : stp σ 46 o (y :: x :: l) = (if x ≤ y then 0 else 1) :: l := rfl
theorem st47 : stp σ 47 o (y :: x :: l) = (if x = y then 1 else 0) :: l := rfl
theorem st48 : stp σ 48 o (y :: x :: l) = (if y < x then 0 else 1) :: l := rfl
theorem st49 : stp σ 49 o (y :: x :: l) = (if x < y then 0 else 1) :: l := rfl
end Oc
/-- a sum, its signs behind what they join -/
def codeS (o : Nat → Nat) : List (Fin 54 × Int32) := if o 3 = 0 then [(51, nI (o 4))] else if o 3 = 1 then [(51, 40), (25, nI (o 9)), (42, 0)] else if o 3 = 2 then [(24, nI (o 10)), (51, nI (o 4)), (33, 0)] else if o 3 = 3 then [(13, 0), (51, nI (o 4)), (41, 0)] else if o 3 = 4 then [(26, nI (o 9)), (51, nI (o 4)), (43, 0)] else if o 3 = 5 then [(23, nI (o 7)), (51, nI (o 4)), (44, 0)] else if o 3 = 6 then [(2, nI (o 11)), (51, 9), (44, 0), (51, nI (o 4)), (42, 0)] else [(8, nI (o 8)), (51, nI (o 4)), (34, 0)]
/-- a test -/
def codeW (o : Nat → Nat) (o5 : Int32) : List (Fin 54 × Int32) := if o5 = -1 then [] else if o5 = 0 then [(13, 0), (51, nI (o 6)), (46, 0)] else if o5 = 1 then [(25, nI (o 9)), (51, nI (o 6)), (51, 3), (43, 0), (45, 0)] else if o5 = 2 then [(27, nI (o 7))] else if o5 = 3 then [(27, nI (o 7)), (30, 0), (23, nI (o 7)), (51, 9), (51, nI (o 6)), (43, 0), (46, 0), (32, 0)] else if o5 = 4 then [(29, nI (o 8)), (8, nI (o 8)), (51, nI (6 * o 6)), (49, 0), (31, 0)] else if o5 = 5 then [(29, nI (o 8)), (30, 0), (13, 0), (13, 0), (51, 3), (44, 0), (51, 3), (43, 0), (42, 0), (51, 0), (47, 0), (31, 0)] else if o5 = 6 then [(28, nI (o 9)), (51, nI (o 6)), (51, 3), (46, 0), (32, 0), (14, 0), (51, 2), (51, nI (o 6)), (43, 0), (49, 0), (31, 0)] else if o5 = 7 then [(26, nI (o 9)), (51, nI (o 6 % 3)), (47, 0), (30, 0)] else [(51, nI (o 6)), (51, nI (o 6)), (48, 0)]
section Ov
variable {A : AD} {σ : GL} {Y : SM} {N : Nat}
theorem PM.day (hP : PM A σ Y) : (gD σ) - (gD σ) / 8 * 8 = nI (sm_dy Y % 8) := by
  have hd := hP.2.2.2.2.1
  rw [hP.2.2.2.1, show nI (sm_dy Y) - nI (sm_dy Y) / 8 * 8 = nI (sm_dy Y % 8) from nI_remm (d := sm_dy Y) (m := 8) (by omega) (by decide) (by decide) rfl]
theorem known_v (hP : PM A σ Y) (hA : AOk A) {c : Nat} (hc : c < cn A 2) : s_Glacier_crevasseFact σ (nI c) 2 = s_Sim_isKnown Y c := by
  have h8 := hA.2.2 2 (by decide)
  obtain ⟨v, e1, e2, e3⟩ := hP.2.2.1 c hc
  have hd := hP.2.2.2.2.1
  have e := hP.1 2 (by decide)
  unfold gN at e
  unfold s_Glacier_crevasseFact s_Sim_isKnown gG
  rw [if_pos (show nI 2 = 2 from rfl), tgI_at (by omega) (by omega), e3, e1, show iMin 1 (nI (v - sm_dy Y)) = nI (min 1 (v - sm_dy Y)) from iMin_n (x := 1) (by omega) (by omega)]
  by_cases h : v ≤ sm_dy Y
  · rw [if_pos (nI_le h (by omega)), show min 1 (v - sm_dy Y) = 0 by omega]
    rfl
  · rw [if_neg (nI_ge (by omega) (by omega)), show min 1 (v - sm_dy Y) = 1 by omega]
    rfl
/-- an order as it stands among the law's -/
def OAt (A : AD) (Y : SM) (r : Nat) (a : RO) : Prop := sm_v Y 5 r = rOrd a ∧ okOrd (cn A 0) (cn A 1) (cn A 2) (cn A 3) (cn A 4) a
theorem OAt.j {r : Nat} {a : RO} (h : OAt A Y r a) {j : Nat} (hj : j ≠ 5) : sm_v Y 5 r j = nI (oF a j) := by
  rw [h.1]
  exact if_neg hj
theorem OAt.c {r : Nat} {a : RO} (h : OAt A Y r a) {j : Nat} (hj : j ≠ 5) : (sm_v Y 5 r j).toNatClampNeg = oF a j := by
  rw [h.j hj]
  exact nI_clamp (Nat.lt_trans (h.2.1 j) (by decide))
theorem sum_val (hP : PM A σ Y) (hA : AOk A) {r : Nat} {a : RO} (h : OAt A Y r a) : runL σ (codeS (oF a)) [] = [s_Sim_sum A Y r] := by
  obtain ⟨hob, q0, q1, q2, q3, q4, q5, q6, q7, q8, q9, q10, q11, q12, q13, q14, q15⟩ := h.2
  unfold s_Sim_sum codeS
  rw [h.j (j := 3) (by decide), h.j (j := 4) (by decide), h.c (j := 9) (by decide), h.c (j := 10) (by decide), h.c (j := 7) (by decide), h.c (j := 11) (by decide), h.c (j := 8) (by decide)]
  have g1 := hP.get hA (k := 4) (r := oF a 9) (c := 1) (by decide) q13 (by decide) (by decide)
  have g2 := hP.get hA (k := 3) (r := oF a 10) (c := 1) (by decide) q14 (by decide) (by decide)
  have g3 := hP.get hA (k := 4) (r := oF a 9) (c := 2) (by decide) q13 (by decide) (by decide)
  have g4 := hP.get hA (k := 1) (r := oF a 7) (c := 2) (by decide) q11 (by decide) (by decide)
  have g5 := hP.get hA (k := 0) (r := oF a 11) (c := 1) (by decide) q15 (by decide) (by decide)
  have g6 := hP.get hA (k := 2) (r := oF a 8) (c := 1) (by decide) q12 (by decide) (by decide)
  rcases (show oF a 3 = 0 ∨ oF a 3 = 1 ∨ oF a 3 = 2 ∨ oF a 3 = 3 ∨ oF a 3 = 4 ∨ oF a 3 = 5 ∨ oF a 3 = 6 ∨ oF a 3 = 7 by omega) with e | e | e | e | e | e | e | e <;> rw [e]
  · rfl
  · show runL σ [(51, 40), (25, nI (oF a 9)), (42, 0)] [] = [40 - sm_v Y 4 (oF a 9) 1]
    simp only [runL, st2, st8, st13, st14, st23, st24, st25, st26, st27, st28, st29, st30, st31, st32, st33, st34, st41, st42, st43, st44, st45, st46, st47, st48, st49, st51]
    rw [g1]
  · show runL σ [(24, nI (oF a 10)), (51, nI (oF a 4)), (33, 0)] [] = [iMin (sm_v Y 3 (oF a 10) 1) (nI (oF a 4))]
    simp only [runL, st2, st8, st13, st14, st23, st24, st25, st26, st27, st28, st29, st30, st31, st32, st33, st34, st41, st42, st43, st44, st45, st46, st47, st48, st49, st51]
    rw [g2]
  · show runL σ [(13, 0), (51, nI (oF a 4)), (41, 0)] [] = [nI (sm_dy Y % 8) + nI (oF a 4)]
    simp only [runL, st2, st8, st13, st14, st23, st24, st25, st26, st27, st28, st29, st30, st31, st32, st33, st34, st41, st42, st43, st44, st45, st46, st47, st48, st49, st51]
    rw [hP.day]
  · show runL σ [(26, nI (oF a 9)), (51, nI (oF a 4)), (43, 0)] [] = [sm_v Y 4 (oF a 9) 2 * nI (oF a 4)]
    simp only [runL, st2, st8, st13, st14, st23, st24, st25, st26, st27, st28, st29, st30, st31, st32, st33, st34, st41, st42, st43, st44, st45, st46, st47, st48, st49, st51]
    rw [g3]
  · show runL σ [(23, nI (oF a 7)), (51, nI (oF a 4)), (44, 0)] [] = [if nI (oF a 4) = 0 then 0 else sm_v Y 1 (oF a 7) 2 / nI (oF a 4)]
    simp only [runL, st2, st8, st13, st14, st23, st24, st25, st26, st27, st28, st29, st30, st31, st32, st33, st34, st41, st42, st43, st44, st45, st46, st47, st48, st49, st51]
    rw [g4]
  · show runL σ [(2, nI (oF a 11)), (51, 9), (44, 0), (51, nI (oF a 4)), (42, 0)] [] = [sm_v Y 0 (oF a 11) 1 / 9 - nI (oF a 4)]
    simp only [runL, st2, st8, st13, st14, st23, st24, st25, st26, st27, st28, st29, st30, st31, st32, st33, st34, st41, st42, st43, st44, st45, st46, st47, st48, st49, st51]
    rw [g5]
    rfl
  · show runL σ [(8, nI (oF a 8)), (51, nI (oF a 4)), (34, 0)] [] = [iMax (sm_v Y 2 (oF a 8) 1) (nI (oF a 4))]
    simp only [runL, st2, st8, st13, st14, st23, st24, st25, st26, st27, st28, st29, st30, st31, st32, st33, st34, st41, st42, st43, st44, st45, st46, st47, st48, st49, st51]
    rw [g6]
end Ov
