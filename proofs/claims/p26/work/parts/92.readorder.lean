/-! an order's sum and test: what the class makes of their tokens -/
section Rw
variable {N0 N1 N2 N3 N4 : NM} {k x : Nat} {o : Nat → Nat} {s : Fin 54} {w : Int64} {t : List TKN}
/-- no sign that goes on with a sum -/
abbrev noOp (s : Fin 54) : Prop := ¬ s.val = 43 ∧ ¬ s.val = 44 ∧ ¬ s.val = 41 ∧ ¬ s.val = 42
set_option maxRecDepth 100000 in
set_option maxHeartbeats 4000000 in
theorem rd_sum (f7 : s_Names_find N1 (nmv 115 (o 7)) = nI (o 7)) (f8 : s_Names_find N2 (nmv 99 (o 8)) = nI (o 8)) (f9 : s_Names_find N4 (nmv 116 (o 9)) = nI (o 9)) (f10 : s_Names_find N3 (nmv 100 (o 10)) = nI (o 10)) (f11 : s_Names_find N0 (nmv 98 (o 11)) = nI (o 11)) (b7 : o 7 < 10) (b8 : o 8 < 10) (b9 : o 9 < 10) (b10 : o 10 < 10) (b11 : o 11 < 10) (h4 : o 4 < 1000) (h3 : o 3 < 8) (hx : x < 8) (hs : noOp s) : Rd (rd_ N0 N1 N2 N3 N4 (k + 7) 3 x 0) (kSum o ++ (s, w) :: t) ((s, w) :: t) (codeS o) := by
  unfold kSum codeS
  rcases (show o 3 = 0 ∨ o 3 = 1 ∨ o 3 = 2 ∨ o 3 = 3 ∨ o 3 = 4 ∨ o 3 = 5 ∨ o 3 = 6 ∨ o 3 = 7 by omega) with e | e | e | e | e | e | e | e <;> rw [e]
  · show Rd _ ((51, lJ (o 4)) :: (s, w) :: t) _ [(51, nI (o 4))]
    exact (rdSum (rdProduct (rv_51 (lJ_v _ h4)) (lpProduct_stop ⟨hs.1, hs.2.1⟩)) (lpSum_stop ⟨hs.2.2.1, hs.2.2.2⟩)).code rfl
  · show Rd _ ((51, lJ 40) :: (42, 0) :: (25, 0) :: (50, nmv 116 (o 9)) :: (s, w) :: t) _ [(51, 40), (25, nI (o 9)), (42, 0)]
    exact (rdSum (rdProduct (rv_51 (v := 40) (by decide +kernel)) (lpProduct_stop ⟨by decide, by decide⟩)) (lpSum_42 (rdProduct (rv_25 (by omega) f9) (lpProduct_stop ⟨hs.1, hs.2.1⟩)) (lpSum_stop ⟨hs.2.2.1, hs.2.2.2⟩))).code rfl
  · show Rd _ ((33, 0) :: (35, 0) :: (24, 0) :: (50, nmv 100 (o 10)) :: (40, 0) :: (51, lJ (o 4)) :: (36, 0) :: (s, w) :: t) _ [(24, nI (o 10)), (51, nI (o 4)), (33, 0)]
    exact (rdSum (rdProduct (rv_33 hx (rdSum (rdProduct (rv_24 (by omega) f10) (lpProduct_stop ⟨by decide, by decide⟩)) (lpSum_stop ⟨by decide, by decide⟩)) (rdSum (rdProduct (rv_51 (lJ_v _ h4)) (lpProduct_stop ⟨by decide, by decide⟩)) (lpSum_stop ⟨by decide, by decide⟩))) (lpProduct_stop ⟨hs.1, hs.2.1⟩)) (lpSum_stop ⟨hs.2.2.1, hs.2.2.2⟩)).code rfl
  · show Rd _ ((13, 0) :: (41, 0) :: (51, lJ (o 4)) :: (s, w) :: t) _ [(13, 0), (51, nI (o 4)), (41, 0)]
    exact (rdSum (rdProduct (rv_13) (lpProduct_stop ⟨by decide, by decide⟩)) (lpSum_41 (rdProduct (rv_51 (lJ_v _ h4)) (lpProduct_stop ⟨hs.1, hs.2.1⟩)) (lpSum_stop ⟨hs.2.2.1, hs.2.2.2⟩))).code rfl
  · show Rd _ ((26, 0) :: (50, nmv 116 (o 9)) :: (43, 0) :: (51, lJ (o 4)) :: (s, w) :: t) _ [(26, nI (o 9)), (51, nI (o 4)), (43, 0)]
    exact (rdSum (rdProduct (rv_26 (by omega) f9) (lpProduct_43 (rv_51 (lJ_v _ h4)) (lpProduct_stop ⟨hs.1, hs.2.1⟩))) (lpSum_stop ⟨hs.2.2.1, hs.2.2.2⟩)).code rfl
  · show Rd _ ((23, 0) :: (50, nmv 115 (o 7)) :: (44, 0) :: (51, lJ (o 4)) :: (s, w) :: t) _ [(23, nI (o 7)), (51, nI (o 4)), (44, 0)]
    exact (rdSum (rdProduct (rv_23 (by omega) f7) (lpProduct_44 (rv_51 (lJ_v _ h4)) (lpProduct_stop ⟨hs.1, hs.2.1⟩))) (lpSum_stop ⟨hs.2.2.1, hs.2.2.2⟩)).code rfl
  · show Rd _ ((2, 0) :: (50, nmv 98 (o 11)) :: (44, 0) :: (51, lJ 9) :: (42, 0) :: (51, lJ (o 4)) :: (s, w) :: t) _ [(2, nI (o 11)), (51, 9), (44, 0), (51, nI (o 4)), (42, 0)]
    exact (rdSum (rdProduct (rv_2 (by omega) f11) (lpProduct_44 (rv_51 (v := 9) (by decide +kernel)) (lpProduct_stop ⟨by decide, by decide⟩))) (lpSum_42 (rdProduct (rv_51 (lJ_v _ h4)) (lpProduct_stop ⟨hs.1, hs.2.1⟩)) (lpSum_stop ⟨hs.2.2.1, hs.2.2.2⟩))).code rfl
  · show Rd _ ((34, 0) :: (35, 0) :: (8, 0) :: (50, nmv 99 (o 8)) :: (40, 0) :: (51, lJ (o 4)) :: (36, 0) :: (s, w) :: t) _ [(8, nI (o 8)), (51, nI (o 4)), (34, 0)]
    exact (rdSum (rdProduct (rv_34 hx (rdSum (rdProduct (rv_8 (by omega) f8) (lpProduct_stop ⟨by decide, by decide⟩)) (lpSum_stop ⟨by decide, by decide⟩)) (rdSum (rdProduct (rv_51 (lJ_v _ h4)) (lpProduct_stop ⟨by decide, by decide⟩)) (lpSum_stop ⟨by decide, by decide⟩))) (lpProduct_stop ⟨hs.1, hs.2.1⟩)) (lpSum_stop ⟨hs.2.2.1, hs.2.2.2⟩)).code rfl
set_option maxRecDepth 100000 in
set_option maxHeartbeats 4000000 in
theorem rd_when (f7 : s_Names_find N1 (nmv 115 (o 7)) = nI (o 7)) (f8 : s_Names_find N2 (nmv 99 (o 8)) = nI (o 8)) (f9 : s_Names_find N4 (nmv 116 (o 9)) = nI (o 9)) (f10 : s_Names_find N3 (nmv 100 (o 10)) = nI (o 10)) (f11 : s_Names_find N0 (nmv 98 (o 11)) = nI (o 11)) (b7 : o 7 < 10) (b8 : o 8 < 10) (b9 : o 9 < 10) (b10 : o 10 < 10) (b11 : o 11 < 10) {v : Int32} (h6 : o 6 < 1000) (h66 : 6 * o 6 < 1000) (h63 : o 6 % 3 < 1000) (hv : o5Ok v) (hn : ¬ v = -1) (hx : x < 8) (hs : noOp s) (hb : ¬ s.val = 31) (ht : ¬ s.val = 32) : ∃ r, kWhen o v = (22, 0) :: r ∧ Rd (rd_ N0 N1 N2 N3 N4 (k + 9) 0 x 0) (r ++ (s, w) :: t) ((s, w) :: t) (codeW o v) := by
  unfold kWhen codeW
  rcases hv with e | e | e | e | e | e | e | e | e | e
  · exact absurd e hn
  all_goals rw [e]
  · refine ⟨[(13, 0), (46, 0), (51, lJ (o 6))], rfl, ?_⟩
    show Rd _ ((13, 0) :: (46, 0) :: (51, lJ (o 6)) :: (s, w) :: t) _ [(13, 0), (51, nI (o 6)), (46, 0)]
    exact (rdTest (rdBoth (rs_cmp (by decide) (by decide) (rdSum (rdProduct (rv_13) (lpProduct_stop ⟨by decide, by decide⟩)) (lpSum_stop ⟨by decide, by decide⟩)) (rdSum (rdProduct (rv_51 (lJ_v _ h6)) (lpProduct_stop ⟨hs.1, hs.2.1⟩)) (lpSum_stop ⟨hs.2.2.1, hs.2.2.2⟩))) (lpBoth_stop hb)) (lpTest_stop ht)).code rfl
  · refine ⟨[(25, 0), (50, nmv 116 (o 9)), (45, 0), (51, lJ (o 6)), (43, 0), (51, lJ 3)], rfl, ?_⟩
    show Rd _ ((25, 0) :: (50, nmv 116 (o 9)) :: (45, 0) :: (51, lJ (o 6)) :: (43, 0) :: (51, lJ 3) :: (s, w) :: t) _ [(25, nI (o 9)), (51, nI (o 6)), (51, 3), (43, 0), (45, 0)]
    exact (rdTest (rdBoth (rs_cmp (by decide) (by decide) (rdSum (rdProduct (rv_25 (by omega) f9) (lpProduct_stop ⟨by decide, by decide⟩)) (lpSum_stop ⟨by decide, by decide⟩)) (rdSum (rdProduct (rv_51 (lJ_v _ h6)) (lpProduct_43 (rv_51 (v := 3) (by decide +kernel)) (lpProduct_stop ⟨hs.1, hs.2.1⟩))) (lpSum_stop ⟨hs.2.2.1, hs.2.2.2⟩))) (lpBoth_stop hb)) (lpTest_stop ht)).code rfl
  · refine ⟨[(27, 0), (50, nmv 115 (o 7))], rfl, ?_⟩
    show Rd _ ((27, 0) :: (50, nmv 115 (o 7)) :: (s, w) :: t) _ [(27, nI (o 7))]
    exact (rdTest (rdBoth (rs_27 (by omega) f7) (lpBoth_stop hb)) (lpTest_stop ht)).code rfl
  · refine ⟨[(30, 0), (27, 0), (50, nmv 115 (o 7)), (32, 0), (23, 0), (50, nmv 115 (o 7)), (46, 0), (51, lJ 9), (43, 0), (51, lJ (o 6))], rfl, ?_⟩
    show Rd _ ((30, 0) :: (27, 0) :: (50, nmv 115 (o 7)) :: (32, 0) :: (23, 0) :: (50, nmv 115 (o 7)) :: (46, 0) :: (51, lJ 9) :: (43, 0) :: (51, lJ (o 6)) :: (s, w) :: t) _ [(27, nI (o 7)), (30, 0), (23, nI (o 7)), (51, 9), (51, nI (o 6)), (43, 0), (46, 0), (32, 0)]
    exact (rdTest (rdBoth (rs_not hx (rs_27 (by omega) f7)) (lpBoth_stop (by decide))) (lpTest_32 (rdBoth (rs_cmp (by decide) (by decide) (rdSum (rdProduct (rv_23 (by omega) f7) (lpProduct_stop ⟨by decide, by decide⟩)) (lpSum_stop ⟨by decide, by decide⟩)) (rdSum (rdProduct (rv_51 (v := 9) (by decide +kernel)) (lpProduct_43 (rv_51 (lJ_v _ h6)) (lpProduct_stop ⟨hs.1, hs.2.1⟩))) (lpSum_stop ⟨hs.2.2.1, hs.2.2.2⟩))) (lpBoth_stop hb)) (lpTest_stop ht))).code rfl
  · refine ⟨[(29, 0), (50, nmv 99 (o 8)), (31, 0), (8, 0), (50, nmv 99 (o 8)), (49, 0), (51, lJ (6 * o 6))], rfl, ?_⟩
    show Rd _ ((29, 0) :: (50, nmv 99 (o 8)) :: (31, 0) :: (8, 0) :: (50, nmv 99 (o 8)) :: (49, 0) :: (51, lJ (6 * o 6)) :: (s, w) :: t) _ [(29, nI (o 8)), (8, nI (o 8)), (51, nI (6 * o 6)), (49, 0), (31, 0)]
    exact (rdTest (rdBoth (rs_29 (by omega) f8) (lpBoth_31 (rs_cmp (by decide) (by decide) (rdSum (rdProduct (rv_8 (by omega) f8) (lpProduct_stop ⟨by decide, by decide⟩)) (lpSum_stop ⟨by decide, by decide⟩)) (rdSum (rdProduct (rv_51 (lJ_v _ h66)) (lpProduct_stop ⟨hs.1, hs.2.1⟩)) (lpSum_stop ⟨hs.2.2.1, hs.2.2.2⟩))) (lpBoth_stop hb))) (lpTest_stop ht)).code rfl
  · refine ⟨[(30, 0), (29, 0), (50, nmv 99 (o 8)), (31, 0), (13, 0), (42, 0), (13, 0), (44, 0), (51, lJ 3), (43, 0), (51, lJ 3), (47, 0), (51, lJ 0)], rfl, ?_⟩
    show Rd _ ((30, 0) :: (29, 0) :: (50, nmv 99 (o 8)) :: (31, 0) :: (13, 0) :: (42, 0) :: (13, 0) :: (44, 0) :: (51, lJ 3) :: (43, 0) :: (51, lJ 3) :: (47, 0) :: (51, lJ 0) :: (s, w) :: t) _ [(29, nI (o 8)), (30, 0), (13, 0), (13, 0), (51, 3), (44, 0), (51, 3), (43, 0), (42, 0), (51, 0), (47, 0), (31, 0)]
    exact (rdTest (rdBoth (rs_not hx (rs_29 (by omega) f8)) (lpBoth_31 (rs_cmp (by decide) (by decide) (rdSum (rdProduct (rv_13) (lpProduct_stop ⟨by decide, by decide⟩)) (lpSum_42 (rdProduct (rv_13) (lpProduct_44 (rv_51 (v := 3) (by decide +kernel)) (lpProduct_43 (rv_51 (v := 3) (by decide +kernel)) (lpProduct_stop ⟨by decide, by decide⟩)))) (lpSum_stop ⟨by decide, by decide⟩))) (rdSum (rdProduct (rv_51 (v := 0) (by decide +kernel)) (lpProduct_stop ⟨hs.1, hs.2.1⟩)) (lpSum_stop ⟨hs.2.2.1, hs.2.2.2⟩))) (lpBoth_stop hb))) (lpTest_stop ht)).code rfl
  · refine ⟨[(37, 0), (28, 0), (50, nmv 116 (o 9)), (32, 0), (51, lJ (o 6)), (46, 0), (51, lJ 3), (38, 0), (31, 0), (14, 0), (49, 0), (51, lJ 2), (43, 0), (51, lJ (o 6))], rfl, ?_⟩
    show Rd _ ((37, 0) :: (28, 0) :: (50, nmv 116 (o 9)) :: (32, 0) :: (51, lJ (o 6)) :: (46, 0) :: (51, lJ 3) :: (38, 0) :: (31, 0) :: (14, 0) :: (49, 0) :: (51, lJ 2) :: (43, 0) :: (51, lJ (o 6)) :: (s, w) :: t) _ [(28, nI (o 9)), (51, nI (o 6)), (51, 3), (46, 0), (32, 0), (14, 0), (51, 2), (51, nI (o 6)), (43, 0), (49, 0), (31, 0)]
    exact (rdTest (rdBoth (rs_open hx (rdTest (rdBoth (rs_28 (by omega) f9) (lpBoth_stop (by decide))) (lpTest_32 (rdBoth (rs_cmp (by decide) (by decide) (rdSum (rdProduct (rv_51 (lJ_v _ h6)) (lpProduct_stop ⟨by decide, by decide⟩)) (lpSum_stop ⟨by decide, by decide⟩)) (rdSum (rdProduct (rv_51 (v := 3) (by decide +kernel)) (lpProduct_stop ⟨by decide, by decide⟩)) (lpSum_stop ⟨by decide, by decide⟩))) (lpBoth_stop (by decide))) (lpTest_stop (by decide))))) (lpBoth_31 (rs_cmp (by decide) (by decide) (rdSum (rdProduct (rv_14) (lpProduct_stop ⟨by decide, by decide⟩)) (lpSum_stop ⟨by decide, by decide⟩)) (rdSum (rdProduct (rv_51 (v := 2) (by decide +kernel)) (lpProduct_43 (rv_51 (lJ_v _ h6)) (lpProduct_stop ⟨hs.1, hs.2.1⟩))) (lpSum_stop ⟨hs.2.2.1, hs.2.2.2⟩))) (lpBoth_stop hb))) (lpTest_stop ht)).code rfl
  · refine ⟨[(30, 0), (26, 0), (50, nmv 116 (o 9)), (47, 0), (51, lJ (o 6 % 3))], rfl, ?_⟩
    show Rd _ ((30, 0) :: (26, 0) :: (50, nmv 116 (o 9)) :: (47, 0) :: (51, lJ (o 6 % 3)) :: (s, w) :: t) _ [(26, nI (o 9)), (51, nI (o 6 % 3)), (47, 0), (30, 0)]
    exact (rdTest (rdBoth (rs_not hx (rs_cmp (by decide) (by decide) (rdSum (rdProduct (rv_26 (by omega) f9) (lpProduct_stop ⟨by decide, by decide⟩)) (lpSum_stop ⟨by decide, by decide⟩)) (rdSum (rdProduct (rv_51 (lJ_v _ h63)) (lpProduct_stop ⟨hs.1, hs.2.1⟩)) (lpSum_stop ⟨hs.2.2.1, hs.2.2.2⟩)))) (lpBoth_stop hb)) (lpTest_stop ht)).code rfl
  · refine ⟨[(51, lJ (o 6)), (48, 0), (51, lJ (o 6))], rfl, ?_⟩
    show Rd _ ((51, lJ (o 6)) :: (48, 0) :: (51, lJ (o 6)) :: (s, w) :: t) _ [(51, nI (o 6)), (51, nI (o 6)), (48, 0)]
    exact (rdTest (rdBoth (rs_cmp (by decide) (by decide) (rdSum (rdProduct (rv_51 (lJ_v _ h6)) (lpProduct_stop ⟨by decide, by decide⟩)) (lpSum_stop ⟨by decide, by decide⟩)) (rdSum (rdProduct (rv_51 (lJ_v _ h6)) (lpProduct_stop ⟨hs.1, hs.2.1⟩)) (lpSum_stop ⟨hs.2.2.1, hs.2.2.2⟩))) (lpBoth_stop hb)) (lpTest_stop ht)).code rfl
end Rw
