/-! Teacher: tests and sums -/
abbrev RS : Type := TK × FM × TE
theorem d_Teacher_isComparison_0 : decode M_Teacher_isComparison.2.1 0 = .ok (.aload_n 0, 1) := by decide +kernel
theorem d_Teacher_isComparison_1 : decode M_Teacher_isComparison.2.1 1 = .ok (.getstatic 281, 3) := by decide +kernel
theorem d_Teacher_isComparison_4 : decode M_Teacher_isComparison.2.1 4 = .ok (.if_acmp .eq 31, 3) := by decide +kernel
theorem d_Teacher_isComparison_7 : decode M_Teacher_isComparison.2.1 7 = .ok (.aload_n 0, 1) := by decide +kernel
theorem d_Teacher_isComparison_8 : decode M_Teacher_isComparison.2.1 8 = .ok (.getstatic 284, 3) := by decide +kernel
theorem d_Teacher_isComparison_11 : decode M_Teacher_isComparison.2.1 11 = .ok (.if_acmp .eq 24, 3) := by decide +kernel
theorem d_Teacher_isComparison_14 : decode M_Teacher_isComparison.2.1 14 = .ok (.aload_n 0, 1) := by decide +kernel
theorem d_Teacher_isComparison_15 : decode M_Teacher_isComparison.2.1 15 = .ok (.getstatic 287, 3) := by decide +kernel
theorem d_Teacher_isComparison_18 : decode M_Teacher_isComparison.2.1 18 = .ok (.if_acmp .eq 17, 3) := by decide +kernel
theorem d_Teacher_isComparison_21 : decode M_Teacher_isComparison.2.1 21 = .ok (.aload_n 0, 1) := by decide +kernel
theorem d_Teacher_isComparison_22 : decode M_Teacher_isComparison.2.1 22 = .ok (.getstatic 290, 3) := by decide +kernel
theorem d_Teacher_isComparison_25 : decode M_Teacher_isComparison.2.1 25 = .ok (.if_acmp .eq 10, 3) := by decide +kernel
theorem d_Teacher_isComparison_28 : decode M_Teacher_isComparison.2.1 28 = .ok (.aload_n 0, 1) := by decide +kernel
theorem d_Teacher_isComparison_29 : decode M_Teacher_isComparison.2.1 29 = .ok (.getstatic 293, 3) := by decide +kernel
theorem d_Teacher_isComparison_32 : decode M_Teacher_isComparison.2.1 32 = .ok (.if_acmp .ne 7, 3) := by decide +kernel
theorem d_Teacher_isComparison_35 : decode M_Teacher_isComparison.2.1 35 = .ok (.iconst 1, 1) := by decide +kernel
theorem d_Teacher_isComparison_36 : decode M_Teacher_isComparison.2.1 36 = .ok (.goto 4, 3) := by decide +kernel
theorem d_Teacher_isComparison_39 : decode M_Teacher_isComparison.2.1 39 = .ok (.iconst 0, 1) := by decide +kernel
theorem d_Teacher_isComparison_40 : decode M_Teacher_isComparison.2.1 40 = .ok (.ireturn, 1) := by decide +kernel
def s_Teacher_isComparison (x1 : Fin 54) : Int32 := (if x1.val = 45 then 1 else (if x1.val = 46 then 1 else (if x1.val = 47 then 1 else (if x1.val = 48 then 1 else (if x1.val = 49 then 1 else 0)))))
set_option maxRecDepth 100000 in
set_option maxHeartbeats 4000000 in
theorem c_Teacher_isComparison {Γ : G9} {sg : Nat → Nat} {h : AH} {z : Nat} {x1 : Fin 54} (hs : SgOk Γ sg) (hsn : SgNe sg) : CallR Γ M_Teacher_isComparison 0 [.ref (sg x1.val)] h z (some (.int (s_Teacher_isComparison x1))) h := by
  refine Call.of_go (L := [some (.ref (sg x1.val))]) (by decide +kernel) rfl (by exact Nat.le_of_ble_eq_true rfl) ?_
  unfold s_Teacher_isComparison
  refine Go.aload_0 d_Teacher_isComparison_0 rfl ?_
  refine Go.gets d_Teacher_isComparison_1 rfl x_Teacher_281 (hs.z (i := 45) rfl) ?_
  refine Go.acmp_eq (t := 35) d_Teacher_isComparison_4 (by decide) rfl (fun c4_1 => ?_) (fun c4_1 => ?_)
  · have c4_1 := hsn _ _ (x1).isLt (by decide) c4_1
    refine Go.iconst (v := 1) d_Teacher_isComparison_35 rfl (by decide) ?_
    refine Go.goto (t := 40) d_Teacher_isComparison_36 (by decide) ?_
    rw [if_pos c4_1]
    exact Go.iret d_Teacher_isComparison_40 rfl rfl ⟨rfl, rfl, rfl⟩
  · have c4_1 : ¬ x1.val = 45 := fun w => c4_1 (by rw [w])
    refine Go.aload_0 d_Teacher_isComparison_7 rfl ?_
    refine Go.gets d_Teacher_isComparison_8 rfl x_Teacher_284 (hs.z (i := 46) rfl) ?_
    refine Go.acmp_eq (t := 35) d_Teacher_isComparison_11 (by decide) rfl (fun c11_2 => ?_) (fun c11_2 => ?_)
    · have c11_2 := hsn _ _ (x1).isLt (by decide) c11_2
      refine Go.iconst (v := 1) d_Teacher_isComparison_35 rfl (by decide) ?_
      refine Go.goto (t := 40) d_Teacher_isComparison_36 (by decide) ?_
      rw [if_neg c4_1, if_pos c11_2]
      exact Go.iret d_Teacher_isComparison_40 rfl rfl ⟨rfl, rfl, rfl⟩
    · have c11_2 : ¬ x1.val = 46 := fun w => c11_2 (by rw [w])
      refine Go.aload_0 d_Teacher_isComparison_14 rfl ?_
      refine Go.gets d_Teacher_isComparison_15 rfl x_Teacher_287 (hs.z (i := 47) rfl) ?_
      refine Go.acmp_eq (t := 35) d_Teacher_isComparison_18 (by decide) rfl (fun c18_3 => ?_) (fun c18_3 => ?_)
      · have c18_3 := hsn _ _ (x1).isLt (by decide) c18_3
        refine Go.iconst (v := 1) d_Teacher_isComparison_35 rfl (by decide) ?_
        refine Go.goto (t := 40) d_Teacher_isComparison_36 (by decide) ?_
        rw [if_neg c4_1, if_neg c11_2, if_pos c18_3]
        exact Go.iret d_Teacher_isComparison_40 rfl rfl ⟨rfl, rfl, rfl⟩
      · have c18_3 : ¬ x1.val = 47 := fun w => c18_3 (by rw [w])
        refine Go.aload_0 d_Teacher_isComparison_21 rfl ?_
        refine Go.gets d_Teacher_isComparison_22 rfl x_Teacher_290 (hs.z (i := 48) rfl) ?_
        refine Go.acmp_eq (t := 35) d_Teacher_isComparison_25 (by decide) rfl (fun c25_4 => ?_) (fun c25_4 => ?_)
        · have c25_4 := hsn _ _ (x1).isLt (by decide) c25_4
          refine Go.iconst (v := 1) d_Teacher_isComparison_35 rfl (by decide) ?_
          refine Go.goto (t := 40) d_Teacher_isComparison_36 (by decide) ?_
          rw [if_neg c4_1, if_neg c11_2, if_neg c18_3, if_pos c25_4]
          exact Go.iret d_Teacher_isComparison_40 rfl rfl ⟨rfl, rfl, rfl⟩
        · have c25_4 : ¬ x1.val = 48 := fun w => c25_4 (by rw [w])
          refine Go.aload_0 d_Teacher_isComparison_28 rfl ?_
          refine Go.gets d_Teacher_isComparison_29 rfl x_Teacher_293 (hs.z (i := 49) rfl) ?_
          refine Go.acmp_ne (t := 39) d_Teacher_isComparison_32 (by decide) rfl (fun c32_5 => ?_) (fun c32_5 => ?_)
          · have c32_5 : ¬ x1.val = 49 := fun w => c32_5 (by rw [w])
            refine Go.iconst (v := 0) d_Teacher_isComparison_39 rfl (by decide) ?_
            rw [if_neg c4_1, if_neg c11_2, if_neg c18_3, if_neg c25_4, if_neg c32_5]
            exact Go.iret d_Teacher_isComparison_40 rfl rfl ⟨rfl, rfl, rfl⟩
          · have c32_5 := hsn _ _ (x1).isLt (by decide) c32_5
            refine Go.iconst (v := 1) d_Teacher_isComparison_35 rfl (by decide) ?_
            refine Go.goto (t := 40) d_Teacher_isComparison_36 (by decide) ?_
            rw [if_neg c4_1, if_neg c11_2, if_neg c18_3, if_neg c25_4, if_pos c32_5]
            exact Go.iret d_Teacher_isComparison_40 rfl rfl ⟨rfl, rfl, rfl⟩
set_option maxRecDepth 100000 in
set_option maxHeartbeats 4000000 in
theorem s_Teacher_isComparison_01 (x1 : Fin 54) : (s_Teacher_isComparison x1) = 0 ∨ (s_Teacher_isComparison x1) = 1 := by
  unfold s_Teacher_isComparison
  (repeat' split) <;> first | exact Or.inl rfl | exact Or.inr rfl
theorem d_Teacher_readTest_7 : decode M_Teacher_readTest.2.1 7 = .ok (.iload_n 2, 1) := by decide +kernel
theorem d_Teacher_readTest_8 : decode M_Teacher_readTest.2.1 8 = .ok (.sipush 400, 3) := by decide +kernel
theorem d_Teacher_readTest_11 : decode M_Teacher_readTest.2.1 11 = .ok (.if_icmp .ge 45, 3) := by decide +kernel
theorem d_Teacher_readTest_56 : decode M_Teacher_readTest.2.1 56 = .ok (.return_, 1) := by decide +kernel
theorem d_Teacher_readTest_14 : decode M_Teacher_readTest.2.1 14 = .ok (.aload_n 0, 1) := by decide +kernel
theorem d_Teacher_readTest_15 : decode M_Teacher_readTest.2.1 15 = .ok (.getfield 34, 3) := by decide +kernel
theorem d_Teacher_readTest_18 : decode M_Teacher_readTest.2.1 18 = .ok (.invokevirtual 62, 3) := by decide +kernel
theorem d_Teacher_readTest_21 : decode M_Teacher_readTest.2.1 21 = .ok (.getstatic 239, 3) := by decide +kernel
theorem d_Teacher_readTest_24 : decode M_Teacher_readTest.2.1 24 = .ok (.if_acmp .ne 32, 3) := by decide +kernel
theorem d_Teacher_readTest_27 : decode M_Teacher_readTest.2.1 27 = .ok (.aload_n 0, 1) := by decide +kernel
theorem d_Teacher_readTest_28 : decode M_Teacher_readTest.2.1 28 = .ok (.getfield 34, 3) := by decide +kernel
theorem d_Teacher_readTest_31 : decode M_Teacher_readTest.2.1 31 = .ok (.invokevirtual 242, 3) := by decide +kernel
theorem d_Teacher_readTest_34 : decode M_Teacher_readTest.2.1 34 = .ok (.aload_n 0, 1) := by decide +kernel
theorem d_Teacher_readTest_35 : decode M_Teacher_readTest.2.1 35 = .ok (.iload_n 1, 1) := by decide +kernel
theorem d_Teacher_readTest_36 : decode M_Teacher_readTest.2.1 36 = .ok (.invokevirtual 236, 3) := by decide +kernel
theorem d_Teacher_readTest_39 : decode M_Teacher_readTest.2.1 39 = .ok (.aload_n 0, 1) := by decide +kernel
theorem d_Teacher_readTest_40 : decode M_Teacher_readTest.2.1 40 = .ok (.getfield 52, 3) := by decide +kernel
theorem d_Teacher_readTest_43 : decode M_Teacher_readTest.2.1 43 = .ok (.getstatic 239, 3) := by decide +kernel
theorem d_Teacher_readTest_46 : decode M_Teacher_readTest.2.1 46 = .ok (.iconst 0, 1) := by decide +kernel
theorem d_Teacher_readTest_47 : decode M_Teacher_readTest.2.1 47 = .ok (.invokevirtual 245, 3) := by decide +kernel
theorem d_Teacher_readTest_50 : decode M_Teacher_readTest.2.1 50 = .ok (.iinc 2 1, 3) := by decide +kernel
theorem d_Teacher_readTest_53 : decode M_Teacher_readTest.2.1 53 = .ok (.goto (-46), 3) := by decide +kernel
def l_Teacher_readTest_7 (N0 : NM) (N1 : NM) (N2 : NM) (N3 : NM) (N4 : NM) (rec : Nat → Nat → Fin 54 → RS → RS) (x1 : Nat) : Nat → Nat → TK → FM → TE → TK × FM × TE
  | 0, i, K, F, E => (K, F, E)
  | k + 1, i, K, F, E => (if (s_Tokens_sign K).val = 32 then (l_Teacher_readTest_7 N0 N1 N2 N3 N4 rec x1 k (i + 1) (rec 1 x1 0 ((s_Tokens_advance K), F, E)).1 (s_Formulas_put (rec 1 x1 0 ((s_Tokens_advance K), F, E)).2.1 (32 : Fin 54) 0) (rec 1 x1 0 ((s_Tokens_advance K), F, E)).2.2) else (K, F, E))
set_option maxRecDepth 100000 in
set_option maxHeartbeats 4000000 in
theorem l_Teacher_readTest_7_go {Γ : G9} {sg : Nat → Nat} {sw : Nat} {h : AH} {y g o u z m : Nat} {n : Nat} {N0 : NM} {N1 : NM} {N2 : NM} {N3 : NM} {N4 : NM} {rec : Nat → Nat → Fin 54 → RS → RS} {x1 : Nat} (hr0 : ∀ (x : Nat) (K : TK) (F : FM) (E : TE), x ≤ 8 → 7 * (8 - x) + 6 < m → CallR Γ M_Teacher_readTest (m + 6) [.ref u, .int (nI x)] (rw_ Γ sg h y g o u K F E N0 N1 N2 N3 N4) z none (rw_ Γ sg h y g o u (rec 0 x 0 (K, F, E)).1 (rec 0 x 0 (K, F, E)).2.1 (rec 0 x 0 (K, F, E)).2.2 N0 N1 N2 N3 N4)) (hr1 : ∀ (x : Nat) (K : TK) (F : FM) (E : TE), x ≤ 8 → 7 * (8 - x) + 5 < m → CallR Γ M_Teacher_readBoth (m + 6) [.ref u, .int (nI x)] (rw_ Γ sg h y g o u K F E N0 N1 N2 N3 N4) z none (rw_ Γ sg h y g o u (rec 1 x 0 (K, F, E)).1 (rec 1 x 0 (K, F, E)).2.1 (rec 1 x 0 (K, F, E)).2.2 N0 N1 N2 N3 N4)) (hr2 : ∀ (x : Nat) (K : TK) (F : FM) (E : TE), x ≤ 8 → 7 * (8 - x) + 4 < m → CallR Γ M_Teacher_readSingle (m + 6) [.ref u, .int (nI x)] (rw_ Γ sg h y g o u K F E N0 N1 N2 N3 N4) z none (rw_ Γ sg h y g o u (rec 2 x 0 (K, F, E)).1 (rec 2 x 0 (K, F, E)).2.1 (rec 2 x 0 (K, F, E)).2.2 N0 N1 N2 N3 N4)) (hr3 : ∀ (x : Nat) (K : TK) (F : FM) (E : TE), x ≤ 8 → 7 * (8 - x) + 3 < m → CallR Γ M_Teacher_readSum (m + 6) [.ref u, .int (nI x)] (rw_ Γ sg h y g o u K F E N0 N1 N2 N3 N4) z none (rw_ Γ sg h y g o u (rec 3 x 0 (K, F, E)).1 (rec 3 x 0 (K, F, E)).2.1 (rec 3 x 0 (K, F, E)).2.2 N0 N1 N2 N3 N4)) (hr4 : ∀ (x : Nat) (K : TK) (F : FM) (E : TE), x ≤ 8 → 7 * (8 - x) + 2 < m → CallR Γ M_Teacher_readProduct (m + 6) [.ref u, .int (nI x)] (rw_ Γ sg h y g o u K F E N0 N1 N2 N3 N4) z none (rw_ Γ sg h y g o u (rec 4 x 0 (K, F, E)).1 (rec 4 x 0 (K, F, E)).2.1 (rec 4 x 0 (K, F, E)).2.2 N0 N1 N2 N3 N4)) (hr5 : ∀ (x : Nat) (K : TK) (F : FM) (E : TE), x ≤ 8 → 7 * (8 - x) + 1 < m → CallR Γ M_Teacher_readValue (m + 6) [.ref u, .int (nI x)] (rw_ Γ sg h y g o u K F E N0 N1 N2 N3 N4) z none (rw_ Γ sg h y g o u (rec 5 x 0 (K, F, E)).1 (rec 5 x 0 (K, F, E)).2.1 (rec 5 x 0 (K, F, E)).2.2 N0 N1 N2 N3 N4)) (hr6 : ∀ (x : Nat) (c : Fin 54) (K : TK) (F : FM) (E : TE), x ≤ 8 → 7 * (8 - x) + 0 < m → CallR Γ M_Teacher_readNested (m + 6) [.ref u, .ref (sg c.val), .int (nI x)] (rw_ Γ sg h y g o u K F E N0 N1 N2 N3 N4) z none (rw_ Γ sg h y g o u (rec 6 x c (K, F, E)).1 (rec 6 x c (K, F, E)).2.1 (rec 6 x c (K, F, E)).2.2 N0 N1 N2 N3 N4)) (hx : 7 * (8 - x1) + 6 < m + 1) (bx1 : x1 ≤ 8) (hs : SgOk Γ sg) (hsn : SgNe sg) (hw : SwOk Γ sw) (geo : y + 4 ≤ o ∧ o + 7 ≤ u) (hN0 : nm_sz N0 ≤ 6) (hN1 : nm_sz N1 ≤ 6) (hN2 : nm_sz N2 ≤ 6) (hN3 : nm_sz N3 ≤ 6) (hN4 : nm_sz N4 ≤ 6) (hn20 : n ≤ 400) : ∀ (k i : Nat) (K : TK) (F : FM) (E : TE), i + k = n → 400 = n → Go Γ M_Teacher_readTest (m + 1 + 6) 0 0 7 [some (.ref u), some (.int (nI x1)), some (.int (nI i))] [] (rw_ Γ sg h y g o u K F E N0 N1 N2 N3 N4) z (RQ none (rw_ Γ sg h y g o u (l_Teacher_readTest_7 N0 N1 N2 N3 N4 rec x1 k i K F E).1 (l_Teacher_readTest_7 N0 N1 N2 N3 N4 rec x1 k i K F E).2.1 (l_Teacher_readTest_7 N0 N1 N2 N3 N4 rec x1 k i K F E).2.2 N0 N1 N2 N3 N4) z) noX := by
  intro k
  induction k with
  | zero =>
    intro i K F E hi hn
    unfold l_Teacher_readTest_7
    refine Go.iload_2 d_Teacher_readTest_7 rfl ?_
    refine Go.sipush (v := 400) d_Teacher_readTest_8 rfl (by decide) ?_
    refine Go.icmp_ge (t := 56) d_Teacher_readTest_11 (by decide) rfl (fun c11_1 => ?_) (fun c11_1 => ?_)
    · exact Go.vret d_Teacher_readTest_56 rfl ⟨rfl, rfl, rfl⟩
    · exact absurd (show nI 400 ≤ nI i from nI_le (by omega) (by omega)) c11_1
  | succ k ih =>
    intro i K F E hi hn
    unfold l_Teacher_readTest_7
    refine Go.iload_2 d_Teacher_readTest_7 rfl ?_
    refine Go.sipush (v := 400) d_Teacher_readTest_8 rfl (by decide) ?_
    refine Go.icmp_ge (t := 56) d_Teacher_readTest_11 (by decide) rfl (fun c11_1 => ?_) (fun c11_1 => ?_)
    · exact absurd c11_1 (show ¬ nI 400 ≤ nI i from nI_ge (by omega) (by omega))
    · refine Go.aload_0 d_Teacher_readTest_14 rfl ?_
      refine Go.getfield d_Teacher_readTest_15 rfl f_Teacher_34 (rw_u (by omega)) (by rfl) ?_
      refine Go.cv0r d_Teacher_readTest_18 rfl l_Teacher_62 k_Tokens_sign_v (rw_y (by omega)) rfl (w1_Tokens_sign hs hsn (by omega) hN0 hN1 hN2 hN3 hN4) (Nat.ble_eq_true_of_le (by omega)) rfl rfl ?_
      refine Go.gets d_Teacher_readTest_21 rfl x_Teacher_239 (hs.z (i := 32) rfl) ?_
      refine Go.acmp_ne (t := 56) d_Teacher_readTest_24 (by decide) rfl (fun c24_2 => ?_) (fun c24_2 => ?_)
      · have c24_2 : ¬ (s_Tokens_sign K).val = 32 := fun w => c24_2 (by rw [w])
        rw [if_neg c24_2]
        exact Go.vret d_Teacher_readTest_56 rfl ⟨rfl, rfl, rfl⟩
      · have c24_2 := hsn _ _ ((s_Tokens_sign K)).isLt (by decide) c24_2
        refine Go.aload_0 d_Teacher_readTest_27 rfl ?_
        refine Go.getfield d_Teacher_readTest_28 rfl f_Teacher_34 (rw_u (by omega)) (by rfl) ?_
        refine Go.cv0v d_Teacher_readTest_31 rfl l_Teacher_242 k_Tokens_advance_v (rw_y (by omega)) rfl (w1_Tokens_advance hs hsn (by omega) hN0 hN1 hN2 hN3 hN4) (Nat.ble_eq_true_of_le (by omega)) rfl rfl ?_
        refine Go.aload_0 d_Teacher_readTest_34 rfl ?_
        refine Go.iload_1 d_Teacher_readTest_35 rfl ?_
        refine Go.cv1v d_Teacher_readTest_36 rfl l_Teacher_236 k_Teacher_readBoth_v (rw_u (by omega)) rfl (hr1 x1 _ _ _ (by omega) (by omega)) (Nat.ble_eq_true_of_le (by omega)) rfl rfl ?_
        refine Go.aload_0 d_Teacher_readTest_39 rfl ?_
        refine Go.getfield d_Teacher_readTest_40 rfl f_Teacher_52 (rw_u (by omega)) (by rfl) ?_
        refine Go.gets d_Teacher_readTest_43 rfl x_Teacher_239 (hs.z (i := 32) rfl) ?_
        refine Go.iconst (v := 0) d_Teacher_readTest_46 rfl (by decide) ?_
        refine Go.cv2v d_Teacher_readTest_47 rfl l_Teacher_245 k_Formulas_put_v (rw_f (by omega)) rfl (w1_Formulas_put (x1 := (32 : Fin 54)) hs hsn (by omega) hN0 hN1 hN2 hN3 hN4) (Nat.ble_eq_true_of_le (by omega)) rfl rfl ?_
        refine Go.iinc_2 d_Teacher_readTest_50 rfl (by rfl) (nI_inc _) ?_
        refine Go.goto (t := 7) d_Teacher_readTest_53 (by decide) ?_
        rw [if_pos c24_2]
        exact ih (i + 1) _ _ _ (by omega) (by first | exact hn | (simp only []; exact hn))
theorem d_Teacher_readTest_0 : decode M_Teacher_readTest.2.1 0 = .ok (.aload_n 0, 1) := by decide +kernel
theorem d_Teacher_readTest_1 : decode M_Teacher_readTest.2.1 1 = .ok (.iload_n 1, 1) := by decide +kernel
theorem d_Teacher_readTest_2 : decode M_Teacher_readTest.2.1 2 = .ok (.invokevirtual 236, 3) := by decide +kernel
theorem d_Teacher_readTest_5 : decode M_Teacher_readTest.2.1 5 = .ok (.iconst 0, 1) := by decide +kernel
theorem d_Teacher_readTest_6 : decode M_Teacher_readTest.2.1 6 = .ok (.istore_n 2, 1) := by decide +kernel
def s_Teacher_readTest (K : TK) (F : FM) (E : TE) (N0 : NM) (N1 : NM) (N2 : NM) (N3 : NM) (N4 : NM) (rec : Nat → Nat → Fin 54 → RS → RS) (x1 : Nat) : TK × FM × TE := (l_Teacher_readTest_7 N0 N1 N2 N3 N4 rec x1 (400) 0 (rec 1 x1 0 (K, F, E)).1 (rec 1 x1 0 (K, F, E)).2.1 (rec 1 x1 0 (K, F, E)).2.2)
set_option maxRecDepth 100000 in
set_option maxHeartbeats 4000000 in
theorem c_Teacher_readTest {Γ : G9} {sg : Nat → Nat} {sw : Nat} {h : AH} {y g o u z m : Nat} {K : TK} {F : FM} {E : TE} {N0 : NM} {N1 : NM} {N2 : NM} {N3 : NM} {N4 : NM} {rec : Nat → Nat → Fin 54 → RS → RS} {x1 : Nat} {vx1 : Int32} (hr0 : ∀ (x : Nat) (K : TK) (F : FM) (E : TE), x ≤ 8 → 7 * (8 - x) + 6 < m → CallR Γ M_Teacher_readTest (m + 6) [.ref u, .int (nI x)] (rw_ Γ sg h y g o u K F E N0 N1 N2 N3 N4) z none (rw_ Γ sg h y g o u (rec 0 x 0 (K, F, E)).1 (rec 0 x 0 (K, F, E)).2.1 (rec 0 x 0 (K, F, E)).2.2 N0 N1 N2 N3 N4)) (hr1 : ∀ (x : Nat) (K : TK) (F : FM) (E : TE), x ≤ 8 → 7 * (8 - x) + 5 < m → CallR Γ M_Teacher_readBoth (m + 6) [.ref u, .int (nI x)] (rw_ Γ sg h y g o u K F E N0 N1 N2 N3 N4) z none (rw_ Γ sg h y g o u (rec 1 x 0 (K, F, E)).1 (rec 1 x 0 (K, F, E)).2.1 (rec 1 x 0 (K, F, E)).2.2 N0 N1 N2 N3 N4)) (hr2 : ∀ (x : Nat) (K : TK) (F : FM) (E : TE), x ≤ 8 → 7 * (8 - x) + 4 < m → CallR Γ M_Teacher_readSingle (m + 6) [.ref u, .int (nI x)] (rw_ Γ sg h y g o u K F E N0 N1 N2 N3 N4) z none (rw_ Γ sg h y g o u (rec 2 x 0 (K, F, E)).1 (rec 2 x 0 (K, F, E)).2.1 (rec 2 x 0 (K, F, E)).2.2 N0 N1 N2 N3 N4)) (hr3 : ∀ (x : Nat) (K : TK) (F : FM) (E : TE), x ≤ 8 → 7 * (8 - x) + 3 < m → CallR Γ M_Teacher_readSum (m + 6) [.ref u, .int (nI x)] (rw_ Γ sg h y g o u K F E N0 N1 N2 N3 N4) z none (rw_ Γ sg h y g o u (rec 3 x 0 (K, F, E)).1 (rec 3 x 0 (K, F, E)).2.1 (rec 3 x 0 (K, F, E)).2.2 N0 N1 N2 N3 N4)) (hr4 : ∀ (x : Nat) (K : TK) (F : FM) (E : TE), x ≤ 8 → 7 * (8 - x) + 2 < m → CallR Γ M_Teacher_readProduct (m + 6) [.ref u, .int (nI x)] (rw_ Γ sg h y g o u K F E N0 N1 N2 N3 N4) z none (rw_ Γ sg h y g o u (rec 4 x 0 (K, F, E)).1 (rec 4 x 0 (K, F, E)).2.1 (rec 4 x 0 (K, F, E)).2.2 N0 N1 N2 N3 N4)) (hr5 : ∀ (x : Nat) (K : TK) (F : FM) (E : TE), x ≤ 8 → 7 * (8 - x) + 1 < m → CallR Γ M_Teacher_readValue (m + 6) [.ref u, .int (nI x)] (rw_ Γ sg h y g o u K F E N0 N1 N2 N3 N4) z none (rw_ Γ sg h y g o u (rec 5 x 0 (K, F, E)).1 (rec 5 x 0 (K, F, E)).2.1 (rec 5 x 0 (K, F, E)).2.2 N0 N1 N2 N3 N4)) (hr6 : ∀ (x : Nat) (c : Fin 54) (K : TK) (F : FM) (E : TE), x ≤ 8 → 7 * (8 - x) + 0 < m → CallR Γ M_Teacher_readNested (m + 6) [.ref u, .ref (sg c.val), .int (nI x)] (rw_ Γ sg h y g o u K F E N0 N1 N2 N3 N4) z none (rw_ Γ sg h y g o u (rec 6 x c (K, F, E)).1 (rec 6 x c (K, F, E)).2.1 (rec 6 x c (K, F, E)).2.2 N0 N1 N2 N3 N4)) (hx : 7 * (8 - x1) + 6 < m + 1) (ex1 : vx1 = nI x1) (bx1 : x1 ≤ 8) (hs : SgOk Γ sg) (hsn : SgNe sg) (hw : SwOk Γ sw) (geo : y + 4 ≤ o ∧ o + 7 ≤ u) (hN0 : nm_sz N0 ≤ 6) (hN1 : nm_sz N1 ≤ 6) (hN2 : nm_sz N2 ≤ 6) (hN3 : nm_sz N3 ≤ 6) (hN4 : nm_sz N4 ≤ 6) : CallR Γ M_Teacher_readTest (m + 1 + 6) [.ref u, .int vx1] (rw_ Γ sg h y g o u K F E N0 N1 N2 N3 N4) z none (rw_ Γ sg h y g o u (s_Teacher_readTest K F E N0 N1 N2 N3 N4 rec x1).1 (s_Teacher_readTest K F E N0 N1 N2 N3 N4 rec x1).2.1 (s_Teacher_readTest K F E N0 N1 N2 N3 N4 rec x1).2.2 N0 N1 N2 N3 N4) := by
  subst ex1
  refine Call.of_go (L := [some (.ref u), some (.int (nI x1)), none]) (by decide +kernel) rfl (by exact Nat.le_of_ble_eq_true rfl) ?_
  unfold s_Teacher_readTest
  refine Go.aload_0 d_Teacher_readTest_0 rfl ?_
  refine Go.iload_1 d_Teacher_readTest_1 rfl ?_
  refine Go.cv1v d_Teacher_readTest_2 rfl l_Teacher_236 k_Teacher_readBoth_v (rw_u (by omega)) rfl (hr1 x1 _ _ _ (by omega) (by omega)) (Nat.ble_eq_true_of_le (by omega)) rfl rfl ?_
  refine Go.iconst (v := 0) d_Teacher_readTest_5 rfl (by decide) ?_
  refine Go.istore_2 d_Teacher_readTest_6 rfl (by rfl) ?_
  exact l_Teacher_readTest_7_go (n := (400)) hr0 hr1 hr2 hr3 hr4 hr5 hr6 hx bx1 hs hsn hw geo hN0 hN1 hN2 hN3 hN4 (by decide) (400) 0 (rec 1 x1 0 (K, F, E)).1 (rec 1 x1 0 (K, F, E)).2.1 (rec 1 x1 0 (K, F, E)).2.2 (by omega) rfl
theorem d_Teacher_readBoth_7 : decode M_Teacher_readBoth.2.1 7 = .ok (.iload_n 2, 1) := by decide +kernel
theorem d_Teacher_readBoth_8 : decode M_Teacher_readBoth.2.1 8 = .ok (.sipush 400, 3) := by decide +kernel
theorem d_Teacher_readBoth_11 : decode M_Teacher_readBoth.2.1 11 = .ok (.if_icmp .ge 45, 3) := by decide +kernel
theorem d_Teacher_readBoth_56 : decode M_Teacher_readBoth.2.1 56 = .ok (.return_, 1) := by decide +kernel
theorem d_Teacher_readBoth_14 : decode M_Teacher_readBoth.2.1 14 = .ok (.aload_n 0, 1) := by decide +kernel
theorem d_Teacher_readBoth_15 : decode M_Teacher_readBoth.2.1 15 = .ok (.getfield 34, 3) := by decide +kernel
theorem d_Teacher_readBoth_18 : decode M_Teacher_readBoth.2.1 18 = .ok (.invokevirtual 62, 3) := by decide +kernel
theorem d_Teacher_readBoth_21 : decode M_Teacher_readBoth.2.1 21 = .ok (.getstatic 252, 3) := by decide +kernel
theorem d_Teacher_readBoth_24 : decode M_Teacher_readBoth.2.1 24 = .ok (.if_acmp .ne 32, 3) := by decide +kernel
theorem d_Teacher_readBoth_27 : decode M_Teacher_readBoth.2.1 27 = .ok (.aload_n 0, 1) := by decide +kernel
theorem d_Teacher_readBoth_28 : decode M_Teacher_readBoth.2.1 28 = .ok (.getfield 34, 3) := by decide +kernel
theorem d_Teacher_readBoth_31 : decode M_Teacher_readBoth.2.1 31 = .ok (.invokevirtual 242, 3) := by decide +kernel
theorem d_Teacher_readBoth_34 : decode M_Teacher_readBoth.2.1 34 = .ok (.aload_n 0, 1) := by decide +kernel
theorem d_Teacher_readBoth_35 : decode M_Teacher_readBoth.2.1 35 = .ok (.iload_n 1, 1) := by decide +kernel
theorem d_Teacher_readBoth_36 : decode M_Teacher_readBoth.2.1 36 = .ok (.invokevirtual 249, 3) := by decide +kernel
theorem d_Teacher_readBoth_39 : decode M_Teacher_readBoth.2.1 39 = .ok (.aload_n 0, 1) := by decide +kernel
theorem d_Teacher_readBoth_40 : decode M_Teacher_readBoth.2.1 40 = .ok (.getfield 52, 3) := by decide +kernel
theorem d_Teacher_readBoth_43 : decode M_Teacher_readBoth.2.1 43 = .ok (.getstatic 252, 3) := by decide +kernel
theorem d_Teacher_readBoth_46 : decode M_Teacher_readBoth.2.1 46 = .ok (.iconst 0, 1) := by decide +kernel
theorem d_Teacher_readBoth_47 : decode M_Teacher_readBoth.2.1 47 = .ok (.invokevirtual 245, 3) := by decide +kernel
theorem d_Teacher_readBoth_50 : decode M_Teacher_readBoth.2.1 50 = .ok (.iinc 2 1, 3) := by decide +kernel
theorem d_Teacher_readBoth_53 : decode M_Teacher_readBoth.2.1 53 = .ok (.goto (-46), 3) := by decide +kernel
def l_Teacher_readBoth_7 (N0 : NM) (N1 : NM) (N2 : NM) (N3 : NM) (N4 : NM) (rec : Nat → Nat → Fin 54 → RS → RS) (x1 : Nat) : Nat → Nat → TK → FM → TE → TK × FM × TE
  | 0, i, K, F, E => (K, F, E)
  | k + 1, i, K, F, E => (if (s_Tokens_sign K).val = 31 then (l_Teacher_readBoth_7 N0 N1 N2 N3 N4 rec x1 k (i + 1) (rec 2 x1 0 ((s_Tokens_advance K), F, E)).1 (s_Formulas_put (rec 2 x1 0 ((s_Tokens_advance K), F, E)).2.1 (31 : Fin 54) 0) (rec 2 x1 0 ((s_Tokens_advance K), F, E)).2.2) else (K, F, E))
set_option maxRecDepth 100000 in
set_option maxHeartbeats 4000000 in
theorem l_Teacher_readBoth_7_go {Γ : G9} {sg : Nat → Nat} {sw : Nat} {h : AH} {y g o u z m : Nat} {n : Nat} {N0 : NM} {N1 : NM} {N2 : NM} {N3 : NM} {N4 : NM} {rec : Nat → Nat → Fin 54 → RS → RS} {x1 : Nat} (hr0 : ∀ (x : Nat) (K : TK) (F : FM) (E : TE), x ≤ 8 → 7 * (8 - x) + 6 < m → CallR Γ M_Teacher_readTest (m + 6) [.ref u, .int (nI x)] (rw_ Γ sg h y g o u K F E N0 N1 N2 N3 N4) z none (rw_ Γ sg h y g o u (rec 0 x 0 (K, F, E)).1 (rec 0 x 0 (K, F, E)).2.1 (rec 0 x 0 (K, F, E)).2.2 N0 N1 N2 N3 N4)) (hr1 : ∀ (x : Nat) (K : TK) (F : FM) (E : TE), x ≤ 8 → 7 * (8 - x) + 5 < m → CallR Γ M_Teacher_readBoth (m + 6) [.ref u, .int (nI x)] (rw_ Γ sg h y g o u K F E N0 N1 N2 N3 N4) z none (rw_ Γ sg h y g o u (rec 1 x 0 (K, F, E)).1 (rec 1 x 0 (K, F, E)).2.1 (rec 1 x 0 (K, F, E)).2.2 N0 N1 N2 N3 N4)) (hr2 : ∀ (x : Nat) (K : TK) (F : FM) (E : TE), x ≤ 8 → 7 * (8 - x) + 4 < m → CallR Γ M_Teacher_readSingle (m + 6) [.ref u, .int (nI x)] (rw_ Γ sg h y g o u K F E N0 N1 N2 N3 N4) z none (rw_ Γ sg h y g o u (rec 2 x 0 (K, F, E)).1 (rec 2 x 0 (K, F, E)).2.1 (rec 2 x 0 (K, F, E)).2.2 N0 N1 N2 N3 N4)) (hr3 : ∀ (x : Nat) (K : TK) (F : FM) (E : TE), x ≤ 8 → 7 * (8 - x) + 3 < m → CallR Γ M_Teacher_readSum (m + 6) [.ref u, .int (nI x)] (rw_ Γ sg h y g o u K F E N0 N1 N2 N3 N4) z none (rw_ Γ sg h y g o u (rec 3 x 0 (K, F, E)).1 (rec 3 x 0 (K, F, E)).2.1 (rec 3 x 0 (K, F, E)).2.2 N0 N1 N2 N3 N4)) (hr4 : ∀ (x : Nat) (K : TK) (F : FM) (E : TE), x ≤ 8 → 7 * (8 - x) + 2 < m → CallR Γ M_Teacher_readProduct (m + 6) [.ref u, .int (nI x)] (rw_ Γ sg h y g o u K F E N0 N1 N2 N3 N4) z none (rw_ Γ sg h y g o u (rec 4 x 0 (K, F, E)).1 (rec 4 x 0 (K, F, E)).2.1 (rec 4 x 0 (K, F, E)).2.2 N0 N1 N2 N3 N4)) (hr5 : ∀ (x : Nat) (K : TK) (F : FM) (E : TE), x ≤ 8 → 7 * (8 - x) + 1 < m → CallR Γ M_Teacher_readValue (m + 6) [.ref u, .int (nI x)] (rw_ Γ sg h y g o u K F E N0 N1 N2 N3 N4) z none (rw_ Γ sg h y g o u (rec 5 x 0 (K, F, E)).1 (rec 5 x 0 (K, F, E)).2.1 (rec 5 x 0 (K, F, E)).2.2 N0 N1 N2 N3 N4)) (hr6 : ∀ (x : Nat) (c : Fin 54) (K : TK) (F : FM) (E : TE), x ≤ 8 → 7 * (8 - x) + 0 < m → CallR Γ M_Teacher_readNested (m + 6) [.ref u, .ref (sg c.val), .int (nI x)] (rw_ Γ sg h y g o u K F E N0 N1 N2 N3 N4) z none (rw_ Γ sg h y g o u (rec 6 x c (K, F, E)).1 (rec 6 x c (K, F, E)).2.1 (rec 6 x c (K, F, E)).2.2 N0 N1 N2 N3 N4)) (hx : 7 * (8 - x1) + 5 < m + 1) (bx1 : x1 ≤ 8) (hs : SgOk Γ sg) (hsn : SgNe sg) (hw : SwOk Γ sw) (geo : y + 4 ≤ o ∧ o + 7 ≤ u) (hN0 : nm_sz N0 ≤ 6) (hN1 : nm_sz N1 ≤ 6) (hN2 : nm_sz N2 ≤ 6) (hN3 : nm_sz N3 ≤ 6) (hN4 : nm_sz N4 ≤ 6) (hn20 : n ≤ 400) : ∀ (k i : Nat) (K : TK) (F : FM) (E : TE), i + k = n → 400 = n → Go Γ M_Teacher_readBoth (m + 1 + 6) 0 0 7 [some (.ref u), some (.int (nI x1)), some (.int (nI i))] [] (rw_ Γ sg h y g o u K F E N0 N1 N2 N3 N4) z (RQ none (rw_ Γ sg h y g o u (l_Teacher_readBoth_7 N0 N1 N2 N3 N4 rec x1 k i K F E).1 (l_Teacher_readBoth_7 N0 N1 N2 N3 N4 rec x1 k i K F E).2.1 (l_Teacher_readBoth_7 N0 N1 N2 N3 N4 rec x1 k i K F E).2.2 N0 N1 N2 N3 N4) z) noX := by
  intro k
  induction k with
  | zero =>
    intro i K F E hi hn
    unfold l_Teacher_readBoth_7
    refine Go.iload_2 d_Teacher_readBoth_7 rfl ?_
    refine Go.sipush (v := 400) d_Teacher_readBoth_8 rfl (by decide) ?_
    refine Go.icmp_ge (t := 56) d_Teacher_readBoth_11 (by decide) rfl (fun c11_1 => ?_) (fun c11_1 => ?_)
    · exact Go.vret d_Teacher_readBoth_56 rfl ⟨rfl, rfl, rfl⟩
    · exact absurd (show nI 400 ≤ nI i from nI_le (by omega) (by omega)) c11_1
  | succ k ih =>
    intro i K F E hi hn
    unfold l_Teacher_readBoth_7
    refine Go.iload_2 d_Teacher_readBoth_7 rfl ?_
    refine Go.sipush (v := 400) d_Teacher_readBoth_8 rfl (by decide) ?_
    refine Go.icmp_ge (t := 56) d_Teacher_readBoth_11 (by decide) rfl (fun c11_1 => ?_) (fun c11_1 => ?_)
    · exact absurd c11_1 (show ¬ nI 400 ≤ nI i from nI_ge (by omega) (by omega))
    · refine Go.aload_0 d_Teacher_readBoth_14 rfl ?_
      refine Go.getfield d_Teacher_readBoth_15 rfl f_Teacher_34 (rw_u (by omega)) (by rfl) ?_
      refine Go.cv0r d_Teacher_readBoth_18 rfl l_Teacher_62 k_Tokens_sign_v (rw_y (by omega)) rfl (w1_Tokens_sign hs hsn (by omega) hN0 hN1 hN2 hN3 hN4) (Nat.ble_eq_true_of_le (by omega)) rfl rfl ?_
      refine Go.gets d_Teacher_readBoth_21 rfl x_Teacher_252 (hs.z (i := 31) rfl) ?_
      refine Go.acmp_ne (t := 56) d_Teacher_readBoth_24 (by decide) rfl (fun c24_2 => ?_) (fun c24_2 => ?_)
      · have c24_2 : ¬ (s_Tokens_sign K).val = 31 := fun w => c24_2 (by rw [w])
        rw [if_neg c24_2]
        exact Go.vret d_Teacher_readBoth_56 rfl ⟨rfl, rfl, rfl⟩
      · have c24_2 := hsn _ _ ((s_Tokens_sign K)).isLt (by decide) c24_2
        refine Go.aload_0 d_Teacher_readBoth_27 rfl ?_
        refine Go.getfield d_Teacher_readBoth_28 rfl f_Teacher_34 (rw_u (by omega)) (by rfl) ?_
        refine Go.cv0v d_Teacher_readBoth_31 rfl l_Teacher_242 k_Tokens_advance_v (rw_y (by omega)) rfl (w1_Tokens_advance hs hsn (by omega) hN0 hN1 hN2 hN3 hN4) (Nat.ble_eq_true_of_le (by omega)) rfl rfl ?_
        refine Go.aload_0 d_Teacher_readBoth_34 rfl ?_
        refine Go.iload_1 d_Teacher_readBoth_35 rfl ?_
        refine Go.cv1v d_Teacher_readBoth_36 rfl l_Teacher_249 k_Teacher_readSingle_v (rw_u (by omega)) rfl (hr2 x1 _ _ _ (by omega) (by omega)) (Nat.ble_eq_true_of_le (by omega)) rfl rfl ?_
        refine Go.aload_0 d_Teacher_readBoth_39 rfl ?_
        refine Go.getfield d_Teacher_readBoth_40 rfl f_Teacher_52 (rw_u (by omega)) (by rfl) ?_
        refine Go.gets d_Teacher_readBoth_43 rfl x_Teacher_252 (hs.z (i := 31) rfl) ?_
        refine Go.iconst (v := 0) d_Teacher_readBoth_46 rfl (by decide) ?_
        refine Go.cv2v d_Teacher_readBoth_47 rfl l_Teacher_245 k_Formulas_put_v (rw_f (by omega)) rfl (w1_Formulas_put (x1 := (31 : Fin 54)) hs hsn (by omega) hN0 hN1 hN2 hN3 hN4) (Nat.ble_eq_true_of_le (by omega)) rfl rfl ?_
        refine Go.iinc_2 d_Teacher_readBoth_50 rfl (by rfl) (nI_inc _) ?_
        refine Go.goto (t := 7) d_Teacher_readBoth_53 (by decide) ?_
        rw [if_pos c24_2]
        exact ih (i + 1) _ _ _ (by omega) (by first | exact hn | (simp only []; exact hn))
theorem d_Teacher_readBoth_0 : decode M_Teacher_readBoth.2.1 0 = .ok (.aload_n 0, 1) := by decide +kernel
theorem d_Teacher_readBoth_1 : decode M_Teacher_readBoth.2.1 1 = .ok (.iload_n 1, 1) := by decide +kernel
theorem d_Teacher_readBoth_2 : decode M_Teacher_readBoth.2.1 2 = .ok (.invokevirtual 249, 3) := by decide +kernel
theorem d_Teacher_readBoth_5 : decode M_Teacher_readBoth.2.1 5 = .ok (.iconst 0, 1) := by decide +kernel
theorem d_Teacher_readBoth_6 : decode M_Teacher_readBoth.2.1 6 = .ok (.istore_n 2, 1) := by decide +kernel
def s_Teacher_readBoth (K : TK) (F : FM) (E : TE) (N0 : NM) (N1 : NM) (N2 : NM) (N3 : NM) (N4 : NM) (rec : Nat → Nat → Fin 54 → RS → RS) (x1 : Nat) : TK × FM × TE := (l_Teacher_readBoth_7 N0 N1 N2 N3 N4 rec x1 (400) 0 (rec 2 x1 0 (K, F, E)).1 (rec 2 x1 0 (K, F, E)).2.1 (rec 2 x1 0 (K, F, E)).2.2)
set_option maxRecDepth 100000 in
set_option maxHeartbeats 4000000 in
theorem c_Teacher_readBoth {Γ : G9} {sg : Nat → Nat} {sw : Nat} {h : AH} {y g o u z m : Nat} {K : TK} {F : FM} {E : TE} {N0 : NM} {N1 : NM} {N2 : NM} {N3 : NM} {N4 : NM} {rec : Nat → Nat → Fin 54 → RS → RS} {x1 : Nat} {vx1 : Int32} (hr0 : ∀ (x : Nat) (K : TK) (F : FM) (E : TE), x ≤ 8 → 7 * (8 - x) + 6 < m → CallR Γ M_Teacher_readTest (m + 6) [.ref u, .int (nI x)] (rw_ Γ sg h y g o u K F E N0 N1 N2 N3 N4) z none (rw_ Γ sg h y g o u (rec 0 x 0 (K, F, E)).1 (rec 0 x 0 (K, F, E)).2.1 (rec 0 x 0 (K, F, E)).2.2 N0 N1 N2 N3 N4)) (hr1 : ∀ (x : Nat) (K : TK) (F : FM) (E : TE), x ≤ 8 → 7 * (8 - x) + 5 < m → CallR Γ M_Teacher_readBoth (m + 6) [.ref u, .int (nI x)] (rw_ Γ sg h y g o u K F E N0 N1 N2 N3 N4) z none (rw_ Γ sg h y g o u (rec 1 x 0 (K, F, E)).1 (rec 1 x 0 (K, F, E)).2.1 (rec 1 x 0 (K, F, E)).2.2 N0 N1 N2 N3 N4)) (hr2 : ∀ (x : Nat) (K : TK) (F : FM) (E : TE), x ≤ 8 → 7 * (8 - x) + 4 < m → CallR Γ M_Teacher_readSingle (m + 6) [.ref u, .int (nI x)] (rw_ Γ sg h y g o u K F E N0 N1 N2 N3 N4) z none (rw_ Γ sg h y g o u (rec 2 x 0 (K, F, E)).1 (rec 2 x 0 (K, F, E)).2.1 (rec 2 x 0 (K, F, E)).2.2 N0 N1 N2 N3 N4)) (hr3 : ∀ (x : Nat) (K : TK) (F : FM) (E : TE), x ≤ 8 → 7 * (8 - x) + 3 < m → CallR Γ M_Teacher_readSum (m + 6) [.ref u, .int (nI x)] (rw_ Γ sg h y g o u K F E N0 N1 N2 N3 N4) z none (rw_ Γ sg h y g o u (rec 3 x 0 (K, F, E)).1 (rec 3 x 0 (K, F, E)).2.1 (rec 3 x 0 (K, F, E)).2.2 N0 N1 N2 N3 N4)) (hr4 : ∀ (x : Nat) (K : TK) (F : FM) (E : TE), x ≤ 8 → 7 * (8 - x) + 2 < m → CallR Γ M_Teacher_readProduct (m + 6) [.ref u, .int (nI x)] (rw_ Γ sg h y g o u K F E N0 N1 N2 N3 N4) z none (rw_ Γ sg h y g o u (rec 4 x 0 (K, F, E)).1 (rec 4 x 0 (K, F, E)).2.1 (rec 4 x 0 (K, F, E)).2.2 N0 N1 N2 N3 N4)) (hr5 : ∀ (x : Nat) (K : TK) (F : FM) (E : TE), x ≤ 8 → 7 * (8 - x) + 1 < m → CallR Γ M_Teacher_readValue (m + 6) [.ref u, .int (nI x)] (rw_ Γ sg h y g o u K F E N0 N1 N2 N3 N4) z none (rw_ Γ sg h y g o u (rec 5 x 0 (K, F, E)).1 (rec 5 x 0 (K, F, E)).2.1 (rec 5 x 0 (K, F, E)).2.2 N0 N1 N2 N3 N4)) (hr6 : ∀ (x : Nat) (c : Fin 54) (K : TK) (F : FM) (E : TE), x ≤ 8 → 7 * (8 - x) + 0 < m → CallR Γ M_Teacher_readNested (m + 6) [.ref u, .ref (sg c.val), .int (nI x)] (rw_ Γ sg h y g o u K F E N0 N1 N2 N3 N4) z none (rw_ Γ sg h y g o u (rec 6 x c (K, F, E)).1 (rec 6 x c (K, F, E)).2.1 (rec 6 x c (K, F, E)).2.2 N0 N1 N2 N3 N4)) (hx : 7 * (8 - x1) + 5 < m + 1) (ex1 : vx1 = nI x1) (bx1 : x1 ≤ 8) (hs : SgOk Γ sg) (hsn : SgNe sg) (hw : SwOk Γ sw) (geo : y + 4 ≤ o ∧ o + 7 ≤ u) (hN0 : nm_sz N0 ≤ 6) (hN1 : nm_sz N1 ≤ 6) (hN2 : nm_sz N2 ≤ 6) (hN3 : nm_sz N3 ≤ 6) (hN4 : nm_sz N4 ≤ 6) : CallR Γ M_Teacher_readBoth (m + 1 + 6) [.ref u, .int vx1] (rw_ Γ sg h y g o u K F E N0 N1 N2 N3 N4) z none (rw_ Γ sg h y g o u (s_Teacher_readBoth K F E N0 N1 N2 N3 N4 rec x1).1 (s_Teacher_readBoth K F E N0 N1 N2 N3 N4 rec x1).2.1 (s_Teacher_readBoth K F E N0 N1 N2 N3 N4 rec x1).2.2 N0 N1 N2 N3 N4) := by
  subst ex1
  refine Call.of_go (L := [some (.ref u), some (.int (nI x1)), none]) (by decide +kernel) rfl (by exact Nat.le_of_ble_eq_true rfl) ?_
  unfold s_Teacher_readBoth
  refine Go.aload_0 d_Teacher_readBoth_0 rfl ?_
  refine Go.iload_1 d_Teacher_readBoth_1 rfl ?_
  refine Go.cv1v d_Teacher_readBoth_2 rfl l_Teacher_249 k_Teacher_readSingle_v (rw_u (by omega)) rfl (hr2 x1 _ _ _ (by omega) (by omega)) (Nat.ble_eq_true_of_le (by omega)) rfl rfl ?_
  refine Go.iconst (v := 0) d_Teacher_readBoth_5 rfl (by decide) ?_
  refine Go.istore_2 d_Teacher_readBoth_6 rfl (by rfl) ?_
  exact l_Teacher_readBoth_7_go (n := (400)) hr0 hr1 hr2 hr3 hr4 hr5 hr6 hx bx1 hs hsn hw geo hN0 hN1 hN2 hN3 hN4 (by decide) (400) 0 (rec 2 x1 0 (K, F, E)).1 (rec 2 x1 0 (K, F, E)).2.1 (rec 2 x1 0 (K, F, E)).2.2 (by omega) rfl
theorem d_Teacher_readSingle_0 : decode M_Teacher_readSingle.2.1 0 = .ok (.aload_n 0, 1) := by decide +kernel
theorem d_Teacher_readSingle_1 : decode M_Teacher_readSingle.2.1 1 = .ok (.getfield 34, 3) := by decide +kernel
theorem d_Teacher_readSingle_4 : decode M_Teacher_readSingle.2.1 4 = .ok (.invokevirtual 62, 3) := by decide +kernel
theorem d_Teacher_readSingle_7 : decode M_Teacher_readSingle.2.1 7 = .ok (.astore_n 2, 1) := by decide +kernel
theorem d_Teacher_readSingle_8 : decode M_Teacher_readSingle.2.1 8 = .ok (.aload_n 2, 1) := by decide +kernel
theorem d_Teacher_readSingle_9 : decode M_Teacher_readSingle.2.1 9 = .ok (.getstatic 255, 3) := by decide +kernel
theorem d_Teacher_readSingle_12 : decode M_Teacher_readSingle.2.1 12 = .ok (.if_acmp .ne 30, 3) := by decide +kernel
theorem d_Teacher_readSingle_15 : decode M_Teacher_readSingle.2.1 15 = .ok (.aload_n 0, 1) := by decide +kernel
theorem d_Teacher_readSingle_16 : decode M_Teacher_readSingle.2.1 16 = .ok (.iload_n 1, 1) := by decide +kernel
theorem d_Teacher_readSingle_17 : decode M_Teacher_readSingle.2.1 17 = .ok (.invokevirtual 258, 3) := by decide +kernel
theorem d_Teacher_readSingle_20 : decode M_Teacher_readSingle.2.1 20 = .ok (.ifCond .eq 189, 3) := by decide +kernel
theorem d_Teacher_readSingle_23 : decode M_Teacher_readSingle.2.1 23 = .ok (.aload_n 0, 1) := by decide +kernel
theorem d_Teacher_readSingle_24 : decode M_Teacher_readSingle.2.1 24 = .ok (.iload_n 1, 1) := by decide +kernel
theorem d_Teacher_readSingle_25 : decode M_Teacher_readSingle.2.1 25 = .ok (.iconst 1, 1) := by decide +kernel
theorem d_Teacher_readSingle_26 : decode M_Teacher_readSingle.2.1 26 = .ok (.iadd, 1) := by decide +kernel
theorem d_Teacher_readSingle_27 : decode M_Teacher_readSingle.2.1 27 = .ok (.invokevirtual 249, 3) := by decide +kernel
theorem d_Teacher_readSingle_30 : decode M_Teacher_readSingle.2.1 30 = .ok (.aload_n 0, 1) := by decide +kernel
theorem d_Teacher_readSingle_31 : decode M_Teacher_readSingle.2.1 31 = .ok (.getfield 52, 3) := by decide +kernel
theorem d_Teacher_readSingle_34 : decode M_Teacher_readSingle.2.1 34 = .ok (.aload_n 2, 1) := by decide +kernel
theorem d_Teacher_readSingle_35 : decode M_Teacher_readSingle.2.1 35 = .ok (.iconst 0, 1) := by decide +kernel
theorem d_Teacher_readSingle_36 : decode M_Teacher_readSingle.2.1 36 = .ok (.invokevirtual 245, 3) := by decide +kernel
theorem d_Teacher_readSingle_39 : decode M_Teacher_readSingle.2.1 39 = .ok (.goto 170, 3) := by decide +kernel
theorem d_Teacher_readSingle_42 : decode M_Teacher_readSingle.2.1 42 = .ok (.aload_n 2, 1) := by decide +kernel
theorem d_Teacher_readSingle_43 : decode M_Teacher_readSingle.2.1 43 = .ok (.getstatic 262, 3) := by decide +kernel
theorem d_Teacher_readSingle_46 : decode M_Teacher_readSingle.2.1 46 = .ok (.if_acmp .ne 31, 3) := by decide +kernel
theorem d_Teacher_readSingle_49 : decode M_Teacher_readSingle.2.1 49 = .ok (.aload_n 0, 1) := by decide +kernel
theorem d_Teacher_readSingle_50 : decode M_Teacher_readSingle.2.1 50 = .ok (.iload_n 1, 1) := by decide +kernel
theorem d_Teacher_readSingle_51 : decode M_Teacher_readSingle.2.1 51 = .ok (.invokevirtual 258, 3) := by decide +kernel
theorem d_Teacher_readSingle_54 : decode M_Teacher_readSingle.2.1 54 = .ok (.ifCond .eq 155, 3) := by decide +kernel
theorem d_Teacher_readSingle_57 : decode M_Teacher_readSingle.2.1 57 = .ok (.aload_n 0, 1) := by decide +kernel
theorem d_Teacher_readSingle_58 : decode M_Teacher_readSingle.2.1 58 = .ok (.iload_n 1, 1) := by decide +kernel
theorem d_Teacher_readSingle_59 : decode M_Teacher_readSingle.2.1 59 = .ok (.iconst 1, 1) := by decide +kernel
theorem d_Teacher_readSingle_60 : decode M_Teacher_readSingle.2.1 60 = .ok (.iadd, 1) := by decide +kernel
theorem d_Teacher_readSingle_61 : decode M_Teacher_readSingle.2.1 61 = .ok (.invokevirtual 233, 3) := by decide +kernel
theorem d_Teacher_readSingle_64 : decode M_Teacher_readSingle.2.1 64 = .ok (.aload_n 0, 1) := by decide +kernel
theorem d_Teacher_readSingle_65 : decode M_Teacher_readSingle.2.1 65 = .ok (.getfield 34, 3) := by decide +kernel
theorem d_Teacher_readSingle_68 : decode M_Teacher_readSingle.2.1 68 = .ok (.getstatic 265, 3) := by decide +kernel
theorem d_Teacher_readSingle_71 : decode M_Teacher_readSingle.2.1 71 = .ok (.invokevirtual 124, 3) := by decide +kernel
theorem d_Teacher_readSingle_74 : decode M_Teacher_readSingle.2.1 74 = .ok (.goto 135, 3) := by decide +kernel
theorem d_Teacher_readSingle_77 : decode M_Teacher_readSingle.2.1 77 = .ok (.aload_n 2, 1) := by decide +kernel
theorem d_Teacher_readSingle_78 : decode M_Teacher_readSingle.2.1 78 = .ok (.getstatic 268, 3) := by decide +kernel
theorem d_Teacher_readSingle_81 : decode M_Teacher_readSingle.2.1 81 = .ok (.if_acmp .ne 23, 3) := by decide +kernel
theorem d_Teacher_readSingle_84 : decode M_Teacher_readSingle.2.1 84 = .ok (.aload_n 0, 1) := by decide +kernel
theorem d_Teacher_readSingle_85 : decode M_Teacher_readSingle.2.1 85 = .ok (.getfield 52, 3) := by decide +kernel
theorem d_Teacher_readSingle_88 : decode M_Teacher_readSingle.2.1 88 = .ok (.aload_n 2, 1) := by decide +kernel
theorem d_Teacher_readSingle_89 : decode M_Teacher_readSingle.2.1 89 = .ok (.aload_n 0, 1) := by decide +kernel
theorem d_Teacher_readSingle_90 : decode M_Teacher_readSingle.2.1 90 = .ok (.aload_n 2, 1) := by decide +kernel
theorem d_Teacher_readSingle_91 : decode M_Teacher_readSingle.2.1 91 = .ok (.aload_n 0, 1) := by decide +kernel
theorem d_Teacher_readSingle_92 : decode M_Teacher_readSingle.2.1 92 = .ok (.getfield 18, 3) := by decide +kernel
theorem d_Teacher_readSingle_95 : decode M_Teacher_readSingle.2.1 95 = .ok (.invokevirtual 163, 3) := by decide +kernel
theorem d_Teacher_readSingle_98 : decode M_Teacher_readSingle.2.1 98 = .ok (.invokevirtual 245, 3) := by decide +kernel
theorem d_Teacher_readSingle_101 : decode M_Teacher_readSingle.2.1 101 = .ok (.goto 108, 3) := by decide +kernel
theorem d_Teacher_readSingle_104 : decode M_Teacher_readSingle.2.1 104 = .ok (.aload_n 2, 1) := by decide +kernel
theorem d_Teacher_readSingle_105 : decode M_Teacher_readSingle.2.1 105 = .ok (.getstatic 271, 3) := by decide +kernel
theorem d_Teacher_readSingle_108 : decode M_Teacher_readSingle.2.1 108 = .ok (.if_acmp .ne 23, 3) := by decide +kernel
theorem d_Teacher_readSingle_111 : decode M_Teacher_readSingle.2.1 111 = .ok (.aload_n 0, 1) := by decide +kernel
theorem d_Teacher_readSingle_112 : decode M_Teacher_readSingle.2.1 112 = .ok (.getfield 52, 3) := by decide +kernel
theorem d_Teacher_readSingle_115 : decode M_Teacher_readSingle.2.1 115 = .ok (.aload_n 2, 1) := by decide +kernel
theorem d_Teacher_readSingle_116 : decode M_Teacher_readSingle.2.1 116 = .ok (.aload_n 0, 1) := by decide +kernel
theorem d_Teacher_readSingle_117 : decode M_Teacher_readSingle.2.1 117 = .ok (.aload_n 2, 1) := by decide +kernel
theorem d_Teacher_readSingle_118 : decode M_Teacher_readSingle.2.1 118 = .ok (.aload_n 0, 1) := by decide +kernel
theorem d_Teacher_readSingle_119 : decode M_Teacher_readSingle.2.1 119 = .ok (.getfield 27, 3) := by decide +kernel
theorem d_Teacher_readSingle_122 : decode M_Teacher_readSingle.2.1 122 = .ok (.invokevirtual 163, 3) := by decide +kernel
theorem d_Teacher_readSingle_125 : decode M_Teacher_readSingle.2.1 125 = .ok (.invokevirtual 245, 3) := by decide +kernel
theorem d_Teacher_readSingle_128 : decode M_Teacher_readSingle.2.1 128 = .ok (.goto 81, 3) := by decide +kernel
theorem d_Teacher_readSingle_131 : decode M_Teacher_readSingle.2.1 131 = .ok (.aload_n 2, 1) := by decide +kernel
theorem d_Teacher_readSingle_132 : decode M_Teacher_readSingle.2.1 132 = .ok (.getstatic 274, 3) := by decide +kernel
theorem d_Teacher_readSingle_135 : decode M_Teacher_readSingle.2.1 135 = .ok (.if_acmp .ne 23, 3) := by decide +kernel
theorem d_Teacher_readSingle_138 : decode M_Teacher_readSingle.2.1 138 = .ok (.aload_n 0, 1) := by decide +kernel
theorem d_Teacher_readSingle_139 : decode M_Teacher_readSingle.2.1 139 = .ok (.getfield 52, 3) := by decide +kernel
theorem d_Teacher_readSingle_142 : decode M_Teacher_readSingle.2.1 142 = .ok (.aload_n 2, 1) := by decide +kernel
theorem d_Teacher_readSingle_143 : decode M_Teacher_readSingle.2.1 143 = .ok (.aload_n 0, 1) := by decide +kernel
theorem d_Teacher_readSingle_144 : decode M_Teacher_readSingle.2.1 144 = .ok (.aload_n 2, 1) := by decide +kernel
theorem d_Teacher_readSingle_145 : decode M_Teacher_readSingle.2.1 145 = .ok (.aload_n 0, 1) := by decide +kernel
theorem d_Teacher_readSingle_146 : decode M_Teacher_readSingle.2.1 146 = .ok (.getfield 21, 3) := by decide +kernel
theorem d_Teacher_readSingle_149 : decode M_Teacher_readSingle.2.1 149 = .ok (.invokevirtual 163, 3) := by decide +kernel
theorem d_Teacher_readSingle_152 : decode M_Teacher_readSingle.2.1 152 = .ok (.invokevirtual 245, 3) := by decide +kernel
theorem d_Teacher_readSingle_155 : decode M_Teacher_readSingle.2.1 155 = .ok (.goto 54, 3) := by decide +kernel
theorem d_Teacher_readSingle_158 : decode M_Teacher_readSingle.2.1 158 = .ok (.aload_n 0, 1) := by decide +kernel
theorem d_Teacher_readSingle_159 : decode M_Teacher_readSingle.2.1 159 = .ok (.iload_n 1, 1) := by decide +kernel
theorem d_Teacher_readSingle_160 : decode M_Teacher_readSingle.2.1 160 = .ok (.invokevirtual 227, 3) := by decide +kernel
theorem d_Teacher_readSingle_163 : decode M_Teacher_readSingle.2.1 163 = .ok (.aload_n 0, 1) := by decide +kernel
theorem d_Teacher_readSingle_164 : decode M_Teacher_readSingle.2.1 164 = .ok (.getfield 34, 3) := by decide +kernel
theorem d_Teacher_readSingle_167 : decode M_Teacher_readSingle.2.1 167 = .ok (.invokevirtual 62, 3) := by decide +kernel
theorem d_Teacher_readSingle_170 : decode M_Teacher_readSingle.2.1 170 = .ok (.astore_n 2, 1) := by decide +kernel
theorem d_Teacher_readSingle_171 : decode M_Teacher_readSingle.2.1 171 = .ok (.aload_n 2, 1) := by decide +kernel
theorem d_Teacher_readSingle_172 : decode M_Teacher_readSingle.2.1 172 = .ok (.invokestatic 277, 3) := by decide +kernel
theorem d_Teacher_readSingle_175 : decode M_Teacher_readSingle.2.1 175 = .ok (.ifCond .eq 27, 3) := by decide +kernel
theorem d_Teacher_readSingle_178 : decode M_Teacher_readSingle.2.1 178 = .ok (.aload_n 0, 1) := by decide +kernel
theorem d_Teacher_readSingle_179 : decode M_Teacher_readSingle.2.1 179 = .ok (.getfield 34, 3) := by decide +kernel
theorem d_Teacher_readSingle_182 : decode M_Teacher_readSingle.2.1 182 = .ok (.invokevirtual 242, 3) := by decide +kernel
theorem d_Teacher_readSingle_185 : decode M_Teacher_readSingle.2.1 185 = .ok (.aload_n 0, 1) := by decide +kernel
theorem d_Teacher_readSingle_186 : decode M_Teacher_readSingle.2.1 186 = .ok (.iload_n 1, 1) := by decide +kernel
theorem d_Teacher_readSingle_187 : decode M_Teacher_readSingle.2.1 187 = .ok (.invokevirtual 227, 3) := by decide +kernel
theorem d_Teacher_readSingle_190 : decode M_Teacher_readSingle.2.1 190 = .ok (.aload_n 0, 1) := by decide +kernel
theorem d_Teacher_readSingle_191 : decode M_Teacher_readSingle.2.1 191 = .ok (.getfield 52, 3) := by decide +kernel
theorem d_Teacher_readSingle_194 : decode M_Teacher_readSingle.2.1 194 = .ok (.aload_n 2, 1) := by decide +kernel
theorem d_Teacher_readSingle_195 : decode M_Teacher_readSingle.2.1 195 = .ok (.iconst 0, 1) := by decide +kernel
theorem d_Teacher_readSingle_196 : decode M_Teacher_readSingle.2.1 196 = .ok (.invokevirtual 245, 3) := by decide +kernel
theorem d_Teacher_readSingle_199 : decode M_Teacher_readSingle.2.1 199 = .ok (.goto 10, 3) := by decide +kernel
theorem d_Teacher_readSingle_202 : decode M_Teacher_readSingle.2.1 202 = .ok (.aload_n 0, 1) := by decide +kernel
theorem d_Teacher_readSingle_203 : decode M_Teacher_readSingle.2.1 203 = .ok (.getfield 34, 3) := by decide +kernel
theorem d_Teacher_readSingle_206 : decode M_Teacher_readSingle.2.1 206 = .ok (.invokevirtual 118, 3) := by decide +kernel
theorem d_Teacher_readSingle_209 : decode M_Teacher_readSingle.2.1 209 = .ok (.return_, 1) := by decide +kernel
def s_Teacher_readSingle (K : TK) (F : FM) (E : TE) (N0 : NM) (N1 : NM) (N2 : NM) (N3 : NM) (N4 : NM) (rec : Nat → Nat → Fin 54 → RS → RS) (x1 : Nat) : TK × FM × TE := (if (s_Tokens_sign K).val = 30 then (if (s_Teacher_goesDeeper K E x1).1 = 0 then ((s_Teacher_goesDeeper K E x1).2, F, E) else ((rec 2 (x1 + 1) 0 ((s_Teacher_goesDeeper K E x1).2, F, E)).1, (s_Formulas_put (rec 2 (x1 + 1) 0 ((s_Teacher_goesDeeper K E x1).2, F, E)).2.1 (s_Tokens_sign K) 0), (rec 2 (x1 + 1) 0 ((s_Teacher_goesDeeper K E x1).2, F, E)).2.2)) else (if (s_Tokens_sign K).val = 37 then (if (s_Teacher_goesDeeper K E x1).1 = 0 then ((s_Teacher_goesDeeper K E x1).2, F, E) else ((s_Tokens_expect (rec 0 (x1 + 1) 0 ((s_Teacher_goesDeeper K E x1).2, F, E)).1 (38 : Fin 54)), (rec 0 (x1 + 1) 0 ((s_Teacher_goesDeeper K E x1).2, F, E)).2.1, (rec 0 (x1 + 1) 0 ((s_Teacher_goesDeeper K E x1).2, F, E)).2.2)) else (if (s_Tokens_sign K).val = 27 then ((s_Teacher_oldName K E N1 (s_Tokens_sign K)).2.1, (s_Formulas_put F (s_Tokens_sign K) (s_Teacher_oldName K E N1 (s_Tokens_sign K)).1), (s_Teacher_oldName K E N1 (s_Tokens_sign K)).2.2) else (if (s_Tokens_sign K).val = 28 then ((s_Teacher_oldName K E N4 (s_Tokens_sign K)).2.1, (s_Formulas_put F (s_Tokens_sign K) (s_Teacher_oldName K E N4 (s_Tokens_sign K)).1), (s_Teacher_oldName K E N4 (s_Tokens_sign K)).2.2) else (if (s_Tokens_sign K).val = 29 then ((s_Teacher_oldName K E N2 (s_Tokens_sign K)).2.1, (s_Formulas_put F (s_Tokens_sign K) (s_Teacher_oldName K E N2 (s_Tokens_sign K)).1), (s_Teacher_oldName K E N2 (s_Tokens_sign K)).2.2) else (if (s_Teacher_isComparison (s_Tokens_sign (rec 3 x1 0 (K, F, E)).1)) = 0 then ((s_Tokens_breakOff (rec 3 x1 0 (K, F, E)).1), (rec 3 x1 0 (K, F, E)).2.1, (rec 3 x1 0 (K, F, E)).2.2) else ((rec 3 x1 0 ((s_Tokens_advance (rec 3 x1 0 (K, F, E)).1), (rec 3 x1 0 (K, F, E)).2.1, (rec 3 x1 0 (K, F, E)).2.2)).1, (s_Formulas_put (rec 3 x1 0 ((s_Tokens_advance (rec 3 x1 0 (K, F, E)).1), (rec 3 x1 0 (K, F, E)).2.1, (rec 3 x1 0 (K, F, E)).2.2)).2.1 (s_Tokens_sign (rec 3 x1 0 (K, F, E)).1) 0), (rec 3 x1 0 ((s_Tokens_advance (rec 3 x1 0 (K, F, E)).1), (rec 3 x1 0 (K, F, E)).2.1, (rec 3 x1 0 (K, F, E)).2.2)).2.2)))))))
set_option maxRecDepth 100000 in
set_option maxHeartbeats 4000000 in
theorem c_Teacher_readSingle {Γ : G9} {sg : Nat → Nat} {sw : Nat} {h : AH} {y g o u z m : Nat} {K : TK} {F : FM} {E : TE} {N0 : NM} {N1 : NM} {N2 : NM} {N3 : NM} {N4 : NM} {rec : Nat → Nat → Fin 54 → RS → RS} {x1 : Nat} {vx1 : Int32} (hr0 : ∀ (x : Nat) (K : TK) (F : FM) (E : TE), x ≤ 8 → 7 * (8 - x) + 6 < m → CallR Γ M_Teacher_readTest (m + 6) [.ref u, .int (nI x)] (rw_ Γ sg h y g o u K F E N0 N1 N2 N3 N4) z none (rw_ Γ sg h y g o u (rec 0 x 0 (K, F, E)).1 (rec 0 x 0 (K, F, E)).2.1 (rec 0 x 0 (K, F, E)).2.2 N0 N1 N2 N3 N4)) (hr1 : ∀ (x : Nat) (K : TK) (F : FM) (E : TE), x ≤ 8 → 7 * (8 - x) + 5 < m → CallR Γ M_Teacher_readBoth (m + 6) [.ref u, .int (nI x)] (rw_ Γ sg h y g o u K F E N0 N1 N2 N3 N4) z none (rw_ Γ sg h y g o u (rec 1 x 0 (K, F, E)).1 (rec 1 x 0 (K, F, E)).2.1 (rec 1 x 0 (K, F, E)).2.2 N0 N1 N2 N3 N4)) (hr2 : ∀ (x : Nat) (K : TK) (F : FM) (E : TE), x ≤ 8 → 7 * (8 - x) + 4 < m → CallR Γ M_Teacher_readSingle (m + 6) [.ref u, .int (nI x)] (rw_ Γ sg h y g o u K F E N0 N1 N2 N3 N4) z none (rw_ Γ sg h y g o u (rec 2 x 0 (K, F, E)).1 (rec 2 x 0 (K, F, E)).2.1 (rec 2 x 0 (K, F, E)).2.2 N0 N1 N2 N3 N4)) (hr3 : ∀ (x : Nat) (K : TK) (F : FM) (E : TE), x ≤ 8 → 7 * (8 - x) + 3 < m → CallR Γ M_Teacher_readSum (m + 6) [.ref u, .int (nI x)] (rw_ Γ sg h y g o u K F E N0 N1 N2 N3 N4) z none (rw_ Γ sg h y g o u (rec 3 x 0 (K, F, E)).1 (rec 3 x 0 (K, F, E)).2.1 (rec 3 x 0 (K, F, E)).2.2 N0 N1 N2 N3 N4)) (hr4 : ∀ (x : Nat) (K : TK) (F : FM) (E : TE), x ≤ 8 → 7 * (8 - x) + 2 < m → CallR Γ M_Teacher_readProduct (m + 6) [.ref u, .int (nI x)] (rw_ Γ sg h y g o u K F E N0 N1 N2 N3 N4) z none (rw_ Γ sg h y g o u (rec 4 x 0 (K, F, E)).1 (rec 4 x 0 (K, F, E)).2.1 (rec 4 x 0 (K, F, E)).2.2 N0 N1 N2 N3 N4)) (hr5 : ∀ (x : Nat) (K : TK) (F : FM) (E : TE), x ≤ 8 → 7 * (8 - x) + 1 < m → CallR Γ M_Teacher_readValue (m + 6) [.ref u, .int (nI x)] (rw_ Γ sg h y g o u K F E N0 N1 N2 N3 N4) z none (rw_ Γ sg h y g o u (rec 5 x 0 (K, F, E)).1 (rec 5 x 0 (K, F, E)).2.1 (rec 5 x 0 (K, F, E)).2.2 N0 N1 N2 N3 N4)) (hr6 : ∀ (x : Nat) (c : Fin 54) (K : TK) (F : FM) (E : TE), x ≤ 8 → 7 * (8 - x) + 0 < m → CallR Γ M_Teacher_readNested (m + 6) [.ref u, .ref (sg c.val), .int (nI x)] (rw_ Γ sg h y g o u K F E N0 N1 N2 N3 N4) z none (rw_ Γ sg h y g o u (rec 6 x c (K, F, E)).1 (rec 6 x c (K, F, E)).2.1 (rec 6 x c (K, F, E)).2.2 N0 N1 N2 N3 N4)) (hx : 7 * (8 - x1) + 4 < m + 1) (ex1 : vx1 = nI x1) (bx1 : x1 ≤ 8) (hs : SgOk Γ sg) (hsn : SgNe sg) (hw : SwOk Γ sw) (geo : y + 4 ≤ o ∧ o + 7 ≤ u) (hN0 : nm_sz N0 ≤ 6) (hN1 : nm_sz N1 ≤ 6) (hN2 : nm_sz N2 ≤ 6) (hN3 : nm_sz N3 ≤ 6) (hN4 : nm_sz N4 ≤ 6) : CallR Γ M_Teacher_readSingle (m + 1 + 6) [.ref u, .int vx1] (rw_ Γ sg h y g o u K F E N0 N1 N2 N3 N4) z none (rw_ Γ sg h y g o u (s_Teacher_readSingle K F E N0 N1 N2 N3 N4 rec x1).1 (s_Teacher_readSingle K F E N0 N1 N2 N3 N4 rec x1).2.1 (s_Teacher_readSingle K F E N0 N1 N2 N3 N4 rec x1).2.2 N0 N1 N2 N3 N4) := by
  subst ex1
  refine Call.of_go (L := [some (.ref u), some (.int (nI x1)), none]) (by decide +kernel) rfl (by exact Nat.le_of_ble_eq_true rfl) ?_
  unfold s_Teacher_readSingle
  refine Go.aload_0 d_Teacher_readSingle_0 rfl ?_
  refine Go.getfield d_Teacher_readSingle_1 rfl f_Teacher_34 (rw_u (by omega)) (by rfl) ?_
  refine Go.cv0r d_Teacher_readSingle_4 rfl l_Teacher_62 k_Tokens_sign_v (rw_y (by omega)) rfl (w1_Tokens_sign hs hsn (by omega) hN0 hN1 hN2 hN3 hN4) (Nat.ble_eq_true_of_le (by omega)) rfl rfl ?_
  refine Go.astore_2 d_Teacher_readSingle_7 rfl (by rfl) ?_
  refine Go.aload_2 d_Teacher_readSingle_8 rfl ?_
  refine Go.gets d_Teacher_readSingle_9 rfl x_Teacher_255 (hs.z (i := 30) rfl) ?_
  refine Go.acmp_ne (t := 42) d_Teacher_readSingle_12 (by decide) rfl (fun c12_1 => ?_) (fun c12_1 => ?_)
  · have c12_1 : ¬ (s_Tokens_sign K).val = 30 := fun w => c12_1 (by rw [w])
    refine Go.aload_2 d_Teacher_readSingle_42 rfl ?_
    refine Go.gets d_Teacher_readSingle_43 rfl x_Teacher_262 (hs.z (i := 37) rfl) ?_
    refine Go.acmp_ne (t := 77) d_Teacher_readSingle_46 (by decide) rfl (fun c46_2 => ?_) (fun c46_2 => ?_)
    · have c46_2 : ¬ (s_Tokens_sign K).val = 37 := fun w => c46_2 (by rw [w])
      refine Go.aload_2 d_Teacher_readSingle_77 rfl ?_
      refine Go.gets d_Teacher_readSingle_78 rfl x_Teacher_268 (hs.z (i := 27) rfl) ?_
      refine Go.acmp_ne (t := 104) d_Teacher_readSingle_81 (by decide) rfl (fun c81_3 => ?_) (fun c81_3 => ?_)
      · have c81_3 : ¬ (s_Tokens_sign K).val = 27 := fun w => c81_3 (by rw [w])
        refine Go.aload_2 d_Teacher_readSingle_104 rfl ?_
        refine Go.gets d_Teacher_readSingle_105 rfl x_Teacher_271 (hs.z (i := 28) rfl) ?_
        refine Go.acmp_ne (t := 131) d_Teacher_readSingle_108 (by decide) rfl (fun c108_4 => ?_) (fun c108_4 => ?_)
        · have c108_4 : ¬ (s_Tokens_sign K).val = 28 := fun w => c108_4 (by rw [w])
          refine Go.aload_2 d_Teacher_readSingle_131 rfl ?_
          refine Go.gets d_Teacher_readSingle_132 rfl x_Teacher_274 (hs.z (i := 29) rfl) ?_
          refine Go.acmp_ne (t := 158) d_Teacher_readSingle_135 (by decide) rfl (fun c135_5 => ?_) (fun c135_5 => ?_)
          · have c135_5 : ¬ (s_Tokens_sign K).val = 29 := fun w => c135_5 (by rw [w])
            refine Go.aload_0 d_Teacher_readSingle_158 rfl ?_
            refine Go.iload_1 d_Teacher_readSingle_159 rfl ?_
            refine Go.cv1v d_Teacher_readSingle_160 rfl l_Teacher_227 k_Teacher_readSum_v (rw_u (by omega)) rfl (hr3 x1 _ _ _ (by omega) (by omega)) (Nat.ble_eq_true_of_le (by omega)) rfl rfl ?_
            refine Go.aload_0 d_Teacher_readSingle_163 rfl ?_
            refine Go.getfield d_Teacher_readSingle_164 rfl f_Teacher_34 (rw_u (by omega)) (by rfl) ?_
            refine Go.cv0r d_Teacher_readSingle_167 rfl l_Teacher_62 k_Tokens_sign_v (rw_y (by omega)) rfl (w1_Tokens_sign hs hsn (by omega) hN0 hN1 hN2 hN3 hN4) (Nat.ble_eq_true_of_le (by omega)) rfl rfl ?_
            refine Go.astore_2 d_Teacher_readSingle_170 rfl (by rfl) ?_
            refine Go.aload_2 d_Teacher_readSingle_171 rfl ?_
            refine Go.cs1r d_Teacher_readSingle_172 rfl l_Teacher_277 k_Teacher_isComparison_s rfl (c_Teacher_isComparison (x1 := (s_Tokens_sign (rec 3 x1 0 (K, F, E)).1)) hs hsn) (Nat.ble_eq_true_of_le (by omega)) rfl rfl ?_
            refine Go.if_eq (t := 202) d_Teacher_readSingle_175 (by decide) rfl (fun c175_6 => ?_) (fun c175_6 => ?_)
            · refine Go.aload_0 d_Teacher_readSingle_202 rfl ?_
              refine Go.getfield d_Teacher_readSingle_203 rfl f_Teacher_34 (rw_u (by omega)) (by rfl) ?_
              refine Go.cv0v d_Teacher_readSingle_206 rfl l_Teacher_118 k_Tokens_breakOff_v (rw_y (by omega)) rfl (w1_Tokens_breakOff hs hsn (by omega) hN0 hN1 hN2 hN3 hN4) (Nat.ble_eq_true_of_le (by omega)) rfl rfl ?_
              rw [if_neg c12_1, if_neg c46_2, if_neg c81_3, if_neg c108_4, if_neg c135_5, if_pos c175_6]
              exact Go.vret d_Teacher_readSingle_209 rfl ⟨rfl, rfl, rfl⟩
            · refine Go.aload_0 d_Teacher_readSingle_178 rfl ?_
              refine Go.getfield d_Teacher_readSingle_179 rfl f_Teacher_34 (rw_u (by omega)) (by rfl) ?_
              refine Go.cv0v d_Teacher_readSingle_182 rfl l_Teacher_242 k_Tokens_advance_v (rw_y (by omega)) rfl (w1_Tokens_advance hs hsn (by omega) hN0 hN1 hN2 hN3 hN4) (Nat.ble_eq_true_of_le (by omega)) rfl rfl ?_
              refine Go.aload_0 d_Teacher_readSingle_185 rfl ?_
              refine Go.iload_1 d_Teacher_readSingle_186 rfl ?_
              refine Go.cv1v d_Teacher_readSingle_187 rfl l_Teacher_227 k_Teacher_readSum_v (rw_u (by omega)) rfl (hr3 x1 _ _ _ (by omega) (by omega)) (Nat.ble_eq_true_of_le (by omega)) rfl rfl ?_
              refine Go.aload_0 d_Teacher_readSingle_190 rfl ?_
              refine Go.getfield d_Teacher_readSingle_191 rfl f_Teacher_52 (rw_u (by omega)) (by rfl) ?_
              refine Go.aload_2 d_Teacher_readSingle_194 rfl ?_
              refine Go.iconst (v := 0) d_Teacher_readSingle_195 rfl (by decide) ?_
              refine Go.cv2v d_Teacher_readSingle_196 rfl l_Teacher_245 k_Formulas_put_v (rw_f (by omega)) rfl (w1_Formulas_put (x1 := (s_Tokens_sign (rec 3 x1 0 (K, F, E)).1)) hs hsn (by omega) hN0 hN1 hN2 hN3 hN4) (Nat.ble_eq_true_of_le (by omega)) rfl rfl ?_
              refine Go.goto (t := 209) d_Teacher_readSingle_199 (by decide) ?_
              rw [if_neg c12_1, if_neg c46_2, if_neg c81_3, if_neg c108_4, if_neg c135_5, if_neg c175_6]
              exact Go.vret d_Teacher_readSingle_209 rfl ⟨rfl, rfl, rfl⟩
          · have c135_5 := hsn _ _ ((s_Tokens_sign K)).isLt (by decide) c135_5
            refine Go.aload_0 d_Teacher_readSingle_138 rfl ?_
            refine Go.getfield d_Teacher_readSingle_139 rfl f_Teacher_52 (rw_u (by omega)) (by rfl) ?_
            refine Go.aload_2 d_Teacher_readSingle_142 rfl ?_
            refine Go.aload_0 d_Teacher_readSingle_143 rfl ?_
            refine Go.aload_2 d_Teacher_readSingle_144 rfl ?_
            refine Go.aload_0 d_Teacher_readSingle_145 rfl ?_
            refine Go.getfield d_Teacher_readSingle_146 rfl f_Teacher_21 (rw_u (by omega)) (by rfl) ?_
            refine Go.cv2r d_Teacher_readSingle_149 rfl l_Teacher_163 k_Teacher_oldName_v (rw_u (by omega)) rfl (w1_Teacher_oldName_2 (x1 := (s_Tokens_sign K)) hs hsn (by omega) hN0 hN1 hN2 hN3 hN4) (Nat.ble_eq_true_of_le (by omega)) rfl rfl ?_
            refine Go.cv2v d_Teacher_readSingle_152 rfl l_Teacher_245 k_Formulas_put_v (rw_f (by omega)) rfl (w1_Formulas_put (x1 := (s_Tokens_sign K)) hs hsn (by omega) hN0 hN1 hN2 hN3 hN4) (Nat.ble_eq_true_of_le (by omega)) rfl rfl ?_
            refine Go.goto (t := 209) d_Teacher_readSingle_155 (by decide) ?_
            rw [if_neg c12_1, if_neg c46_2, if_neg c81_3, if_neg c108_4, if_pos c135_5]
            exact Go.vret d_Teacher_readSingle_209 rfl ⟨rfl, rfl, rfl⟩
        · have c108_4 := hsn _ _ ((s_Tokens_sign K)).isLt (by decide) c108_4
          refine Go.aload_0 d_Teacher_readSingle_111 rfl ?_
          refine Go.getfield d_Teacher_readSingle_112 rfl f_Teacher_52 (rw_u (by omega)) (by rfl) ?_
          refine Go.aload_2 d_Teacher_readSingle_115 rfl ?_
          refine Go.aload_0 d_Teacher_readSingle_116 rfl ?_
          refine Go.aload_2 d_Teacher_readSingle_117 rfl ?_
          refine Go.aload_0 d_Teacher_readSingle_118 rfl ?_
          refine Go.getfield d_Teacher_readSingle_119 rfl f_Teacher_27 (rw_u (by omega)) (by rfl) ?_
          refine Go.cv2r d_Teacher_readSingle_122 rfl l_Teacher_163 k_Teacher_oldName_v (rw_u (by omega)) rfl (w1_Teacher_oldName_4 (x1 := (s_Tokens_sign K)) hs hsn (by omega) hN0 hN1 hN2 hN3 hN4) (Nat.ble_eq_true_of_le (by omega)) rfl rfl ?_
          refine Go.cv2v d_Teacher_readSingle_125 rfl l_Teacher_245 k_Formulas_put_v (rw_f (by omega)) rfl (w1_Formulas_put (x1 := (s_Tokens_sign K)) hs hsn (by omega) hN0 hN1 hN2 hN3 hN4) (Nat.ble_eq_true_of_le (by omega)) rfl rfl ?_
          refine Go.goto (t := 209) d_Teacher_readSingle_128 (by decide) ?_
          rw [if_neg c12_1, if_neg c46_2, if_neg c81_3, if_pos c108_4]
          exact Go.vret d_Teacher_readSingle_209 rfl ⟨rfl, rfl, rfl⟩
      · have c81_3 := hsn _ _ ((s_Tokens_sign K)).isLt (by decide) c81_3
        refine Go.aload_0 d_Teacher_readSingle_84 rfl ?_
        refine Go.getfield d_Teacher_readSingle_85 rfl f_Teacher_52 (rw_u (by omega)) (by rfl) ?_
        refine Go.aload_2 d_Teacher_readSingle_88 rfl ?_
        refine Go.aload_0 d_Teacher_readSingle_89 rfl ?_
        refine Go.aload_2 d_Teacher_readSingle_90 rfl ?_
        refine Go.aload_0 d_Teacher_readSingle_91 rfl ?_
        refine Go.getfield d_Teacher_readSingle_92 rfl f_Teacher_18 (rw_u (by omega)) (by rfl) ?_
        refine Go.cv2r d_Teacher_readSingle_95 rfl l_Teacher_163 k_Teacher_oldName_v (rw_u (by omega)) rfl (w1_Teacher_oldName_1 (x1 := (s_Tokens_sign K)) hs hsn (by omega) hN0 hN1 hN2 hN3 hN4) (Nat.ble_eq_true_of_le (by omega)) rfl rfl ?_
        refine Go.cv2v d_Teacher_readSingle_98 rfl l_Teacher_245 k_Formulas_put_v (rw_f (by omega)) rfl (w1_Formulas_put (x1 := (s_Tokens_sign K)) hs hsn (by omega) hN0 hN1 hN2 hN3 hN4) (Nat.ble_eq_true_of_le (by omega)) rfl rfl ?_
        refine Go.goto (t := 209) d_Teacher_readSingle_101 (by decide) ?_
        rw [if_neg c12_1, if_neg c46_2, if_pos c81_3]
        exact Go.vret d_Teacher_readSingle_209 rfl ⟨rfl, rfl, rfl⟩
    · have c46_2 := hsn _ _ ((s_Tokens_sign K)).isLt (by decide) c46_2
      refine Go.aload_0 d_Teacher_readSingle_49 rfl ?_
      refine Go.iload_1 d_Teacher_readSingle_50 rfl ?_
      refine Go.cv1r d_Teacher_readSingle_51 rfl l_Teacher_258 k_Teacher_goesDeeper_v (rw_u (by omega)) rfl (w1_Teacher_goesDeeper (x1 := x1) rfl (by omega) hs hsn (by omega) hN0 hN1 hN2 hN3 hN4) (Nat.ble_eq_true_of_le (by omega)) rfl rfl ?_
      refine Go.if_eq (t := 209) d_Teacher_readSingle_54 (by decide) rfl (fun c54_7 => ?_) (fun c54_7 => ?_)
      · rw [if_neg c12_1, if_pos c46_2, if_pos c54_7]
        exact Go.vret d_Teacher_readSingle_209 rfl ⟨rfl, rfl, rfl⟩
      · have := gd_lt (by omega) c54_7
        refine Go.aload_0 d_Teacher_readSingle_57 rfl ?_
        refine Go.iload_1 d_Teacher_readSingle_58 rfl ?_
        refine Go.iconst (v := 1) d_Teacher_readSingle_59 rfl (by decide) ?_
        refine Go.iadd d_Teacher_readSingle_60 rfl ?_
        rw [show (nI x1) + 1 = nI (x1 + 1) from nI_add _ _]
        refine Go.cv1v d_Teacher_readSingle_61 rfl l_Teacher_233 k_Teacher_readTest_v (rw_u (by omega)) rfl (hr0 (x1 + 1) _ _ _ (by omega) (by omega)) (Nat.ble_eq_true_of_le (by omega)) rfl rfl ?_
        refine Go.aload_0 d_Teacher_readSingle_64 rfl ?_
        refine Go.getfield d_Teacher_readSingle_65 rfl f_Teacher_34 (rw_u (by omega)) (by rfl) ?_
        refine Go.gets d_Teacher_readSingle_68 rfl x_Teacher_265 (hs.z (i := 38) rfl) ?_
        refine Go.cv1v d_Teacher_readSingle_71 rfl l_Teacher_124 k_Tokens_expect_v (rw_y (by omega)) rfl (w1_Tokens_expect (x1 := (38 : Fin 54)) hs hsn (by omega) hN0 hN1 hN2 hN3 hN4) (Nat.ble_eq_true_of_le (by omega)) rfl rfl ?_
        refine Go.goto (t := 209) d_Teacher_readSingle_74 (by decide) ?_
        rw [if_neg c12_1, if_pos c46_2, if_neg c54_7]
        exact Go.vret d_Teacher_readSingle_209 rfl ⟨rfl, rfl, rfl⟩
  · have c12_1 := hsn _ _ ((s_Tokens_sign K)).isLt (by decide) c12_1
    refine Go.aload_0 d_Teacher_readSingle_15 rfl ?_
    refine Go.iload_1 d_Teacher_readSingle_16 rfl ?_
    refine Go.cv1r d_Teacher_readSingle_17 rfl l_Teacher_258 k_Teacher_goesDeeper_v (rw_u (by omega)) rfl (w1_Teacher_goesDeeper (x1 := x1) rfl (by omega) hs hsn (by omega) hN0 hN1 hN2 hN3 hN4) (Nat.ble_eq_true_of_le (by omega)) rfl rfl ?_
    refine Go.if_eq (t := 209) d_Teacher_readSingle_20 (by decide) rfl (fun c20_8 => ?_) (fun c20_8 => ?_)
    · rw [if_pos c12_1, if_pos c20_8]
      exact Go.vret d_Teacher_readSingle_209 rfl ⟨rfl, rfl, rfl⟩
    · have := gd_lt (by omega) c20_8
      refine Go.aload_0 d_Teacher_readSingle_23 rfl ?_
      refine Go.iload_1 d_Teacher_readSingle_24 rfl ?_
      refine Go.iconst (v := 1) d_Teacher_readSingle_25 rfl (by decide) ?_
      refine Go.iadd d_Teacher_readSingle_26 rfl ?_
      rw [show (nI x1) + 1 = nI (x1 + 1) from nI_add _ _]
      refine Go.cv1v d_Teacher_readSingle_27 rfl l_Teacher_249 k_Teacher_readSingle_v (rw_u (by omega)) rfl (hr2 (x1 + 1) _ _ _ (by omega) (by omega)) (Nat.ble_eq_true_of_le (by omega)) rfl rfl ?_
      refine Go.aload_0 d_Teacher_readSingle_30 rfl ?_
      refine Go.getfield d_Teacher_readSingle_31 rfl f_Teacher_52 (rw_u (by omega)) (by rfl) ?_
      refine Go.aload_2 d_Teacher_readSingle_34 rfl ?_
      refine Go.iconst (v := 0) d_Teacher_readSingle_35 rfl (by decide) ?_
      refine Go.cv2v d_Teacher_readSingle_36 rfl l_Teacher_245 k_Formulas_put_v (rw_f (by omega)) rfl (w1_Formulas_put (x1 := (s_Tokens_sign K)) hs hsn (by omega) hN0 hN1 hN2 hN3 hN4) (Nat.ble_eq_true_of_le (by omega)) rfl rfl ?_
      refine Go.goto (t := 209) d_Teacher_readSingle_39 (by decide) ?_
      rw [if_pos c12_1, if_neg c20_8]
      exact Go.vret d_Teacher_readSingle_209 rfl ⟨rfl, rfl, rfl⟩
theorem d_Teacher_readSum_15 : decode M_Teacher_readSum.2.1 15 = .ok (.iload_n 3, 1) := by decide +kernel
theorem d_Teacher_readSum_16 : decode M_Teacher_readSum.2.1 16 = .ok (.sipush 400, 3) := by decide +kernel
theorem d_Teacher_readSum_19 : decode M_Teacher_readSum.2.1 19 = .ok (.if_icmp .ge 52, 3) := by decide +kernel
theorem d_Teacher_readSum_71 : decode M_Teacher_readSum.2.1 71 = .ok (.return_, 1) := by decide +kernel
theorem d_Teacher_readSum_22 : decode M_Teacher_readSum.2.1 22 = .ok (.aload_n 2, 1) := by decide +kernel
theorem d_Teacher_readSum_23 : decode M_Teacher_readSum.2.1 23 = .ok (.getstatic 299, 3) := by decide +kernel
theorem d_Teacher_readSum_26 : decode M_Teacher_readSum.2.1 26 = .ok (.if_acmp .eq 10, 3) := by decide +kernel
theorem d_Teacher_readSum_29 : decode M_Teacher_readSum.2.1 29 = .ok (.aload_n 2, 1) := by decide +kernel
theorem d_Teacher_readSum_30 : decode M_Teacher_readSum.2.1 30 = .ok (.getstatic 302, 3) := by decide +kernel
theorem d_Teacher_readSum_33 : decode M_Teacher_readSum.2.1 33 = .ok (.if_acmp .ne 38, 3) := by decide +kernel
theorem d_Teacher_readSum_36 : decode M_Teacher_readSum.2.1 36 = .ok (.aload_n 0, 1) := by decide +kernel
theorem d_Teacher_readSum_37 : decode M_Teacher_readSum.2.1 37 = .ok (.getfield 34, 3) := by decide +kernel
theorem d_Teacher_readSum_40 : decode M_Teacher_readSum.2.1 40 = .ok (.invokevirtual 242, 3) := by decide +kernel
theorem d_Teacher_readSum_43 : decode M_Teacher_readSum.2.1 43 = .ok (.aload_n 0, 1) := by decide +kernel
theorem d_Teacher_readSum_44 : decode M_Teacher_readSum.2.1 44 = .ok (.iload_n 1, 1) := by decide +kernel
theorem d_Teacher_readSum_45 : decode M_Teacher_readSum.2.1 45 = .ok (.invokevirtual 296, 3) := by decide +kernel
theorem d_Teacher_readSum_48 : decode M_Teacher_readSum.2.1 48 = .ok (.aload_n 0, 1) := by decide +kernel
theorem d_Teacher_readSum_49 : decode M_Teacher_readSum.2.1 49 = .ok (.getfield 52, 3) := by decide +kernel
theorem d_Teacher_readSum_52 : decode M_Teacher_readSum.2.1 52 = .ok (.aload_n 2, 1) := by decide +kernel
theorem d_Teacher_readSum_53 : decode M_Teacher_readSum.2.1 53 = .ok (.iconst 0, 1) := by decide +kernel
theorem d_Teacher_readSum_54 : decode M_Teacher_readSum.2.1 54 = .ok (.invokevirtual 245, 3) := by decide +kernel
theorem d_Teacher_readSum_57 : decode M_Teacher_readSum.2.1 57 = .ok (.aload_n 0, 1) := by decide +kernel
theorem d_Teacher_readSum_58 : decode M_Teacher_readSum.2.1 58 = .ok (.getfield 34, 3) := by decide +kernel
theorem d_Teacher_readSum_61 : decode M_Teacher_readSum.2.1 61 = .ok (.invokevirtual 62, 3) := by decide +kernel
theorem d_Teacher_readSum_64 : decode M_Teacher_readSum.2.1 64 = .ok (.astore_n 2, 1) := by decide +kernel
theorem d_Teacher_readSum_65 : decode M_Teacher_readSum.2.1 65 = .ok (.iinc 3 1, 3) := by decide +kernel
theorem d_Teacher_readSum_68 : decode M_Teacher_readSum.2.1 68 = .ok (.goto (-53), 3) := by decide +kernel
def l_Teacher_readSum_15 (N0 : NM) (N1 : NM) (N2 : NM) (N3 : NM) (N4 : NM) (rec : Nat → Nat → Fin 54 → RS → RS) (x1 : Nat) : Nat → Nat → Fin 54 → TK → FM → TE → TK × FM × TE
  | 0, i, s, K, F, E => (K, F, E)
  | k + 1, i, s, K, F, E => (if s.val = 41 then (l_Teacher_readSum_15 N0 N1 N2 N3 N4 rec x1 k (i + 1) (s_Tokens_sign (rec 4 x1 0 ((s_Tokens_advance K), F, E)).1) (rec 4 x1 0 ((s_Tokens_advance K), F, E)).1 (s_Formulas_put (rec 4 x1 0 ((s_Tokens_advance K), F, E)).2.1 s 0) (rec 4 x1 0 ((s_Tokens_advance K), F, E)).2.2) else (if s.val = 42 then (l_Teacher_readSum_15 N0 N1 N2 N3 N4 rec x1 k (i + 1) (s_Tokens_sign (rec 4 x1 0 ((s_Tokens_advance K), F, E)).1) (rec 4 x1 0 ((s_Tokens_advance K), F, E)).1 (s_Formulas_put (rec 4 x1 0 ((s_Tokens_advance K), F, E)).2.1 s 0) (rec 4 x1 0 ((s_Tokens_advance K), F, E)).2.2) else (K, F, E)))
set_option maxRecDepth 100000 in
set_option maxHeartbeats 4000000 in
theorem l_Teacher_readSum_15_go {Γ : G9} {sg : Nat → Nat} {sw : Nat} {h : AH} {y g o u z m : Nat} {n : Nat} {N0 : NM} {N1 : NM} {N2 : NM} {N3 : NM} {N4 : NM} {rec : Nat → Nat → Fin 54 → RS → RS} {x1 : Nat} (hr0 : ∀ (x : Nat) (K : TK) (F : FM) (E : TE), x ≤ 8 → 7 * (8 - x) + 6 < m → CallR Γ M_Teacher_readTest (m + 6) [.ref u, .int (nI x)] (rw_ Γ sg h y g o u K F E N0 N1 N2 N3 N4) z none (rw_ Γ sg h y g o u (rec 0 x 0 (K, F, E)).1 (rec 0 x 0 (K, F, E)).2.1 (rec 0 x 0 (K, F, E)).2.2 N0 N1 N2 N3 N4)) (hr1 : ∀ (x : Nat) (K : TK) (F : FM) (E : TE), x ≤ 8 → 7 * (8 - x) + 5 < m → CallR Γ M_Teacher_readBoth (m + 6) [.ref u, .int (nI x)] (rw_ Γ sg h y g o u K F E N0 N1 N2 N3 N4) z none (rw_ Γ sg h y g o u (rec 1 x 0 (K, F, E)).1 (rec 1 x 0 (K, F, E)).2.1 (rec 1 x 0 (K, F, E)).2.2 N0 N1 N2 N3 N4)) (hr2 : ∀ (x : Nat) (K : TK) (F : FM) (E : TE), x ≤ 8 → 7 * (8 - x) + 4 < m → CallR Γ M_Teacher_readSingle (m + 6) [.ref u, .int (nI x)] (rw_ Γ sg h y g o u K F E N0 N1 N2 N3 N4) z none (rw_ Γ sg h y g o u (rec 2 x 0 (K, F, E)).1 (rec 2 x 0 (K, F, E)).2.1 (rec 2 x 0 (K, F, E)).2.2 N0 N1 N2 N3 N4)) (hr3 : ∀ (x : Nat) (K : TK) (F : FM) (E : TE), x ≤ 8 → 7 * (8 - x) + 3 < m → CallR Γ M_Teacher_readSum (m + 6) [.ref u, .int (nI x)] (rw_ Γ sg h y g o u K F E N0 N1 N2 N3 N4) z none (rw_ Γ sg h y g o u (rec 3 x 0 (K, F, E)).1 (rec 3 x 0 (K, F, E)).2.1 (rec 3 x 0 (K, F, E)).2.2 N0 N1 N2 N3 N4)) (hr4 : ∀ (x : Nat) (K : TK) (F : FM) (E : TE), x ≤ 8 → 7 * (8 - x) + 2 < m → CallR Γ M_Teacher_readProduct (m + 6) [.ref u, .int (nI x)] (rw_ Γ sg h y g o u K F E N0 N1 N2 N3 N4) z none (rw_ Γ sg h y g o u (rec 4 x 0 (K, F, E)).1 (rec 4 x 0 (K, F, E)).2.1 (rec 4 x 0 (K, F, E)).2.2 N0 N1 N2 N3 N4)) (hr5 : ∀ (x : Nat) (K : TK) (F : FM) (E : TE), x ≤ 8 → 7 * (8 - x) + 1 < m → CallR Γ M_Teacher_readValue (m + 6) [.ref u, .int (nI x)] (rw_ Γ sg h y g o u K F E N0 N1 N2 N3 N4) z none (rw_ Γ sg h y g o u (rec 5 x 0 (K, F, E)).1 (rec 5 x 0 (K, F, E)).2.1 (rec 5 x 0 (K, F, E)).2.2 N0 N1 N2 N3 N4)) (hr6 : ∀ (x : Nat) (c : Fin 54) (K : TK) (F : FM) (E : TE), x ≤ 8 → 7 * (8 - x) + 0 < m → CallR Γ M_Teacher_readNested (m + 6) [.ref u, .ref (sg c.val), .int (nI x)] (rw_ Γ sg h y g o u K F E N0 N1 N2 N3 N4) z none (rw_ Γ sg h y g o u (rec 6 x c (K, F, E)).1 (rec 6 x c (K, F, E)).2.1 (rec 6 x c (K, F, E)).2.2 N0 N1 N2 N3 N4)) (hx : 7 * (8 - x1) + 3 < m + 1) (bx1 : x1 ≤ 8) (hs : SgOk Γ sg) (hsn : SgNe sg) (hw : SwOk Γ sw) (geo : y + 4 ≤ o ∧ o + 7 ≤ u) (hN0 : nm_sz N0 ≤ 6) (hN1 : nm_sz N1 ≤ 6) (hN2 : nm_sz N2 ≤ 6) (hN3 : nm_sz N3 ≤ 6) (hN4 : nm_sz N4 ≤ 6) (hn20 : n ≤ 400) : ∀ (k i : Nat) (s : Fin 54) (K : TK) (F : FM) (E : TE), i + k = n → 400 = n → Go Γ M_Teacher_readSum (m + 1 + 6) 0 0 15 [some (.ref u), some (.int (nI x1)), some (.ref (sg s.val)), some (.int (nI i))] [] (rw_ Γ sg h y g o u K F E N0 N1 N2 N3 N4) z (RQ none (rw_ Γ sg h y g o u (l_Teacher_readSum_15 N0 N1 N2 N3 N4 rec x1 k i s K F E).1 (l_Teacher_readSum_15 N0 N1 N2 N3 N4 rec x1 k i s K F E).2.1 (l_Teacher_readSum_15 N0 N1 N2 N3 N4 rec x1 k i s K F E).2.2 N0 N1 N2 N3 N4) z) noX := by
  intro k
  induction k with
  | zero =>
    intro i s K F E hi hn
    unfold l_Teacher_readSum_15
    refine Go.iload_3 d_Teacher_readSum_15 rfl ?_
    refine Go.sipush (v := 400) d_Teacher_readSum_16 rfl (by decide) ?_
    refine Go.icmp_ge (t := 71) d_Teacher_readSum_19 (by decide) rfl (fun c19_1 => ?_) (fun c19_1 => ?_)
    · exact Go.vret d_Teacher_readSum_71 rfl ⟨rfl, rfl, rfl⟩
    · exact absurd (show nI 400 ≤ nI i from nI_le (by omega) (by omega)) c19_1
  | succ k ih =>
    intro i s K F E hi hn
    unfold l_Teacher_readSum_15
    refine Go.iload_3 d_Teacher_readSum_15 rfl ?_
    refine Go.sipush (v := 400) d_Teacher_readSum_16 rfl (by decide) ?_
    refine Go.icmp_ge (t := 71) d_Teacher_readSum_19 (by decide) rfl (fun c19_1 => ?_) (fun c19_1 => ?_)
    · exact absurd c19_1 (show ¬ nI 400 ≤ nI i from nI_ge (by omega) (by omega))
    · refine Go.aload_2 d_Teacher_readSum_22 rfl ?_
      refine Go.gets d_Teacher_readSum_23 rfl x_Teacher_299 (hs.z (i := 41) rfl) ?_
      refine Go.acmp_eq (t := 36) d_Teacher_readSum_26 (by decide) rfl (fun c26_2 => ?_) (fun c26_2 => ?_)
      · have c26_2 := hsn _ _ (s).isLt (by decide) c26_2
        refine Go.aload_0 d_Teacher_readSum_36 rfl ?_
        refine Go.getfield d_Teacher_readSum_37 rfl f_Teacher_34 (rw_u (by omega)) (by rfl) ?_
        refine Go.cv0v d_Teacher_readSum_40 rfl l_Teacher_242 k_Tokens_advance_v (rw_y (by omega)) rfl (w1_Tokens_advance hs hsn (by omega) hN0 hN1 hN2 hN3 hN4) (Nat.ble_eq_true_of_le (by omega)) rfl rfl ?_
        refine Go.aload_0 d_Teacher_readSum_43 rfl ?_
        refine Go.iload_1 d_Teacher_readSum_44 rfl ?_
        refine Go.cv1v d_Teacher_readSum_45 rfl l_Teacher_296 k_Teacher_readProduct_v (rw_u (by omega)) rfl (hr4 x1 _ _ _ (by omega) (by omega)) (Nat.ble_eq_true_of_le (by omega)) rfl rfl ?_
        refine Go.aload_0 d_Teacher_readSum_48 rfl ?_
        refine Go.getfield d_Teacher_readSum_49 rfl f_Teacher_52 (rw_u (by omega)) (by rfl) ?_
        refine Go.aload_2 d_Teacher_readSum_52 rfl ?_
        refine Go.iconst (v := 0) d_Teacher_readSum_53 rfl (by decide) ?_
        refine Go.cv2v d_Teacher_readSum_54 rfl l_Teacher_245 k_Formulas_put_v (rw_f (by omega)) rfl (w1_Formulas_put (x1 := s) hs hsn (by omega) hN0 hN1 hN2 hN3 hN4) (Nat.ble_eq_true_of_le (by omega)) rfl rfl ?_
        refine Go.aload_0 d_Teacher_readSum_57 rfl ?_
        refine Go.getfield d_Teacher_readSum_58 rfl f_Teacher_34 (rw_u (by omega)) (by rfl) ?_
        refine Go.cv0r d_Teacher_readSum_61 rfl l_Teacher_62 k_Tokens_sign_v (rw_y (by omega)) rfl (w1_Tokens_sign hs hsn (by omega) hN0 hN1 hN2 hN3 hN4) (Nat.ble_eq_true_of_le (by omega)) rfl rfl ?_
        refine Go.astore_2 d_Teacher_readSum_64 rfl (by rfl) ?_
        refine Go.iinc_3 d_Teacher_readSum_65 rfl (by rfl) (nI_inc _) ?_
        refine Go.goto (t := 15) d_Teacher_readSum_68 (by decide) ?_
        rw [if_pos c26_2]
        exact ih (i + 1) _ _ _ _ (by omega) (by first | exact hn | (simp only []; exact hn))
      · have c26_2 : ¬ s.val = 41 := fun w => c26_2 (by rw [w])
        refine Go.aload_2 d_Teacher_readSum_29 rfl ?_
        refine Go.gets d_Teacher_readSum_30 rfl x_Teacher_302 (hs.z (i := 42) rfl) ?_
        refine Go.acmp_ne (t := 71) d_Teacher_readSum_33 (by decide) rfl (fun c33_3 => ?_) (fun c33_3 => ?_)
        · have c33_3 : ¬ s.val = 42 := fun w => c33_3 (by rw [w])
          rw [if_neg c26_2, if_neg c33_3]
          exact Go.vret d_Teacher_readSum_71 rfl ⟨rfl, rfl, rfl⟩
        · have c33_3 := hsn _ _ (s).isLt (by decide) c33_3
          refine Go.aload_0 d_Teacher_readSum_36 rfl ?_
          refine Go.getfield d_Teacher_readSum_37 rfl f_Teacher_34 (rw_u (by omega)) (by rfl) ?_
          refine Go.cv0v d_Teacher_readSum_40 rfl l_Teacher_242 k_Tokens_advance_v (rw_y (by omega)) rfl (w1_Tokens_advance hs hsn (by omega) hN0 hN1 hN2 hN3 hN4) (Nat.ble_eq_true_of_le (by omega)) rfl rfl ?_
          refine Go.aload_0 d_Teacher_readSum_43 rfl ?_
          refine Go.iload_1 d_Teacher_readSum_44 rfl ?_
          refine Go.cv1v d_Teacher_readSum_45 rfl l_Teacher_296 k_Teacher_readProduct_v (rw_u (by omega)) rfl (hr4 x1 _ _ _ (by omega) (by omega)) (Nat.ble_eq_true_of_le (by omega)) rfl rfl ?_
          refine Go.aload_0 d_Teacher_readSum_48 rfl ?_
          refine Go.getfield d_Teacher_readSum_49 rfl f_Teacher_52 (rw_u (by omega)) (by rfl) ?_
          refine Go.aload_2 d_Teacher_readSum_52 rfl ?_
          refine Go.iconst (v := 0) d_Teacher_readSum_53 rfl (by decide) ?_
          refine Go.cv2v d_Teacher_readSum_54 rfl l_Teacher_245 k_Formulas_put_v (rw_f (by omega)) rfl (w1_Formulas_put (x1 := s) hs hsn (by omega) hN0 hN1 hN2 hN3 hN4) (Nat.ble_eq_true_of_le (by omega)) rfl rfl ?_
          refine Go.aload_0 d_Teacher_readSum_57 rfl ?_
          refine Go.getfield d_Teacher_readSum_58 rfl f_Teacher_34 (rw_u (by omega)) (by rfl) ?_
          refine Go.cv0r d_Teacher_readSum_61 rfl l_Teacher_62 k_Tokens_sign_v (rw_y (by omega)) rfl (w1_Tokens_sign hs hsn (by omega) hN0 hN1 hN2 hN3 hN4) (Nat.ble_eq_true_of_le (by omega)) rfl rfl ?_
          refine Go.astore_2 d_Teacher_readSum_64 rfl (by rfl) ?_
          refine Go.iinc_3 d_Teacher_readSum_65 rfl (by rfl) (nI_inc _) ?_
          refine Go.goto (t := 15) d_Teacher_readSum_68 (by decide) ?_
          rw [if_neg c26_2, if_pos c33_3]
          exact ih (i + 1) _ _ _ _ (by omega) (by first | exact hn | (simp only []; exact hn))
theorem d_Teacher_readSum_0 : decode M_Teacher_readSum.2.1 0 = .ok (.aload_n 0, 1) := by decide +kernel
theorem d_Teacher_readSum_1 : decode M_Teacher_readSum.2.1 1 = .ok (.iload_n 1, 1) := by decide +kernel
theorem d_Teacher_readSum_2 : decode M_Teacher_readSum.2.1 2 = .ok (.invokevirtual 296, 3) := by decide +kernel
theorem d_Teacher_readSum_5 : decode M_Teacher_readSum.2.1 5 = .ok (.aload_n 0, 1) := by decide +kernel
theorem d_Teacher_readSum_6 : decode M_Teacher_readSum.2.1 6 = .ok (.getfield 34, 3) := by decide +kernel
theorem d_Teacher_readSum_9 : decode M_Teacher_readSum.2.1 9 = .ok (.invokevirtual 62, 3) := by decide +kernel
theorem d_Teacher_readSum_12 : decode M_Teacher_readSum.2.1 12 = .ok (.astore_n 2, 1) := by decide +kernel
theorem d_Teacher_readSum_13 : decode M_Teacher_readSum.2.1 13 = .ok (.iconst 0, 1) := by decide +kernel
theorem d_Teacher_readSum_14 : decode M_Teacher_readSum.2.1 14 = .ok (.istore_n 3, 1) := by decide +kernel
def s_Teacher_readSum (K : TK) (F : FM) (E : TE) (N0 : NM) (N1 : NM) (N2 : NM) (N3 : NM) (N4 : NM) (rec : Nat → Nat → Fin 54 → RS → RS) (x1 : Nat) : TK × FM × TE := (l_Teacher_readSum_15 N0 N1 N2 N3 N4 rec x1 (400) 0 (s_Tokens_sign (rec 4 x1 0 (K, F, E)).1) (rec 4 x1 0 (K, F, E)).1 (rec 4 x1 0 (K, F, E)).2.1 (rec 4 x1 0 (K, F, E)).2.2)
set_option maxRecDepth 100000 in
set_option maxHeartbeats 4000000 in
theorem c_Teacher_readSum {Γ : G9} {sg : Nat → Nat} {sw : Nat} {h : AH} {y g o u z m : Nat} {K : TK} {F : FM} {E : TE} {N0 : NM} {N1 : NM} {N2 : NM} {N3 : NM} {N4 : NM} {rec : Nat → Nat → Fin 54 → RS → RS} {x1 : Nat} {vx1 : Int32} (hr0 : ∀ (x : Nat) (K : TK) (F : FM) (E : TE), x ≤ 8 → 7 * (8 - x) + 6 < m → CallR Γ M_Teacher_readTest (m + 6) [.ref u, .int (nI x)] (rw_ Γ sg h y g o u K F E N0 N1 N2 N3 N4) z none (rw_ Γ sg h y g o u (rec 0 x 0 (K, F, E)).1 (rec 0 x 0 (K, F, E)).2.1 (rec 0 x 0 (K, F, E)).2.2 N0 N1 N2 N3 N4)) (hr1 : ∀ (x : Nat) (K : TK) (F : FM) (E : TE), x ≤ 8 → 7 * (8 - x) + 5 < m → CallR Γ M_Teacher_readBoth (m + 6) [.ref u, .int (nI x)] (rw_ Γ sg h y g o u K F E N0 N1 N2 N3 N4) z none (rw_ Γ sg h y g o u (rec 1 x 0 (K, F, E)).1 (rec 1 x 0 (K, F, E)).2.1 (rec 1 x 0 (K, F, E)).2.2 N0 N1 N2 N3 N4)) (hr2 : ∀ (x : Nat) (K : TK) (F : FM) (E : TE), x ≤ 8 → 7 * (8 - x) + 4 < m → CallR Γ M_Teacher_readSingle (m + 6) [.ref u, .int (nI x)] (rw_ Γ sg h y g o u K F E N0 N1 N2 N3 N4) z none (rw_ Γ sg h y g o u (rec 2 x 0 (K, F, E)).1 (rec 2 x 0 (K, F, E)).2.1 (rec 2 x 0 (K, F, E)).2.2 N0 N1 N2 N3 N4)) (hr3 : ∀ (x : Nat) (K : TK) (F : FM) (E : TE), x ≤ 8 → 7 * (8 - x) + 3 < m → CallR Γ M_Teacher_readSum (m + 6) [.ref u, .int (nI x)] (rw_ Γ sg h y g o u K F E N0 N1 N2 N3 N4) z none (rw_ Γ sg h y g o u (rec 3 x 0 (K, F, E)).1 (rec 3 x 0 (K, F, E)).2.1 (rec 3 x 0 (K, F, E)).2.2 N0 N1 N2 N3 N4)) (hr4 : ∀ (x : Nat) (K : TK) (F : FM) (E : TE), x ≤ 8 → 7 * (8 - x) + 2 < m → CallR Γ M_Teacher_readProduct (m + 6) [.ref u, .int (nI x)] (rw_ Γ sg h y g o u K F E N0 N1 N2 N3 N4) z none (rw_ Γ sg h y g o u (rec 4 x 0 (K, F, E)).1 (rec 4 x 0 (K, F, E)).2.1 (rec 4 x 0 (K, F, E)).2.2 N0 N1 N2 N3 N4)) (hr5 : ∀ (x : Nat) (K : TK) (F : FM) (E : TE), x ≤ 8 → 7 * (8 - x) + 1 < m → CallR Γ M_Teacher_readValue (m + 6) [.ref u, .int (nI x)] (rw_ Γ sg h y g o u K F E N0 N1 N2 N3 N4) z none (rw_ Γ sg h y g o u (rec 5 x 0 (K, F, E)).1 (rec 5 x 0 (K, F, E)).2.1 (rec 5 x 0 (K, F, E)).2.2 N0 N1 N2 N3 N4)) (hr6 : ∀ (x : Nat) (c : Fin 54) (K : TK) (F : FM) (E : TE), x ≤ 8 → 7 * (8 - x) + 0 < m → CallR Γ M_Teacher_readNested (m + 6) [.ref u, .ref (sg c.val), .int (nI x)] (rw_ Γ sg h y g o u K F E N0 N1 N2 N3 N4) z none (rw_ Γ sg h y g o u (rec 6 x c (K, F, E)).1 (rec 6 x c (K, F, E)).2.1 (rec 6 x c (K, F, E)).2.2 N0 N1 N2 N3 N4)) (hx : 7 * (8 - x1) + 3 < m + 1) (ex1 : vx1 = nI x1) (bx1 : x1 ≤ 8) (hs : SgOk Γ sg) (hsn : SgNe sg) (hw : SwOk Γ sw) (geo : y + 4 ≤ o ∧ o + 7 ≤ u) (hN0 : nm_sz N0 ≤ 6) (hN1 : nm_sz N1 ≤ 6) (hN2 : nm_sz N2 ≤ 6) (hN3 : nm_sz N3 ≤ 6) (hN4 : nm_sz N4 ≤ 6) : CallR Γ M_Teacher_readSum (m + 1 + 6) [.ref u, .int vx1] (rw_ Γ sg h y g o u K F E N0 N1 N2 N3 N4) z none (rw_ Γ sg h y g o u (s_Teacher_readSum K F E N0 N1 N2 N3 N4 rec x1).1 (s_Teacher_readSum K F E N0 N1 N2 N3 N4 rec x1).2.1 (s_Teacher_readSum K F E N0 N1 N2 N3 N4 rec x1).2.2 N0 N1 N2 N3 N4) := by
  subst ex1
  refine Call.of_go (L := [some (.ref u), some (.int (nI x1)), none, none]) (by decide +kernel) rfl (by exact Nat.le_of_ble_eq_true rfl) ?_
  unfold s_Teacher_readSum
  refine Go.aload_0 d_Teacher_readSum_0 rfl ?_
  refine Go.iload_1 d_Teacher_readSum_1 rfl ?_
  refine Go.cv1v d_Teacher_readSum_2 rfl l_Teacher_296 k_Teacher_readProduct_v (rw_u (by omega)) rfl (hr4 x1 _ _ _ (by omega) (by omega)) (Nat.ble_eq_true_of_le (by omega)) rfl rfl ?_
  refine Go.aload_0 d_Teacher_readSum_5 rfl ?_
  refine Go.getfield d_Teacher_readSum_6 rfl f_Teacher_34 (rw_u (by omega)) (by rfl) ?_
  refine Go.cv0r d_Teacher_readSum_9 rfl l_Teacher_62 k_Tokens_sign_v (rw_y (by omega)) rfl (w1_Tokens_sign hs hsn (by omega) hN0 hN1 hN2 hN3 hN4) (Nat.ble_eq_true_of_le (by omega)) rfl rfl ?_
  refine Go.astore_2 d_Teacher_readSum_12 rfl (by rfl) ?_
  refine Go.iconst (v := 0) d_Teacher_readSum_13 rfl (by decide) ?_
  refine Go.istore_3 d_Teacher_readSum_14 rfl (by rfl) ?_
  exact l_Teacher_readSum_15_go (n := (400)) hr0 hr1 hr2 hr3 hr4 hr5 hr6 hx bx1 hs hsn hw geo hN0 hN1 hN2 hN3 hN4 (by decide) (400) 0 (s_Tokens_sign (rec 4 x1 0 (K, F, E)).1) (rec 4 x1 0 (K, F, E)).1 (rec 4 x1 0 (K, F, E)).2.1 (rec 4 x1 0 (K, F, E)).2.2 (by omega) rfl
theorem d_Teacher_readProduct_15 : decode M_Teacher_readProduct.2.1 15 = .ok (.iload_n 3, 1) := by decide +kernel
theorem d_Teacher_readProduct_16 : decode M_Teacher_readProduct.2.1 16 = .ok (.sipush 400, 3) := by decide +kernel
theorem d_Teacher_readProduct_19 : decode M_Teacher_readProduct.2.1 19 = .ok (.if_icmp .ge 52, 3) := by decide +kernel
theorem d_Teacher_readProduct_71 : decode M_Teacher_readProduct.2.1 71 = .ok (.return_, 1) := by decide +kernel
theorem d_Teacher_readProduct_22 : decode M_Teacher_readProduct.2.1 22 = .ok (.aload_n 2, 1) := by decide +kernel
theorem d_Teacher_readProduct_23 : decode M_Teacher_readProduct.2.1 23 = .ok (.getstatic 308, 3) := by decide +kernel
theorem d_Teacher_readProduct_26 : decode M_Teacher_readProduct.2.1 26 = .ok (.if_acmp .eq 10, 3) := by decide +kernel
theorem d_Teacher_readProduct_29 : decode M_Teacher_readProduct.2.1 29 = .ok (.aload_n 2, 1) := by decide +kernel
theorem d_Teacher_readProduct_30 : decode M_Teacher_readProduct.2.1 30 = .ok (.getstatic 311, 3) := by decide +kernel
theorem d_Teacher_readProduct_33 : decode M_Teacher_readProduct.2.1 33 = .ok (.if_acmp .ne 38, 3) := by decide +kernel
theorem d_Teacher_readProduct_36 : decode M_Teacher_readProduct.2.1 36 = .ok (.aload_n 0, 1) := by decide +kernel
theorem d_Teacher_readProduct_37 : decode M_Teacher_readProduct.2.1 37 = .ok (.getfield 34, 3) := by decide +kernel
theorem d_Teacher_readProduct_40 : decode M_Teacher_readProduct.2.1 40 = .ok (.invokevirtual 242, 3) := by decide +kernel
theorem d_Teacher_readProduct_43 : decode M_Teacher_readProduct.2.1 43 = .ok (.aload_n 0, 1) := by decide +kernel
theorem d_Teacher_readProduct_44 : decode M_Teacher_readProduct.2.1 44 = .ok (.iload_n 1, 1) := by decide +kernel
theorem d_Teacher_readProduct_45 : decode M_Teacher_readProduct.2.1 45 = .ok (.invokevirtual 305, 3) := by decide +kernel
theorem d_Teacher_readProduct_48 : decode M_Teacher_readProduct.2.1 48 = .ok (.aload_n 0, 1) := by decide +kernel
theorem d_Teacher_readProduct_49 : decode M_Teacher_readProduct.2.1 49 = .ok (.getfield 52, 3) := by decide +kernel
theorem d_Teacher_readProduct_52 : decode M_Teacher_readProduct.2.1 52 = .ok (.aload_n 2, 1) := by decide +kernel
theorem d_Teacher_readProduct_53 : decode M_Teacher_readProduct.2.1 53 = .ok (.iconst 0, 1) := by decide +kernel
theorem d_Teacher_readProduct_54 : decode M_Teacher_readProduct.2.1 54 = .ok (.invokevirtual 245, 3) := by decide +kernel
theorem d_Teacher_readProduct_57 : decode M_Teacher_readProduct.2.1 57 = .ok (.aload_n 0, 1) := by decide +kernel
theorem d_Teacher_readProduct_58 : decode M_Teacher_readProduct.2.1 58 = .ok (.getfield 34, 3) := by decide +kernel
theorem d_Teacher_readProduct_61 : decode M_Teacher_readProduct.2.1 61 = .ok (.invokevirtual 62, 3) := by decide +kernel
theorem d_Teacher_readProduct_64 : decode M_Teacher_readProduct.2.1 64 = .ok (.astore_n 2, 1) := by decide +kernel
theorem d_Teacher_readProduct_65 : decode M_Teacher_readProduct.2.1 65 = .ok (.iinc 3 1, 3) := by decide +kernel
theorem d_Teacher_readProduct_68 : decode M_Teacher_readProduct.2.1 68 = .ok (.goto (-53), 3) := by decide +kernel
def l_Teacher_readProduct_15 (N0 : NM) (N1 : NM) (N2 : NM) (N3 : NM) (N4 : NM) (rec : Nat → Nat → Fin 54 → RS → RS) (x1 : Nat) : Nat → Nat → Fin 54 → TK → FM → TE → TK × FM × TE
  | 0, i, s, K, F, E => (K, F, E)
  | k + 1, i, s, K, F, E => (if s.val = 43 then (l_Teacher_readProduct_15 N0 N1 N2 N3 N4 rec x1 k (i + 1) (s_Tokens_sign (rec 5 x1 0 ((s_Tokens_advance K), F, E)).1) (rec 5 x1 0 ((s_Tokens_advance K), F, E)).1 (s_Formulas_put (rec 5 x1 0 ((s_Tokens_advance K), F, E)).2.1 s 0) (rec 5 x1 0 ((s_Tokens_advance K), F, E)).2.2) else (if s.val = 44 then (l_Teacher_readProduct_15 N0 N1 N2 N3 N4 rec x1 k (i + 1) (s_Tokens_sign (rec 5 x1 0 ((s_Tokens_advance K), F, E)).1) (rec 5 x1 0 ((s_Tokens_advance K), F, E)).1 (s_Formulas_put (rec 5 x1 0 ((s_Tokens_advance K), F, E)).2.1 s 0) (rec 5 x1 0 ((s_Tokens_advance K), F, E)).2.2) else (K, F, E)))
set_option maxRecDepth 100000 in
set_option maxHeartbeats 4000000 in
theorem l_Teacher_readProduct_15_go {Γ : G9} {sg : Nat → Nat} {sw : Nat} {h : AH} {y g o u z m : Nat} {n : Nat} {N0 : NM} {N1 : NM} {N2 : NM} {N3 : NM} {N4 : NM} {rec : Nat → Nat → Fin 54 → RS → RS} {x1 : Nat} (hr0 : ∀ (x : Nat) (K : TK) (F : FM) (E : TE), x ≤ 8 → 7 * (8 - x) + 6 < m → CallR Γ M_Teacher_readTest (m + 6) [.ref u, .int (nI x)] (rw_ Γ sg h y g o u K F E N0 N1 N2 N3 N4) z none (rw_ Γ sg h y g o u (rec 0 x 0 (K, F, E)).1 (rec 0 x 0 (K, F, E)).2.1 (rec 0 x 0 (K, F, E)).2.2 N0 N1 N2 N3 N4)) (hr1 : ∀ (x : Nat) (K : TK) (F : FM) (E : TE), x ≤ 8 → 7 * (8 - x) + 5 < m → CallR Γ M_Teacher_readBoth (m + 6) [.ref u, .int (nI x)] (rw_ Γ sg h y g o u K F E N0 N1 N2 N3 N4) z none (rw_ Γ sg h y g o u (rec 1 x 0 (K, F, E)).1 (rec 1 x 0 (K, F, E)).2.1 (rec 1 x 0 (K, F, E)).2.2 N0 N1 N2 N3 N4)) (hr2 : ∀ (x : Nat) (K : TK) (F : FM) (E : TE), x ≤ 8 → 7 * (8 - x) + 4 < m → CallR Γ M_Teacher_readSingle (m + 6) [.ref u, .int (nI x)] (rw_ Γ sg h y g o u K F E N0 N1 N2 N3 N4) z none (rw_ Γ sg h y g o u (rec 2 x 0 (K, F, E)).1 (rec 2 x 0 (K, F, E)).2.1 (rec 2 x 0 (K, F, E)).2.2 N0 N1 N2 N3 N4)) (hr3 : ∀ (x : Nat) (K : TK) (F : FM) (E : TE), x ≤ 8 → 7 * (8 - x) + 3 < m → CallR Γ M_Teacher_readSum (m + 6) [.ref u, .int (nI x)] (rw_ Γ sg h y g o u K F E N0 N1 N2 N3 N4) z none (rw_ Γ sg h y g o u (rec 3 x 0 (K, F, E)).1 (rec 3 x 0 (K, F, E)).2.1 (rec 3 x 0 (K, F, E)).2.2 N0 N1 N2 N3 N4)) (hr4 : ∀ (x : Nat) (K : TK) (F : FM) (E : TE), x ≤ 8 → 7 * (8 - x) + 2 < m → CallR Γ M_Teacher_readProduct (m + 6) [.ref u, .int (nI x)] (rw_ Γ sg h y g o u K F E N0 N1 N2 N3 N4) z none (rw_ Γ sg h y g o u (rec 4 x 0 (K, F, E)).1 (rec 4 x 0 (K, F, E)).2.1 (rec 4 x 0 (K, F, E)).2.2 N0 N1 N2 N3 N4)) (hr5 : ∀ (x : Nat) (K : TK) (F : FM) (E : TE), x ≤ 8 → 7 * (8 - x) + 1 < m → CallR Γ M_Teacher_readValue (m + 6) [.ref u, .int (nI x)] (rw_ Γ sg h y g o u K F E N0 N1 N2 N3 N4) z none (rw_ Γ sg h y g o u (rec 5 x 0 (K, F, E)).1 (rec 5 x 0 (K, F, E)).2.1 (rec 5 x 0 (K, F, E)).2.2 N0 N1 N2 N3 N4)) (hr6 : ∀ (x : Nat) (c : Fin 54) (K : TK) (F : FM) (E : TE), x ≤ 8 → 7 * (8 - x) + 0 < m → CallR Γ M_Teacher_readNested (m + 6) [.ref u, .ref (sg c.val), .int (nI x)] (rw_ Γ sg h y g o u K F E N0 N1 N2 N3 N4) z none (rw_ Γ sg h y g o u (rec 6 x c (K, F, E)).1 (rec 6 x c (K, F, E)).2.1 (rec 6 x c (K, F, E)).2.2 N0 N1 N2 N3 N4)) (hx : 7 * (8 - x1) + 2 < m + 1) (bx1 : x1 ≤ 8) (hs : SgOk Γ sg) (hsn : SgNe sg) (hw : SwOk Γ sw) (geo : y + 4 ≤ o ∧ o + 7 ≤ u) (hN0 : nm_sz N0 ≤ 6) (hN1 : nm_sz N1 ≤ 6) (hN2 : nm_sz N2 ≤ 6) (hN3 : nm_sz N3 ≤ 6) (hN4 : nm_sz N4 ≤ 6) (hn20 : n ≤ 400) : ∀ (k i : Nat) (s : Fin 54) (K : TK) (F : FM) (E : TE), i + k = n → 400 = n → Go Γ M_Teacher_readProduct (m + 1 + 6) 0 0 15 [some (.ref u), some (.int (nI x1)), some (.ref (sg s.val)), some (.int (nI i))] [] (rw_ Γ sg h y g o u K F E N0 N1 N2 N3 N4) z (RQ none (rw_ Γ sg h y g o u (l_Teacher_readProduct_15 N0 N1 N2 N3 N4 rec x1 k i s K F E).1 (l_Teacher_readProduct_15 N0 N1 N2 N3 N4 rec x1 k i s K F E).2.1 (l_Teacher_readProduct_15 N0 N1 N2 N3 N4 rec x1 k i s K F E).2.2 N0 N1 N2 N3 N4) z) noX := by
  intro k
  induction k with
  | zero =>
    intro i s K F E hi hn
    unfold l_Teacher_readProduct_15
    refine Go.iload_3 d_Teacher_readProduct_15 rfl ?_
    refine Go.sipush (v := 400) d_Teacher_readProduct_16 rfl (by decide) ?_
    refine Go.icmp_ge (t := 71) d_Teacher_readProduct_19 (by decide) rfl (fun c19_1 => ?_) (fun c19_1 => ?_)
    · exact Go.vret d_Teacher_readProduct_71 rfl ⟨rfl, rfl, rfl⟩
    · exact absurd (show nI 400 ≤ nI i from nI_le (by omega) (by omega)) c19_1
  | succ k ih =>
    intro i s K F E hi hn
    unfold l_Teacher_readProduct_15
    refine Go.iload_3 d_Teacher_readProduct_15 rfl ?_
    refine Go.sipush (v := 400) d_Teacher_readProduct_16 rfl (by decide) ?_
    refine Go.icmp_ge (t := 71) d_Teacher_readProduct_19 (by decide) rfl (fun c19_1 => ?_) (fun c19_1 => ?_)
    · exact absurd c19_1 (show ¬ nI 400 ≤ nI i from nI_ge (by omega) (by omega))
    · refine Go.aload_2 d_Teacher_readProduct_22 rfl ?_
      refine Go.gets d_Teacher_readProduct_23 rfl x_Teacher_308 (hs.z (i := 43) rfl) ?_
      refine Go.acmp_eq (t := 36) d_Teacher_readProduct_26 (by decide) rfl (fun c26_2 => ?_) (fun c26_2 => ?_)
      · have c26_2 := hsn _ _ (s).isLt (by decide) c26_2
        refine Go.aload_0 d_Teacher_readProduct_36 rfl ?_
        refine Go.getfield d_Teacher_readProduct_37 rfl f_Teacher_34 (rw_u (by omega)) (by rfl) ?_
        refine Go.cv0v d_Teacher_readProduct_40 rfl l_Teacher_242 k_Tokens_advance_v (rw_y (by omega)) rfl (w1_Tokens_advance hs hsn (by omega) hN0 hN1 hN2 hN3 hN4) (Nat.ble_eq_true_of_le (by omega)) rfl rfl ?_
        refine Go.aload_0 d_Teacher_readProduct_43 rfl ?_
        refine Go.iload_1 d_Teacher_readProduct_44 rfl ?_
        refine Go.cv1v d_Teacher_readProduct_45 rfl l_Teacher_305 k_Teacher_readValue_v (rw_u (by omega)) rfl (hr5 x1 _ _ _ (by omega) (by omega)) (Nat.ble_eq_true_of_le (by omega)) rfl rfl ?_
        refine Go.aload_0 d_Teacher_readProduct_48 rfl ?_
        refine Go.getfield d_Teacher_readProduct_49 rfl f_Teacher_52 (rw_u (by omega)) (by rfl) ?_
        refine Go.aload_2 d_Teacher_readProduct_52 rfl ?_
        refine Go.iconst (v := 0) d_Teacher_readProduct_53 rfl (by decide) ?_
        refine Go.cv2v d_Teacher_readProduct_54 rfl l_Teacher_245 k_Formulas_put_v (rw_f (by omega)) rfl (w1_Formulas_put (x1 := s) hs hsn (by omega) hN0 hN1 hN2 hN3 hN4) (Nat.ble_eq_true_of_le (by omega)) rfl rfl ?_
        refine Go.aload_0 d_Teacher_readProduct_57 rfl ?_
        refine Go.getfield d_Teacher_readProduct_58 rfl f_Teacher_34 (rw_u (by omega)) (by rfl) ?_
        refine Go.cv0r d_Teacher_readProduct_61 rfl l_Teacher_62 k_Tokens_sign_v (rw_y (by omega)) rfl (w1_Tokens_sign hs hsn (by omega) hN0 hN1 hN2 hN3 hN4) (Nat.ble_eq_true_of_le (by omega)) rfl rfl ?_
        refine Go.astore_2 d_Teacher_readProduct_64 rfl (by rfl) ?_
        refine Go.iinc_3 d_Teacher_readProduct_65 rfl (by rfl) (nI_inc _) ?_
        refine Go.goto (t := 15) d_Teacher_readProduct_68 (by decide) ?_
        rw [if_pos c26_2]
        exact ih (i + 1) _ _ _ _ (by omega) (by first | exact hn | (simp only []; exact hn))
      · have c26_2 : ¬ s.val = 43 := fun w => c26_2 (by rw [w])
        refine Go.aload_2 d_Teacher_readProduct_29 rfl ?_
        refine Go.gets d_Teacher_readProduct_30 rfl x_Teacher_311 (hs.z (i := 44) rfl) ?_
        refine Go.acmp_ne (t := 71) d_Teacher_readProduct_33 (by decide) rfl (fun c33_3 => ?_) (fun c33_3 => ?_)
        · have c33_3 : ¬ s.val = 44 := fun w => c33_3 (by rw [w])
          rw [if_neg c26_2, if_neg c33_3]
          exact Go.vret d_Teacher_readProduct_71 rfl ⟨rfl, rfl, rfl⟩
        · have c33_3 := hsn _ _ (s).isLt (by decide) c33_3
          refine Go.aload_0 d_Teacher_readProduct_36 rfl ?_
          refine Go.getfield d_Teacher_readProduct_37 rfl f_Teacher_34 (rw_u (by omega)) (by rfl) ?_
          refine Go.cv0v d_Teacher_readProduct_40 rfl l_Teacher_242 k_Tokens_advance_v (rw_y (by omega)) rfl (w1_Tokens_advance hs hsn (by omega) hN0 hN1 hN2 hN3 hN4) (Nat.ble_eq_true_of_le (by omega)) rfl rfl ?_
          refine Go.aload_0 d_Teacher_readProduct_43 rfl ?_
          refine Go.iload_1 d_Teacher_readProduct_44 rfl ?_
          refine Go.cv1v d_Teacher_readProduct_45 rfl l_Teacher_305 k_Teacher_readValue_v (rw_u (by omega)) rfl (hr5 x1 _ _ _ (by omega) (by omega)) (Nat.ble_eq_true_of_le (by omega)) rfl rfl ?_
          refine Go.aload_0 d_Teacher_readProduct_48 rfl ?_
          refine Go.getfield d_Teacher_readProduct_49 rfl f_Teacher_52 (rw_u (by omega)) (by rfl) ?_
          refine Go.aload_2 d_Teacher_readProduct_52 rfl ?_
          refine Go.iconst (v := 0) d_Teacher_readProduct_53 rfl (by decide) ?_
          refine Go.cv2v d_Teacher_readProduct_54 rfl l_Teacher_245 k_Formulas_put_v (rw_f (by omega)) rfl (w1_Formulas_put (x1 := s) hs hsn (by omega) hN0 hN1 hN2 hN3 hN4) (Nat.ble_eq_true_of_le (by omega)) rfl rfl ?_
          refine Go.aload_0 d_Teacher_readProduct_57 rfl ?_
          refine Go.getfield d_Teacher_readProduct_58 rfl f_Teacher_34 (rw_u (by omega)) (by rfl) ?_
          refine Go.cv0r d_Teacher_readProduct_61 rfl l_Teacher_62 k_Tokens_sign_v (rw_y (by omega)) rfl (w1_Tokens_sign hs hsn (by omega) hN0 hN1 hN2 hN3 hN4) (Nat.ble_eq_true_of_le (by omega)) rfl rfl ?_
          refine Go.astore_2 d_Teacher_readProduct_64 rfl (by rfl) ?_
          refine Go.iinc_3 d_Teacher_readProduct_65 rfl (by rfl) (nI_inc _) ?_
          refine Go.goto (t := 15) d_Teacher_readProduct_68 (by decide) ?_
          rw [if_neg c26_2, if_pos c33_3]
          exact ih (i + 1) _ _ _ _ (by omega) (by first | exact hn | (simp only []; exact hn))
theorem d_Teacher_readProduct_0 : decode M_Teacher_readProduct.2.1 0 = .ok (.aload_n 0, 1) := by decide +kernel
theorem d_Teacher_readProduct_1 : decode M_Teacher_readProduct.2.1 1 = .ok (.iload_n 1, 1) := by decide +kernel
theorem d_Teacher_readProduct_2 : decode M_Teacher_readProduct.2.1 2 = .ok (.invokevirtual 305, 3) := by decide +kernel
theorem d_Teacher_readProduct_5 : decode M_Teacher_readProduct.2.1 5 = .ok (.aload_n 0, 1) := by decide +kernel
theorem d_Teacher_readProduct_6 : decode M_Teacher_readProduct.2.1 6 = .ok (.getfield 34, 3) := by decide +kernel
theorem d_Teacher_readProduct_9 : decode M_Teacher_readProduct.2.1 9 = .ok (.invokevirtual 62, 3) := by decide +kernel
theorem d_Teacher_readProduct_12 : decode M_Teacher_readProduct.2.1 12 = .ok (.astore_n 2, 1) := by decide +kernel
theorem d_Teacher_readProduct_13 : decode M_Teacher_readProduct.2.1 13 = .ok (.iconst 0, 1) := by decide +kernel
theorem d_Teacher_readProduct_14 : decode M_Teacher_readProduct.2.1 14 = .ok (.istore_n 3, 1) := by decide +kernel
def s_Teacher_readProduct (K : TK) (F : FM) (E : TE) (N0 : NM) (N1 : NM) (N2 : NM) (N3 : NM) (N4 : NM) (rec : Nat → Nat → Fin 54 → RS → RS) (x1 : Nat) : TK × FM × TE := (l_Teacher_readProduct_15 N0 N1 N2 N3 N4 rec x1 (400) 0 (s_Tokens_sign (rec 5 x1 0 (K, F, E)).1) (rec 5 x1 0 (K, F, E)).1 (rec 5 x1 0 (K, F, E)).2.1 (rec 5 x1 0 (K, F, E)).2.2)
set_option maxRecDepth 100000 in
set_option maxHeartbeats 4000000 in
theorem c_Teacher_readProduct {Γ : G9} {sg : Nat → Nat} {sw : Nat} {h : AH} {y g o u z m : Nat} {K : TK} {F : FM} {E : TE} {N0 : NM} {N1 : NM} {N2 : NM} {N3 : NM} {N4 : NM} {rec : Nat → Nat → Fin 54 → RS → RS} {x1 : Nat} {vx1 : Int32} (hr0 : ∀ (x : Nat) (K : TK) (F : FM) (E : TE), x ≤ 8 → 7 * (8 - x) + 6 < m → CallR Γ M_Teacher_readTest (m + 6) [.ref u, .int (nI x)] (rw_ Γ sg h y g o u K F E N0 N1 N2 N3 N4) z none (rw_ Γ sg h y g o u (rec 0 x 0 (K, F, E)).1 (rec 0 x 0 (K, F, E)).2.1 (rec 0 x 0 (K, F, E)).2.2 N0 N1 N2 N3 N4)) (hr1 : ∀ (x : Nat) (K : TK) (F : FM) (E : TE), x ≤ 8 → 7 * (8 - x) + 5 < m → CallR Γ M_Teacher_readBoth (m + 6) [.ref u, .int (nI x)] (rw_ Γ sg h y g o u K F E N0 N1 N2 N3 N4) z none (rw_ Γ sg h y g o u (rec 1 x 0 (K, F, E)).1 (rec 1 x 0 (K, F, E)).2.1 (rec 1 x 0 (K, F, E)).2.2 N0 N1 N2 N3 N4)) (hr2 : ∀ (x : Nat) (K : TK) (F : FM) (E : TE), x ≤ 8 → 7 * (8 - x) + 4 < m → CallR Γ M_Teacher_readSingle (m + 6) [.ref u, .int (nI x)] (rw_ Γ sg h y g o u K F E N0 N1 N2 N3 N4) z none (rw_ Γ sg h y g o u (rec 2 x 0 (K, F, E)).1 (rec 2 x 0 (K, F, E)).2.1 (rec 2 x 0 (K, F, E)).2.2 N0 N1 N2 N3 N4)) (hr3 : ∀ (x : Nat) (K : TK) (F : FM) (E : TE), x ≤ 8 → 7 * (8 - x) + 3 < m → CallR Γ M_Teacher_readSum (m + 6) [.ref u, .int (nI x)] (rw_ Γ sg h y g o u K F E N0 N1 N2 N3 N4) z none (rw_ Γ sg h y g o u (rec 3 x 0 (K, F, E)).1 (rec 3 x 0 (K, F, E)).2.1 (rec 3 x 0 (K, F, E)).2.2 N0 N1 N2 N3 N4)) (hr4 : ∀ (x : Nat) (K : TK) (F : FM) (E : TE), x ≤ 8 → 7 * (8 - x) + 2 < m → CallR Γ M_Teacher_readProduct (m + 6) [.ref u, .int (nI x)] (rw_ Γ sg h y g o u K F E N0 N1 N2 N3 N4) z none (rw_ Γ sg h y g o u (rec 4 x 0 (K, F, E)).1 (rec 4 x 0 (K, F, E)).2.1 (rec 4 x 0 (K, F, E)).2.2 N0 N1 N2 N3 N4)) (hr5 : ∀ (x : Nat) (K : TK) (F : FM) (E : TE), x ≤ 8 → 7 * (8 - x) + 1 < m → CallR Γ M_Teacher_readValue (m + 6) [.ref u, .int (nI x)] (rw_ Γ sg h y g o u K F E N0 N1 N2 N3 N4) z none (rw_ Γ sg h y g o u (rec 5 x 0 (K, F, E)).1 (rec 5 x 0 (K, F, E)).2.1 (rec 5 x 0 (K, F, E)).2.2 N0 N1 N2 N3 N4)) (hr6 : ∀ (x : Nat) (c : Fin 54) (K : TK) (F : FM) (E : TE), x ≤ 8 → 7 * (8 - x) + 0 < m → CallR Γ M_Teacher_readNested (m + 6) [.ref u, .ref (sg c.val), .int (nI x)] (rw_ Γ sg h y g o u K F E N0 N1 N2 N3 N4) z none (rw_ Γ sg h y g o u (rec 6 x c (K, F, E)).1 (rec 6 x c (K, F, E)).2.1 (rec 6 x c (K, F, E)).2.2 N0 N1 N2 N3 N4)) (hx : 7 * (8 - x1) + 2 < m + 1) (ex1 : vx1 = nI x1) (bx1 : x1 ≤ 8) (hs : SgOk Γ sg) (hsn : SgNe sg) (hw : SwOk Γ sw) (geo : y + 4 ≤ o ∧ o + 7 ≤ u) (hN0 : nm_sz N0 ≤ 6) (hN1 : nm_sz N1 ≤ 6) (hN2 : nm_sz N2 ≤ 6) (hN3 : nm_sz N3 ≤ 6) (hN4 : nm_sz N4 ≤ 6) : CallR Γ M_Teacher_readProduct (m + 1 + 6) [.ref u, .int vx1] (rw_ Γ sg h y g o u K F E N0 N1 N2 N3 N4) z none (rw_ Γ sg h y g o u (s_Teacher_readProduct K F E N0 N1 N2 N3 N4 rec x1).1 (s_Teacher_readProduct K F E N0 N1 N2 N3 N4 rec x1).2.1 (s_Teacher_readProduct K F E N0 N1 N2 N3 N4 rec x1).2.2 N0 N1 N2 N3 N4) := by
  subst ex1
  refine Call.of_go (L := [some (.ref u), some (.int (nI x1)), none, none]) (by decide +kernel) rfl (by exact Nat.le_of_ble_eq_true rfl) ?_
  unfold s_Teacher_readProduct
  refine Go.aload_0 d_Teacher_readProduct_0 rfl ?_
  refine Go.iload_1 d_Teacher_readProduct_1 rfl ?_
  refine Go.cv1v d_Teacher_readProduct_2 rfl l_Teacher_305 k_Teacher_readValue_v (rw_u (by omega)) rfl (hr5 x1 _ _ _ (by omega) (by omega)) (Nat.ble_eq_true_of_le (by omega)) rfl rfl ?_
  refine Go.aload_0 d_Teacher_readProduct_5 rfl ?_
  refine Go.getfield d_Teacher_readProduct_6 rfl f_Teacher_34 (rw_u (by omega)) (by rfl) ?_
  refine Go.cv0r d_Teacher_readProduct_9 rfl l_Teacher_62 k_Tokens_sign_v (rw_y (by omega)) rfl (w1_Tokens_sign hs hsn (by omega) hN0 hN1 hN2 hN3 hN4) (Nat.ble_eq_true_of_le (by omega)) rfl rfl ?_
  refine Go.astore_2 d_Teacher_readProduct_12 rfl (by rfl) ?_
  refine Go.iconst (v := 0) d_Teacher_readProduct_13 rfl (by decide) ?_
  refine Go.istore_3 d_Teacher_readProduct_14 rfl (by rfl) ?_
  exact l_Teacher_readProduct_15_go (n := (400)) hr0 hr1 hr2 hr3 hr4 hr5 hr6 hx bx1 hs hsn hw geo hN0 hN1 hN2 hN3 hN4 (by decide) (400) 0 (s_Tokens_sign (rec 5 x1 0 (K, F, E)).1) (rec 5 x1 0 (K, F, E)).1 (rec 5 x1 0 (K, F, E)).2.1 (rec 5 x1 0 (K, F, E)).2.2 (by omega) rfl
theorem d_Teacher_readValue_0 : decode M_Teacher_readValue.2.1 0 = .ok (.aload_n 0, 1) := by decide +kernel
theorem d_Teacher_readValue_1 : decode M_Teacher_readValue.2.1 1 = .ok (.getfield 34, 3) := by decide +kernel
theorem d_Teacher_readValue_4 : decode M_Teacher_readValue.2.1 4 = .ok (.invokevirtual 62, 3) := by decide +kernel
theorem d_Teacher_readValue_7 : decode M_Teacher_readValue.2.1 7 = .ok (.astore_n 2, 1) := by decide +kernel
theorem d_Teacher_readValue_8 : decode M_Teacher_readValue.2.1 8 = .ok (.getstatic 72, 3) := by decide +kernel
theorem d_Teacher_readValue_11 : decode M_Teacher_readValue.2.1 11 = .ok (.aload_n 2, 1) := by decide +kernel
theorem d_Teacher_readValue_12 : decode M_Teacher_readValue.2.1 12 = .ok (.invokevirtual 78, 3) := by decide +kernel
theorem d_Teacher_readValue_15 : decode M_Teacher_readValue.2.1 15 = .ok (.iaload, 1) := by decide +kernel
theorem d_Teacher_readValue_16 : decode M_Teacher_readValue.2.1 16 = .ok (.tableswitch 217 6 19 #[98, 217, 217, 217, 217, 217, 72, 98, 117, 137, 157, 177, 197, 197], 72) := by decide +kernel
theorem d_Teacher_readValue_88 : decode M_Teacher_readValue.2.1 88 = .ok (.aload_n 0, 1) := by decide +kernel
theorem d_Teacher_readValue_89 : decode M_Teacher_readValue.2.1 89 = .ok (.getfield 52, 3) := by decide +kernel
theorem d_Teacher_readValue_92 : decode M_Teacher_readValue.2.1 92 = .ok (.aload_n 2, 1) := by decide +kernel
theorem d_Teacher_readValue_93 : decode M_Teacher_readValue.2.1 93 = .ok (.aload_n 0, 1) := by decide +kernel
theorem d_Teacher_readValue_94 : decode M_Teacher_readValue.2.1 94 = .ok (.getfield 34, 3) := by decide +kernel
theorem d_Teacher_readValue_97 : decode M_Teacher_readValue.2.1 97 = .ok (.invokevirtual 314, 3) := by decide +kernel
theorem d_Teacher_readValue_100 : decode M_Teacher_readValue.2.1 100 = .ok (.l2i, 1) := by decide +kernel
theorem d_Teacher_readValue_101 : decode M_Teacher_readValue.2.1 101 = .ok (.invokevirtual 245, 3) := by decide +kernel
theorem d_Teacher_readValue_104 : decode M_Teacher_readValue.2.1 104 = .ok (.aload_n 0, 1) := by decide +kernel
theorem d_Teacher_readValue_105 : decode M_Teacher_readValue.2.1 105 = .ok (.getfield 34, 3) := by decide +kernel
theorem d_Teacher_readValue_108 : decode M_Teacher_readValue.2.1 108 = .ok (.invokevirtual 242, 3) := by decide +kernel
theorem d_Teacher_readValue_111 : decode M_Teacher_readValue.2.1 111 = .ok (.goto 128, 3) := by decide +kernel
theorem d_Teacher_readValue_114 : decode M_Teacher_readValue.2.1 114 = .ok (.aload_n 0, 1) := by decide +kernel
theorem d_Teacher_readValue_115 : decode M_Teacher_readValue.2.1 115 = .ok (.getfield 52, 3) := by decide +kernel
theorem d_Teacher_readValue_118 : decode M_Teacher_readValue.2.1 118 = .ok (.aload_n 2, 1) := by decide +kernel
theorem d_Teacher_readValue_119 : decode M_Teacher_readValue.2.1 119 = .ok (.iconst 0, 1) := by decide +kernel
theorem d_Teacher_readValue_120 : decode M_Teacher_readValue.2.1 120 = .ok (.invokevirtual 245, 3) := by decide +kernel
theorem d_Teacher_readValue_123 : decode M_Teacher_readValue.2.1 123 = .ok (.aload_n 0, 1) := by decide +kernel
theorem d_Teacher_readValue_124 : decode M_Teacher_readValue.2.1 124 = .ok (.getfield 34, 3) := by decide +kernel
theorem d_Teacher_readValue_127 : decode M_Teacher_readValue.2.1 127 = .ok (.invokevirtual 242, 3) := by decide +kernel
theorem d_Teacher_readValue_130 : decode M_Teacher_readValue.2.1 130 = .ok (.goto 109, 3) := by decide +kernel
theorem d_Teacher_readValue_133 : decode M_Teacher_readValue.2.1 133 = .ok (.aload_n 0, 1) := by decide +kernel
theorem d_Teacher_readValue_134 : decode M_Teacher_readValue.2.1 134 = .ok (.getfield 52, 3) := by decide +kernel
theorem d_Teacher_readValue_137 : decode M_Teacher_readValue.2.1 137 = .ok (.aload_n 2, 1) := by decide +kernel
theorem d_Teacher_readValue_138 : decode M_Teacher_readValue.2.1 138 = .ok (.aload_n 0, 1) := by decide +kernel
theorem d_Teacher_readValue_139 : decode M_Teacher_readValue.2.1 139 = .ok (.aload_n 2, 1) := by decide +kernel
theorem d_Teacher_readValue_140 : decode M_Teacher_readValue.2.1 140 = .ok (.aload_n 0, 1) := by decide +kernel
theorem d_Teacher_readValue_141 : decode M_Teacher_readValue.2.1 141 = .ok (.getfield 12, 3) := by decide +kernel
theorem d_Teacher_readValue_144 : decode M_Teacher_readValue.2.1 144 = .ok (.invokevirtual 163, 3) := by decide +kernel
theorem d_Teacher_readValue_147 : decode M_Teacher_readValue.2.1 147 = .ok (.invokevirtual 245, 3) := by decide +kernel
theorem d_Teacher_readValue_150 : decode M_Teacher_readValue.2.1 150 = .ok (.goto 89, 3) := by decide +kernel
theorem d_Teacher_readValue_153 : decode M_Teacher_readValue.2.1 153 = .ok (.aload_n 0, 1) := by decide +kernel
theorem d_Teacher_readValue_154 : decode M_Teacher_readValue.2.1 154 = .ok (.getfield 52, 3) := by decide +kernel
theorem d_Teacher_readValue_157 : decode M_Teacher_readValue.2.1 157 = .ok (.aload_n 2, 1) := by decide +kernel
theorem d_Teacher_readValue_158 : decode M_Teacher_readValue.2.1 158 = .ok (.aload_n 0, 1) := by decide +kernel
theorem d_Teacher_readValue_159 : decode M_Teacher_readValue.2.1 159 = .ok (.aload_n 2, 1) := by decide +kernel
theorem d_Teacher_readValue_160 : decode M_Teacher_readValue.2.1 160 = .ok (.aload_n 0, 1) := by decide +kernel
theorem d_Teacher_readValue_161 : decode M_Teacher_readValue.2.1 161 = .ok (.getfield 18, 3) := by decide +kernel
theorem d_Teacher_readValue_164 : decode M_Teacher_readValue.2.1 164 = .ok (.invokevirtual 163, 3) := by decide +kernel
theorem d_Teacher_readValue_167 : decode M_Teacher_readValue.2.1 167 = .ok (.invokevirtual 245, 3) := by decide +kernel
theorem d_Teacher_readValue_170 : decode M_Teacher_readValue.2.1 170 = .ok (.goto 69, 3) := by decide +kernel
theorem d_Teacher_readValue_173 : decode M_Teacher_readValue.2.1 173 = .ok (.aload_n 0, 1) := by decide +kernel
theorem d_Teacher_readValue_174 : decode M_Teacher_readValue.2.1 174 = .ok (.getfield 52, 3) := by decide +kernel
theorem d_Teacher_readValue_177 : decode M_Teacher_readValue.2.1 177 = .ok (.aload_n 2, 1) := by decide +kernel
theorem d_Teacher_readValue_178 : decode M_Teacher_readValue.2.1 178 = .ok (.aload_n 0, 1) := by decide +kernel
theorem d_Teacher_readValue_179 : decode M_Teacher_readValue.2.1 179 = .ok (.aload_n 2, 1) := by decide +kernel
theorem d_Teacher_readValue_180 : decode M_Teacher_readValue.2.1 180 = .ok (.aload_n 0, 1) := by decide +kernel
theorem d_Teacher_readValue_181 : decode M_Teacher_readValue.2.1 181 = .ok (.getfield 21, 3) := by decide +kernel
theorem d_Teacher_readValue_184 : decode M_Teacher_readValue.2.1 184 = .ok (.invokevirtual 163, 3) := by decide +kernel
theorem d_Teacher_readValue_187 : decode M_Teacher_readValue.2.1 187 = .ok (.invokevirtual 245, 3) := by decide +kernel
theorem d_Teacher_readValue_190 : decode M_Teacher_readValue.2.1 190 = .ok (.goto 49, 3) := by decide +kernel
theorem d_Teacher_readValue_193 : decode M_Teacher_readValue.2.1 193 = .ok (.aload_n 0, 1) := by decide +kernel
theorem d_Teacher_readValue_194 : decode M_Teacher_readValue.2.1 194 = .ok (.getfield 52, 3) := by decide +kernel
theorem d_Teacher_readValue_197 : decode M_Teacher_readValue.2.1 197 = .ok (.aload_n 2, 1) := by decide +kernel
theorem d_Teacher_readValue_198 : decode M_Teacher_readValue.2.1 198 = .ok (.aload_n 0, 1) := by decide +kernel
theorem d_Teacher_readValue_199 : decode M_Teacher_readValue.2.1 199 = .ok (.aload_n 2, 1) := by decide +kernel
theorem d_Teacher_readValue_200 : decode M_Teacher_readValue.2.1 200 = .ok (.aload_n 0, 1) := by decide +kernel
theorem d_Teacher_readValue_201 : decode M_Teacher_readValue.2.1 201 = .ok (.getfield 24, 3) := by decide +kernel
theorem d_Teacher_readValue_204 : decode M_Teacher_readValue.2.1 204 = .ok (.invokevirtual 163, 3) := by decide +kernel
theorem d_Teacher_readValue_207 : decode M_Teacher_readValue.2.1 207 = .ok (.invokevirtual 245, 3) := by decide +kernel
theorem d_Teacher_readValue_210 : decode M_Teacher_readValue.2.1 210 = .ok (.goto 29, 3) := by decide +kernel
theorem d_Teacher_readValue_213 : decode M_Teacher_readValue.2.1 213 = .ok (.aload_n 0, 1) := by decide +kernel
theorem d_Teacher_readValue_214 : decode M_Teacher_readValue.2.1 214 = .ok (.getfield 52, 3) := by decide +kernel
theorem d_Teacher_readValue_217 : decode M_Teacher_readValue.2.1 217 = .ok (.aload_n 2, 1) := by decide +kernel
theorem d_Teacher_readValue_218 : decode M_Teacher_readValue.2.1 218 = .ok (.aload_n 0, 1) := by decide +kernel
theorem d_Teacher_readValue_219 : decode M_Teacher_readValue.2.1 219 = .ok (.aload_n 2, 1) := by decide +kernel
theorem d_Teacher_readValue_220 : decode M_Teacher_readValue.2.1 220 = .ok (.aload_n 0, 1) := by decide +kernel
theorem d_Teacher_readValue_221 : decode M_Teacher_readValue.2.1 221 = .ok (.getfield 27, 3) := by decide +kernel
theorem d_Teacher_readValue_224 : decode M_Teacher_readValue.2.1 224 = .ok (.invokevirtual 163, 3) := by decide +kernel
theorem d_Teacher_readValue_227 : decode M_Teacher_readValue.2.1 227 = .ok (.invokevirtual 245, 3) := by decide +kernel
theorem d_Teacher_readValue_230 : decode M_Teacher_readValue.2.1 230 = .ok (.goto 9, 3) := by decide +kernel
theorem d_Teacher_readValue_233 : decode M_Teacher_readValue.2.1 233 = .ok (.aload_n 0, 1) := by decide +kernel
theorem d_Teacher_readValue_234 : decode M_Teacher_readValue.2.1 234 = .ok (.aload_n 2, 1) := by decide +kernel
theorem d_Teacher_readValue_235 : decode M_Teacher_readValue.2.1 235 = .ok (.iload_n 1, 1) := by decide +kernel
theorem d_Teacher_readValue_236 : decode M_Teacher_readValue.2.1 236 = .ok (.invokevirtual 318, 3) := by decide +kernel
theorem d_Teacher_readValue_239 : decode M_Teacher_readValue.2.1 239 = .ok (.return_, 1) := by decide +kernel
def s_Teacher_readValue (K : TK) (F : FM) (E : TE) (N0 : NM) (N1 : NM) (N2 : NM) (N3 : NM) (N4 : NM) (rec : Nat → Nat → Fin 54 → RS → RS) (x1 : Nat) : TK × FM × TE := (if (swf (s_Tokens_sign K).val) = 6 then ((s_Tokens_advance K), (s_Formulas_put F (s_Tokens_sign K) 0), E) else (if (swf (s_Tokens_sign K).val) = 12 then ((s_Tokens_advance K), (s_Formulas_put F (s_Tokens_sign K) (s_Tokens_worth K).toInt32), E) else (if (swf (s_Tokens_sign K).val) = 13 then ((s_Tokens_advance K), (s_Formulas_put F (s_Tokens_sign K) 0), E) else (if (swf (s_Tokens_sign K).val) = 14 then ((s_Teacher_oldName K E N0 (s_Tokens_sign K)).2.1, (s_Formulas_put F (s_Tokens_sign K) (s_Teacher_oldName K E N0 (s_Tokens_sign K)).1), (s_Teacher_oldName K E N0 (s_Tokens_sign K)).2.2) else (if (swf (s_Tokens_sign K).val) = 15 then ((s_Teacher_oldName K E N1 (s_Tokens_sign K)).2.1, (s_Formulas_put F (s_Tokens_sign K) (s_Teacher_oldName K E N1 (s_Tokens_sign K)).1), (s_Teacher_oldName K E N1 (s_Tokens_sign K)).2.2) else (if (swf (s_Tokens_sign K).val) = 16 then ((s_Teacher_oldName K E N2 (s_Tokens_sign K)).2.1, (s_Formulas_put F (s_Tokens_sign K) (s_Teacher_oldName K E N2 (s_Tokens_sign K)).1), (s_Teacher_oldName K E N2 (s_Tokens_sign K)).2.2) else (if (swf (s_Tokens_sign K).val) = 17 then ((s_Teacher_oldName K E N3 (s_Tokens_sign K)).2.1, (s_Formulas_put F (s_Tokens_sign K) (s_Teacher_oldName K E N3 (s_Tokens_sign K)).1), (s_Teacher_oldName K E N3 (s_Tokens_sign K)).2.2) else (if (swf (s_Tokens_sign K).val) = 18 then ((s_Teacher_oldName K E N4 (s_Tokens_sign K)).2.1, (s_Formulas_put F (s_Tokens_sign K) (s_Teacher_oldName K E N4 (s_Tokens_sign K)).1), (s_Teacher_oldName K E N4 (s_Tokens_sign K)).2.2) else (if (swf (s_Tokens_sign K).val) = 19 then ((s_Teacher_oldName K E N4 (s_Tokens_sign K)).2.1, (s_Formulas_put F (s_Tokens_sign K) (s_Teacher_oldName K E N4 (s_Tokens_sign K)).1), (s_Teacher_oldName K E N4 (s_Tokens_sign K)).2.2) else ((rec 6 x1 (s_Tokens_sign K) (K, F, E)).1, (rec 6 x1 (s_Tokens_sign K) (K, F, E)).2.1, (rec 6 x1 (s_Tokens_sign K) (K, F, E)).2.2))))))))))
set_option maxRecDepth 100000 in
set_option maxHeartbeats 4000000 in
theorem c_Teacher_readValue {Γ : G9} {sg : Nat → Nat} {sw : Nat} {h : AH} {y g o u z m : Nat} {K : TK} {F : FM} {E : TE} {N0 : NM} {N1 : NM} {N2 : NM} {N3 : NM} {N4 : NM} {rec : Nat → Nat → Fin 54 → RS → RS} {x1 : Nat} {vx1 : Int32} (hr0 : ∀ (x : Nat) (K : TK) (F : FM) (E : TE), x ≤ 8 → 7 * (8 - x) + 6 < m → CallR Γ M_Teacher_readTest (m + 6) [.ref u, .int (nI x)] (rw_ Γ sg h y g o u K F E N0 N1 N2 N3 N4) z none (rw_ Γ sg h y g o u (rec 0 x 0 (K, F, E)).1 (rec 0 x 0 (K, F, E)).2.1 (rec 0 x 0 (K, F, E)).2.2 N0 N1 N2 N3 N4)) (hr1 : ∀ (x : Nat) (K : TK) (F : FM) (E : TE), x ≤ 8 → 7 * (8 - x) + 5 < m → CallR Γ M_Teacher_readBoth (m + 6) [.ref u, .int (nI x)] (rw_ Γ sg h y g o u K F E N0 N1 N2 N3 N4) z none (rw_ Γ sg h y g o u (rec 1 x 0 (K, F, E)).1 (rec 1 x 0 (K, F, E)).2.1 (rec 1 x 0 (K, F, E)).2.2 N0 N1 N2 N3 N4)) (hr2 : ∀ (x : Nat) (K : TK) (F : FM) (E : TE), x ≤ 8 → 7 * (8 - x) + 4 < m → CallR Γ M_Teacher_readSingle (m + 6) [.ref u, .int (nI x)] (rw_ Γ sg h y g o u K F E N0 N1 N2 N3 N4) z none (rw_ Γ sg h y g o u (rec 2 x 0 (K, F, E)).1 (rec 2 x 0 (K, F, E)).2.1 (rec 2 x 0 (K, F, E)).2.2 N0 N1 N2 N3 N4)) (hr3 : ∀ (x : Nat) (K : TK) (F : FM) (E : TE), x ≤ 8 → 7 * (8 - x) + 3 < m → CallR Γ M_Teacher_readSum (m + 6) [.ref u, .int (nI x)] (rw_ Γ sg h y g o u K F E N0 N1 N2 N3 N4) z none (rw_ Γ sg h y g o u (rec 3 x 0 (K, F, E)).1 (rec 3 x 0 (K, F, E)).2.1 (rec 3 x 0 (K, F, E)).2.2 N0 N1 N2 N3 N4)) (hr4 : ∀ (x : Nat) (K : TK) (F : FM) (E : TE), x ≤ 8 → 7 * (8 - x) + 2 < m → CallR Γ M_Teacher_readProduct (m + 6) [.ref u, .int (nI x)] (rw_ Γ sg h y g o u K F E N0 N1 N2 N3 N4) z none (rw_ Γ sg h y g o u (rec 4 x 0 (K, F, E)).1 (rec 4 x 0 (K, F, E)).2.1 (rec 4 x 0 (K, F, E)).2.2 N0 N1 N2 N3 N4)) (hr5 : ∀ (x : Nat) (K : TK) (F : FM) (E : TE), x ≤ 8 → 7 * (8 - x) + 1 < m → CallR Γ M_Teacher_readValue (m + 6) [.ref u, .int (nI x)] (rw_ Γ sg h y g o u K F E N0 N1 N2 N3 N4) z none (rw_ Γ sg h y g o u (rec 5 x 0 (K, F, E)).1 (rec 5 x 0 (K, F, E)).2.1 (rec 5 x 0 (K, F, E)).2.2 N0 N1 N2 N3 N4)) (hr6 : ∀ (x : Nat) (c : Fin 54) (K : TK) (F : FM) (E : TE), x ≤ 8 → 7 * (8 - x) + 0 < m → CallR Γ M_Teacher_readNested (m + 6) [.ref u, .ref (sg c.val), .int (nI x)] (rw_ Γ sg h y g o u K F E N0 N1 N2 N3 N4) z none (rw_ Γ sg h y g o u (rec 6 x c (K, F, E)).1 (rec 6 x c (K, F, E)).2.1 (rec 6 x c (K, F, E)).2.2 N0 N1 N2 N3 N4)) (hx : 7 * (8 - x1) + 1 < m + 1) (ex1 : vx1 = nI x1) (bx1 : x1 ≤ 8) (hs : SgOk Γ sg) (hsn : SgNe sg) (hw : SwOk Γ sw) (geo : y + 4 ≤ o ∧ o + 7 ≤ u) (hN0 : nm_sz N0 ≤ 6) (hN1 : nm_sz N1 ≤ 6) (hN2 : nm_sz N2 ≤ 6) (hN3 : nm_sz N3 ≤ 6) (hN4 : nm_sz N4 ≤ 6) : CallR Γ M_Teacher_readValue (m + 1 + 6) [.ref u, .int vx1] (rw_ Γ sg h y g o u K F E N0 N1 N2 N3 N4) z none (rw_ Γ sg h y g o u (s_Teacher_readValue K F E N0 N1 N2 N3 N4 rec x1).1 (s_Teacher_readValue K F E N0 N1 N2 N3 N4 rec x1).2.1 (s_Teacher_readValue K F E N0 N1 N2 N3 N4 rec x1).2.2 N0 N1 N2 N3 N4) := by
  subst ex1
  refine Call.of_go (L := [some (.ref u), some (.int (nI x1)), none]) (by decide +kernel) rfl (by exact Nat.le_of_ble_eq_true rfl) ?_
  unfold s_Teacher_readValue
  refine Go.aload_0 d_Teacher_readValue_0 rfl ?_
  refine Go.getfield d_Teacher_readValue_1 rfl f_Teacher_34 (rw_u (by omega)) (by rfl) ?_
  refine Go.cv0r d_Teacher_readValue_4 rfl l_Teacher_62 k_Tokens_sign_v (rw_y (by omega)) rfl (w1_Tokens_sign hs hsn (by omega) hN0 hN1 hN2 hN3 hN4) (Nat.ble_eq_true_of_le (by omega)) rfl rfl ?_
  refine Go.astore_2 d_Teacher_readValue_7 rfl (by rfl) ?_
  refine Go.gets d_Teacher_readValue_8 rfl x_Teacher_72 hw.1 ?_
  refine Go.aload_2 d_Teacher_readValue_11 rfl ?_
  refine Go.ordinal (i := (s_Tokens_sign K).val) d_Teacher_readValue_12 rfl x_Teacher_78 hs ((s_Tokens_sign K)).isLt (Nat.ble_eq_true_of_le (by omega)) rfl ?_
  refine Go.ialoadS d_Teacher_readValue_15 rfl hw.2 (vp_in_nI (by omega) (by omega)) ?_
  rw [nI_clamp (show (s_Tokens_sign K).val < 2 ^ 31 by omega)]
  by_cases w16_1 : (swf (s_Tokens_sign K).val) = 6
  · refine Go.tsw (t := 114) d_Teacher_readValue_16 (by rw [w16_1]; rfl) ?_
    refine Go.aload_0 d_Teacher_readValue_114 rfl ?_
    refine Go.getfield d_Teacher_readValue_115 rfl f_Teacher_52 (rw_u (by omega)) (by rfl) ?_
    refine Go.aload_2 d_Teacher_readValue_118 rfl ?_
    refine Go.iconst (v := 0) d_Teacher_readValue_119 rfl (by decide) ?_
    refine Go.cv2v d_Teacher_readValue_120 rfl l_Teacher_245 k_Formulas_put_v (rw_f (by omega)) rfl (w1_Formulas_put (x1 := (s_Tokens_sign K)) hs hsn (by omega) hN0 hN1 hN2 hN3 hN4) (Nat.ble_eq_true_of_le (by omega)) rfl rfl ?_
    refine Go.aload_0 d_Teacher_readValue_123 rfl ?_
    refine Go.getfield d_Teacher_readValue_124 rfl f_Teacher_34 (rw_u (by omega)) (by rfl) ?_
    refine Go.cv0v d_Teacher_readValue_127 rfl l_Teacher_242 k_Tokens_advance_v (rw_y (by omega)) rfl (w1_Tokens_advance hs hsn (by omega) hN0 hN1 hN2 hN3 hN4) (Nat.ble_eq_true_of_le (by omega)) rfl rfl ?_
    refine Go.goto (t := 239) d_Teacher_readValue_130 (by decide) ?_
    rw [if_pos w16_1]
    exact Go.vret d_Teacher_readValue_239 rfl ⟨rfl, rfl, rfl⟩
  by_cases w16_2 : (swf (s_Tokens_sign K).val) = 12
  · refine Go.tsw (t := 88) d_Teacher_readValue_16 (by rw [w16_2]; rfl) ?_
    refine Go.aload_0 d_Teacher_readValue_88 rfl ?_
    refine Go.getfield d_Teacher_readValue_89 rfl f_Teacher_52 (rw_u (by omega)) (by rfl) ?_
    refine Go.aload_2 d_Teacher_readValue_92 rfl ?_
    refine Go.aload_0 d_Teacher_readValue_93 rfl ?_
    refine Go.getfield d_Teacher_readValue_94 rfl f_Teacher_34 (rw_u (by omega)) (by rfl) ?_
    refine Go.cv0r d_Teacher_readValue_97 rfl l_Teacher_314 k_Tokens_worth_v (rw_y (by omega)) rfl (w1_Tokens_worth hs hsn (by omega) hN0 hN1 hN2 hN3 hN4) (Nat.ble_eq_true_of_le (by omega)) rfl rfl ?_
    refine Go.l2i d_Teacher_readValue_100 rfl ?_
    refine Go.cv2v d_Teacher_readValue_101 rfl l_Teacher_245 k_Formulas_put_v (rw_f (by omega)) rfl (w1_Formulas_put (x1 := (s_Tokens_sign K)) hs hsn (by omega) hN0 hN1 hN2 hN3 hN4) (Nat.ble_eq_true_of_le (by omega)) rfl rfl ?_
    refine Go.aload_0 d_Teacher_readValue_104 rfl ?_
    refine Go.getfield d_Teacher_readValue_105 rfl f_Teacher_34 (rw_u (by omega)) (by rfl) ?_
    refine Go.cv0v d_Teacher_readValue_108 rfl l_Teacher_242 k_Tokens_advance_v (rw_y (by omega)) rfl (w1_Tokens_advance hs hsn (by omega) hN0 hN1 hN2 hN3 hN4) (Nat.ble_eq_true_of_le (by omega)) rfl rfl ?_
    refine Go.goto (t := 239) d_Teacher_readValue_111 (by decide) ?_
    rw [if_neg w16_1, if_pos w16_2]
    exact Go.vret d_Teacher_readValue_239 rfl ⟨rfl, rfl, rfl⟩
  by_cases w16_3 : (swf (s_Tokens_sign K).val) = 13
  · refine Go.tsw (t := 114) d_Teacher_readValue_16 (by rw [w16_3]; rfl) ?_
    refine Go.aload_0 d_Teacher_readValue_114 rfl ?_
    refine Go.getfield d_Teacher_readValue_115 rfl f_Teacher_52 (rw_u (by omega)) (by rfl) ?_
    refine Go.aload_2 d_Teacher_readValue_118 rfl ?_
    refine Go.iconst (v := 0) d_Teacher_readValue_119 rfl (by decide) ?_
    refine Go.cv2v d_Teacher_readValue_120 rfl l_Teacher_245 k_Formulas_put_v (rw_f (by omega)) rfl (w1_Formulas_put (x1 := (s_Tokens_sign K)) hs hsn (by omega) hN0 hN1 hN2 hN3 hN4) (Nat.ble_eq_true_of_le (by omega)) rfl rfl ?_
    refine Go.aload_0 d_Teacher_readValue_123 rfl ?_
    refine Go.getfield d_Teacher_readValue_124 rfl f_Teacher_34 (rw_u (by omega)) (by rfl) ?_
    refine Go.cv0v d_Teacher_readValue_127 rfl l_Teacher_242 k_Tokens_advance_v (rw_y (by omega)) rfl (w1_Tokens_advance hs hsn (by omega) hN0 hN1 hN2 hN3 hN4) (Nat.ble_eq_true_of_le (by omega)) rfl rfl ?_
    refine Go.goto (t := 239) d_Teacher_readValue_130 (by decide) ?_
    rw [if_neg w16_1, if_neg w16_2, if_pos w16_3]
    exact Go.vret d_Teacher_readValue_239 rfl ⟨rfl, rfl, rfl⟩
  by_cases w16_4 : (swf (s_Tokens_sign K).val) = 14
  · refine Go.tsw (t := 133) d_Teacher_readValue_16 (by rw [w16_4]; rfl) ?_
    refine Go.aload_0 d_Teacher_readValue_133 rfl ?_
    refine Go.getfield d_Teacher_readValue_134 rfl f_Teacher_52 (rw_u (by omega)) (by rfl) ?_
    refine Go.aload_2 d_Teacher_readValue_137 rfl ?_
    refine Go.aload_0 d_Teacher_readValue_138 rfl ?_
    refine Go.aload_2 d_Teacher_readValue_139 rfl ?_
    refine Go.aload_0 d_Teacher_readValue_140 rfl ?_
    refine Go.getfield d_Teacher_readValue_141 rfl f_Teacher_12 (rw_u (by omega)) (by rfl) ?_
    refine Go.cv2r d_Teacher_readValue_144 rfl l_Teacher_163 k_Teacher_oldName_v (rw_u (by omega)) rfl (w1_Teacher_oldName_0 (x1 := (s_Tokens_sign K)) hs hsn (by omega) hN0 hN1 hN2 hN3 hN4) (Nat.ble_eq_true_of_le (by omega)) rfl rfl ?_
    refine Go.cv2v d_Teacher_readValue_147 rfl l_Teacher_245 k_Formulas_put_v (rw_f (by omega)) rfl (w1_Formulas_put (x1 := (s_Tokens_sign K)) hs hsn (by omega) hN0 hN1 hN2 hN3 hN4) (Nat.ble_eq_true_of_le (by omega)) rfl rfl ?_
    refine Go.goto (t := 239) d_Teacher_readValue_150 (by decide) ?_
    rw [if_neg w16_1, if_neg w16_2, if_neg w16_3, if_pos w16_4]
    exact Go.vret d_Teacher_readValue_239 rfl ⟨rfl, rfl, rfl⟩
  by_cases w16_5 : (swf (s_Tokens_sign K).val) = 15
  · refine Go.tsw (t := 153) d_Teacher_readValue_16 (by rw [w16_5]; rfl) ?_
    refine Go.aload_0 d_Teacher_readValue_153 rfl ?_
    refine Go.getfield d_Teacher_readValue_154 rfl f_Teacher_52 (rw_u (by omega)) (by rfl) ?_
    refine Go.aload_2 d_Teacher_readValue_157 rfl ?_
    refine Go.aload_0 d_Teacher_readValue_158 rfl ?_
    refine Go.aload_2 d_Teacher_readValue_159 rfl ?_
    refine Go.aload_0 d_Teacher_readValue_160 rfl ?_
    refine Go.getfield d_Teacher_readValue_161 rfl f_Teacher_18 (rw_u (by omega)) (by rfl) ?_
    refine Go.cv2r d_Teacher_readValue_164 rfl l_Teacher_163 k_Teacher_oldName_v (rw_u (by omega)) rfl (w1_Teacher_oldName_1 (x1 := (s_Tokens_sign K)) hs hsn (by omega) hN0 hN1 hN2 hN3 hN4) (Nat.ble_eq_true_of_le (by omega)) rfl rfl ?_
    refine Go.cv2v d_Teacher_readValue_167 rfl l_Teacher_245 k_Formulas_put_v (rw_f (by omega)) rfl (w1_Formulas_put (x1 := (s_Tokens_sign K)) hs hsn (by omega) hN0 hN1 hN2 hN3 hN4) (Nat.ble_eq_true_of_le (by omega)) rfl rfl ?_
    refine Go.goto (t := 239) d_Teacher_readValue_170 (by decide) ?_
    rw [if_neg w16_1, if_neg w16_2, if_neg w16_3, if_neg w16_4, if_pos w16_5]
    exact Go.vret d_Teacher_readValue_239 rfl ⟨rfl, rfl, rfl⟩
  by_cases w16_6 : (swf (s_Tokens_sign K).val) = 16
  · refine Go.tsw (t := 173) d_Teacher_readValue_16 (by rw [w16_6]; rfl) ?_
    refine Go.aload_0 d_Teacher_readValue_173 rfl ?_
    refine Go.getfield d_Teacher_readValue_174 rfl f_Teacher_52 (rw_u (by omega)) (by rfl) ?_
    refine Go.aload_2 d_Teacher_readValue_177 rfl ?_
    refine Go.aload_0 d_Teacher_readValue_178 rfl ?_
    refine Go.aload_2 d_Teacher_readValue_179 rfl ?_
    refine Go.aload_0 d_Teacher_readValue_180 rfl ?_
    refine Go.getfield d_Teacher_readValue_181 rfl f_Teacher_21 (rw_u (by omega)) (by rfl) ?_
    refine Go.cv2r d_Teacher_readValue_184 rfl l_Teacher_163 k_Teacher_oldName_v (rw_u (by omega)) rfl (w1_Teacher_oldName_2 (x1 := (s_Tokens_sign K)) hs hsn (by omega) hN0 hN1 hN2 hN3 hN4) (Nat.ble_eq_true_of_le (by omega)) rfl rfl ?_
    refine Go.cv2v d_Teacher_readValue_187 rfl l_Teacher_245 k_Formulas_put_v (rw_f (by omega)) rfl (w1_Formulas_put (x1 := (s_Tokens_sign K)) hs hsn (by omega) hN0 hN1 hN2 hN3 hN4) (Nat.ble_eq_true_of_le (by omega)) rfl rfl ?_
    refine Go.goto (t := 239) d_Teacher_readValue_190 (by decide) ?_
    rw [if_neg w16_1, if_neg w16_2, if_neg w16_3, if_neg w16_4, if_neg w16_5, if_pos w16_6]
    exact Go.vret d_Teacher_readValue_239 rfl ⟨rfl, rfl, rfl⟩
  by_cases w16_7 : (swf (s_Tokens_sign K).val) = 17
  · refine Go.tsw (t := 193) d_Teacher_readValue_16 (by rw [w16_7]; rfl) ?_
    refine Go.aload_0 d_Teacher_readValue_193 rfl ?_
    refine Go.getfield d_Teacher_readValue_194 rfl f_Teacher_52 (rw_u (by omega)) (by rfl) ?_
    refine Go.aload_2 d_Teacher_readValue_197 rfl ?_
    refine Go.aload_0 d_Teacher_readValue_198 rfl ?_
    refine Go.aload_2 d_Teacher_readValue_199 rfl ?_
    refine Go.aload_0 d_Teacher_readValue_200 rfl ?_
    refine Go.getfield d_Teacher_readValue_201 rfl f_Teacher_24 (rw_u (by omega)) (by rfl) ?_
    refine Go.cv2r d_Teacher_readValue_204 rfl l_Teacher_163 k_Teacher_oldName_v (rw_u (by omega)) rfl (w1_Teacher_oldName_3 (x1 := (s_Tokens_sign K)) hs hsn (by omega) hN0 hN1 hN2 hN3 hN4) (Nat.ble_eq_true_of_le (by omega)) rfl rfl ?_
    refine Go.cv2v d_Teacher_readValue_207 rfl l_Teacher_245 k_Formulas_put_v (rw_f (by omega)) rfl (w1_Formulas_put (x1 := (s_Tokens_sign K)) hs hsn (by omega) hN0 hN1 hN2 hN3 hN4) (Nat.ble_eq_true_of_le (by omega)) rfl rfl ?_
    refine Go.goto (t := 239) d_Teacher_readValue_210 (by decide) ?_
    rw [if_neg w16_1, if_neg w16_2, if_neg w16_3, if_neg w16_4, if_neg w16_5, if_neg w16_6, if_pos w16_7]
    exact Go.vret d_Teacher_readValue_239 rfl ⟨rfl, rfl, rfl⟩
  by_cases w16_8 : (swf (s_Tokens_sign K).val) = 18
  · refine Go.tsw (t := 213) d_Teacher_readValue_16 (by rw [w16_8]; rfl) ?_
    refine Go.aload_0 d_Teacher_readValue_213 rfl ?_
    refine Go.getfield d_Teacher_readValue_214 rfl f_Teacher_52 (rw_u (by omega)) (by rfl) ?_
    refine Go.aload_2 d_Teacher_readValue_217 rfl ?_
    refine Go.aload_0 d_Teacher_readValue_218 rfl ?_
    refine Go.aload_2 d_Teacher_readValue_219 rfl ?_
    refine Go.aload_0 d_Teacher_readValue_220 rfl ?_
    refine Go.getfield d_Teacher_readValue_221 rfl f_Teacher_27 (rw_u (by omega)) (by rfl) ?_
    refine Go.cv2r d_Teacher_readValue_224 rfl l_Teacher_163 k_Teacher_oldName_v (rw_u (by omega)) rfl (w1_Teacher_oldName_4 (x1 := (s_Tokens_sign K)) hs hsn (by omega) hN0 hN1 hN2 hN3 hN4) (Nat.ble_eq_true_of_le (by omega)) rfl rfl ?_
    refine Go.cv2v d_Teacher_readValue_227 rfl l_Teacher_245 k_Formulas_put_v (rw_f (by omega)) rfl (w1_Formulas_put (x1 := (s_Tokens_sign K)) hs hsn (by omega) hN0 hN1 hN2 hN3 hN4) (Nat.ble_eq_true_of_le (by omega)) rfl rfl ?_
    refine Go.goto (t := 239) d_Teacher_readValue_230 (by decide) ?_
    rw [if_neg w16_1, if_neg w16_2, if_neg w16_3, if_neg w16_4, if_neg w16_5, if_neg w16_6, if_neg w16_7, if_pos w16_8]
    exact Go.vret d_Teacher_readValue_239 rfl ⟨rfl, rfl, rfl⟩
  by_cases w16_9 : (swf (s_Tokens_sign K).val) = 19
  · refine Go.tsw (t := 213) d_Teacher_readValue_16 (by rw [w16_9]; rfl) ?_
    refine Go.aload_0 d_Teacher_readValue_213 rfl ?_
    refine Go.getfield d_Teacher_readValue_214 rfl f_Teacher_52 (rw_u (by omega)) (by rfl) ?_
    refine Go.aload_2 d_Teacher_readValue_217 rfl ?_
    refine Go.aload_0 d_Teacher_readValue_218 rfl ?_
    refine Go.aload_2 d_Teacher_readValue_219 rfl ?_
    refine Go.aload_0 d_Teacher_readValue_220 rfl ?_
    refine Go.getfield d_Teacher_readValue_221 rfl f_Teacher_27 (rw_u (by omega)) (by rfl) ?_
    refine Go.cv2r d_Teacher_readValue_224 rfl l_Teacher_163 k_Teacher_oldName_v (rw_u (by omega)) rfl (w1_Teacher_oldName_4 (x1 := (s_Tokens_sign K)) hs hsn (by omega) hN0 hN1 hN2 hN3 hN4) (Nat.ble_eq_true_of_le (by omega)) rfl rfl ?_
    refine Go.cv2v d_Teacher_readValue_227 rfl l_Teacher_245 k_Formulas_put_v (rw_f (by omega)) rfl (w1_Formulas_put (x1 := (s_Tokens_sign K)) hs hsn (by omega) hN0 hN1 hN2 hN3 hN4) (Nat.ble_eq_true_of_le (by omega)) rfl rfl ?_
    refine Go.goto (t := 239) d_Teacher_readValue_230 (by decide) ?_
    rw [if_neg w16_1, if_neg w16_2, if_neg w16_3, if_neg w16_4, if_neg w16_5, if_neg w16_6, if_neg w16_7, if_neg w16_8, if_pos w16_9]
    exact Go.vret d_Teacher_readValue_239 rfl ⟨rfl, rfl, rfl⟩
  refine Go.tsw (t := 233) d_Teacher_readValue_16 (tsw_d fun n hn => by
      match n, hn with
      | 0, _ => exact Or.inr fun w => w16_1 (i32_eq w)
      | 1, _ => exact Or.inl rfl
      | 2, _ => exact Or.inl rfl
      | 3, _ => exact Or.inl rfl
      | 4, _ => exact Or.inl rfl
      | 5, _ => exact Or.inl rfl
      | 6, _ => exact Or.inr fun w => w16_2 (i32_eq w)
      | 7, _ => exact Or.inr fun w => w16_3 (i32_eq w)
      | 8, _ => exact Or.inr fun w => w16_4 (i32_eq w)
      | 9, _ => exact Or.inr fun w => w16_5 (i32_eq w)
      | 10, _ => exact Or.inr fun w => w16_6 (i32_eq w)
      | 11, _ => exact Or.inr fun w => w16_7 (i32_eq w)
      | 12, _ => exact Or.inr fun w => w16_8 (i32_eq w)
      | 13, _ => exact Or.inr fun w => w16_9 (i32_eq w)
      | _ + 14, w => exact absurd w (by simp)) ?_
  refine Go.aload_0 d_Teacher_readValue_233 rfl ?_
  refine Go.aload_2 d_Teacher_readValue_234 rfl ?_
  refine Go.iload_1 d_Teacher_readValue_235 rfl ?_
  refine Go.cv2v d_Teacher_readValue_236 rfl l_Teacher_318 k_Teacher_readNested_v (rw_u (by omega)) rfl (hr6 x1 (s_Tokens_sign K) _ _ _ (by omega) (by omega)) (Nat.ble_eq_true_of_le (by omega)) rfl rfl ?_
  rw [if_neg w16_1, if_neg w16_2, if_neg w16_3, if_neg w16_4, if_neg w16_5, if_neg w16_6, if_neg w16_7, if_neg w16_8, if_neg w16_9]
  exact Go.vret d_Teacher_readValue_239 rfl ⟨rfl, rfl, rfl⟩
theorem d_Teacher_readNested_0 : decode M_Teacher_readNested.2.1 0 = .ok (.aload_n 1, 1) := by decide +kernel
theorem d_Teacher_readNested_1 : decode M_Teacher_readNested.2.1 1 = .ok (.getstatic 302, 3) := by decide +kernel
theorem d_Teacher_readNested_4 : decode M_Teacher_readNested.2.1 4 = .ok (.if_acmp .ne 41, 3) := by decide +kernel
theorem d_Teacher_readNested_7 : decode M_Teacher_readNested.2.1 7 = .ok (.aload_n 0, 1) := by decide +kernel
theorem d_Teacher_readNested_8 : decode M_Teacher_readNested.2.1 8 = .ok (.iload_n 2, 1) := by decide +kernel
theorem d_Teacher_readNested_9 : decode M_Teacher_readNested.2.1 9 = .ok (.invokevirtual 258, 3) := by decide +kernel
theorem d_Teacher_readNested_12 : decode M_Teacher_readNested.2.1 12 = .ok (.ifCond .eq 173, 3) := by decide +kernel
theorem d_Teacher_readNested_15 : decode M_Teacher_readNested.2.1 15 = .ok (.aload_n 0, 1) := by decide +kernel
theorem d_Teacher_readNested_16 : decode M_Teacher_readNested.2.1 16 = .ok (.getfield 52, 3) := by decide +kernel
theorem d_Teacher_readNested_19 : decode M_Teacher_readNested.2.1 19 = .ok (.getstatic 321, 3) := by decide +kernel
theorem d_Teacher_readNested_22 : decode M_Teacher_readNested.2.1 22 = .ok (.iconst 0, 1) := by decide +kernel
theorem d_Teacher_readNested_23 : decode M_Teacher_readNested.2.1 23 = .ok (.invokevirtual 245, 3) := by decide +kernel
theorem d_Teacher_readNested_26 : decode M_Teacher_readNested.2.1 26 = .ok (.aload_n 0, 1) := by decide +kernel
theorem d_Teacher_readNested_27 : decode M_Teacher_readNested.2.1 27 = .ok (.iload_n 2, 1) := by decide +kernel
theorem d_Teacher_readNested_28 : decode M_Teacher_readNested.2.1 28 = .ok (.iconst 1, 1) := by decide +kernel
theorem d_Teacher_readNested_29 : decode M_Teacher_readNested.2.1 29 = .ok (.iadd, 1) := by decide +kernel
theorem d_Teacher_readNested_30 : decode M_Teacher_readNested.2.1 30 = .ok (.invokevirtual 305, 3) := by decide +kernel
theorem d_Teacher_readNested_33 : decode M_Teacher_readNested.2.1 33 = .ok (.aload_n 0, 1) := by decide +kernel
theorem d_Teacher_readNested_34 : decode M_Teacher_readNested.2.1 34 = .ok (.getfield 52, 3) := by decide +kernel
theorem d_Teacher_readNested_37 : decode M_Teacher_readNested.2.1 37 = .ok (.aload_n 1, 1) := by decide +kernel
theorem d_Teacher_readNested_38 : decode M_Teacher_readNested.2.1 38 = .ok (.iconst 0, 1) := by decide +kernel
theorem d_Teacher_readNested_39 : decode M_Teacher_readNested.2.1 39 = .ok (.invokevirtual 245, 3) := by decide +kernel
theorem d_Teacher_readNested_42 : decode M_Teacher_readNested.2.1 42 = .ok (.goto 143, 3) := by decide +kernel
theorem d_Teacher_readNested_45 : decode M_Teacher_readNested.2.1 45 = .ok (.aload_n 1, 1) := by decide +kernel
theorem d_Teacher_readNested_46 : decode M_Teacher_readNested.2.1 46 = .ok (.getstatic 324, 3) := by decide +kernel
theorem d_Teacher_readNested_49 : decode M_Teacher_readNested.2.1 49 = .ok (.if_acmp .ne 31, 3) := by decide +kernel
theorem d_Teacher_readNested_52 : decode M_Teacher_readNested.2.1 52 = .ok (.aload_n 0, 1) := by decide +kernel
theorem d_Teacher_readNested_53 : decode M_Teacher_readNested.2.1 53 = .ok (.iload_n 2, 1) := by decide +kernel
theorem d_Teacher_readNested_54 : decode M_Teacher_readNested.2.1 54 = .ok (.invokevirtual 258, 3) := by decide +kernel
theorem d_Teacher_readNested_57 : decode M_Teacher_readNested.2.1 57 = .ok (.ifCond .eq 128, 3) := by decide +kernel
theorem d_Teacher_readNested_60 : decode M_Teacher_readNested.2.1 60 = .ok (.aload_n 0, 1) := by decide +kernel
theorem d_Teacher_readNested_61 : decode M_Teacher_readNested.2.1 61 = .ok (.iload_n 2, 1) := by decide +kernel
theorem d_Teacher_readNested_62 : decode M_Teacher_readNested.2.1 62 = .ok (.iconst 1, 1) := by decide +kernel
theorem d_Teacher_readNested_63 : decode M_Teacher_readNested.2.1 63 = .ok (.iadd, 1) := by decide +kernel
theorem d_Teacher_readNested_64 : decode M_Teacher_readNested.2.1 64 = .ok (.invokevirtual 227, 3) := by decide +kernel
theorem d_Teacher_readNested_67 : decode M_Teacher_readNested.2.1 67 = .ok (.aload_n 0, 1) := by decide +kernel
theorem d_Teacher_readNested_68 : decode M_Teacher_readNested.2.1 68 = .ok (.getfield 34, 3) := by decide +kernel
theorem d_Teacher_readNested_71 : decode M_Teacher_readNested.2.1 71 = .ok (.getstatic 327, 3) := by decide +kernel
theorem d_Teacher_readNested_74 : decode M_Teacher_readNested.2.1 74 = .ok (.invokevirtual 124, 3) := by decide +kernel
theorem d_Teacher_readNested_77 : decode M_Teacher_readNested.2.1 77 = .ok (.goto 108, 3) := by decide +kernel
theorem d_Teacher_readNested_80 : decode M_Teacher_readNested.2.1 80 = .ok (.aload_n 1, 1) := by decide +kernel
theorem d_Teacher_readNested_81 : decode M_Teacher_readNested.2.1 81 = .ok (.getstatic 330, 3) := by decide +kernel
theorem d_Teacher_readNested_84 : decode M_Teacher_readNested.2.1 84 = .ok (.if_acmp .eq 10, 3) := by decide +kernel
theorem d_Teacher_readNested_87 : decode M_Teacher_readNested.2.1 87 = .ok (.aload_n 1, 1) := by decide +kernel
theorem d_Teacher_readNested_88 : decode M_Teacher_readNested.2.1 88 = .ok (.getstatic 333, 3) := by decide +kernel
theorem d_Teacher_readNested_91 : decode M_Teacher_readNested.2.1 91 = .ok (.if_acmp .ne 87, 3) := by decide +kernel
theorem d_Teacher_readNested_94 : decode M_Teacher_readNested.2.1 94 = .ok (.aload_n 0, 1) := by decide +kernel
theorem d_Teacher_readNested_95 : decode M_Teacher_readNested.2.1 95 = .ok (.getfield 34, 3) := by decide +kernel
theorem d_Teacher_readNested_98 : decode M_Teacher_readNested.2.1 98 = .ok (.invokevirtual 242, 3) := by decide +kernel
theorem d_Teacher_readNested_101 : decode M_Teacher_readNested.2.1 101 = .ok (.aload_n 0, 1) := by decide +kernel
theorem d_Teacher_readNested_102 : decode M_Teacher_readNested.2.1 102 = .ok (.getfield 34, 3) := by decide +kernel
theorem d_Teacher_readNested_105 : decode M_Teacher_readNested.2.1 105 = .ok (.invokevirtual 62, 3) := by decide +kernel
theorem d_Teacher_readNested_108 : decode M_Teacher_readNested.2.1 108 = .ok (.getstatic 324, 3) := by decide +kernel
theorem d_Teacher_readNested_111 : decode M_Teacher_readNested.2.1 111 = .ok (.if_acmp .eq 13, 3) := by decide +kernel
theorem d_Teacher_readNested_114 : decode M_Teacher_readNested.2.1 114 = .ok (.aload_n 0, 1) := by decide +kernel
theorem d_Teacher_readNested_115 : decode M_Teacher_readNested.2.1 115 = .ok (.getfield 34, 3) := by decide +kernel
theorem d_Teacher_readNested_118 : decode M_Teacher_readNested.2.1 118 = .ok (.invokevirtual 118, 3) := by decide +kernel
theorem d_Teacher_readNested_121 : decode M_Teacher_readNested.2.1 121 = .ok (.goto 64, 3) := by decide +kernel
theorem d_Teacher_readNested_124 : decode M_Teacher_readNested.2.1 124 = .ok (.aload_n 0, 1) := by decide +kernel
theorem d_Teacher_readNested_125 : decode M_Teacher_readNested.2.1 125 = .ok (.iload_n 2, 1) := by decide +kernel
theorem d_Teacher_readNested_126 : decode M_Teacher_readNested.2.1 126 = .ok (.invokevirtual 258, 3) := by decide +kernel
theorem d_Teacher_readNested_129 : decode M_Teacher_readNested.2.1 129 = .ok (.ifCond .eq 56, 3) := by decide +kernel
theorem d_Teacher_readNested_132 : decode M_Teacher_readNested.2.1 132 = .ok (.aload_n 0, 1) := by decide +kernel
theorem d_Teacher_readNested_133 : decode M_Teacher_readNested.2.1 133 = .ok (.iload_n 2, 1) := by decide +kernel
theorem d_Teacher_readNested_134 : decode M_Teacher_readNested.2.1 134 = .ok (.iconst 1, 1) := by decide +kernel
theorem d_Teacher_readNested_135 : decode M_Teacher_readNested.2.1 135 = .ok (.iadd, 1) := by decide +kernel
theorem d_Teacher_readNested_136 : decode M_Teacher_readNested.2.1 136 = .ok (.invokevirtual 227, 3) := by decide +kernel
theorem d_Teacher_readNested_139 : decode M_Teacher_readNested.2.1 139 = .ok (.aload_n 0, 1) := by decide +kernel
theorem d_Teacher_readNested_140 : decode M_Teacher_readNested.2.1 140 = .ok (.getfield 34, 3) := by decide +kernel
theorem d_Teacher_readNested_143 : decode M_Teacher_readNested.2.1 143 = .ok (.getstatic 336, 3) := by decide +kernel
theorem d_Teacher_readNested_146 : decode M_Teacher_readNested.2.1 146 = .ok (.invokevirtual 124, 3) := by decide +kernel
theorem d_Teacher_readNested_149 : decode M_Teacher_readNested.2.1 149 = .ok (.aload_n 0, 1) := by decide +kernel
theorem d_Teacher_readNested_150 : decode M_Teacher_readNested.2.1 150 = .ok (.iload_n 2, 1) := by decide +kernel
theorem d_Teacher_readNested_151 : decode M_Teacher_readNested.2.1 151 = .ok (.iconst 1, 1) := by decide +kernel
theorem d_Teacher_readNested_152 : decode M_Teacher_readNested.2.1 152 = .ok (.iadd, 1) := by decide +kernel
theorem d_Teacher_readNested_153 : decode M_Teacher_readNested.2.1 153 = .ok (.invokevirtual 227, 3) := by decide +kernel
theorem d_Teacher_readNested_156 : decode M_Teacher_readNested.2.1 156 = .ok (.aload_n 0, 1) := by decide +kernel
theorem d_Teacher_readNested_157 : decode M_Teacher_readNested.2.1 157 = .ok (.getfield 34, 3) := by decide +kernel
theorem d_Teacher_readNested_160 : decode M_Teacher_readNested.2.1 160 = .ok (.getstatic 327, 3) := by decide +kernel
theorem d_Teacher_readNested_163 : decode M_Teacher_readNested.2.1 163 = .ok (.invokevirtual 124, 3) := by decide +kernel
theorem d_Teacher_readNested_166 : decode M_Teacher_readNested.2.1 166 = .ok (.aload_n 0, 1) := by decide +kernel
theorem d_Teacher_readNested_167 : decode M_Teacher_readNested.2.1 167 = .ok (.getfield 52, 3) := by decide +kernel
theorem d_Teacher_readNested_170 : decode M_Teacher_readNested.2.1 170 = .ok (.aload_n 1, 1) := by decide +kernel
theorem d_Teacher_readNested_171 : decode M_Teacher_readNested.2.1 171 = .ok (.iconst 0, 1) := by decide +kernel
theorem d_Teacher_readNested_172 : decode M_Teacher_readNested.2.1 172 = .ok (.invokevirtual 245, 3) := by decide +kernel
theorem d_Teacher_readNested_175 : decode M_Teacher_readNested.2.1 175 = .ok (.goto 10, 3) := by decide +kernel
theorem d_Teacher_readNested_178 : decode M_Teacher_readNested.2.1 178 = .ok (.aload_n 0, 1) := by decide +kernel
theorem d_Teacher_readNested_179 : decode M_Teacher_readNested.2.1 179 = .ok (.getfield 34, 3) := by decide +kernel
theorem d_Teacher_readNested_182 : decode M_Teacher_readNested.2.1 182 = .ok (.invokevirtual 118, 3) := by decide +kernel
theorem d_Teacher_readNested_185 : decode M_Teacher_readNested.2.1 185 = .ok (.return_, 1) := by decide +kernel
def s_Teacher_readNested (K : TK) (F : FM) (E : TE) (N0 : NM) (N1 : NM) (N2 : NM) (N3 : NM) (N4 : NM) (rec : Nat → Nat → Fin 54 → RS → RS) (x0 : Fin 54) (x1 : Nat) : TK × FM × TE := (if x0.val = 42 then (if (s_Teacher_goesDeeper K E x1).1 = 0 then ((s_Teacher_goesDeeper K E x1).2, F, E) else ((rec 5 (x1 + 1) 0 ((s_Teacher_goesDeeper K E x1).2, (s_Formulas_put F (51 : Fin 54) 0), E)).1, (s_Formulas_put (rec 5 (x1 + 1) 0 ((s_Teacher_goesDeeper K E x1).2, (s_Formulas_put F (51 : Fin 54) 0), E)).2.1 x0 0), (rec 5 (x1 + 1) 0 ((s_Teacher_goesDeeper K E x1).2, (s_Formulas_put F (51 : Fin 54) 0), E)).2.2)) else (if x0.val = 35 then (if (s_Teacher_goesDeeper K E x1).1 = 0 then ((s_Teacher_goesDeeper K E x1).2, F, E) else ((s_Tokens_expect (rec 3 (x1 + 1) 0 ((s_Teacher_goesDeeper K E x1).2, F, E)).1 (36 : Fin 54)), (rec 3 (x1 + 1) 0 ((s_Teacher_goesDeeper K E x1).2, F, E)).2.1, (rec 3 (x1 + 1) 0 ((s_Teacher_goesDeeper K E x1).2, F, E)).2.2)) else (if x0.val = 33 then (if (s_Tokens_sign (s_Tokens_advance K)).val = 35 then (if (s_Teacher_goesDeeper (s_Tokens_advance K) E x1).1 = 0 then ((s_Teacher_goesDeeper (s_Tokens_advance K) E x1).2, F, E) else ((s_Tokens_expect (rec 3 (x1 + 1) 0 ((s_Tokens_expect (rec 3 (x1 + 1) 0 ((s_Teacher_goesDeeper (s_Tokens_advance K) E x1).2, F, E)).1 (40 : Fin 54)), (rec 3 (x1 + 1) 0 ((s_Teacher_goesDeeper (s_Tokens_advance K) E x1).2, F, E)).2.1, (rec 3 (x1 + 1) 0 ((s_Teacher_goesDeeper (s_Tokens_advance K) E x1).2, F, E)).2.2)).1 (36 : Fin 54)), (s_Formulas_put (rec 3 (x1 + 1) 0 ((s_Tokens_expect (rec 3 (x1 + 1) 0 ((s_Teacher_goesDeeper (s_Tokens_advance K) E x1).2, F, E)).1 (40 : Fin 54)), (rec 3 (x1 + 1) 0 ((s_Teacher_goesDeeper (s_Tokens_advance K) E x1).2, F, E)).2.1, (rec 3 (x1 + 1) 0 ((s_Teacher_goesDeeper (s_Tokens_advance K) E x1).2, F, E)).2.2)).2.1 x0 0), (rec 3 (x1 + 1) 0 ((s_Tokens_expect (rec 3 (x1 + 1) 0 ((s_Teacher_goesDeeper (s_Tokens_advance K) E x1).2, F, E)).1 (40 : Fin 54)), (rec 3 (x1 + 1) 0 ((s_Teacher_goesDeeper (s_Tokens_advance K) E x1).2, F, E)).2.1, (rec 3 (x1 + 1) 0 ((s_Teacher_goesDeeper (s_Tokens_advance K) E x1).2, F, E)).2.2)).2.2)) else ((s_Tokens_breakOff (s_Tokens_advance K)), F, E)) else (if x0.val = 34 then (if (s_Tokens_sign (s_Tokens_advance K)).val = 35 then (if (s_Teacher_goesDeeper (s_Tokens_advance K) E x1).1 = 0 then ((s_Teacher_goesDeeper (s_Tokens_advance K) E x1).2, F, E) else ((s_Tokens_expect (rec 3 (x1 + 1) 0 ((s_Tokens_expect (rec 3 (x1 + 1) 0 ((s_Teacher_goesDeeper (s_Tokens_advance K) E x1).2, F, E)).1 (40 : Fin 54)), (rec 3 (x1 + 1) 0 ((s_Teacher_goesDeeper (s_Tokens_advance K) E x1).2, F, E)).2.1, (rec 3 (x1 + 1) 0 ((s_Teacher_goesDeeper (s_Tokens_advance K) E x1).2, F, E)).2.2)).1 (36 : Fin 54)), (s_Formulas_put (rec 3 (x1 + 1) 0 ((s_Tokens_expect (rec 3 (x1 + 1) 0 ((s_Teacher_goesDeeper (s_Tokens_advance K) E x1).2, F, E)).1 (40 : Fin 54)), (rec 3 (x1 + 1) 0 ((s_Teacher_goesDeeper (s_Tokens_advance K) E x1).2, F, E)).2.1, (rec 3 (x1 + 1) 0 ((s_Teacher_goesDeeper (s_Tokens_advance K) E x1).2, F, E)).2.2)).2.1 x0 0), (rec 3 (x1 + 1) 0 ((s_Tokens_expect (rec 3 (x1 + 1) 0 ((s_Teacher_goesDeeper (s_Tokens_advance K) E x1).2, F, E)).1 (40 : Fin 54)), (rec 3 (x1 + 1) 0 ((s_Teacher_goesDeeper (s_Tokens_advance K) E x1).2, F, E)).2.1, (rec 3 (x1 + 1) 0 ((s_Teacher_goesDeeper (s_Tokens_advance K) E x1).2, F, E)).2.2)).2.2)) else ((s_Tokens_breakOff (s_Tokens_advance K)), F, E)) else ((s_Tokens_breakOff K), F, E)))))
set_option maxRecDepth 100000 in
set_option maxHeartbeats 4000000 in
theorem c_Teacher_readNested {Γ : G9} {sg : Nat → Nat} {sw : Nat} {h : AH} {y g o u z m : Nat} {K : TK} {F : FM} {E : TE} {N0 : NM} {N1 : NM} {N2 : NM} {N3 : NM} {N4 : NM} {rec : Nat → Nat → Fin 54 → RS → RS} {x0 : Fin 54} {x1 : Nat} {vx1 : Int32} (hr0 : ∀ (x : Nat) (K : TK) (F : FM) (E : TE), x ≤ 8 → 7 * (8 - x) + 6 < m → CallR Γ M_Teacher_readTest (m + 6) [.ref u, .int (nI x)] (rw_ Γ sg h y g o u K F E N0 N1 N2 N3 N4) z none (rw_ Γ sg h y g o u (rec 0 x 0 (K, F, E)).1 (rec 0 x 0 (K, F, E)).2.1 (rec 0 x 0 (K, F, E)).2.2 N0 N1 N2 N3 N4)) (hr1 : ∀ (x : Nat) (K : TK) (F : FM) (E : TE), x ≤ 8 → 7 * (8 - x) + 5 < m → CallR Γ M_Teacher_readBoth (m + 6) [.ref u, .int (nI x)] (rw_ Γ sg h y g o u K F E N0 N1 N2 N3 N4) z none (rw_ Γ sg h y g o u (rec 1 x 0 (K, F, E)).1 (rec 1 x 0 (K, F, E)).2.1 (rec 1 x 0 (K, F, E)).2.2 N0 N1 N2 N3 N4)) (hr2 : ∀ (x : Nat) (K : TK) (F : FM) (E : TE), x ≤ 8 → 7 * (8 - x) + 4 < m → CallR Γ M_Teacher_readSingle (m + 6) [.ref u, .int (nI x)] (rw_ Γ sg h y g o u K F E N0 N1 N2 N3 N4) z none (rw_ Γ sg h y g o u (rec 2 x 0 (K, F, E)).1 (rec 2 x 0 (K, F, E)).2.1 (rec 2 x 0 (K, F, E)).2.2 N0 N1 N2 N3 N4)) (hr3 : ∀ (x : Nat) (K : TK) (F : FM) (E : TE), x ≤ 8 → 7 * (8 - x) + 3 < m → CallR Γ M_Teacher_readSum (m + 6) [.ref u, .int (nI x)] (rw_ Γ sg h y g o u K F E N0 N1 N2 N3 N4) z none (rw_ Γ sg h y g o u (rec 3 x 0 (K, F, E)).1 (rec 3 x 0 (K, F, E)).2.1 (rec 3 x 0 (K, F, E)).2.2 N0 N1 N2 N3 N4)) (hr4 : ∀ (x : Nat) (K : TK) (F : FM) (E : TE), x ≤ 8 → 7 * (8 - x) + 2 < m → CallR Γ M_Teacher_readProduct (m + 6) [.ref u, .int (nI x)] (rw_ Γ sg h y g o u K F E N0 N1 N2 N3 N4) z none (rw_ Γ sg h y g o u (rec 4 x 0 (K, F, E)).1 (rec 4 x 0 (K, F, E)).2.1 (rec 4 x 0 (K, F, E)).2.2 N0 N1 N2 N3 N4)) (hr5 : ∀ (x : Nat) (K : TK) (F : FM) (E : TE), x ≤ 8 → 7 * (8 - x) + 1 < m → CallR Γ M_Teacher_readValue (m + 6) [.ref u, .int (nI x)] (rw_ Γ sg h y g o u K F E N0 N1 N2 N3 N4) z none (rw_ Γ sg h y g o u (rec 5 x 0 (K, F, E)).1 (rec 5 x 0 (K, F, E)).2.1 (rec 5 x 0 (K, F, E)).2.2 N0 N1 N2 N3 N4)) (hr6 : ∀ (x : Nat) (c : Fin 54) (K : TK) (F : FM) (E : TE), x ≤ 8 → 7 * (8 - x) + 0 < m → CallR Γ M_Teacher_readNested (m + 6) [.ref u, .ref (sg c.val), .int (nI x)] (rw_ Γ sg h y g o u K F E N0 N1 N2 N3 N4) z none (rw_ Γ sg h y g o u (rec 6 x c (K, F, E)).1 (rec 6 x c (K, F, E)).2.1 (rec 6 x c (K, F, E)).2.2 N0 N1 N2 N3 N4)) (hx : 7 * (8 - x1) + 0 < m + 1) (ex1 : vx1 = nI x1) (bx1 : x1 ≤ 8) (hs : SgOk Γ sg) (hsn : SgNe sg) (hw : SwOk Γ sw) (geo : y + 4 ≤ o ∧ o + 7 ≤ u) (hN0 : nm_sz N0 ≤ 6) (hN1 : nm_sz N1 ≤ 6) (hN2 : nm_sz N2 ≤ 6) (hN3 : nm_sz N3 ≤ 6) (hN4 : nm_sz N4 ≤ 6) : CallR Γ M_Teacher_readNested (m + 1 + 6) [.ref u, .ref (sg x0.val), .int vx1] (rw_ Γ sg h y g o u K F E N0 N1 N2 N3 N4) z none (rw_ Γ sg h y g o u (s_Teacher_readNested K F E N0 N1 N2 N3 N4 rec x0 x1).1 (s_Teacher_readNested K F E N0 N1 N2 N3 N4 rec x0 x1).2.1 (s_Teacher_readNested K F E N0 N1 N2 N3 N4 rec x0 x1).2.2 N0 N1 N2 N3 N4) := by
  subst ex1
  refine Call.of_go (L := [some (.ref u), some (.ref (sg x0.val)), some (.int (nI x1))]) (by decide +kernel) rfl (by exact Nat.le_of_ble_eq_true rfl) ?_
  unfold s_Teacher_readNested
  refine Go.aload_1 d_Teacher_readNested_0 rfl ?_
  refine Go.gets d_Teacher_readNested_1 rfl x_Teacher_302 (hs.z (i := 42) rfl) ?_
  refine Go.acmp_ne (t := 45) d_Teacher_readNested_4 (by decide) rfl (fun c4_1 => ?_) (fun c4_1 => ?_)
  · have c4_1 : ¬ x0.val = 42 := fun w => c4_1 (by rw [w])
    refine Go.aload_1 d_Teacher_readNested_45 rfl ?_
    refine Go.gets d_Teacher_readNested_46 rfl x_Teacher_324 (hs.z (i := 35) rfl) ?_
    refine Go.acmp_ne (t := 80) d_Teacher_readNested_49 (by decide) rfl (fun c49_2 => ?_) (fun c49_2 => ?_)
    · have c49_2 : ¬ x0.val = 35 := fun w => c49_2 (by rw [w])
      refine Go.aload_1 d_Teacher_readNested_80 rfl ?_
      refine Go.gets d_Teacher_readNested_81 rfl x_Teacher_330 (hs.z (i := 33) rfl) ?_
      refine Go.acmp_eq (t := 94) d_Teacher_readNested_84 (by decide) rfl (fun c84_3 => ?_) (fun c84_3 => ?_)
      · have c84_3 := hsn _ _ (x0).isLt (by decide) c84_3
        refine Go.aload_0 d_Teacher_readNested_94 rfl ?_
        refine Go.getfield d_Teacher_readNested_95 rfl f_Teacher_34 (rw_u (by omega)) (by rfl) ?_
        refine Go.cv0v d_Teacher_readNested_98 rfl l_Teacher_242 k_Tokens_advance_v (rw_y (by omega)) rfl (w1_Tokens_advance hs hsn (by omega) hN0 hN1 hN2 hN3 hN4) (Nat.ble_eq_true_of_le (by omega)) rfl rfl ?_
        refine Go.aload_0 d_Teacher_readNested_101 rfl ?_
        refine Go.getfield d_Teacher_readNested_102 rfl f_Teacher_34 (rw_u (by omega)) (by rfl) ?_
        refine Go.cv0r d_Teacher_readNested_105 rfl l_Teacher_62 k_Tokens_sign_v (rw_y (by omega)) rfl (w1_Tokens_sign hs hsn (by omega) hN0 hN1 hN2 hN3 hN4) (Nat.ble_eq_true_of_le (by omega)) rfl rfl ?_
        refine Go.gets d_Teacher_readNested_108 rfl x_Teacher_324 (hs.z (i := 35) rfl) ?_
        refine Go.acmp_eq (t := 124) d_Teacher_readNested_111 (by decide) rfl (fun c111_4 => ?_) (fun c111_4 => ?_)
        · have c111_4 := hsn _ _ ((s_Tokens_sign (s_Tokens_advance K))).isLt (by decide) c111_4
          refine Go.aload_0 d_Teacher_readNested_124 rfl ?_
          refine Go.iload_2 d_Teacher_readNested_125 rfl ?_
          refine Go.cv1r d_Teacher_readNested_126 rfl l_Teacher_258 k_Teacher_goesDeeper_v (rw_u (by omega)) rfl (w1_Teacher_goesDeeper (x1 := x1) rfl (by omega) hs hsn (by omega) hN0 hN1 hN2 hN3 hN4) (Nat.ble_eq_true_of_le (by omega)) rfl rfl ?_
          refine Go.if_eq (t := 185) d_Teacher_readNested_129 (by decide) rfl (fun c129_5 => ?_) (fun c129_5 => ?_)
          · rw [if_neg c4_1, if_neg c49_2, if_pos c84_3, if_pos c111_4, if_pos c129_5]
            exact Go.vret d_Teacher_readNested_185 rfl ⟨rfl, rfl, rfl⟩
          · have := gd_lt (by omega) c129_5
            refine Go.aload_0 d_Teacher_readNested_132 rfl ?_
            refine Go.iload_2 d_Teacher_readNested_133 rfl ?_
            refine Go.iconst (v := 1) d_Teacher_readNested_134 rfl (by decide) ?_
            refine Go.iadd d_Teacher_readNested_135 rfl ?_
            rw [show (nI x1) + 1 = nI (x1 + 1) from nI_add _ _]
            refine Go.cv1v d_Teacher_readNested_136 rfl l_Teacher_227 k_Teacher_readSum_v (rw_u (by omega)) rfl (hr3 (x1 + 1) _ _ _ (by omega) (by omega)) (Nat.ble_eq_true_of_le (by omega)) rfl rfl ?_
            refine Go.aload_0 d_Teacher_readNested_139 rfl ?_
            refine Go.getfield d_Teacher_readNested_140 rfl f_Teacher_34 (rw_u (by omega)) (by rfl) ?_
            refine Go.gets d_Teacher_readNested_143 rfl x_Teacher_336 (hs.z (i := 40) rfl) ?_
            refine Go.cv1v d_Teacher_readNested_146 rfl l_Teacher_124 k_Tokens_expect_v (rw_y (by omega)) rfl (w1_Tokens_expect (x1 := (40 : Fin 54)) hs hsn (by omega) hN0 hN1 hN2 hN3 hN4) (Nat.ble_eq_true_of_le (by omega)) rfl rfl ?_
            refine Go.aload_0 d_Teacher_readNested_149 rfl ?_
            refine Go.iload_2 d_Teacher_readNested_150 rfl ?_
            refine Go.iconst (v := 1) d_Teacher_readNested_151 rfl (by decide) ?_
            refine Go.iadd d_Teacher_readNested_152 rfl ?_
            rw [show (nI x1) + 1 = nI (x1 + 1) from nI_add _ _]
            refine Go.cv1v d_Teacher_readNested_153 rfl l_Teacher_227 k_Teacher_readSum_v (rw_u (by omega)) rfl (hr3 (x1 + 1) _ _ _ (by omega) (by omega)) (Nat.ble_eq_true_of_le (by omega)) rfl rfl ?_
            refine Go.aload_0 d_Teacher_readNested_156 rfl ?_
            refine Go.getfield d_Teacher_readNested_157 rfl f_Teacher_34 (rw_u (by omega)) (by rfl) ?_
            refine Go.gets d_Teacher_readNested_160 rfl x_Teacher_327 (hs.z (i := 36) rfl) ?_
            refine Go.cv1v d_Teacher_readNested_163 rfl l_Teacher_124 k_Tokens_expect_v (rw_y (by omega)) rfl (w1_Tokens_expect (x1 := (36 : Fin 54)) hs hsn (by omega) hN0 hN1 hN2 hN3 hN4) (Nat.ble_eq_true_of_le (by omega)) rfl rfl ?_
            refine Go.aload_0 d_Teacher_readNested_166 rfl ?_
            refine Go.getfield d_Teacher_readNested_167 rfl f_Teacher_52 (rw_u (by omega)) (by rfl) ?_
            refine Go.aload_1 d_Teacher_readNested_170 rfl ?_
            refine Go.iconst (v := 0) d_Teacher_readNested_171 rfl (by decide) ?_
            refine Go.cv2v d_Teacher_readNested_172 rfl l_Teacher_245 k_Formulas_put_v (rw_f (by omega)) rfl (w1_Formulas_put (x1 := x0) hs hsn (by omega) hN0 hN1 hN2 hN3 hN4) (Nat.ble_eq_true_of_le (by omega)) rfl rfl ?_
            refine Go.goto (t := 185) d_Teacher_readNested_175 (by decide) ?_
            rw [if_neg c4_1, if_neg c49_2, if_pos c84_3, if_pos c111_4, if_neg c129_5]
            exact Go.vret d_Teacher_readNested_185 rfl ⟨rfl, rfl, rfl⟩
        · have c111_4 : ¬ (s_Tokens_sign (s_Tokens_advance K)).val = 35 := fun w => c111_4 (by rw [w])
          refine Go.aload_0 d_Teacher_readNested_114 rfl ?_
          refine Go.getfield d_Teacher_readNested_115 rfl f_Teacher_34 (rw_u (by omega)) (by rfl) ?_
          refine Go.cv0v d_Teacher_readNested_118 rfl l_Teacher_118 k_Tokens_breakOff_v (rw_y (by omega)) rfl (w1_Tokens_breakOff hs hsn (by omega) hN0 hN1 hN2 hN3 hN4) (Nat.ble_eq_true_of_le (by omega)) rfl rfl ?_
          refine Go.goto (t := 185) d_Teacher_readNested_121 (by decide) ?_
          rw [if_neg c4_1, if_neg c49_2, if_pos c84_3, if_neg c111_4]
          exact Go.vret d_Teacher_readNested_185 rfl ⟨rfl, rfl, rfl⟩
      · have c84_3 : ¬ x0.val = 33 := fun w => c84_3 (by rw [w])
        refine Go.aload_1 d_Teacher_readNested_87 rfl ?_
        refine Go.gets d_Teacher_readNested_88 rfl x_Teacher_333 (hs.z (i := 34) rfl) ?_
        refine Go.acmp_ne (t := 178) d_Teacher_readNested_91 (by decide) rfl (fun c91_6 => ?_) (fun c91_6 => ?_)
        · have c91_6 : ¬ x0.val = 34 := fun w => c91_6 (by rw [w])
          refine Go.aload_0 d_Teacher_readNested_178 rfl ?_
          refine Go.getfield d_Teacher_readNested_179 rfl f_Teacher_34 (rw_u (by omega)) (by rfl) ?_
          refine Go.cv0v d_Teacher_readNested_182 rfl l_Teacher_118 k_Tokens_breakOff_v (rw_y (by omega)) rfl (w1_Tokens_breakOff hs hsn (by omega) hN0 hN1 hN2 hN3 hN4) (Nat.ble_eq_true_of_le (by omega)) rfl rfl ?_
          rw [if_neg c4_1, if_neg c49_2, if_neg c84_3, if_neg c91_6]
          exact Go.vret d_Teacher_readNested_185 rfl ⟨rfl, rfl, rfl⟩
        · have c91_6 := hsn _ _ (x0).isLt (by decide) c91_6
          refine Go.aload_0 d_Teacher_readNested_94 rfl ?_
          refine Go.getfield d_Teacher_readNested_95 rfl f_Teacher_34 (rw_u (by omega)) (by rfl) ?_
          refine Go.cv0v d_Teacher_readNested_98 rfl l_Teacher_242 k_Tokens_advance_v (rw_y (by omega)) rfl (w1_Tokens_advance hs hsn (by omega) hN0 hN1 hN2 hN3 hN4) (Nat.ble_eq_true_of_le (by omega)) rfl rfl ?_
          refine Go.aload_0 d_Teacher_readNested_101 rfl ?_
          refine Go.getfield d_Teacher_readNested_102 rfl f_Teacher_34 (rw_u (by omega)) (by rfl) ?_
          refine Go.cv0r d_Teacher_readNested_105 rfl l_Teacher_62 k_Tokens_sign_v (rw_y (by omega)) rfl (w1_Tokens_sign hs hsn (by omega) hN0 hN1 hN2 hN3 hN4) (Nat.ble_eq_true_of_le (by omega)) rfl rfl ?_
          refine Go.gets d_Teacher_readNested_108 rfl x_Teacher_324 (hs.z (i := 35) rfl) ?_
          refine Go.acmp_eq (t := 124) d_Teacher_readNested_111 (by decide) rfl (fun c111_7 => ?_) (fun c111_7 => ?_)
          · have c111_7 := hsn _ _ ((s_Tokens_sign (s_Tokens_advance K))).isLt (by decide) c111_7
            refine Go.aload_0 d_Teacher_readNested_124 rfl ?_
            refine Go.iload_2 d_Teacher_readNested_125 rfl ?_
            refine Go.cv1r d_Teacher_readNested_126 rfl l_Teacher_258 k_Teacher_goesDeeper_v (rw_u (by omega)) rfl (w1_Teacher_goesDeeper (x1 := x1) rfl (by omega) hs hsn (by omega) hN0 hN1 hN2 hN3 hN4) (Nat.ble_eq_true_of_le (by omega)) rfl rfl ?_
            refine Go.if_eq (t := 185) d_Teacher_readNested_129 (by decide) rfl (fun c129_8 => ?_) (fun c129_8 => ?_)
            · rw [if_neg c4_1, if_neg c49_2, if_neg c84_3, if_pos c91_6, if_pos c111_7, if_pos c129_8]
              exact Go.vret d_Teacher_readNested_185 rfl ⟨rfl, rfl, rfl⟩
            · have := gd_lt (by omega) c129_8
              refine Go.aload_0 d_Teacher_readNested_132 rfl ?_
              refine Go.iload_2 d_Teacher_readNested_133 rfl ?_
              refine Go.iconst (v := 1) d_Teacher_readNested_134 rfl (by decide) ?_
              refine Go.iadd d_Teacher_readNested_135 rfl ?_
              rw [show (nI x1) + 1 = nI (x1 + 1) from nI_add _ _]
              refine Go.cv1v d_Teacher_readNested_136 rfl l_Teacher_227 k_Teacher_readSum_v (rw_u (by omega)) rfl (hr3 (x1 + 1) _ _ _ (by omega) (by omega)) (Nat.ble_eq_true_of_le (by omega)) rfl rfl ?_
              refine Go.aload_0 d_Teacher_readNested_139 rfl ?_
              refine Go.getfield d_Teacher_readNested_140 rfl f_Teacher_34 (rw_u (by omega)) (by rfl) ?_
              refine Go.gets d_Teacher_readNested_143 rfl x_Teacher_336 (hs.z (i := 40) rfl) ?_
              refine Go.cv1v d_Teacher_readNested_146 rfl l_Teacher_124 k_Tokens_expect_v (rw_y (by omega)) rfl (w1_Tokens_expect (x1 := (40 : Fin 54)) hs hsn (by omega) hN0 hN1 hN2 hN3 hN4) (Nat.ble_eq_true_of_le (by omega)) rfl rfl ?_
              refine Go.aload_0 d_Teacher_readNested_149 rfl ?_
              refine Go.iload_2 d_Teacher_readNested_150 rfl ?_
              refine Go.iconst (v := 1) d_Teacher_readNested_151 rfl (by decide) ?_
              refine Go.iadd d_Teacher_readNested_152 rfl ?_
              rw [show (nI x1) + 1 = nI (x1 + 1) from nI_add _ _]
              refine Go.cv1v d_Teacher_readNested_153 rfl l_Teacher_227 k_Teacher_readSum_v (rw_u (by omega)) rfl (hr3 (x1 + 1) _ _ _ (by omega) (by omega)) (Nat.ble_eq_true_of_le (by omega)) rfl rfl ?_
              refine Go.aload_0 d_Teacher_readNested_156 rfl ?_
              refine Go.getfield d_Teacher_readNested_157 rfl f_Teacher_34 (rw_u (by omega)) (by rfl) ?_
              refine Go.gets d_Teacher_readNested_160 rfl x_Teacher_327 (hs.z (i := 36) rfl) ?_
              refine Go.cv1v d_Teacher_readNested_163 rfl l_Teacher_124 k_Tokens_expect_v (rw_y (by omega)) rfl (w1_Tokens_expect (x1 := (36 : Fin 54)) hs hsn (by omega) hN0 hN1 hN2 hN3 hN4) (Nat.ble_eq_true_of_le (by omega)) rfl rfl ?_
              refine Go.aload_0 d_Teacher_readNested_166 rfl ?_
              refine Go.getfield d_Teacher_readNested_167 rfl f_Teacher_52 (rw_u (by omega)) (by rfl) ?_
              refine Go.aload_1 d_Teacher_readNested_170 rfl ?_
              refine Go.iconst (v := 0) d_Teacher_readNested_171 rfl (by decide) ?_
              refine Go.cv2v d_Teacher_readNested_172 rfl l_Teacher_245 k_Formulas_put_v (rw_f (by omega)) rfl (w1_Formulas_put (x1 := x0) hs hsn (by omega) hN0 hN1 hN2 hN3 hN4) (Nat.ble_eq_true_of_le (by omega)) rfl rfl ?_
              refine Go.goto (t := 185) d_Teacher_readNested_175 (by decide) ?_
              rw [if_neg c4_1, if_neg c49_2, if_neg c84_3, if_pos c91_6, if_pos c111_7, if_neg c129_8]
              exact Go.vret d_Teacher_readNested_185 rfl ⟨rfl, rfl, rfl⟩
          · have c111_7 : ¬ (s_Tokens_sign (s_Tokens_advance K)).val = 35 := fun w => c111_7 (by rw [w])
            refine Go.aload_0 d_Teacher_readNested_114 rfl ?_
            refine Go.getfield d_Teacher_readNested_115 rfl f_Teacher_34 (rw_u (by omega)) (by rfl) ?_
            refine Go.cv0v d_Teacher_readNested_118 rfl l_Teacher_118 k_Tokens_breakOff_v (rw_y (by omega)) rfl (w1_Tokens_breakOff hs hsn (by omega) hN0 hN1 hN2 hN3 hN4) (Nat.ble_eq_true_of_le (by omega)) rfl rfl ?_
            refine Go.goto (t := 185) d_Teacher_readNested_121 (by decide) ?_
            rw [if_neg c4_1, if_neg c49_2, if_neg c84_3, if_pos c91_6, if_neg c111_7]
            exact Go.vret d_Teacher_readNested_185 rfl ⟨rfl, rfl, rfl⟩
    · have c49_2 := hsn _ _ (x0).isLt (by decide) c49_2
      refine Go.aload_0 d_Teacher_readNested_52 rfl ?_
      refine Go.iload_2 d_Teacher_readNested_53 rfl ?_
      refine Go.cv1r d_Teacher_readNested_54 rfl l_Teacher_258 k_Teacher_goesDeeper_v (rw_u (by omega)) rfl (w1_Teacher_goesDeeper (x1 := x1) rfl (by omega) hs hsn (by omega) hN0 hN1 hN2 hN3 hN4) (Nat.ble_eq_true_of_le (by omega)) rfl rfl ?_
      refine Go.if_eq (t := 185) d_Teacher_readNested_57 (by decide) rfl (fun c57_9 => ?_) (fun c57_9 => ?_)
      · rw [if_neg c4_1, if_pos c49_2, if_pos c57_9]
        exact Go.vret d_Teacher_readNested_185 rfl ⟨rfl, rfl, rfl⟩
      · have := gd_lt (by omega) c57_9
        refine Go.aload_0 d_Teacher_readNested_60 rfl ?_
        refine Go.iload_2 d_Teacher_readNested_61 rfl ?_
        refine Go.iconst (v := 1) d_Teacher_readNested_62 rfl (by decide) ?_
        refine Go.iadd d_Teacher_readNested_63 rfl ?_
        rw [show (nI x1) + 1 = nI (x1 + 1) from nI_add _ _]
        refine Go.cv1v d_Teacher_readNested_64 rfl l_Teacher_227 k_Teacher_readSum_v (rw_u (by omega)) rfl (hr3 (x1 + 1) _ _ _ (by omega) (by omega)) (Nat.ble_eq_true_of_le (by omega)) rfl rfl ?_
        refine Go.aload_0 d_Teacher_readNested_67 rfl ?_
        refine Go.getfield d_Teacher_readNested_68 rfl f_Teacher_34 (rw_u (by omega)) (by rfl) ?_
        refine Go.gets d_Teacher_readNested_71 rfl x_Teacher_327 (hs.z (i := 36) rfl) ?_
        refine Go.cv1v d_Teacher_readNested_74 rfl l_Teacher_124 k_Tokens_expect_v (rw_y (by omega)) rfl (w1_Tokens_expect (x1 := (36 : Fin 54)) hs hsn (by omega) hN0 hN1 hN2 hN3 hN4) (Nat.ble_eq_true_of_le (by omega)) rfl rfl ?_
        refine Go.goto (t := 185) d_Teacher_readNested_77 (by decide) ?_
        rw [if_neg c4_1, if_pos c49_2, if_neg c57_9]
        exact Go.vret d_Teacher_readNested_185 rfl ⟨rfl, rfl, rfl⟩
  · have c4_1 := hsn _ _ (x0).isLt (by decide) c4_1
    refine Go.aload_0 d_Teacher_readNested_7 rfl ?_
    refine Go.iload_2 d_Teacher_readNested_8 rfl ?_
    refine Go.cv1r d_Teacher_readNested_9 rfl l_Teacher_258 k_Teacher_goesDeeper_v (rw_u (by omega)) rfl (w1_Teacher_goesDeeper (x1 := x1) rfl (by omega) hs hsn (by omega) hN0 hN1 hN2 hN3 hN4) (Nat.ble_eq_true_of_le (by omega)) rfl rfl ?_
    refine Go.if_eq (t := 185) d_Teacher_readNested_12 (by decide) rfl (fun c12_10 => ?_) (fun c12_10 => ?_)
    · rw [if_pos c4_1, if_pos c12_10]
      exact Go.vret d_Teacher_readNested_185 rfl ⟨rfl, rfl, rfl⟩
    · have := gd_lt (by omega) c12_10
      refine Go.aload_0 d_Teacher_readNested_15 rfl ?_
      refine Go.getfield d_Teacher_readNested_16 rfl f_Teacher_52 (rw_u (by omega)) (by rfl) ?_
      refine Go.gets d_Teacher_readNested_19 rfl x_Teacher_321 (hs.z (i := 51) rfl) ?_
      refine Go.iconst (v := 0) d_Teacher_readNested_22 rfl (by decide) ?_
      refine Go.cv2v d_Teacher_readNested_23 rfl l_Teacher_245 k_Formulas_put_v (rw_f (by omega)) rfl (w1_Formulas_put (x1 := (51 : Fin 54)) hs hsn (by omega) hN0 hN1 hN2 hN3 hN4) (Nat.ble_eq_true_of_le (by omega)) rfl rfl ?_
      refine Go.aload_0 d_Teacher_readNested_26 rfl ?_
      refine Go.iload_2 d_Teacher_readNested_27 rfl ?_
      refine Go.iconst (v := 1) d_Teacher_readNested_28 rfl (by decide) ?_
      refine Go.iadd d_Teacher_readNested_29 rfl ?_
      rw [show (nI x1) + 1 = nI (x1 + 1) from nI_add _ _]
      refine Go.cv1v d_Teacher_readNested_30 rfl l_Teacher_305 k_Teacher_readValue_v (rw_u (by omega)) rfl (hr5 (x1 + 1) _ _ _ (by omega) (by omega)) (Nat.ble_eq_true_of_le (by omega)) rfl rfl ?_
      refine Go.aload_0 d_Teacher_readNested_33 rfl ?_
      refine Go.getfield d_Teacher_readNested_34 rfl f_Teacher_52 (rw_u (by omega)) (by rfl) ?_
      refine Go.aload_1 d_Teacher_readNested_37 rfl ?_
      refine Go.iconst (v := 0) d_Teacher_readNested_38 rfl (by decide) ?_
      refine Go.cv2v d_Teacher_readNested_39 rfl l_Teacher_245 k_Formulas_put_v (rw_f (by omega)) rfl (w1_Formulas_put (x1 := x0) hs hsn (by omega) hN0 hN1 hN2 hN3 hN4) (Nat.ble_eq_true_of_le (by omega)) rfl rfl ?_
      refine Go.goto (t := 185) d_Teacher_readNested_42 (by decide) ?_
      rw [if_pos c4_1, if_neg c12_10]
      exact Go.vret d_Teacher_readNested_185 rfl ⟨rfl, rfl, rfl⟩
def rd_ (N0 N1 N2 N3 N4 : NM) : Nat → Nat → Nat → Fin 54 → RS → RS
  | 0, _, _, _, S => S
  | m + 1, w, x, c, S => if w = 0 then s_Teacher_readTest S.1 S.2.1 S.2.2 N0 N1 N2 N3 N4 (rd_ N0 N1 N2 N3 N4 m) x else if w = 1 then s_Teacher_readBoth S.1 S.2.1 S.2.2 N0 N1 N2 N3 N4 (rd_ N0 N1 N2 N3 N4 m) x else if w = 2 then s_Teacher_readSingle S.1 S.2.1 S.2.2 N0 N1 N2 N3 N4 (rd_ N0 N1 N2 N3 N4 m) x else if w = 3 then s_Teacher_readSum S.1 S.2.1 S.2.2 N0 N1 N2 N3 N4 (rd_ N0 N1 N2 N3 N4 m) x else if w = 4 then s_Teacher_readProduct S.1 S.2.1 S.2.2 N0 N1 N2 N3 N4 (rd_ N0 N1 N2 N3 N4 m) x else if w = 5 then s_Teacher_readValue S.1 S.2.1 S.2.2 N0 N1 N2 N3 N4 (rd_ N0 N1 N2 N3 N4 m) x else s_Teacher_readNested S.1 S.2.1 S.2.2 N0 N1 N2 N3 N4 (rd_ N0 N1 N2 N3 N4 m) c x
set_option maxRecDepth 100000 in
set_option maxHeartbeats 4000000 in
theorem rd_go {Γ : G9} {sg : Nat → Nat} {sw : Nat} {h : AH} {y g o u z : Nat} {N0 N1 N2 N3 N4 : NM} (hs : SgOk Γ sg) (hsn : SgNe sg) (hw : SwOk Γ sw) (geo : y + 4 ≤ o ∧ o + 7 ≤ u) (hN0 : nm_sz N0 ≤ 6) (hN1 : nm_sz N1 ≤ 6) (hN2 : nm_sz N2 ≤ 6) (hN3 : nm_sz N3 ≤ 6) (hN4 : nm_sz N4 ≤ 6) : ∀ m : Nat,
    (∀ (x : Nat) (K : TK) (F : FM) (E : TE), x ≤ 8 → 7 * (8 - x) + 6 < m → CallR Γ M_Teacher_readTest (m + 6) [.ref u, .int (nI x)] (rw_ Γ sg h y g o u K F E N0 N1 N2 N3 N4) z none (rw_ Γ sg h y g o u (rd_ N0 N1 N2 N3 N4 m 0 x 0 (K, F, E)).1 (rd_ N0 N1 N2 N3 N4 m 0 x 0 (K, F, E)).2.1 (rd_ N0 N1 N2 N3 N4 m 0 x 0 (K, F, E)).2.2 N0 N1 N2 N3 N4)) ∧
    (∀ (x : Nat) (K : TK) (F : FM) (E : TE), x ≤ 8 → 7 * (8 - x) + 5 < m → CallR Γ M_Teacher_readBoth (m + 6) [.ref u, .int (nI x)] (rw_ Γ sg h y g o u K F E N0 N1 N2 N3 N4) z none (rw_ Γ sg h y g o u (rd_ N0 N1 N2 N3 N4 m 1 x 0 (K, F, E)).1 (rd_ N0 N1 N2 N3 N4 m 1 x 0 (K, F, E)).2.1 (rd_ N0 N1 N2 N3 N4 m 1 x 0 (K, F, E)).2.2 N0 N1 N2 N3 N4)) ∧
    (∀ (x : Nat) (K : TK) (F : FM) (E : TE), x ≤ 8 → 7 * (8 - x) + 4 < m → CallR Γ M_Teacher_readSingle (m + 6) [.ref u, .int (nI x)] (rw_ Γ sg h y g o u K F E N0 N1 N2 N3 N4) z none (rw_ Γ sg h y g o u (rd_ N0 N1 N2 N3 N4 m 2 x 0 (K, F, E)).1 (rd_ N0 N1 N2 N3 N4 m 2 x 0 (K, F, E)).2.1 (rd_ N0 N1 N2 N3 N4 m 2 x 0 (K, F, E)).2.2 N0 N1 N2 N3 N4)) ∧
    (∀ (x : Nat) (K : TK) (F : FM) (E : TE), x ≤ 8 → 7 * (8 - x) + 3 < m → CallR Γ M_Teacher_readSum (m + 6) [.ref u, .int (nI x)] (rw_ Γ sg h y g o u K F E N0 N1 N2 N3 N4) z none (rw_ Γ sg h y g o u (rd_ N0 N1 N2 N3 N4 m 3 x 0 (K, F, E)).1 (rd_ N0 N1 N2 N3 N4 m 3 x 0 (K, F, E)).2.1 (rd_ N0 N1 N2 N3 N4 m 3 x 0 (K, F, E)).2.2 N0 N1 N2 N3 N4)) ∧
    (∀ (x : Nat) (K : TK) (F : FM) (E : TE), x ≤ 8 → 7 * (8 - x) + 2 < m → CallR Γ M_Teacher_readProduct (m + 6) [.ref u, .int (nI x)] (rw_ Γ sg h y g o u K F E N0 N1 N2 N3 N4) z none (rw_ Γ sg h y g o u (rd_ N0 N1 N2 N3 N4 m 4 x 0 (K, F, E)).1 (rd_ N0 N1 N2 N3 N4 m 4 x 0 (K, F, E)).2.1 (rd_ N0 N1 N2 N3 N4 m 4 x 0 (K, F, E)).2.2 N0 N1 N2 N3 N4)) ∧
    (∀ (x : Nat) (K : TK) (F : FM) (E : TE), x ≤ 8 → 7 * (8 - x) + 1 < m → CallR Γ M_Teacher_readValue (m + 6) [.ref u, .int (nI x)] (rw_ Γ sg h y g o u K F E N0 N1 N2 N3 N4) z none (rw_ Γ sg h y g o u (rd_ N0 N1 N2 N3 N4 m 5 x 0 (K, F, E)).1 (rd_ N0 N1 N2 N3 N4 m 5 x 0 (K, F, E)).2.1 (rd_ N0 N1 N2 N3 N4 m 5 x 0 (K, F, E)).2.2 N0 N1 N2 N3 N4)) ∧
    (∀ (x : Nat) (c : Fin 54) (K : TK) (F : FM) (E : TE), x ≤ 8 → 7 * (8 - x) + 0 < m → CallR Γ M_Teacher_readNested (m + 6) [.ref u, .ref (sg c.val), .int (nI x)] (rw_ Γ sg h y g o u K F E N0 N1 N2 N3 N4) z none (rw_ Γ sg h y g o u (rd_ N0 N1 N2 N3 N4 m 6 x c (K, F, E)).1 (rd_ N0 N1 N2 N3 N4 m 6 x c (K, F, E)).2.1 (rd_ N0 N1 N2 N3 N4 m 6 x c (K, F, E)).2.2 N0 N1 N2 N3 N4)) := by
  intro m
  induction m with
  | zero => exact ⟨fun x K F E hx hm => absurd hm (by omega), fun x K F E hx hm => absurd hm (by omega), fun x K F E hx hm => absurd hm (by omega), fun x K F E hx hm => absurd hm (by omega), fun x K F E hx hm => absurd hm (by omega), fun x K F E hx hm => absurd hm (by omega), fun x c K F E hx hm => absurd hm (by omega)⟩
  | succ m ih =>
    obtain ⟨hr0, hr1, hr2, hr3, hr4, hr5, hr6⟩ := ih
    exact ⟨fun x K F E hx hm => c_Teacher_readTest hr0 hr1 hr2 hr3 hr4 hr5 hr6 hm rfl hx hs hsn hw geo hN0 hN1 hN2 hN3 hN4,
      fun x K F E hx hm => c_Teacher_readBoth hr0 hr1 hr2 hr3 hr4 hr5 hr6 hm rfl hx hs hsn hw geo hN0 hN1 hN2 hN3 hN4,
      fun x K F E hx hm => c_Teacher_readSingle hr0 hr1 hr2 hr3 hr4 hr5 hr6 hm rfl hx hs hsn hw geo hN0 hN1 hN2 hN3 hN4,
      fun x K F E hx hm => c_Teacher_readSum hr0 hr1 hr2 hr3 hr4 hr5 hr6 hm rfl hx hs hsn hw geo hN0 hN1 hN2 hN3 hN4,
      fun x K F E hx hm => c_Teacher_readProduct hr0 hr1 hr2 hr3 hr4 hr5 hr6 hm rfl hx hs hsn hw geo hN0 hN1 hN2 hN3 hN4,
      fun x K F E hx hm => c_Teacher_readValue hr0 hr1 hr2 hr3 hr4 hr5 hr6 hm rfl hx hs hsn hw geo hN0 hN1 hN2 hN3 hN4,
      fun x c K F E hx hm => c_Teacher_readNested hr0 hr1 hr2 hr3 hr4 hr5 hr6 hm rfl hx hs hsn hw geo hN0 hN1 hN2 hN3 hN4⟩
