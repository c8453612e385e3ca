/-! GlacierCamp's calls, over the world of one camp -/
theorem nI_back {x : Int32} (h : ¬ x < 0) : x = nI x.toNatClampNeg := by
  obtain ⟨j, hj, rfl⟩ := nI_of h
  rw [nI_clamp hj]
theorem nI_b8 {x : Int32} {n : Nat} (h : ¬ x < 0) (h1 : x < nI n) (hn : n ≤ 8) : x.toNatClampNeg < 8 := by
  obtain ⟨j, hj, rfl⟩ := nI_of h
  rw [nI_clamp hj]
  have := (nI_ltI hj (by omega)).mp h1
  omega
theorem needWhat_ok {x n : Int32} (h : s_Camp_needWhat x n = 0) : ¬ x < 0 ∧ x < n := by
  unfold s_Camp_needWhat at h
  split at h
  · exact absurd h (by decide)
  · rename_i c
    split at h
    · rename_i c2
      exact ⟨c, c2⟩
    · exact absurd h (by decide)
theorem needRange_ok {x a b : Int32} (h : s_Camp_needRange x a b = 0) : ¬ x < a ∧ x ≤ b := by
  unfold s_Camp_needRange at h
  split at h
  · exact absurd h (by decide)
  · rename_i c
    split at h
    · rename_i c2
      exact ⟨c, c2⟩
    · exact absurd h (by decide)
theorem i_trans1 {x : Int32} (h : ¬ x < 1) : ¬ x < 0 := by
  intro w
  apply h
  rw [Int32.lt_iff_toInt_lt] at w ⊢
  have e0 : (0 : Int32).toInt = 0 := by decide
  have e1 : (1 : Int32).toInt = 1 := by decide
  omega
theorem append_le {A : TA} {x : Int32} (hA : ta_sz A ≤ 2000) : ta_sz (s_Tape_append A x) ≤ 2000 := by
  unfold s_Tape_append
  (repeat' split) <;> first
    | exact hA
    | (rename_i c; have hc := nI_gt_of c (by omega); simp only [ta_sz, ta_sz', ta_by'] at hc ⊢; omega)
    | (rename_i c c9; have hc := nI_gt_of c (by omega); simp only [ta_sz, ta_sz', ta_by'] at hc ⊢; omega)
abbrev CP : Type := Int32
abbrev cp_ep (S : CP) : Int32 := S
abbrev cp_ep' (S : CP) (v : Int32) : CP := (v)
def cpC (Γ : G9) (g : Nat) (g2 : Nat) (o : Nat) (o2 : Nat) (b : Nat) (S : CP) : Nat → Option va_E
  | 0 => some (.inr (8, [.ref (b + 1), .ref (b + 3), .ref g, .ref g2, .ref o, .ref o2, .int (cp_ep S)]))
  | _ => none
theorem cp_g0 {Γ : G9} {g : Nat} {g2 : Nat} {o : Nat} {o2 : Nat} {h : AH} {b : Nat} {S : CP} : blk h b 1 (cpC Γ g g2 o o2 b S) (b) = some (.inr (8, [.ref (b + 1), .ref (b + 3), .ref g, .ref g2, .ref o, .ref o2, .int (cp_ep S)])) := blk_at0 (by decide)
theorem cp_p_ep {Γ : G9} {g : Nat} {g2 : Nat} {o : Nat} {o2 : Nat} {h : AH} {b : Nat} {S : CP} {v : Int32} : hup (blk h b 1 (cpC Γ g g2 o o2 b S)) (b) (.inr (8, [.ref (b + 1), .ref (b + 3), .ref g, .ref g2, .ref o, .ref o2, .int (cp_ep S)].set 6 (.int v))) = blk h b 1 (cpC Γ g g2 o o2 b (cp_ep' S v)) := by
  rw [blk_hup0 (by decide)]
  refine blk_ext fun j hj => ?_
  match j, hj with
  | 0, _ => rfl
  | _ + 1, w => exact absurd w (by omega)
def cw_ (Γ : G9) (sg : Nat → Nat) (h : AH) (c g g2 o o2 : Nat) (A : TA) (K : TK) (σ : GL) (τ : GL) (T : TM) (F : FM) (U : TM) (G : FM) (P : CP) : AH := (blk (blk (blk (blk (blk (blk (blk (blk (blk h (c + 1) 2 (taC Γ (c + 1) A)) (c + 3) 4 (tkC Γ sg (c + 3) K)) g 12 (glC Γ g σ)) g2 12 (glC Γ g2 τ)) (o + 1) 2 (tbC Γ 20 (o + 1) T)) (o + 3) 4 (fmC Γ sg (o + 3) F)) (o2 + 1) 2 (tbC Γ 20 (o2 + 1) U)) (o2 + 3) 4 (fmC Γ sg (o2 + 3) G)) c 1 (cpC Γ g g2 o o2 c P))
theorem cw_at_c {Γ : G9} {sg : Nat → Nat} {sw : Nat} {h : AH} {c g g2 o o2 : Nat} {A : TA} {K : TK} {σ : GL} {τ : GL} {T : TM} {F : FM} {U : TM} {G : FM} {P : CP} (hs : SgOk Γ sg) (hsn : SgNe sg) (hw : SwOk Γ sw) (geo : c + 7 ≤ g ∧ c + 7 ≤ g2 ∧ (g + 12 ≤ g2 ∨ g2 + 12 ≤ g) ∧ g + 12 ≤ o ∧ g + 12 ≤ o2 ∧ g2 + 12 ≤ o ∧ g2 + 12 ≤ o2 ∧ (o + 7 ≤ o2 ∨ o2 + 7 ≤ o)) (hA : ta_sz A ≤ 2000) (ho : h o = some (.inr (3, [.ref (o + 1), .ref (o + 3)]))) (ho2 : h o2 = some (.inr (3, [.ref (o2 + 1), .ref (o2 + 3)]))) (hT : T.2 ≤ 20) (hU : U.2 ≤ 20) (hW : WFG σ) (hV : WFG τ) : (cw_ Γ sg h c g g2 o o2 A K σ τ T F U G P) c = some (.inr (8, [.ref (c + 1), .ref (c + 3), .ref g, .ref g2, .ref o, .ref o2, .int (cp_ep P)])) := by
  unfold cw_
  exact (cp_g0)
theorem cw_c_Tape_size_c_1 {Γ : G9} {sg : Nat → Nat} {sw : Nat} {h : AH} {c g g2 o o2 z : Nat} {A : TA} {K : TK} {σ : GL} {τ : GL} {T : TM} {F : FM} {U : TM} {G : FM} {P : CP} (hs : SgOk Γ sg) (hsn : SgNe sg) (hw : SwOk Γ sw) (geo : c + 7 ≤ g ∧ c + 7 ≤ g2 ∧ (g + 12 ≤ g2 ∨ g2 + 12 ≤ g) ∧ g + 12 ≤ o ∧ g + 12 ≤ o2 ∧ g2 + 12 ≤ o ∧ g2 + 12 ≤ o2 ∧ (o + 7 ≤ o2 ∨ o2 + 7 ≤ o)) (hA : ta_sz A ≤ 2000) (ho : h o = some (.inr (3, [.ref (o + 1), .ref (o + 3)]))) (ho2 : h o2 = some (.inr (3, [.ref (o2 + 1), .ref (o2 + 3)]))) (hT : T.2 ≤ 20) (hU : U.2 ≤ 20) (hW : WFG σ) (hV : WFG τ) : CallR Γ M_Tape_size 0 [.ref (c + 1)] (cw_ Γ sg h c g g2 o o2 A K σ τ T F U G P) z (some (.int (nI (ta_sz A)))) (cw_ Γ sg h c g g2 o o2 A K σ τ T F U G P) := by
  unfold cw_
  exact CallR.conv ((((((((blk_in (blk_in (blk_in (blk_in (blk_in (blk_in (blk_in (blk_comm (by omega))))))))).trans (blk_in (blk_in (blk_in (blk_in (blk_in (blk_in (blk_comm (by omega))))))))).trans (blk_in (blk_in (blk_in (blk_in (blk_in (blk_comm (by omega)))))))).trans (blk_in (blk_in (blk_in (blk_in (blk_comm (by omega))))))).trans (blk_in (blk_in (blk_in (blk_comm (by omega)))))).trans (blk_in (blk_in (blk_comm (by omega))))).trans (blk_in (blk_comm (by omega)))).trans (blk_comm (by omega))) ((((((((blk_comm (by omega)).trans (blk_in (blk_comm (by omega)))).trans (blk_in (blk_in (blk_comm (by omega))))).trans (blk_in (blk_in (blk_in (blk_comm (by omega)))))).trans (blk_in (blk_in (blk_in (blk_in (blk_comm (by omega))))))).trans (blk_in (blk_in (blk_in (blk_in (blk_in (blk_comm (by omega)))))))).trans (blk_in (blk_in (blk_in (blk_in (blk_in (blk_in (blk_comm (by omega))))))))).trans (blk_in (blk_in (blk_in (blk_in (blk_in (blk_in (blk_in (blk_comm (by omega)))))))))) (c_Tape_size)
theorem cw_at_c_1 {Γ : G9} {sg : Nat → Nat} {sw : Nat} {h : AH} {c g g2 o o2 : Nat} {A : TA} {K : TK} {σ : GL} {τ : GL} {T : TM} {F : FM} {U : TM} {G : FM} {P : CP} (hs : SgOk Γ sg) (hsn : SgNe sg) (hw : SwOk Γ sw) (geo : c + 7 ≤ g ∧ c + 7 ≤ g2 ∧ (g + 12 ≤ g2 ∨ g2 + 12 ≤ g) ∧ g + 12 ≤ o ∧ g + 12 ≤ o2 ∧ g2 + 12 ≤ o ∧ g2 + 12 ≤ o2 ∧ (o + 7 ≤ o2 ∨ o2 + 7 ≤ o)) (hA : ta_sz A ≤ 2000) (ho : h o = some (.inr (3, [.ref (o + 1), .ref (o + 3)]))) (ho2 : h o2 = some (.inr (3, [.ref (o2 + 1), .ref (o2 + 3)]))) (hT : T.2 ≤ 20) (hU : U.2 ≤ 20) (hW : WFG σ) (hV : WFG τ) : (cw_ Γ sg h c g g2 o o2 A K σ τ T F U G P) (c + 1) = some (.inr (5, [.ref ((c + 1) + 1), .int (nI (ta_sz A))])) := by
  unfold cw_
  exact ((blk_out (by omega)).trans ((blk_out (by omega)).trans ((blk_out (by omega)).trans ((blk_out (by omega)).trans ((blk_out (by omega)).trans ((blk_out (by omega)).trans ((blk_out (by omega)).trans ((blk_out (by omega)).trans (ta_g0)))))))))
theorem cw_c_Tape_append_c_1 {Γ : G9} {sg : Nat → Nat} {sw : Nat} {h : AH} {c g g2 o o2 z : Nat} {A : TA} {K : TK} {σ : GL} {τ : GL} {T : TM} {F : FM} {U : TM} {G : FM} {P : CP} {x1 : Int32} (hs : SgOk Γ sg) (hsn : SgNe sg) (hw : SwOk Γ sw) (geo : c + 7 ≤ g ∧ c + 7 ≤ g2 ∧ (g + 12 ≤ g2 ∨ g2 + 12 ≤ g) ∧ g + 12 ≤ o ∧ g + 12 ≤ o2 ∧ g2 + 12 ≤ o ∧ g2 + 12 ≤ o2 ∧ (o + 7 ≤ o2 ∨ o2 + 7 ≤ o)) (hA : ta_sz A ≤ 2000) (ho : h o = some (.inr (3, [.ref (o + 1), .ref (o + 3)]))) (ho2 : h o2 = some (.inr (3, [.ref (o2 + 1), .ref (o2 + 3)]))) (hT : T.2 ≤ 20) (hU : U.2 ≤ 20) (hW : WFG σ) (hV : WFG τ) : CallR Γ M_Tape_append 0 [.ref (c + 1), .int x1] (cw_ Γ sg h c g g2 o o2 A K σ τ T F U G P) z none (cw_ Γ sg h c g g2 o o2 (s_Tape_append A x1) K σ τ T F U G P) := by
  unfold cw_
  exact CallR.conv ((((((((blk_in (blk_in (blk_in (blk_in (blk_in (blk_in (blk_in (blk_comm (by omega))))))))).trans (blk_in (blk_in (blk_in (blk_in (blk_in (blk_in (blk_comm (by omega))))))))).trans (blk_in (blk_in (blk_in (blk_in (blk_in (blk_comm (by omega)))))))).trans (blk_in (blk_in (blk_in (blk_in (blk_comm (by omega))))))).trans (blk_in (blk_in (blk_in (blk_comm (by omega)))))).trans (blk_in (blk_in (blk_comm (by omega))))).trans (blk_in (blk_comm (by omega)))).trans (blk_comm (by omega))) ((((((((blk_comm (by omega)).trans (blk_in (blk_comm (by omega)))).trans (blk_in (blk_in (blk_comm (by omega))))).trans (blk_in (blk_in (blk_in (blk_comm (by omega)))))).trans (blk_in (blk_in (blk_in (blk_in (blk_comm (by omega))))))).trans (blk_in (blk_in (blk_in (blk_in (blk_in (blk_comm (by omega)))))))).trans (blk_in (blk_in (blk_in (blk_in (blk_in (blk_in (blk_comm (by omega))))))))).trans (blk_in (blk_in (blk_in (blk_in (blk_in (blk_in (blk_in (blk_comm (by omega)))))))))) (c_Tape_append hA)
theorem d_Camp_feed_0 : decode M_Camp_feed.2.1 0 = .ok (.aload_n 0, 1) := by decide +kernel
theorem d_Camp_feed_1 : decode M_Camp_feed.2.1 1 = .ok (.getfield 10, 3) := by decide +kernel
theorem d_Camp_feed_4 : decode M_Camp_feed.2.1 4 = .ok (.invokevirtual 47, 3) := by decide +kernel
theorem d_Camp_feed_7 : decode M_Camp_feed.2.1 7 = .ok (.sipush 1980, 3) := by decide +kernel
theorem d_Camp_feed_10 : decode M_Camp_feed.2.1 10 = .ok (.if_icmp .le 13, 3) := by decide +kernel
theorem d_Camp_feed_13 : decode M_Camp_feed.2.1 13 = .ok (.new 51, 3) := by decide +kernel
theorem d_Camp_feed_16 : decode M_Camp_feed.2.1 16 = .ok (.dup, 1) := by decide +kernel
theorem d_Camp_feed_17 : decode M_Camp_feed.2.1 17 = .ok (.ldc 53, 2) := by decide +kernel
theorem d_Camp_feed_19 : decode M_Camp_feed.2.1 19 = .ok (.invokespecial 55, 3) := by decide +kernel
theorem d_Camp_feed_22 : decode M_Camp_feed.2.1 22 = .ok (.athrow, 1) := by decide +kernel
theorem d_Camp_feed_23 : decode M_Camp_feed.2.1 23 = .ok (.aload_n 0, 1) := by decide +kernel
theorem d_Camp_feed_24 : decode M_Camp_feed.2.1 24 = .ok (.getfield 10, 3) := by decide +kernel
theorem d_Camp_feed_27 : decode M_Camp_feed.2.1 27 = .ok (.iload_n 1, 1) := by decide +kernel
theorem d_Camp_feed_28 : decode M_Camp_feed.2.1 28 = .ok (.invokevirtual 58, 3) := by decide +kernel
theorem d_Camp_feed_31 : decode M_Camp_feed.2.1 31 = .ok (.aload_n 0, 1) := by decide +kernel
theorem d_Camp_feed_32 : decode M_Camp_feed.2.1 32 = .ok (.getfield 10, 3) := by decide +kernel
theorem d_Camp_feed_35 : decode M_Camp_feed.2.1 35 = .ok (.iload_n 2, 1) := by decide +kernel
theorem d_Camp_feed_36 : decode M_Camp_feed.2.1 36 = .ok (.invokevirtual 58, 3) := by decide +kernel
theorem d_Camp_feed_39 : decode M_Camp_feed.2.1 39 = .ok (.aload_n 0, 1) := by decide +kernel
theorem d_Camp_feed_40 : decode M_Camp_feed.2.1 40 = .ok (.getfield 10, 3) := by decide +kernel
theorem d_Camp_feed_43 : decode M_Camp_feed.2.1 43 = .ok (.iload_n 3, 1) := by decide +kernel
theorem d_Camp_feed_44 : decode M_Camp_feed.2.1 44 = .ok (.invokevirtual 58, 3) := by decide +kernel
theorem d_Camp_feed_47 : decode M_Camp_feed.2.1 47 = .ok (.aload_n 0, 1) := by decide +kernel
theorem d_Camp_feed_48 : decode M_Camp_feed.2.1 48 = .ok (.getfield 10, 3) := by decide +kernel
theorem d_Camp_feed_51 : decode M_Camp_feed.2.1 51 = .ok (.iload 4, 2) := by decide +kernel
theorem d_Camp_feed_53 : decode M_Camp_feed.2.1 53 = .ok (.invokevirtual 58, 3) := by decide +kernel
theorem d_Camp_feed_56 : decode M_Camp_feed.2.1 56 = .ok (.aload_n 0, 1) := by decide +kernel
theorem d_Camp_feed_57 : decode M_Camp_feed.2.1 57 = .ok (.getfield 10, 3) := by decide +kernel
theorem d_Camp_feed_60 : decode M_Camp_feed.2.1 60 = .ok (.iload 5, 2) := by decide +kernel
theorem d_Camp_feed_62 : decode M_Camp_feed.2.1 62 = .ok (.invokevirtual 58, 3) := by decide +kernel
theorem d_Camp_feed_65 : decode M_Camp_feed.2.1 65 = .ok (.aload_n 0, 1) := by decide +kernel
theorem d_Camp_feed_66 : decode M_Camp_feed.2.1 66 = .ok (.getfield 10, 3) := by decide +kernel
theorem d_Camp_feed_69 : decode M_Camp_feed.2.1 69 = .ok (.invokevirtual 47, 3) := by decide +kernel
theorem d_Camp_feed_72 : decode M_Camp_feed.2.1 72 = .ok (.ireturn, 1) := by decide +kernel
def s_Camp_feed (A : TA) (K : TK) (σ : GL) (τ : GL) (T : TM) (F : FM) (U : TM) (G : FM) (P : CP) (x1 : Int32) (x2 : Int32) (x3 : Int32) (x4 : Int32) (x5 : Int32) : Int32 × Nat × TA := (if (nI (ta_sz A)) ≤ 1980 then (0, (ta_sz (s_Tape_append (s_Tape_append (s_Tape_append (s_Tape_append (s_Tape_append A x1) x2) x3) x4) x5)), (s_Tape_append (s_Tape_append (s_Tape_append (s_Tape_append (s_Tape_append A x1) x2) x3) x4) x5)) else (3, 0, A))
set_option maxRecDepth 100000 in
set_option maxHeartbeats 800000 in
theorem c_Camp_feed {Γ : G9} {sg : Nat → Nat} {sw : Nat} {ms : Nat → Nat} {h : AH} {c g g2 o o2 z : Nat} {A : TA} {K : TK} {σ : GL} {τ : GL} {T : TM} {F : FM} {U : TM} {G : FM} {P : CP} {x1 : Int32} {x2 : Int32} {x3 : Int32} {x4 : Int32} {x5 : Int32} (hs : SgOk Γ sg) (hsn : SgNe sg) (hw : SwOk Γ sw) (geo : c + 7 ≤ g ∧ c + 7 ≤ g2 ∧ (g + 12 ≤ g2 ∨ g2 + 12 ≤ g) ∧ g + 12 ≤ o ∧ g + 12 ≤ o2 ∧ g2 + 12 ≤ o ∧ g2 + 12 ≤ o2 ∧ (o + 7 ≤ o2 ∨ o2 + 7 ≤ o)) (hA : ta_sz A ≤ 2000) (ho : h o = some (.inr (3, [.ref (o + 1), .ref (o + 3)]))) (ho2 : h o2 = some (.inr (3, [.ref (o2 + 1), .ref (o2 + 3)]))) (hT : T.2 ≤ 20) (hU : U.2 ≤ 20) (hW : WFG σ) (hV : WFG τ) (hms : MsOk Γ ms) (hth : ThOk Γ) : CallT Γ M_Camp_feed 6 4 24 [.ref c, .int x1, .int x2, .int x3, .int x4, .int x5] (cw_ Γ sg h c g g2 o o2 A K σ τ T F U G P) z (s_Camp_feed A K σ τ T F U G P x1 x2 x3 x4 x5).1 (some (.int (nI (s_Camp_feed A K σ τ T F U G P x1 x2 x3 x4 x5).2.1))) (cw_ Γ sg h c g g2 o o2 (s_Camp_feed A K σ τ T F U G P x1 x2 x3 x4 x5).2.2 K σ τ T F U G P) := by
  refine Call.of_go (L := [some (.ref c), some (.int x1), some (.int x2), some (.int x3), some (.int x4), some (.int x5)]) (by decide +kernel) rfl (by exact Nat.le_of_ble_eq_true rfl) ?_
  unfold s_Camp_feed
  refine Go.aload_0 d_Camp_feed_0 rfl ?_
  refine Go.getfield d_Camp_feed_1 rfl f_Camp_10 (cw_at_c hs hsn hw (by omega) hA ho ho2 hT hU hW hV) (by rfl) ?_
  refine Go.cv0r d_Camp_feed_4 rfl l_Camp_47 k_Tape_size_v (cw_at_c_1 hs hsn hw (by omega) hA ho ho2 hT hU hW hV) rfl (cw_c_Tape_size_c_1 hs hsn hw (by omega) hA ho ho2 hT hU hW hV) rfl rfl rfl ?_
  refine Go.sipush (v := 1980) d_Camp_feed_7 rfl (by decide) ?_
  refine Go.icmp_le (t := 23) d_Camp_feed_10 (by decide) rfl (fun c10_1 => ?_) (fun c10_1 => ?_)
  · refine Go.aload_0 d_Camp_feed_23 rfl ?_
    refine Go.getfield d_Camp_feed_24 rfl f_Camp_10 (cw_at_c hs hsn hw (by omega) hA ho ho2 hT hU hW hV) (by rfl) ?_
    refine Go.iload_1 d_Camp_feed_27 rfl ?_
    refine Go.cv1v d_Camp_feed_28 rfl l_Camp_58 k_Tape_append_v (cw_at_c_1 hs hsn hw (by omega) hA ho ho2 hT hU hW hV) rfl (cw_c_Tape_append_c_1 hs hsn hw (by omega) hA ho ho2 hT hU hW hV) rfl rfl rfl ?_
    refine Go.aload_0 d_Camp_feed_31 rfl ?_
    refine Go.getfield d_Camp_feed_32 rfl f_Camp_10 (cw_at_c hs hsn hw (by omega) (append_le hA) ho ho2 hT hU hW hV) (by rfl) ?_
    refine Go.iload_2 d_Camp_feed_35 rfl ?_
    refine Go.cv1v d_Camp_feed_36 rfl l_Camp_58 k_Tape_append_v (cw_at_c_1 hs hsn hw (by omega) (append_le hA) ho ho2 hT hU hW hV) rfl (cw_c_Tape_append_c_1 hs hsn hw (by omega) (append_le hA) ho ho2 hT hU hW hV) rfl rfl rfl ?_
    refine Go.aload_0 d_Camp_feed_39 rfl ?_
    refine Go.getfield d_Camp_feed_40 rfl f_Camp_10 (cw_at_c hs hsn hw (by omega) (append_le (append_le hA)) ho ho2 hT hU hW hV) (by rfl) ?_
    refine Go.iload_3 d_Camp_feed_43 rfl ?_
    refine Go.cv1v d_Camp_feed_44 rfl l_Camp_58 k_Tape_append_v (cw_at_c_1 hs hsn hw (by omega) (append_le (append_le hA)) ho ho2 hT hU hW hV) rfl (cw_c_Tape_append_c_1 hs hsn hw (by omega) (append_le (append_le hA)) ho ho2 hT hU hW hV) rfl rfl rfl ?_
    refine Go.aload_0 d_Camp_feed_47 rfl ?_
    refine Go.getfield d_Camp_feed_48 rfl f_Camp_10 (cw_at_c hs hsn hw (by omega) (append_le (append_le (append_le hA))) ho ho2 hT hU hW hV) (by rfl) ?_
    refine Go.iload_4 d_Camp_feed_51 rfl ?_
    refine Go.cv1v d_Camp_feed_53 rfl l_Camp_58 k_Tape_append_v (cw_at_c_1 hs hsn hw (by omega) (append_le (append_le (append_le hA))) ho ho2 hT hU hW hV) rfl (cw_c_Tape_append_c_1 hs hsn hw (by omega) (append_le (append_le (append_le hA))) ho ho2 hT hU hW hV) rfl rfl rfl ?_
    refine Go.aload_0 d_Camp_feed_56 rfl ?_
    refine Go.getfield d_Camp_feed_57 rfl f_Camp_10 (cw_at_c hs hsn hw (by omega) (append_le (append_le (append_le (append_le hA)))) ho ho2 hT hU hW hV) (by rfl) ?_
    refine Go.iload_5 d_Camp_feed_60 rfl ?_
    refine Go.cv1v d_Camp_feed_62 rfl l_Camp_58 k_Tape_append_v (cw_at_c_1 hs hsn hw (by omega) (append_le (append_le (append_le (append_le hA)))) ho ho2 hT hU hW hV) rfl (cw_c_Tape_append_c_1 hs hsn hw (by omega) (append_le (append_le (append_le (append_le hA)))) ho ho2 hT hU hW hV) rfl rfl rfl ?_
    refine Go.aload_0 d_Camp_feed_65 rfl ?_
    refine Go.getfield d_Camp_feed_66 rfl f_Camp_10 (cw_at_c hs hsn hw (by omega) (append_le (append_le (append_le (append_le (append_le hA))))) ho ho2 hT hU hW hV) (by rfl) ?_
    refine Go.cv0r d_Camp_feed_69 rfl l_Camp_47 k_Tape_size_v (cw_at_c_1 hs hsn hw (by omega) (append_le (append_le (append_le (append_le (append_le hA))))) ho ho2 hT hU hW hV) rfl (cw_c_Tape_size_c_1 hs hsn hw (by omega) (append_le (append_le (append_le (append_le (append_le hA))))) ho ho2 hT hU hW hV) rfl rfl rfl ?_
    rw [if_pos c10_1]
    exact Go.iret d_Camp_feed_72 rfl rfl ⟨rfl, rfl, by dsimp only, rfl⟩
  · rw [if_neg c10_1]
    exact Go.throwS (names := xnm) (cls := xIS) d_Camp_feed_13 d_Camp_feed_16 d_Camp_feed_17 d_Camp_feed_19 d_Camp_feed_22 x_Camp_k51 x_ini_IllegalStateException xw_xIS (by decide +kernel) (by decide +kernel) (hms 53 "the tape would be too long" (by decide)) hth rfl rfl (by decide) rfl rfl rfl (fun z2 hz => ⟨show ¬ (3 : Int32) = 0 by decide, rfl, by dsimp only, hz⟩)
theorem cw_c_Glacier_day_g {Γ : G9} {sg : Nat → Nat} {sw : Nat} {h : AH} {c g g2 o o2 z : Nat} {A : TA} {K : TK} {σ : GL} {τ : GL} {T : TM} {F : FM} {U : TM} {G : FM} {P : CP} (hs : SgOk Γ sg) (hsn : SgNe sg) (hw : SwOk Γ sw) (geo : c + 7 ≤ g ∧ c + 7 ≤ g2 ∧ (g + 12 ≤ g2 ∨ g2 + 12 ≤ g) ∧ g + 12 ≤ o ∧ g + 12 ≤ o2 ∧ g2 + 12 ≤ o ∧ g2 + 12 ≤ o2 ∧ (o + 7 ≤ o2 ∨ o2 + 7 ≤ o)) (hA : ta_sz A ≤ 2000) (ho : h o = some (.inr (3, [.ref (o + 1), .ref (o + 3)]))) (ho2 : h o2 = some (.inr (3, [.ref (o2 + 1), .ref (o2 + 3)]))) (hT : T.2 ≤ 20) (hU : U.2 ≤ 20) (hW : WFG σ) (hV : WFG τ) : CallR Γ M_Glacier_day 0 [.ref g] (cw_ Γ sg h c g g2 o o2 A K σ τ T F U G P) z (some (.int (s_Glacier_day σ))) (cw_ Γ sg h c g g2 o o2 A K σ τ T F U G P) := by
  unfold cw_
  exact CallR.conv ((((((blk_in (blk_in (blk_in (blk_in (blk_in (blk_comm (by omega))))))).trans (blk_in (blk_in (blk_in (blk_in (blk_comm (by omega))))))).trans (blk_in (blk_in (blk_in (blk_comm (by omega)))))).trans (blk_in (blk_in (blk_comm (by omega))))).trans (blk_in (blk_comm (by omega)))).trans (blk_comm (by omega))) ((((((blk_comm (by omega)).trans (blk_in (blk_comm (by omega)))).trans (blk_in (blk_in (blk_comm (by omega))))).trans (blk_in (blk_in (blk_in (blk_comm (by omega)))))).trans (blk_in (blk_in (blk_in (blk_in (blk_comm (by omega))))))).trans (blk_in (blk_in (blk_in (blk_in (blk_in (blk_comm (by omega)))))))) (c_Glacier_day)
theorem cw_at_g {Γ : G9} {sg : Nat → Nat} {sw : Nat} {h : AH} {c g g2 o o2 : Nat} {A : TA} {K : TK} {σ : GL} {τ : GL} {T : TM} {F : FM} {U : TM} {G : FM} {P : CP} (hs : SgOk Γ sg) (hsn : SgNe sg) (hw : SwOk Γ sw) (geo : c + 7 ≤ g ∧ c + 7 ≤ g2 ∧ (g + 12 ≤ g2 ∨ g2 + 12 ≤ g) ∧ g + 12 ≤ o ∧ g + 12 ≤ o2 ∧ g2 + 12 ≤ o ∧ g2 + 12 ≤ o2 ∧ (o + 7 ≤ o2 ∨ o2 + 7 ≤ o)) (hA : ta_sz A ≤ 2000) (ho : h o = some (.inr (3, [.ref (o + 1), .ref (o + 3)]))) (ho2 : h o2 = some (.inr (3, [.ref (o2 + 1), .ref (o2 + 3)]))) (hT : T.2 ≤ 20) (hU : U.2 ≤ 20) (hW : WFG σ) (hV : WFG τ) : (cw_ Γ sg h c g g2 o o2 A K σ τ T F U G P) g = some (.inr (1, glF g σ)) := by
  unfold cw_
  exact ((blk_out (by omega)).trans ((blk_out (by omega)).trans ((blk_out (by omega)).trans ((blk_out (by omega)).trans ((blk_out (by omega)).trans ((blk_out (by omega)).trans (gl_obj)))))))
theorem cw_tab_rows_g_1 {Γ : G9} {sg : Nat → Nat} {sw : Nat} {h : AH} {c g g2 o o2 z : Nat} {A : TA} {K : TK} {σ : GL} {τ : GL} {T : TM} {F : FM} {U : TM} {G : FM} {P : CP} (hs : SgOk Γ sg) (hsn : SgNe sg) (hw : SwOk Γ sw) (geo : c + 7 ≤ g ∧ c + 7 ≤ g2 ∧ (g + 12 ≤ g2 ∨ g2 + 12 ≤ g) ∧ g + 12 ≤ o ∧ g + 12 ≤ o2 ∧ g2 + 12 ≤ o ∧ g2 + 12 ≤ o2 ∧ (o + 7 ≤ o2 ∨ o2 + 7 ≤ o)) (hA : ta_sz A ≤ 2000) (ho : h o = some (.inr (3, [.ref (o + 1), .ref (o + 3)]))) (ho2 : h o2 = some (.inr (3, [.ref (o2 + 1), .ref (o2 + 3)]))) (hT : T.2 ≤ 20) (hU : U.2 ≤ 20) (hW : WFG σ) (hV : WFG τ) : CallR Γ M_Table_rows 0 [.ref (g + 1)] (cw_ Γ sg h c g g2 o o2 A K σ τ T F U G P) z (some (.int (nI (gN σ 0)))) (cw_ Γ sg h c g g2 o o2 A K σ τ T F U G P) := by
  unfold cw_
  exact CallR.conv ((((((blk_in (blk_in (blk_in (blk_in (blk_in (blk_comm (by omega))))))).trans (blk_in (blk_in (blk_in (blk_in (blk_comm (by omega))))))).trans (blk_in (blk_in (blk_in (blk_comm (by omega)))))).trans (blk_in (blk_in (blk_comm (by omega))))).trans (blk_in (blk_comm (by omega)))).trans (blk_comm (by omega))) ((((((blk_comm (by omega)).trans (blk_in (blk_comm (by omega)))).trans (blk_in (blk_in (blk_comm (by omega))))).trans (blk_in (blk_in (blk_in (blk_comm (by omega)))))).trans (blk_in (blk_in (blk_in (blk_in (blk_comm (by omega))))))).trans (blk_in (blk_in (blk_in (blk_in (blk_in (blk_comm (by omega)))))))) (cG_rows (k := 0) (by decide))
theorem cw_at_g_1 {Γ : G9} {sg : Nat → Nat} {sw : Nat} {h : AH} {c g g2 o o2 : Nat} {A : TA} {K : TK} {σ : GL} {τ : GL} {T : TM} {F : FM} {U : TM} {G : FM} {P : CP} (hs : SgOk Γ sg) (hsn : SgNe sg) (hw : SwOk Γ sw) (geo : c + 7 ≤ g ∧ c + 7 ≤ g2 ∧ (g + 12 ≤ g2 ∨ g2 + 12 ≤ g) ∧ g + 12 ≤ o ∧ g + 12 ≤ o2 ∧ g2 + 12 ≤ o ∧ g2 + 12 ≤ o2 ∧ (o + 7 ≤ o2 ∨ o2 + 7 ≤ o)) (hA : ta_sz A ≤ 2000) (ho : h o = some (.inr (3, [.ref (o + 1), .ref (o + 3)]))) (ho2 : h o2 = some (.inr (3, [.ref (o2 + 1), .ref (o2 + 3)]))) (hT : T.2 ≤ 20) (hU : U.2 ≤ 20) (hW : WFG σ) (hV : WFG τ) : (cw_ Γ sg h c g g2 o o2 A K σ τ T F U G P) (g + 1) = some (tabO (g + 1) (σ.1 0)) := by
  unfold cw_
  exact ((blk_out (by omega)).trans ((blk_out (by omega)).trans ((blk_out (by omega)).trans ((blk_out (by omega)).trans ((blk_out (by omega)).trans ((blk_out (by omega)).trans ((gl_tab (k := 0) (by decide)))))))))
theorem cw_tab_rows_g_3 {Γ : G9} {sg : Nat → Nat} {sw : Nat} {h : AH} {c g g2 o o2 z : Nat} {A : TA} {K : TK} {σ : GL} {τ : GL} {T : TM} {F : FM} {U : TM} {G : FM} {P : CP} (hs : SgOk Γ sg) (hsn : SgNe sg) (hw : SwOk Γ sw) (geo : c + 7 ≤ g ∧ c + 7 ≤ g2 ∧ (g + 12 ≤ g2 ∨ g2 + 12 ≤ g) ∧ g + 12 ≤ o ∧ g + 12 ≤ o2 ∧ g2 + 12 ≤ o ∧ g2 + 12 ≤ o2 ∧ (o + 7 ≤ o2 ∨ o2 + 7 ≤ o)) (hA : ta_sz A ≤ 2000) (ho : h o = some (.inr (3, [.ref (o + 1), .ref (o + 3)]))) (ho2 : h o2 = some (.inr (3, [.ref (o2 + 1), .ref (o2 + 3)]))) (hT : T.2 ≤ 20) (hU : U.2 ≤ 20) (hW : WFG σ) (hV : WFG τ) : CallR Γ M_Table_rows 0 [.ref (g + 3)] (cw_ Γ sg h c g g2 o o2 A K σ τ T F U G P) z (some (.int (nI (gN σ 1)))) (cw_ Γ sg h c g g2 o o2 A K σ τ T F U G P) := by
  unfold cw_
  exact CallR.conv ((((((blk_in (blk_in (blk_in (blk_in (blk_in (blk_comm (by omega))))))).trans (blk_in (blk_in (blk_in (blk_in (blk_comm (by omega))))))).trans (blk_in (blk_in (blk_in (blk_comm (by omega)))))).trans (blk_in (blk_in (blk_comm (by omega))))).trans (blk_in (blk_comm (by omega)))).trans (blk_comm (by omega))) ((((((blk_comm (by omega)).trans (blk_in (blk_comm (by omega)))).trans (blk_in (blk_in (blk_comm (by omega))))).trans (blk_in (blk_in (blk_in (blk_comm (by omega)))))).trans (blk_in (blk_in (blk_in (blk_in (blk_comm (by omega))))))).trans (blk_in (blk_in (blk_in (blk_in (blk_in (blk_comm (by omega)))))))) (cG_rows (k := 1) (by decide))
theorem cw_at_g_3 {Γ : G9} {sg : Nat → Nat} {sw : Nat} {h : AH} {c g g2 o o2 : Nat} {A : TA} {K : TK} {σ : GL} {τ : GL} {T : TM} {F : FM} {U : TM} {G : FM} {P : CP} (hs : SgOk Γ sg) (hsn : SgNe sg) (hw : SwOk Γ sw) (geo : c + 7 ≤ g ∧ c + 7 ≤ g2 ∧ (g + 12 ≤ g2 ∨ g2 + 12 ≤ g) ∧ g + 12 ≤ o ∧ g + 12 ≤ o2 ∧ g2 + 12 ≤ o ∧ g2 + 12 ≤ o2 ∧ (o + 7 ≤ o2 ∨ o2 + 7 ≤ o)) (hA : ta_sz A ≤ 2000) (ho : h o = some (.inr (3, [.ref (o + 1), .ref (o + 3)]))) (ho2 : h o2 = some (.inr (3, [.ref (o2 + 1), .ref (o2 + 3)]))) (hT : T.2 ≤ 20) (hU : U.2 ≤ 20) (hW : WFG σ) (hV : WFG τ) : (cw_ Γ sg h c g g2 o o2 A K σ τ T F U G P) (g + 3) = some (tabO (g + 3) (σ.1 1)) := by
  unfold cw_
  exact ((blk_out (by omega)).trans ((blk_out (by omega)).trans ((blk_out (by omega)).trans ((blk_out (by omega)).trans ((blk_out (by omega)).trans ((blk_out (by omega)).trans ((gl_tab (k := 1) (by decide)))))))))
theorem cw_tab_rows_g_5 {Γ : G9} {sg : Nat → Nat} {sw : Nat} {h : AH} {c g g2 o o2 z : Nat} {A : TA} {K : TK} {σ : GL} {τ : GL} {T : TM} {F : FM} {U : TM} {G : FM} {P : CP} (hs : SgOk Γ sg) (hsn : SgNe sg) (hw : SwOk Γ sw) (geo : c + 7 ≤ g ∧ c + 7 ≤ g2 ∧ (g + 12 ≤ g2 ∨ g2 + 12 ≤ g) ∧ g + 12 ≤ o ∧ g + 12 ≤ o2 ∧ g2 + 12 ≤ o ∧ g2 + 12 ≤ o2 ∧ (o + 7 ≤ o2 ∨ o2 + 7 ≤ o)) (hA : ta_sz A ≤ 2000) (ho : h o = some (.inr (3, [.ref (o + 1), .ref (o + 3)]))) (ho2 : h o2 = some (.inr (3, [.ref (o2 + 1), .ref (o2 + 3)]))) (hT : T.2 ≤ 20) (hU : U.2 ≤ 20) (hW : WFG σ) (hV : WFG τ) : CallR Γ M_Table_rows 0 [.ref (g + 5)] (cw_ Γ sg h c g g2 o o2 A K σ τ T F U G P) z (some (.int (nI (gN σ 2)))) (cw_ Γ sg h c g g2 o o2 A K σ τ T F U G P) := by
  unfold cw_
  exact CallR.conv ((((((blk_in (blk_in (blk_in (blk_in (blk_in (blk_comm (by omega))))))).trans (blk_in (blk_in (blk_in (blk_in (blk_comm (by omega))))))).trans (blk_in (blk_in (blk_in (blk_comm (by omega)))))).trans (blk_in (blk_in (blk_comm (by omega))))).trans (blk_in (blk_comm (by omega)))).trans (blk_comm (by omega))) ((((((blk_comm (by omega)).trans (blk_in (blk_comm (by omega)))).trans (blk_in (blk_in (blk_comm (by omega))))).trans (blk_in (blk_in (blk_in (blk_comm (by omega)))))).trans (blk_in (blk_in (blk_in (blk_in (blk_comm (by omega))))))).trans (blk_in (blk_in (blk_in (blk_in (blk_in (blk_comm (by omega)))))))) (cG_rows (k := 2) (by decide))
theorem cw_at_g_5 {Γ : G9} {sg : Nat → Nat} {sw : Nat} {h : AH} {c g g2 o o2 : Nat} {A : TA} {K : TK} {σ : GL} {τ : GL} {T : TM} {F : FM} {U : TM} {G : FM} {P : CP} (hs : SgOk Γ sg) (hsn : SgNe sg) (hw : SwOk Γ sw) (geo : c + 7 ≤ g ∧ c + 7 ≤ g2 ∧ (g + 12 ≤ g2 ∨ g2 + 12 ≤ g) ∧ g + 12 ≤ o ∧ g + 12 ≤ o2 ∧ g2 + 12 ≤ o ∧ g2 + 12 ≤ o2 ∧ (o + 7 ≤ o2 ∨ o2 + 7 ≤ o)) (hA : ta_sz A ≤ 2000) (ho : h o = some (.inr (3, [.ref (o + 1), .ref (o + 3)]))) (ho2 : h o2 = some (.inr (3, [.ref (o2 + 1), .ref (o2 + 3)]))) (hT : T.2 ≤ 20) (hU : U.2 ≤ 20) (hW : WFG σ) (hV : WFG τ) : (cw_ Γ sg h c g g2 o o2 A K σ τ T F U G P) (g + 5) = some (tabO (g + 5) (σ.1 2)) := by
  unfold cw_
  exact ((blk_out (by omega)).trans ((blk_out (by omega)).trans ((blk_out (by omega)).trans ((blk_out (by omega)).trans ((blk_out (by omega)).trans ((blk_out (by omega)).trans ((gl_tab (k := 2) (by decide)))))))))
theorem cw_tab_rows_g_7 {Γ : G9} {sg : Nat → Nat} {sw : Nat} {h : AH} {c g g2 o o2 z : Nat} {A : TA} {K : TK} {σ : GL} {τ : GL} {T : TM} {F : FM} {U : TM} {G : FM} {P : CP} (hs : SgOk Γ sg) (hsn : SgNe sg) (hw : SwOk Γ sw) (geo : c + 7 ≤ g ∧ c + 7 ≤ g2 ∧ (g + 12 ≤ g2 ∨ g2 + 12 ≤ g) ∧ g + 12 ≤ o ∧ g + 12 ≤ o2 ∧ g2 + 12 ≤ o ∧ g2 + 12 ≤ o2 ∧ (o + 7 ≤ o2 ∨ o2 + 7 ≤ o)) (hA : ta_sz A ≤ 2000) (ho : h o = some (.inr (3, [.ref (o + 1), .ref (o + 3)]))) (ho2 : h o2 = some (.inr (3, [.ref (o2 + 1), .ref (o2 + 3)]))) (hT : T.2 ≤ 20) (hU : U.2 ≤ 20) (hW : WFG σ) (hV : WFG τ) : CallR Γ M_Table_rows 0 [.ref (g + 7)] (cw_ Γ sg h c g g2 o o2 A K σ τ T F U G P) z (some (.int (nI (gN σ 3)))) (cw_ Γ sg h c g g2 o o2 A K σ τ T F U G P) := by
  unfold cw_
  exact CallR.conv ((((((blk_in (blk_in (blk_in (blk_in (blk_in (blk_comm (by omega))))))).trans (blk_in (blk_in (blk_in (blk_in (blk_comm (by omega))))))).trans (blk_in (blk_in (blk_in (blk_comm (by omega)))))).trans (blk_in (blk_in (blk_comm (by omega))))).trans (blk_in (blk_comm (by omega)))).trans (blk_comm (by omega))) ((((((blk_comm (by omega)).trans (blk_in (blk_comm (by omega)))).trans (blk_in (blk_in (blk_comm (by omega))))).trans (blk_in (blk_in (blk_in (blk_comm (by omega)))))).trans (blk_in (blk_in (blk_in (blk_in (blk_comm (by omega))))))).trans (blk_in (blk_in (blk_in (blk_in (blk_in (blk_comm (by omega)))))))) (cG_rows (k := 3) (by decide))
theorem cw_at_g_7 {Γ : G9} {sg : Nat → Nat} {sw : Nat} {h : AH} {c g g2 o o2 : Nat} {A : TA} {K : TK} {σ : GL} {τ : GL} {T : TM} {F : FM} {U : TM} {G : FM} {P : CP} (hs : SgOk Γ sg) (hsn : SgNe sg) (hw : SwOk Γ sw) (geo : c + 7 ≤ g ∧ c + 7 ≤ g2 ∧ (g + 12 ≤ g2 ∨ g2 + 12 ≤ g) ∧ g + 12 ≤ o ∧ g + 12 ≤ o2 ∧ g2 + 12 ≤ o ∧ g2 + 12 ≤ o2 ∧ (o + 7 ≤ o2 ∨ o2 + 7 ≤ o)) (hA : ta_sz A ≤ 2000) (ho : h o = some (.inr (3, [.ref (o + 1), .ref (o + 3)]))) (ho2 : h o2 = some (.inr (3, [.ref (o2 + 1), .ref (o2 + 3)]))) (hT : T.2 ≤ 20) (hU : U.2 ≤ 20) (hW : WFG σ) (hV : WFG τ) : (cw_ Γ sg h c g g2 o o2 A K σ τ T F U G P) (g + 7) = some (tabO (g + 7) (σ.1 3)) := by
  unfold cw_
  exact ((blk_out (by omega)).trans ((blk_out (by omega)).trans ((blk_out (by omega)).trans ((blk_out (by omega)).trans ((blk_out (by omega)).trans ((blk_out (by omega)).trans ((gl_tab (k := 3) (by decide)))))))))
theorem cw_tab_rows_g_9 {Γ : G9} {sg : Nat → Nat} {sw : Nat} {h : AH} {c g g2 o o2 z : Nat} {A : TA} {K : TK} {σ : GL} {τ : GL} {T : TM} {F : FM} {U : TM} {G : FM} {P : CP} (hs : SgOk Γ sg) (hsn : SgNe sg) (hw : SwOk Γ sw) (geo : c + 7 ≤ g ∧ c + 7 ≤ g2 ∧ (g + 12 ≤ g2 ∨ g2 + 12 ≤ g) ∧ g + 12 ≤ o ∧ g + 12 ≤ o2 ∧ g2 + 12 ≤ o ∧ g2 + 12 ≤ o2 ∧ (o + 7 ≤ o2 ∨ o2 + 7 ≤ o)) (hA : ta_sz A ≤ 2000) (ho : h o = some (.inr (3, [.ref (o + 1), .ref (o + 3)]))) (ho2 : h o2 = some (.inr (3, [.ref (o2 + 1), .ref (o2 + 3)]))) (hT : T.2 ≤ 20) (hU : U.2 ≤ 20) (hW : WFG σ) (hV : WFG τ) : CallR Γ M_Table_rows 0 [.ref (g + 9)] (cw_ Γ sg h c g g2 o o2 A K σ τ T F U G P) z (some (.int (nI (gN σ 4)))) (cw_ Γ sg h c g g2 o o2 A K σ τ T F U G P) := by
  unfold cw_
  exact CallR.conv ((((((blk_in (blk_in (blk_in (blk_in (blk_in (blk_comm (by omega))))))).trans (blk_in (blk_in (blk_in (blk_in (blk_comm (by omega))))))).trans (blk_in (blk_in (blk_in (blk_comm (by omega)))))).trans (blk_in (blk_in (blk_comm (by omega))))).trans (blk_in (blk_comm (by omega)))).trans (blk_comm (by omega))) ((((((blk_comm (by omega)).trans (blk_in (blk_comm (by omega)))).trans (blk_in (blk_in (blk_comm (by omega))))).trans (blk_in (blk_in (blk_in (blk_comm (by omega)))))).trans (blk_in (blk_in (blk_in (blk_in (blk_comm (by omega))))))).trans (blk_in (blk_in (blk_in (blk_in (blk_in (blk_comm (by omega)))))))) (cG_rows (k := 4) (by decide))
theorem cw_at_g_9 {Γ : G9} {sg : Nat → Nat} {sw : Nat} {h : AH} {c g g2 o o2 : Nat} {A : TA} {K : TK} {σ : GL} {τ : GL} {T : TM} {F : FM} {U : TM} {G : FM} {P : CP} (hs : SgOk Γ sg) (hsn : SgNe sg) (hw : SwOk Γ sw) (geo : c + 7 ≤ g ∧ c + 7 ≤ g2 ∧ (g + 12 ≤ g2 ∨ g2 + 12 ≤ g) ∧ g + 12 ≤ o ∧ g + 12 ≤ o2 ∧ g2 + 12 ≤ o ∧ g2 + 12 ≤ o2 ∧ (o + 7 ≤ o2 ∨ o2 + 7 ≤ o)) (hA : ta_sz A ≤ 2000) (ho : h o = some (.inr (3, [.ref (o + 1), .ref (o + 3)]))) (ho2 : h o2 = some (.inr (3, [.ref (o2 + 1), .ref (o2 + 3)]))) (hT : T.2 ≤ 20) (hU : U.2 ≤ 20) (hW : WFG σ) (hV : WFG τ) : (cw_ Γ sg h c g g2 o o2 A K σ τ T F U G P) (g + 9) = some (tabO (g + 9) (σ.1 4)) := by
  unfold cw_
  exact ((blk_out (by omega)).trans ((blk_out (by omega)).trans ((blk_out (by omega)).trans ((blk_out (by omega)).trans ((blk_out (by omega)).trans ((blk_out (by omega)).trans ((gl_tab (k := 4) (by decide)))))))))
theorem cw_c_Orders_size_o {Γ : G9} {sg : Nat → Nat} {sw : Nat} {h : AH} {c g g2 o o2 z : Nat} {A : TA} {K : TK} {σ : GL} {τ : GL} {T : TM} {F : FM} {U : TM} {G : FM} {P : CP} (hs : SgOk Γ sg) (hsn : SgNe sg) (hw : SwOk Γ sw) (geo : c + 7 ≤ g ∧ c + 7 ≤ g2 ∧ (g + 12 ≤ g2 ∨ g2 + 12 ≤ g) ∧ g + 12 ≤ o ∧ g + 12 ≤ o2 ∧ g2 + 12 ≤ o ∧ g2 + 12 ≤ o2 ∧ (o + 7 ≤ o2 ∨ o2 + 7 ≤ o)) (hA : ta_sz A ≤ 2000) (ho : h o = some (.inr (3, [.ref (o + 1), .ref (o + 3)]))) (ho2 : h o2 = some (.inr (3, [.ref (o2 + 1), .ref (o2 + 3)]))) (hT : T.2 ≤ 20) (hU : U.2 ≤ 20) (hW : WFG σ) (hV : WFG τ) : CallR Γ M_Orders_size 1 [.ref o] (cw_ Γ sg h c g g2 o o2 A K σ τ T F U G P) z (some (.int (s_Orders_size T F))) (cw_ Γ sg h c g g2 o o2 A K σ τ T F U G P) := by
  unfold cw_
  exact CallR.conv ((((((blk_in (blk_in (blk_comm (by omega)))).trans (blk_in (blk_comm (by omega)))).trans (blk_comm (by omega))).trans (blk_in (blk_in (blk_in (blk_comm (by omega)))))).trans (blk_in (blk_in (blk_comm (by omega))))).trans (blk_in (blk_comm (by omega)))) ((((((blk_in (blk_comm (by omega))).trans (blk_comm (by omega))).trans (blk_in (blk_in (blk_comm (by omega))))).trans (blk_in (blk_comm (by omega)))).trans (blk_in (blk_in (blk_in (blk_comm (by omega)))))).trans (blk_in (blk_in (blk_comm (by omega))))) (c_Orders_size (by exact ((blk_out (by omega)).trans ((blk_out (by omega)).trans ((blk_out (by omega)).trans ((blk_out (by omega)).trans ((blk_out (by omega)).trans ((blk_out (by omega)).trans ((blk_out (by omega)).trans ho)))))))) hT)
theorem cw_at_o {Γ : G9} {sg : Nat → Nat} {sw : Nat} {h : AH} {c g g2 o o2 : Nat} {A : TA} {K : TK} {σ : GL} {τ : GL} {T : TM} {F : FM} {U : TM} {G : FM} {P : CP} (hs : SgOk Γ sg) (hsn : SgNe sg) (hw : SwOk Γ sw) (geo : c + 7 ≤ g ∧ c + 7 ≤ g2 ∧ (g + 12 ≤ g2 ∨ g2 + 12 ≤ g) ∧ g + 12 ≤ o ∧ g + 12 ≤ o2 ∧ g2 + 12 ≤ o ∧ g2 + 12 ≤ o2 ∧ (o + 7 ≤ o2 ∨ o2 + 7 ≤ o)) (hA : ta_sz A ≤ 2000) (ho : h o = some (.inr (3, [.ref (o + 1), .ref (o + 3)]))) (ho2 : h o2 = some (.inr (3, [.ref (o2 + 1), .ref (o2 + 3)]))) (hT : T.2 ≤ 20) (hU : U.2 ≤ 20) (hW : WFG σ) (hV : WFG τ) : (cw_ Γ sg h c g g2 o o2 A K σ τ T F U G P) o = some (.inr (3, [.ref (o + 1), .ref (o + 3)])) := by
  unfold cw_
  exact ((blk_out (by omega)).trans ((blk_out (by omega)).trans ((blk_out (by omega)).trans ((blk_out (by omega)).trans ((blk_out (by omega)).trans ((blk_out (by omega)).trans ((blk_out (by omega)).trans ((blk_out (by omega)).trans ((blk_out (by omega)).trans ho)))))))))
theorem cw_c_Glacier_warmthToday_g {Γ : G9} {sg : Nat → Nat} {sw : Nat} {h : AH} {c g g2 o o2 z : Nat} {A : TA} {K : TK} {σ : GL} {τ : GL} {T : TM} {F : FM} {U : TM} {G : FM} {P : CP} (hs : SgOk Γ sg) (hsn : SgNe sg) (hw : SwOk Γ sw) (geo : c + 7 ≤ g ∧ c + 7 ≤ g2 ∧ (g + 12 ≤ g2 ∨ g2 + 12 ≤ g) ∧ g + 12 ≤ o ∧ g + 12 ≤ o2 ∧ g2 + 12 ≤ o ∧ g2 + 12 ≤ o2 ∧ (o + 7 ≤ o2 ∨ o2 + 7 ≤ o)) (hA : ta_sz A ≤ 2000) (ho : h o = some (.inr (3, [.ref (o + 1), .ref (o + 3)]))) (ho2 : h o2 = some (.inr (3, [.ref (o2 + 1), .ref (o2 + 3)]))) (hT : T.2 ≤ 20) (hU : U.2 ≤ 20) (hW : WFG σ) (hV : WFG τ) : CallR Γ M_Glacier_warmthToday 1 [.ref g] (cw_ Γ sg h c g g2 o o2 A K σ τ T F U G P) z (some (.int (s_Glacier_warmthToday σ))) (cw_ Γ sg h c g g2 o o2 A K σ τ T F U G P) := by
  unfold cw_
  exact CallR.conv ((((((blk_in (blk_in (blk_in (blk_in (blk_in (blk_comm (by omega))))))).trans (blk_in (blk_in (blk_in (blk_in (blk_comm (by omega))))))).trans (blk_in (blk_in (blk_in (blk_comm (by omega)))))).trans (blk_in (blk_in (blk_comm (by omega))))).trans (blk_in (blk_comm (by omega)))).trans (blk_comm (by omega))) ((((((blk_comm (by omega)).trans (blk_in (blk_comm (by omega)))).trans (blk_in (blk_in (blk_comm (by omega))))).trans (blk_in (blk_in (blk_in (blk_comm (by omega)))))).trans (blk_in (blk_in (blk_in (blk_in (blk_comm (by omega))))))).trans (blk_in (blk_in (blk_in (blk_in (blk_in (blk_comm (by omega)))))))) (c_Glacier_warmthToday)
theorem cw_c_Glacier_total_g {Γ : G9} {sg : Nat → Nat} {sw : Nat} {h : AH} {c g g2 o o2 z : Nat} {A : TA} {K : TK} {σ : GL} {τ : GL} {T : TM} {F : FM} {U : TM} {G : FM} {P : CP} {x1 : Int32} (hs : SgOk Γ sg) (hsn : SgNe sg) (hw : SwOk Γ sw) (geo : c + 7 ≤ g ∧ c + 7 ≤ g2 ∧ (g + 12 ≤ g2 ∨ g2 + 12 ≤ g) ∧ g + 12 ≤ o ∧ g + 12 ≤ o2 ∧ g2 + 12 ≤ o ∧ g2 + 12 ≤ o2 ∧ (o + 7 ≤ o2 ∨ o2 + 7 ≤ o)) (hA : ta_sz A ≤ 2000) (ho : h o = some (.inr (3, [.ref (o + 1), .ref (o + 3)]))) (ho2 : h o2 = some (.inr (3, [.ref (o2 + 1), .ref (o2 + 3)]))) (hT : T.2 ≤ 20) (hU : U.2 ≤ 20) (hW : WFG σ) (hV : WFG τ) : CallR Γ M_Glacier_total 2 [.ref g, .int x1] (cw_ Γ sg h c g g2 o o2 A K σ τ T F U G P) z (some (.int (s_Glacier_total σ x1))) (cw_ Γ sg h c g g2 o o2 A K σ τ T F U G P) := by
  unfold cw_
  exact CallR.conv ((((((blk_in (blk_in (blk_in (blk_in (blk_in (blk_comm (by omega))))))).trans (blk_in (blk_in (blk_in (blk_in (blk_comm (by omega))))))).trans (blk_in (blk_in (blk_in (blk_comm (by omega)))))).trans (blk_in (blk_in (blk_comm (by omega))))).trans (blk_in (blk_comm (by omega)))).trans (blk_comm (by omega))) ((((((blk_comm (by omega)).trans (blk_in (blk_comm (by omega)))).trans (blk_in (blk_in (blk_comm (by omega))))).trans (blk_in (blk_in (blk_in (blk_comm (by omega)))))).trans (blk_in (blk_in (blk_in (blk_in (blk_comm (by omega))))))).trans (blk_in (blk_in (blk_in (blk_in (blk_in (blk_comm (by omega)))))))) (c_Glacier_total hW)
theorem d_Camp_counted_0 : decode M_Camp_counted.2.1 0 = .ok (.iload_n 1, 1) := by decide +kernel
theorem d_Camp_counted_1 : decode M_Camp_counted.2.1 1 = .ok (.tableswitch 162 0 14 #[75, 83, 94, 105, 116, 127, 138, 162, 162, 162, 162, 162, 162, 146, 154], 75) := by decide +kernel
theorem d_Camp_counted_76 : decode M_Camp_counted.2.1 76 = .ok (.aload_n 0, 1) := by decide +kernel
theorem d_Camp_counted_77 : decode M_Camp_counted.2.1 77 = .ok (.getfield 26, 3) := by decide +kernel
theorem d_Camp_counted_80 : decode M_Camp_counted.2.1 80 = .ok (.invokevirtual 70, 3) := by decide +kernel
theorem d_Camp_counted_83 : decode M_Camp_counted.2.1 83 = .ok (.ireturn, 1) := by decide +kernel
theorem d_Camp_counted_84 : decode M_Camp_counted.2.1 84 = .ok (.aload_n 0, 1) := by decide +kernel
theorem d_Camp_counted_85 : decode M_Camp_counted.2.1 85 = .ok (.getfield 26, 3) := by decide +kernel
theorem d_Camp_counted_88 : decode M_Camp_counted.2.1 88 = .ok (.getfield 107, 3) := by decide +kernel
theorem d_Camp_counted_91 : decode M_Camp_counted.2.1 91 = .ok (.invokevirtual 111, 3) := by decide +kernel
theorem d_Camp_counted_94 : decode M_Camp_counted.2.1 94 = .ok (.ireturn, 1) := by decide +kernel
theorem d_Camp_counted_95 : decode M_Camp_counted.2.1 95 = .ok (.aload_n 0, 1) := by decide +kernel
theorem d_Camp_counted_96 : decode M_Camp_counted.2.1 96 = .ok (.getfield 26, 3) := by decide +kernel
theorem d_Camp_counted_99 : decode M_Camp_counted.2.1 99 = .ok (.getfield 116, 3) := by decide +kernel
theorem d_Camp_counted_102 : decode M_Camp_counted.2.1 102 = .ok (.invokevirtual 111, 3) := by decide +kernel
theorem d_Camp_counted_105 : decode M_Camp_counted.2.1 105 = .ok (.ireturn, 1) := by decide +kernel
theorem d_Camp_counted_106 : decode M_Camp_counted.2.1 106 = .ok (.aload_n 0, 1) := by decide +kernel
theorem d_Camp_counted_107 : decode M_Camp_counted.2.1 107 = .ok (.getfield 26, 3) := by decide +kernel
theorem d_Camp_counted_110 : decode M_Camp_counted.2.1 110 = .ok (.getfield 119, 3) := by decide +kernel
theorem d_Camp_counted_113 : decode M_Camp_counted.2.1 113 = .ok (.invokevirtual 111, 3) := by decide +kernel
theorem d_Camp_counted_116 : decode M_Camp_counted.2.1 116 = .ok (.ireturn, 1) := by decide +kernel
theorem d_Camp_counted_117 : decode M_Camp_counted.2.1 117 = .ok (.aload_n 0, 1) := by decide +kernel
theorem d_Camp_counted_118 : decode M_Camp_counted.2.1 118 = .ok (.getfield 26, 3) := by decide +kernel
theorem d_Camp_counted_121 : decode M_Camp_counted.2.1 121 = .ok (.getfield 122, 3) := by decide +kernel
theorem d_Camp_counted_124 : decode M_Camp_counted.2.1 124 = .ok (.invokevirtual 111, 3) := by decide +kernel
theorem d_Camp_counted_127 : decode M_Camp_counted.2.1 127 = .ok (.ireturn, 1) := by decide +kernel
theorem d_Camp_counted_128 : decode M_Camp_counted.2.1 128 = .ok (.aload_n 0, 1) := by decide +kernel
theorem d_Camp_counted_129 : decode M_Camp_counted.2.1 129 = .ok (.getfield 26, 3) := by decide +kernel
theorem d_Camp_counted_132 : decode M_Camp_counted.2.1 132 = .ok (.getfield 125, 3) := by decide +kernel
theorem d_Camp_counted_135 : decode M_Camp_counted.2.1 135 = .ok (.invokevirtual 111, 3) := by decide +kernel
theorem d_Camp_counted_138 : decode M_Camp_counted.2.1 138 = .ok (.ireturn, 1) := by decide +kernel
theorem d_Camp_counted_139 : decode M_Camp_counted.2.1 139 = .ok (.aload_n 0, 1) := by decide +kernel
theorem d_Camp_counted_140 : decode M_Camp_counted.2.1 140 = .ok (.getfield 36, 3) := by decide +kernel
theorem d_Camp_counted_143 : decode M_Camp_counted.2.1 143 = .ok (.invokevirtual 128, 3) := by decide +kernel
theorem d_Camp_counted_146 : decode M_Camp_counted.2.1 146 = .ok (.ireturn, 1) := by decide +kernel
theorem d_Camp_counted_147 : decode M_Camp_counted.2.1 147 = .ok (.aload_n 0, 1) := by decide +kernel
theorem d_Camp_counted_148 : decode M_Camp_counted.2.1 148 = .ok (.getfield 26, 3) := by decide +kernel
theorem d_Camp_counted_151 : decode M_Camp_counted.2.1 151 = .ok (.invokevirtual 129, 3) := by decide +kernel
theorem d_Camp_counted_154 : decode M_Camp_counted.2.1 154 = .ok (.ireturn, 1) := by decide +kernel
theorem d_Camp_counted_155 : decode M_Camp_counted.2.1 155 = .ok (.aload_n 0, 1) := by decide +kernel
theorem d_Camp_counted_156 : decode M_Camp_counted.2.1 156 = .ok (.getfield 10, 3) := by decide +kernel
theorem d_Camp_counted_159 : decode M_Camp_counted.2.1 159 = .ok (.invokevirtual 47, 3) := by decide +kernel
theorem d_Camp_counted_162 : decode M_Camp_counted.2.1 162 = .ok (.ireturn, 1) := by decide +kernel
theorem d_Camp_counted_163 : decode M_Camp_counted.2.1 163 = .ok (.aload_n 0, 1) := by decide +kernel
theorem d_Camp_counted_164 : decode M_Camp_counted.2.1 164 = .ok (.getfield 26, 3) := by decide +kernel
theorem d_Camp_counted_167 : decode M_Camp_counted.2.1 167 = .ok (.iload_n 1, 1) := by decide +kernel
theorem d_Camp_counted_168 : decode M_Camp_counted.2.1 168 = .ok (.invokevirtual 132, 3) := by decide +kernel
theorem d_Camp_counted_171 : decode M_Camp_counted.2.1 171 = .ok (.ireturn, 1) := by decide +kernel
def s_Camp_counted (A : TA) (K : TK) (σ : GL) (τ : GL) (T : TM) (F : FM) (U : TM) (G : FM) (P : CP) (x1 : Int32) : Int32 := (if x1 = 0 then (s_Glacier_day σ) else (if x1 = 1 then (nI (gN σ 0)) else (if x1 = 2 then (nI (gN σ 1)) else (if x1 = 3 then (nI (gN σ 2)) else (if x1 = 4 then (nI (gN σ 3)) else (if x1 = 5 then (nI (gN σ 4)) else (if x1 = 6 then (s_Orders_size T F) else (if x1 = 13 then (s_Glacier_warmthToday σ) else (if x1 = 14 then (nI (ta_sz A)) else (s_Glacier_total σ x1))))))))))
set_option maxRecDepth 100000 in
set_option maxHeartbeats 800000 in
theorem c_Camp_counted {Γ : G9} {sg : Nat → Nat} {sw : Nat} {h : AH} {c g g2 o o2 z : Nat} {A : TA} {K : TK} {σ : GL} {τ : GL} {T : TM} {F : FM} {U : TM} {G : FM} {P : CP} {x1 : Int32} (hs : SgOk Γ sg) (hsn : SgNe sg) (hw : SwOk Γ sw) (geo : c + 7 ≤ g ∧ c + 7 ≤ g2 ∧ (g + 12 ≤ g2 ∨ g2 + 12 ≤ g) ∧ g + 12 ≤ o ∧ g + 12 ≤ o2 ∧ g2 + 12 ≤ o ∧ g2 + 12 ≤ o2 ∧ (o + 7 ≤ o2 ∨ o2 + 7 ≤ o)) (hA : ta_sz A ≤ 2000) (ho : h o = some (.inr (3, [.ref (o + 1), .ref (o + 3)]))) (ho2 : h o2 = some (.inr (3, [.ref (o2 + 1), .ref (o2 + 3)]))) (hT : T.2 ≤ 20) (hU : U.2 ≤ 20) (hW : WFG σ) (hV : WFG τ) : CallR Γ M_Camp_counted 3 [.ref c, .int x1] (cw_ Γ sg h c g g2 o o2 A K σ τ T F U G P) z (some (.int (s_Camp_counted A K σ τ T F U G P x1))) (cw_ Γ sg h c g g2 o o2 A K σ τ T F U G P) := by
  refine Call.of_go (L := [some (.ref c), some (.int x1)]) (by decide +kernel) rfl (by exact Nat.le_of_ble_eq_true rfl) ?_
  unfold s_Camp_counted
  refine Go.iload_1 d_Camp_counted_0 rfl ?_
  by_cases w1_1 : x1 = 0
  · refine Go.tsw (t := 76) d_Camp_counted_1 (by rw [w1_1]; rfl) ?_
    refine Go.aload_0 d_Camp_counted_76 rfl ?_
    refine Go.getfield d_Camp_counted_77 rfl f_Camp_26 (cw_at_c hs hsn hw (by omega) hA ho ho2 hT hU hW hV) (by rfl) ?_
    refine Go.cv0r d_Camp_counted_80 rfl l_Camp_70 k_Glacier_day_v (cw_at_g hs hsn hw (by omega) hA ho ho2 hT hU hW hV) rfl (cw_c_Glacier_day_g hs hsn hw (by omega) hA ho ho2 hT hU hW hV) rfl rfl rfl ?_
    rw [if_pos w1_1]
    exact Go.iret d_Camp_counted_83 rfl rfl ⟨rfl, by dsimp only, rfl⟩
  by_cases w1_2 : x1 = 1
  · refine Go.tsw (t := 84) d_Camp_counted_1 (by rw [w1_2]; rfl) ?_
    refine Go.aload_0 d_Camp_counted_84 rfl ?_
    refine Go.getfield d_Camp_counted_85 rfl f_Camp_26 (cw_at_c hs hsn hw (by omega) hA ho ho2 hT hU hW hV) (by rfl) ?_
    refine Go.getfield d_Camp_counted_88 rfl f_Camp_107 (cw_at_g hs hsn hw (by omega) hA ho ho2 hT hU hW hV) (by rfl) ?_
    refine Go.cv0r d_Camp_counted_91 rfl l_Camp_111 k_Table_rows_v (cw_at_g_1 hs hsn hw (by omega) hA ho ho2 hT hU hW hV) rfl (cw_tab_rows_g_1 hs hsn hw (by omega) hA ho ho2 hT hU hW hV) rfl rfl rfl ?_
    rw [if_neg w1_1, if_pos w1_2]
    exact Go.iret d_Camp_counted_94 rfl rfl ⟨rfl, by dsimp only, rfl⟩
  by_cases w1_3 : x1 = 2
  · refine Go.tsw (t := 95) d_Camp_counted_1 (by rw [w1_3]; rfl) ?_
    refine Go.aload_0 d_Camp_counted_95 rfl ?_
    refine Go.getfield d_Camp_counted_96 rfl f_Camp_26 (cw_at_c hs hsn hw (by omega) hA ho ho2 hT hU hW hV) (by rfl) ?_
    refine Go.getfield d_Camp_counted_99 rfl f_Camp_116 (cw_at_g hs hsn hw (by omega) hA ho ho2 hT hU hW hV) (by rfl) ?_
    refine Go.cv0r d_Camp_counted_102 rfl l_Camp_111 k_Table_rows_v (cw_at_g_3 hs hsn hw (by omega) hA ho ho2 hT hU hW hV) rfl (cw_tab_rows_g_3 hs hsn hw (by omega) hA ho ho2 hT hU hW hV) rfl rfl rfl ?_
    rw [if_neg w1_1, if_neg w1_2, if_pos w1_3]
    exact Go.iret d_Camp_counted_105 rfl rfl ⟨rfl, by dsimp only, rfl⟩
  by_cases w1_4 : x1 = 3
  · refine Go.tsw (t := 106) d_Camp_counted_1 (by rw [w1_4]; rfl) ?_
    refine Go.aload_0 d_Camp_counted_106 rfl ?_
    refine Go.getfield d_Camp_counted_107 rfl f_Camp_26 (cw_at_c hs hsn hw (by omega) hA ho ho2 hT hU hW hV) (by rfl) ?_
    refine Go.getfield d_Camp_counted_110 rfl f_Camp_119 (cw_at_g hs hsn hw (by omega) hA ho ho2 hT hU hW hV) (by rfl) ?_
    refine Go.cv0r d_Camp_counted_113 rfl l_Camp_111 k_Table_rows_v (cw_at_g_5 hs hsn hw (by omega) hA ho ho2 hT hU hW hV) rfl (cw_tab_rows_g_5 hs hsn hw (by omega) hA ho ho2 hT hU hW hV) rfl rfl rfl ?_
    rw [if_neg w1_1, if_neg w1_2, if_neg w1_3, if_pos w1_4]
    exact Go.iret d_Camp_counted_116 rfl rfl ⟨rfl, by dsimp only, rfl⟩
  by_cases w1_5 : x1 = 4
  · refine Go.tsw (t := 117) d_Camp_counted_1 (by rw [w1_5]; rfl) ?_
    refine Go.aload_0 d_Camp_counted_117 rfl ?_
    refine Go.getfield d_Camp_counted_118 rfl f_Camp_26 (cw_at_c hs hsn hw (by omega) hA ho ho2 hT hU hW hV) (by rfl) ?_
    refine Go.getfield d_Camp_counted_121 rfl f_Camp_122 (cw_at_g hs hsn hw (by omega) hA ho ho2 hT hU hW hV) (by rfl) ?_
    refine Go.cv0r d_Camp_counted_124 rfl l_Camp_111 k_Table_rows_v (cw_at_g_7 hs hsn hw (by omega) hA ho ho2 hT hU hW hV) rfl (cw_tab_rows_g_7 hs hsn hw (by omega) hA ho ho2 hT hU hW hV) rfl rfl rfl ?_
    rw [if_neg w1_1, if_neg w1_2, if_neg w1_3, if_neg w1_4, if_pos w1_5]
    exact Go.iret d_Camp_counted_127 rfl rfl ⟨rfl, by dsimp only, rfl⟩
  by_cases w1_6 : x1 = 5
  · refine Go.tsw (t := 128) d_Camp_counted_1 (by rw [w1_6]; rfl) ?_
    refine Go.aload_0 d_Camp_counted_128 rfl ?_
    refine Go.getfield d_Camp_counted_129 rfl f_Camp_26 (cw_at_c hs hsn hw (by omega) hA ho ho2 hT hU hW hV) (by rfl) ?_
    refine Go.getfield d_Camp_counted_132 rfl f_Camp_125 (cw_at_g hs hsn hw (by omega) hA ho ho2 hT hU hW hV) (by rfl) ?_
    refine Go.cv0r d_Camp_counted_135 rfl l_Camp_111 k_Table_rows_v (cw_at_g_9 hs hsn hw (by omega) hA ho ho2 hT hU hW hV) rfl (cw_tab_rows_g_9 hs hsn hw (by omega) hA ho ho2 hT hU hW hV) rfl rfl rfl ?_
    rw [if_neg w1_1, if_neg w1_2, if_neg w1_3, if_neg w1_4, if_neg w1_5, if_pos w1_6]
    exact Go.iret d_Camp_counted_138 rfl rfl ⟨rfl, by dsimp only, rfl⟩
  by_cases w1_7 : x1 = 6
  · refine Go.tsw (t := 139) d_Camp_counted_1 (by rw [w1_7]; rfl) ?_
    refine Go.aload_0 d_Camp_counted_139 rfl ?_
    refine Go.getfield d_Camp_counted_140 rfl f_Camp_36 (cw_at_c hs hsn hw (by omega) hA ho ho2 hT hU hW hV) (by rfl) ?_
    refine Go.cv0r d_Camp_counted_143 rfl l_Camp_128 k_Orders_size_v (cw_at_o hs hsn hw (by omega) hA ho ho2 hT hU hW hV) rfl (cw_c_Orders_size_o hs hsn hw (by omega) hA ho ho2 hT hU hW hV) rfl rfl rfl ?_
    rw [if_neg w1_1, if_neg w1_2, if_neg w1_3, if_neg w1_4, if_neg w1_5, if_neg w1_6, if_pos w1_7]
    exact Go.iret d_Camp_counted_146 rfl rfl ⟨rfl, by dsimp only, rfl⟩
  by_cases w1_8 : x1 = 13
  · refine Go.tsw (t := 147) d_Camp_counted_1 (by rw [w1_8]; rfl) ?_
    refine Go.aload_0 d_Camp_counted_147 rfl ?_
    refine Go.getfield d_Camp_counted_148 rfl f_Camp_26 (cw_at_c hs hsn hw (by omega) hA ho ho2 hT hU hW hV) (by rfl) ?_
    refine Go.cv0r d_Camp_counted_151 rfl l_Camp_129 k_Glacier_warmthToday_v (cw_at_g hs hsn hw (by omega) hA ho ho2 hT hU hW hV) rfl (cw_c_Glacier_warmthToday_g hs hsn hw (by omega) hA ho ho2 hT hU hW hV) rfl rfl rfl ?_
    rw [if_neg w1_1, if_neg w1_2, if_neg w1_3, if_neg w1_4, if_neg w1_5, if_neg w1_6, if_neg w1_7, if_pos w1_8]
    exact Go.iret d_Camp_counted_154 rfl rfl ⟨rfl, by dsimp only, rfl⟩
  by_cases w1_9 : x1 = 14
  · refine Go.tsw (t := 155) d_Camp_counted_1 (by rw [w1_9]; rfl) ?_
    refine Go.aload_0 d_Camp_counted_155 rfl ?_
    refine Go.getfield d_Camp_counted_156 rfl f_Camp_10 (cw_at_c hs hsn hw (by omega) hA ho ho2 hT hU hW hV) (by rfl) ?_
    refine Go.cv0r d_Camp_counted_159 rfl l_Camp_47 k_Tape_size_v (cw_at_c_1 hs hsn hw (by omega) hA ho ho2 hT hU hW hV) rfl (cw_c_Tape_size_c_1 hs hsn hw (by omega) hA ho ho2 hT hU hW hV) rfl rfl rfl ?_
    rw [if_neg w1_1, if_neg w1_2, if_neg w1_3, if_neg w1_4, if_neg w1_5, if_neg w1_6, if_neg w1_7, if_neg w1_8, if_pos w1_9]
    exact Go.iret d_Camp_counted_162 rfl rfl ⟨rfl, by dsimp only, rfl⟩
  refine Go.tsw (t := 163) d_Camp_counted_1 (tsw_d fun n hn => by
      match n, hn with
      | 0, _ => exact Or.inr fun w => w1_1 (i32_eq w)
      | 1, _ => exact Or.inr fun w => w1_2 (i32_eq w)
      | 2, _ => exact Or.inr fun w => w1_3 (i32_eq w)
      | 3, _ => exact Or.inr fun w => w1_4 (i32_eq w)
      | 4, _ => exact Or.inr fun w => w1_5 (i32_eq w)
      | 5, _ => exact Or.inr fun w => w1_6 (i32_eq w)
      | 6, _ => exact Or.inr fun w => w1_7 (i32_eq w)
      | 7, _ => exact Or.inl rfl
      | 8, _ => exact Or.inl rfl
      | 9, _ => exact Or.inl rfl
      | 10, _ => exact Or.inl rfl
      | 11, _ => exact Or.inl rfl
      | 12, _ => exact Or.inl rfl
      | 13, _ => exact Or.inr fun w => w1_8 (i32_eq w)
      | 14, _ => exact Or.inr fun w => w1_9 (i32_eq w)
      | _ + 15, w => exact absurd w (by simp)) ?_
  refine Go.aload_0 d_Camp_counted_163 rfl ?_
  refine Go.getfield d_Camp_counted_164 rfl f_Camp_26 (cw_at_c hs hsn hw (by omega) hA ho ho2 hT hU hW hV) (by rfl) ?_
  refine Go.iload_1 d_Camp_counted_167 rfl ?_
  refine Go.cv1r d_Camp_counted_168 rfl l_Camp_132 k_Glacier_total_v (cw_at_g hs hsn hw (by omega) hA ho ho2 hT hU hW hV) rfl (cw_c_Glacier_total_g hs hsn hw (by omega) hA ho ho2 hT hU hW hV) rfl rfl rfl ?_
  rw [if_neg w1_1, if_neg w1_2, if_neg w1_3, if_neg w1_4, if_neg w1_5, if_neg w1_6, if_neg w1_7, if_neg w1_8, if_neg w1_9]
  exact Go.iret d_Camp_counted_171 rfl rfl ⟨rfl, by dsimp only, rfl⟩
theorem d_Camp_count_0 : decode M_Camp_count.2.1 0 = .ok (.iload_n 1, 1) := by decide +kernel
theorem d_Camp_count_1 : decode M_Camp_count.2.1 1 = .ok (.bipush 15, 2) := by decide +kernel
theorem d_Camp_count_3 : decode M_Camp_count.2.1 3 = .ok (.invokestatic 99, 3) := by decide +kernel
theorem d_Camp_count_6 : decode M_Camp_count.2.1 6 = .ok (.aload_n 0, 1) := by decide +kernel
theorem d_Camp_count_7 : decode M_Camp_count.2.1 7 = .ok (.iload_n 1, 1) := by decide +kernel
theorem d_Camp_count_8 : decode M_Camp_count.2.1 8 = .ok (.invokevirtual 103, 3) := by decide +kernel
theorem d_Camp_count_11 : decode M_Camp_count.2.1 11 = .ok (.ireturn, 1) := by decide +kernel
def s_Camp_count (A : TA) (K : TK) (σ : GL) (τ : GL) (T : TM) (F : FM) (U : TM) (G : FM) (P : CP) (x1 : Int32) : Int32 × Int32 := (if (s_Camp_needWhat x1 15) = 0 then (0, (s_Camp_counted A K σ τ T F U G P x1)) else ((s_Camp_needWhat x1 15), 0))
set_option maxRecDepth 100000 in
set_option maxHeartbeats 800000 in
theorem c_Camp_count {Γ : G9} {sg : Nat → Nat} {sw : Nat} {ms : Nat → Nat} {h : AH} {c g g2 o o2 z : Nat} {A : TA} {K : TK} {σ : GL} {τ : GL} {T : TM} {F : FM} {U : TM} {G : FM} {P : CP} {x1 : Int32} (hs : SgOk Γ sg) (hsn : SgNe sg) (hw : SwOk Γ sw) (geo : c + 7 ≤ g ∧ c + 7 ≤ g2 ∧ (g + 12 ≤ g2 ∨ g2 + 12 ≤ g) ∧ g + 12 ≤ o ∧ g + 12 ≤ o2 ∧ g2 + 12 ≤ o ∧ g2 + 12 ≤ o2 ∧ (o + 7 ≤ o2 ∨ o2 + 7 ≤ o)) (hA : ta_sz A ≤ 2000) (ho : h o = some (.inr (3, [.ref (o + 1), .ref (o + 3)]))) (ho2 : h o2 = some (.inr (3, [.ref (o2 + 1), .ref (o2 + 3)]))) (hT : T.2 ≤ 20) (hU : U.2 ≤ 20) (hW : WFG σ) (hV : WFG τ) (hms : MsOk Γ ms) (hth : ThOk Γ) : CallT Γ M_Camp_count 7 4 24 [.ref c, .int x1] (cw_ Γ sg h c g g2 o o2 A K σ τ T F U G P) z (s_Camp_count A K σ τ T F U G P x1).1 (some (.int (s_Camp_count A K σ τ T F U G P x1).2)) (cw_ Γ sg h c g g2 o o2 A K σ τ T F U G P) := by
  refine Call.of_go (L := [some (.ref c), some (.int x1)]) (by decide +kernel) rfl (by exact Nat.le_of_ble_eq_true rfl) ?_
  unfold s_Camp_count
  refine Go.iload_1 d_Camp_count_0 rfl ?_
  refine Go.bipush (v := 15) d_Camp_count_1 rfl (by decide) ?_
  refine Go.csT (C1 := 3) (S1 := 18) (as := [.int x1, .int 15]) d_Camp_count_3 rfl l_Camp_99 k_Camp_needWhat_s rfl rfl rfl (c_Camp_needWhat hms hth) rfl rfl rfl rfl rfl rfl (fun t3_1 z2 hz => ?_) (fun t3_1 => ?_)
  · rw [if_neg t3_1]
    exact ⟨t3_1, rfl, by dsimp only, hz⟩
  refine Go.aload_0 d_Camp_count_6 rfl ?_
  refine Go.iload_1 d_Camp_count_7 rfl ?_
  refine Go.cv1r d_Camp_count_8 rfl l_Camp_103 k_Camp_counted_v (cw_at_c hs hsn hw (by omega) hA ho ho2 hT hU hW hV) rfl (c_Camp_counted hs hsn hw (by omega) hA ho ho2 hT hU hW hV) rfl rfl rfl ?_
  rw [if_pos t3_1]
  exact Go.iret d_Camp_count_11 rfl rfl ⟨rfl, rfl, by dsimp only, rfl⟩
theorem cw_c_Glacier_bandFact_g {Γ : G9} {sg : Nat → Nat} {sw : Nat} {h : AH} {c g g2 o o2 z : Nat} {A : TA} {K : TK} {σ : GL} {τ : GL} {T : TM} {F : FM} {U : TM} {G : FM} {P : CP} {x1 : Int32} {x2 : Nat} {vx2 : Int32} (ex2 : vx2 = nI x2) (bx2 : x2 < 8) (hs : SgOk Γ sg) (hsn : SgNe sg) (hw : SwOk Γ sw) (geo : c + 7 ≤ g ∧ c + 7 ≤ g2 ∧ (g + 12 ≤ g2 ∨ g2 + 12 ≤ g) ∧ g + 12 ≤ o ∧ g + 12 ≤ o2 ∧ g2 + 12 ≤ o ∧ g2 + 12 ≤ o2 ∧ (o + 7 ≤ o2 ∨ o2 + 7 ≤ o)) (hA : ta_sz A ≤ 2000) (ho : h o = some (.inr (3, [.ref (o + 1), .ref (o + 3)]))) (ho2 : h o2 = some (.inr (3, [.ref (o2 + 1), .ref (o2 + 3)]))) (hT : T.2 ≤ 20) (hU : U.2 ≤ 20) (hW : WFG σ) (hV : WFG τ) : CallR Γ M_Glacier_bandFact 2 [.ref g, .int x1, .int vx2] (cw_ Γ sg h c g g2 o o2 A K σ τ T F U G P) z (some (.int (s_Glacier_bandFact σ x1 x2))) (cw_ Γ sg h c g g2 o o2 A K σ τ T F U G P) := by
  subst ex2
  unfold cw_
  exact CallR.conv ((((((blk_in (blk_in (blk_in (blk_in (blk_in (blk_comm (by omega))))))).trans (blk_in (blk_in (blk_in (blk_in (blk_comm (by omega))))))).trans (blk_in (blk_in (blk_in (blk_comm (by omega)))))).trans (blk_in (blk_in (blk_comm (by omega))))).trans (blk_in (blk_comm (by omega)))).trans (blk_comm (by omega))) ((((((blk_comm (by omega)).trans (blk_in (blk_comm (by omega)))).trans (blk_in (blk_in (blk_comm (by omega))))).trans (blk_in (blk_in (blk_in (blk_comm (by omega)))))).trans (blk_in (blk_in (blk_in (blk_in (blk_comm (by omega))))))).trans (blk_in (blk_in (blk_in (blk_in (blk_in (blk_comm (by omega)))))))) (c_Glacier_bandFact (x2 := x2) rfl (by omega) hW)
theorem d_Camp_band_0 : decode M_Camp_band.2.1 0 = .ok (.aload_n 0, 1) := by decide +kernel
theorem d_Camp_band_1 : decode M_Camp_band.2.1 1 = .ok (.getfield 26, 3) := by decide +kernel
theorem d_Camp_band_4 : decode M_Camp_band.2.1 4 = .ok (.getfield 107, 3) := by decide +kernel
theorem d_Camp_band_7 : decode M_Camp_band.2.1 7 = .ok (.iload_n 1, 1) := by decide +kernel
theorem d_Camp_band_8 : decode M_Camp_band.2.1 8 = .ok (.invokestatic 135, 3) := by decide +kernel
theorem d_Camp_band_11 : decode M_Camp_band.2.1 11 = .ok (.iload_n 2, 1) := by decide +kernel
theorem d_Camp_band_12 : decode M_Camp_band.2.1 12 = .ok (.bipush 6, 2) := by decide +kernel
theorem d_Camp_band_14 : decode M_Camp_band.2.1 14 = .ok (.invokestatic 99, 3) := by decide +kernel
theorem d_Camp_band_17 : decode M_Camp_band.2.1 17 = .ok (.aload_n 0, 1) := by decide +kernel
theorem d_Camp_band_18 : decode M_Camp_band.2.1 18 = .ok (.getfield 26, 3) := by decide +kernel
theorem d_Camp_band_21 : decode M_Camp_band.2.1 21 = .ok (.iload_n 1, 1) := by decide +kernel
theorem d_Camp_band_22 : decode M_Camp_band.2.1 22 = .ok (.iload_n 2, 1) := by decide +kernel
theorem d_Camp_band_23 : decode M_Camp_band.2.1 23 = .ok (.invokevirtual 139, 3) := by decide +kernel
theorem d_Camp_band_26 : decode M_Camp_band.2.1 26 = .ok (.ireturn, 1) := by decide +kernel
def s_Camp_band (A : TA) (K : TK) (σ : GL) (τ : GL) (T : TM) (F : FM) (U : TM) (G : FM) (P : CP) (x1 : Int32) (x2 : Int32) : Int32 × Int32 := (if (s_Camp_needRow (σ.1 0) x1) = 0 then (if (s_Camp_needWhat x2 6) = 0 then (0, (s_Glacier_bandFact σ x1 x2.toNatClampNeg)) else ((s_Camp_needWhat x2 6), 0)) else ((s_Camp_needRow (σ.1 0) x1), 0))
set_option maxRecDepth 100000 in
set_option maxHeartbeats 800000 in
theorem c_Camp_band {Γ : G9} {sg : Nat → Nat} {sw : Nat} {ms : Nat → Nat} {h : AH} {c g g2 o o2 z : Nat} {A : TA} {K : TK} {σ : GL} {τ : GL} {T : TM} {F : FM} {U : TM} {G : FM} {P : CP} {x1 : Int32} {x2 : Int32} (hs : SgOk Γ sg) (hsn : SgNe sg) (hw : SwOk Γ sw) (geo : c + 7 ≤ g ∧ c + 7 ≤ g2 ∧ (g + 12 ≤ g2 ∨ g2 + 12 ≤ g) ∧ g + 12 ≤ o ∧ g + 12 ≤ o2 ∧ g2 + 12 ≤ o ∧ g2 + 12 ≤ o2 ∧ (o + 7 ≤ o2 ∨ o2 + 7 ≤ o)) (hA : ta_sz A ≤ 2000) (ho : h o = some (.inr (3, [.ref (o + 1), .ref (o + 3)]))) (ho2 : h o2 = some (.inr (3, [.ref (o2 + 1), .ref (o2 + 3)]))) (hT : T.2 ≤ 20) (hU : U.2 ≤ 20) (hW : WFG σ) (hV : WFG τ) (hms : MsOk Γ ms) (hth : ThOk Γ) : CallT Γ M_Camp_band 7 4 24 [.ref c, .int x1, .int x2] (cw_ Γ sg h c g g2 o o2 A K σ τ T F U G P) z (s_Camp_band A K σ τ T F U G P x1 x2).1 (some (.int (s_Camp_band A K σ τ T F U G P x1 x2).2)) (cw_ Γ sg h c g g2 o o2 A K σ τ T F U G P) := by
  refine Call.of_go (L := [some (.ref c), some (.int x1), some (.int x2)]) (by decide +kernel) rfl (by exact Nat.le_of_ble_eq_true rfl) ?_
  unfold s_Camp_band
  refine Go.aload_0 d_Camp_band_0 rfl ?_
  refine Go.getfield d_Camp_band_1 rfl f_Camp_26 (cw_at_c hs hsn hw (by omega) hA ho ho2 hT hU hW hV) (by rfl) ?_
  refine Go.getfield d_Camp_band_4 rfl f_Camp_107 (cw_at_g hs hsn hw (by omega) hA ho ho2 hT hU hW hV) (by rfl) ?_
  refine Go.iload_1 d_Camp_band_7 rfl ?_
  refine Go.csT (C1 := 3) (S1 := 18) (as := [.ref (g + 1), .int x1]) d_Camp_band_8 rfl l_Camp_135 k_Camp_needRow_s rfl rfl rfl (c_Camp_needRow (cw_at_g_1 hs hsn hw (by omega) hA ho ho2 hT hU hW hV) hms hth) rfl rfl rfl rfl rfl rfl (fun t8_1 z2 hz => ?_) (fun t8_1 => ?_)
  · rw [if_neg t8_1]
    exact ⟨t8_1, rfl, by dsimp only, hz⟩
  refine Go.iload_2 d_Camp_band_11 rfl ?_
  refine Go.bipush (v := 6) d_Camp_band_12 rfl (by decide) ?_
  refine Go.csT (C1 := 2) (S1 := 12) (as := [.int x2, .int 6]) d_Camp_band_14 rfl l_Camp_99 k_Camp_needWhat_s rfl rfl rfl (c_Camp_needWhat hms hth) rfl rfl rfl rfl rfl rfl (fun t14_2 z2 hz => ?_) (fun t14_2 => ?_)
  · rw [if_pos t8_1, if_neg t14_2]
    exact ⟨t14_2, rfl, by dsimp only, hz⟩
  refine Go.aload_0 d_Camp_band_17 rfl ?_
  refine Go.getfield d_Camp_band_18 rfl f_Camp_26 (cw_at_c hs hsn hw (by omega) hA ho ho2 hT hU hW hV) (by rfl) ?_
  refine Go.iload_1 d_Camp_band_21 rfl ?_
  refine Go.iload_2 d_Camp_band_22 rfl ?_
  refine Go.cv2r d_Camp_band_23 rfl l_Camp_139 k_Glacier_bandFact_v (cw_at_g hs hsn hw (by omega) hA ho ho2 hT hU hW hV) rfl (cw_c_Glacier_bandFact_g (x2 := x2.toNatClampNeg) (nI_back (needWhat_ok t14_2).1) (nI_b8 (needWhat_ok t14_2).1 (show x2 < nI 6 from (needWhat_ok t14_2).2) (by decide)) hs hsn hw (by omega) hA ho ho2 hT hU hW hV) rfl rfl rfl ?_
  rw [if_pos t8_1, if_pos t14_2]
  exact Go.iret d_Camp_band_26 rfl rfl ⟨rfl, rfl, by dsimp only, rfl⟩
theorem cw_tab_get_g_3 {Γ : G9} {sg : Nat → Nat} {sw : Nat} {h : AH} {c g g2 o o2 z : Nat} {A : TA} {K : TK} {σ : GL} {τ : GL} {T : TM} {F : FM} {U : TM} {G : FM} {P : CP} {row : Int32} {cl : Nat} {ci : Int32} (hs : SgOk Γ sg) (hsn : SgNe sg) (hw : SwOk Γ sw) (geo : c + 7 ≤ g ∧ c + 7 ≤ g2 ∧ (g + 12 ≤ g2 ∨ g2 + 12 ≤ g) ∧ g + 12 ≤ o ∧ g + 12 ≤ o2 ∧ g2 + 12 ≤ o ∧ g2 + 12 ≤ o2 ∧ (o + 7 ≤ o2 ∨ o2 + 7 ≤ o)) (hA : ta_sz A ≤ 2000) (ho : h o = some (.inr (3, [.ref (o + 1), .ref (o + 3)]))) (ho2 : h o2 = some (.inr (3, [.ref (o2 + 1), .ref (o2 + 3)]))) (hT : T.2 ≤ 20) (hU : U.2 ≤ 20) (hW : WFG σ) (hV : WFG τ) (hci : ci = nI cl) (hcl : cl < 8) : CallR Γ M_Table_get 0 [.ref (g + 3), .int row, .int ci] (cw_ Γ sg h c g g2 o o2 A K σ τ T F U G P) z (some (.int (gG σ 1 row cl))) (cw_ Γ sg h c g g2 o o2 A K σ τ T F U G P) := by
  subst hci
  unfold cw_
  exact CallR.conv ((((((blk_in (blk_in (blk_in (blk_in (blk_in (blk_comm (by omega))))))).trans (blk_in (blk_in (blk_in (blk_in (blk_comm (by omega))))))).trans (blk_in (blk_in (blk_in (blk_comm (by omega)))))).trans (blk_in (blk_in (blk_comm (by omega))))).trans (blk_in (blk_comm (by omega)))).trans (blk_comm (by omega))) ((((((blk_comm (by omega)).trans (blk_in (blk_comm (by omega)))).trans (blk_in (blk_in (blk_comm (by omega))))).trans (blk_in (blk_in (blk_in (blk_comm (by omega)))))).trans (blk_in (blk_in (blk_in (blk_in (blk_comm (by omega))))))).trans (blk_in (blk_in (blk_in (blk_in (blk_in (blk_comm (by omega)))))))) (cG_get (k := 1) (by decide) (c := cl) rfl (by omega) hW)
theorem d_Camp_stake_0 : decode M_Camp_stake.2.1 0 = .ok (.aload_n 0, 1) := by decide +kernel
theorem d_Camp_stake_1 : decode M_Camp_stake.2.1 1 = .ok (.getfield 26, 3) := by decide +kernel
theorem d_Camp_stake_4 : decode M_Camp_stake.2.1 4 = .ok (.getfield 116, 3) := by decide +kernel
theorem d_Camp_stake_7 : decode M_Camp_stake.2.1 7 = .ok (.iload_n 1, 1) := by decide +kernel
theorem d_Camp_stake_8 : decode M_Camp_stake.2.1 8 = .ok (.invokestatic 135, 3) := by decide +kernel
theorem d_Camp_stake_11 : decode M_Camp_stake.2.1 11 = .ok (.iload_n 2, 1) := by decide +kernel
theorem d_Camp_stake_12 : decode M_Camp_stake.2.1 12 = .ok (.bipush 6, 2) := by decide +kernel
theorem d_Camp_stake_14 : decode M_Camp_stake.2.1 14 = .ok (.invokestatic 99, 3) := by decide +kernel
theorem d_Camp_stake_17 : decode M_Camp_stake.2.1 17 = .ok (.aload_n 0, 1) := by decide +kernel
theorem d_Camp_stake_18 : decode M_Camp_stake.2.1 18 = .ok (.getfield 26, 3) := by decide +kernel
theorem d_Camp_stake_21 : decode M_Camp_stake.2.1 21 = .ok (.getfield 116, 3) := by decide +kernel
theorem d_Camp_stake_24 : decode M_Camp_stake.2.1 24 = .ok (.iload_n 1, 1) := by decide +kernel
theorem d_Camp_stake_25 : decode M_Camp_stake.2.1 25 = .ok (.iload_n 2, 1) := by decide +kernel
theorem d_Camp_stake_26 : decode M_Camp_stake.2.1 26 = .ok (.invokevirtual 143, 3) := by decide +kernel
theorem d_Camp_stake_29 : decode M_Camp_stake.2.1 29 = .ok (.ireturn, 1) := by decide +kernel
def s_Camp_stake (A : TA) (K : TK) (σ : GL) (τ : GL) (T : TM) (F : FM) (U : TM) (G : FM) (P : CP) (x1 : Int32) (x2 : Int32) : Int32 × Int32 := (if (s_Camp_needRow (σ.1 1) x1) = 0 then (if (s_Camp_needWhat x2 6) = 0 then (0, (gG σ 1 x1 x2.toNatClampNeg)) else ((s_Camp_needWhat x2 6), 0)) else ((s_Camp_needRow (σ.1 1) x1), 0))
set_option maxRecDepth 100000 in
set_option maxHeartbeats 800000 in
theorem c_Camp_stake {Γ : G9} {sg : Nat → Nat} {sw : Nat} {ms : Nat → Nat} {h : AH} {c g g2 o o2 z : Nat} {A : TA} {K : TK} {σ : GL} {τ : GL} {T : TM} {F : FM} {U : TM} {G : FM} {P : CP} {x1 : Int32} {x2 : Int32} (hs : SgOk Γ sg) (hsn : SgNe sg) (hw : SwOk Γ sw) (geo : c + 7 ≤ g ∧ c + 7 ≤ g2 ∧ (g + 12 ≤ g2 ∨ g2 + 12 ≤ g) ∧ g + 12 ≤ o ∧ g + 12 ≤ o2 ∧ g2 + 12 ≤ o ∧ g2 + 12 ≤ o2 ∧ (o + 7 ≤ o2 ∨ o2 + 7 ≤ o)) (hA : ta_sz A ≤ 2000) (ho : h o = some (.inr (3, [.ref (o + 1), .ref (o + 3)]))) (ho2 : h o2 = some (.inr (3, [.ref (o2 + 1), .ref (o2 + 3)]))) (hT : T.2 ≤ 20) (hU : U.2 ≤ 20) (hW : WFG σ) (hV : WFG τ) (hms : MsOk Γ ms) (hth : ThOk Γ) : CallT Γ M_Camp_stake 7 4 24 [.ref c, .int x1, .int x2] (cw_ Γ sg h c g g2 o o2 A K σ τ T F U G P) z (s_Camp_stake A K σ τ T F U G P x1 x2).1 (some (.int (s_Camp_stake A K σ τ T F U G P x1 x2).2)) (cw_ Γ sg h c g g2 o o2 A K σ τ T F U G P) := by
  refine Call.of_go (L := [some (.ref c), some (.int x1), some (.int x2)]) (by decide +kernel) rfl (by exact Nat.le_of_ble_eq_true rfl) ?_
  unfold s_Camp_stake
  refine Go.aload_0 d_Camp_stake_0 rfl ?_
  refine Go.getfield d_Camp_stake_1 rfl f_Camp_26 (cw_at_c hs hsn hw (by omega) hA ho ho2 hT hU hW hV) (by rfl) ?_
  refine Go.getfield d_Camp_stake_4 rfl f_Camp_116 (cw_at_g hs hsn hw (by omega) hA ho ho2 hT hU hW hV) (by rfl) ?_
  refine Go.iload_1 d_Camp_stake_7 rfl ?_
  refine Go.csT (C1 := 3) (S1 := 18) (as := [.ref (g + 3), .int x1]) d_Camp_stake_8 rfl l_Camp_135 k_Camp_needRow_s rfl rfl rfl (c_Camp_needRow (cw_at_g_3 hs hsn hw (by omega) hA ho ho2 hT hU hW hV) hms hth) rfl rfl rfl rfl rfl rfl (fun t8_1 z2 hz => ?_) (fun t8_1 => ?_)
  · rw [if_neg t8_1]
    exact ⟨t8_1, rfl, by dsimp only, hz⟩
  refine Go.iload_2 d_Camp_stake_11 rfl ?_
  refine Go.bipush (v := 6) d_Camp_stake_12 rfl (by decide) ?_
  refine Go.csT (C1 := 2) (S1 := 12) (as := [.int x2, .int 6]) d_Camp_stake_14 rfl l_Camp_99 k_Camp_needWhat_s rfl rfl rfl (c_Camp_needWhat hms hth) rfl rfl rfl rfl rfl rfl (fun t14_2 z2 hz => ?_) (fun t14_2 => ?_)
  · rw [if_pos t8_1, if_neg t14_2]
    exact ⟨t14_2, rfl, by dsimp only, hz⟩
  refine Go.aload_0 d_Camp_stake_17 rfl ?_
  refine Go.getfield d_Camp_stake_18 rfl f_Camp_26 (cw_at_c hs hsn hw (by omega) hA ho ho2 hT hU hW hV) (by rfl) ?_
  refine Go.getfield d_Camp_stake_21 rfl f_Camp_116 (cw_at_g hs hsn hw (by omega) hA ho ho2 hT hU hW hV) (by rfl) ?_
  refine Go.iload_1 d_Camp_stake_24 rfl ?_
  refine Go.iload_2 d_Camp_stake_25 rfl ?_
  refine Go.cv2r d_Camp_stake_26 rfl l_Camp_143 k_Table_get_v (cw_at_g_3 hs hsn hw (by omega) hA ho ho2 hT hU hW hV) rfl (cw_tab_get_g_3 (cl := x2.toNatClampNeg) hs hsn hw (by omega) hA ho ho2 hT hU hW hV (nI_back (needWhat_ok t14_2).1) (nI_b8 (needWhat_ok t14_2).1 (show x2 < nI 6 from (needWhat_ok t14_2).2) (by decide))) rfl rfl rfl ?_
  rw [if_pos t8_1, if_pos t14_2]
  exact Go.iret d_Camp_stake_29 rfl rfl ⟨rfl, rfl, by dsimp only, rfl⟩
theorem cw_c_Glacier_crevasseFact_g {Γ : G9} {sg : Nat → Nat} {sw : Nat} {h : AH} {c g g2 o o2 z : Nat} {A : TA} {K : TK} {σ : GL} {τ : GL} {T : TM} {F : FM} {U : TM} {G : FM} {P : CP} {x1 : Int32} {x2 : Nat} {vx2 : Int32} (ex2 : vx2 = nI x2) (bx2 : x2 < 8) (hs : SgOk Γ sg) (hsn : SgNe sg) (hw : SwOk Γ sw) (geo : c + 7 ≤ g ∧ c + 7 ≤ g2 ∧ (g + 12 ≤ g2 ∨ g2 + 12 ≤ g) ∧ g + 12 ≤ o ∧ g + 12 ≤ o2 ∧ g2 + 12 ≤ o ∧ g2 + 12 ≤ o2 ∧ (o + 7 ≤ o2 ∨ o2 + 7 ≤ o)) (hA : ta_sz A ≤ 2000) (ho : h o = some (.inr (3, [.ref (o + 1), .ref (o + 3)]))) (ho2 : h o2 = some (.inr (3, [.ref (o2 + 1), .ref (o2 + 3)]))) (hT : T.2 ≤ 20) (hU : U.2 ≤ 20) (hW : WFG σ) (hV : WFG τ) : CallR Γ M_Glacier_crevasseFact 1 [.ref g, .int x1, .int vx2] (cw_ Γ sg h c g g2 o o2 A K σ τ T F U G P) z (some (.int (s_Glacier_crevasseFact σ x1 x2))) (cw_ Γ sg h c g g2 o o2 A K σ τ T F U G P) := by
  subst ex2
  unfold cw_
  exact CallR.conv ((((((blk_in (blk_in (blk_in (blk_in (blk_in (blk_comm (by omega))))))).trans (blk_in (blk_in (blk_in (blk_in (blk_comm (by omega))))))).trans (blk_in (blk_in (blk_in (blk_comm (by omega)))))).trans (blk_in (blk_in (blk_comm (by omega))))).trans (blk_in (blk_comm (by omega)))).trans (blk_comm (by omega))) ((((((blk_comm (by omega)).trans (blk_in (blk_comm (by omega)))).trans (blk_in (blk_in (blk_comm (by omega))))).trans (blk_in (blk_in (blk_in (blk_comm (by omega)))))).trans (blk_in (blk_in (blk_in (blk_in (blk_comm (by omega))))))).trans (blk_in (blk_in (blk_in (blk_in (blk_in (blk_comm (by omega)))))))) (c_Glacier_crevasseFact (x2 := x2) rfl (by omega) hW)
theorem d_Camp_crevasse_0 : decode M_Camp_crevasse.2.1 0 = .ok (.aload_n 0, 1) := by decide +kernel
theorem d_Camp_crevasse_1 : decode M_Camp_crevasse.2.1 1 = .ok (.getfield 26, 3) := by decide +kernel
theorem d_Camp_crevasse_4 : decode M_Camp_crevasse.2.1 4 = .ok (.getfield 119, 3) := by decide +kernel
theorem d_Camp_crevasse_7 : decode M_Camp_crevasse.2.1 7 = .ok (.iload_n 1, 1) := by decide +kernel
theorem d_Camp_crevasse_8 : decode M_Camp_crevasse.2.1 8 = .ok (.invokestatic 135, 3) := by decide +kernel
theorem d_Camp_crevasse_11 : decode M_Camp_crevasse.2.1 11 = .ok (.iload_n 2, 1) := by decide +kernel
theorem d_Camp_crevasse_12 : decode M_Camp_crevasse.2.1 12 = .ok (.bipush 6, 2) := by decide +kernel
theorem d_Camp_crevasse_14 : decode M_Camp_crevasse.2.1 14 = .ok (.invokestatic 99, 3) := by decide +kernel
theorem d_Camp_crevasse_17 : decode M_Camp_crevasse.2.1 17 = .ok (.aload_n 0, 1) := by decide +kernel
theorem d_Camp_crevasse_18 : decode M_Camp_crevasse.2.1 18 = .ok (.getfield 26, 3) := by decide +kernel
theorem d_Camp_crevasse_21 : decode M_Camp_crevasse.2.1 21 = .ok (.iload_n 1, 1) := by decide +kernel
theorem d_Camp_crevasse_22 : decode M_Camp_crevasse.2.1 22 = .ok (.iload_n 2, 1) := by decide +kernel
theorem d_Camp_crevasse_23 : decode M_Camp_crevasse.2.1 23 = .ok (.invokevirtual 146, 3) := by decide +kernel
theorem d_Camp_crevasse_26 : decode M_Camp_crevasse.2.1 26 = .ok (.ireturn, 1) := by decide +kernel
def s_Camp_crevasse (A : TA) (K : TK) (σ : GL) (τ : GL) (T : TM) (F : FM) (U : TM) (G : FM) (P : CP) (x1 : Int32) (x2 : Int32) : Int32 × Int32 := (if (s_Camp_needRow (σ.1 2) x1) = 0 then (if (s_Camp_needWhat x2 6) = 0 then (0, (s_Glacier_crevasseFact σ x1 x2.toNatClampNeg)) else ((s_Camp_needWhat x2 6), 0)) else ((s_Camp_needRow (σ.1 2) x1), 0))
set_option maxRecDepth 100000 in
set_option maxHeartbeats 800000 in
theorem c_Camp_crevasse {Γ : G9} {sg : Nat → Nat} {sw : Nat} {ms : Nat → Nat} {h : AH} {c g g2 o o2 z : Nat} {A : TA} {K : TK} {σ : GL} {τ : GL} {T : TM} {F : FM} {U : TM} {G : FM} {P : CP} {x1 : Int32} {x2 : Int32} (hs : SgOk Γ sg) (hsn : SgNe sg) (hw : SwOk Γ sw) (geo : c + 7 ≤ g ∧ c + 7 ≤ g2 ∧ (g + 12 ≤ g2 ∨ g2 + 12 ≤ g) ∧ g + 12 ≤ o ∧ g + 12 ≤ o2 ∧ g2 + 12 ≤ o ∧ g2 + 12 ≤ o2 ∧ (o + 7 ≤ o2 ∨ o2 + 7 ≤ o)) (hA : ta_sz A ≤ 2000) (ho : h o = some (.inr (3, [.ref (o + 1), .ref (o + 3)]))) (ho2 : h o2 = some (.inr (3, [.ref (o2 + 1), .ref (o2 + 3)]))) (hT : T.2 ≤ 20) (hU : U.2 ≤ 20) (hW : WFG σ) (hV : WFG τ) (hms : MsOk Γ ms) (hth : ThOk Γ) : CallT Γ M_Camp_crevasse 7 4 24 [.ref c, .int x1, .int x2] (cw_ Γ sg h c g g2 o o2 A K σ τ T F U G P) z (s_Camp_crevasse A K σ τ T F U G P x1 x2).1 (some (.int (s_Camp_crevasse A K σ τ T F U G P x1 x2).2)) (cw_ Γ sg h c g g2 o o2 A K σ τ T F U G P) := by
  refine Call.of_go (L := [some (.ref c), some (.int x1), some (.int x2)]) (by decide +kernel) rfl (by exact Nat.le_of_ble_eq_true rfl) ?_
  unfold s_Camp_crevasse
  refine Go.aload_0 d_Camp_crevasse_0 rfl ?_
  refine Go.getfield d_Camp_crevasse_1 rfl f_Camp_26 (cw_at_c hs hsn hw (by omega) hA ho ho2 hT hU hW hV) (by rfl) ?_
  refine Go.getfield d_Camp_crevasse_4 rfl f_Camp_119 (cw_at_g hs hsn hw (by omega) hA ho ho2 hT hU hW hV) (by rfl) ?_
  refine Go.iload_1 d_Camp_crevasse_7 rfl ?_
  refine Go.csT (C1 := 3) (S1 := 18) (as := [.ref (g + 5), .int x1]) d_Camp_crevasse_8 rfl l_Camp_135 k_Camp_needRow_s rfl rfl rfl (c_Camp_needRow (cw_at_g_5 hs hsn hw (by omega) hA ho ho2 hT hU hW hV) hms hth) rfl rfl rfl rfl rfl rfl (fun t8_1 z2 hz => ?_) (fun t8_1 => ?_)
  · rw [if_neg t8_1]
    exact ⟨t8_1, rfl, by dsimp only, hz⟩
  refine Go.iload_2 d_Camp_crevasse_11 rfl ?_
  refine Go.bipush (v := 6) d_Camp_crevasse_12 rfl (by decide) ?_
  refine Go.csT (C1 := 2) (S1 := 12) (as := [.int x2, .int 6]) d_Camp_crevasse_14 rfl l_Camp_99 k_Camp_needWhat_s rfl rfl rfl (c_Camp_needWhat hms hth) rfl rfl rfl rfl rfl rfl (fun t14_2 z2 hz => ?_) (fun t14_2 => ?_)
  · rw [if_pos t8_1, if_neg t14_2]
    exact ⟨t14_2, rfl, by dsimp only, hz⟩
  refine Go.aload_0 d_Camp_crevasse_17 rfl ?_
  refine Go.getfield d_Camp_crevasse_18 rfl f_Camp_26 (cw_at_c hs hsn hw (by omega) hA ho ho2 hT hU hW hV) (by rfl) ?_
  refine Go.iload_1 d_Camp_crevasse_21 rfl ?_
  refine Go.iload_2 d_Camp_crevasse_22 rfl ?_
  refine Go.cv2r d_Camp_crevasse_23 rfl l_Camp_146 k_Glacier_crevasseFact_v (cw_at_g hs hsn hw (by omega) hA ho ho2 hT hU hW hV) rfl (cw_c_Glacier_crevasseFact_g (x2 := x2.toNatClampNeg) (nI_back (needWhat_ok t14_2).1) (nI_b8 (needWhat_ok t14_2).1 (show x2 < nI 6 from (needWhat_ok t14_2).2) (by decide)) hs hsn hw (by omega) hA ho ho2 hT hU hW hV) rfl rfl rfl ?_
  rw [if_pos t8_1, if_pos t14_2]
  exact Go.iret d_Camp_crevasse_26 rfl rfl ⟨rfl, rfl, by dsimp only, rfl⟩
theorem cw_tab_get_g_7 {Γ : G9} {sg : Nat → Nat} {sw : Nat} {h : AH} {c g g2 o o2 z : Nat} {A : TA} {K : TK} {σ : GL} {τ : GL} {T : TM} {F : FM} {U : TM} {G : FM} {P : CP} {row : Int32} {cl : Nat} {ci : Int32} (hs : SgOk Γ sg) (hsn : SgNe sg) (hw : SwOk Γ sw) (geo : c + 7 ≤ g ∧ c + 7 ≤ g2 ∧ (g + 12 ≤ g2 ∨ g2 + 12 ≤ g) ∧ g + 12 ≤ o ∧ g + 12 ≤ o2 ∧ g2 + 12 ≤ o ∧ g2 + 12 ≤ o2 ∧ (o + 7 ≤ o2 ∨ o2 + 7 ≤ o)) (hA : ta_sz A ≤ 2000) (ho : h o = some (.inr (3, [.ref (o + 1), .ref (o + 3)]))) (ho2 : h o2 = some (.inr (3, [.ref (o2 + 1), .ref (o2 + 3)]))) (hT : T.2 ≤ 20) (hU : U.2 ≤ 20) (hW : WFG σ) (hV : WFG τ) (hci : ci = nI cl) (hcl : cl < 8) : CallR Γ M_Table_get 0 [.ref (g + 7), .int row, .int ci] (cw_ Γ sg h c g g2 o o2 A K σ τ T F U G P) z (some (.int (gG σ 3 row cl))) (cw_ Γ sg h c g g2 o o2 A K σ τ T F U G P) := by
  subst hci
  unfold cw_
  exact CallR.conv ((((((blk_in (blk_in (blk_in (blk_in (blk_in (blk_comm (by omega))))))).trans (blk_in (blk_in (blk_in (blk_in (blk_comm (by omega))))))).trans (blk_in (blk_in (blk_in (blk_comm (by omega)))))).trans (blk_in (blk_in (blk_comm (by omega))))).trans (blk_in (blk_comm (by omega)))).trans (blk_comm (by omega))) ((((((blk_comm (by omega)).trans (blk_in (blk_comm (by omega)))).trans (blk_in (blk_in (blk_comm (by omega))))).trans (blk_in (blk_in (blk_in (blk_comm (by omega)))))).trans (blk_in (blk_in (blk_in (blk_in (blk_comm (by omega))))))).trans (blk_in (blk_in (blk_in (blk_in (blk_in (blk_comm (by omega)))))))) (cG_get (k := 3) (by decide) (c := cl) rfl (by omega) hW)
theorem d_Camp_depot_0 : decode M_Camp_depot.2.1 0 = .ok (.aload_n 0, 1) := by decide +kernel
theorem d_Camp_depot_1 : decode M_Camp_depot.2.1 1 = .ok (.getfield 26, 3) := by decide +kernel
theorem d_Camp_depot_4 : decode M_Camp_depot.2.1 4 = .ok (.getfield 122, 3) := by decide +kernel
theorem d_Camp_depot_7 : decode M_Camp_depot.2.1 7 = .ok (.iload_n 1, 1) := by decide +kernel
theorem d_Camp_depot_8 : decode M_Camp_depot.2.1 8 = .ok (.invokestatic 135, 3) := by decide +kernel
theorem d_Camp_depot_11 : decode M_Camp_depot.2.1 11 = .ok (.iload_n 2, 1) := by decide +kernel
theorem d_Camp_depot_12 : decode M_Camp_depot.2.1 12 = .ok (.iconst 2, 1) := by decide +kernel
theorem d_Camp_depot_13 : decode M_Camp_depot.2.1 13 = .ok (.invokestatic 99, 3) := by decide +kernel
theorem d_Camp_depot_16 : decode M_Camp_depot.2.1 16 = .ok (.aload_n 0, 1) := by decide +kernel
theorem d_Camp_depot_17 : decode M_Camp_depot.2.1 17 = .ok (.getfield 26, 3) := by decide +kernel
theorem d_Camp_depot_20 : decode M_Camp_depot.2.1 20 = .ok (.getfield 122, 3) := by decide +kernel
theorem d_Camp_depot_23 : decode M_Camp_depot.2.1 23 = .ok (.iload_n 1, 1) := by decide +kernel
theorem d_Camp_depot_24 : decode M_Camp_depot.2.1 24 = .ok (.iload_n 2, 1) := by decide +kernel
theorem d_Camp_depot_25 : decode M_Camp_depot.2.1 25 = .ok (.invokevirtual 143, 3) := by decide +kernel
theorem d_Camp_depot_28 : decode M_Camp_depot.2.1 28 = .ok (.ireturn, 1) := by decide +kernel
def s_Camp_depot (A : TA) (K : TK) (σ : GL) (τ : GL) (T : TM) (F : FM) (U : TM) (G : FM) (P : CP) (x1 : Int32) (x2 : Int32) : Int32 × Int32 := (if (s_Camp_needRow (σ.1 3) x1) = 0 then (if (s_Camp_needWhat x2 2) = 0 then (0, (gG σ 3 x1 x2.toNatClampNeg)) else ((s_Camp_needWhat x2 2), 0)) else ((s_Camp_needRow (σ.1 3) x1), 0))
set_option maxRecDepth 100000 in
set_option maxHeartbeats 800000 in
theorem c_Camp_depot {Γ : G9} {sg : Nat → Nat} {sw : Nat} {ms : Nat → Nat} {h : AH} {c g g2 o o2 z : Nat} {A : TA} {K : TK} {σ : GL} {τ : GL} {T : TM} {F : FM} {U : TM} {G : FM} {P : CP} {x1 : Int32} {x2 : Int32} (hs : SgOk Γ sg) (hsn : SgNe sg) (hw : SwOk Γ sw) (geo : c + 7 ≤ g ∧ c + 7 ≤ g2 ∧ (g + 12 ≤ g2 ∨ g2 + 12 ≤ g) ∧ g + 12 ≤ o ∧ g + 12 ≤ o2 ∧ g2 + 12 ≤ o ∧ g2 + 12 ≤ o2 ∧ (o + 7 ≤ o2 ∨ o2 + 7 ≤ o)) (hA : ta_sz A ≤ 2000) (ho : h o = some (.inr (3, [.ref (o + 1), .ref (o + 3)]))) (ho2 : h o2 = some (.inr (3, [.ref (o2 + 1), .ref (o2 + 3)]))) (hT : T.2 ≤ 20) (hU : U.2 ≤ 20) (hW : WFG σ) (hV : WFG τ) (hms : MsOk Γ ms) (hth : ThOk Γ) : CallT Γ M_Camp_depot 7 4 24 [.ref c, .int x1, .int x2] (cw_ Γ sg h c g g2 o o2 A K σ τ T F U G P) z (s_Camp_depot A K σ τ T F U G P x1 x2).1 (some (.int (s_Camp_depot A K σ τ T F U G P x1 x2).2)) (cw_ Γ sg h c g g2 o o2 A K σ τ T F U G P) := by
  refine Call.of_go (L := [some (.ref c), some (.int x1), some (.int x2)]) (by decide +kernel) rfl (by exact Nat.le_of_ble_eq_true rfl) ?_
  unfold s_Camp_depot
  refine Go.aload_0 d_Camp_depot_0 rfl ?_
  refine Go.getfield d_Camp_depot_1 rfl f_Camp_26 (cw_at_c hs hsn hw (by omega) hA ho ho2 hT hU hW hV) (by rfl) ?_
  refine Go.getfield d_Camp_depot_4 rfl f_Camp_122 (cw_at_g hs hsn hw (by omega) hA ho ho2 hT hU hW hV) (by rfl) ?_
  refine Go.iload_1 d_Camp_depot_7 rfl ?_
  refine Go.csT (C1 := 3) (S1 := 18) (as := [.ref (g + 7), .int x1]) d_Camp_depot_8 rfl l_Camp_135 k_Camp_needRow_s rfl rfl rfl (c_Camp_needRow (cw_at_g_7 hs hsn hw (by omega) hA ho ho2 hT hU hW hV) hms hth) rfl rfl rfl rfl rfl rfl (fun t8_1 z2 hz => ?_) (fun t8_1 => ?_)
  · rw [if_neg t8_1]
    exact ⟨t8_1, rfl, by dsimp only, hz⟩
  refine Go.iload_2 d_Camp_depot_11 rfl ?_
  refine Go.iconst (v := 2) d_Camp_depot_12 rfl (by decide) ?_
  refine Go.csT (C1 := 2) (S1 := 12) (as := [.int x2, .int 2]) d_Camp_depot_13 rfl l_Camp_99 k_Camp_needWhat_s rfl rfl rfl (c_Camp_needWhat hms hth) rfl rfl rfl rfl rfl rfl (fun t13_2 z2 hz => ?_) (fun t13_2 => ?_)
  · rw [if_pos t8_1, if_neg t13_2]
    exact ⟨t13_2, rfl, by dsimp only, hz⟩
  refine Go.aload_0 d_Camp_depot_16 rfl ?_
  refine Go.getfield d_Camp_depot_17 rfl f_Camp_26 (cw_at_c hs hsn hw (by omega) hA ho ho2 hT hU hW hV) (by rfl) ?_
  refine Go.getfield d_Camp_depot_20 rfl f_Camp_122 (cw_at_g hs hsn hw (by omega) hA ho ho2 hT hU hW hV) (by rfl) ?_
  refine Go.iload_1 d_Camp_depot_23 rfl ?_
  refine Go.iload_2 d_Camp_depot_24 rfl ?_
  refine Go.cv2r d_Camp_depot_25 rfl l_Camp_143 k_Table_get_v (cw_at_g_7 hs hsn hw (by omega) hA ho ho2 hT hU hW hV) rfl (cw_tab_get_g_7 (cl := x2.toNatClampNeg) hs hsn hw (by omega) hA ho ho2 hT hU hW hV (nI_back (needWhat_ok t13_2).1) (nI_b8 (needWhat_ok t13_2).1 (show x2 < nI 2 from (needWhat_ok t13_2).2) (by decide))) rfl rfl rfl ?_
  rw [if_pos t8_1, if_pos t13_2]
  exact Go.iret d_Camp_depot_28 rfl rfl ⟨rfl, rfl, by dsimp only, rfl⟩
theorem cw_tab_get_g_9 {Γ : G9} {sg : Nat → Nat} {sw : Nat} {h : AH} {c g g2 o o2 z : Nat} {A : TA} {K : TK} {σ : GL} {τ : GL} {T : TM} {F : FM} {U : TM} {G : FM} {P : CP} {row : Int32} {cl : Nat} {ci : Int32} (hs : SgOk Γ sg) (hsn : SgNe sg) (hw : SwOk Γ sw) (geo : c + 7 ≤ g ∧ c + 7 ≤ g2 ∧ (g + 12 ≤ g2 ∨ g2 + 12 ≤ g) ∧ g + 12 ≤ o ∧ g + 12 ≤ o2 ∧ g2 + 12 ≤ o ∧ g2 + 12 ≤ o2 ∧ (o + 7 ≤ o2 ∨ o2 + 7 ≤ o)) (hA : ta_sz A ≤ 2000) (ho : h o = some (.inr (3, [.ref (o + 1), .ref (o + 3)]))) (ho2 : h o2 = some (.inr (3, [.ref (o2 + 1), .ref (o2 + 3)]))) (hT : T.2 ≤ 20) (hU : U.2 ≤ 20) (hW : WFG σ) (hV : WFG τ) (hci : ci = nI cl) (hcl : cl < 8) : CallR Γ M_Table_get 0 [.ref (g + 9), .int row, .int ci] (cw_ Γ sg h c g g2 o o2 A K σ τ T F U G P) z (some (.int (gG σ 4 row cl))) (cw_ Γ sg h c g g2 o o2 A K σ τ T F U G P) := by
  subst hci
  unfold cw_
  exact CallR.conv ((((((blk_in (blk_in (blk_in (blk_in (blk_in (blk_comm (by omega))))))).trans (blk_in (blk_in (blk_in (blk_in (blk_comm (by omega))))))).trans (blk_in (blk_in (blk_in (blk_comm (by omega)))))).trans (blk_in (blk_in (blk_comm (by omega))))).trans (blk_in (blk_comm (by omega)))).trans (blk_comm (by omega))) ((((((blk_comm (by omega)).trans (blk_in (blk_comm (by omega)))).trans (blk_in (blk_in (blk_comm (by omega))))).trans (blk_in (blk_in (blk_in (blk_comm (by omega)))))).trans (blk_in (blk_in (blk_in (blk_in (blk_comm (by omega))))))).trans (blk_in (blk_in (blk_in (blk_in (blk_in (blk_comm (by omega)))))))) (cG_get (k := 4) (by decide) (c := cl) rfl (by omega) hW)
theorem d_Camp_team_0 : decode M_Camp_team.2.1 0 = .ok (.aload_n 0, 1) := by decide +kernel
theorem d_Camp_team_1 : decode M_Camp_team.2.1 1 = .ok (.getfield 26, 3) := by decide +kernel
theorem d_Camp_team_4 : decode M_Camp_team.2.1 4 = .ok (.getfield 125, 3) := by decide +kernel
theorem d_Camp_team_7 : decode M_Camp_team.2.1 7 = .ok (.iload_n 1, 1) := by decide +kernel
theorem d_Camp_team_8 : decode M_Camp_team.2.1 8 = .ok (.invokestatic 135, 3) := by decide +kernel
theorem d_Camp_team_11 : decode M_Camp_team.2.1 11 = .ok (.iload_n 2, 1) := by decide +kernel
theorem d_Camp_team_12 : decode M_Camp_team.2.1 12 = .ok (.bipush 8, 2) := by decide +kernel
theorem d_Camp_team_14 : decode M_Camp_team.2.1 14 = .ok (.invokestatic 99, 3) := by decide +kernel
theorem d_Camp_team_17 : decode M_Camp_team.2.1 17 = .ok (.aload_n 0, 1) := by decide +kernel
theorem d_Camp_team_18 : decode M_Camp_team.2.1 18 = .ok (.getfield 26, 3) := by decide +kernel
theorem d_Camp_team_21 : decode M_Camp_team.2.1 21 = .ok (.getfield 125, 3) := by decide +kernel
theorem d_Camp_team_24 : decode M_Camp_team.2.1 24 = .ok (.iload_n 1, 1) := by decide +kernel
theorem d_Camp_team_25 : decode M_Camp_team.2.1 25 = .ok (.iload_n 2, 1) := by decide +kernel
theorem d_Camp_team_26 : decode M_Camp_team.2.1 26 = .ok (.invokevirtual 143, 3) := by decide +kernel
theorem d_Camp_team_29 : decode M_Camp_team.2.1 29 = .ok (.ireturn, 1) := by decide +kernel
def s_Camp_team (A : TA) (K : TK) (σ : GL) (τ : GL) (T : TM) (F : FM) (U : TM) (G : FM) (P : CP) (x1 : Int32) (x2 : Int32) : Int32 × Int32 := (if (s_Camp_needRow (σ.1 4) x1) = 0 then (if (s_Camp_needWhat x2 8) = 0 then (0, (gG σ 4 x1 x2.toNatClampNeg)) else ((s_Camp_needWhat x2 8), 0)) else ((s_Camp_needRow (σ.1 4) x1), 0))
set_option maxRecDepth 100000 in
set_option maxHeartbeats 800000 in
theorem c_Camp_team {Γ : G9} {sg : Nat → Nat} {sw : Nat} {ms : Nat → Nat} {h : AH} {c g g2 o o2 z : Nat} {A : TA} {K : TK} {σ : GL} {τ : GL} {T : TM} {F : FM} {U : TM} {G : FM} {P : CP} {x1 : Int32} {x2 : Int32} (hs : SgOk Γ sg) (hsn : SgNe sg) (hw : SwOk Γ sw) (geo : c + 7 ≤ g ∧ c + 7 ≤ g2 ∧ (g + 12 ≤ g2 ∨ g2 + 12 ≤ g) ∧ g + 12 ≤ o ∧ g + 12 ≤ o2 ∧ g2 + 12 ≤ o ∧ g2 + 12 ≤ o2 ∧ (o + 7 ≤ o2 ∨ o2 + 7 ≤ o)) (hA : ta_sz A ≤ 2000) (ho : h o = some (.inr (3, [.ref (o + 1), .ref (o + 3)]))) (ho2 : h o2 = some (.inr (3, [.ref (o2 + 1), .ref (o2 + 3)]))) (hT : T.2 ≤ 20) (hU : U.2 ≤ 20) (hW : WFG σ) (hV : WFG τ) (hms : MsOk Γ ms) (hth : ThOk Γ) : CallT Γ M_Camp_team 7 4 24 [.ref c, .int x1, .int x2] (cw_ Γ sg h c g g2 o o2 A K σ τ T F U G P) z (s_Camp_team A K σ τ T F U G P x1 x2).1 (some (.int (s_Camp_team A K σ τ T F U G P x1 x2).2)) (cw_ Γ sg h c g g2 o o2 A K σ τ T F U G P) := by
  refine Call.of_go (L := [some (.ref c), some (.int x1), some (.int x2)]) (by decide +kernel) rfl (by exact Nat.le_of_ble_eq_true rfl) ?_
  unfold s_Camp_team
  refine Go.aload_0 d_Camp_team_0 rfl ?_
  refine Go.getfield d_Camp_team_1 rfl f_Camp_26 (cw_at_c hs hsn hw (by omega) hA ho ho2 hT hU hW hV) (by rfl) ?_
  refine Go.getfield d_Camp_team_4 rfl f_Camp_125 (cw_at_g hs hsn hw (by omega) hA ho ho2 hT hU hW hV) (by rfl) ?_
  refine Go.iload_1 d_Camp_team_7 rfl ?_
  refine Go.csT (C1 := 3) (S1 := 18) (as := [.ref (g + 9), .int x1]) d_Camp_team_8 rfl l_Camp_135 k_Camp_needRow_s rfl rfl rfl (c_Camp_needRow (cw_at_g_9 hs hsn hw (by omega) hA ho ho2 hT hU hW hV) hms hth) rfl rfl rfl rfl rfl rfl (fun t8_1 z2 hz => ?_) (fun t8_1 => ?_)
  · rw [if_neg t8_1]
    exact ⟨t8_1, rfl, by dsimp only, hz⟩
  refine Go.iload_2 d_Camp_team_11 rfl ?_
  refine Go.bipush (v := 8) d_Camp_team_12 rfl (by decide) ?_
  refine Go.csT (C1 := 2) (S1 := 12) (as := [.int x2, .int 8]) d_Camp_team_14 rfl l_Camp_99 k_Camp_needWhat_s rfl rfl rfl (c_Camp_needWhat hms hth) rfl rfl rfl rfl rfl rfl (fun t14_2 z2 hz => ?_) (fun t14_2 => ?_)
  · rw [if_pos t8_1, if_neg t14_2]
    exact ⟨t14_2, rfl, by dsimp only, hz⟩
  refine Go.aload_0 d_Camp_team_17 rfl ?_
  refine Go.getfield d_Camp_team_18 rfl f_Camp_26 (cw_at_c hs hsn hw (by omega) hA ho ho2 hT hU hW hV) (by rfl) ?_
  refine Go.getfield d_Camp_team_21 rfl f_Camp_125 (cw_at_g hs hsn hw (by omega) hA ho ho2 hT hU hW hV) (by rfl) ?_
  refine Go.iload_1 d_Camp_team_24 rfl ?_
  refine Go.iload_2 d_Camp_team_25 rfl ?_
  refine Go.cv2r d_Camp_team_26 rfl l_Camp_143 k_Table_get_v (cw_at_g_9 hs hsn hw (by omega) hA ho ho2 hT hU hW hV) rfl (cw_tab_get_g_9 (cl := x2.toNatClampNeg) hs hsn hw (by omega) hA ho ho2 hT hU hW hV (nI_back (needWhat_ok t14_2).1) (nI_b8 (needWhat_ok t14_2).1 (show x2 < nI 8 from (needWhat_ok t14_2).2) (by decide))) rfl rfl rfl ?_
  rw [if_pos t8_1, if_pos t14_2]
  exact Go.iret d_Camp_team_29 rfl rfl ⟨rfl, rfl, by dsimp only, rfl⟩
theorem cw_c_Glacier_tryGo_g {Γ : G9} {sg : Nat → Nat} {sw : Nat} {h : AH} {c g g2 o o2 z : Nat} {A : TA} {K : TK} {σ : GL} {τ : GL} {T : TM} {F : FM} {U : TM} {G : FM} {P : CP} {x1 : Int32} {x2 : Int32} (hs : SgOk Γ sg) (hsn : SgNe sg) (hw : SwOk Γ sw) (geo : c + 7 ≤ g ∧ c + 7 ≤ g2 ∧ (g + 12 ≤ g2 ∨ g2 + 12 ≤ g) ∧ g + 12 ≤ o ∧ g + 12 ≤ o2 ∧ g2 + 12 ≤ o ∧ g2 + 12 ≤ o2 ∧ (o + 7 ≤ o2 ∨ o2 + 7 ≤ o)) (hA : ta_sz A ≤ 2000) (ho : h o = some (.inr (3, [.ref (o + 1), .ref (o + 3)]))) (ho2 : h o2 = some (.inr (3, [.ref (o2 + 1), .ref (o2 + 3)]))) (hT : T.2 ≤ 20) (hU : U.2 ≤ 20) (hW : WFG σ) (hV : WFG τ) : CallR Γ M_Glacier_tryGo 3 [.ref g, .int x1, .int x2] (cw_ Γ sg h c g g2 o o2 A K σ τ T F U G P) z (some (.int (s_Glacier_tryGo σ x1 x2).1)) (cw_ Γ sg h c g g2 o o2 A K (s_Glacier_tryGo σ x1 x2).2 τ T F U G P) := by
  unfold cw_
  exact CallR.conv ((((((blk_in (blk_in (blk_in (blk_in (blk_in (blk_comm (by omega))))))).trans (blk_in (blk_in (blk_in (blk_in (blk_comm (by omega))))))).trans (blk_in (blk_in (blk_in (blk_comm (by omega)))))).trans (blk_in (blk_in (blk_comm (by omega))))).trans (blk_in (blk_comm (by omega)))).trans (blk_comm (by omega))) ((((((blk_comm (by omega)).trans (blk_in (blk_comm (by omega)))).trans (blk_in (blk_in (blk_comm (by omega))))).trans (blk_in (blk_in (blk_in (blk_comm (by omega)))))).trans (blk_in (blk_in (blk_in (blk_in (blk_comm (by omega))))))).trans (blk_in (blk_in (blk_in (blk_in (blk_in (blk_comm (by omega)))))))) (c_Glacier_tryGo hW)
theorem d_Camp_go_0 : decode M_Camp_go.2.1 0 = .ok (.aload_n 0, 1) := by decide +kernel
theorem d_Camp_go_1 : decode M_Camp_go.2.1 1 = .ok (.getfield 26, 3) := by decide +kernel
theorem d_Camp_go_4 : decode M_Camp_go.2.1 4 = .ok (.getfield 125, 3) := by decide +kernel
theorem d_Camp_go_7 : decode M_Camp_go.2.1 7 = .ok (.iload_n 1, 1) := by decide +kernel
theorem d_Camp_go_8 : decode M_Camp_go.2.1 8 = .ok (.invokestatic 135, 3) := by decide +kernel
theorem d_Camp_go_11 : decode M_Camp_go.2.1 11 = .ok (.aload_n 0, 1) := by decide +kernel
theorem d_Camp_go_12 : decode M_Camp_go.2.1 12 = .ok (.getfield 26, 3) := by decide +kernel
theorem d_Camp_go_15 : decode M_Camp_go.2.1 15 = .ok (.iload_n 1, 1) := by decide +kernel
theorem d_Camp_go_16 : decode M_Camp_go.2.1 16 = .ok (.iload_n 2, 1) := by decide +kernel
theorem d_Camp_go_17 : decode M_Camp_go.2.1 17 = .ok (.invokevirtual 162, 3) := by decide +kernel
theorem d_Camp_go_20 : decode M_Camp_go.2.1 20 = .ok (.ifCond .ne 13, 3) := by decide +kernel
theorem d_Camp_go_23 : decode M_Camp_go.2.1 23 = .ok (.new 51, 3) := by decide +kernel
theorem d_Camp_go_26 : decode M_Camp_go.2.1 26 = .ok (.dup, 1) := by decide +kernel
theorem d_Camp_go_27 : decode M_Camp_go.2.1 27 = .ok (.ldc 166, 2) := by decide +kernel
theorem d_Camp_go_29 : decode M_Camp_go.2.1 29 = .ok (.invokespecial 55, 3) := by decide +kernel
theorem d_Camp_go_32 : decode M_Camp_go.2.1 32 = .ok (.athrow, 1) := by decide +kernel
theorem d_Camp_go_33 : decode M_Camp_go.2.1 33 = .ok (.aload_n 0, 1) := by decide +kernel
theorem d_Camp_go_34 : decode M_Camp_go.2.1 34 = .ok (.getfield 26, 3) := by decide +kernel
theorem d_Camp_go_37 : decode M_Camp_go.2.1 37 = .ok (.getfield 125, 3) := by decide +kernel
theorem d_Camp_go_40 : decode M_Camp_go.2.1 40 = .ok (.iload_n 1, 1) := by decide +kernel
theorem d_Camp_go_41 : decode M_Camp_go.2.1 41 = .ok (.iconst 2, 1) := by decide +kernel
theorem d_Camp_go_42 : decode M_Camp_go.2.1 42 = .ok (.invokevirtual 143, 3) := by decide +kernel
theorem d_Camp_go_45 : decode M_Camp_go.2.1 45 = .ok (.ireturn, 1) := by decide +kernel
def s_Camp_go (A : TA) (K : TK) (σ : GL) (τ : GL) (T : TM) (F : FM) (U : TM) (G : FM) (P : CP) (x1 : Int32) (x2 : Int32) : Int32 × Int32 × GL := (if (s_Camp_needRow (σ.1 4) x1) = 0 then (if (s_Glacier_tryGo σ x1 x2).1 = 0 then (3, 0, (s_Glacier_tryGo σ x1 x2).2) else (0, (gG (s_Glacier_tryGo σ x1 x2).2 4 x1 2), (s_Glacier_tryGo σ x1 x2).2)) else ((s_Camp_needRow (σ.1 4) x1), 0, σ))
set_option maxRecDepth 100000 in
set_option maxHeartbeats 800000 in
theorem c_Camp_go {Γ : G9} {sg : Nat → Nat} {sw : Nat} {ms : Nat → Nat} {h : AH} {c g g2 o o2 z : Nat} {A : TA} {K : TK} {σ : GL} {τ : GL} {T : TM} {F : FM} {U : TM} {G : FM} {P : CP} {x1 : Int32} {x2 : Int32} (hs : SgOk Γ sg) (hsn : SgNe sg) (hw : SwOk Γ sw) (geo : c + 7 ≤ g ∧ c + 7 ≤ g2 ∧ (g + 12 ≤ g2 ∨ g2 + 12 ≤ g) ∧ g + 12 ≤ o ∧ g + 12 ≤ o2 ∧ g2 + 12 ≤ o ∧ g2 + 12 ≤ o2 ∧ (o + 7 ≤ o2 ∨ o2 + 7 ≤ o)) (hA : ta_sz A ≤ 2000) (ho : h o = some (.inr (3, [.ref (o + 1), .ref (o + 3)]))) (ho2 : h o2 = some (.inr (3, [.ref (o2 + 1), .ref (o2 + 3)]))) (hT : T.2 ≤ 20) (hU : U.2 ≤ 20) (hW : WFG σ) (hV : WFG τ) (hms : MsOk Γ ms) (hth : ThOk Γ) : CallT Γ M_Camp_go 7 4 24 [.ref c, .int x1, .int x2] (cw_ Γ sg h c g g2 o o2 A K σ τ T F U G P) z (s_Camp_go A K σ τ T F U G P x1 x2).1 (some (.int (s_Camp_go A K σ τ T F U G P x1 x2).2.1)) (cw_ Γ sg h c g g2 o o2 A K (s_Camp_go A K σ τ T F U G P x1 x2).2.2 τ T F U G P) := by
  refine Call.of_go (L := [some (.ref c), some (.int x1), some (.int x2)]) (by decide +kernel) rfl (by exact Nat.le_of_ble_eq_true rfl) ?_
  unfold s_Camp_go
  refine Go.aload_0 d_Camp_go_0 rfl ?_
  refine Go.getfield d_Camp_go_1 rfl f_Camp_26 (cw_at_c hs hsn hw (by omega) hA ho ho2 hT hU hW hV) (by rfl) ?_
  refine Go.getfield d_Camp_go_4 rfl f_Camp_125 (cw_at_g hs hsn hw (by omega) hA ho ho2 hT hU hW hV) (by rfl) ?_
  refine Go.iload_1 d_Camp_go_7 rfl ?_
  refine Go.csT (C1 := 3) (S1 := 18) (as := [.ref (g + 9), .int x1]) d_Camp_go_8 rfl l_Camp_135 k_Camp_needRow_s rfl rfl rfl (c_Camp_needRow (cw_at_g_9 hs hsn hw (by omega) hA ho ho2 hT hU hW hV) hms hth) rfl rfl rfl rfl rfl rfl (fun t8_1 z2 hz => ?_) (fun t8_1 => ?_)
  · rw [if_neg t8_1]
    exact ⟨t8_1, rfl, by dsimp only, hz⟩
  refine Go.aload_0 d_Camp_go_11 rfl ?_
  refine Go.getfield d_Camp_go_12 rfl f_Camp_26 (cw_at_c hs hsn hw (by omega) hA ho ho2 hT hU hW hV) (by rfl) ?_
  refine Go.iload_1 d_Camp_go_15 rfl ?_
  refine Go.iload_2 d_Camp_go_16 rfl ?_
  refine Go.cv2r d_Camp_go_17 rfl l_Camp_162 k_Glacier_tryGo_v (cw_at_g hs hsn hw (by omega) hA ho ho2 hT hU hW hV) rfl (cw_c_Glacier_tryGo_g hs hsn hw (by omega) hA ho ho2 hT hU hW hV) rfl rfl rfl ?_
  refine Go.if_ne (t := 33) d_Camp_go_20 (by decide) rfl (fun c20_2 => ?_) (fun c20_2 => ?_)
  · refine Go.aload_0 d_Camp_go_33 rfl ?_
    refine Go.getfield d_Camp_go_34 rfl f_Camp_26 (cw_at_c hs hsn hw (by omega) hA ho ho2 hT hU (WFG.of hW (fun j => by simp only [gN_gS, gN_gA, gN_gSW, gN_gSD, gN_gSC, gN_Glacier_changeWarmth, gN_Glacier_letFall, gN_l_Glacier_letCross_23, gN_Glacier_letCross, gN_Glacier_tryGo, gN_Glacier_tryProbe, gN_Glacier_takeFood, gN_Glacier_tryDrill, gN_l_Glacier_moveStakes_2, gN_Glacier_moveStakes, gN_l_Glacier_moveBridges_2, gN_Glacier_moveBridges, gN_Glacier_weather, gN_l_Glacier_eat_46, gN_Glacier_eat, gN_l_Glacier_readStakes_2, gN_Glacier_readStakes, gN_l_Glacier_endDay_12, gN_l_Glacier_endDay_42, gN_Glacier_endDay, gN_l_Glacier_beginAnew_37, gN_Orders_carryOut, gN_l_Glacier_passDay_93, gN_l_Glacier_passDay_61, gN_l_Glacier_passDay_37, gN_l_Glacier_passDay_2, gN_Glacier_passDay])) hV) (by rfl) ?_
    refine Go.getfield d_Camp_go_37 rfl f_Camp_125 (cw_at_g hs hsn hw (by omega) hA ho ho2 hT hU (WFG.of hW (fun j => by simp only [gN_gS, gN_gA, gN_gSW, gN_gSD, gN_gSC, gN_Glacier_changeWarmth, gN_Glacier_letFall, gN_l_Glacier_letCross_23, gN_Glacier_letCross, gN_Glacier_tryGo, gN_Glacier_tryProbe, gN_Glacier_takeFood, gN_Glacier_tryDrill, gN_l_Glacier_moveStakes_2, gN_Glacier_moveStakes, gN_l_Glacier_moveBridges_2, gN_Glacier_moveBridges, gN_Glacier_weather, gN_l_Glacier_eat_46, gN_Glacier_eat, gN_l_Glacier_readStakes_2, gN_Glacier_readStakes, gN_l_Glacier_endDay_12, gN_l_Glacier_endDay_42, gN_Glacier_endDay, gN_l_Glacier_beginAnew_37, gN_Orders_carryOut, gN_l_Glacier_passDay_93, gN_l_Glacier_passDay_61, gN_l_Glacier_passDay_37, gN_l_Glacier_passDay_2, gN_Glacier_passDay])) hV) (by rfl) ?_
    refine Go.iload_1 d_Camp_go_40 rfl ?_
    refine Go.iconst (v := 2) d_Camp_go_41 rfl (by decide) ?_
    refine Go.cv2r d_Camp_go_42 rfl l_Camp_143 k_Table_get_v (cw_at_g_9 hs hsn hw (by omega) hA ho ho2 hT hU (WFG.of hW (fun j => by simp only [gN_gS, gN_gA, gN_gSW, gN_gSD, gN_gSC, gN_Glacier_changeWarmth, gN_Glacier_letFall, gN_l_Glacier_letCross_23, gN_Glacier_letCross, gN_Glacier_tryGo, gN_Glacier_tryProbe, gN_Glacier_takeFood, gN_Glacier_tryDrill, gN_l_Glacier_moveStakes_2, gN_Glacier_moveStakes, gN_l_Glacier_moveBridges_2, gN_Glacier_moveBridges, gN_Glacier_weather, gN_l_Glacier_eat_46, gN_Glacier_eat, gN_l_Glacier_readStakes_2, gN_Glacier_readStakes, gN_l_Glacier_endDay_12, gN_l_Glacier_endDay_42, gN_Glacier_endDay, gN_l_Glacier_beginAnew_37, gN_Orders_carryOut, gN_l_Glacier_passDay_93, gN_l_Glacier_passDay_61, gN_l_Glacier_passDay_37, gN_l_Glacier_passDay_2, gN_Glacier_passDay])) hV) rfl (cw_tab_get_g_9 (cl := 2) hs hsn hw (by omega) hA ho ho2 hT hU (WFG.of hW (fun j => by simp only [gN_gS, gN_gA, gN_gSW, gN_gSD, gN_gSC, gN_Glacier_changeWarmth, gN_Glacier_letFall, gN_l_Glacier_letCross_23, gN_Glacier_letCross, gN_Glacier_tryGo, gN_Glacier_tryProbe, gN_Glacier_takeFood, gN_Glacier_tryDrill, gN_l_Glacier_moveStakes_2, gN_Glacier_moveStakes, gN_l_Glacier_moveBridges_2, gN_Glacier_moveBridges, gN_Glacier_weather, gN_l_Glacier_eat_46, gN_Glacier_eat, gN_l_Glacier_readStakes_2, gN_Glacier_readStakes, gN_l_Glacier_endDay_12, gN_l_Glacier_endDay_42, gN_Glacier_endDay, gN_l_Glacier_beginAnew_37, gN_Orders_carryOut, gN_l_Glacier_passDay_93, gN_l_Glacier_passDay_61, gN_l_Glacier_passDay_37, gN_l_Glacier_passDay_2, gN_Glacier_passDay])) hV rfl (by omega)) rfl rfl rfl ?_
    rw [if_pos t8_1, if_neg c20_2]
    exact Go.iret d_Camp_go_45 rfl rfl ⟨rfl, rfl, by dsimp only, rfl⟩
  · rw [if_pos t8_1, if_pos c20_2]
    exact Go.throwS (names := xnm) (cls := xIS) d_Camp_go_23 d_Camp_go_26 d_Camp_go_27 d_Camp_go_29 d_Camp_go_32 x_Camp_k51 x_ini_IllegalStateException xw_xIS (by decide +kernel) (by decide +kernel) (hms 166 "the team cannot go" (by decide)) hth rfl rfl (by decide) rfl rfl rfl (fun z2 hz => ⟨show ¬ (3 : Int32) = 0 by decide, rfl, by dsimp only, hz⟩)
theorem cw_c_Glacier_tryProbe_g {Γ : G9} {sg : Nat → Nat} {sw : Nat} {h : AH} {c g g2 o o2 z : Nat} {A : TA} {K : TK} {σ : GL} {τ : GL} {T : TM} {F : FM} {U : TM} {G : FM} {P : CP} {x1 : Int32} {x2 : Int32} (hs : SgOk Γ sg) (hsn : SgNe sg) (hw : SwOk Γ sw) (geo : c + 7 ≤ g ∧ c + 7 ≤ g2 ∧ (g + 12 ≤ g2 ∨ g2 + 12 ≤ g) ∧ g + 12 ≤ o ∧ g + 12 ≤ o2 ∧ g2 + 12 ≤ o ∧ g2 + 12 ≤ o2 ∧ (o + 7 ≤ o2 ∨ o2 + 7 ≤ o)) (hA : ta_sz A ≤ 2000) (ho : h o = some (.inr (3, [.ref (o + 1), .ref (o + 3)]))) (ho2 : h o2 = some (.inr (3, [.ref (o2 + 1), .ref (o2 + 3)]))) (hT : T.2 ≤ 20) (hU : U.2 ≤ 20) (hW : WFG σ) (hV : WFG τ) : CallR Γ M_Glacier_tryProbe 2 [.ref g, .int x1, .int x2] (cw_ Γ sg h c g g2 o o2 A K σ τ T F U G P) z (some (.int (s_Glacier_tryProbe σ x1 x2).1)) (cw_ Γ sg h c g g2 o o2 A K (s_Glacier_tryProbe σ x1 x2).2 τ T F U G P) := by
  unfold cw_
  exact CallR.conv ((((((blk_in (blk_in (blk_in (blk_in (blk_in (blk_comm (by omega))))))).trans (blk_in (blk_in (blk_in (blk_in (blk_comm (by omega))))))).trans (blk_in (blk_in (blk_in (blk_comm (by omega)))))).trans (blk_in (blk_in (blk_comm (by omega))))).trans (blk_in (blk_comm (by omega)))).trans (blk_comm (by omega))) ((((((blk_comm (by omega)).trans (blk_in (blk_comm (by omega)))).trans (blk_in (blk_in (blk_comm (by omega))))).trans (blk_in (blk_in (blk_in (blk_comm (by omega)))))).trans (blk_in (blk_in (blk_in (blk_in (blk_comm (by omega))))))).trans (blk_in (blk_in (blk_in (blk_in (blk_in (blk_comm (by omega)))))))) (c_Glacier_tryProbe hW)
theorem cw_tab_get_g_5 {Γ : G9} {sg : Nat → Nat} {sw : Nat} {h : AH} {c g g2 o o2 z : Nat} {A : TA} {K : TK} {σ : GL} {τ : GL} {T : TM} {F : FM} {U : TM} {G : FM} {P : CP} {row : Int32} {cl : Nat} {ci : Int32} (hs : SgOk Γ sg) (hsn : SgNe sg) (hw : SwOk Γ sw) (geo : c + 7 ≤ g ∧ c + 7 ≤ g2 ∧ (g + 12 ≤ g2 ∨ g2 + 12 ≤ g) ∧ g + 12 ≤ o ∧ g + 12 ≤ o2 ∧ g2 + 12 ≤ o ∧ g2 + 12 ≤ o2 ∧ (o + 7 ≤ o2 ∨ o2 + 7 ≤ o)) (hA : ta_sz A ≤ 2000) (ho : h o = some (.inr (3, [.ref (o + 1), .ref (o + 3)]))) (ho2 : h o2 = some (.inr (3, [.ref (o2 + 1), .ref (o2 + 3)]))) (hT : T.2 ≤ 20) (hU : U.2 ≤ 20) (hW : WFG σ) (hV : WFG τ) (hci : ci = nI cl) (hcl : cl < 8) : CallR Γ M_Table_get 0 [.ref (g + 5), .int row, .int ci] (cw_ Γ sg h c g g2 o o2 A K σ τ T F U G P) z (some (.int (gG σ 2 row cl))) (cw_ Γ sg h c g g2 o o2 A K σ τ T F U G P) := by
  subst hci
  unfold cw_
  exact CallR.conv ((((((blk_in (blk_in (blk_in (blk_in (blk_in (blk_comm (by omega))))))).trans (blk_in (blk_in (blk_in (blk_in (blk_comm (by omega))))))).trans (blk_in (blk_in (blk_in (blk_comm (by omega)))))).trans (blk_in (blk_in (blk_comm (by omega))))).trans (blk_in (blk_comm (by omega)))).trans (blk_comm (by omega))) ((((((blk_comm (by omega)).trans (blk_in (blk_comm (by omega)))).trans (blk_in (blk_in (blk_comm (by omega))))).trans (blk_in (blk_in (blk_in (blk_comm (by omega)))))).trans (blk_in (blk_in (blk_in (blk_in (blk_comm (by omega))))))).trans (blk_in (blk_in (blk_in (blk_in (blk_in (blk_comm (by omega)))))))) (cG_get (k := 2) (by decide) (c := cl) rfl (by omega) hW)
theorem d_Camp_probe_0 : decode M_Camp_probe.2.1 0 = .ok (.aload_n 0, 1) := by decide +kernel
theorem d_Camp_probe_1 : decode M_Camp_probe.2.1 1 = .ok (.getfield 26, 3) := by decide +kernel
theorem d_Camp_probe_4 : decode M_Camp_probe.2.1 4 = .ok (.getfield 125, 3) := by decide +kernel
theorem d_Camp_probe_7 : decode M_Camp_probe.2.1 7 = .ok (.iload_n 1, 1) := by decide +kernel
theorem d_Camp_probe_8 : decode M_Camp_probe.2.1 8 = .ok (.invokestatic 135, 3) := by decide +kernel
theorem d_Camp_probe_11 : decode M_Camp_probe.2.1 11 = .ok (.aload_n 0, 1) := by decide +kernel
theorem d_Camp_probe_12 : decode M_Camp_probe.2.1 12 = .ok (.getfield 26, 3) := by decide +kernel
theorem d_Camp_probe_15 : decode M_Camp_probe.2.1 15 = .ok (.getfield 119, 3) := by decide +kernel
theorem d_Camp_probe_18 : decode M_Camp_probe.2.1 18 = .ok (.iload_n 2, 1) := by decide +kernel
theorem d_Camp_probe_19 : decode M_Camp_probe.2.1 19 = .ok (.invokestatic 135, 3) := by decide +kernel
theorem d_Camp_probe_22 : decode M_Camp_probe.2.1 22 = .ok (.aload_n 0, 1) := by decide +kernel
theorem d_Camp_probe_23 : decode M_Camp_probe.2.1 23 = .ok (.getfield 26, 3) := by decide +kernel
theorem d_Camp_probe_26 : decode M_Camp_probe.2.1 26 = .ok (.iload_n 1, 1) := by decide +kernel
theorem d_Camp_probe_27 : decode M_Camp_probe.2.1 27 = .ok (.iload_n 2, 1) := by decide +kernel
theorem d_Camp_probe_28 : decode M_Camp_probe.2.1 28 = .ok (.invokevirtual 168, 3) := by decide +kernel
theorem d_Camp_probe_31 : decode M_Camp_probe.2.1 31 = .ok (.ifCond .ne 13, 3) := by decide +kernel
theorem d_Camp_probe_34 : decode M_Camp_probe.2.1 34 = .ok (.new 51, 3) := by decide +kernel
theorem d_Camp_probe_37 : decode M_Camp_probe.2.1 37 = .ok (.dup, 1) := by decide +kernel
theorem d_Camp_probe_38 : decode M_Camp_probe.2.1 38 = .ok (.ldc 172, 2) := by decide +kernel
theorem d_Camp_probe_40 : decode M_Camp_probe.2.1 40 = .ok (.invokespecial 55, 3) := by decide +kernel
theorem d_Camp_probe_43 : decode M_Camp_probe.2.1 43 = .ok (.athrow, 1) := by decide +kernel
theorem d_Camp_probe_44 : decode M_Camp_probe.2.1 44 = .ok (.aload_n 0, 1) := by decide +kernel
theorem d_Camp_probe_45 : decode M_Camp_probe.2.1 45 = .ok (.getfield 26, 3) := by decide +kernel
theorem d_Camp_probe_48 : decode M_Camp_probe.2.1 48 = .ok (.getfield 119, 3) := by decide +kernel
theorem d_Camp_probe_51 : decode M_Camp_probe.2.1 51 = .ok (.iload_n 2, 1) := by decide +kernel
theorem d_Camp_probe_52 : decode M_Camp_probe.2.1 52 = .ok (.iconst 1, 1) := by decide +kernel
theorem d_Camp_probe_53 : decode M_Camp_probe.2.1 53 = .ok (.invokevirtual 143, 3) := by decide +kernel
theorem d_Camp_probe_56 : decode M_Camp_probe.2.1 56 = .ok (.ireturn, 1) := by decide +kernel
def s_Camp_probe (A : TA) (K : TK) (σ : GL) (τ : GL) (T : TM) (F : FM) (U : TM) (G : FM) (P : CP) (x1 : Int32) (x2 : Int32) : Int32 × Int32 × GL := (if (s_Camp_needRow (σ.1 4) x1) = 0 then (if (s_Camp_needRow (σ.1 2) x2) = 0 then (if (s_Glacier_tryProbe σ x1 x2).1 = 0 then (3, 0, (s_Glacier_tryProbe σ x1 x2).2) else (0, (gG (s_Glacier_tryProbe σ x1 x2).2 2 x2 1), (s_Glacier_tryProbe σ x1 x2).2)) else ((s_Camp_needRow (σ.1 2) x2), 0, σ)) else ((s_Camp_needRow (σ.1 4) x1), 0, σ))
set_option maxRecDepth 100000 in
set_option maxHeartbeats 800000 in
theorem c_Camp_probe {Γ : G9} {sg : Nat → Nat} {sw : Nat} {ms : Nat → Nat} {h : AH} {c g g2 o o2 z : Nat} {A : TA} {K : TK} {σ : GL} {τ : GL} {T : TM} {F : FM} {U : TM} {G : FM} {P : CP} {x1 : Int32} {x2 : Int32} (hs : SgOk Γ sg) (hsn : SgNe sg) (hw : SwOk Γ sw) (geo : c + 7 ≤ g ∧ c + 7 ≤ g2 ∧ (g + 12 ≤ g2 ∨ g2 + 12 ≤ g) ∧ g + 12 ≤ o ∧ g + 12 ≤ o2 ∧ g2 + 12 ≤ o ∧ g2 + 12 ≤ o2 ∧ (o + 7 ≤ o2 ∨ o2 + 7 ≤ o)) (hA : ta_sz A ≤ 2000) (ho : h o = some (.inr (3, [.ref (o + 1), .ref (o + 3)]))) (ho2 : h o2 = some (.inr (3, [.ref (o2 + 1), .ref (o2 + 3)]))) (hT : T.2 ≤ 20) (hU : U.2 ≤ 20) (hW : WFG σ) (hV : WFG τ) (hms : MsOk Γ ms) (hth : ThOk Γ) : CallT Γ M_Camp_probe 7 4 24 [.ref c, .int x1, .int x2] (cw_ Γ sg h c g g2 o o2 A K σ τ T F U G P) z (s_Camp_probe A K σ τ T F U G P x1 x2).1 (some (.int (s_Camp_probe A K σ τ T F U G P x1 x2).2.1)) (cw_ Γ sg h c g g2 o o2 A K (s_Camp_probe A K σ τ T F U G P x1 x2).2.2 τ T F U G P) := by
  refine Call.of_go (L := [some (.ref c), some (.int x1), some (.int x2)]) (by decide +kernel) rfl (by exact Nat.le_of_ble_eq_true rfl) ?_
  unfold s_Camp_probe
  refine Go.aload_0 d_Camp_probe_0 rfl ?_
  refine Go.getfield d_Camp_probe_1 rfl f_Camp_26 (cw_at_c hs hsn hw (by omega) hA ho ho2 hT hU hW hV) (by rfl) ?_
  refine Go.getfield d_Camp_probe_4 rfl f_Camp_125 (cw_at_g hs hsn hw (by omega) hA ho ho2 hT hU hW hV) (by rfl) ?_
  refine Go.iload_1 d_Camp_probe_7 rfl ?_
  refine Go.csT (C1 := 3) (S1 := 18) (as := [.ref (g + 9), .int x1]) d_Camp_probe_8 rfl l_Camp_135 k_Camp_needRow_s rfl rfl rfl (c_Camp_needRow (cw_at_g_9 hs hsn hw (by omega) hA ho ho2 hT hU hW hV) hms hth) rfl rfl rfl rfl rfl rfl (fun t8_1 z2 hz => ?_) (fun t8_1 => ?_)
  · rw [if_neg t8_1]
    exact ⟨t8_1, rfl, by dsimp only, hz⟩
  refine Go.aload_0 d_Camp_probe_11 rfl ?_
  refine Go.getfield d_Camp_probe_12 rfl f_Camp_26 (cw_at_c hs hsn hw (by omega) hA ho ho2 hT hU hW hV) (by rfl) ?_
  refine Go.getfield d_Camp_probe_15 rfl f_Camp_119 (cw_at_g hs hsn hw (by omega) hA ho ho2 hT hU hW hV) (by rfl) ?_
  refine Go.iload_2 d_Camp_probe_18 rfl ?_
  refine Go.csT (C1 := 2) (S1 := 12) (as := [.ref (g + 5), .int x2]) d_Camp_probe_19 rfl l_Camp_135 k_Camp_needRow_s rfl rfl rfl (c_Camp_needRow (cw_at_g_5 hs hsn hw (by omega) hA ho ho2 hT hU hW hV) hms hth) rfl rfl rfl rfl rfl rfl (fun t19_2 z2 hz => ?_) (fun t19_2 => ?_)
  · rw [if_pos t8_1, if_neg t19_2]
    exact ⟨t19_2, rfl, by dsimp only, hz⟩
  refine Go.aload_0 d_Camp_probe_22 rfl ?_
  refine Go.getfield d_Camp_probe_23 rfl f_Camp_26 (cw_at_c hs hsn hw (by omega) hA ho ho2 hT hU hW hV) (by rfl) ?_
  refine Go.iload_1 d_Camp_probe_26 rfl ?_
  refine Go.iload_2 d_Camp_probe_27 rfl ?_
  refine Go.cv2r d_Camp_probe_28 rfl l_Camp_168 k_Glacier_tryProbe_v (cw_at_g hs hsn hw (by omega) hA ho ho2 hT hU hW hV) rfl (cw_c_Glacier_tryProbe_g hs hsn hw (by omega) hA ho ho2 hT hU hW hV) rfl rfl rfl ?_
  refine Go.if_ne (t := 44) d_Camp_probe_31 (by decide) rfl (fun c31_3 => ?_) (fun c31_3 => ?_)
  · refine Go.aload_0 d_Camp_probe_44 rfl ?_
    refine Go.getfield d_Camp_probe_45 rfl f_Camp_26 (cw_at_c hs hsn hw (by omega) hA ho ho2 hT hU (WFG.of hW (fun j => by simp only [gN_gS, gN_gA, gN_gSW, gN_gSD, gN_gSC, gN_Glacier_changeWarmth, gN_Glacier_letFall, gN_l_Glacier_letCross_23, gN_Glacier_letCross, gN_Glacier_tryGo, gN_Glacier_tryProbe, gN_Glacier_takeFood, gN_Glacier_tryDrill, gN_l_Glacier_moveStakes_2, gN_Glacier_moveStakes, gN_l_Glacier_moveBridges_2, gN_Glacier_moveBridges, gN_Glacier_weather, gN_l_Glacier_eat_46, gN_Glacier_eat, gN_l_Glacier_readStakes_2, gN_Glacier_readStakes, gN_l_Glacier_endDay_12, gN_l_Glacier_endDay_42, gN_Glacier_endDay, gN_l_Glacier_beginAnew_37, gN_Orders_carryOut, gN_l_Glacier_passDay_93, gN_l_Glacier_passDay_61, gN_l_Glacier_passDay_37, gN_l_Glacier_passDay_2, gN_Glacier_passDay])) hV) (by rfl) ?_
    refine Go.getfield d_Camp_probe_48 rfl f_Camp_119 (cw_at_g hs hsn hw (by omega) hA ho ho2 hT hU (WFG.of hW (fun j => by simp only [gN_gS, gN_gA, gN_gSW, gN_gSD, gN_gSC, gN_Glacier_changeWarmth, gN_Glacier_letFall, gN_l_Glacier_letCross_23, gN_Glacier_letCross, gN_Glacier_tryGo, gN_Glacier_tryProbe, gN_Glacier_takeFood, gN_Glacier_tryDrill, gN_l_Glacier_moveStakes_2, gN_Glacier_moveStakes, gN_l_Glacier_moveBridges_2, gN_Glacier_moveBridges, gN_Glacier_weather, gN_l_Glacier_eat_46, gN_Glacier_eat, gN_l_Glacier_readStakes_2, gN_Glacier_readStakes, gN_l_Glacier_endDay_12, gN_l_Glacier_endDay_42, gN_Glacier_endDay, gN_l_Glacier_beginAnew_37, gN_Orders_carryOut, gN_l_Glacier_passDay_93, gN_l_Glacier_passDay_61, gN_l_Glacier_passDay_37, gN_l_Glacier_passDay_2, gN_Glacier_passDay])) hV) (by rfl) ?_
    refine Go.iload_2 d_Camp_probe_51 rfl ?_
    refine Go.iconst (v := 1) d_Camp_probe_52 rfl (by decide) ?_
    refine Go.cv2r d_Camp_probe_53 rfl l_Camp_143 k_Table_get_v (cw_at_g_5 hs hsn hw (by omega) hA ho ho2 hT hU (WFG.of hW (fun j => by simp only [gN_gS, gN_gA, gN_gSW, gN_gSD, gN_gSC, gN_Glacier_changeWarmth, gN_Glacier_letFall, gN_l_Glacier_letCross_23, gN_Glacier_letCross, gN_Glacier_tryGo, gN_Glacier_tryProbe, gN_Glacier_takeFood, gN_Glacier_tryDrill, gN_l_Glacier_moveStakes_2, gN_Glacier_moveStakes, gN_l_Glacier_moveBridges_2, gN_Glacier_moveBridges, gN_Glacier_weather, gN_l_Glacier_eat_46, gN_Glacier_eat, gN_l_Glacier_readStakes_2, gN_Glacier_readStakes, gN_l_Glacier_endDay_12, gN_l_Glacier_endDay_42, gN_Glacier_endDay, gN_l_Glacier_beginAnew_37, gN_Orders_carryOut, gN_l_Glacier_passDay_93, gN_l_Glacier_passDay_61, gN_l_Glacier_passDay_37, gN_l_Glacier_passDay_2, gN_Glacier_passDay])) hV) rfl (cw_tab_get_g_5 (cl := 1) hs hsn hw (by omega) hA ho ho2 hT hU (WFG.of hW (fun j => by simp only [gN_gS, gN_gA, gN_gSW, gN_gSD, gN_gSC, gN_Glacier_changeWarmth, gN_Glacier_letFall, gN_l_Glacier_letCross_23, gN_Glacier_letCross, gN_Glacier_tryGo, gN_Glacier_tryProbe, gN_Glacier_takeFood, gN_Glacier_tryDrill, gN_l_Glacier_moveStakes_2, gN_Glacier_moveStakes, gN_l_Glacier_moveBridges_2, gN_Glacier_moveBridges, gN_Glacier_weather, gN_l_Glacier_eat_46, gN_Glacier_eat, gN_l_Glacier_readStakes_2, gN_Glacier_readStakes, gN_l_Glacier_endDay_12, gN_l_Glacier_endDay_42, gN_Glacier_endDay, gN_l_Glacier_beginAnew_37, gN_Orders_carryOut, gN_l_Glacier_passDay_93, gN_l_Glacier_passDay_61, gN_l_Glacier_passDay_37, gN_l_Glacier_passDay_2, gN_Glacier_passDay])) hV rfl (by omega)) rfl rfl rfl ?_
    rw [if_pos t8_1, if_pos t19_2, if_neg c31_3]
    exact Go.iret d_Camp_probe_56 rfl rfl ⟨rfl, rfl, by dsimp only, rfl⟩
  · rw [if_pos t8_1, if_pos t19_2, if_pos c31_3]
    exact Go.throwS (names := xnm) (cls := xIS) d_Camp_probe_34 d_Camp_probe_37 d_Camp_probe_38 d_Camp_probe_40 d_Camp_probe_43 x_Camp_k51 x_ini_IllegalStateException xw_xIS (by decide +kernel) (by decide +kernel) (hms 172 "the team cannot probe" (by decide)) hth rfl rfl (by decide) rfl rfl rfl (fun z2 hz => ⟨show ¬ (3 : Int32) = 0 by decide, rfl, by dsimp only, hz⟩)
theorem cw_c_Glacier_takeFood_g {Γ : G9} {sg : Nat → Nat} {sw : Nat} {h : AH} {c g g2 o o2 z : Nat} {A : TA} {K : TK} {σ : GL} {τ : GL} {T : TM} {F : FM} {U : TM} {G : FM} {P : CP} {x1 : Int32} {x2 : Int32} (hs : SgOk Γ sg) (hsn : SgNe sg) (hw : SwOk Γ sw) (geo : c + 7 ≤ g ∧ c + 7 ≤ g2 ∧ (g + 12 ≤ g2 ∨ g2 + 12 ≤ g) ∧ g + 12 ≤ o ∧ g + 12 ≤ o2 ∧ g2 + 12 ≤ o ∧ g2 + 12 ≤ o2 ∧ (o + 7 ≤ o2 ∨ o2 + 7 ≤ o)) (hA : ta_sz A ≤ 2000) (ho : h o = some (.inr (3, [.ref (o + 1), .ref (o + 3)]))) (ho2 : h o2 = some (.inr (3, [.ref (o2 + 1), .ref (o2 + 3)]))) (hT : T.2 ≤ 20) (hU : U.2 ≤ 20) (hW : WFG σ) (hV : WFG τ) : CallR Γ M_Glacier_takeFood 2 [.ref g, .int x1, .int x2] (cw_ Γ sg h c g g2 o o2 A K σ τ T F U G P) z (some (.int (s_Glacier_takeFood σ x1 x2).1)) (cw_ Γ sg h c g g2 o o2 A K (s_Glacier_takeFood σ x1 x2).2 τ T F U G P) := by
  unfold cw_
  exact CallR.conv ((((((blk_in (blk_in (blk_in (blk_in (blk_in (blk_comm (by omega))))))).trans (blk_in (blk_in (blk_in (blk_in (blk_comm (by omega))))))).trans (blk_in (blk_in (blk_in (blk_comm (by omega)))))).trans (blk_in (blk_in (blk_comm (by omega))))).trans (blk_in (blk_comm (by omega)))).trans (blk_comm (by omega))) ((((((blk_comm (by omega)).trans (blk_in (blk_comm (by omega)))).trans (blk_in (blk_in (blk_comm (by omega))))).trans (blk_in (blk_in (blk_in (blk_comm (by omega)))))).trans (blk_in (blk_in (blk_in (blk_in (blk_comm (by omega))))))).trans (blk_in (blk_in (blk_in (blk_in (blk_in (blk_comm (by omega)))))))) (c_Glacier_takeFood hW)
theorem d_Camp_fill_0 : decode M_Camp_fill.2.1 0 = .ok (.aload_n 0, 1) := by decide +kernel
theorem d_Camp_fill_1 : decode M_Camp_fill.2.1 1 = .ok (.getfield 26, 3) := by decide +kernel
theorem d_Camp_fill_4 : decode M_Camp_fill.2.1 4 = .ok (.getfield 125, 3) := by decide +kernel
theorem d_Camp_fill_7 : decode M_Camp_fill.2.1 7 = .ok (.iload_n 1, 1) := by decide +kernel
theorem d_Camp_fill_8 : decode M_Camp_fill.2.1 8 = .ok (.invokestatic 135, 3) := by decide +kernel
theorem d_Camp_fill_11 : decode M_Camp_fill.2.1 11 = .ok (.iload_n 2, 1) := by decide +kernel
theorem d_Camp_fill_12 : decode M_Camp_fill.2.1 12 = .ok (.iconst 1, 1) := by decide +kernel
theorem d_Camp_fill_13 : decode M_Camp_fill.2.1 13 = .ok (.bipush 40, 2) := by decide +kernel
theorem d_Camp_fill_15 : decode M_Camp_fill.2.1 15 = .ok (.invokestatic 174, 3) := by decide +kernel
theorem d_Camp_fill_18 : decode M_Camp_fill.2.1 18 = .ok (.aload_n 0, 1) := by decide +kernel
theorem d_Camp_fill_19 : decode M_Camp_fill.2.1 19 = .ok (.getfield 26, 3) := by decide +kernel
theorem d_Camp_fill_22 : decode M_Camp_fill.2.1 22 = .ok (.iload_n 1, 1) := by decide +kernel
theorem d_Camp_fill_23 : decode M_Camp_fill.2.1 23 = .ok (.iload_n 2, 1) := by decide +kernel
theorem d_Camp_fill_24 : decode M_Camp_fill.2.1 24 = .ok (.invokevirtual 178, 3) := by decide +kernel
theorem d_Camp_fill_27 : decode M_Camp_fill.2.1 27 = .ok (.istore_n 3, 1) := by decide +kernel
theorem d_Camp_fill_28 : decode M_Camp_fill.2.1 28 = .ok (.iload_n 3, 1) := by decide +kernel
theorem d_Camp_fill_29 : decode M_Camp_fill.2.1 29 = .ok (.ifCond .ne 13, 3) := by decide +kernel
theorem d_Camp_fill_32 : decode M_Camp_fill.2.1 32 = .ok (.new 51, 3) := by decide +kernel
theorem d_Camp_fill_35 : decode M_Camp_fill.2.1 35 = .ok (.dup, 1) := by decide +kernel
theorem d_Camp_fill_36 : decode M_Camp_fill.2.1 36 = .ok (.ldc 181, 2) := by decide +kernel
theorem d_Camp_fill_38 : decode M_Camp_fill.2.1 38 = .ok (.invokespecial 55, 3) := by decide +kernel
theorem d_Camp_fill_41 : decode M_Camp_fill.2.1 41 = .ok (.athrow, 1) := by decide +kernel
theorem d_Camp_fill_42 : decode M_Camp_fill.2.1 42 = .ok (.iload_n 3, 1) := by decide +kernel
theorem d_Camp_fill_43 : decode M_Camp_fill.2.1 43 = .ok (.ireturn, 1) := by decide +kernel
def s_Camp_fill (A : TA) (K : TK) (σ : GL) (τ : GL) (T : TM) (F : FM) (U : TM) (G : FM) (P : CP) (x1 : Int32) (x2 : Int32) : Int32 × Int32 × GL := (if (s_Camp_needRow (σ.1 4) x1) = 0 then (if (s_Camp_needRange x2 1 40) = 0 then (if (s_Glacier_takeFood σ x1 x2).1 = 0 then (3, 0, (s_Glacier_takeFood σ x1 x2).2) else (0, (s_Glacier_takeFood σ x1 x2).1, (s_Glacier_takeFood σ x1 x2).2)) else ((s_Camp_needRange x2 1 40), 0, σ)) else ((s_Camp_needRow (σ.1 4) x1), 0, σ))
set_option maxRecDepth 100000 in
set_option maxHeartbeats 800000 in
theorem c_Camp_fill {Γ : G9} {sg : Nat → Nat} {sw : Nat} {ms : Nat → Nat} {h : AH} {c g g2 o o2 z : Nat} {A : TA} {K : TK} {σ : GL} {τ : GL} {T : TM} {F : FM} {U : TM} {G : FM} {P : CP} {x1 : Int32} {x2 : Int32} (hs : SgOk Γ sg) (hsn : SgNe sg) (hw : SwOk Γ sw) (geo : c + 7 ≤ g ∧ c + 7 ≤ g2 ∧ (g + 12 ≤ g2 ∨ g2 + 12 ≤ g) ∧ g + 12 ≤ o ∧ g + 12 ≤ o2 ∧ g2 + 12 ≤ o ∧ g2 + 12 ≤ o2 ∧ (o + 7 ≤ o2 ∨ o2 + 7 ≤ o)) (hA : ta_sz A ≤ 2000) (ho : h o = some (.inr (3, [.ref (o + 1), .ref (o + 3)]))) (ho2 : h o2 = some (.inr (3, [.ref (o2 + 1), .ref (o2 + 3)]))) (hT : T.2 ≤ 20) (hU : U.2 ≤ 20) (hW : WFG σ) (hV : WFG τ) (hms : MsOk Γ ms) (hth : ThOk Γ) : CallT Γ M_Camp_fill 7 4 24 [.ref c, .int x1, .int x2] (cw_ Γ sg h c g g2 o o2 A K σ τ T F U G P) z (s_Camp_fill A K σ τ T F U G P x1 x2).1 (some (.int (s_Camp_fill A K σ τ T F U G P x1 x2).2.1)) (cw_ Γ sg h c g g2 o o2 A K (s_Camp_fill A K σ τ T F U G P x1 x2).2.2 τ T F U G P) := by
  refine Call.of_go (L := [some (.ref c), some (.int x1), some (.int x2), none]) (by decide +kernel) rfl (by exact Nat.le_of_ble_eq_true rfl) ?_
  unfold s_Camp_fill
  refine Go.aload_0 d_Camp_fill_0 rfl ?_
  refine Go.getfield d_Camp_fill_1 rfl f_Camp_26 (cw_at_c hs hsn hw (by omega) hA ho ho2 hT hU hW hV) (by rfl) ?_
  refine Go.getfield d_Camp_fill_4 rfl f_Camp_125 (cw_at_g hs hsn hw (by omega) hA ho ho2 hT hU hW hV) (by rfl) ?_
  refine Go.iload_1 d_Camp_fill_7 rfl ?_
  refine Go.csT (C1 := 3) (S1 := 18) (as := [.ref (g + 9), .int x1]) d_Camp_fill_8 rfl l_Camp_135 k_Camp_needRow_s rfl rfl rfl (c_Camp_needRow (cw_at_g_9 hs hsn hw (by omega) hA ho ho2 hT hU hW hV) hms hth) rfl rfl rfl rfl rfl rfl (fun t8_1 z2 hz => ?_) (fun t8_1 => ?_)
  · rw [if_neg t8_1]
    exact ⟨t8_1, rfl, by dsimp only, hz⟩
  refine Go.iload_2 d_Camp_fill_11 rfl ?_
  refine Go.iconst (v := 1) d_Camp_fill_12 rfl (by decide) ?_
  refine Go.bipush (v := 40) d_Camp_fill_13 rfl (by decide) ?_
  refine Go.csT (C1 := 2) (S1 := 12) (as := [.int x2, .int 1, .int 40]) d_Camp_fill_15 rfl l_Camp_174 k_Camp_needRange_s rfl rfl rfl (c_Camp_needRange hms hth) rfl rfl rfl rfl rfl rfl (fun t15_2 z2 hz => ?_) (fun t15_2 => ?_)
  · rw [if_pos t8_1, if_neg t15_2]
    exact ⟨t15_2, rfl, by dsimp only, hz⟩
  refine Go.aload_0 d_Camp_fill_18 rfl ?_
  refine Go.getfield d_Camp_fill_19 rfl f_Camp_26 (cw_at_c hs hsn hw (by omega) hA ho ho2 hT hU hW hV) (by rfl) ?_
  refine Go.iload_1 d_Camp_fill_22 rfl ?_
  refine Go.iload_2 d_Camp_fill_23 rfl ?_
  refine Go.cv2r d_Camp_fill_24 rfl l_Camp_178 k_Glacier_takeFood_v (cw_at_g hs hsn hw (by omega) hA ho ho2 hT hU hW hV) rfl (cw_c_Glacier_takeFood_g hs hsn hw (by omega) hA ho ho2 hT hU hW hV) rfl rfl rfl ?_
  refine Go.istore_3 d_Camp_fill_27 rfl (by rfl) ?_
  refine Go.iload_3 d_Camp_fill_28 rfl ?_
  refine Go.if_ne (t := 42) d_Camp_fill_29 (by decide) rfl (fun c29_3 => ?_) (fun c29_3 => ?_)
  · refine Go.iload_3 d_Camp_fill_42 rfl ?_
    rw [if_pos t8_1, if_pos t15_2, if_neg c29_3]
    exact Go.iret d_Camp_fill_43 rfl rfl ⟨rfl, rfl, by dsimp only, rfl⟩
  · rw [if_pos t8_1, if_pos t15_2, if_pos c29_3]
    exact Go.throwS (names := xnm) (cls := xIS) d_Camp_fill_32 d_Camp_fill_35 d_Camp_fill_36 d_Camp_fill_38 d_Camp_fill_41 x_Camp_k51 x_ini_IllegalStateException xw_xIS (by decide +kernel) (by decide +kernel) (hms 181 "nothing comes into the sack" (by decide)) hth rfl rfl (by decide) rfl rfl rfl (fun z2 hz => ⟨show ¬ (3 : Int32) = 0 by decide, rfl, by dsimp only, hz⟩)
theorem cw_tab_set_g_7 {Γ : G9} {sg : Nat → Nat} {sw : Nat} {h : AH} {c g g2 o o2 z : Nat} {A : TA} {K : TK} {σ : GL} {τ : GL} {T : TM} {F : FM} {U : TM} {G : FM} {P : CP} {row : Int32} {cl : Nat} {v : Int32} (hs : SgOk Γ sg) (hsn : SgNe sg) (hw : SwOk Γ sw) (geo : c + 7 ≤ g ∧ c + 7 ≤ g2 ∧ (g + 12 ≤ g2 ∨ g2 + 12 ≤ g) ∧ g + 12 ≤ o ∧ g + 12 ≤ o2 ∧ g2 + 12 ≤ o ∧ g2 + 12 ≤ o2 ∧ (o + 7 ≤ o2 ∨ o2 + 7 ≤ o)) (hA : ta_sz A ≤ 2000) (ho : h o = some (.inr (3, [.ref (o + 1), .ref (o + 3)]))) (ho2 : h o2 = some (.inr (3, [.ref (o2 + 1), .ref (o2 + 3)]))) (hT : T.2 ≤ 20) (hU : U.2 ≤ 20) (hW : WFG σ) (hV : WFG τ) (hcl : cl < 8) : CallR Γ M_Table_set 0 [.ref (g + 7), .int row, .int (nI cl), .int v] (cw_ Γ sg h c g g2 o o2 A K σ τ T F U G P) z none (cw_ Γ sg h c g g2 o o2 A K (gS σ 3 row cl v) τ T F U G P) := by
  unfold cw_
  exact CallR.conv ((((((blk_in (blk_in (blk_in (blk_in (blk_in (blk_comm (by omega))))))).trans (blk_in (blk_in (blk_in (blk_in (blk_comm (by omega))))))).trans (blk_in (blk_in (blk_in (blk_comm (by omega)))))).trans (blk_in (blk_in (blk_comm (by omega))))).trans (blk_in (blk_comm (by omega)))).trans (blk_comm (by omega))) ((((((blk_comm (by omega)).trans (blk_in (blk_comm (by omega)))).trans (blk_in (blk_in (blk_comm (by omega))))).trans (blk_in (blk_in (blk_in (blk_comm (by omega)))))).trans (blk_in (blk_in (blk_in (blk_in (blk_comm (by omega))))))).trans (blk_in (blk_in (blk_in (blk_in (blk_in (blk_comm (by omega)))))))) (cG_set (k := 3) (by decide) (c := cl) rfl (by omega) hW)
theorem d_Camp_stock_0 : decode M_Camp_stock.2.1 0 = .ok (.aload_n 0, 1) := by decide +kernel
theorem d_Camp_stock_1 : decode M_Camp_stock.2.1 1 = .ok (.getfield 26, 3) := by decide +kernel
theorem d_Camp_stock_4 : decode M_Camp_stock.2.1 4 = .ok (.getfield 122, 3) := by decide +kernel
theorem d_Camp_stock_7 : decode M_Camp_stock.2.1 7 = .ok (.iload_n 1, 1) := by decide +kernel
theorem d_Camp_stock_8 : decode M_Camp_stock.2.1 8 = .ok (.invokestatic 135, 3) := by decide +kernel
theorem d_Camp_stock_11 : decode M_Camp_stock.2.1 11 = .ok (.iload_n 2, 1) := by decide +kernel
theorem d_Camp_stock_12 : decode M_Camp_stock.2.1 12 = .ok (.iconst 1, 1) := by decide +kernel
theorem d_Camp_stock_13 : decode M_Camp_stock.2.1 13 = .ok (.sipush 200, 3) := by decide +kernel
theorem d_Camp_stock_16 : decode M_Camp_stock.2.1 16 = .ok (.invokestatic 174, 3) := by decide +kernel
theorem d_Camp_stock_19 : decode M_Camp_stock.2.1 19 = .ok (.sipush 999, 3) := by decide +kernel
theorem d_Camp_stock_22 : decode M_Camp_stock.2.1 22 = .ok (.aload_n 0, 1) := by decide +kernel
theorem d_Camp_stock_23 : decode M_Camp_stock.2.1 23 = .ok (.getfield 26, 3) := by decide +kernel
theorem d_Camp_stock_26 : decode M_Camp_stock.2.1 26 = .ok (.getfield 122, 3) := by decide +kernel
theorem d_Camp_stock_29 : decode M_Camp_stock.2.1 29 = .ok (.iload_n 1, 1) := by decide +kernel
theorem d_Camp_stock_30 : decode M_Camp_stock.2.1 30 = .ok (.iconst 1, 1) := by decide +kernel
theorem d_Camp_stock_31 : decode M_Camp_stock.2.1 31 = .ok (.invokevirtual 143, 3) := by decide +kernel
theorem d_Camp_stock_34 : decode M_Camp_stock.2.1 34 = .ok (.iload_n 2, 1) := by decide +kernel
theorem d_Camp_stock_35 : decode M_Camp_stock.2.1 35 = .ok (.iadd, 1) := by decide +kernel
theorem d_Camp_stock_36 : decode M_Camp_stock.2.1 36 = .ok (.invokestatic 183, 3) := by decide +kernel
theorem d_Camp_stock_39 : decode M_Camp_stock.2.1 39 = .ok (.istore_n 3, 1) := by decide +kernel
theorem d_Camp_stock_40 : decode M_Camp_stock.2.1 40 = .ok (.aload_n 0, 1) := by decide +kernel
theorem d_Camp_stock_41 : decode M_Camp_stock.2.1 41 = .ok (.getfield 26, 3) := by decide +kernel
theorem d_Camp_stock_44 : decode M_Camp_stock.2.1 44 = .ok (.getfield 122, 3) := by decide +kernel
theorem d_Camp_stock_47 : decode M_Camp_stock.2.1 47 = .ok (.iload_n 1, 1) := by decide +kernel
theorem d_Camp_stock_48 : decode M_Camp_stock.2.1 48 = .ok (.iconst 1, 1) := by decide +kernel
theorem d_Camp_stock_49 : decode M_Camp_stock.2.1 49 = .ok (.iload_n 3, 1) := by decide +kernel
theorem d_Camp_stock_50 : decode M_Camp_stock.2.1 50 = .ok (.invokevirtual 188, 3) := by decide +kernel
theorem d_Camp_stock_53 : decode M_Camp_stock.2.1 53 = .ok (.iload_n 3, 1) := by decide +kernel
theorem d_Camp_stock_54 : decode M_Camp_stock.2.1 54 = .ok (.ireturn, 1) := by decide +kernel
def s_Camp_stock (A : TA) (K : TK) (σ : GL) (τ : GL) (T : TM) (F : FM) (U : TM) (G : FM) (P : CP) (x1 : Int32) (x2 : Int32) : Int32 × Int32 × GL := (if (s_Camp_needRow (σ.1 3) x1) = 0 then (if (s_Camp_needRange x2 1 200) = 0 then (0, (iMin 999 ((gG σ 3 x1 1) + x2)), (gS σ 3 x1 1 (iMin 999 ((gG σ 3 x1 1) + x2)))) else ((s_Camp_needRange x2 1 200), 0, σ)) else ((s_Camp_needRow (σ.1 3) x1), 0, σ))
set_option maxRecDepth 100000 in
set_option maxHeartbeats 800000 in
theorem c_Camp_stock {Γ : G9} {sg : Nat → Nat} {sw : Nat} {ms : Nat → Nat} {h : AH} {c g g2 o o2 z : Nat} {A : TA} {K : TK} {σ : GL} {τ : GL} {T : TM} {F : FM} {U : TM} {G : FM} {P : CP} {x1 : Int32} {x2 : Int32} (hs : SgOk Γ sg) (hsn : SgNe sg) (hw : SwOk Γ sw) (geo : c + 7 ≤ g ∧ c + 7 ≤ g2 ∧ (g + 12 ≤ g2 ∨ g2 + 12 ≤ g) ∧ g + 12 ≤ o ∧ g + 12 ≤ o2 ∧ g2 + 12 ≤ o ∧ g2 + 12 ≤ o2 ∧ (o + 7 ≤ o2 ∨ o2 + 7 ≤ o)) (hA : ta_sz A ≤ 2000) (ho : h o = some (.inr (3, [.ref (o + 1), .ref (o + 3)]))) (ho2 : h o2 = some (.inr (3, [.ref (o2 + 1), .ref (o2 + 3)]))) (hT : T.2 ≤ 20) (hU : U.2 ≤ 20) (hW : WFG σ) (hV : WFG τ) (hms : MsOk Γ ms) (hth : ThOk Γ) : CallT Γ M_Camp_stock 7 4 24 [.ref c, .int x1, .int x2] (cw_ Γ sg h c g g2 o o2 A K σ τ T F U G P) z (s_Camp_stock A K σ τ T F U G P x1 x2).1 (some (.int (s_Camp_stock A K σ τ T F U G P x1 x2).2.1)) (cw_ Γ sg h c g g2 o o2 A K (s_Camp_stock A K σ τ T F U G P x1 x2).2.2 τ T F U G P) := by
  refine Call.of_go (L := [some (.ref c), some (.int x1), some (.int x2), none]) (by decide +kernel) rfl (by exact Nat.le_of_ble_eq_true rfl) ?_
  unfold s_Camp_stock
  refine Go.aload_0 d_Camp_stock_0 rfl ?_
  refine Go.getfield d_Camp_stock_1 rfl f_Camp_26 (cw_at_c hs hsn hw (by omega) hA ho ho2 hT hU hW hV) (by rfl) ?_
  refine Go.getfield d_Camp_stock_4 rfl f_Camp_122 (cw_at_g hs hsn hw (by omega) hA ho ho2 hT hU hW hV) (by rfl) ?_
  refine Go.iload_1 d_Camp_stock_7 rfl ?_
  refine Go.csT (C1 := 3) (S1 := 18) (as := [.ref (g + 7), .int x1]) d_Camp_stock_8 rfl l_Camp_135 k_Camp_needRow_s rfl rfl rfl (c_Camp_needRow (cw_at_g_7 hs hsn hw (by omega) hA ho ho2 hT hU hW hV) hms hth) rfl rfl rfl rfl rfl rfl (fun t8_1 z2 hz => ?_) (fun t8_1 => ?_)
  · rw [if_neg t8_1]
    exact ⟨t8_1, rfl, by dsimp only, hz⟩
  refine Go.iload_2 d_Camp_stock_11 rfl ?_
  refine Go.iconst (v := 1) d_Camp_stock_12 rfl (by decide) ?_
  refine Go.sipush (v := 200) d_Camp_stock_13 rfl (by decide) ?_
  refine Go.csT (C1 := 2) (S1 := 12) (as := [.int x2, .int 1, .int 200]) d_Camp_stock_16 rfl l_Camp_174 k_Camp_needRange_s rfl rfl rfl (c_Camp_needRange hms hth) rfl rfl rfl rfl rfl rfl (fun t16_2 z2 hz => ?_) (fun t16_2 => ?_)
  · rw [if_pos t8_1, if_neg t16_2]
    exact ⟨t16_2, rfl, by dsimp only, hz⟩
  refine Go.sipush (v := 999) d_Camp_stock_19 rfl (by decide) ?_
  refine Go.aload_0 d_Camp_stock_22 rfl ?_
  refine Go.getfield d_Camp_stock_23 rfl f_Camp_26 (cw_at_c hs hsn hw (by omega) hA ho ho2 hT hU hW hV) (by rfl) ?_
  refine Go.getfield d_Camp_stock_26 rfl f_Camp_122 (cw_at_g hs hsn hw (by omega) hA ho ho2 hT hU hW hV) (by rfl) ?_
  refine Go.iload_1 d_Camp_stock_29 rfl ?_
  refine Go.iconst (v := 1) d_Camp_stock_30 rfl (by decide) ?_
  refine Go.cv2r d_Camp_stock_31 rfl l_Camp_143 k_Table_get_v (cw_at_g_7 hs hsn hw (by omega) hA ho ho2 hT hU hW hV) rfl (cw_tab_get_g_7 (cl := 1) hs hsn hw (by omega) hA ho ho2 hT hU hW hV rfl (by omega)) rfl rfl rfl ?_
  refine Go.iload_2 d_Camp_stock_34 rfl ?_
  refine Go.iadd d_Camp_stock_35 rfl ?_
  refine Go.imin d_Camp_stock_36 rfl l_Camp_183 (by decide) rfl ?_
  refine Go.istore_3 d_Camp_stock_39 rfl (by rfl) ?_
  refine Go.aload_0 d_Camp_stock_40 rfl ?_
  refine Go.getfield d_Camp_stock_41 rfl f_Camp_26 (cw_at_c hs hsn hw (by omega) hA ho ho2 hT hU hW hV) (by rfl) ?_
  refine Go.getfield d_Camp_stock_44 rfl f_Camp_122 (cw_at_g hs hsn hw (by omega) hA ho ho2 hT hU hW hV) (by rfl) ?_
  refine Go.iload_1 d_Camp_stock_47 rfl ?_
  refine Go.iconst (v := 1) d_Camp_stock_48 rfl (by decide) ?_
  refine Go.iload_3 d_Camp_stock_49 rfl ?_
  refine Go.cv3v d_Camp_stock_50 rfl l_Camp_188 k_Table_set_v (cw_at_g_7 hs hsn hw (by omega) hA ho ho2 hT hU hW hV) rfl (cw_tab_set_g_7 (cl := 1) hs hsn hw (by omega) hA ho ho2 hT hU hW hV (by omega)) rfl rfl rfl ?_
  refine Go.iload_3 d_Camp_stock_53 rfl ?_
  rw [if_pos t8_1, if_pos t16_2]
  exact Go.iret d_Camp_stock_54 rfl rfl ⟨rfl, rfl, by dsimp only, rfl⟩
theorem cw_c_Glacier_warmthOf_g {Γ : G9} {sg : Nat → Nat} {sw : Nat} {h : AH} {c g g2 o o2 z : Nat} {A : TA} {K : TK} {σ : GL} {τ : GL} {T : TM} {F : FM} {U : TM} {G : FM} {P : CP} {x1 : Int32} (hs : SgOk Γ sg) (hsn : SgNe sg) (hw : SwOk Γ sw) (geo : c + 7 ≤ g ∧ c + 7 ≤ g2 ∧ (g + 12 ≤ g2 ∨ g2 + 12 ≤ g) ∧ g + 12 ≤ o ∧ g + 12 ≤ o2 ∧ g2 + 12 ≤ o ∧ g2 + 12 ≤ o2 ∧ (o + 7 ≤ o2 ∨ o2 + 7 ≤ o)) (hA : ta_sz A ≤ 2000) (ho : h o = some (.inr (3, [.ref (o + 1), .ref (o + 3)]))) (ho2 : h o2 = some (.inr (3, [.ref (o2 + 1), .ref (o2 + 3)]))) (hT : T.2 ≤ 20) (hU : U.2 ≤ 20) (hW : WFG σ) (hV : WFG τ) : CallR Γ M_Glacier_warmthOf 0 [.ref g, .int x1] (cw_ Γ sg h c g g2 o o2 A K σ τ T F U G P) z (some (.int (s_Glacier_warmthOf σ x1))) (cw_ Γ sg h c g g2 o o2 A K σ τ T F U G P) := by
  unfold cw_
  exact CallR.conv ((((((blk_in (blk_in (blk_in (blk_in (blk_in (blk_comm (by omega))))))).trans (blk_in (blk_in (blk_in (blk_in (blk_comm (by omega))))))).trans (blk_in (blk_in (blk_in (blk_comm (by omega)))))).trans (blk_in (blk_in (blk_comm (by omega))))).trans (blk_in (blk_comm (by omega)))).trans (blk_comm (by omega))) ((((((blk_comm (by omega)).trans (blk_in (blk_comm (by omega)))).trans (blk_in (blk_in (blk_comm (by omega))))).trans (blk_in (blk_in (blk_in (blk_comm (by omega)))))).trans (blk_in (blk_in (blk_in (blk_in (blk_comm (by omega))))))).trans (blk_in (blk_in (blk_in (blk_in (blk_in (blk_comm (by omega)))))))) (c_Glacier_warmthOf)
theorem cw_c_Glacier_changeWarmth_g {Γ : G9} {sg : Nat → Nat} {sw : Nat} {h : AH} {c g g2 o o2 z : Nat} {A : TA} {K : TK} {σ : GL} {τ : GL} {T : TM} {F : FM} {U : TM} {G : FM} {P : CP} {x1 : Int32} {x2 : Int32} (hs : SgOk Γ sg) (hsn : SgNe sg) (hw : SwOk Γ sw) (geo : c + 7 ≤ g ∧ c + 7 ≤ g2 ∧ (g + 12 ≤ g2 ∨ g2 + 12 ≤ g) ∧ g + 12 ≤ o ∧ g + 12 ≤ o2 ∧ g2 + 12 ≤ o ∧ g2 + 12 ≤ o2 ∧ (o + 7 ≤ o2 ∨ o2 + 7 ≤ o)) (hA : ta_sz A ≤ 2000) (ho : h o = some (.inr (3, [.ref (o + 1), .ref (o + 3)]))) (ho2 : h o2 = some (.inr (3, [.ref (o2 + 1), .ref (o2 + 3)]))) (hT : T.2 ≤ 20) (hU : U.2 ≤ 20) (hW : WFG σ) (hV : WFG τ) : CallR Γ M_Glacier_changeWarmth 0 [.ref g, .int x1, .int x2] (cw_ Γ sg h c g g2 o o2 A K σ τ T F U G P) z none (cw_ Γ sg h c g g2 o o2 A K (s_Glacier_changeWarmth σ x1 x2) τ T F U G P) := by
  unfold cw_
  exact CallR.conv ((((((blk_in (blk_in (blk_in (blk_in (blk_in (blk_comm (by omega))))))).trans (blk_in (blk_in (blk_in (blk_in (blk_comm (by omega))))))).trans (blk_in (blk_in (blk_in (blk_comm (by omega)))))).trans (blk_in (blk_in (blk_comm (by omega))))).trans (blk_in (blk_comm (by omega)))).trans (blk_comm (by omega))) ((((((blk_comm (by omega)).trans (blk_in (blk_comm (by omega)))).trans (blk_in (blk_in (blk_comm (by omega))))).trans (blk_in (blk_in (blk_in (blk_comm (by omega)))))).trans (blk_in (blk_in (blk_in (blk_in (blk_comm (by omega))))))).trans (blk_in (blk_in (blk_in (blk_in (blk_in (blk_comm (by omega)))))))) (c_Glacier_changeWarmth)
theorem d_Camp_setWarm_0 : decode M_Camp_setWarm.2.1 0 = .ok (.iload_n 1, 1) := by decide +kernel
theorem d_Camp_setWarm_1 : decode M_Camp_setWarm.2.1 1 = .ok (.bipush 8, 2) := by decide +kernel
theorem d_Camp_setWarm_3 : decode M_Camp_setWarm.2.1 3 = .ok (.invokestatic 99, 3) := by decide +kernel
theorem d_Camp_setWarm_6 : decode M_Camp_setWarm.2.1 6 = .ok (.iload_n 2, 1) := by decide +kernel
theorem d_Camp_setWarm_7 : decode M_Camp_setWarm.2.1 7 = .ok (.iconst 0, 1) := by decide +kernel
theorem d_Camp_setWarm_8 : decode M_Camp_setWarm.2.1 8 = .ok (.bipush 30, 2) := by decide +kernel
theorem d_Camp_setWarm_10 : decode M_Camp_setWarm.2.1 10 = .ok (.invokestatic 174, 3) := by decide +kernel
theorem d_Camp_setWarm_13 : decode M_Camp_setWarm.2.1 13 = .ok (.aload_n 0, 1) := by decide +kernel
theorem d_Camp_setWarm_14 : decode M_Camp_setWarm.2.1 14 = .ok (.getfield 26, 3) := by decide +kernel
theorem d_Camp_setWarm_17 : decode M_Camp_setWarm.2.1 17 = .ok (.iload_n 1, 1) := by decide +kernel
theorem d_Camp_setWarm_18 : decode M_Camp_setWarm.2.1 18 = .ok (.invokevirtual 191, 3) := by decide +kernel
theorem d_Camp_setWarm_21 : decode M_Camp_setWarm.2.1 21 = .ok (.istore_n 3, 1) := by decide +kernel
theorem d_Camp_setWarm_22 : decode M_Camp_setWarm.2.1 22 = .ok (.aload_n 0, 1) := by decide +kernel
theorem d_Camp_setWarm_23 : decode M_Camp_setWarm.2.1 23 = .ok (.getfield 26, 3) := by decide +kernel
theorem d_Camp_setWarm_26 : decode M_Camp_setWarm.2.1 26 = .ok (.iload_n 1, 1) := by decide +kernel
theorem d_Camp_setWarm_27 : decode M_Camp_setWarm.2.1 27 = .ok (.iload_n 2, 1) := by decide +kernel
theorem d_Camp_setWarm_28 : decode M_Camp_setWarm.2.1 28 = .ok (.invokevirtual 194, 3) := by decide +kernel
theorem d_Camp_setWarm_31 : decode M_Camp_setWarm.2.1 31 = .ok (.iload_n 3, 1) := by decide +kernel
theorem d_Camp_setWarm_32 : decode M_Camp_setWarm.2.1 32 = .ok (.ireturn, 1) := by decide +kernel
def s_Camp_setWarm (A : TA) (K : TK) (σ : GL) (τ : GL) (T : TM) (F : FM) (U : TM) (G : FM) (P : CP) (x1 : Int32) (x2 : Int32) : Int32 × Int32 × GL := (if (s_Camp_needWhat x1 8) = 0 then (if (s_Camp_needRange x2 0 30) = 0 then (0, (s_Glacier_warmthOf σ x1), (s_Glacier_changeWarmth σ x1 x2)) else ((s_Camp_needRange x2 0 30), 0, σ)) else ((s_Camp_needWhat x1 8), 0, σ))
set_option maxRecDepth 100000 in
set_option maxHeartbeats 800000 in
theorem c_Camp_setWarm {Γ : G9} {sg : Nat → Nat} {sw : Nat} {ms : Nat → Nat} {h : AH} {c g g2 o o2 z : Nat} {A : TA} {K : TK} {σ : GL} {τ : GL} {T : TM} {F : FM} {U : TM} {G : FM} {P : CP} {x1 : Int32} {x2 : Int32} (hs : SgOk Γ sg) (hsn : SgNe sg) (hw : SwOk Γ sw) (geo : c + 7 ≤ g ∧ c + 7 ≤ g2 ∧ (g + 12 ≤ g2 ∨ g2 + 12 ≤ g) ∧ g + 12 ≤ o ∧ g + 12 ≤ o2 ∧ g2 + 12 ≤ o ∧ g2 + 12 ≤ o2 ∧ (o + 7 ≤ o2 ∨ o2 + 7 ≤ o)) (hA : ta_sz A ≤ 2000) (ho : h o = some (.inr (3, [.ref (o + 1), .ref (o + 3)]))) (ho2 : h o2 = some (.inr (3, [.ref (o2 + 1), .ref (o2 + 3)]))) (hT : T.2 ≤ 20) (hU : U.2 ≤ 20) (hW : WFG σ) (hV : WFG τ) (hms : MsOk Γ ms) (hth : ThOk Γ) : CallT Γ M_Camp_setWarm 7 4 24 [.ref c, .int x1, .int x2] (cw_ Γ sg h c g g2 o o2 A K σ τ T F U G P) z (s_Camp_setWarm A K σ τ T F U G P x1 x2).1 (some (.int (s_Camp_setWarm A K σ τ T F U G P x1 x2).2.1)) (cw_ Γ sg h c g g2 o o2 A K (s_Camp_setWarm A K σ τ T F U G P x1 x2).2.2 τ T F U G P) := by
  refine Call.of_go (L := [some (.ref c), some (.int x1), some (.int x2), none]) (by decide +kernel) rfl (by exact Nat.le_of_ble_eq_true rfl) ?_
  unfold s_Camp_setWarm
  refine Go.iload_1 d_Camp_setWarm_0 rfl ?_
  refine Go.bipush (v := 8) d_Camp_setWarm_1 rfl (by decide) ?_
  refine Go.csT (C1 := 3) (S1 := 18) (as := [.int x1, .int 8]) d_Camp_setWarm_3 rfl l_Camp_99 k_Camp_needWhat_s rfl rfl rfl (c_Camp_needWhat hms hth) rfl rfl rfl rfl rfl rfl (fun t3_1 z2 hz => ?_) (fun t3_1 => ?_)
  · rw [if_neg t3_1]
    exact ⟨t3_1, rfl, by dsimp only, hz⟩
  refine Go.iload_2 d_Camp_setWarm_6 rfl ?_
  refine Go.iconst (v := 0) d_Camp_setWarm_7 rfl (by decide) ?_
  refine Go.bipush (v := 30) d_Camp_setWarm_8 rfl (by decide) ?_
  refine Go.csT (C1 := 2) (S1 := 12) (as := [.int x2, .int 0, .int 30]) d_Camp_setWarm_10 rfl l_Camp_174 k_Camp_needRange_s rfl rfl rfl (c_Camp_needRange hms hth) rfl rfl rfl rfl rfl rfl (fun t10_2 z2 hz => ?_) (fun t10_2 => ?_)
  · rw [if_pos t3_1, if_neg t10_2]
    exact ⟨t10_2, rfl, by dsimp only, hz⟩
  refine Go.aload_0 d_Camp_setWarm_13 rfl ?_
  refine Go.getfield d_Camp_setWarm_14 rfl f_Camp_26 (cw_at_c hs hsn hw (by omega) hA ho ho2 hT hU hW hV) (by rfl) ?_
  refine Go.iload_1 d_Camp_setWarm_17 rfl ?_
  refine Go.cv1r d_Camp_setWarm_18 rfl l_Camp_191 k_Glacier_warmthOf_v (cw_at_g hs hsn hw (by omega) hA ho ho2 hT hU hW hV) rfl (cw_c_Glacier_warmthOf_g hs hsn hw (by omega) hA ho ho2 hT hU hW hV) rfl rfl rfl ?_
  refine Go.istore_3 d_Camp_setWarm_21 rfl (by rfl) ?_
  refine Go.aload_0 d_Camp_setWarm_22 rfl ?_
  refine Go.getfield d_Camp_setWarm_23 rfl f_Camp_26 (cw_at_c hs hsn hw (by omega) hA ho ho2 hT hU hW hV) (by rfl) ?_
  refine Go.iload_1 d_Camp_setWarm_26 rfl ?_
  refine Go.iload_2 d_Camp_setWarm_27 rfl ?_
  refine Go.cv2v d_Camp_setWarm_28 rfl l_Camp_194 k_Glacier_changeWarmth_v (cw_at_g hs hsn hw (by omega) hA ho ho2 hT hU hW hV) rfl (cw_c_Glacier_changeWarmth_g hs hsn hw (by omega) hA ho ho2 hT hU hW hV) rfl rfl rfl ?_
  refine Go.iload_3 d_Camp_setWarm_31 rfl ?_
  rw [if_pos t3_1, if_pos t10_2]
  exact Go.iret d_Camp_setWarm_32 rfl rfl ⟨rfl, rfl, by dsimp only, rfl⟩
theorem cw_c_Glacier_canGo_g {Γ : G9} {sg : Nat → Nat} {sw : Nat} {h : AH} {c g g2 o o2 z : Nat} {A : TA} {K : TK} {σ : GL} {τ : GL} {T : TM} {F : FM} {U : TM} {G : FM} {P : CP} {x1 : Int32} {x2 : Int32} (hs : SgOk Γ sg) (hsn : SgNe sg) (hw : SwOk Γ sw) (geo : c + 7 ≤ g ∧ c + 7 ≤ g2 ∧ (g + 12 ≤ g2 ∨ g2 + 12 ≤ g) ∧ g + 12 ≤ o ∧ g + 12 ≤ o2 ∧ g2 + 12 ≤ o ∧ g2 + 12 ≤ o2 ∧ (o + 7 ≤ o2 ∨ o2 + 7 ≤ o)) (hA : ta_sz A ≤ 2000) (ho : h o = some (.inr (3, [.ref (o + 1), .ref (o + 3)]))) (ho2 : h o2 = some (.inr (3, [.ref (o2 + 1), .ref (o2 + 3)]))) (hT : T.2 ≤ 20) (hU : U.2 ≤ 20) (hW : WFG σ) (hV : WFG τ) : CallR Γ M_Glacier_canGo 2 [.ref g, .int x1, .int x2] (cw_ Γ sg h c g g2 o o2 A K σ τ T F U G P) z (some (.int (s_Glacier_canGo σ x1 x2))) (cw_ Γ sg h c g g2 o o2 A K σ τ T F U G P) := by
  unfold cw_
  exact CallR.conv ((((((blk_in (blk_in (blk_in (blk_in (blk_in (blk_comm (by omega))))))).trans (blk_in (blk_in (blk_in (blk_in (blk_comm (by omega))))))).trans (blk_in (blk_in (blk_in (blk_comm (by omega)))))).trans (blk_in (blk_in (blk_comm (by omega))))).trans (blk_in (blk_comm (by omega)))).trans (blk_comm (by omega))) ((((((blk_comm (by omega)).trans (blk_in (blk_comm (by omega)))).trans (blk_in (blk_in (blk_comm (by omega))))).trans (blk_in (blk_in (blk_in (blk_comm (by omega)))))).trans (blk_in (blk_in (blk_in (blk_in (blk_comm (by omega))))))).trans (blk_in (blk_in (blk_in (blk_in (blk_in (blk_comm (by omega)))))))) (c_Glacier_canGo hW)
theorem cw_c_Glacier_fallingPlace_g {Γ : G9} {sg : Nat → Nat} {sw : Nat} {h : AH} {c g g2 o o2 z : Nat} {A : TA} {K : TK} {σ : GL} {τ : GL} {T : TM} {F : FM} {U : TM} {G : FM} {P : CP} {x1 : Int32} {x2 : Int32} (hs : SgOk Γ sg) (hsn : SgNe sg) (hw : SwOk Γ sw) (geo : c + 7 ≤ g ∧ c + 7 ≤ g2 ∧ (g + 12 ≤ g2 ∨ g2 + 12 ≤ g) ∧ g + 12 ≤ o ∧ g + 12 ≤ o2 ∧ g2 + 12 ≤ o ∧ g2 + 12 ≤ o2 ∧ (o + 7 ≤ o2 ∨ o2 + 7 ≤ o)) (hA : ta_sz A ≤ 2000) (ho : h o = some (.inr (3, [.ref (o + 1), .ref (o + 3)]))) (ho2 : h o2 = some (.inr (3, [.ref (o2 + 1), .ref (o2 + 3)]))) (hT : T.2 ≤ 20) (hU : U.2 ≤ 20) (hW : WFG σ) (hV : WFG τ) : CallR Γ M_Glacier_fallingPlace 2 [.ref g, .int x1, .int x2] (cw_ Γ sg h c g g2 o o2 A K σ τ T F U G P) z (some (.int (s_Glacier_fallingPlace σ x1 x2))) (cw_ Γ sg h c g g2 o o2 A K σ τ T F U G P) := by
  unfold cw_
  exact CallR.conv ((((((blk_in (blk_in (blk_in (blk_in (blk_in (blk_comm (by omega))))))).trans (blk_in (blk_in (blk_in (blk_in (blk_comm (by omega))))))).trans (blk_in (blk_in (blk_in (blk_comm (by omega)))))).trans (blk_in (blk_in (blk_comm (by omega))))).trans (blk_in (blk_comm (by omega)))).trans (blk_comm (by omega))) ((((((blk_comm (by omega)).trans (blk_in (blk_comm (by omega)))).trans (blk_in (blk_in (blk_comm (by omega))))).trans (blk_in (blk_in (blk_in (blk_comm (by omega)))))).trans (blk_in (blk_in (blk_in (blk_in (blk_comm (by omega))))))).trans (blk_in (blk_in (blk_in (blk_in (blk_in (blk_comm (by omega)))))))) (c_Glacier_fallingPlace hW)
theorem d_Camp_safe_0 : decode M_Camp_safe.2.1 0 = .ok (.aload_n 0, 1) := by decide +kernel
theorem d_Camp_safe_1 : decode M_Camp_safe.2.1 1 = .ok (.getfield 26, 3) := by decide +kernel
theorem d_Camp_safe_4 : decode M_Camp_safe.2.1 4 = .ok (.getfield 125, 3) := by decide +kernel
theorem d_Camp_safe_7 : decode M_Camp_safe.2.1 7 = .ok (.iload_n 1, 1) := by decide +kernel
theorem d_Camp_safe_8 : decode M_Camp_safe.2.1 8 = .ok (.invokestatic 135, 3) := by decide +kernel
theorem d_Camp_safe_11 : decode M_Camp_safe.2.1 11 = .ok (.aload_n 0, 1) := by decide +kernel
theorem d_Camp_safe_12 : decode M_Camp_safe.2.1 12 = .ok (.getfield 26, 3) := by decide +kernel
theorem d_Camp_safe_15 : decode M_Camp_safe.2.1 15 = .ok (.iload_n 1, 1) := by decide +kernel
theorem d_Camp_safe_16 : decode M_Camp_safe.2.1 16 = .ok (.iload_n 2, 1) := by decide +kernel
theorem d_Camp_safe_17 : decode M_Camp_safe.2.1 17 = .ok (.invokevirtual 213, 3) := by decide +kernel
theorem d_Camp_safe_20 : decode M_Camp_safe.2.1 20 = .ok (.ifCond .eq 19, 3) := by decide +kernel
theorem d_Camp_safe_23 : decode M_Camp_safe.2.1 23 = .ok (.aload_n 0, 1) := by decide +kernel
theorem d_Camp_safe_24 : decode M_Camp_safe.2.1 24 = .ok (.getfield 26, 3) := by decide +kernel
theorem d_Camp_safe_27 : decode M_Camp_safe.2.1 27 = .ok (.iload_n 1, 1) := by decide +kernel
theorem d_Camp_safe_28 : decode M_Camp_safe.2.1 28 = .ok (.iload_n 2, 1) := by decide +kernel
theorem d_Camp_safe_29 : decode M_Camp_safe.2.1 29 = .ok (.invokevirtual 216, 3) := by decide +kernel
theorem d_Camp_safe_32 : decode M_Camp_safe.2.1 32 = .ok (.ifCond .ge 7, 3) := by decide +kernel
theorem d_Camp_safe_35 : decode M_Camp_safe.2.1 35 = .ok (.iconst 1, 1) := by decide +kernel
theorem d_Camp_safe_36 : decode M_Camp_safe.2.1 36 = .ok (.goto 4, 3) := by decide +kernel
theorem d_Camp_safe_39 : decode M_Camp_safe.2.1 39 = .ok (.iconst 0, 1) := by decide +kernel
theorem d_Camp_safe_40 : decode M_Camp_safe.2.1 40 = .ok (.ireturn, 1) := by decide +kernel
def s_Camp_safe (A : TA) (K : TK) (σ : GL) (τ : GL) (T : TM) (F : FM) (U : TM) (G : FM) (P : CP) (x1 : Int32) (x2 : Int32) : Int32 × Int32 := (if (s_Camp_needRow (σ.1 4) x1) = 0 then (if (s_Glacier_canGo σ x1 x2) = 0 then (0, 0) else (if 0 ≤ (s_Glacier_fallingPlace σ x1 x2) then (0, 0) else (0, 1))) else ((s_Camp_needRow (σ.1 4) x1), 0))
set_option maxRecDepth 100000 in
set_option maxHeartbeats 800000 in
theorem c_Camp_safe {Γ : G9} {sg : Nat → Nat} {sw : Nat} {ms : Nat → Nat} {h : AH} {c g g2 o o2 z : Nat} {A : TA} {K : TK} {σ : GL} {τ : GL} {T : TM} {F : FM} {U : TM} {G : FM} {P : CP} {x1 : Int32} {x2 : Int32} (hs : SgOk Γ sg) (hsn : SgNe sg) (hw : SwOk Γ sw) (geo : c + 7 ≤ g ∧ c + 7 ≤ g2 ∧ (g + 12 ≤ g2 ∨ g2 + 12 ≤ g) ∧ g + 12 ≤ o ∧ g + 12 ≤ o2 ∧ g2 + 12 ≤ o ∧ g2 + 12 ≤ o2 ∧ (o + 7 ≤ o2 ∨ o2 + 7 ≤ o)) (hA : ta_sz A ≤ 2000) (ho : h o = some (.inr (3, [.ref (o + 1), .ref (o + 3)]))) (ho2 : h o2 = some (.inr (3, [.ref (o2 + 1), .ref (o2 + 3)]))) (hT : T.2 ≤ 20) (hU : U.2 ≤ 20) (hW : WFG σ) (hV : WFG τ) (hms : MsOk Γ ms) (hth : ThOk Γ) : CallT Γ M_Camp_safe 7 4 24 [.ref c, .int x1, .int x2] (cw_ Γ sg h c g g2 o o2 A K σ τ T F U G P) z (s_Camp_safe A K σ τ T F U G P x1 x2).1 (some (.int (s_Camp_safe A K σ τ T F U G P x1 x2).2)) (cw_ Γ sg h c g g2 o o2 A K σ τ T F U G P) := by
  refine Call.of_go (L := [some (.ref c), some (.int x1), some (.int x2)]) (by decide +kernel) rfl (by exact Nat.le_of_ble_eq_true rfl) ?_
  unfold s_Camp_safe
  refine Go.aload_0 d_Camp_safe_0 rfl ?_
  refine Go.getfield d_Camp_safe_1 rfl f_Camp_26 (cw_at_c hs hsn hw (by omega) hA ho ho2 hT hU hW hV) (by rfl) ?_
  refine Go.getfield d_Camp_safe_4 rfl f_Camp_125 (cw_at_g hs hsn hw (by omega) hA ho ho2 hT hU hW hV) (by rfl) ?_
  refine Go.iload_1 d_Camp_safe_7 rfl ?_
  refine Go.csT (C1 := 3) (S1 := 18) (as := [.ref (g + 9), .int x1]) d_Camp_safe_8 rfl l_Camp_135 k_Camp_needRow_s rfl rfl rfl (c_Camp_needRow (cw_at_g_9 hs hsn hw (by omega) hA ho ho2 hT hU hW hV) hms hth) rfl rfl rfl rfl rfl rfl (fun t8_1 z2 hz => ?_) (fun t8_1 => ?_)
  · rw [if_neg t8_1]
    exact ⟨t8_1, rfl, by dsimp only, hz⟩
  refine Go.aload_0 d_Camp_safe_11 rfl ?_
  refine Go.getfield d_Camp_safe_12 rfl f_Camp_26 (cw_at_c hs hsn hw (by omega) hA ho ho2 hT hU hW hV) (by rfl) ?_
  refine Go.iload_1 d_Camp_safe_15 rfl ?_
  refine Go.iload_2 d_Camp_safe_16 rfl ?_
  refine Go.cv2r d_Camp_safe_17 rfl l_Camp_213 k_Glacier_canGo_v (cw_at_g hs hsn hw (by omega) hA ho ho2 hT hU hW hV) rfl (cw_c_Glacier_canGo_g hs hsn hw (by omega) hA ho ho2 hT hU hW hV) rfl rfl rfl ?_
  refine Go.if_eq (t := 39) d_Camp_safe_20 (by decide) rfl (fun c20_2 => ?_) (fun c20_2 => ?_)
  · refine Go.iconst (v := 0) d_Camp_safe_39 rfl (by decide) ?_
    rw [if_pos t8_1, if_pos c20_2]
    exact Go.iret d_Camp_safe_40 rfl rfl ⟨rfl, rfl, by dsimp only, rfl⟩
  · refine Go.aload_0 d_Camp_safe_23 rfl ?_
    refine Go.getfield d_Camp_safe_24 rfl f_Camp_26 (cw_at_c hs hsn hw (by omega) hA ho ho2 hT hU hW hV) (by rfl) ?_
    refine Go.iload_1 d_Camp_safe_27 rfl ?_
    refine Go.iload_2 d_Camp_safe_28 rfl ?_
    refine Go.cv2r d_Camp_safe_29 rfl l_Camp_216 k_Glacier_fallingPlace_v (cw_at_g hs hsn hw (by omega) hA ho ho2 hT hU hW hV) rfl (cw_c_Glacier_fallingPlace_g hs hsn hw (by omega) hA ho ho2 hT hU hW hV) rfl rfl rfl ?_
    refine Go.if_ge (t := 39) d_Camp_safe_32 (by decide) rfl (fun c32_3 => ?_) (fun c32_3 => ?_)
    · refine Go.iconst (v := 0) d_Camp_safe_39 rfl (by decide) ?_
      rw [if_pos t8_1, if_neg c20_2, if_pos c32_3]
      exact Go.iret d_Camp_safe_40 rfl rfl ⟨rfl, rfl, by dsimp only, rfl⟩
    · refine Go.iconst (v := 1) d_Camp_safe_35 rfl (by decide) ?_
      refine Go.goto (t := 40) d_Camp_safe_36 (by decide) ?_
      rw [if_pos t8_1, if_neg c20_2, if_neg c32_3]
      exact Go.iret d_Camp_safe_40 rfl rfl ⟨rfl, rfl, by dsimp only, rfl⟩
