/-! one glacier becomes another -/
theorem cG_become {Γ : G9} {h : AH} {g g2 z : Nat} {σ τ : GL} (geo : g + 12 ≤ g2 ∨ g2 + 12 ≤ g) {k : Nat} (hk : k < 5) : CallR Γ M_Table_become 0 [.ref (g + (2 * k + 1)), .ref (g2 + (2 * k + 1))] (blk (blk h g2 12 (glC Γ g2 τ)) g 12 (glC Γ g σ)) z none (blk (blk h g2 12 (glC Γ g2 τ)) g 12 (glC Γ g (gP σ k (τ.1 k)))) := by
  have h0 := c_Table_become (Γ := Γ) (h := blk (blk h g2 12 (glC Γ g2 τ)) g 12 (glC Γ g σ)) (z := z) (t := g + (2 * k + 1)) (u := g2 + (2 * k + 1)) (cap := capG k) (T := σ.1 k) (U := τ.1 k) (gl_tab hk) (gl_cel hk) ((blk_out (by omega)).trans (gl_tab hk)) ((blk_out (by omega)).trans (gl_cel hk)) (Nat.le_trans capG_le (by decide)) (by omega)
  rw [gl_put hk] at h0
  exact h0
theorem gl_aW {Γ : G9} {h : AH} {g : Nat} {σ : GL} {w : Nat → Int32} : hup (blk h g 12 (glC Γ g σ)) (g + 11) (aI Γ 8 w) = blk h g 12 (glC Γ g (gSW σ w)) := gl_putW
theorem d_Glacier_become_57 : decode M_Glacier_become.2.1 57 = .ok (.iload_n 2, 1) := by decide +kernel
theorem d_Glacier_become_58 : decode M_Glacier_become.2.1 58 = .ok (.aload_n 0, 1) := by decide +kernel
theorem d_Glacier_become_59 : decode M_Glacier_become.2.1 59 = .ok (.getfield 32, 3) := by decide +kernel
theorem d_Glacier_become_62 : decode M_Glacier_become.2.1 62 = .ok (.arraylength, 1) := by decide +kernel
theorem d_Glacier_become_63 : decode M_Glacier_become.2.1 63 = .ok (.if_icmp .ge 30, 3) := by decide +kernel
theorem d_Glacier_become_66 : decode M_Glacier_become.2.1 66 = .ok (.iload_n 2, 1) := by decide +kernel
theorem d_Glacier_become_67 : decode M_Glacier_become.2.1 67 = .ok (.aload_n 1, 1) := by decide +kernel
theorem d_Glacier_become_68 : decode M_Glacier_become.2.1 68 = .ok (.getfield 32, 3) := by decide +kernel
theorem d_Glacier_become_71 : decode M_Glacier_become.2.1 71 = .ok (.arraylength, 1) := by decide +kernel
theorem d_Glacier_become_72 : decode M_Glacier_become.2.1 72 = .ok (.if_icmp .ge 21, 3) := by decide +kernel
theorem d_Glacier_become_75 : decode M_Glacier_become.2.1 75 = .ok (.aload_n 0, 1) := by decide +kernel
theorem d_Glacier_become_76 : decode M_Glacier_become.2.1 76 = .ok (.getfield 32, 3) := by decide +kernel
theorem d_Glacier_become_79 : decode M_Glacier_become.2.1 79 = .ok (.iload_n 2, 1) := by decide +kernel
theorem d_Glacier_become_80 : decode M_Glacier_become.2.1 80 = .ok (.aload_n 1, 1) := by decide +kernel
theorem d_Glacier_become_81 : decode M_Glacier_become.2.1 81 = .ok (.getfield 32, 3) := by decide +kernel
theorem d_Glacier_become_84 : decode M_Glacier_become.2.1 84 = .ok (.iload_n 2, 1) := by decide +kernel
theorem d_Glacier_become_85 : decode M_Glacier_become.2.1 85 = .ok (.iaload, 1) := by decide +kernel
theorem d_Glacier_become_86 : decode M_Glacier_become.2.1 86 = .ok (.iastore, 1) := by decide +kernel
theorem d_Glacier_become_87 : decode M_Glacier_become.2.1 87 = .ok (.iinc 2 1, 3) := by decide +kernel
theorem d_Glacier_become_90 : decode M_Glacier_become.2.1 90 = .ok (.goto (-33), 3) := by decide +kernel
def l_Glacier_become_57 (τ : GL) : Nat → Nat → GL → GL
  | 0, _, σ => σ
  | k + 1, i, σ => (l_Glacier_become_57 τ k (i + 1) (gSW σ (upd (gW σ) i (gW τ i))))
set_option maxRecDepth 100000 in
set_option maxHeartbeats 800000 in
theorem l_Glacier_become_57_go {Γ : G9} {h : AH} {g g2 z : Nat} {n : Nat} {Q : QT} {X : XT} {τ : GL} (geo : g + 12 ≤ g2 ∨ g2 + 12 ≤ g) (hn20 : n ≤ 8) : ∀ (k i : Nat) (σ : GL), i + k = n → 8 = n → Go Γ M_Glacier_become 1 0 0 93 [some (.ref g), some (.ref g2), some (.int (nI (i + k)))] [] (blk (blk h g2 12 (glC Γ g2 τ)) g 12 (glC Γ g (l_Glacier_become_57 τ k i σ))) z Q X → Go Γ M_Glacier_become 1 0 0 57 [some (.ref g), some (.ref g2), some (.int (nI i))] [] (blk (blk h g2 12 (glC Γ g2 τ)) g 12 (glC Γ g σ)) z Q X := by
  intro k
  induction k with
  | zero =>
    intro i σ hi hn hk
    refine Go.iload_2 d_Glacier_become_57 rfl ?_
    refine Go.aload_0 d_Glacier_become_58 rfl ?_
    refine Go.getfield d_Glacier_become_59 rfl f_Glacier_32 (gl_obj) (by rfl) ?_
    refine Go.alen (n := (nI 8)) d_Glacier_become_62 rfl gl_war (by rfl) rfl ?_
    refine Go.icmp_ge (t := 93) d_Glacier_become_63 (by decide) rfl (fun c63_1 => ?_) (fun c63_1 => ?_)
    · exact hk
    · exact absurd (show nI 8 ≤ nI i from nI_le (by omega) (by omega)) c63_1
  | succ k ih =>
    intro i σ hi hn hk
    unfold l_Glacier_become_57 at hk
    rw [show i + (k + 1) = i + 1 + k by omega] at hk
    refine Go.iload_2 d_Glacier_become_57 rfl ?_
    refine Go.aload_0 d_Glacier_become_58 rfl ?_
    refine Go.getfield d_Glacier_become_59 rfl f_Glacier_32 (gl_obj) (by rfl) ?_
    refine Go.alen (n := (nI 8)) d_Glacier_become_62 rfl gl_war (by rfl) rfl ?_
    refine Go.icmp_ge (t := 93) d_Glacier_become_63 (by decide) rfl (fun c63_1 => ?_) (fun c63_1 => ?_)
    · exact absurd c63_1 (show ¬ nI 8 ≤ nI i from nI_ge (by omega) (by omega))
    · refine Go.iload_2 d_Glacier_become_66 rfl ?_
      refine Go.aload_1 d_Glacier_become_67 rfl ?_
      refine Go.getfield d_Glacier_become_68 rfl f_Glacier_32 ((blk_out (by omega)).trans (gl_obj)) (by rfl) ?_
      refine Go.alen (n := (nI 8)) d_Glacier_become_71 rfl ((blk_out (by omega)).trans gl_war) (by rfl) rfl ?_
      refine Go.icmp_ge (t := 93) d_Glacier_become_72 (by decide) rfl (fun c72_2 => ?_) (fun c72_2 => ?_)
      · exact absurd c72_2 (show ¬ nI 8 ≤ nI i from nI_ge (by omega) (by omega))
      · refine Go.aload_0 d_Glacier_become_75 rfl ?_
        refine Go.getfield d_Glacier_become_76 rfl f_Glacier_32 (gl_obj) (by rfl) ?_
        refine Go.iload_2 d_Glacier_become_79 rfl ?_
        refine Go.aload_1 d_Glacier_become_80 rfl ?_
        refine Go.getfield d_Glacier_become_81 rfl f_Glacier_32 ((blk_out (by omega)).trans (gl_obj)) (by rfl) ?_
        refine Go.iload_2 d_Glacier_become_84 rfl ?_
        refine Go.iaload d_Glacier_become_85 rfl ((blk_out (by omega)).trans gl_war) (vp_in_nI (by omega) (by omega)) ?_
        rw [nI_clamp (show i < 2 ^ 31 by omega)]
        refine Go.iastore d_Glacier_become_86 rfl gl_war (vp_in_nI (by omega) (by omega)) ?_
        rw [nI_clamp (show i < 2 ^ 31 by omega)]
        refine Go.heq (gl_aW (w := (upd (gW σ) i (gW τ i)))) ?_
        refine Go.iinc_2 d_Glacier_become_87 rfl (by rfl) (nI_inc _) ?_
        refine Go.goto (t := 57) d_Glacier_become_90 (by decide) ?_
        exact ih (i + 1) _ (by omega) (by first | exact hn | (simp only []; exact hn)) hk
theorem d_Glacier_become_0 : decode M_Glacier_become.2.1 0 = .ok (.aload_n 0, 1) := by decide +kernel
theorem d_Glacier_become_1 : decode M_Glacier_become.2.1 1 = .ok (.getfield 14, 3) := by decide +kernel
theorem d_Glacier_become_4 : decode M_Glacier_become.2.1 4 = .ok (.aload_n 1, 1) := by decide +kernel
theorem d_Glacier_become_5 : decode M_Glacier_become.2.1 5 = .ok (.getfield 14, 3) := by decide +kernel
theorem d_Glacier_become_8 : decode M_Glacier_become.2.1 8 = .ok (.invokevirtual 49, 3) := by decide +kernel
theorem d_Glacier_become_11 : decode M_Glacier_become.2.1 11 = .ok (.aload_n 0, 1) := by decide +kernel
theorem d_Glacier_become_12 : decode M_Glacier_become.2.1 12 = .ok (.getfield 20, 3) := by decide +kernel
theorem d_Glacier_become_15 : decode M_Glacier_become.2.1 15 = .ok (.aload_n 1, 1) := by decide +kernel
theorem d_Glacier_become_16 : decode M_Glacier_become.2.1 16 = .ok (.getfield 20, 3) := by decide +kernel
theorem d_Glacier_become_19 : decode M_Glacier_become.2.1 19 = .ok (.invokevirtual 49, 3) := by decide +kernel
theorem d_Glacier_become_22 : decode M_Glacier_become.2.1 22 = .ok (.aload_n 0, 1) := by decide +kernel
theorem d_Glacier_become_23 : decode M_Glacier_become.2.1 23 = .ok (.getfield 23, 3) := by decide +kernel
theorem d_Glacier_become_26 : decode M_Glacier_become.2.1 26 = .ok (.aload_n 1, 1) := by decide +kernel
theorem d_Glacier_become_27 : decode M_Glacier_become.2.1 27 = .ok (.getfield 23, 3) := by decide +kernel
theorem d_Glacier_become_30 : decode M_Glacier_become.2.1 30 = .ok (.invokevirtual 49, 3) := by decide +kernel
theorem d_Glacier_become_33 : decode M_Glacier_become.2.1 33 = .ok (.aload_n 0, 1) := by decide +kernel
theorem d_Glacier_become_34 : decode M_Glacier_become.2.1 34 = .ok (.getfield 26, 3) := by decide +kernel
theorem d_Glacier_become_37 : decode M_Glacier_become.2.1 37 = .ok (.aload_n 1, 1) := by decide +kernel
theorem d_Glacier_become_38 : decode M_Glacier_become.2.1 38 = .ok (.getfield 26, 3) := by decide +kernel
theorem d_Glacier_become_41 : decode M_Glacier_become.2.1 41 = .ok (.invokevirtual 49, 3) := by decide +kernel
theorem d_Glacier_become_44 : decode M_Glacier_become.2.1 44 = .ok (.aload_n 0, 1) := by decide +kernel
theorem d_Glacier_become_45 : decode M_Glacier_become.2.1 45 = .ok (.getfield 29, 3) := by decide +kernel
theorem d_Glacier_become_48 : decode M_Glacier_become.2.1 48 = .ok (.aload_n 1, 1) := by decide +kernel
theorem d_Glacier_become_49 : decode M_Glacier_become.2.1 49 = .ok (.getfield 29, 3) := by decide +kernel
theorem d_Glacier_become_52 : decode M_Glacier_become.2.1 52 = .ok (.invokevirtual 49, 3) := by decide +kernel
theorem d_Glacier_become_55 : decode M_Glacier_become.2.1 55 = .ok (.iconst 0, 1) := by decide +kernel
theorem d_Glacier_become_56 : decode M_Glacier_become.2.1 56 = .ok (.istore_n 2, 1) := by decide +kernel
theorem d_Glacier_become_93 : decode M_Glacier_become.2.1 93 = .ok (.aload_n 0, 1) := by decide +kernel
theorem d_Glacier_become_94 : decode M_Glacier_become.2.1 94 = .ok (.aload_n 1, 1) := by decide +kernel
theorem d_Glacier_become_95 : decode M_Glacier_become.2.1 95 = .ok (.getfield 42, 3) := by decide +kernel
theorem d_Glacier_become_98 : decode M_Glacier_become.2.1 98 = .ok (.putfield 42, 3) := by decide +kernel
theorem d_Glacier_become_101 : decode M_Glacier_become.2.1 101 = .ok (.aload_n 0, 1) := by decide +kernel
theorem d_Glacier_become_102 : decode M_Glacier_become.2.1 102 = .ok (.aload_n 1, 1) := by decide +kernel
theorem d_Glacier_become_103 : decode M_Glacier_become.2.1 103 = .ok (.getfield 46, 3) := by decide +kernel
theorem d_Glacier_become_106 : decode M_Glacier_become.2.1 106 = .ok (.putfield 46, 3) := by decide +kernel
theorem d_Glacier_become_109 : decode M_Glacier_become.2.1 109 = .ok (.return_, 1) := by decide +kernel
def s_Glacier_become (τ : GL) (σ : GL) : GL := (gSC (gSD (l_Glacier_become_57 τ (8) 0 (gP (gP (gP (gP (gP σ 0 (τ.1 0)) 1 (τ.1 1)) 2 (τ.1 2)) 3 (τ.1 3)) 4 (τ.1 4))) (gD τ)) (gC τ))
set_option maxRecDepth 100000 in
set_option maxHeartbeats 800000 in
theorem c_Glacier_become {Γ : G9} {h : AH} {g g2 z : Nat} {τ : GL} {σ : GL} (geo : g + 12 ≤ g2 ∨ g2 + 12 ≤ g) : CallR Γ M_Glacier_become 1 [.ref g, .ref g2] (blk (blk h g2 12 (glC Γ g2 τ)) g 12 (glC Γ g σ)) z none (blk (blk h g2 12 (glC Γ g2 τ)) g 12 (glC Γ g (s_Glacier_become τ σ))) := by
  refine Call.of_go (L := [some (.ref g), some (.ref g2), none]) (by decide +kernel) rfl (by exact Nat.le_of_ble_eq_true rfl) ?_
  unfold s_Glacier_become
  refine Go.aload_0 d_Glacier_become_0 rfl ?_
  refine Go.getfield d_Glacier_become_1 rfl f_Glacier_14 (gl_obj) (by rfl) ?_
  refine Go.aload_1 d_Glacier_become_4 rfl ?_
  refine Go.getfield d_Glacier_become_5 rfl f_Glacier_14 ((blk_out (by omega)).trans (gl_obj)) (by rfl) ?_
  refine Go.cv1v d_Glacier_become_8 rfl l_Glacier_49 k_Table_become_v (gl_tab (k := 0) (by decide)) rfl (cG_become (by omega) (k := 0) (by decide)) rfl rfl rfl ?_
  refine Go.aload_0 d_Glacier_become_11 rfl ?_
  refine Go.getfield d_Glacier_become_12 rfl f_Glacier_20 (gl_obj) (by rfl) ?_
  refine Go.aload_1 d_Glacier_become_15 rfl ?_
  refine Go.getfield d_Glacier_become_16 rfl f_Glacier_20 ((blk_out (by omega)).trans (gl_obj)) (by rfl) ?_
  refine Go.cv1v d_Glacier_become_19 rfl l_Glacier_49 k_Table_become_v (gl_tab (k := 1) (by decide)) rfl (cG_become (by omega) (k := 1) (by decide)) rfl rfl rfl ?_
  refine Go.aload_0 d_Glacier_become_22 rfl ?_
  refine Go.getfield d_Glacier_become_23 rfl f_Glacier_23 (gl_obj) (by rfl) ?_
  refine Go.aload_1 d_Glacier_become_26 rfl ?_
  refine Go.getfield d_Glacier_become_27 rfl f_Glacier_23 ((blk_out (by omega)).trans (gl_obj)) (by rfl) ?_
  refine Go.cv1v d_Glacier_become_30 rfl l_Glacier_49 k_Table_become_v (gl_tab (k := 2) (by decide)) rfl (cG_become (by omega) (k := 2) (by decide)) rfl rfl rfl ?_
  refine Go.aload_0 d_Glacier_become_33 rfl ?_
  refine Go.getfield d_Glacier_become_34 rfl f_Glacier_26 (gl_obj) (by rfl) ?_
  refine Go.aload_1 d_Glacier_become_37 rfl ?_
  refine Go.getfield d_Glacier_become_38 rfl f_Glacier_26 ((blk_out (by omega)).trans (gl_obj)) (by rfl) ?_
  refine Go.cv1v d_Glacier_become_41 rfl l_Glacier_49 k_Table_become_v (gl_tab (k := 3) (by decide)) rfl (cG_become (by omega) (k := 3) (by decide)) rfl rfl rfl ?_
  refine Go.aload_0 d_Glacier_become_44 rfl ?_
  refine Go.getfield d_Glacier_become_45 rfl f_Glacier_29 (gl_obj) (by rfl) ?_
  refine Go.aload_1 d_Glacier_become_48 rfl ?_
  refine Go.getfield d_Glacier_become_49 rfl f_Glacier_29 ((blk_out (by omega)).trans (gl_obj)) (by rfl) ?_
  refine Go.cv1v d_Glacier_become_52 rfl l_Glacier_49 k_Table_become_v (gl_tab (k := 4) (by decide)) rfl (cG_become (by omega) (k := 4) (by decide)) rfl rfl rfl ?_
  refine Go.iconst (v := 0) d_Glacier_become_55 rfl (by decide) ?_
  refine Go.istore_2 d_Glacier_become_56 rfl (by rfl) ?_
  refine l_Glacier_become_57_go (n := (8)) geo (by decide) (8) 0 (gP (gP (gP (gP (gP σ 0 (τ.1 0)) 1 (τ.1 1)) 2 (τ.1 2)) 3 (τ.1 3)) 4 (τ.1 4)) (by omega) rfl ?_
  refine Go.aload_0 d_Glacier_become_93 rfl ?_
  refine Go.aload_1 d_Glacier_become_94 rfl ?_
  refine Go.getfield d_Glacier_become_95 rfl f_Glacier_42 ((blk_out (by omega)).trans (gl_obj)) (by rfl) ?_
  refine Go.putfield d_Glacier_become_98 rfl f_Glacier_42_p (Or.inl (fun C T N h => by cases h; rfl)) (gl_obj) (by exact Nat.le_of_ble_eq_true rfl) rfl rfl ?_
  refine Go.heq gl_putD ?_
  refine Go.aload_0 d_Glacier_become_101 rfl ?_
  refine Go.aload_1 d_Glacier_become_102 rfl ?_
  refine Go.getfield d_Glacier_become_103 rfl f_Glacier_46 ((blk_out (by omega)).trans (gl_obj)) (by rfl) ?_
  refine Go.putfield d_Glacier_become_106 rfl f_Glacier_46_p (Or.inl (fun C T N h => by cases h; rfl)) (gl_obj) (by exact Nat.le_of_ble_eq_true rfl) rfl rfl ?_
  refine Go.heq gl_putC ?_
  exact Go.vret d_Glacier_become_109 rfl ⟨rfl, by dsimp only; done, rfl⟩
theorem l_Glacier_become_57_1 {τ : GL} : ∀ (k i : Nat) (σ : GL), (l_Glacier_become_57 τ k i σ).1 = σ.1
  | 0, _, _ => rfl
  | k + 1, i, σ => by
    unfold l_Glacier_become_57
    rw [l_Glacier_become_57_1 k (i + 1)]
    rfl
theorem s_Glacier_become_tab {σ τ : GL} {k : Nat} (hk : k < 5) : (s_Glacier_become τ σ).1 k = τ.1 k := by
  unfold s_Glacier_become
  rw [show ∀ (x : GL) (v : Int32), (gSC x v).1 = x.1 from fun _ _ => rfl, show ∀ (x : GL) (v : Int32), (gSD x v).1 = x.1 from fun _ _ => rfl, l_Glacier_become_57_1]
  match k, hk with
  | 0, _ => rfl
  | 1, _ => rfl
  | 2, _ => rfl
  | 3, _ => rfl
  | 4, _ => rfl
  | _ + 5, w => exact absurd w (by omega)
theorem wf_Glacier_become {σ τ : GL} (hV : WFG τ) : WFG (s_Glacier_become τ σ) := by
  intro k hk
  show ((s_Glacier_become τ σ).1 k).2 ≤ capG k
  rw [s_Glacier_become_tab hk]
  exact hV k hk
