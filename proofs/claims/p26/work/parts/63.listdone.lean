/-! the law's list: all of it -/
theorem RS0 : (fun _ => []) = RSF [] [] [] [] [] [] := by
  funext k
  match k with
  | 0 => rfl
  | 1 => rfl
  | 2 => rfl
  | 3 => rfl
  | 4 => rfl
  | 5 => rfl
  | n + 6 => rfl
theorem CN0 : (fun _ => 0) = CN 0 0 0 0 0 0 := by
  funext k
  match k with
  | 0 => rfl
  | 1 => rfl
  | 2 => rfl
  | 3 => rfl
  | 4 => rfl
  | 5 => rfl
  | n + 6 => rfl
/-- what a glacier is told of: bands, stakes, crevasses, depots, teams, days, orders -/
abbrev DL := List R2 × List R2 × List R2 × List R2 × List R3 × List R2 × List RO
abbrev d_b (D : DL) : List R2 := D.1
abbrev d_s (D : DL) : List R2 := D.2.1
abbrev d_c (D : DL) : List R2 := D.2.2.1
abbrev d_d (D : DL) : List R2 := D.2.2.2.1
abbrev d_t (D : DL) : List R3 := D.2.2.2.2.1
abbrev d_w (D : DL) : List R2 := D.2.2.2.2.2.1
abbrev d_o (D : DL) : List RO := D.2.2.2.2.2.2
def DOk (D : DL) : Prop := (1 ≤ (d_b D).length ∧ (d_b D).length ≤ 4) ∧ (1 ≤ (d_s D).length ∧ (d_s D).length ≤ 4) ∧ (1 ≤ (d_c D).length ∧ (d_c D).length ≤ 4) ∧ (1 ≤ (d_d D).length ∧ (d_d D).length ≤ 3) ∧ (1 ≤ (d_t D).length ∧ (d_t D).length ≤ 3) ∧ (d_w D).length ≤ 6 ∧ (d_o D).length ≤ 7 ∧
  (∀ a ∈ d_b D, okBand a) ∧ (d_b D).Pairwise (fun a c => a.1 < c.1) ∧ (∀ a ∈ d_s D, okStake (d_b D).length a) ∧ (∀ a ∈ d_c D, okCrev (d_b D).length a) ∧ (∀ a ∈ d_d D, okCrev (d_b D).length a) ∧ (∀ a ∈ d_t D, okTeam (d_b D).length a) ∧ (∀ a ∈ d_w D, okDay a) ∧ ∀ a ∈ d_o D, okOrd (d_b D).length (d_s D).length (d_c D).length (d_d D).length (d_t D).length a
/-- the list that is told -/
def dTx (D : DL) : List Int32 := ((((((tAll tBand (d_b D)) ++ tAll tStake (d_s D)) ++ tAll tCrev (d_c D)) ++ tAll tDepot (d_d D)) ++ tAll tTeam (d_t D)) ++ tAll tDay (d_w D)) ++ tAll tOrd (d_o D)
def dRS (D : DL) : Nat → List (Nat → Int32) := RSF ((d_b D).map rBand) ((d_s D).map rStake) ((d_c D).map rCrev) ((d_d D).map rDepot) ((d_t D).map rTeam) ((d_o D).map rOrd)
def dCN (D : DL) : Nat → Nat := CN (d_b D).length (d_s D).length (d_c D).length (d_d D).length (d_t D).length (d_o D).length
theorem d_Law_list_0 : decode M_Law_list.2.1 0 = .ok (.new 116, 3) := by decide +kernel
theorem d_Law_list_3 : decode M_Law_list.2.1 3 = .ok (.dup, 1) := by decide +kernel
theorem d_Law_list_4 : decode M_Law_list.2.1 4 = .ok (.invokespecial 118, 3) := by decide +kernel
theorem d_Law_list_7 : decode M_Law_list.2.1 7 = .ok (.astore_n 2, 1) := by decide +kernel
theorem d_Law_list_8 : decode M_Law_list.2.1 8 = .ok (.iconst 1, 1) := by decide +kernel
theorem d_Law_list_9 : decode M_Law_list.2.1 9 = .ok (.aload_n 0, 1) := by decide +kernel
theorem d_Law_list_10 : decode M_Law_list.2.1 10 = .ok (.iconst 0, 1) := by decide +kernel
theorem d_Law_list_11 : decode M_Law_list.2.1 11 = .ok (.invokestatic 119, 3) := by decide +kernel
theorem d_Law_list_14 : decode M_Law_list.2.1 14 = .ok (.iconst 4, 1) := by decide +kernel
theorem d_Law_list_15 : decode M_Law_list.2.1 15 = .ok (.invokestatic 125, 3) := by decide +kernel
theorem d_Law_list_18 : decode M_Law_list.2.1 18 = .ok (.iadd, 1) := by decide +kernel
theorem d_Law_list_19 : decode M_Law_list.2.1 19 = .ok (.istore_n 3, 1) := by decide +kernel
theorem d_Law_list_20 : decode M_Law_list.2.1 20 = .ok (.aload_n 0, 1) := by decide +kernel
theorem d_Law_list_21 : decode M_Law_list.2.1 21 = .ok (.iconst 0, 1) := by decide +kernel
theorem d_Law_list_22 : decode M_Law_list.2.1 22 = .ok (.invokestatic 119, 3) := by decide +kernel
theorem d_Law_list_25 : decode M_Law_list.2.1 25 = .ok (.iconst 4, 1) := by decide +kernel
theorem d_Law_list_26 : decode M_Law_list.2.1 26 = .ok (.ishr, 1) := by decide +kernel
theorem d_Law_list_27 : decode M_Law_list.2.1 27 = .ok (.bipush 6, 2) := by decide +kernel
theorem d_Law_list_29 : decode M_Law_list.2.1 29 = .ok (.invokestatic 125, 3) := by decide +kernel
theorem d_Law_list_32 : decode M_Law_list.2.1 32 = .ok (.istore 4, 2) := by decide +kernel
theorem d_Law_list_34 : decode M_Law_list.2.1 34 = .ok (.aload_n 2, 1) := by decide +kernel
theorem d_Law_list_35 : decode M_Law_list.2.1 35 = .ok (.iload_n 3, 1) := by decide +kernel
theorem d_Law_list_36 : decode M_Law_list.2.1 36 = .ok (.anewarray 129, 3) := by decide +kernel
theorem d_Law_list_39 : decode M_Law_list.2.1 39 = .ok (.putfield 131, 3) := by decide +kernel
theorem d_Law_list_42 : decode M_Law_list.2.1 42 = .ok (.iconst 0, 1) := by decide +kernel
theorem d_Law_list_43 : decode M_Law_list.2.1 43 = .ok (.istore 5, 2) := by decide +kernel
theorem d_Law_list_186 : decode M_Law_list.2.1 186 = .ok (.aload_n 2, 1) := by decide +kernel
theorem d_Law_list_187 : decode M_Law_list.2.1 187 = .ok (.iconst 1, 1) := by decide +kernel
theorem d_Law_list_188 : decode M_Law_list.2.1 188 = .ok (.aload_n 0, 1) := by decide +kernel
theorem d_Law_list_189 : decode M_Law_list.2.1 189 = .ok (.iconst 2, 1) := by decide +kernel
theorem d_Law_list_190 : decode M_Law_list.2.1 190 = .ok (.invokestatic 119, 3) := by decide +kernel
theorem d_Law_list_193 : decode M_Law_list.2.1 193 = .ok (.iconst 4, 1) := by decide +kernel
theorem d_Law_list_194 : decode M_Law_list.2.1 194 = .ok (.invokestatic 125, 3) := by decide +kernel
theorem d_Law_list_197 : decode M_Law_list.2.1 197 = .ok (.iadd, 1) := by decide +kernel
theorem d_Law_list_198 : decode M_Law_list.2.1 198 = .ok (.anewarray 129, 3) := by decide +kernel
theorem d_Law_list_201 : decode M_Law_list.2.1 201 = .ok (.putfield 145, 3) := by decide +kernel
theorem d_Law_list_204 : decode M_Law_list.2.1 204 = .ok (.iconst 0, 1) := by decide +kernel
theorem d_Law_list_205 : decode M_Law_list.2.1 205 = .ok (.istore 5, 2) := by decide +kernel
theorem d_Law_list_355 : decode M_Law_list.2.1 355 = .ok (.aload_n 2, 1) := by decide +kernel
theorem d_Law_list_356 : decode M_Law_list.2.1 356 = .ok (.iconst 1, 1) := by decide +kernel
theorem d_Law_list_357 : decode M_Law_list.2.1 357 = .ok (.aload_n 0, 1) := by decide +kernel
theorem d_Law_list_358 : decode M_Law_list.2.1 358 = .ok (.iconst 3, 1) := by decide +kernel
theorem d_Law_list_359 : decode M_Law_list.2.1 359 = .ok (.invokestatic 119, 3) := by decide +kernel
theorem d_Law_list_362 : decode M_Law_list.2.1 362 = .ok (.iconst 4, 1) := by decide +kernel
theorem d_Law_list_363 : decode M_Law_list.2.1 363 = .ok (.invokestatic 125, 3) := by decide +kernel
theorem d_Law_list_366 : decode M_Law_list.2.1 366 = .ok (.iadd, 1) := by decide +kernel
theorem d_Law_list_367 : decode M_Law_list.2.1 367 = .ok (.anewarray 129, 3) := by decide +kernel
theorem d_Law_list_370 : decode M_Law_list.2.1 370 = .ok (.putfield 154, 3) := by decide +kernel
theorem d_Law_list_373 : decode M_Law_list.2.1 373 = .ok (.iconst 0, 1) := by decide +kernel
theorem d_Law_list_374 : decode M_Law_list.2.1 374 = .ok (.istore 5, 2) := by decide +kernel
theorem d_Law_list_531 : decode M_Law_list.2.1 531 = .ok (.aload_n 2, 1) := by decide +kernel
theorem d_Law_list_532 : decode M_Law_list.2.1 532 = .ok (.iconst 1, 1) := by decide +kernel
theorem d_Law_list_533 : decode M_Law_list.2.1 533 = .ok (.aload_n 0, 1) := by decide +kernel
theorem d_Law_list_534 : decode M_Law_list.2.1 534 = .ok (.iconst 4, 1) := by decide +kernel
theorem d_Law_list_535 : decode M_Law_list.2.1 535 = .ok (.invokestatic 119, 3) := by decide +kernel
theorem d_Law_list_538 : decode M_Law_list.2.1 538 = .ok (.iconst 3, 1) := by decide +kernel
theorem d_Law_list_539 : decode M_Law_list.2.1 539 = .ok (.invokestatic 125, 3) := by decide +kernel
theorem d_Law_list_542 : decode M_Law_list.2.1 542 = .ok (.iadd, 1) := by decide +kernel
theorem d_Law_list_543 : decode M_Law_list.2.1 543 = .ok (.anewarray 129, 3) := by decide +kernel
theorem d_Law_list_546 : decode M_Law_list.2.1 546 = .ok (.putfield 163, 3) := by decide +kernel
theorem d_Law_list_549 : decode M_Law_list.2.1 549 = .ok (.iconst 0, 1) := by decide +kernel
theorem d_Law_list_550 : decode M_Law_list.2.1 550 = .ok (.istore 5, 2) := by decide +kernel
theorem d_Law_list_665 : decode M_Law_list.2.1 665 = .ok (.aload_n 2, 1) := by decide +kernel
theorem d_Law_list_666 : decode M_Law_list.2.1 666 = .ok (.iconst 1, 1) := by decide +kernel
theorem d_Law_list_667 : decode M_Law_list.2.1 667 = .ok (.aload_n 0, 1) := by decide +kernel
theorem d_Law_list_668 : decode M_Law_list.2.1 668 = .ok (.iconst 5, 1) := by decide +kernel
theorem d_Law_list_669 : decode M_Law_list.2.1 669 = .ok (.invokestatic 119, 3) := by decide +kernel
theorem d_Law_list_672 : decode M_Law_list.2.1 672 = .ok (.iconst 3, 1) := by decide +kernel
theorem d_Law_list_673 : decode M_Law_list.2.1 673 = .ok (.invokestatic 125, 3) := by decide +kernel
theorem d_Law_list_676 : decode M_Law_list.2.1 676 = .ok (.iadd, 1) := by decide +kernel
theorem d_Law_list_677 : decode M_Law_list.2.1 677 = .ok (.anewarray 129, 3) := by decide +kernel
theorem d_Law_list_680 : decode M_Law_list.2.1 680 = .ok (.putfield 170, 3) := by decide +kernel
theorem d_Law_list_683 : decode M_Law_list.2.1 683 = .ok (.iconst 0, 1) := by decide +kernel
theorem d_Law_list_684 : decode M_Law_list.2.1 684 = .ok (.istore 5, 2) := by decide +kernel
theorem d_Law_list_852 : decode M_Law_list.2.1 852 = .ok (.aload_n 0, 1) := by decide +kernel
theorem d_Law_list_853 : decode M_Law_list.2.1 853 = .ok (.bipush 6, 2) := by decide +kernel
theorem d_Law_list_855 : decode M_Law_list.2.1 855 = .ok (.invokestatic 119, 3) := by decide +kernel
theorem d_Law_list_858 : decode M_Law_list.2.1 858 = .ok (.bipush 7, 2) := by decide +kernel
theorem d_Law_list_860 : decode M_Law_list.2.1 860 = .ok (.invokestatic 125, 3) := by decide +kernel
theorem d_Law_list_863 : decode M_Law_list.2.1 863 = .ok (.istore 5, 2) := by decide +kernel
theorem d_Law_list_865 : decode M_Law_list.2.1 865 = .ok (.iconst 0, 1) := by decide +kernel
theorem d_Law_list_866 : decode M_Law_list.2.1 866 = .ok (.istore 6, 2) := by decide +kernel
theorem d_Law_list_977 : decode M_Law_list.2.1 977 = .ok (.aload_n 2, 1) := by decide +kernel
theorem d_Law_list_978 : decode M_Law_list.2.1 978 = .ok (.aload_n 0, 1) := by decide +kernel
theorem d_Law_list_979 : decode M_Law_list.2.1 979 = .ok (.bipush 8, 2) := by decide +kernel
theorem d_Law_list_981 : decode M_Law_list.2.1 981 = .ok (.invokestatic 119, 3) := by decide +kernel
theorem d_Law_list_984 : decode M_Law_list.2.1 984 = .ok (.bipush 8, 2) := by decide +kernel
theorem d_Law_list_986 : decode M_Law_list.2.1 986 = .ok (.invokestatic 125, 3) := by decide +kernel
theorem d_Law_list_989 : decode M_Law_list.2.1 989 = .ok (.anewarray 129, 3) := by decide +kernel
theorem d_Law_list_992 : decode M_Law_list.2.1 992 = .ok (.putfield 184, 3) := by decide +kernel
theorem d_Law_list_995 : decode M_Law_list.2.1 995 = .ok (.iconst 0, 1) := by decide +kernel
theorem d_Law_list_996 : decode M_Law_list.2.1 996 = .ok (.istore 6, 2) := by decide +kernel
theorem d_Law_list_1445 : decode M_Law_list.2.1 1445 = .ok (.aload_n 2, 1) := by decide +kernel
theorem d_Law_list_1446 : decode M_Law_list.2.1 1446 = .ok (.areturn, 1) := by decide +kernel
set_option maxRecDepth 100000 in
set_option maxHeartbeats 4000000 in
theorem c_list {Γ : G9} {ls : Nat → Nat} {sa n : Nat} {xs : Nat → Int32} {h h0 : AH} {b z : Nat} (hk : CsOk Γ) (hp : PrOk Γ) (hdg : DgOk Γ) (hls : LsOk Γ ls) (hao : AoOk Γ) (hsc : ScOk Γ sa n xs) (hn : n < 2 ^ 31) (hat : AtOk Γ) (hs0 : SB Γ h b h0 [] 0) : Call Γ M_Law_list 9 900 1100000 [.ref sa, .ref b] h z (fun v h2 _ => ∃ D : DL, DOk D ∧ ∃ sim : Nat, v = some (.ref sim) ∧ LX Γ h2 b h0 sim (dTx D) (dRS D) (dCN D) (wF (d_w D))) noX := by
  refine Call.of_go (L := [some (.ref sa), some (.ref b), none, none, none, none, none, none, none, none, none, none, none]) (by decide +kernel) rfl (by exact Nat.le_of_ble_eq_true rfl) ?_
  refine Go.low (fun hlow => ?_)
  refine Go.new (ci := 9) (C1 := 900 - 1) (S1 := 1100000 - 11) (fs := simF0) ty_Sim d_Law_list_0 rfl rfl cw_Sim ty_Sim_ok xq_S116 xq_insSim xq_iniSim n9_fs_Sim (by decide) (by decide) ?_
  refine Go.dup d_Law_list_3 rfl rfl ?_
  refine Go.callI (C1 := 890) (S1 := 1099000) (as := []) d_Law_list_4 rfl (Or.inr ⟨_, l_Law_118⟩) k_Sim_init_n rfl rfl (c_Sim_init hao hup_at) (by decide) (by decide) (by decide) (by decide) (by exact Nat.le_of_ble_eq_true rfl) (fun _ _ _ w _ => w.elim) (fun v9 h9 z9 w9 hz9 => ?_)
  obtain ⟨rfl, rfl, rfl⟩ := w9
  clear hz9
  have hs : LSt Γ (simN Γ (hup h z (.inr (9, simF0))) z (z + 1)) b h0 [] (B00 z (z + 1)) := LSt.mk0 hs0 (simN_ext (Nat.lt_add_one z) (fun x hx => (hup_ne (by omega)).trans (hlow x (by omega))) (hlow z (Nat.le_refl z)) (Ext.up (hlow z (Nat.le_refl z)))) (SimB.new (Nat.lt_add_one z)) (fun k r ho => (B00_lo (Nat.lt_add_one z) ho).elim (fun e => by rw [e]; exact hlow z (Nat.le_refl z)) (fun e => hlow _ (by omega)))
  obtain ⟨sim, hsim⟩ : ∃ sim, b_ad (B00 z (z + 1)) 6 0 = sim := ⟨_, rfl⟩
  have hsz : z = sim := hsim
  obtain ⟨B, eB⟩ : ∃ B, B = B00 z (z + 1) := ⟨_, rfl⟩
  have hr : b_rs B = RSF [] [] [] [] [] [] := by rw [eB]; exact RS0
  have hc : b_cn B = CN 0 0 0 0 0 0 := by rw [eB]; exact CN0
  have hw : b_wa B = (fun _ => 10) := by rw [eB]; rfl
  rw [← eB] at hs hsim
  generalize simN Γ (hup h z (.inr (9, simF0))) z (z + 1) = h1 at hs ⊢
  generalize z + 1 + 7 = z1
  refine Go.astore_2 d_Law_list_7 rfl (by rfl) ?_
  rw [hsz]
  clear hsz eB hlow hs0
  refine Go.iconst (v := 1) d_Law_list_8 rfl (by decide) ?_
  refine Go.aload_0 d_Law_list_9 rfl ?_
  refine Go.iconst (v := 0) d_Law_list_10 rfl (by decide) ?_
  refine Go.lcell d_Law_list_11 rfl hsc hn (k := 0) rfl (by omega) rfl (fun x0 => ?_)
  refine Go.iconst (v := 4) d_Law_list_14 rfl (by decide) ?_
  refine Go.lbel d_Law_list_15 rfl (n := 4) rfl (by omega) (by omega) rfl (fun y1 by1 => ?_)
  refine Go.iadd d_Law_list_18 rfl ?_
  rw [show (1 : Int32) + nI (y1) = nI (1 + y1) from nI_ad _ _]
  obtain ⟨nb, enb⟩ : ∃ nb, nb = 1 + y1 := ⟨_, rfl⟩
  rw [← enb]
  have hnb : 1 ≤ nb ∧ nb ≤ 4 := ⟨by omega, by omega⟩
  refine Go.istore_3 d_Law_list_19 rfl (by rfl) ?_
  refine Go.aload_0 d_Law_list_20 rfl ?_
  refine Go.iconst (v := 0) d_Law_list_21 rfl (by decide) ?_
  refine Go.lcell d_Law_list_22 rfl hsc hn (k := 0) rfl (by omega) rfl (fun x2 => ?_)
  refine Go.iconst (v := 4) d_Law_list_25 rfl (by decide) ?_
  refine Go.ishr d_Law_list_26 rfl ?_
  refine Go.bipush (v := 6) d_Law_list_27 rfl (by decide) ?_
  refine Go.lbel d_Law_list_29 rfl (n := 6) rfl (by omega) (by omega) rfl (fun y3 by3 => ?_)
  refine Go.istore_4 d_Law_list_32 rfl (by rfl) ?_
  refine Go.aload_2 d_Law_list_34 rfl ?_
  refine Go.iload_3 d_Law_list_35 rfl ?_
  refine Go.lout (k := 0) d_Law_list_36 d_Law_list_39 rfl xq_A129 hao (N := nb) rfl (by omega) (by decide) f_Law_131_p (fun _ => rfl) (fun _ => rfl) (fun C T N h => by cases h; rfl) hs hsim (by rw [hr]; rfl) (by omega) (by omega) (fun h B hs e1 hc1 hw1 hsim => ?_)
  have hr := e1.trans hr
  rw [hc, CN_out0] at hc1
  have hc := hc1
  have hw := hw1.trans hw
  refine Go.iconst (v := 0) d_Law_list_42 rfl (by decide) ?_
  refine Go.istore_5 d_Law_list_43 rfl (by rfl) ?_
  refine Go.fgt [some (.ref sa), some (.ref b), some (.ref sim), some (.int (nI nb)), some (.int (nI (y3))), some (.int 0), none, none, none, none, none, none, none] (by repeat' (first | exact trivial | refine ⟨rfl, ?_⟩)) ?_
  refine li_bands (hb := h0) (C' := 810) (S' := 980000) hk hp hdg hls hao hsc hn hnb hnb.2 rfl (p := []) (Nat.zero_le _) (fun l0 h z hl_l0 hok_l0 hpw ⟨B, hs, hr, hc, hw, hsim⟩ => ?_) nb 0 [] _ _ _ _ _ (Nat.zero_add _) rfl (fun a ha => absurd ha List.not_mem_nil) (by omega) (fun a ha => absurd ha List.not_mem_nil) List.Pairwise.nil ⟨B, hs, hr, hc, hw, hsim⟩ (by omega) (by omega)
  have q0 : (tAll tBand l0).length ≤ 29 * nb := tAll_len (K := 10) (fun k a => len_tBand) hl_l0 (by omega) hok_l0
  refine Go.aload_2 d_Law_list_186 rfl ?_
  refine Go.iconst (v := 1) d_Law_list_187 rfl (by decide) ?_
  refine Go.aload_0 d_Law_list_188 rfl ?_
  refine Go.iconst (v := 2) d_Law_list_189 rfl (by decide) ?_
  refine Go.lcell d_Law_list_190 rfl hsc hn (k := 2) rfl (by omega) rfl (fun x4 => ?_)
  refine Go.iconst (v := 4) d_Law_list_193 rfl (by decide) ?_
  refine Go.lbel d_Law_list_194 rfl (n := 4) rfl (by omega) (by omega) rfl (fun y5 by5 => ?_)
  refine Go.iadd d_Law_list_197 rfl ?_
  rw [show (1 : Int32) + nI (y5) = nI (1 + y5) from nI_ad _ _]
  obtain ⟨n1, en1⟩ : ∃ n1, n1 = 1 + y5 := ⟨_, rfl⟩
  rw [← en1]
  have hn1 : 1 ≤ n1 ∧ n1 ≤ 4 := ⟨by omega, by omega⟩
  refine Go.lout (k := 1) d_Law_list_198 d_Law_list_201 rfl xq_A129 hao (N := n1) rfl (by omega) (by decide) f_Law_145_p (fun _ => rfl) (fun _ => rfl) (fun C T N h => by cases h; rfl) hs hsim (by rw [hr]; rfl) (by omega) (by omega) (fun h B hs e1 hc1 hw1 hsim => ?_)
  have hr := e1.trans hr
  rw [hc, CN_out1] at hc1
  have hc := hc1
  have hw := hw1.trans hw
  refine Go.iconst (v := 0) d_Law_list_204 rfl (by decide) ?_
  refine Go.istore_5 d_Law_list_205 rfl (by rfl) ?_
  refine Go.fgt [some (.ref sa), some (.ref b), some (.ref sim), some (.int (nI nb)), none, some (.int 0), none, none, none, none, none, none, none] (by repeat' (first | exact trivial | refine ⟨rfl, ?_⟩)) ?_
  refine li_stakes (hb := h0) (C' := 770) (S' := 890000) hk hp hdg hls hao hsc hn hnb hn1.2 (p := ([] ++ tAll tBand l0)) (by simp only [List.length_append, List.length_nil]; omega) hnb.2 (fun l1 h z hl_l1 hok_l1 ⟨B, hs, hr, hc, hw, hsim⟩ => ?_) n1 0 [] _ _  _ _ (Nat.zero_add _) rfl (fun a ha => absurd ha List.not_mem_nil) ⟨B, (by
      rw [show tAll tStake [] = [] from rfl, List.append_nil]
      exact hs), hr, hc, hw, hsim⟩ (by omega) (by omega)
  have qn1 : (tAll tStake l1).length ≤ 24 * n1 := tAll_len (K := 10) (fun k a => len_tStake hnb.2) hl_l1 (by omega) hok_l1
  refine Go.aload_2 d_Law_list_355 rfl ?_
  refine Go.iconst (v := 1) d_Law_list_356 rfl (by decide) ?_
  refine Go.aload_0 d_Law_list_357 rfl ?_
  refine Go.iconst (v := 3) d_Law_list_358 rfl (by decide) ?_
  refine Go.lcell d_Law_list_359 rfl hsc hn (k := 3) rfl (by omega) rfl (fun x6 => ?_)
  refine Go.iconst (v := 4) d_Law_list_362 rfl (by decide) ?_
  refine Go.lbel d_Law_list_363 rfl (n := 4) rfl (by omega) (by omega) rfl (fun y7 by7 => ?_)
  refine Go.iadd d_Law_list_366 rfl ?_
  rw [show (1 : Int32) + nI (y7) = nI (1 + y7) from nI_ad _ _]
  obtain ⟨n2, en2⟩ : ∃ n2, n2 = 1 + y7 := ⟨_, rfl⟩
  rw [← en2]
  have hn2 : 1 ≤ n2 ∧ n2 ≤ 4 := ⟨by omega, by omega⟩
  refine Go.lout (k := 2) d_Law_list_367 d_Law_list_370 rfl xq_A129 hao (N := n2) rfl (by omega) (by decide) f_Law_154_p (fun _ => rfl) (fun _ => rfl) (fun C T N h => by cases h; rfl) hs hsim (by rw [hr]; rfl) (by omega) (by omega) (fun h B hs e1 hc1 hw1 hsim => ?_)
  have hr := e1.trans hr
  rw [hc, CN_out2] at hc1
  have hc := hc1
  have hw := hw1.trans hw
  refine Go.iconst (v := 0) d_Law_list_373 rfl (by decide) ?_
  refine Go.istore_5 d_Law_list_374 rfl (by rfl) ?_
  refine Go.fgt [some (.ref sa), some (.ref b), some (.ref sim), some (.int (nI nb)), none, some (.int 0), none, none, none, none, none, none, none] (by repeat' (first | exact trivial | refine ⟨rfl, ?_⟩)) ?_
  refine li_crev (hb := h0) (C' := 730) (S' := 800000) hk hp hdg hls hao hsc hn hnb hn2.2 (p := (([] ++ tAll tBand l0) ++ tAll tStake l1)) (by simp only [List.length_append, List.length_nil]; omega) hnb.2 hn1.2 (fun l2 h z hl_l2 hok_l2 ⟨B, hs, hr, hc, hw, hsim⟩ => ?_) n2 0 [] _ _  _ _ (Nat.zero_add _) rfl (fun a ha => absurd ha List.not_mem_nil) ⟨B, (by
      rw [show tAll tCrev [] = [] from rfl, List.append_nil]
      exact hs), hr, hc, hw, hsim⟩ (by omega) (by omega)
  have qn2 : (tAll tCrev l2).length ≤ 31 * n2 := tAll_len (K := 10) (fun k a => len_tCrev hnb.2) hl_l2 (by omega) hok_l2
  refine Go.aload_2 d_Law_list_531 rfl ?_
  refine Go.iconst (v := 1) d_Law_list_532 rfl (by decide) ?_
  refine Go.aload_0 d_Law_list_533 rfl ?_
  refine Go.iconst (v := 4) d_Law_list_534 rfl (by decide) ?_
  refine Go.lcell d_Law_list_535 rfl hsc hn (k := 4) rfl (by omega) rfl (fun x8 => ?_)
  refine Go.iconst (v := 3) d_Law_list_538 rfl (by decide) ?_
  refine Go.lbel d_Law_list_539 rfl (n := 3) rfl (by omega) (by omega) rfl (fun y9 by9 => ?_)
  refine Go.iadd d_Law_list_542 rfl ?_
  rw [show (1 : Int32) + nI (y9) = nI (1 + y9) from nI_ad _ _]
  obtain ⟨n3, en3⟩ : ∃ n3, n3 = 1 + y9 := ⟨_, rfl⟩
  rw [← en3]
  have hn3 : 1 ≤ n3 ∧ n3 ≤ 3 := ⟨by omega, by omega⟩
  refine Go.lout (k := 3) d_Law_list_543 d_Law_list_546 rfl xq_A129 hao (N := n3) rfl (by omega) (by decide) f_Law_163_p (fun _ => rfl) (fun _ => rfl) (fun C T N h => by cases h; rfl) hs hsim (by rw [hr]; rfl) (by omega) (by omega) (fun h B hs e1 hc1 hw1 hsim => ?_)
  have hr := e1.trans hr
  rw [hc, CN_out3] at hc1
  have hc := hc1
  have hw := hw1.trans hw
  refine Go.iconst (v := 0) d_Law_list_549 rfl (by decide) ?_
  refine Go.istore_5 d_Law_list_550 rfl (by rfl) ?_
  refine Go.fgt [some (.ref sa), some (.ref b), some (.ref sim), some (.int (nI nb)), none, some (.int 0), none, none, none, none, none, none, none] (by repeat' (first | exact trivial | refine ⟨rfl, ?_⟩)) ?_
  refine li_depots (hb := h0) (C' := 700) (S' := 730000) hk hp hdg hls hao hsc hn hnb (Nat.le_trans hn3.2 (by decide)) (p := ((([] ++ tAll tBand l0) ++ tAll tStake l1) ++ tAll tCrev l2)) (by simp only [List.length_append, List.length_nil]; omega) hnb.2 hn1.2 hn2.2 (fun l3 h z hl_l3 hok_l3 ⟨B, hs, hr, hc, hw, hsim⟩ => ?_) n3 0 [] _ _  _ _ (Nat.zero_add _) rfl (fun a ha => absurd ha List.not_mem_nil) ⟨B, (by
      rw [show tAll tDepot [] = [] from rfl, List.append_nil]
      exact hs), hr, hc, hw, hsim⟩ (by omega) (by omega)
  have qn3 : (tAll tDepot l3).length ≤ 23 * n3 := tAll_len (K := 10) (fun k a => len_tDepot hnb.2) hl_l3 (by omega) hok_l3
  refine Go.aload_2 d_Law_list_665 rfl ?_
  refine Go.iconst (v := 1) d_Law_list_666 rfl (by decide) ?_
  refine Go.aload_0 d_Law_list_667 rfl ?_
  refine Go.iconst (v := 5) d_Law_list_668 rfl (by decide) ?_
  refine Go.lcell d_Law_list_669 rfl hsc hn (k := 5) rfl (by omega) rfl (fun x10 => ?_)
  refine Go.iconst (v := 3) d_Law_list_672 rfl (by decide) ?_
  refine Go.lbel d_Law_list_673 rfl (n := 3) rfl (by omega) (by omega) rfl (fun y11 by11 => ?_)
  refine Go.iadd d_Law_list_676 rfl ?_
  rw [show (1 : Int32) + nI (y11) = nI (1 + y11) from nI_ad _ _]
  obtain ⟨n4, en4⟩ : ∃ n4, n4 = 1 + y11 := ⟨_, rfl⟩
  rw [← en4]
  have hn4 : 1 ≤ n4 ∧ n4 ≤ 3 := ⟨by omega, by omega⟩
  refine Go.lout (k := 4) d_Law_list_677 d_Law_list_680 rfl xq_A129 hao (N := n4) rfl (by omega) (by decide) f_Law_170_p (fun _ => rfl) (fun _ => rfl) (fun C T N h => by cases h; rfl) hs hsim (by rw [hr]; rfl) (by omega) (by omega) (fun h B hs e1 hc1 hw1 hsim => ?_)
  have hr := e1.trans hr
  rw [hc, CN_out4] at hc1
  have hc := hc1
  have hw := hw1.trans hw
  refine Go.iconst (v := 0) d_Law_list_683 rfl (by decide) ?_
  refine Go.istore_5 d_Law_list_684 rfl (by rfl) ?_
  refine Go.fgt [some (.ref sa), some (.ref b), some (.ref sim), some (.int (nI nb)), none, some (.int 0), none, none, none, none, none, none, none] (by repeat' (first | exact trivial | refine ⟨rfl, ?_⟩)) ?_
  refine li_teams (hb := h0) (C' := 660) (S' := 660000) hk hp hdg hls hao hsc hn hnb (Nat.le_trans hn4.2 (by decide)) (p := (((([] ++ tAll tBand l0) ++ tAll tStake l1) ++ tAll tCrev l2) ++ tAll tDepot l3)) (by simp only [List.length_append, List.length_nil]; omega) hnb.2 hn1.2 hn2.2 (Nat.le_trans hn3.2 (by decide)) (fun l4 h z hl_l4 hok_l4 ⟨B, hs, hr, hc, hw, hsim⟩ => ?_) n4 0 [] _ _  _ _ (Nat.zero_add _) rfl (fun a ha => absurd ha List.not_mem_nil) ⟨B, (by
      rw [show tAll tTeam [] = [] from rfl, List.append_nil]
      exact hs), hr, hc, hw, hsim⟩ (by omega) (by omega)
  have qn4 : (tAll tTeam l4).length ≤ 29 * n4 := tAll_len (K := 10) (fun k a => len_tTeam hnb.2) hl_l4 (by omega) hok_l4
  refine Go.aload_0 d_Law_list_852 rfl ?_
  refine Go.bipush (v := 6) d_Law_list_853 rfl (by decide) ?_
  refine Go.lcell d_Law_list_855 rfl hsc hn (k := 6) rfl (by omega) rfl (fun x12 => ?_)
  refine Go.bipush (v := 7) d_Law_list_858 rfl (by decide) ?_
  refine Go.lbel d_Law_list_860 rfl (n := 7) rfl (by omega) (by omega) rfl (fun y13 by13 => ?_)
  obtain ⟨dn, edn⟩ : ∃ dn, dn = y13 := ⟨_, rfl⟩
  rw [← edn]
  have hdn : dn ≤ 6 := by omega
  refine Go.istore_5 d_Law_list_863 rfl (by rfl) ?_
  refine Go.iconst (v := 0) d_Law_list_865 rfl (by decide) ?_
  refine Go.istore_6 d_Law_list_866 rfl (by rfl) ?_
  have hw : b_wa B = wF [] := hw
  refine Go.fgt [some (.ref sa), some (.ref b), some (.ref sim), some (.int (nI nb)), none, some (.int (nI dn)), some (.int 0), none, none, none, none, none, none] (by repeat' (first | exact trivial | refine ⟨rfl, ?_⟩)) ?_
  refine li_days (hb := h0) (C' := 600) (S' := 540000) hk hp hdg hls hao hsc hn hnb hdn (p := ((((([] ++ tAll tBand l0) ++ tAll tStake l1) ++ tAll tCrev l2) ++ tAll tDepot l3) ++ tAll tTeam l4)) (by simp only [List.length_append, List.length_nil]; omega) hnb.2 hn1.2 hn2.2 (Nat.le_trans hn3.2 (by decide)) (Nat.le_trans hn4.2 (by decide)) (fun l5 h z hl_l5 hok_l5 ⟨B, hs, hr, hc, hw, hsim⟩ => ?_) dn 0 [] _ _  _ _ (Nat.zero_add _) rfl (fun a ha => absurd ha List.not_mem_nil) ⟨B, (by
      rw [show tAll tDay [] = [] from rfl, List.append_nil]
      exact hs), hr, hc, hw, hsim⟩ (by omega) (by omega)
  have qdn : (tAll tDay l5).length ≤ 14 * dn := tAll_len (K := 10) (fun k a => len_tDay) hl_l5 (by omega) hok_l5
  refine Go.aload_2 d_Law_list_977 rfl ?_
  refine Go.aload_0 d_Law_list_978 rfl ?_
  refine Go.bipush (v := 8) d_Law_list_979 rfl (by decide) ?_
  refine Go.lcell d_Law_list_981 rfl hsc hn (k := 8) rfl (by omega) rfl (fun x14 => ?_)
  refine Go.bipush (v := 8) d_Law_list_984 rfl (by decide) ?_
  refine Go.lbel d_Law_list_986 rfl (n := 8) rfl (by omega) (by omega) rfl (fun y15 by15 => ?_)
  obtain ⟨n5, en5⟩ : ∃ n5, n5 = y15 := ⟨_, rfl⟩
  rw [← en5]
  have hn5 : n5 ≤ 7 := by omega
  refine Go.lout (k := 5) d_Law_list_989 d_Law_list_992 rfl xq_A129 hao (N := n5) rfl (by omega) (by decide) f_Law_184_p (fun _ => rfl) (fun _ => rfl) (fun C T N h => by cases h; rfl) hs hsim (by rw [hr]; rfl) (by omega) (by omega) (fun h B hs e1 hc1 hw1 hsim => ?_)
  have hr := e1.trans hr
  rw [hc, CN_out5] at hc1
  have hc := hc1
  have hw := hw1.trans hw
  refine Go.iconst (v := 0) d_Law_list_995 rfl (by decide) ?_
  refine Go.istore_6 d_Law_list_996 rfl (by rfl) ?_
  refine Go.fgt [some (.ref sa), some (.ref b), some (.ref sim), some (.int (nI nb)), none, none, some (.int 0), none, none, none, none, none, none] (by repeat' (first | exact trivial | refine ⟨rfl, ?_⟩)) ?_
  refine li_orders (hb := h0) (C' := 0) (S' := 0) hk hp hdg hls hao hsc hn hat hnb hn5 (p := (((((([] ++ tAll tBand l0) ++ tAll tStake l1) ++ tAll tCrev l2) ++ tAll tDepot l3) ++ tAll tTeam l4) ++ tAll tDay l5)) (by simp only [List.length_append, List.length_nil]; omega) hnb.2 ⟨hn1.1, hn1.2⟩ ⟨hn2.1, hn2.2⟩ ⟨hn3.1, Nat.le_trans hn3.2 (by decide)⟩ ⟨hn4.1, Nat.le_trans hn4.2 (by decide)⟩ (fun l6 h z hl_l6 hok_l6 ⟨B, hs, hr, hc, hw, hsim⟩ => ?_) n5 0 [] _ _  _ _ (Nat.zero_add _) rfl (fun a ha => absurd ha List.not_mem_nil) ⟨B, (by
      rw [show tAll tOrd [] = [] from rfl, List.append_nil]
      exact hs), hr, hc, hw, hsim⟩ (by omega) (Nat.le_trans (Nat.le_of_eq (Nat.zero_add _)) (Nat.le_trans (Nat.mul_le_mul_right 76000 hn5) (Nat.le_sub_of_add_le (Nat.le_trans (Nat.add_le_add_left hn5 _) (by decide)))))
  refine Go.aload_2 d_Law_list_1445 rfl ?_
  subst hl_l0 hl_l1 hl_l2 hl_l3 hl_l4 hl_l5 hl_l6
  refine Go.aret d_Law_list_1446 rfl ⟨(l0, l1, l2, l3, l4, l5, l6), ⟨hnb, hn1, hn2, hn3, hn4, hdn, hn5, hok_l0, hpw, hok_l1, hok_l2, hok_l3, hok_l4, hok_l5, hok_l6⟩, sim, rfl, B, hs, hr, hc, hw, hsim⟩
