/-! the reference: rows copied and filled; a state that becomes another -/
theorem d_State_copy_0 : decode M_State_copy.2.1 0 = .ok (.aload_n 0, 1) := by decide +kernel
theorem d_State_copy_1 : decode M_State_copy.2.1 1 = .ok (.iconst 0, 1) := by decide +kernel
theorem d_State_copy_2 : decode M_State_copy.2.1 2 = .ok (.aload_n 1, 1) := by decide +kernel
theorem d_State_copy_3 : decode M_State_copy.2.1 3 = .ok (.iconst 0, 1) := by decide +kernel
theorem d_State_copy_4 : decode M_State_copy.2.1 4 = .ok (.aload_n 1, 1) := by decide +kernel
theorem d_State_copy_5 : decode M_State_copy.2.1 5 = .ok (.arraylength, 1) := by decide +kernel
theorem d_State_copy_6 : decode M_State_copy.2.1 6 = .ok (.invokestatic 72, 3) := by decide +kernel
theorem d_State_copy_9 : decode M_State_copy.2.1 9 = .ok (.return_, 1) := by decide +kernel
set_option maxRecDepth 100000 in
set_option maxHeartbeats 4000000 in
theorem c_State_copy {Γ : G9} {h : AH} {z a0 a1 n : Nat} {f g : Nat → Int32} (h0 : h a0 = some (aI Γ n f)) (h1 : h a1 = some (aI Γ n g)) (hn : n < 2 ^ 31) : CallR Γ M_State_copy 3 [.ref a0, .ref a1] h z none (hup h a1 (aI Γ n f)) := by
  refine Call.of_go (L := [some (.ref a0), some (.ref a1)]) (by decide +kernel) rfl (by exact Nat.le_of_ble_eq_true rfl) ?_
  refine Go.aload_0 d_State_copy_0 rfl ?_
  refine Go.iconst (v := 0) d_State_copy_1 rfl (by decide) ?_
  refine Go.aload_1 d_State_copy_2 rfl ?_
  refine Go.iconst (v := 0) d_State_copy_3 rfl (by decide) ?_
  refine Go.aload_1 d_State_copy_4 rfl ?_
  refine Go.alen (n := nI n) d_State_copy_5 rfl h1 (by rfl) rfl ?_
  refine Go.copyi d_State_copy_6 rfl x_acl (gm_1 (List.mem_of_getElem? (i := 27) rfl) rfl) h0 h1 hn rfl rfl ?_
  exact Go.vret d_State_copy_9 rfl ⟨rfl, rfl, rfl⟩
theorem d_Model_fill_1_0 : decode M_Model_fill_1.2.1 0 = .ok (.iconst 0, 1) := by decide +kernel
theorem d_Model_fill_1_1 : decode M_Model_fill_1.2.1 1 = .ok (.istore_n 2, 1) := by decide +kernel
theorem d_Model_fill_1_2 : decode M_Model_fill_1.2.1 2 = .ok (.iload_n 2, 1) := by decide +kernel
theorem d_Model_fill_1_3 : decode M_Model_fill_1.2.1 3 = .ok (.aload_n 0, 1) := by decide +kernel
theorem d_Model_fill_1_4 : decode M_Model_fill_1.2.1 4 = .ok (.arraylength, 1) := by decide +kernel
theorem d_Model_fill_1_5 : decode M_Model_fill_1.2.1 5 = .ok (.if_icmp .ge 13, 3) := by decide +kernel
theorem d_Model_fill_1_8 : decode M_Model_fill_1.2.1 8 = .ok (.aload_n 0, 1) := by decide +kernel
theorem d_Model_fill_1_9 : decode M_Model_fill_1.2.1 9 = .ok (.iload_n 2, 1) := by decide +kernel
theorem d_Model_fill_1_10 : decode M_Model_fill_1.2.1 10 = .ok (.iload_n 1, 1) := by decide +kernel
theorem d_Model_fill_1_11 : decode M_Model_fill_1.2.1 11 = .ok (.iastore, 1) := by decide +kernel
theorem d_Model_fill_1_12 : decode M_Model_fill_1.2.1 12 = .ok (.iinc 2 1, 3) := by decide +kernel
theorem d_Model_fill_1_15 : decode M_Model_fill_1.2.1 15 = .ok (.goto (-13), 3) := by decide +kernel
theorem d_Model_fill_1_18 : decode M_Model_fill_1.2.1 18 = .ok (.return_, 1) := by decide +kernel
set_option maxRecDepth 100000 in
set_option maxHeartbeats 4000000 in
theorem l_Model_fill_go {Γ : G9} {h : AH} {z a n : Nat} {v : Int32} (hn : n < 2 ^ 20) : ∀ (k i : Nat) (f : Nat → Int32), i + k = n → (∀ j, j < i → f j = v) → Go Γ M_Model_fill_1 0 0 0 2 [some (.ref a), some (.int v), some (.int (nI i))] [] (hup h a (aI Γ n f)) z (RQ none (hup h a (aI Γ n (fun _ => v))) z) noX := by
  intro k
  induction k with
  | zero =>
    intro i f hi hf
    refine Go.iload_2 d_Model_fill_1_2 rfl ?_
    refine Go.aload_0 d_Model_fill_1_3 rfl ?_
    refine Go.alen (n := nI n) d_Model_fill_1_4 rfl hup_at (by rfl) rfl ?_
    refine Go.icmp_ge (t := 18) d_Model_fill_1_5 (by decide) rfl (fun _ => ?_) (fun c => absurd (nI_le (by omega) (by omega)) c)
    refine Go.pic (g := fun _ => v) hup_at (fun j hj => hf j (by omega)) ?_
    rw [hup_hup]
    exact Go.vret d_Model_fill_1_18 rfl ⟨rfl, rfl, rfl⟩
  | succ k ih =>
    intro i f hi hf
    refine Go.iload_2 d_Model_fill_1_2 rfl ?_
    refine Go.aload_0 d_Model_fill_1_3 rfl ?_
    refine Go.alen (n := nI n) d_Model_fill_1_4 rfl hup_at (by rfl) rfl ?_
    refine Go.icmp_ge (t := 18) d_Model_fill_1_5 (by decide) rfl (fun c => absurd c (nI_ge (by omega) (by omega))) (fun _ => ?_)
    refine Go.aload_0 d_Model_fill_1_8 rfl ?_
    refine Go.iload_2 d_Model_fill_1_9 rfl ?_
    refine Go.iload_1 d_Model_fill_1_10 rfl ?_
    refine Go.iastore d_Model_fill_1_11 rfl hup_at (vp_in_nI (by omega) (by omega)) ?_
    rw [nI_clamp (by omega), hup_hup]
    refine Go.iinc_2 d_Model_fill_1_12 rfl (by rfl) (nI_inc _) ?_
    refine Go.goto (t := 2) d_Model_fill_1_15 (by decide) ?_
    refine ih (i + 1) _ (by omega) fun j hj => ?_
    unfold upd
    by_cases e : j = i
    · rw [if_pos e]
    · rw [if_neg e]
      exact hf j (by omega)
set_option maxRecDepth 100000 in
set_option maxHeartbeats 4000000 in
theorem c_Model_fill_1 {Γ : G9} {h : AH} {z a n : Nat} {f : Nat → Int32} {v : Int32} (h1 : h a = some (aI Γ n f)) (hn : n < 2 ^ 20) : CallR Γ M_Model_fill_1 0 [.ref a, .int v] h z none (hup h a (aI Γ n (fun _ => v))) := by
  refine Call.of_go (L := [some (.ref a), some (.int v), none]) (by decide +kernel) rfl (by exact Nat.le_of_ble_eq_true rfl) ?_
  refine Go.iconst (v := 0) d_Model_fill_1_0 rfl (by decide) ?_
  refine Go.istore_2 d_Model_fill_1_1 rfl (by rfl) ?_
  refine Go.heq (hup_self h1).symm ?_
  exact l_Model_fill_go hn n 0 f (by omega) (fun j hj => absurd hj (Nat.not_lt_zero j))
def sb_ (Γ : G9) (h : AH) (r r2 : Nat) (Y : SX) (A : SX) : AH := (blk (blk h r 21 (sxC Γ r Y)) r2 21 (sxC Γ r2 A))
theorem sb_at_r {Γ : G9} {h : AH} {r r2 : Nat} {Y : SX} {A : SX} (geo : r + 21 ≤ r2 ∨ r2 + 21 ≤ r) : (sb_ Γ h r r2 Y A) r = some (.inr (10, [.int (nI (sx_dy Y)), .int (sx_rd Y), .int (sx_fa Y), .int (sx_ca Y), .ref (r + 1), .ref (r + 2), .ref (r + 3), .ref (r + 4), .ref (r + 5), .ref (r + 6), .ref (r + 7), .ref (r + 8), .ref (r + 9), .ref (r + 10), .ref (r + 11), .ref (r + 12), .ref (r + 13), .ref (r + 14), .ref (r + 15), .ref (r + 16), .ref (r + 17), .ref (r + 18), .ref (r + 19), .ref (r + 20)])) := by
  unfold sb_
  exact ((blk_out (by omega)).trans (sx_g0))
theorem sb_at_r2 {Γ : G9} {h : AH} {r r2 : Nat} {Y : SX} {A : SX} (geo : r + 21 ≤ r2 ∨ r2 + 21 ≤ r) : (sb_ Γ h r r2 Y A) r2 = some (.inr (10, [.int (nI (sx_dy A)), .int (sx_rd A), .int (sx_fa A), .int (sx_ca A), .ref (r2 + 1), .ref (r2 + 2), .ref (r2 + 3), .ref (r2 + 4), .ref (r2 + 5), .ref (r2 + 6), .ref (r2 + 7), .ref (r2 + 8), .ref (r2 + 9), .ref (r2 + 10), .ref (r2 + 11), .ref (r2 + 12), .ref (r2 + 13), .ref (r2 + 14), .ref (r2 + 15), .ref (r2 + 16), .ref (r2 + 17), .ref (r2 + 18), .ref (r2 + 19), .ref (r2 + 20)])) := by
  unfold sb_
  exact (sx_g0)
theorem sb_put_r2_day {Γ : G9} {h : AH} {r r2 : Nat} {Y : SX} {A : SX} {v : Nat} (geo : r + 21 ≤ r2 ∨ r2 + 21 ≤ r) : hup (sb_ Γ h r r2 Y A) r2 (.inr (10, [.int (nI (sx_dy A)), .int (sx_rd A), .int (sx_fa A), .int (sx_ca A), .ref (r2 + 1), .ref (r2 + 2), .ref (r2 + 3), .ref (r2 + 4), .ref (r2 + 5), .ref (r2 + 6), .ref (r2 + 7), .ref (r2 + 8), .ref (r2 + 9), .ref (r2 + 10), .ref (r2 + 11), .ref (r2 + 12), .ref (r2 + 13), .ref (r2 + 14), .ref (r2 + 15), .ref (r2 + 16), .ref (r2 + 17), .ref (r2 + 18), .ref (r2 + 19), .ref (r2 + 20)].set 0 (.int (nI v)))) = (sb_ Γ h r r2 Y (sx_dy' A v)) := by
  unfold sb_
  exact (sx_p_dy (v := v))
theorem sb_put_r2_readings {Γ : G9} {h : AH} {r r2 : Nat} {Y : SX} {A : SX} {v : Int32} (geo : r + 21 ≤ r2 ∨ r2 + 21 ≤ r) : hup (sb_ Γ h r r2 Y A) r2 (.inr (10, [.int (nI (sx_dy A)), .int (sx_rd A), .int (sx_fa A), .int (sx_ca A), .ref (r2 + 1), .ref (r2 + 2), .ref (r2 + 3), .ref (r2 + 4), .ref (r2 + 5), .ref (r2 + 6), .ref (r2 + 7), .ref (r2 + 8), .ref (r2 + 9), .ref (r2 + 10), .ref (r2 + 11), .ref (r2 + 12), .ref (r2 + 13), .ref (r2 + 14), .ref (r2 + 15), .ref (r2 + 16), .ref (r2 + 17), .ref (r2 + 18), .ref (r2 + 19), .ref (r2 + 20)].set 1 (.int v))) = (sb_ Γ h r r2 Y (sx_rd' A v)) := by
  unfold sb_
  exact (sx_p_rd (v := v))
theorem sb_put_r2_falls {Γ : G9} {h : AH} {r r2 : Nat} {Y : SX} {A : SX} {v : Int32} (geo : r + 21 ≤ r2 ∨ r2 + 21 ≤ r) : hup (sb_ Γ h r r2 Y A) r2 (.inr (10, [.int (nI (sx_dy A)), .int (sx_rd A), .int (sx_fa A), .int (sx_ca A), .ref (r2 + 1), .ref (r2 + 2), .ref (r2 + 3), .ref (r2 + 4), .ref (r2 + 5), .ref (r2 + 6), .ref (r2 + 7), .ref (r2 + 8), .ref (r2 + 9), .ref (r2 + 10), .ref (r2 + 11), .ref (r2 + 12), .ref (r2 + 13), .ref (r2 + 14), .ref (r2 + 15), .ref (r2 + 16), .ref (r2 + 17), .ref (r2 + 18), .ref (r2 + 19), .ref (r2 + 20)].set 2 (.int v))) = (sb_ Γ h r r2 Y (sx_fa' A v)) := by
  unfold sb_
  exact (sx_p_fa (v := v))
theorem sb_put_r2_carried {Γ : G9} {h : AH} {r r2 : Nat} {Y : SX} {A : SX} {v : Int32} (geo : r + 21 ≤ r2 ∨ r2 + 21 ≤ r) : hup (sb_ Γ h r r2 Y A) r2 (.inr (10, [.int (nI (sx_dy A)), .int (sx_rd A), .int (sx_fa A), .int (sx_ca A), .ref (r2 + 1), .ref (r2 + 2), .ref (r2 + 3), .ref (r2 + 4), .ref (r2 + 5), .ref (r2 + 6), .ref (r2 + 7), .ref (r2 + 8), .ref (r2 + 9), .ref (r2 + 10), .ref (r2 + 11), .ref (r2 + 12), .ref (r2 + 13), .ref (r2 + 14), .ref (r2 + 15), .ref (r2 + 16), .ref (r2 + 17), .ref (r2 + 18), .ref (r2 + 19), .ref (r2 + 20)].set 3 (.int v))) = (sb_ Γ h r r2 Y (sx_ca' A v)) := by
  unfold sb_
  exact (sx_p_ca (v := v))
theorem sb_at_r_1 {Γ : G9} {h : AH} {r r2 : Nat} {Y : SX} {A : SX} (geo : r + 21 ≤ r2 ∨ r2 + 21 ≤ r) : (sb_ Γ h r r2 Y A) (r + 1) = some (aI Γ 8 (sx_wa Y)) := by
  unfold sb_
  exact ((blk_out (by omega)).trans (sx_g1))
theorem sb_at_r2_1 {Γ : G9} {h : AH} {r r2 : Nat} {Y : SX} {A : SX} (geo : r + 21 ≤ r2 ∨ r2 + 21 ≤ r) : (sb_ Γ h r r2 Y A) (r2 + 1) = some (aI Γ 8 (sx_wa A)) := by
  unfold sb_
  exact (sx_g1)
theorem sb_arr_r2_1 {Γ : G9} {h : AH} {r r2 : Nat} {Y : SX} {A : SX} {v : Nat → Int32} (geo : r + 21 ≤ r2 ∨ r2 + 21 ≤ r) : hup (sb_ Γ h r r2 Y A) (r2 + 1) (aI Γ 8 v) = (sb_ Γ h r r2 Y (sx_wa' A v)) := by
  unfold sb_
  exact (sx_a_wa (v := v))
theorem sb_at_r_2 {Γ : G9} {h : AH} {r r2 : Nat} {Y : SX} {A : SX} (geo : r + 21 ≤ r2 ∨ r2 + 21 ≤ r) : (sb_ Γ h r r2 Y A) (r + 2) = some (aI Γ 5 (sx_sn Y)) := by
  unfold sb_
  exact ((blk_out (by omega)).trans (sx_g2))
theorem sb_at_r2_2 {Γ : G9} {h : AH} {r r2 : Nat} {Y : SX} {A : SX} (geo : r + 21 ≤ r2 ∨ r2 + 21 ≤ r) : (sb_ Γ h r r2 Y A) (r2 + 2) = some (aI Γ 5 (sx_sn A)) := by
  unfold sb_
  exact (sx_g2)
theorem sb_arr_r2_2 {Γ : G9} {h : AH} {r r2 : Nat} {Y : SX} {A : SX} {v : Nat → Int32} (geo : r + 21 ≤ r2 ∨ r2 + 21 ≤ r) : hup (sb_ Γ h r r2 Y A) (r2 + 2) (aI Γ 5 v) = (sb_ Γ h r r2 Y (sx_sn' A v)) := by
  unfold sb_
  exact (sx_a_sn (v := v))
theorem sb_at_r_3 {Γ : G9} {h : AH} {r r2 : Nat} {Y : SX} {A : SX} (geo : r + 21 ≤ r2 ∨ r2 + 21 ≤ r) : (sb_ Γ h r r2 Y A) (r + 3) = some (aI Γ 5 (sx_ic Y)) := by
  unfold sb_
  exact ((blk_out (by omega)).trans (sx_g3))
theorem sb_at_r2_3 {Γ : G9} {h : AH} {r r2 : Nat} {Y : SX} {A : SX} (geo : r + 21 ≤ r2 ∨ r2 + 21 ≤ r) : (sb_ Γ h r r2 Y A) (r2 + 3) = some (aI Γ 5 (sx_ic A)) := by
  unfold sb_
  exact (sx_g3)
theorem sb_arr_r2_3 {Γ : G9} {h : AH} {r r2 : Nat} {Y : SX} {A : SX} {v : Nat → Int32} (geo : r + 21 ≤ r2 ∨ r2 + 21 ≤ r) : hup (sb_ Γ h r r2 Y A) (r2 + 3) (aI Γ 5 v) = (sb_ Γ h r r2 Y (sx_ic' A v)) := by
  unfold sb_
  exact (sx_a_ic (v := v))
theorem sb_at_r_4 {Γ : G9} {h : AH} {r r2 : Nat} {Y : SX} {A : SX} (geo : r + 21 ≤ r2 ∨ r2 + 21 ≤ r) : (sb_ Γ h r r2 Y A) (r + 4) = some (aI Γ 6 (sx_ou Y)) := by
  unfold sb_
  exact ((blk_out (by omega)).trans (sx_g4))
theorem sb_at_r2_4 {Γ : G9} {h : AH} {r r2 : Nat} {Y : SX} {A : SX} (geo : r + 21 ≤ r2 ∨ r2 + 21 ≤ r) : (sb_ Γ h r r2 Y A) (r2 + 4) = some (aI Γ 6 (sx_ou A)) := by
  unfold sb_
  exact (sx_g4)
theorem sb_arr_r2_4 {Γ : G9} {h : AH} {r r2 : Nat} {Y : SX} {A : SX} {v : Nat → Int32} (geo : r + 21 ≤ r2 ∨ r2 + 21 ≤ r) : hup (sb_ Γ h r r2 Y A) (r2 + 4) (aI Γ 6 v) = (sb_ Γ h r r2 Y (sx_ou' A v)) := by
  unfold sb_
  exact (sx_a_ou (v := v))
theorem sb_at_r_5 {Γ : G9} {h : AH} {r r2 : Nat} {Y : SX} {A : SX} (geo : r + 21 ≤ r2 ∨ r2 + 21 ≤ r) : (sb_ Γ h r r2 Y A) (r + 5) = some (aI Γ 6 (sx_sd Y)) := by
  unfold sb_
  exact ((blk_out (by omega)).trans (sx_g5))
theorem sb_at_r2_5 {Γ : G9} {h : AH} {r r2 : Nat} {Y : SX} {A : SX} (geo : r + 21 ≤ r2 ∨ r2 + 21 ≤ r) : (sb_ Γ h r r2 Y A) (r2 + 5) = some (aI Γ 6 (sx_sd A)) := by
  unfold sb_
  exact (sx_g5)
theorem sb_arr_r2_5 {Γ : G9} {h : AH} {r r2 : Nat} {Y : SX} {A : SX} {v : Nat → Int32} (geo : r + 21 ≤ r2 ∨ r2 + 21 ≤ r) : hup (sb_ Γ h r r2 Y A) (r2 + 5) (aI Γ 6 v) = (sb_ Γ h r r2 Y (sx_sd' A v)) := by
  unfold sb_
  exact (sx_a_sd (v := v))
theorem sb_at_r_6 {Γ : G9} {h : AH} {r r2 : Nat} {Y : SX} {A : SX} (geo : r + 21 ≤ r2 ∨ r2 + 21 ≤ r) : (sb_ Γ h r r2 Y A) (r + 6) = some (aI Γ 6 (sx_la Y)) := by
  unfold sb_
  exact ((blk_out (by omega)).trans (sx_g6))
theorem sb_at_r2_6 {Γ : G9} {h : AH} {r r2 : Nat} {Y : SX} {A : SX} (geo : r + 21 ≤ r2 ∨ r2 + 21 ≤ r) : (sb_ Γ h r r2 Y A) (r2 + 6) = some (aI Γ 6 (sx_la A)) := by
  unfold sb_
  exact (sx_g6)
theorem sb_arr_r2_6 {Γ : G9} {h : AH} {r r2 : Nat} {Y : SX} {A : SX} {v : Nat → Int32} (geo : r + 21 ≤ r2 ∨ r2 + 21 ≤ r) : hup (sb_ Γ h r r2 Y A) (r2 + 6) (aI Γ 6 v) = (sb_ Γ h r r2 Y (sx_la' A v)) := by
  unfold sb_
  exact (sx_a_la (v := v))
theorem sb_at_r_7 {Γ : G9} {h : AH} {r r2 : Nat} {Y : SX} {A : SX} (geo : r + 21 ≤ r2 ∨ r2 + 21 ≤ r) : (sb_ Γ h r r2 Y A) (r + 7) = some (aI Γ 6 (sx_re Y)) := by
  unfold sb_
  exact ((blk_out (by omega)).trans (sx_g7))
theorem sb_at_r2_7 {Γ : G9} {h : AH} {r r2 : Nat} {Y : SX} {A : SX} (geo : r + 21 ≤ r2 ∨ r2 + 21 ≤ r) : (sb_ Γ h r r2 Y A) (r2 + 7) = some (aI Γ 6 (sx_re A)) := by
  unfold sb_
  exact (sx_g7)
theorem sb_arr_r2_7 {Γ : G9} {h : AH} {r r2 : Nat} {Y : SX} {A : SX} {v : Nat → Int32} (geo : r + 21 ≤ r2 ∨ r2 + 21 ≤ r) : hup (sb_ Γ h r r2 Y A) (r2 + 7) (aI Γ 6 v) = (sb_ Γ h r r2 Y (sx_re' A v)) := by
  unfold sb_
  exact (sx_a_re (v := v))
theorem sb_at_r_8 {Γ : G9} {h : AH} {r r2 : Nat} {Y : SX} {A : SX} (geo : r + 21 ≤ r2 ∨ r2 + 21 ≤ r) : (sb_ Γ h r r2 Y A) (r + 8) = some (aI Γ 4 (sx_br Y)) := by
  unfold sb_
  exact ((blk_out (by omega)).trans (sx_g8))
theorem sb_at_r2_8 {Γ : G9} {h : AH} {r r2 : Nat} {Y : SX} {A : SX} (geo : r + 21 ≤ r2 ∨ r2 + 21 ≤ r) : (sb_ Γ h r r2 Y A) (r2 + 8) = some (aI Γ 4 (sx_br A)) := by
  unfold sb_
  exact (sx_g8)
theorem sb_arr_r2_8 {Γ : G9} {h : AH} {r r2 : Nat} {Y : SX} {A : SX} {v : Nat → Int32} (geo : r + 21 ≤ r2 ∨ r2 + 21 ≤ r) : hup (sb_ Γ h r r2 Y A) (r2 + 8) (aI Γ 4 v) = (sb_ Γ h r r2 Y (sx_br' A v)) := by
  unfold sb_
  exact (sx_a_br (v := v))
theorem sb_at_r_9 {Γ : G9} {h : AH} {r r2 : Nat} {Y : SX} {A : SX} (geo : r + 21 ≤ r2 ∨ r2 + 21 ≤ r) : (sb_ Γ h r r2 Y A) (r + 9) = some (aI Γ 4 (sx_kn Y)) := by
  unfold sb_
  exact ((blk_out (by omega)).trans (sx_g9))
theorem sb_at_r2_9 {Γ : G9} {h : AH} {r r2 : Nat} {Y : SX} {A : SX} (geo : r + 21 ≤ r2 ∨ r2 + 21 ≤ r) : (sb_ Γ h r r2 Y A) (r2 + 9) = some (aI Γ 4 (sx_kn A)) := by
  unfold sb_
  exact (sx_g9)
theorem sb_arr_r2_9 {Γ : G9} {h : AH} {r r2 : Nat} {Y : SX} {A : SX} {v : Nat → Int32} (geo : r + 21 ≤ r2 ∨ r2 + 21 ≤ r) : hup (sb_ Γ h r r2 Y A) (r2 + 9) (aI Γ 4 v) = (sb_ Γ h r r2 Y (sx_kn' A v)) := by
  unfold sb_
  exact (sx_a_kn (v := v))
theorem sb_at_r_10 {Γ : G9} {h : AH} {r r2 : Nat} {Y : SX} {A : SX} (geo : r + 21 ≤ r2 ∨ r2 + 21 ≤ r) : (sb_ Γ h r r2 Y A) (r + 10) = some (aI Γ 4 (sx_pr Y)) := by
  unfold sb_
  exact ((blk_out (by omega)).trans (sx_g10))
theorem sb_at_r2_10 {Γ : G9} {h : AH} {r r2 : Nat} {Y : SX} {A : SX} (geo : r + 21 ≤ r2 ∨ r2 + 21 ≤ r) : (sb_ Γ h r r2 Y A) (r2 + 10) = some (aI Γ 4 (sx_pr A)) := by
  unfold sb_
  exact (sx_g10)
theorem sb_arr_r2_10 {Γ : G9} {h : AH} {r r2 : Nat} {Y : SX} {A : SX} {v : Nat → Int32} (geo : r + 21 ≤ r2 ∨ r2 + 21 ≤ r) : hup (sb_ Γ h r r2 Y A) (r2 + 10) (aI Γ 4 v) = (sb_ Γ h r r2 Y (sx_pr' A v)) := by
  unfold sb_
  exact (sx_a_pr (v := v))
theorem sb_at_r_11 {Γ : G9} {h : AH} {r r2 : Nat} {Y : SX} {A : SX} (geo : r + 21 ≤ r2 ∨ r2 + 21 ≤ r) : (sb_ Γ h r r2 Y A) (r + 11) = some (aI Γ 4 (sx_cr Y)) := by
  unfold sb_
  exact ((blk_out (by omega)).trans (sx_g11))
theorem sb_at_r2_11 {Γ : G9} {h : AH} {r r2 : Nat} {Y : SX} {A : SX} (geo : r + 21 ≤ r2 ∨ r2 + 21 ≤ r) : (sb_ Γ h r r2 Y A) (r2 + 11) = some (aI Γ 4 (sx_cr A)) := by
  unfold sb_
  exact (sx_g11)
theorem sb_arr_r2_11 {Γ : G9} {h : AH} {r r2 : Nat} {Y : SX} {A : SX} {v : Nat → Int32} (geo : r + 21 ≤ r2 ∨ r2 + 21 ≤ r) : hup (sb_ Γ h r r2 Y A) (r2 + 11) (aI Γ 4 v) = (sb_ Γ h r r2 Y (sx_cr' A v)) := by
  unfold sb_
  exact (sx_a_cr (v := v))
theorem sb_at_r_12 {Γ : G9} {h : AH} {r r2 : Nat} {Y : SX} {A : SX} (geo : r + 21 ≤ r2 ∨ r2 + 21 ≤ r) : (sb_ Γ h r r2 Y A) (r + 12) = some (aI Γ 4 (sx_fe Y)) := by
  unfold sb_
  exact ((blk_out (by omega)).trans (sx_g12))
theorem sb_at_r2_12 {Γ : G9} {h : AH} {r r2 : Nat} {Y : SX} {A : SX} (geo : r + 21 ≤ r2 ∨ r2 + 21 ≤ r) : (sb_ Γ h r r2 Y A) (r2 + 12) = some (aI Γ 4 (sx_fe A)) := by
  unfold sb_
  exact (sx_g12)
theorem sb_arr_r2_12 {Γ : G9} {h : AH} {r r2 : Nat} {Y : SX} {A : SX} {v : Nat → Int32} (geo : r + 21 ≤ r2 ∨ r2 + 21 ≤ r) : hup (sb_ Γ h r r2 Y A) (r2 + 12) (aI Γ 4 v) = (sb_ Γ h r r2 Y (sx_fe' A v)) := by
  unfold sb_
  exact (sx_a_fe (v := v))
theorem sb_at_r_13 {Γ : G9} {h : AH} {r r2 : Nat} {Y : SX} {A : SX} (geo : r + 21 ≤ r2 ∨ r2 + 21 ≤ r) : (sb_ Γ h r r2 Y A) (r + 13) = some (aI Γ 4 (sx_fo Y)) := by
  unfold sb_
  exact ((blk_out (by omega)).trans (sx_g13))
theorem sb_at_r2_13 {Γ : G9} {h : AH} {r r2 : Nat} {Y : SX} {A : SX} (geo : r + 21 ≤ r2 ∨ r2 + 21 ≤ r) : (sb_ Γ h r r2 Y A) (r2 + 13) = some (aI Γ 4 (sx_fo A)) := by
  unfold sb_
  exact (sx_g13)
theorem sb_arr_r2_13 {Γ : G9} {h : AH} {r r2 : Nat} {Y : SX} {A : SX} {v : Nat → Int32} (geo : r + 21 ≤ r2 ∨ r2 + 21 ≤ r) : hup (sb_ Γ h r r2 Y A) (r2 + 13) (aI Γ 4 v) = (sb_ Γ h r r2 Y (sx_fo' A v)) := by
  unfold sb_
  exact (sx_a_fo (v := v))
theorem sb_at_r_14 {Γ : G9} {h : AH} {r r2 : Nat} {Y : SX} {A : SX} (geo : r + 21 ≤ r2 ∨ r2 + 21 ≤ r) : (sb_ Γ h r r2 Y A) (r + 14) = some (aI Γ 4 (sx_sk Y)) := by
  unfold sb_
  exact ((blk_out (by omega)).trans (sx_g14))
theorem sb_at_r2_14 {Γ : G9} {h : AH} {r r2 : Nat} {Y : SX} {A : SX} (geo : r + 21 ≤ r2 ∨ r2 + 21 ≤ r) : (sb_ Γ h r r2 Y A) (r2 + 14) = some (aI Γ 4 (sx_sk A)) := by
  unfold sb_
  exact (sx_g14)
theorem sb_arr_r2_14 {Γ : G9} {h : AH} {r r2 : Nat} {Y : SX} {A : SX} {v : Nat → Int32} (geo : r + 21 ≤ r2 ∨ r2 + 21 ≤ r) : hup (sb_ Γ h r r2 Y A) (r2 + 14) (aI Γ 4 v) = (sb_ Γ h r r2 Y (sx_sk' A v)) := by
  unfold sb_
  exact (sx_a_sk (v := v))
theorem sb_at_r_15 {Γ : G9} {h : AH} {r r2 : Nat} {Y : SX} {A : SX} (geo : r + 21 ≤ r2 ∨ r2 + 21 ≤ r) : (sb_ Γ h r r2 Y A) (r + 15) = some (aI Γ 4 (sx_pl Y)) := by
  unfold sb_
  exact ((blk_out (by omega)).trans (sx_g15))
theorem sb_at_r2_15 {Γ : G9} {h : AH} {r r2 : Nat} {Y : SX} {A : SX} (geo : r + 21 ≤ r2 ∨ r2 + 21 ≤ r) : (sb_ Γ h r r2 Y A) (r2 + 15) = some (aI Γ 4 (sx_pl A)) := by
  unfold sb_
  exact (sx_g15)
theorem sb_arr_r2_15 {Γ : G9} {h : AH} {r r2 : Nat} {Y : SX} {A : SX} {v : Nat → Int32} (geo : r + 21 ≤ r2 ∨ r2 + 21 ≤ r) : hup (sb_ Γ h r r2 Y A) (r2 + 15) (aI Γ 4 v) = (sb_ Γ h r r2 Y (sx_pl' A v)) := by
  unfold sb_
  exact (sx_a_pl (v := v))
theorem sb_at_r_16 {Γ : G9} {h : AH} {r r2 : Nat} {Y : SX} {A : SX} (geo : r + 21 ≤ r2 ∨ r2 + 21 ≤ r) : (sb_ Γ h r r2 Y A) (r + 16) = some (aI Γ 4 (sx_hu Y)) := by
  unfold sb_
  exact ((blk_out (by omega)).trans (sx_g16))
theorem sb_at_r2_16 {Γ : G9} {h : AH} {r r2 : Nat} {Y : SX} {A : SX} (geo : r + 21 ≤ r2 ∨ r2 + 21 ≤ r) : (sb_ Γ h r r2 Y A) (r2 + 16) = some (aI Γ 4 (sx_hu A)) := by
  unfold sb_
  exact (sx_g16)
theorem sb_arr_r2_16 {Γ : G9} {h : AH} {r r2 : Nat} {Y : SX} {A : SX} {v : Nat → Int32} (geo : r + 21 ≤ r2 ∨ r2 + 21 ≤ r) : hup (sb_ Γ h r r2 Y A) (r2 + 16) (aI Γ 4 v) = (sb_ Γ h r r2 Y (sx_hu' A v)) := by
  unfold sb_
  exact (sx_a_hu (v := v))
theorem sb_at_r_17 {Γ : G9} {h : AH} {r r2 : Nat} {Y : SX} {A : SX} (geo : r + 21 ≤ r2 ∨ r2 + 21 ≤ r) : (sb_ Γ h r r2 Y A) (r + 17) = some (aI Γ 4 (sx_he Y)) := by
  unfold sb_
  exact ((blk_out (by omega)).trans (sx_g17))
theorem sb_at_r2_17 {Γ : G9} {h : AH} {r r2 : Nat} {Y : SX} {A : SX} (geo : r + 21 ≤ r2 ∨ r2 + 21 ≤ r) : (sb_ Γ h r r2 Y A) (r2 + 17) = some (aI Γ 4 (sx_he A)) := by
  unfold sb_
  exact (sx_g17)
theorem sb_arr_r2_17 {Γ : G9} {h : AH} {r r2 : Nat} {Y : SX} {A : SX} {v : Nat → Int32} (geo : r + 21 ≤ r2 ∨ r2 + 21 ≤ r) : hup (sb_ Γ h r r2 Y A) (r2 + 17) (aI Γ 4 v) = (sb_ Γ h r r2 Y (sx_he' A v)) := by
  unfold sb_
  exact (sx_a_he (v := v))
theorem sb_at_r_18 {Γ : G9} {h : AH} {r r2 : Nat} {Y : SX} {A : SX} (geo : r + 21 ≤ r2 ∨ r2 + 21 ≤ r) : (sb_ Γ h r r2 Y A) (r + 18) = some (aI Γ 4 (sx_ma Y)) := by
  unfold sb_
  exact ((blk_out (by omega)).trans (sx_g18))
theorem sb_at_r2_18 {Γ : G9} {h : AH} {r r2 : Nat} {Y : SX} {A : SX} (geo : r + 21 ≤ r2 ∨ r2 + 21 ≤ r) : (sb_ Γ h r r2 Y A) (r2 + 18) = some (aI Γ 4 (sx_ma A)) := by
  unfold sb_
  exact (sx_g18)
theorem sb_arr_r2_18 {Γ : G9} {h : AH} {r r2 : Nat} {Y : SX} {A : SX} {v : Nat → Int32} (geo : r + 21 ≤ r2 ∨ r2 + 21 ≤ r) : hup (sb_ Γ h r r2 Y A) (r2 + 18) (aI Γ 4 v) = (sb_ Γ h r r2 Y (sx_ma' A v)) := by
  unfold sb_
  exact (sx_a_ma (v := v))
theorem sb_at_r_19 {Γ : G9} {h : AH} {r r2 : Nat} {Y : SX} {A : SX} (geo : r + 21 ≤ r2 ∨ r2 + 21 ≤ r) : (sb_ Γ h r r2 Y A) (r + 19) = some (aI Γ 4 (sx_fn Y)) := by
  unfold sb_
  exact ((blk_out (by omega)).trans (sx_g19))
theorem sb_at_r2_19 {Γ : G9} {h : AH} {r r2 : Nat} {Y : SX} {A : SX} (geo : r + 21 ≤ r2 ∨ r2 + 21 ≤ r) : (sb_ Γ h r r2 Y A) (r2 + 19) = some (aI Γ 4 (sx_fn A)) := by
  unfold sb_
  exact (sx_g19)
theorem sb_arr_r2_19 {Γ : G9} {h : AH} {r r2 : Nat} {Y : SX} {A : SX} {v : Nat → Int32} (geo : r + 21 ≤ r2 ∨ r2 + 21 ≤ r) : hup (sb_ Γ h r r2 Y A) (r2 + 19) (aI Γ 4 v) = (sb_ Γ h r r2 Y (sx_fn' A v)) := by
  unfold sb_
  exact (sx_a_fn (v := v))
theorem sb_at_r_20 {Γ : G9} {h : AH} {r r2 : Nat} {Y : SX} {A : SX} (geo : r + 21 ≤ r2 ∨ r2 + 21 ≤ r) : (sb_ Γ h r r2 Y A) (r + 20) = some (aI Γ 4 (sx_do Y)) := by
  unfold sb_
  exact ((blk_out (by omega)).trans (sx_g20))
theorem sb_at_r2_20 {Γ : G9} {h : AH} {r r2 : Nat} {Y : SX} {A : SX} (geo : r + 21 ≤ r2 ∨ r2 + 21 ≤ r) : (sb_ Γ h r r2 Y A) (r2 + 20) = some (aI Γ 4 (sx_do A)) := by
  unfold sb_
  exact (sx_g20)
theorem sb_arr_r2_20 {Γ : G9} {h : AH} {r r2 : Nat} {Y : SX} {A : SX} {v : Nat → Int32} (geo : r + 21 ≤ r2 ∨ r2 + 21 ≤ r) : hup (sb_ Γ h r r2 Y A) (r2 + 20) (aI Γ 4 v) = (sb_ Γ h r r2 Y (sx_do' A v)) := by
  unfold sb_
  exact (sx_a_do (v := v))
theorem d_State_become_0 : decode M_State_become.2.1 0 = .ok (.aload_n 0, 1) := by decide +kernel
theorem d_State_become_1 : decode M_State_become.2.1 1 = .ok (.aload_n 1, 1) := by decide +kernel
theorem d_State_become_2 : decode M_State_become.2.1 2 = .ok (.getfield 78, 3) := by decide +kernel
theorem d_State_become_5 : decode M_State_become.2.1 5 = .ok (.putfield 78, 3) := by decide +kernel
theorem d_State_become_8 : decode M_State_become.2.1 8 = .ok (.aload_n 0, 1) := by decide +kernel
theorem d_State_become_9 : decode M_State_become.2.1 9 = .ok (.aload_n 1, 1) := by decide +kernel
theorem d_State_become_10 : decode M_State_become.2.1 10 = .ok (.getfield 82, 3) := by decide +kernel
theorem d_State_become_13 : decode M_State_become.2.1 13 = .ok (.putfield 82, 3) := by decide +kernel
theorem d_State_become_16 : decode M_State_become.2.1 16 = .ok (.aload_n 0, 1) := by decide +kernel
theorem d_State_become_17 : decode M_State_become.2.1 17 = .ok (.aload_n 1, 1) := by decide +kernel
theorem d_State_become_18 : decode M_State_become.2.1 18 = .ok (.getfield 85, 3) := by decide +kernel
theorem d_State_become_21 : decode M_State_become.2.1 21 = .ok (.putfield 85, 3) := by decide +kernel
theorem d_State_become_24 : decode M_State_become.2.1 24 = .ok (.aload_n 0, 1) := by decide +kernel
theorem d_State_become_25 : decode M_State_become.2.1 25 = .ok (.aload_n 1, 1) := by decide +kernel
theorem d_State_become_26 : decode M_State_become.2.1 26 = .ok (.getfield 88, 3) := by decide +kernel
theorem d_State_become_29 : decode M_State_become.2.1 29 = .ok (.putfield 88, 3) := by decide +kernel
theorem d_State_become_32 : decode M_State_become.2.1 32 = .ok (.aload_n 1, 1) := by decide +kernel
theorem d_State_become_33 : decode M_State_become.2.1 33 = .ok (.getfield 9, 3) := by decide +kernel
theorem d_State_become_36 : decode M_State_become.2.1 36 = .ok (.aload_n 0, 1) := by decide +kernel
theorem d_State_become_37 : decode M_State_become.2.1 37 = .ok (.getfield 9, 3) := by decide +kernel
theorem d_State_become_40 : decode M_State_become.2.1 40 = .ok (.invokestatic 91, 3) := by decide +kernel
theorem d_State_become_43 : decode M_State_become.2.1 43 = .ok (.aload_n 1, 1) := by decide +kernel
theorem d_State_become_44 : decode M_State_become.2.1 44 = .ok (.getfield 15, 3) := by decide +kernel
theorem d_State_become_47 : decode M_State_become.2.1 47 = .ok (.aload_n 0, 1) := by decide +kernel
theorem d_State_become_48 : decode M_State_become.2.1 48 = .ok (.getfield 15, 3) := by decide +kernel
theorem d_State_become_51 : decode M_State_become.2.1 51 = .ok (.invokestatic 91, 3) := by decide +kernel
theorem d_State_become_54 : decode M_State_become.2.1 54 = .ok (.aload_n 1, 1) := by decide +kernel
theorem d_State_become_55 : decode M_State_become.2.1 55 = .ok (.getfield 18, 3) := by decide +kernel
theorem d_State_become_58 : decode M_State_become.2.1 58 = .ok (.aload_n 0, 1) := by decide +kernel
theorem d_State_become_59 : decode M_State_become.2.1 59 = .ok (.getfield 18, 3) := by decide +kernel
theorem d_State_become_62 : decode M_State_become.2.1 62 = .ok (.invokestatic 91, 3) := by decide +kernel
theorem d_State_become_65 : decode M_State_become.2.1 65 = .ok (.aload_n 1, 1) := by decide +kernel
theorem d_State_become_66 : decode M_State_become.2.1 66 = .ok (.getfield 21, 3) := by decide +kernel
theorem d_State_become_69 : decode M_State_become.2.1 69 = .ok (.aload_n 0, 1) := by decide +kernel
theorem d_State_become_70 : decode M_State_become.2.1 70 = .ok (.getfield 21, 3) := by decide +kernel
theorem d_State_become_73 : decode M_State_become.2.1 73 = .ok (.invokestatic 91, 3) := by decide +kernel
theorem d_State_become_76 : decode M_State_become.2.1 76 = .ok (.aload_n 1, 1) := by decide +kernel
theorem d_State_become_77 : decode M_State_become.2.1 77 = .ok (.getfield 24, 3) := by decide +kernel
theorem d_State_become_80 : decode M_State_become.2.1 80 = .ok (.aload_n 0, 1) := by decide +kernel
theorem d_State_become_81 : decode M_State_become.2.1 81 = .ok (.getfield 24, 3) := by decide +kernel
theorem d_State_become_84 : decode M_State_become.2.1 84 = .ok (.invokestatic 91, 3) := by decide +kernel
theorem d_State_become_87 : decode M_State_become.2.1 87 = .ok (.aload_n 1, 1) := by decide +kernel
theorem d_State_become_88 : decode M_State_become.2.1 88 = .ok (.getfield 27, 3) := by decide +kernel
theorem d_State_become_91 : decode M_State_become.2.1 91 = .ok (.aload_n 0, 1) := by decide +kernel
theorem d_State_become_92 : decode M_State_become.2.1 92 = .ok (.getfield 27, 3) := by decide +kernel
theorem d_State_become_95 : decode M_State_become.2.1 95 = .ok (.invokestatic 91, 3) := by decide +kernel
theorem d_State_become_98 : decode M_State_become.2.1 98 = .ok (.aload_n 1, 1) := by decide +kernel
theorem d_State_become_99 : decode M_State_become.2.1 99 = .ok (.getfield 30, 3) := by decide +kernel
theorem d_State_become_102 : decode M_State_become.2.1 102 = .ok (.aload_n 0, 1) := by decide +kernel
theorem d_State_become_103 : decode M_State_become.2.1 103 = .ok (.getfield 30, 3) := by decide +kernel
theorem d_State_become_106 : decode M_State_become.2.1 106 = .ok (.invokestatic 91, 3) := by decide +kernel
theorem d_State_become_109 : decode M_State_become.2.1 109 = .ok (.aload_n 1, 1) := by decide +kernel
theorem d_State_become_110 : decode M_State_become.2.1 110 = .ok (.getfield 33, 3) := by decide +kernel
theorem d_State_become_113 : decode M_State_become.2.1 113 = .ok (.aload_n 0, 1) := by decide +kernel
theorem d_State_become_114 : decode M_State_become.2.1 114 = .ok (.getfield 33, 3) := by decide +kernel
theorem d_State_become_117 : decode M_State_become.2.1 117 = .ok (.invokestatic 91, 3) := by decide +kernel
theorem d_State_become_120 : decode M_State_become.2.1 120 = .ok (.aload_n 1, 1) := by decide +kernel
theorem d_State_become_121 : decode M_State_become.2.1 121 = .ok (.getfield 36, 3) := by decide +kernel
theorem d_State_become_124 : decode M_State_become.2.1 124 = .ok (.aload_n 0, 1) := by decide +kernel
theorem d_State_become_125 : decode M_State_become.2.1 125 = .ok (.getfield 36, 3) := by decide +kernel
theorem d_State_become_128 : decode M_State_become.2.1 128 = .ok (.invokestatic 91, 3) := by decide +kernel
theorem d_State_become_131 : decode M_State_become.2.1 131 = .ok (.aload_n 1, 1) := by decide +kernel
theorem d_State_become_132 : decode M_State_become.2.1 132 = .ok (.getfield 39, 3) := by decide +kernel
theorem d_State_become_135 : decode M_State_become.2.1 135 = .ok (.aload_n 0, 1) := by decide +kernel
theorem d_State_become_136 : decode M_State_become.2.1 136 = .ok (.getfield 39, 3) := by decide +kernel
theorem d_State_become_139 : decode M_State_become.2.1 139 = .ok (.invokestatic 91, 3) := by decide +kernel
theorem d_State_become_142 : decode M_State_become.2.1 142 = .ok (.aload_n 1, 1) := by decide +kernel
theorem d_State_become_143 : decode M_State_become.2.1 143 = .ok (.getfield 42, 3) := by decide +kernel
theorem d_State_become_146 : decode M_State_become.2.1 146 = .ok (.aload_n 0, 1) := by decide +kernel
theorem d_State_become_147 : decode M_State_become.2.1 147 = .ok (.getfield 42, 3) := by decide +kernel
theorem d_State_become_150 : decode M_State_become.2.1 150 = .ok (.invokestatic 91, 3) := by decide +kernel
theorem d_State_become_153 : decode M_State_become.2.1 153 = .ok (.aload_n 1, 1) := by decide +kernel
theorem d_State_become_154 : decode M_State_become.2.1 154 = .ok (.getfield 45, 3) := by decide +kernel
theorem d_State_become_157 : decode M_State_become.2.1 157 = .ok (.aload_n 0, 1) := by decide +kernel
theorem d_State_become_158 : decode M_State_become.2.1 158 = .ok (.getfield 45, 3) := by decide +kernel
theorem d_State_become_161 : decode M_State_become.2.1 161 = .ok (.invokestatic 91, 3) := by decide +kernel
theorem d_State_become_164 : decode M_State_become.2.1 164 = .ok (.aload_n 1, 1) := by decide +kernel
theorem d_State_become_165 : decode M_State_become.2.1 165 = .ok (.getfield 48, 3) := by decide +kernel
theorem d_State_become_168 : decode M_State_become.2.1 168 = .ok (.aload_n 0, 1) := by decide +kernel
theorem d_State_become_169 : decode M_State_become.2.1 169 = .ok (.getfield 48, 3) := by decide +kernel
theorem d_State_become_172 : decode M_State_become.2.1 172 = .ok (.invokestatic 91, 3) := by decide +kernel
theorem d_State_become_175 : decode M_State_become.2.1 175 = .ok (.aload_n 1, 1) := by decide +kernel
theorem d_State_become_176 : decode M_State_become.2.1 176 = .ok (.getfield 51, 3) := by decide +kernel
theorem d_State_become_179 : decode M_State_become.2.1 179 = .ok (.aload_n 0, 1) := by decide +kernel
theorem d_State_become_180 : decode M_State_become.2.1 180 = .ok (.getfield 51, 3) := by decide +kernel
theorem d_State_become_183 : decode M_State_become.2.1 183 = .ok (.invokestatic 91, 3) := by decide +kernel
theorem d_State_become_186 : decode M_State_become.2.1 186 = .ok (.aload_n 1, 1) := by decide +kernel
theorem d_State_become_187 : decode M_State_become.2.1 187 = .ok (.getfield 54, 3) := by decide +kernel
theorem d_State_become_190 : decode M_State_become.2.1 190 = .ok (.aload_n 0, 1) := by decide +kernel
theorem d_State_become_191 : decode M_State_become.2.1 191 = .ok (.getfield 54, 3) := by decide +kernel
theorem d_State_become_194 : decode M_State_become.2.1 194 = .ok (.invokestatic 91, 3) := by decide +kernel
theorem d_State_become_197 : decode M_State_become.2.1 197 = .ok (.aload_n 1, 1) := by decide +kernel
theorem d_State_become_198 : decode M_State_become.2.1 198 = .ok (.getfield 57, 3) := by decide +kernel
theorem d_State_become_201 : decode M_State_become.2.1 201 = .ok (.aload_n 0, 1) := by decide +kernel
theorem d_State_become_202 : decode M_State_become.2.1 202 = .ok (.getfield 57, 3) := by decide +kernel
theorem d_State_become_205 : decode M_State_become.2.1 205 = .ok (.invokestatic 91, 3) := by decide +kernel
theorem d_State_become_208 : decode M_State_become.2.1 208 = .ok (.aload_n 1, 1) := by decide +kernel
theorem d_State_become_209 : decode M_State_become.2.1 209 = .ok (.getfield 60, 3) := by decide +kernel
theorem d_State_become_212 : decode M_State_become.2.1 212 = .ok (.aload_n 0, 1) := by decide +kernel
theorem d_State_become_213 : decode M_State_become.2.1 213 = .ok (.getfield 60, 3) := by decide +kernel
theorem d_State_become_216 : decode M_State_become.2.1 216 = .ok (.invokestatic 91, 3) := by decide +kernel
theorem d_State_become_219 : decode M_State_become.2.1 219 = .ok (.aload_n 1, 1) := by decide +kernel
theorem d_State_become_220 : decode M_State_become.2.1 220 = .ok (.getfield 63, 3) := by decide +kernel
theorem d_State_become_223 : decode M_State_become.2.1 223 = .ok (.aload_n 0, 1) := by decide +kernel
theorem d_State_become_224 : decode M_State_become.2.1 224 = .ok (.getfield 63, 3) := by decide +kernel
theorem d_State_become_227 : decode M_State_become.2.1 227 = .ok (.invokestatic 91, 3) := by decide +kernel
theorem d_State_become_230 : decode M_State_become.2.1 230 = .ok (.aload_n 1, 1) := by decide +kernel
theorem d_State_become_231 : decode M_State_become.2.1 231 = .ok (.getfield 66, 3) := by decide +kernel
theorem d_State_become_234 : decode M_State_become.2.1 234 = .ok (.aload_n 0, 1) := by decide +kernel
theorem d_State_become_235 : decode M_State_become.2.1 235 = .ok (.getfield 66, 3) := by decide +kernel
theorem d_State_become_238 : decode M_State_become.2.1 238 = .ok (.invokestatic 91, 3) := by decide +kernel
theorem d_State_become_241 : decode M_State_become.2.1 241 = .ok (.aload_n 1, 1) := by decide +kernel
theorem d_State_become_242 : decode M_State_become.2.1 242 = .ok (.getfield 69, 3) := by decide +kernel
theorem d_State_become_245 : decode M_State_become.2.1 245 = .ok (.aload_n 0, 1) := by decide +kernel
theorem d_State_become_246 : decode M_State_become.2.1 246 = .ok (.getfield 69, 3) := by decide +kernel
theorem d_State_become_249 : decode M_State_become.2.1 249 = .ok (.invokestatic 91, 3) := by decide +kernel
theorem d_State_become_252 : decode M_State_become.2.1 252 = .ok (.return_, 1) := by decide +kernel
set_option maxRecDepth 100000 in
set_option maxHeartbeats 4000000 in
theorem c_State_become {Γ : G9} {h : AH} {r r2 z : Nat} {Y A : SX} (geo : r + 21 ≤ r2 ∨ r2 + 21 ≤ r) : CallR Γ M_State_become 4 [.ref r2, .ref r] (sb_ Γ h r r2 Y A) z none (sb_ Γ h r r2 Y Y) := by
  refine Call.of_go (L := [some (.ref r2), some (.ref r)]) (by decide +kernel) rfl (by exact Nat.le_of_ble_eq_true rfl) ?_
  refine Go.aload_0 d_State_become_0 rfl ?_
  refine Go.aload_1 d_State_become_1 rfl ?_
  refine Go.getfield d_State_become_2 rfl f_State_78 (sb_at_r (by omega)) (by rfl) ?_
  refine Go.putfield d_State_become_5 rfl f_State_78_p (Or.inl (fun C T N h => by cases h; rfl)) (sb_at_r2 (by omega)) (by exact Nat.le_of_ble_eq_true rfl) rfl rfl ?_
  refine Go.heq (sb_put_r2_day (by omega)) ?_
  refine Go.aload_0 d_State_become_8 rfl ?_
  refine Go.aload_1 d_State_become_9 rfl ?_
  refine Go.getfield d_State_become_10 rfl f_State_82 (sb_at_r (by omega)) (by rfl) ?_
  refine Go.putfield d_State_become_13 rfl f_State_82_p (Or.inl (fun C T N h => by cases h; rfl)) (sb_at_r2 (by omega)) (by exact Nat.le_of_ble_eq_true rfl) rfl rfl ?_
  refine Go.heq (sb_put_r2_readings (by omega)) ?_
  refine Go.aload_0 d_State_become_16 rfl ?_
  refine Go.aload_1 d_State_become_17 rfl ?_
  refine Go.getfield d_State_become_18 rfl f_State_85 (sb_at_r (by omega)) (by rfl) ?_
  refine Go.putfield d_State_become_21 rfl f_State_85_p (Or.inl (fun C T N h => by cases h; rfl)) (sb_at_r2 (by omega)) (by exact Nat.le_of_ble_eq_true rfl) rfl rfl ?_
  refine Go.heq (sb_put_r2_falls (by omega)) ?_
  refine Go.aload_0 d_State_become_24 rfl ?_
  refine Go.aload_1 d_State_become_25 rfl ?_
  refine Go.getfield d_State_become_26 rfl f_State_88 (sb_at_r (by omega)) (by rfl) ?_
  refine Go.putfield d_State_become_29 rfl f_State_88_p (Or.inl (fun C T N h => by cases h; rfl)) (sb_at_r2 (by omega)) (by exact Nat.le_of_ble_eq_true rfl) rfl rfl ?_
  refine Go.heq (sb_put_r2_carried (by omega)) ?_
  refine Go.aload_1 d_State_become_32 rfl ?_
  refine Go.getfield d_State_become_33 rfl f_State_9 (sb_at_r (by omega)) (by rfl) ?_
  refine Go.aload_0 d_State_become_36 rfl ?_
  refine Go.getfield d_State_become_37 rfl f_State_9 (sb_at_r2 (by omega)) (by rfl) ?_
  refine Go.cs2v d_State_become_40 rfl l_State_91 k_State_copy_s rfl (c_State_copy (sb_at_r_1 (by omega)) (sb_at_r2_1 (by omega)) (by decide)) rfl rfl rfl ?_
  refine Go.heq (sb_arr_r2_1 (by omega)) ?_
  refine Go.aload_1 d_State_become_43 rfl ?_
  refine Go.getfield d_State_become_44 rfl f_State_15 (sb_at_r (by omega)) (by rfl) ?_
  refine Go.aload_0 d_State_become_47 rfl ?_
  refine Go.getfield d_State_become_48 rfl f_State_15 (sb_at_r2 (by omega)) (by rfl) ?_
  refine Go.cs2v d_State_become_51 rfl l_State_91 k_State_copy_s rfl (c_State_copy (sb_at_r_2 (by omega)) (sb_at_r2_2 (by omega)) (by decide)) rfl rfl rfl ?_
  refine Go.heq (sb_arr_r2_2 (by omega)) ?_
  refine Go.aload_1 d_State_become_54 rfl ?_
  refine Go.getfield d_State_become_55 rfl f_State_18 (sb_at_r (by omega)) (by rfl) ?_
  refine Go.aload_0 d_State_become_58 rfl ?_
  refine Go.getfield d_State_become_59 rfl f_State_18 (sb_at_r2 (by omega)) (by rfl) ?_
  refine Go.cs2v d_State_become_62 rfl l_State_91 k_State_copy_s rfl (c_State_copy (sb_at_r_3 (by omega)) (sb_at_r2_3 (by omega)) (by decide)) rfl rfl rfl ?_
  refine Go.heq (sb_arr_r2_3 (by omega)) ?_
  refine Go.aload_1 d_State_become_65 rfl ?_
  refine Go.getfield d_State_become_66 rfl f_State_21 (sb_at_r (by omega)) (by rfl) ?_
  refine Go.aload_0 d_State_become_69 rfl ?_
  refine Go.getfield d_State_become_70 rfl f_State_21 (sb_at_r2 (by omega)) (by rfl) ?_
  refine Go.cs2v d_State_become_73 rfl l_State_91 k_State_copy_s rfl (c_State_copy (sb_at_r_4 (by omega)) (sb_at_r2_4 (by omega)) (by decide)) rfl rfl rfl ?_
  refine Go.heq (sb_arr_r2_4 (by omega)) ?_
  refine Go.aload_1 d_State_become_76 rfl ?_
  refine Go.getfield d_State_become_77 rfl f_State_24 (sb_at_r (by omega)) (by rfl) ?_
  refine Go.aload_0 d_State_become_80 rfl ?_
  refine Go.getfield d_State_become_81 rfl f_State_24 (sb_at_r2 (by omega)) (by rfl) ?_
  refine Go.cs2v d_State_become_84 rfl l_State_91 k_State_copy_s rfl (c_State_copy (sb_at_r_5 (by omega)) (sb_at_r2_5 (by omega)) (by decide)) rfl rfl rfl ?_
  refine Go.heq (sb_arr_r2_5 (by omega)) ?_
  refine Go.aload_1 d_State_become_87 rfl ?_
  refine Go.getfield d_State_become_88 rfl f_State_27 (sb_at_r (by omega)) (by rfl) ?_
  refine Go.aload_0 d_State_become_91 rfl ?_
  refine Go.getfield d_State_become_92 rfl f_State_27 (sb_at_r2 (by omega)) (by rfl) ?_
  refine Go.cs2v d_State_become_95 rfl l_State_91 k_State_copy_s rfl (c_State_copy (sb_at_r_6 (by omega)) (sb_at_r2_6 (by omega)) (by decide)) rfl rfl rfl ?_
  refine Go.heq (sb_arr_r2_6 (by omega)) ?_
  refine Go.aload_1 d_State_become_98 rfl ?_
  refine Go.getfield d_State_become_99 rfl f_State_30 (sb_at_r (by omega)) (by rfl) ?_
  refine Go.aload_0 d_State_become_102 rfl ?_
  refine Go.getfield d_State_become_103 rfl f_State_30 (sb_at_r2 (by omega)) (by rfl) ?_
  refine Go.cs2v d_State_become_106 rfl l_State_91 k_State_copy_s rfl (c_State_copy (sb_at_r_7 (by omega)) (sb_at_r2_7 (by omega)) (by decide)) rfl rfl rfl ?_
  refine Go.heq (sb_arr_r2_7 (by omega)) ?_
  refine Go.aload_1 d_State_become_109 rfl ?_
  refine Go.getfield d_State_become_110 rfl f_State_33 (sb_at_r (by omega)) (by rfl) ?_
  refine Go.aload_0 d_State_become_113 rfl ?_
  refine Go.getfield d_State_become_114 rfl f_State_33 (sb_at_r2 (by omega)) (by rfl) ?_
  refine Go.cs2v d_State_become_117 rfl l_State_91 k_State_copy_s rfl (c_State_copy (sb_at_r_8 (by omega)) (sb_at_r2_8 (by omega)) (by decide)) rfl rfl rfl ?_
  refine Go.heq (sb_arr_r2_8 (by omega)) ?_
  refine Go.aload_1 d_State_become_120 rfl ?_
  refine Go.getfield d_State_become_121 rfl f_State_36 (sb_at_r (by omega)) (by rfl) ?_
  refine Go.aload_0 d_State_become_124 rfl ?_
  refine Go.getfield d_State_become_125 rfl f_State_36 (sb_at_r2 (by omega)) (by rfl) ?_
  refine Go.cs2v d_State_become_128 rfl l_State_91 k_State_copy_s rfl (c_State_copy (sb_at_r_9 (by omega)) (sb_at_r2_9 (by omega)) (by decide)) rfl rfl rfl ?_
  refine Go.heq (sb_arr_r2_9 (by omega)) ?_
  refine Go.aload_1 d_State_become_131 rfl ?_
  refine Go.getfield d_State_become_132 rfl f_State_39 (sb_at_r (by omega)) (by rfl) ?_
  refine Go.aload_0 d_State_become_135 rfl ?_
  refine Go.getfield d_State_become_136 rfl f_State_39 (sb_at_r2 (by omega)) (by rfl) ?_
  refine Go.cs2v d_State_become_139 rfl l_State_91 k_State_copy_s rfl (c_State_copy (sb_at_r_10 (by omega)) (sb_at_r2_10 (by omega)) (by decide)) rfl rfl rfl ?_
  refine Go.heq (sb_arr_r2_10 (by omega)) ?_
  refine Go.aload_1 d_State_become_142 rfl ?_
  refine Go.getfield d_State_become_143 rfl f_State_42 (sb_at_r (by omega)) (by rfl) ?_
  refine Go.aload_0 d_State_become_146 rfl ?_
  refine Go.getfield d_State_become_147 rfl f_State_42 (sb_at_r2 (by omega)) (by rfl) ?_
  refine Go.cs2v d_State_become_150 rfl l_State_91 k_State_copy_s rfl (c_State_copy (sb_at_r_11 (by omega)) (sb_at_r2_11 (by omega)) (by decide)) rfl rfl rfl ?_
  refine Go.heq (sb_arr_r2_11 (by omega)) ?_
  refine Go.aload_1 d_State_become_153 rfl ?_
  refine Go.getfield d_State_become_154 rfl f_State_45 (sb_at_r (by omega)) (by rfl) ?_
  refine Go.aload_0 d_State_become_157 rfl ?_
  refine Go.getfield d_State_become_158 rfl f_State_45 (sb_at_r2 (by omega)) (by rfl) ?_
  refine Go.cs2v d_State_become_161 rfl l_State_91 k_State_copy_s rfl (c_State_copy (sb_at_r_12 (by omega)) (sb_at_r2_12 (by omega)) (by decide)) rfl rfl rfl ?_
  refine Go.heq (sb_arr_r2_12 (by omega)) ?_
  refine Go.aload_1 d_State_become_164 rfl ?_
  refine Go.getfield d_State_become_165 rfl f_State_48 (sb_at_r (by omega)) (by rfl) ?_
  refine Go.aload_0 d_State_become_168 rfl ?_
  refine Go.getfield d_State_become_169 rfl f_State_48 (sb_at_r2 (by omega)) (by rfl) ?_
  refine Go.cs2v d_State_become_172 rfl l_State_91 k_State_copy_s rfl (c_State_copy (sb_at_r_13 (by omega)) (sb_at_r2_13 (by omega)) (by decide)) rfl rfl rfl ?_
  refine Go.heq (sb_arr_r2_13 (by omega)) ?_
  refine Go.aload_1 d_State_become_175 rfl ?_
  refine Go.getfield d_State_become_176 rfl f_State_51 (sb_at_r (by omega)) (by rfl) ?_
  refine Go.aload_0 d_State_become_179 rfl ?_
  refine Go.getfield d_State_become_180 rfl f_State_51 (sb_at_r2 (by omega)) (by rfl) ?_
  refine Go.cs2v d_State_become_183 rfl l_State_91 k_State_copy_s rfl (c_State_copy (sb_at_r_14 (by omega)) (sb_at_r2_14 (by omega)) (by decide)) rfl rfl rfl ?_
  refine Go.heq (sb_arr_r2_14 (by omega)) ?_
  refine Go.aload_1 d_State_become_186 rfl ?_
  refine Go.getfield d_State_become_187 rfl f_State_54 (sb_at_r (by omega)) (by rfl) ?_
  refine Go.aload_0 d_State_become_190 rfl ?_
  refine Go.getfield d_State_become_191 rfl f_State_54 (sb_at_r2 (by omega)) (by rfl) ?_
  refine Go.cs2v d_State_become_194 rfl l_State_91 k_State_copy_s rfl (c_State_copy (sb_at_r_15 (by omega)) (sb_at_r2_15 (by omega)) (by decide)) rfl rfl rfl ?_
  refine Go.heq (sb_arr_r2_15 (by omega)) ?_
  refine Go.aload_1 d_State_become_197 rfl ?_
  refine Go.getfield d_State_become_198 rfl f_State_57 (sb_at_r (by omega)) (by rfl) ?_
  refine Go.aload_0 d_State_become_201 rfl ?_
  refine Go.getfield d_State_become_202 rfl f_State_57 (sb_at_r2 (by omega)) (by rfl) ?_
  refine Go.cs2v d_State_become_205 rfl l_State_91 k_State_copy_s rfl (c_State_copy (sb_at_r_16 (by omega)) (sb_at_r2_16 (by omega)) (by decide)) rfl rfl rfl ?_
  refine Go.heq (sb_arr_r2_16 (by omega)) ?_
  refine Go.aload_1 d_State_become_208 rfl ?_
  refine Go.getfield d_State_become_209 rfl f_State_60 (sb_at_r (by omega)) (by rfl) ?_
  refine Go.aload_0 d_State_become_212 rfl ?_
  refine Go.getfield d_State_become_213 rfl f_State_60 (sb_at_r2 (by omega)) (by rfl) ?_
  refine Go.cs2v d_State_become_216 rfl l_State_91 k_State_copy_s rfl (c_State_copy (sb_at_r_17 (by omega)) (sb_at_r2_17 (by omega)) (by decide)) rfl rfl rfl ?_
  refine Go.heq (sb_arr_r2_17 (by omega)) ?_
  refine Go.aload_1 d_State_become_219 rfl ?_
  refine Go.getfield d_State_become_220 rfl f_State_63 (sb_at_r (by omega)) (by rfl) ?_
  refine Go.aload_0 d_State_become_223 rfl ?_
  refine Go.getfield d_State_become_224 rfl f_State_63 (sb_at_r2 (by omega)) (by rfl) ?_
  refine Go.cs2v d_State_become_227 rfl l_State_91 k_State_copy_s rfl (c_State_copy (sb_at_r_18 (by omega)) (sb_at_r2_18 (by omega)) (by decide)) rfl rfl rfl ?_
  refine Go.heq (sb_arr_r2_18 (by omega)) ?_
  refine Go.aload_1 d_State_become_230 rfl ?_
  refine Go.getfield d_State_become_231 rfl f_State_66 (sb_at_r (by omega)) (by rfl) ?_
  refine Go.aload_0 d_State_become_234 rfl ?_
  refine Go.getfield d_State_become_235 rfl f_State_66 (sb_at_r2 (by omega)) (by rfl) ?_
  refine Go.cs2v d_State_become_238 rfl l_State_91 k_State_copy_s rfl (c_State_copy (sb_at_r_19 (by omega)) (sb_at_r2_19 (by omega)) (by decide)) rfl rfl rfl ?_
  refine Go.heq (sb_arr_r2_19 (by omega)) ?_
  refine Go.aload_1 d_State_become_241 rfl ?_
  refine Go.getfield d_State_become_242 rfl f_State_69 (sb_at_r (by omega)) (by rfl) ?_
  refine Go.aload_0 d_State_become_245 rfl ?_
  refine Go.getfield d_State_become_246 rfl f_State_69 (sb_at_r2 (by omega)) (by rfl) ?_
  refine Go.cs2v d_State_become_249 rfl l_State_91 k_State_copy_s rfl (c_State_copy (sb_at_r_20 (by omega)) (sb_at_r2_20 (by omega)) (by decide)) rfl rfl rfl ?_
  refine Go.heq (sb_arr_r2_20 (by omega)) ?_
  exact Go.vret d_State_become_252 rfl ⟨rfl, rfl, rfl⟩
