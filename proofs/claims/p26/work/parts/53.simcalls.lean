/-! the law's own glacier: methods that make nothing -/
theorem tnc0 {x : Int32} (h : x.toNatClampNeg ≤ 0) : x ≤ 0 := by
  have h1 : x.toInt.toNat ≤ 0 := h
  rw [Int32.le_iff_toInt_le, Int32.toInt_zero]
  omega
theorem tnc_pred {x : Int32} {k : Nat} (h : x.toNatClampNeg ≤ k + 1) (hp : ¬ x ≤ 0) : (x + (-1)).toNatClampNeg ≤ k := by
  have hx : ¬ x < 0 := fun w => hp (Int32.le_of_lt w)
  obtain ⟨j, hj, rfl⟩ := nI_of hx
  rw [nI_clamp hj] at h
  cases j with
  | zero => exact absurd (by decide) hp
  | succ j =>
    rw [show nI (j + 1) + (-1) = nI (j + 1) - 1 from (Int32.sub_eq_add_neg _ _).symm, nI_pred, nI_clamp (by omega)]
    omega
theorem ite01 {c : Prop} [Decidable c] {a b : Int32} (ha : a = 0 ∨ a = 1) (hb : b = 0 ∨ b = 1) : (if c then a else b) = 0 ∨ (if c then a else b) = 1 := by
  by_cases h : c
  · rw [if_pos h]
    exact ha
  · rw [if_neg h]
    exact hb
theorem d_Sim_isKnown_0 : decode M_Sim_isKnown.2.1 0 = .ok (.aload_n 0, 1) := by decide +kernel
theorem d_Sim_isKnown_1 : decode M_Sim_isKnown.2.1 1 = .ok (.getfield 34, 3) := by decide +kernel
theorem d_Sim_isKnown_4 : decode M_Sim_isKnown.2.1 4 = .ok (.aload_n 0, 1) := by decide +kernel
theorem d_Sim_isKnown_5 : decode M_Sim_isKnown.2.1 5 = .ok (.getfield 21, 3) := by decide +kernel
theorem d_Sim_isKnown_8 : decode M_Sim_isKnown.2.1 8 = .ok (.iload_n 1, 1) := by decide +kernel
theorem d_Sim_isKnown_9 : decode M_Sim_isKnown.2.1 9 = .ok (.aaload, 1) := by decide +kernel
theorem d_Sim_isKnown_10 : decode M_Sim_isKnown.2.1 10 = .ok (.iconst 2, 1) := by decide +kernel
theorem d_Sim_isKnown_11 : decode M_Sim_isKnown.2.1 11 = .ok (.iaload, 1) := by decide +kernel
theorem d_Sim_isKnown_12 : decode M_Sim_isKnown.2.1 12 = .ok (.if_icmp .ge 7, 3) := by decide +kernel
theorem d_Sim_isKnown_15 : decode M_Sim_isKnown.2.1 15 = .ok (.iconst 1, 1) := by decide +kernel
theorem d_Sim_isKnown_16 : decode M_Sim_isKnown.2.1 16 = .ok (.goto 4, 3) := by decide +kernel
theorem d_Sim_isKnown_19 : decode M_Sim_isKnown.2.1 19 = .ok (.iconst 0, 1) := by decide +kernel
theorem d_Sim_isKnown_20 : decode M_Sim_isKnown.2.1 20 = .ok (.ireturn, 1) := by decide +kernel
def s_Sim_isKnown (Y : SM) (c : Nat) : Int32 := (if ((sm_v Y 2 c) 2) ≤ (nI (sm_dy Y)) then 0 else 1)
set_option maxRecDepth 100000 in
set_option maxHeartbeats 4000000 in
theorem c_Sim_isKnown {Γ : G9} {A : AD} {h : AH} {z : Nat} {Y : SM} {c : Nat} {vc : Int32} (ec : vc = nI c) (bc : c < cn A 2) (hA : AOk A) : CallR Γ M_Sim_isKnown 0 [.ref (ad A 6 0), .int vc] (smC Γ A h Y) z (some (.int (s_Sim_isKnown Y c))) (smC Γ A h Y) := by
  subst ec
  refine Call.of_go (L := [some (.ref (ad A 6 0)), some (.int (nI c))]) (by decide +kernel) rfl (by exact Nat.le_of_ble_eq_true rfl) ?_
  unfold s_Sim_isKnown
  refine Go.aload_0 d_Sim_isKnown_0 rfl ?_
  refine Go.getfield d_Sim_isKnown_1 rfl f_Sim_34 (sm_obj hA) (by rfl) ?_
  refine Go.aload_0 d_Sim_isKnown_4 rfl ?_
  refine Go.getfield d_Sim_isKnown_5 rfl f_Sim_21 (sm_obj hA) (by rfl) ?_
  refine Go.iload_1 d_Sim_isKnown_8 rfl ?_
  refine Go.aaldA d_Sim_isKnown_9 rfl (sm_out hA (by decide)) (vp_in_nI bc (Nat.lt_of_le_of_lt (hA.2.2 2 (by decide)) (by decide))) ?_
  rw [nI_clamp (show c < 2 ^ 31 from Nat.lt_trans (Nat.lt_of_lt_of_le (show c < cn A 2 by first | assumption | omega) (hA.2.2 2 (by decide))) (by decide))]
  refine Go.iconst (v := 2) d_Sim_isKnown_10 rfl (by decide) ?_
  refine Go.iaload d_Sim_isKnown_11 rfl (sm_row hA (by decide) bc) (okI_in (by decide)) ?_
  rw [show (2 : Int32).toNatClampNeg = 2 from by decide]
  refine Go.icmp_ge (t := 19) d_Sim_isKnown_12 (by decide) rfl (fun c12_1 => ?_) (fun c12_1 => ?_)
  · refine Go.iconst (v := 0) d_Sim_isKnown_19 rfl (by decide) ?_
    rw [if_pos c12_1]
    exact Go.iret d_Sim_isKnown_20 rfl rfl ⟨rfl, rfl, rfl⟩
  · refine Go.iconst (v := 1) d_Sim_isKnown_15 rfl (by decide) ?_
    refine Go.goto (t := 20) d_Sim_isKnown_16 (by decide) ?_
    rw [if_neg c12_1]
    exact Go.iret d_Sim_isKnown_20 rfl rfl ⟨rfl, rfl, rfl⟩
set_option maxRecDepth 100000 in
set_option maxHeartbeats 4000000 in
theorem s_Sim_isKnown_01 (Y : SM) (c : Nat) : (s_Sim_isKnown Y c) = 0 ∨ (s_Sim_isKnown Y c) = 1 := by
  unfold s_Sim_isKnown
  (repeat' split) <;> first | exact Or.inl rfl | exact Or.inr rfl
/-- the orders' rows -/
abbrev v5 (Y : SM) : Nat → Nat → Int32 := sm_v Y 5
theorem sm_dy_set {Y : SM} {k r j : Nat} {x : Int32} : sm_dy (sm_set Y k r j x) = sm_dy Y := rfl
theorem sm_dy_fl {Y : SM} {x : Int32} : sm_dy (sm_fl' Y x) = sm_dy Y := rfl
theorem sm_dy_ca {Y : SM} {x : Int32} : sm_dy (sm_ca' Y x) = sm_dy Y := rfl
theorem sm_dy_rd {Y : SM} {x : Int32} : sm_dy (sm_rd' Y x) = sm_dy Y := rfl
theorem v5_set {Y : SM} {k r j : Nat} {x : Int32} (hk : k ≠ 5) : v5 (sm_set Y k r j x) = v5 Y := by
  funext r'
  show updR (sm_v Y) k r _ 5 r' = _
  unfold updR
  rw [if_neg (fun w => hk w.1.symm)]
theorem v5_set0 {Y : SM} {r j : Nat} {x : Int32} : v5 (sm_set Y 0 r j x) = v5 Y := v5_set (by decide)
theorem v5_set1 {Y : SM} {r j : Nat} {x : Int32} : v5 (sm_set Y 1 r j x) = v5 Y := v5_set (by decide)
theorem v5_set2 {Y : SM} {r j : Nat} {x : Int32} : v5 (sm_set Y 2 r j x) = v5 Y := v5_set (by decide)
theorem v5_set3 {Y : SM} {r j : Nat} {x : Int32} : v5 (sm_set Y 3 r j x) = v5 Y := v5_set (by decide)
theorem v5_set4 {Y : SM} {r j : Nat} {x : Int32} : v5 (sm_set Y 4 r j x) = v5 Y := v5_set (by decide)
theorem v5_fl {Y : SM} {x : Int32} : v5 (sm_fl' Y x) = v5 Y := rfl
theorem v5_ca {Y : SM} {x : Int32} : v5 (sm_ca' Y x) = v5 Y := rfl
theorem v5_rd {Y : SM} {x : Int32} : v5 (sm_rd' Y x) = v5 Y := rfl
theorem v5_dy {Y : SM} {x : Nat} : v5 (sm_dy' Y x) = v5 Y := rfl
theorem d_Sim_probes_0 : decode M_Sim_probes.2.1 0 = .ok (.aload_n 0, 1) := by decide +kernel
theorem d_Sim_probes_1 : decode M_Sim_probes.2.1 1 = .ok (.getfield 27, 3) := by decide +kernel
theorem d_Sim_probes_4 : decode M_Sim_probes.2.1 4 = .ok (.iload_n 1, 1) := by decide +kernel
theorem d_Sim_probes_5 : decode M_Sim_probes.2.1 5 = .ok (.aaload, 1) := by decide +kernel
theorem d_Sim_probes_6 : decode M_Sim_probes.2.1 6 = .ok (.astore_n 3, 1) := by decide +kernel
theorem d_Sim_probes_7 : decode M_Sim_probes.2.1 7 = .ok (.aload_n 3, 1) := by decide +kernel
theorem d_Sim_probes_8 : decode M_Sim_probes.2.1 8 = .ok (.iconst 4, 1) := by decide +kernel
theorem d_Sim_probes_9 : decode M_Sim_probes.2.1 9 = .ok (.iaload, 1) := by decide +kernel
theorem d_Sim_probes_10 : decode M_Sim_probes.2.1 10 = .ok (.ifCond .eq 41, 3) := by decide +kernel
theorem d_Sim_probes_13 : decode M_Sim_probes.2.1 13 = .ok (.aload_n 3, 1) := by decide +kernel
theorem d_Sim_probes_14 : decode M_Sim_probes.2.1 14 = .ok (.bipush 7, 2) := by decide +kernel
theorem d_Sim_probes_16 : decode M_Sim_probes.2.1 16 = .ok (.iaload, 1) := by decide +kernel
theorem d_Sim_probes_17 : decode M_Sim_probes.2.1 17 = .ok (.iconst 1, 1) := by decide +kernel
theorem d_Sim_probes_18 : decode M_Sim_probes.2.1 18 = .ok (.if_icmp .eq 33, 3) := by decide +kernel
theorem d_Sim_probes_21 : decode M_Sim_probes.2.1 21 = .ok (.aload_n 3, 1) := by decide +kernel
theorem d_Sim_probes_22 : decode M_Sim_probes.2.1 22 = .ok (.iconst 2, 1) := by decide +kernel
theorem d_Sim_probes_23 : decode M_Sim_probes.2.1 23 = .ok (.iaload, 1) := by decide +kernel
theorem d_Sim_probes_24 : decode M_Sim_probes.2.1 24 = .ok (.aload_n 0, 1) := by decide +kernel
theorem d_Sim_probes_25 : decode M_Sim_probes.2.1 25 = .ok (.getfield 21, 3) := by decide +kernel
theorem d_Sim_probes_28 : decode M_Sim_probes.2.1 28 = .ok (.iload_n 2, 1) := by decide +kernel
theorem d_Sim_probes_29 : decode M_Sim_probes.2.1 29 = .ok (.aaload, 1) := by decide +kernel
theorem d_Sim_probes_30 : decode M_Sim_probes.2.1 30 = .ok (.iconst 0, 1) := by decide +kernel
theorem d_Sim_probes_31 : decode M_Sim_probes.2.1 31 = .ok (.iaload, 1) := by decide +kernel
theorem d_Sim_probes_32 : decode M_Sim_probes.2.1 32 = .ok (.if_icmp .eq 21, 3) := by decide +kernel
theorem d_Sim_probes_35 : decode M_Sim_probes.2.1 35 = .ok (.aload_n 3, 1) := by decide +kernel
theorem d_Sim_probes_36 : decode M_Sim_probes.2.1 36 = .ok (.iconst 2, 1) := by decide +kernel
theorem d_Sim_probes_37 : decode M_Sim_probes.2.1 37 = .ok (.iaload, 1) := by decide +kernel
theorem d_Sim_probes_38 : decode M_Sim_probes.2.1 38 = .ok (.aload_n 0, 1) := by decide +kernel
theorem d_Sim_probes_39 : decode M_Sim_probes.2.1 39 = .ok (.getfield 21, 3) := by decide +kernel
theorem d_Sim_probes_42 : decode M_Sim_probes.2.1 42 = .ok (.iload_n 2, 1) := by decide +kernel
theorem d_Sim_probes_43 : decode M_Sim_probes.2.1 43 = .ok (.aaload, 1) := by decide +kernel
theorem d_Sim_probes_44 : decode M_Sim_probes.2.1 44 = .ok (.iconst 0, 1) := by decide +kernel
theorem d_Sim_probes_45 : decode M_Sim_probes.2.1 45 = .ok (.iaload, 1) := by decide +kernel
theorem d_Sim_probes_46 : decode M_Sim_probes.2.1 46 = .ok (.iconst 1, 1) := by decide +kernel
theorem d_Sim_probes_47 : decode M_Sim_probes.2.1 47 = .ok (.iadd, 1) := by decide +kernel
theorem d_Sim_probes_48 : decode M_Sim_probes.2.1 48 = .ok (.if_icmp .eq 5, 3) := by decide +kernel
theorem d_Sim_probes_51 : decode M_Sim_probes.2.1 51 = .ok (.iconst 0, 1) := by decide +kernel
theorem d_Sim_probes_52 : decode M_Sim_probes.2.1 52 = .ok (.ireturn, 1) := by decide +kernel
theorem d_Sim_probes_53 : decode M_Sim_probes.2.1 53 = .ok (.aload_n 3, 1) := by decide +kernel
theorem d_Sim_probes_54 : decode M_Sim_probes.2.1 54 = .ok (.bipush 7, 2) := by decide +kernel
theorem d_Sim_probes_56 : decode M_Sim_probes.2.1 56 = .ok (.iconst 1, 1) := by decide +kernel
theorem d_Sim_probes_57 : decode M_Sim_probes.2.1 57 = .ok (.iastore, 1) := by decide +kernel
theorem d_Sim_probes_58 : decode M_Sim_probes.2.1 58 = .ok (.aload_n 0, 1) := by decide +kernel
theorem d_Sim_probes_59 : decode M_Sim_probes.2.1 59 = .ok (.getfield 21, 3) := by decide +kernel
theorem d_Sim_probes_62 : decode M_Sim_probes.2.1 62 = .ok (.iload_n 2, 1) := by decide +kernel
theorem d_Sim_probes_63 : decode M_Sim_probes.2.1 63 = .ok (.aaload, 1) := by decide +kernel
theorem d_Sim_probes_64 : decode M_Sim_probes.2.1 64 = .ok (.iconst 2, 1) := by decide +kernel
theorem d_Sim_probes_65 : decode M_Sim_probes.2.1 65 = .ok (.aload_n 0, 1) := by decide +kernel
theorem d_Sim_probes_66 : decode M_Sim_probes.2.1 66 = .ok (.getfield 34, 3) := by decide +kernel
theorem d_Sim_probes_69 : decode M_Sim_probes.2.1 69 = .ok (.iconst 3, 1) := by decide +kernel
theorem d_Sim_probes_70 : decode M_Sim_probes.2.1 70 = .ok (.iadd, 1) := by decide +kernel
theorem d_Sim_probes_71 : decode M_Sim_probes.2.1 71 = .ok (.iastore, 1) := by decide +kernel
theorem d_Sim_probes_72 : decode M_Sim_probes.2.1 72 = .ok (.aload_n 0, 1) := by decide +kernel
theorem d_Sim_probes_73 : decode M_Sim_probes.2.1 73 = .ok (.getfield 21, 3) := by decide +kernel
theorem d_Sim_probes_76 : decode M_Sim_probes.2.1 76 = .ok (.iload_n 2, 1) := by decide +kernel
theorem d_Sim_probes_77 : decode M_Sim_probes.2.1 77 = .ok (.aaload, 1) := by decide +kernel
theorem d_Sim_probes_78 : decode M_Sim_probes.2.1 78 = .ok (.iconst 3, 1) := by decide +kernel
theorem d_Sim_probes_79 : decode M_Sim_probes.2.1 79 = .ok (.aload_n 0, 1) := by decide +kernel
theorem d_Sim_probes_80 : decode M_Sim_probes.2.1 80 = .ok (.getfield 21, 3) := by decide +kernel
theorem d_Sim_probes_83 : decode M_Sim_probes.2.1 83 = .ok (.iload_n 2, 1) := by decide +kernel
theorem d_Sim_probes_84 : decode M_Sim_probes.2.1 84 = .ok (.aaload, 1) := by decide +kernel
theorem d_Sim_probes_85 : decode M_Sim_probes.2.1 85 = .ok (.iconst 1, 1) := by decide +kernel
theorem d_Sim_probes_86 : decode M_Sim_probes.2.1 86 = .ok (.iaload, 1) := by decide +kernel
theorem d_Sim_probes_87 : decode M_Sim_probes.2.1 87 = .ok (.iastore, 1) := by decide +kernel
theorem d_Sim_probes_88 : decode M_Sim_probes.2.1 88 = .ok (.iconst 1, 1) := by decide +kernel
theorem d_Sim_probes_89 : decode M_Sim_probes.2.1 89 = .ok (.ireturn, 1) := by decide +kernel
def s_Sim_probes (Y : SM) (t : Nat) (c : Nat) : Int32 × SM := (if ((sm_v Y 4 t) 4) = 0 then (0, Y) else (if ((sm_v Y 4 t) 7) = 1 then (0, Y) else (if ((sm_v Y 4 t) 2) = ((sm_v Y 2 c) 0) then (1, (sm_set (sm_set (sm_set Y 4 t 7 1) 2 c 2 (nI ((sm_dy (sm_set Y 4 t 7 1)) + 3))) 2 c 3 ((sm_v (sm_set (sm_set Y 4 t 7 1) 2 c 2 (nI ((sm_dy (sm_set Y 4 t 7 1)) + 3))) 2 c) 1))) else (if ((sm_v Y 4 t) 2) = (((sm_v Y 2 c) 0) + 1) then (1, (sm_set (sm_set (sm_set Y 4 t 7 1) 2 c 2 (nI ((sm_dy (sm_set Y 4 t 7 1)) + 3))) 2 c 3 ((sm_v (sm_set (sm_set Y 4 t 7 1) 2 c 2 (nI ((sm_dy (sm_set Y 4 t 7 1)) + 3))) 2 c) 1))) else (0, Y)))))
set_option maxRecDepth 100000 in
set_option maxHeartbeats 4000000 in
theorem c_Sim_probes {Γ : G9} {A : AD} {h : AH} {z : Nat} {Y : SM} {t : Nat} {vt : Int32} {c : Nat} {vc : Int32} (et : vt = nI t) (bt : t < cn A 4) (ec : vc = nI c) (bc : c < cn A 2) (hA : AOk A) : CallR Γ M_Sim_probes 0 [.ref (ad A 6 0), .int vt, .int vc] (smC Γ A h Y) z (some (.int (s_Sim_probes Y t c).1)) (smC Γ A h (s_Sim_probes Y t c).2) := by
  subst et
  subst ec
  refine Call.of_go (L := [some (.ref (ad A 6 0)), some (.int (nI t)), some (.int (nI c)), none]) (by decide +kernel) rfl (by exact Nat.le_of_ble_eq_true rfl) ?_
  unfold s_Sim_probes
  refine Go.aload_0 d_Sim_probes_0 rfl ?_
  refine Go.getfield d_Sim_probes_1 rfl f_Sim_27 (sm_obj hA) (by rfl) ?_
  refine Go.iload_1 d_Sim_probes_4 rfl ?_
  refine Go.aaldA d_Sim_probes_5 rfl (sm_out hA (by decide)) (vp_in_nI bt (Nat.lt_of_le_of_lt (hA.2.2 4 (by decide)) (by decide))) ?_
  rw [nI_clamp (show t < 2 ^ 31 from Nat.lt_trans (Nat.lt_of_lt_of_le (show t < cn A 4 by first | assumption | omega) (hA.2.2 4 (by decide))) (by decide))]
  refine Go.astore_3 d_Sim_probes_6 rfl (by rfl) ?_
  refine Go.aload_3 d_Sim_probes_7 rfl ?_
  refine Go.iconst (v := 4) d_Sim_probes_8 rfl (by decide) ?_
  refine Go.iaload d_Sim_probes_9 rfl (sm_row hA (by decide) bt) (okI_in (by decide)) ?_
  rw [show (4 : Int32).toNatClampNeg = 4 from by decide]
  refine Go.if_eq (t := 51) d_Sim_probes_10 (by decide) rfl (fun c10_1 => ?_) (fun c10_1 => ?_)
  · refine Go.iconst (v := 0) d_Sim_probes_51 rfl (by decide) ?_
    rw [if_pos c10_1]
    exact Go.iret d_Sim_probes_52 rfl rfl ⟨rfl, by dsimp only, rfl⟩
  · refine Go.aload_3 d_Sim_probes_13 rfl ?_
    refine Go.bipush (v := 7) d_Sim_probes_14 rfl (by decide) ?_
    refine Go.iaload d_Sim_probes_16 rfl (sm_row hA (by decide) bt) (okI_in (by decide)) ?_
    rw [show (7 : Int32).toNatClampNeg = 7 from by decide]
    refine Go.iconst (v := 1) d_Sim_probes_17 rfl (by decide) ?_
    refine Go.icmp_eq (t := 51) d_Sim_probes_18 (by decide) rfl (fun c18_2 => ?_) (fun c18_2 => ?_)
    · refine Go.iconst (v := 0) d_Sim_probes_51 rfl (by decide) ?_
      rw [if_neg c10_1, if_pos c18_2]
      exact Go.iret d_Sim_probes_52 rfl rfl ⟨rfl, by dsimp only, rfl⟩
    · refine Go.aload_3 d_Sim_probes_21 rfl ?_
      refine Go.iconst (v := 2) d_Sim_probes_22 rfl (by decide) ?_
      refine Go.iaload d_Sim_probes_23 rfl (sm_row hA (by decide) bt) (okI_in (by decide)) ?_
      rw [show (2 : Int32).toNatClampNeg = 2 from by decide]
      refine Go.aload_0 d_Sim_probes_24 rfl ?_
      refine Go.getfield d_Sim_probes_25 rfl f_Sim_21 (sm_obj hA) (by rfl) ?_
      refine Go.iload_2 d_Sim_probes_28 rfl ?_
      refine Go.aaldA d_Sim_probes_29 rfl (sm_out hA (by decide)) (vp_in_nI bc (Nat.lt_of_le_of_lt (hA.2.2 2 (by decide)) (by decide))) ?_
      rw [nI_clamp (show c < 2 ^ 31 from Nat.lt_trans (Nat.lt_of_lt_of_le (show c < cn A 2 by first | assumption | omega) (hA.2.2 2 (by decide))) (by decide))]
      refine Go.iconst (v := 0) d_Sim_probes_30 rfl (by decide) ?_
      refine Go.iaload d_Sim_probes_31 rfl (sm_row hA (by decide) bc) (okI_in (by decide)) ?_
      rw [show (0 : Int32).toNatClampNeg = 0 from by decide]
      refine Go.icmp_eq (t := 53) d_Sim_probes_32 (by decide) rfl (fun c32_3 => ?_) (fun c32_3 => ?_)
      · refine Go.aload_3 d_Sim_probes_53 rfl ?_
        refine Go.bipush (v := 7) d_Sim_probes_54 rfl (by decide) ?_
        refine Go.iconst (v := 1) d_Sim_probes_56 rfl (by decide) ?_
        refine Go.iastore d_Sim_probes_57 rfl (sm_row hA (by decide) bt) (okI_in (by decide)) ?_
        rw [show (7 : Int32).toNatClampNeg = 7 from by decide]
        refine Go.heq (sm_setup hA (by decide) bt) ?_
        refine Go.aload_0 d_Sim_probes_58 rfl ?_
        refine Go.getfield d_Sim_probes_59 rfl f_Sim_21 (sm_obj hA) (by rfl) ?_
        refine Go.iload_2 d_Sim_probes_62 rfl ?_
        refine Go.aaldA d_Sim_probes_63 rfl (sm_out hA (by decide)) (vp_in_nI bc (Nat.lt_of_le_of_lt (hA.2.2 2 (by decide)) (by decide))) ?_
        rw [nI_clamp (show c < 2 ^ 31 from Nat.lt_trans (Nat.lt_of_lt_of_le (show c < cn A 2 by first | assumption | omega) (hA.2.2 2 (by decide))) (by decide))]
        refine Go.iconst (v := 2) d_Sim_probes_64 rfl (by decide) ?_
        refine Go.aload_0 d_Sim_probes_65 rfl ?_
        refine Go.getfield d_Sim_probes_66 rfl f_Sim_34 (sm_obj hA) (by rfl) ?_
        refine Go.iconst (v := 3) d_Sim_probes_69 rfl (by decide) ?_
        refine Go.iadd d_Sim_probes_70 rfl ?_
        rw [show (nI (sm_dy (sm_set Y 4 t 7 1))) + 3 = nI ((sm_dy (sm_set Y 4 t 7 1)) + 3) from nI_add _ _]
        refine Go.iastore d_Sim_probes_71 rfl (sm_row hA (by decide) bc) (okI_in (by decide)) ?_
        rw [show (2 : Int32).toNatClampNeg = 2 from by decide]
        refine Go.heq (sm_setup hA (by decide) bc) ?_
        refine Go.aload_0 d_Sim_probes_72 rfl ?_
        refine Go.getfield d_Sim_probes_73 rfl f_Sim_21 (sm_obj hA) (by rfl) ?_
        refine Go.iload_2 d_Sim_probes_76 rfl ?_
        refine Go.aaldA d_Sim_probes_77 rfl (sm_out hA (by decide)) (vp_in_nI bc (Nat.lt_of_le_of_lt (hA.2.2 2 (by decide)) (by decide))) ?_
        rw [nI_clamp (show c < 2 ^ 31 from Nat.lt_trans (Nat.lt_of_lt_of_le (show c < cn A 2 by first | assumption | omega) (hA.2.2 2 (by decide))) (by decide))]
        refine Go.iconst (v := 3) d_Sim_probes_78 rfl (by decide) ?_
        refine Go.aload_0 d_Sim_probes_79 rfl ?_
        refine Go.getfield d_Sim_probes_80 rfl f_Sim_21 (sm_obj hA) (by rfl) ?_
        refine Go.iload_2 d_Sim_probes_83 rfl ?_
        refine Go.aaldA d_Sim_probes_84 rfl (sm_out hA (by decide)) (vp_in_nI bc (Nat.lt_of_le_of_lt (hA.2.2 2 (by decide)) (by decide))) ?_
        rw [nI_clamp (show c < 2 ^ 31 from Nat.lt_trans (Nat.lt_of_lt_of_le (show c < cn A 2 by first | assumption | omega) (hA.2.2 2 (by decide))) (by decide))]
        refine Go.iconst (v := 1) d_Sim_probes_85 rfl (by decide) ?_
        refine Go.iaload d_Sim_probes_86 rfl (sm_row hA (by decide) bc) (okI_in (by decide)) ?_
        rw [show (1 : Int32).toNatClampNeg = 1 from by decide]
        refine Go.iastore d_Sim_probes_87 rfl (sm_row hA (by decide) bc) (okI_in (by decide)) ?_
        rw [show (3 : Int32).toNatClampNeg = 3 from by decide]
        refine Go.heq (sm_setup hA (by decide) bc) ?_
        refine Go.iconst (v := 1) d_Sim_probes_88 rfl (by decide) ?_
        rw [if_neg c10_1, if_neg c18_2, if_pos c32_3]
        exact Go.iret d_Sim_probes_89 rfl rfl ⟨rfl, by dsimp only, rfl⟩
      · refine Go.aload_3 d_Sim_probes_35 rfl ?_
        refine Go.iconst (v := 2) d_Sim_probes_36 rfl (by decide) ?_
        refine Go.iaload d_Sim_probes_37 rfl (sm_row hA (by decide) bt) (okI_in (by decide)) ?_
        rw [show (2 : Int32).toNatClampNeg = 2 from by decide]
        refine Go.aload_0 d_Sim_probes_38 rfl ?_
        refine Go.getfield d_Sim_probes_39 rfl f_Sim_21 (sm_obj hA) (by rfl) ?_
        refine Go.iload_2 d_Sim_probes_42 rfl ?_
        refine Go.aaldA d_Sim_probes_43 rfl (sm_out hA (by decide)) (vp_in_nI bc (Nat.lt_of_le_of_lt (hA.2.2 2 (by decide)) (by decide))) ?_
        rw [nI_clamp (show c < 2 ^ 31 from Nat.lt_trans (Nat.lt_of_lt_of_le (show c < cn A 2 by first | assumption | omega) (hA.2.2 2 (by decide))) (by decide))]
        refine Go.iconst (v := 0) d_Sim_probes_44 rfl (by decide) ?_
        refine Go.iaload d_Sim_probes_45 rfl (sm_row hA (by decide) bc) (okI_in (by decide)) ?_
        rw [show (0 : Int32).toNatClampNeg = 0 from by decide]
        refine Go.iconst (v := 1) d_Sim_probes_46 rfl (by decide) ?_
        refine Go.iadd d_Sim_probes_47 rfl ?_
        refine Go.icmp_eq (t := 53) d_Sim_probes_48 (by decide) rfl (fun c48_4 => ?_) (fun c48_4 => ?_)
        · refine Go.aload_3 d_Sim_probes_53 rfl ?_
          refine Go.bipush (v := 7) d_Sim_probes_54 rfl (by decide) ?_
          refine Go.iconst (v := 1) d_Sim_probes_56 rfl (by decide) ?_
          refine Go.iastore d_Sim_probes_57 rfl (sm_row hA (by decide) bt) (okI_in (by decide)) ?_
          rw [show (7 : Int32).toNatClampNeg = 7 from by decide]
          refine Go.heq (sm_setup hA (by decide) bt) ?_
          refine Go.aload_0 d_Sim_probes_58 rfl ?_
          refine Go.getfield d_Sim_probes_59 rfl f_Sim_21 (sm_obj hA) (by rfl) ?_
          refine Go.iload_2 d_Sim_probes_62 rfl ?_
          refine Go.aaldA d_Sim_probes_63 rfl (sm_out hA (by decide)) (vp_in_nI bc (Nat.lt_of_le_of_lt (hA.2.2 2 (by decide)) (by decide))) ?_
          rw [nI_clamp (show c < 2 ^ 31 from Nat.lt_trans (Nat.lt_of_lt_of_le (show c < cn A 2 by first | assumption | omega) (hA.2.2 2 (by decide))) (by decide))]
          refine Go.iconst (v := 2) d_Sim_probes_64 rfl (by decide) ?_
          refine Go.aload_0 d_Sim_probes_65 rfl ?_
          refine Go.getfield d_Sim_probes_66 rfl f_Sim_34 (sm_obj hA) (by rfl) ?_
          refine Go.iconst (v := 3) d_Sim_probes_69 rfl (by decide) ?_
          refine Go.iadd d_Sim_probes_70 rfl ?_
          rw [show (nI (sm_dy (sm_set Y 4 t 7 1))) + 3 = nI ((sm_dy (sm_set Y 4 t 7 1)) + 3) from nI_add _ _]
          refine Go.iastore d_Sim_probes_71 rfl (sm_row hA (by decide) bc) (okI_in (by decide)) ?_
          rw [show (2 : Int32).toNatClampNeg = 2 from by decide]
          refine Go.heq (sm_setup hA (by decide) bc) ?_
          refine Go.aload_0 d_Sim_probes_72 rfl ?_
          refine Go.getfield d_Sim_probes_73 rfl f_Sim_21 (sm_obj hA) (by rfl) ?_
          refine Go.iload_2 d_Sim_probes_76 rfl ?_
          refine Go.aaldA d_Sim_probes_77 rfl (sm_out hA (by decide)) (vp_in_nI bc (Nat.lt_of_le_of_lt (hA.2.2 2 (by decide)) (by decide))) ?_
          rw [nI_clamp (show c < 2 ^ 31 from Nat.lt_trans (Nat.lt_of_lt_of_le (show c < cn A 2 by first | assumption | omega) (hA.2.2 2 (by decide))) (by decide))]
          refine Go.iconst (v := 3) d_Sim_probes_78 rfl (by decide) ?_
          refine Go.aload_0 d_Sim_probes_79 rfl ?_
          refine Go.getfield d_Sim_probes_80 rfl f_Sim_21 (sm_obj hA) (by rfl) ?_
          refine Go.iload_2 d_Sim_probes_83 rfl ?_
          refine Go.aaldA d_Sim_probes_84 rfl (sm_out hA (by decide)) (vp_in_nI bc (Nat.lt_of_le_of_lt (hA.2.2 2 (by decide)) (by decide))) ?_
          rw [nI_clamp (show c < 2 ^ 31 from Nat.lt_trans (Nat.lt_of_lt_of_le (show c < cn A 2 by first | assumption | omega) (hA.2.2 2 (by decide))) (by decide))]
          refine Go.iconst (v := 1) d_Sim_probes_85 rfl (by decide) ?_
          refine Go.iaload d_Sim_probes_86 rfl (sm_row hA (by decide) bc) (okI_in (by decide)) ?_
          rw [show (1 : Int32).toNatClampNeg = 1 from by decide]
          refine Go.iastore d_Sim_probes_87 rfl (sm_row hA (by decide) bc) (okI_in (by decide)) ?_
          rw [show (3 : Int32).toNatClampNeg = 3 from by decide]
          refine Go.heq (sm_setup hA (by decide) bc) ?_
          refine Go.iconst (v := 1) d_Sim_probes_88 rfl (by decide) ?_
          rw [if_neg c10_1, if_neg c18_2, if_neg c32_3, if_pos c48_4]
          exact Go.iret d_Sim_probes_89 rfl rfl ⟨rfl, by dsimp only, rfl⟩
        · refine Go.iconst (v := 0) d_Sim_probes_51 rfl (by decide) ?_
          rw [if_neg c10_1, if_neg c18_2, if_neg c32_3, if_neg c48_4]
          exact Go.iret d_Sim_probes_52 rfl rfl ⟨rfl, by dsimp only, rfl⟩
set_option maxRecDepth 100000 in
set_option maxHeartbeats 4000000 in
theorem sm_dy_Sim_probes {Y : SM} {t : Nat} {c : Nat} : sm_dy (s_Sim_probes Y t c).2 = sm_dy Y := by
  unfold s_Sim_probes
  (repeat' split) <;> (try simp only [sm_dy_set, sm_dy_fl, sm_dy_ca, sm_dy_rd])
set_option maxRecDepth 100000 in
set_option maxHeartbeats 4000000 in
theorem v5_Sim_probes {Y : SM} {t : Nat} {c : Nat} : v5 (s_Sim_probes Y t c).2 = v5 Y := by
  unfold s_Sim_probes
  (repeat' split) <;> (try simp only [v5_set0, v5_set1, v5_set2, v5_set3, v5_set4, v5_fl, v5_ca, v5_rd])
set_option maxRecDepth 100000 in
set_option maxHeartbeats 4000000 in
theorem s_Sim_probes_01 (Y : SM) (t : Nat) (c : Nat) : (s_Sim_probes Y t c).1 = 0 ∨ (s_Sim_probes Y t c).1 = 1 := by
  unfold s_Sim_probes
  (repeat' split) <;> first | exact Or.inl rfl | exact Or.inr rfl
theorem d_Sim_fills_29 : decode M_Sim_fills.2.1 29 = .ok (.iload 6, 2) := by decide +kernel
theorem d_Sim_fills_31 : decode M_Sim_fills.2.1 31 = .ok (.iload 5, 2) := by decide +kernel
theorem d_Sim_fills_33 : decode M_Sim_fills.2.1 33 = .ok (.if_icmp .ge 101, 3) := by decide +kernel
theorem d_Sim_fills_134 : decode M_Sim_fills.2.1 134 = .ok (.iconst 0, 1) := by decide +kernel
theorem d_Sim_fills_135 : decode M_Sim_fills.2.1 135 = .ok (.ireturn, 1) := by decide +kernel
theorem d_Sim_fills_36 : decode M_Sim_fills.2.1 36 = .ok (.aload 4, 2) := by decide +kernel
theorem d_Sim_fills_38 : decode M_Sim_fills.2.1 38 = .ok (.iload 6, 2) := by decide +kernel
theorem d_Sim_fills_40 : decode M_Sim_fills.2.1 40 = .ok (.aaload, 1) := by decide +kernel
theorem d_Sim_fills_41 : decode M_Sim_fills.2.1 41 = .ok (.astore 7, 2) := by decide +kernel
theorem d_Sim_fills_43 : decode M_Sim_fills.2.1 43 = .ok (.aload 7, 2) := by decide +kernel
theorem d_Sim_fills_45 : decode M_Sim_fills.2.1 45 = .ok (.iconst 0, 1) := by decide +kernel
theorem d_Sim_fills_46 : decode M_Sim_fills.2.1 46 = .ok (.iaload, 1) := by decide +kernel
theorem d_Sim_fills_47 : decode M_Sim_fills.2.1 47 = .ok (.aload_n 3, 1) := by decide +kernel
theorem d_Sim_fills_48 : decode M_Sim_fills.2.1 48 = .ok (.iconst 2, 1) := by decide +kernel
theorem d_Sim_fills_49 : decode M_Sim_fills.2.1 49 = .ok (.iaload, 1) := by decide +kernel
theorem d_Sim_fills_50 : decode M_Sim_fills.2.1 50 = .ok (.if_icmp .ne 78, 3) := by decide +kernel
theorem d_Sim_fills_53 : decode M_Sim_fills.2.1 53 = .ok (.aload 7, 2) := by decide +kernel
theorem d_Sim_fills_55 : decode M_Sim_fills.2.1 55 = .ok (.iconst 1, 1) := by decide +kernel
theorem d_Sim_fills_56 : decode M_Sim_fills.2.1 56 = .ok (.iaload, 1) := by decide +kernel
theorem d_Sim_fills_57 : decode M_Sim_fills.2.1 57 = .ok (.ifCond .ne 6, 3) := by decide +kernel
theorem d_Sim_fills_60 : decode M_Sim_fills.2.1 60 = .ok (.goto 68, 3) := by decide +kernel
theorem d_Sim_fills_63 : decode M_Sim_fills.2.1 63 = .ok (.iload_n 2, 1) := by decide +kernel
theorem d_Sim_fills_64 : decode M_Sim_fills.2.1 64 = .ok (.ifCond .ge 7, 3) := by decide +kernel
theorem d_Sim_fills_67 : decode M_Sim_fills.2.1 67 = .ok (.iconst 0, 1) := by decide +kernel
theorem d_Sim_fills_68 : decode M_Sim_fills.2.1 68 = .ok (.goto 4, 3) := by decide +kernel
theorem d_Sim_fills_71 : decode M_Sim_fills.2.1 71 = .ok (.iload_n 2, 1) := by decide +kernel
theorem d_Sim_fills_72 : decode M_Sim_fills.2.1 72 = .ok (.istore 8, 2) := by decide +kernel
theorem d_Sim_fills_74 : decode M_Sim_fills.2.1 74 = .ok (.iload 8, 2) := by decide +kernel
theorem d_Sim_fills_76 : decode M_Sim_fills.2.1 76 = .ok (.bipush 40, 2) := by decide +kernel
theorem d_Sim_fills_78 : decode M_Sim_fills.2.1 78 = .ok (.aload_n 3, 1) := by decide +kernel
theorem d_Sim_fills_79 : decode M_Sim_fills.2.1 79 = .ok (.iconst 1, 1) := by decide +kernel
theorem d_Sim_fills_80 : decode M_Sim_fills.2.1 80 = .ok (.iaload, 1) := by decide +kernel
theorem d_Sim_fills_81 : decode M_Sim_fills.2.1 81 = .ok (.isub, 1) := by decide +kernel
theorem d_Sim_fills_82 : decode M_Sim_fills.2.1 82 = .ok (.if_icmp .le 11, 3) := by decide +kernel
theorem d_Sim_fills_85 : decode M_Sim_fills.2.1 85 = .ok (.bipush 40, 2) := by decide +kernel
theorem d_Sim_fills_87 : decode M_Sim_fills.2.1 87 = .ok (.aload_n 3, 1) := by decide +kernel
theorem d_Sim_fills_88 : decode M_Sim_fills.2.1 88 = .ok (.iconst 1, 1) := by decide +kernel
theorem d_Sim_fills_89 : decode M_Sim_fills.2.1 89 = .ok (.iaload, 1) := by decide +kernel
theorem d_Sim_fills_90 : decode M_Sim_fills.2.1 90 = .ok (.isub, 1) := by decide +kernel
theorem d_Sim_fills_91 : decode M_Sim_fills.2.1 91 = .ok (.istore 8, 2) := by decide +kernel
theorem d_Sim_fills_93 : decode M_Sim_fills.2.1 93 = .ok (.iload 8, 2) := by decide +kernel
theorem d_Sim_fills_95 : decode M_Sim_fills.2.1 95 = .ok (.aload 7, 2) := by decide +kernel
theorem d_Sim_fills_97 : decode M_Sim_fills.2.1 97 = .ok (.iconst 1, 1) := by decide +kernel
theorem d_Sim_fills_98 : decode M_Sim_fills.2.1 98 = .ok (.iaload, 1) := by decide +kernel
theorem d_Sim_fills_99 : decode M_Sim_fills.2.1 99 = .ok (.if_icmp .le 9, 3) := by decide +kernel
theorem d_Sim_fills_102 : decode M_Sim_fills.2.1 102 = .ok (.aload 7, 2) := by decide +kernel
theorem d_Sim_fills_104 : decode M_Sim_fills.2.1 104 = .ok (.iconst 1, 1) := by decide +kernel
theorem d_Sim_fills_105 : decode M_Sim_fills.2.1 105 = .ok (.iaload, 1) := by decide +kernel
theorem d_Sim_fills_106 : decode M_Sim_fills.2.1 106 = .ok (.istore 8, 2) := by decide +kernel
theorem d_Sim_fills_108 : decode M_Sim_fills.2.1 108 = .ok (.aload 7, 2) := by decide +kernel
theorem d_Sim_fills_110 : decode M_Sim_fills.2.1 110 = .ok (.iconst 1, 1) := by decide +kernel
theorem d_Sim_fills_111 : decode M_Sim_fills.2.1 111 = .ok (.dup2, 1) := by decide +kernel
theorem d_Sim_fills_112 : decode M_Sim_fills.2.1 112 = .ok (.iaload, 1) := by decide +kernel
theorem d_Sim_fills_113 : decode M_Sim_fills.2.1 113 = .ok (.iload 8, 2) := by decide +kernel
theorem d_Sim_fills_115 : decode M_Sim_fills.2.1 115 = .ok (.isub, 1) := by decide +kernel
theorem d_Sim_fills_116 : decode M_Sim_fills.2.1 116 = .ok (.iastore, 1) := by decide +kernel
theorem d_Sim_fills_117 : decode M_Sim_fills.2.1 117 = .ok (.aload_n 3, 1) := by decide +kernel
theorem d_Sim_fills_118 : decode M_Sim_fills.2.1 118 = .ok (.iconst 1, 1) := by decide +kernel
theorem d_Sim_fills_119 : decode M_Sim_fills.2.1 119 = .ok (.dup2, 1) := by decide +kernel
theorem d_Sim_fills_120 : decode M_Sim_fills.2.1 120 = .ok (.iaload, 1) := by decide +kernel
theorem d_Sim_fills_121 : decode M_Sim_fills.2.1 121 = .ok (.iload 8, 2) := by decide +kernel
theorem d_Sim_fills_123 : decode M_Sim_fills.2.1 123 = .ok (.iadd, 1) := by decide +kernel
theorem d_Sim_fills_124 : decode M_Sim_fills.2.1 124 = .ok (.iastore, 1) := by decide +kernel
theorem d_Sim_fills_125 : decode M_Sim_fills.2.1 125 = .ok (.iload 8, 2) := by decide +kernel
theorem d_Sim_fills_127 : decode M_Sim_fills.2.1 127 = .ok (.ireturn, 1) := by decide +kernel
theorem d_Sim_fills_128 : decode M_Sim_fills.2.1 128 = .ok (.iinc 6 1, 3) := by decide +kernel
theorem d_Sim_fills_131 : decode M_Sim_fills.2.1 131 = .ok (.goto (-102), 3) := by decide +kernel
def l_Sim_fills_29 (A : AD) (Y : SM) (t : Nat) (w : Int32) : Nat → Nat → Int32 × SM
  | 0, i => (0, Y)
  | k + 1, i => (if ((sm_v Y 3 i) 0) = ((sm_v Y 4 t) 2) then (if ((sm_v Y 3 i) 1) = 0 then (l_Sim_fills_29 A Y t w k (i + 1)) else (if 0 ≤ w then (if w ≤ (40 - ((sm_v Y 4 t) 1)) then (if w ≤ ((sm_v Y 3 i) 1) then (w, (sm_set (sm_set Y 3 i 1 (((sm_v Y 3 i) 1) - w)) 4 t 1 (((sm_v (sm_set Y 3 i 1 (((sm_v Y 3 i) 1) - w)) 4 t) 1) + w))) else (((sm_v Y 3 i) 1), (sm_set (sm_set Y 3 i 1 (((sm_v Y 3 i) 1) - ((sm_v Y 3 i) 1))) 4 t 1 (((sm_v (sm_set Y 3 i 1 (((sm_v Y 3 i) 1) - ((sm_v Y 3 i) 1))) 4 t) 1) + ((sm_v Y 3 i) 1))))) else (if (40 - ((sm_v Y 4 t) 1)) ≤ ((sm_v Y 3 i) 1) then ((40 - ((sm_v Y 4 t) 1)), (sm_set (sm_set Y 3 i 1 (((sm_v Y 3 i) 1) - (40 - ((sm_v Y 4 t) 1)))) 4 t 1 (((sm_v (sm_set Y 3 i 1 (((sm_v Y 3 i) 1) - (40 - ((sm_v Y 4 t) 1)))) 4 t) 1) + (40 - ((sm_v Y 4 t) 1))))) else (((sm_v Y 3 i) 1), (sm_set (sm_set Y 3 i 1 (((sm_v Y 3 i) 1) - ((sm_v Y 3 i) 1))) 4 t 1 (((sm_v (sm_set Y 3 i 1 (((sm_v Y 3 i) 1) - ((sm_v Y 3 i) 1))) 4 t) 1) + ((sm_v Y 3 i) 1)))))) else (if 0 ≤ (40 - ((sm_v Y 4 t) 1)) then (if 0 ≤ ((sm_v Y 3 i) 1) then (0, (sm_set (sm_set Y 3 i 1 (((sm_v Y 3 i) 1) - 0)) 4 t 1 (((sm_v (sm_set Y 3 i 1 (((sm_v Y 3 i) 1) - 0)) 4 t) 1) + 0))) else (((sm_v Y 3 i) 1), (sm_set (sm_set Y 3 i 1 (((sm_v Y 3 i) 1) - ((sm_v Y 3 i) 1))) 4 t 1 (((sm_v (sm_set Y 3 i 1 (((sm_v Y 3 i) 1) - ((sm_v Y 3 i) 1))) 4 t) 1) + ((sm_v Y 3 i) 1))))) else (if (40 - ((sm_v Y 4 t) 1)) ≤ ((sm_v Y 3 i) 1) then ((40 - ((sm_v Y 4 t) 1)), (sm_set (sm_set Y 3 i 1 (((sm_v Y 3 i) 1) - (40 - ((sm_v Y 4 t) 1)))) 4 t 1 (((sm_v (sm_set Y 3 i 1 (((sm_v Y 3 i) 1) - (40 - ((sm_v Y 4 t) 1)))) 4 t) 1) + (40 - ((sm_v Y 4 t) 1))))) else (((sm_v Y 3 i) 1), (sm_set (sm_set Y 3 i 1 (((sm_v Y 3 i) 1) - ((sm_v Y 3 i) 1))) 4 t 1 (((sm_v (sm_set Y 3 i 1 (((sm_v Y 3 i) 1) - ((sm_v Y 3 i) 1))) 4 t) 1) + ((sm_v Y 3 i) 1)))))))) else (l_Sim_fills_29 A Y t w k (i + 1)))
set_option maxRecDepth 100000 in
set_option maxHeartbeats 4000000 in
theorem l_Sim_fills_29_go {Γ : G9} {h : AH} {z : Nat} {n : Nat} {A : AD} {Y : SM} {t : Nat} {w : Int32} (bt : t < cn A 4) (hA : AOk A) (hn20 : n ≤ 20) (hn : cn A 3 = n) : ∀ (k i : Nat), i + k = n → Go Γ M_Sim_fills 0 0 0 29 [some (.ref (ad A 6 0)), some (.int (nI t)), some (.int w), some (.ref (ad A 4 t)), some (.ref (ad A 8 3)), some (.int (nI (cn A 3))), some (.int (nI i)), none, none] [] (smC Γ A h Y) z (RQ (some (.int (l_Sim_fills_29 A Y t w k i).1)) (smC Γ A h (l_Sim_fills_29 A Y t w k i).2) z) noX := by
  intro k
  induction k with
  | zero =>
    intro i hi
    unfold l_Sim_fills_29
    refine Go.iload_6 d_Sim_fills_29 rfl ?_
    refine Go.iload_5 d_Sim_fills_31 rfl ?_
    refine Go.icmp_ge (t := 134) d_Sim_fills_33 (by decide) rfl (fun c33_1 => ?_) (fun c33_1 => ?_)
    · refine Go.iconst (v := 0) d_Sim_fills_134 rfl (by decide) ?_
      exact Go.iret d_Sim_fills_135 rfl rfl ⟨rfl, by dsimp only, rfl⟩
    · exact absurd (nI_le (by omega) (by omega)) c33_1
  | succ k ih =>
    intro i hi
    unfold l_Sim_fills_29
    refine Go.iload_6 d_Sim_fills_29 rfl ?_
    refine Go.iload_5 d_Sim_fills_31 rfl ?_
    refine Go.icmp_ge (t := 134) d_Sim_fills_33 (by decide) rfl (fun c33_1 => ?_) (fun c33_1 => ?_)
    · exact absurd c33_1 (nI_ge (by omega) (by omega))
    · refine Go.aload_4 d_Sim_fills_36 rfl ?_
      refine Go.iload_6 d_Sim_fills_38 rfl ?_
      refine Go.aaldA d_Sim_fills_40 rfl (sm_out hA (by decide)) (vp_in_nI (by omega) (Nat.lt_of_le_of_lt (hA.2.2 3 (by decide)) (by decide))) ?_
      rw [nI_clamp (show i < 2 ^ 31 from Nat.lt_trans (Nat.lt_of_lt_of_le (show i < cn A 3 by first | assumption | omega) (hA.2.2 3 (by decide))) (by decide))]
      refine Go.astore_7 d_Sim_fills_41 rfl (by rfl) ?_
      refine Go.aload_7 d_Sim_fills_43 rfl ?_
      refine Go.iconst (v := 0) d_Sim_fills_45 rfl (by decide) ?_
      refine Go.iaload d_Sim_fills_46 rfl (sm_row hA (by decide) (by omega)) (okI_in (by decide)) ?_
      rw [show (0 : Int32).toNatClampNeg = 0 from by decide]
      refine Go.aload_3 d_Sim_fills_47 rfl ?_
      refine Go.iconst (v := 2) d_Sim_fills_48 rfl (by decide) ?_
      refine Go.iaload d_Sim_fills_49 rfl (sm_row hA (by decide) bt) (okI_in (by decide)) ?_
      rw [show (2 : Int32).toNatClampNeg = 2 from by decide]
      refine Go.icmp_ne (t := 128) d_Sim_fills_50 (by decide) rfl (fun c50_2 => ?_) (fun c50_2 => ?_)
      · refine Go.iinc_6 d_Sim_fills_128 rfl (by rfl) (nI_inc _) ?_
        refine Go.goto (t := 29) d_Sim_fills_131 (by decide) ?_
        rw [if_neg c50_2]
        refine Go.fgt [some (.ref (ad A 6 0)), some (.int (nI t)), some (.int w), some (.ref (ad A 4 t)), some (.ref (ad A 8 3)), some (.int (nI (cn A 3))), some (.int (nI (i + 1))), none, none] (by repeat' (first | exact trivial | refine ⟨rfl, ?_⟩)) ?_
        exact ih (i + 1) (by omega)
      · refine Go.aload_7 d_Sim_fills_53 rfl ?_
        refine Go.iconst (v := 1) d_Sim_fills_55 rfl (by decide) ?_
        refine Go.iaload d_Sim_fills_56 rfl (sm_row hA (by decide) (by omega)) (okI_in (by decide)) ?_
        rw [show (1 : Int32).toNatClampNeg = 1 from by decide]
        refine Go.if_ne (t := 63) d_Sim_fills_57 (by decide) rfl (fun c57_3 => ?_) (fun c57_3 => ?_)
        · refine Go.iload_2 d_Sim_fills_63 rfl ?_
          refine Go.if_ge (t := 71) d_Sim_fills_64 (by decide) rfl (fun c64_4 => ?_) (fun c64_4 => ?_)
          · refine Go.iload_2 d_Sim_fills_71 rfl ?_
            refine Go.istore_8 d_Sim_fills_72 rfl (by rfl) ?_
            refine Go.iload_8 d_Sim_fills_74 rfl ?_
            refine Go.bipush (v := 40) d_Sim_fills_76 rfl (by decide) ?_
            refine Go.aload_3 d_Sim_fills_78 rfl ?_
            refine Go.iconst (v := 1) d_Sim_fills_79 rfl (by decide) ?_
            refine Go.iaload d_Sim_fills_80 rfl (sm_row hA (by decide) bt) (okI_in (by decide)) ?_
            rw [show (1 : Int32).toNatClampNeg = 1 from by decide]
            refine Go.isub d_Sim_fills_81 rfl ?_
            refine Go.icmp_le (t := 93) d_Sim_fills_82 (by decide) rfl (fun c82_5 => ?_) (fun c82_5 => ?_)
            · refine Go.iload_8 d_Sim_fills_93 rfl ?_
              refine Go.aload_7 d_Sim_fills_95 rfl ?_
              refine Go.iconst (v := 1) d_Sim_fills_97 rfl (by decide) ?_
              refine Go.iaload d_Sim_fills_98 rfl (sm_row hA (by decide) (by omega)) (okI_in (by decide)) ?_
              rw [show (1 : Int32).toNatClampNeg = 1 from by decide]
              refine Go.icmp_le (t := 108) d_Sim_fills_99 (by decide) rfl (fun c99_6 => ?_) (fun c99_6 => ?_)
              · refine Go.aload_7 d_Sim_fills_108 rfl ?_
                refine Go.iconst (v := 1) d_Sim_fills_110 rfl (by decide) ?_
                refine Go.dup2 d_Sim_fills_111 rfl rfl rfl ?_
                refine Go.iaload d_Sim_fills_112 rfl (sm_row hA (by decide) (by omega)) (okI_in (by decide)) ?_
                rw [show (1 : Int32).toNatClampNeg = 1 from by decide]
                refine Go.iload_8 d_Sim_fills_113 rfl ?_
                refine Go.isub d_Sim_fills_115 rfl ?_
                refine Go.iastore d_Sim_fills_116 rfl (sm_row hA (by decide) (by omega)) (okI_in (by decide)) ?_
                rw [show (1 : Int32).toNatClampNeg = 1 from by decide]
                refine Go.heq (sm_setup hA (by decide) (by omega)) ?_
                refine Go.aload_3 d_Sim_fills_117 rfl ?_
                refine Go.iconst (v := 1) d_Sim_fills_118 rfl (by decide) ?_
                refine Go.dup2 d_Sim_fills_119 rfl rfl rfl ?_
                refine Go.iaload d_Sim_fills_120 rfl (sm_row hA (by decide) bt) (okI_in (by decide)) ?_
                rw [show (1 : Int32).toNatClampNeg = 1 from by decide]
                refine Go.iload_8 d_Sim_fills_121 rfl ?_
                refine Go.iadd d_Sim_fills_123 rfl ?_
                refine Go.iastore d_Sim_fills_124 rfl (sm_row hA (by decide) bt) (okI_in (by decide)) ?_
                rw [show (1 : Int32).toNatClampNeg = 1 from by decide]
                refine Go.heq (sm_setup hA (by decide) bt) ?_
                refine Go.iload_8 d_Sim_fills_125 rfl ?_
                rw [if_pos c50_2, if_neg c57_3, if_pos c64_4, if_pos c82_5, if_pos c99_6]
                exact Go.iret d_Sim_fills_127 rfl rfl ⟨rfl, by dsimp only, rfl⟩
              · refine Go.aload_7 d_Sim_fills_102 rfl ?_
                refine Go.iconst (v := 1) d_Sim_fills_104 rfl (by decide) ?_
                refine Go.iaload d_Sim_fills_105 rfl (sm_row hA (by decide) (by omega)) (okI_in (by decide)) ?_
                rw [show (1 : Int32).toNatClampNeg = 1 from by decide]
                refine Go.istore_8 d_Sim_fills_106 rfl (by rfl) ?_
                refine Go.aload_7 d_Sim_fills_108 rfl ?_
                refine Go.iconst (v := 1) d_Sim_fills_110 rfl (by decide) ?_
                refine Go.dup2 d_Sim_fills_111 rfl rfl rfl ?_
                refine Go.iaload d_Sim_fills_112 rfl (sm_row hA (by decide) (by omega)) (okI_in (by decide)) ?_
                rw [show (1 : Int32).toNatClampNeg = 1 from by decide]
                refine Go.iload_8 d_Sim_fills_113 rfl ?_
                refine Go.isub d_Sim_fills_115 rfl ?_
                refine Go.iastore d_Sim_fills_116 rfl (sm_row hA (by decide) (by omega)) (okI_in (by decide)) ?_
                rw [show (1 : Int32).toNatClampNeg = 1 from by decide]
                refine Go.heq (sm_setup hA (by decide) (by omega)) ?_
                refine Go.aload_3 d_Sim_fills_117 rfl ?_
                refine Go.iconst (v := 1) d_Sim_fills_118 rfl (by decide) ?_
                refine Go.dup2 d_Sim_fills_119 rfl rfl rfl ?_
                refine Go.iaload d_Sim_fills_120 rfl (sm_row hA (by decide) bt) (okI_in (by decide)) ?_
                rw [show (1 : Int32).toNatClampNeg = 1 from by decide]
                refine Go.iload_8 d_Sim_fills_121 rfl ?_
                refine Go.iadd d_Sim_fills_123 rfl ?_
                refine Go.iastore d_Sim_fills_124 rfl (sm_row hA (by decide) bt) (okI_in (by decide)) ?_
                rw [show (1 : Int32).toNatClampNeg = 1 from by decide]
                refine Go.heq (sm_setup hA (by decide) bt) ?_
                refine Go.iload_8 d_Sim_fills_125 rfl ?_
                rw [if_pos c50_2, if_neg c57_3, if_pos c64_4, if_pos c82_5, if_neg c99_6]
                exact Go.iret d_Sim_fills_127 rfl rfl ⟨rfl, by dsimp only, rfl⟩
            · refine Go.bipush (v := 40) d_Sim_fills_85 rfl (by decide) ?_
              refine Go.aload_3 d_Sim_fills_87 rfl ?_
              refine Go.iconst (v := 1) d_Sim_fills_88 rfl (by decide) ?_
              refine Go.iaload d_Sim_fills_89 rfl (sm_row hA (by decide) bt) (okI_in (by decide)) ?_
              rw [show (1 : Int32).toNatClampNeg = 1 from by decide]
              refine Go.isub d_Sim_fills_90 rfl ?_
              refine Go.istore_8 d_Sim_fills_91 rfl (by rfl) ?_
              refine Go.iload_8 d_Sim_fills_93 rfl ?_
              refine Go.aload_7 d_Sim_fills_95 rfl ?_
              refine Go.iconst (v := 1) d_Sim_fills_97 rfl (by decide) ?_
              refine Go.iaload d_Sim_fills_98 rfl (sm_row hA (by decide) (by omega)) (okI_in (by decide)) ?_
              rw [show (1 : Int32).toNatClampNeg = 1 from by decide]
              refine Go.icmp_le (t := 108) d_Sim_fills_99 (by decide) rfl (fun c99_7 => ?_) (fun c99_7 => ?_)
              · refine Go.aload_7 d_Sim_fills_108 rfl ?_
                refine Go.iconst (v := 1) d_Sim_fills_110 rfl (by decide) ?_
                refine Go.dup2 d_Sim_fills_111 rfl rfl rfl ?_
                refine Go.iaload d_Sim_fills_112 rfl (sm_row hA (by decide) (by omega)) (okI_in (by decide)) ?_
                rw [show (1 : Int32).toNatClampNeg = 1 from by decide]
                refine Go.iload_8 d_Sim_fills_113 rfl ?_
                refine Go.isub d_Sim_fills_115 rfl ?_
                refine Go.iastore d_Sim_fills_116 rfl (sm_row hA (by decide) (by omega)) (okI_in (by decide)) ?_
                rw [show (1 : Int32).toNatClampNeg = 1 from by decide]
                refine Go.heq (sm_setup hA (by decide) (by omega)) ?_
                refine Go.aload_3 d_Sim_fills_117 rfl ?_
                refine Go.iconst (v := 1) d_Sim_fills_118 rfl (by decide) ?_
                refine Go.dup2 d_Sim_fills_119 rfl rfl rfl ?_
                refine Go.iaload d_Sim_fills_120 rfl (sm_row hA (by decide) bt) (okI_in (by decide)) ?_
                rw [show (1 : Int32).toNatClampNeg = 1 from by decide]
                refine Go.iload_8 d_Sim_fills_121 rfl ?_
                refine Go.iadd d_Sim_fills_123 rfl ?_
                refine Go.iastore d_Sim_fills_124 rfl (sm_row hA (by decide) bt) (okI_in (by decide)) ?_
                rw [show (1 : Int32).toNatClampNeg = 1 from by decide]
                refine Go.heq (sm_setup hA (by decide) bt) ?_
                refine Go.iload_8 d_Sim_fills_125 rfl ?_
                rw [if_pos c50_2, if_neg c57_3, if_pos c64_4, if_neg c82_5, if_pos c99_7]
                exact Go.iret d_Sim_fills_127 rfl rfl ⟨rfl, by dsimp only, rfl⟩
              · refine Go.aload_7 d_Sim_fills_102 rfl ?_
                refine Go.iconst (v := 1) d_Sim_fills_104 rfl (by decide) ?_
                refine Go.iaload d_Sim_fills_105 rfl (sm_row hA (by decide) (by omega)) (okI_in (by decide)) ?_
                rw [show (1 : Int32).toNatClampNeg = 1 from by decide]
                refine Go.istore_8 d_Sim_fills_106 rfl (by rfl) ?_
                refine Go.aload_7 d_Sim_fills_108 rfl ?_
                refine Go.iconst (v := 1) d_Sim_fills_110 rfl (by decide) ?_
                refine Go.dup2 d_Sim_fills_111 rfl rfl rfl ?_
                refine Go.iaload d_Sim_fills_112 rfl (sm_row hA (by decide) (by omega)) (okI_in (by decide)) ?_
                rw [show (1 : Int32).toNatClampNeg = 1 from by decide]
                refine Go.iload_8 d_Sim_fills_113 rfl ?_
                refine Go.isub d_Sim_fills_115 rfl ?_
                refine Go.iastore d_Sim_fills_116 rfl (sm_row hA (by decide) (by omega)) (okI_in (by decide)) ?_
                rw [show (1 : Int32).toNatClampNeg = 1 from by decide]
                refine Go.heq (sm_setup hA (by decide) (by omega)) ?_
                refine Go.aload_3 d_Sim_fills_117 rfl ?_
                refine Go.iconst (v := 1) d_Sim_fills_118 rfl (by decide) ?_
                refine Go.dup2 d_Sim_fills_119 rfl rfl rfl ?_
                refine Go.iaload d_Sim_fills_120 rfl (sm_row hA (by decide) bt) (okI_in (by decide)) ?_
                rw [show (1 : Int32).toNatClampNeg = 1 from by decide]
                refine Go.iload_8 d_Sim_fills_121 rfl ?_
                refine Go.iadd d_Sim_fills_123 rfl ?_
                refine Go.iastore d_Sim_fills_124 rfl (sm_row hA (by decide) bt) (okI_in (by decide)) ?_
                rw [show (1 : Int32).toNatClampNeg = 1 from by decide]
                refine Go.heq (sm_setup hA (by decide) bt) ?_
                refine Go.iload_8 d_Sim_fills_125 rfl ?_
                rw [if_pos c50_2, if_neg c57_3, if_pos c64_4, if_neg c82_5, if_neg c99_7]
                exact Go.iret d_Sim_fills_127 rfl rfl ⟨rfl, by dsimp only, rfl⟩
          · refine Go.iconst (v := 0) d_Sim_fills_67 rfl (by decide) ?_
            refine Go.goto (t := 72) d_Sim_fills_68 (by decide) ?_
            refine Go.istore_8 d_Sim_fills_72 rfl (by rfl) ?_
            refine Go.iload_8 d_Sim_fills_74 rfl ?_
            refine Go.bipush (v := 40) d_Sim_fills_76 rfl (by decide) ?_
            refine Go.aload_3 d_Sim_fills_78 rfl ?_
            refine Go.iconst (v := 1) d_Sim_fills_79 rfl (by decide) ?_
            refine Go.iaload d_Sim_fills_80 rfl (sm_row hA (by decide) bt) (okI_in (by decide)) ?_
            rw [show (1 : Int32).toNatClampNeg = 1 from by decide]
            refine Go.isub d_Sim_fills_81 rfl ?_
            refine Go.icmp_le (t := 93) d_Sim_fills_82 (by decide) rfl (fun c82_8 => ?_) (fun c82_8 => ?_)
            · refine Go.iload_8 d_Sim_fills_93 rfl ?_
              refine Go.aload_7 d_Sim_fills_95 rfl ?_
              refine Go.iconst (v := 1) d_Sim_fills_97 rfl (by decide) ?_
              refine Go.iaload d_Sim_fills_98 rfl (sm_row hA (by decide) (by omega)) (okI_in (by decide)) ?_
              rw [show (1 : Int32).toNatClampNeg = 1 from by decide]
              refine Go.icmp_le (t := 108) d_Sim_fills_99 (by decide) rfl (fun c99_9 => ?_) (fun c99_9 => ?_)
              · refine Go.aload_7 d_Sim_fills_108 rfl ?_
                refine Go.iconst (v := 1) d_Sim_fills_110 rfl (by decide) ?_
                refine Go.dup2 d_Sim_fills_111 rfl rfl rfl ?_
                refine Go.iaload d_Sim_fills_112 rfl (sm_row hA (by decide) (by omega)) (okI_in (by decide)) ?_
                rw [show (1 : Int32).toNatClampNeg = 1 from by decide]
                refine Go.iload_8 d_Sim_fills_113 rfl ?_
                refine Go.isub d_Sim_fills_115 rfl ?_
                refine Go.iastore d_Sim_fills_116 rfl (sm_row hA (by decide) (by omega)) (okI_in (by decide)) ?_
                rw [show (1 : Int32).toNatClampNeg = 1 from by decide]
                refine Go.heq (sm_setup hA (by decide) (by omega)) ?_
                refine Go.aload_3 d_Sim_fills_117 rfl ?_
                refine Go.iconst (v := 1) d_Sim_fills_118 rfl (by decide) ?_
                refine Go.dup2 d_Sim_fills_119 rfl rfl rfl ?_
                refine Go.iaload d_Sim_fills_120 rfl (sm_row hA (by decide) bt) (okI_in (by decide)) ?_
                rw [show (1 : Int32).toNatClampNeg = 1 from by decide]
                refine Go.iload_8 d_Sim_fills_121 rfl ?_
                refine Go.iadd d_Sim_fills_123 rfl ?_
                refine Go.iastore d_Sim_fills_124 rfl (sm_row hA (by decide) bt) (okI_in (by decide)) ?_
                rw [show (1 : Int32).toNatClampNeg = 1 from by decide]
                refine Go.heq (sm_setup hA (by decide) bt) ?_
                refine Go.iload_8 d_Sim_fills_125 rfl ?_
                rw [if_pos c50_2, if_neg c57_3, if_neg c64_4, if_pos c82_8, if_pos c99_9]
                exact Go.iret d_Sim_fills_127 rfl rfl ⟨rfl, by dsimp only, rfl⟩
              · refine Go.aload_7 d_Sim_fills_102 rfl ?_
                refine Go.iconst (v := 1) d_Sim_fills_104 rfl (by decide) ?_
                refine Go.iaload d_Sim_fills_105 rfl (sm_row hA (by decide) (by omega)) (okI_in (by decide)) ?_
                rw [show (1 : Int32).toNatClampNeg = 1 from by decide]
                refine Go.istore_8 d_Sim_fills_106 rfl (by rfl) ?_
                refine Go.aload_7 d_Sim_fills_108 rfl ?_
                refine Go.iconst (v := 1) d_Sim_fills_110 rfl (by decide) ?_
                refine Go.dup2 d_Sim_fills_111 rfl rfl rfl ?_
                refine Go.iaload d_Sim_fills_112 rfl (sm_row hA (by decide) (by omega)) (okI_in (by decide)) ?_
                rw [show (1 : Int32).toNatClampNeg = 1 from by decide]
                refine Go.iload_8 d_Sim_fills_113 rfl ?_
                refine Go.isub d_Sim_fills_115 rfl ?_
                refine Go.iastore d_Sim_fills_116 rfl (sm_row hA (by decide) (by omega)) (okI_in (by decide)) ?_
                rw [show (1 : Int32).toNatClampNeg = 1 from by decide]
                refine Go.heq (sm_setup hA (by decide) (by omega)) ?_
                refine Go.aload_3 d_Sim_fills_117 rfl ?_
                refine Go.iconst (v := 1) d_Sim_fills_118 rfl (by decide) ?_
                refine Go.dup2 d_Sim_fills_119 rfl rfl rfl ?_
                refine Go.iaload d_Sim_fills_120 rfl (sm_row hA (by decide) bt) (okI_in (by decide)) ?_
                rw [show (1 : Int32).toNatClampNeg = 1 from by decide]
                refine Go.iload_8 d_Sim_fills_121 rfl ?_
                refine Go.iadd d_Sim_fills_123 rfl ?_
                refine Go.iastore d_Sim_fills_124 rfl (sm_row hA (by decide) bt) (okI_in (by decide)) ?_
                rw [show (1 : Int32).toNatClampNeg = 1 from by decide]
                refine Go.heq (sm_setup hA (by decide) bt) ?_
                refine Go.iload_8 d_Sim_fills_125 rfl ?_
                rw [if_pos c50_2, if_neg c57_3, if_neg c64_4, if_pos c82_8, if_neg c99_9]
                exact Go.iret d_Sim_fills_127 rfl rfl ⟨rfl, by dsimp only, rfl⟩
            · refine Go.bipush (v := 40) d_Sim_fills_85 rfl (by decide) ?_
              refine Go.aload_3 d_Sim_fills_87 rfl ?_
              refine Go.iconst (v := 1) d_Sim_fills_88 rfl (by decide) ?_
              refine Go.iaload d_Sim_fills_89 rfl (sm_row hA (by decide) bt) (okI_in (by decide)) ?_
              rw [show (1 : Int32).toNatClampNeg = 1 from by decide]
              refine Go.isub d_Sim_fills_90 rfl ?_
              refine Go.istore_8 d_Sim_fills_91 rfl (by rfl) ?_
              refine Go.iload_8 d_Sim_fills_93 rfl ?_
              refine Go.aload_7 d_Sim_fills_95 rfl ?_
              refine Go.iconst (v := 1) d_Sim_fills_97 rfl (by decide) ?_
              refine Go.iaload d_Sim_fills_98 rfl (sm_row hA (by decide) (by omega)) (okI_in (by decide)) ?_
              rw [show (1 : Int32).toNatClampNeg = 1 from by decide]
              refine Go.icmp_le (t := 108) d_Sim_fills_99 (by decide) rfl (fun c99_10 => ?_) (fun c99_10 => ?_)
              · refine Go.aload_7 d_Sim_fills_108 rfl ?_
                refine Go.iconst (v := 1) d_Sim_fills_110 rfl (by decide) ?_
                refine Go.dup2 d_Sim_fills_111 rfl rfl rfl ?_
                refine Go.iaload d_Sim_fills_112 rfl (sm_row hA (by decide) (by omega)) (okI_in (by decide)) ?_
                rw [show (1 : Int32).toNatClampNeg = 1 from by decide]
                refine Go.iload_8 d_Sim_fills_113 rfl ?_
                refine Go.isub d_Sim_fills_115 rfl ?_
                refine Go.iastore d_Sim_fills_116 rfl (sm_row hA (by decide) (by omega)) (okI_in (by decide)) ?_
                rw [show (1 : Int32).toNatClampNeg = 1 from by decide]
                refine Go.heq (sm_setup hA (by decide) (by omega)) ?_
                refine Go.aload_3 d_Sim_fills_117 rfl ?_
                refine Go.iconst (v := 1) d_Sim_fills_118 rfl (by decide) ?_
                refine Go.dup2 d_Sim_fills_119 rfl rfl rfl ?_
                refine Go.iaload d_Sim_fills_120 rfl (sm_row hA (by decide) bt) (okI_in (by decide)) ?_
                rw [show (1 : Int32).toNatClampNeg = 1 from by decide]
                refine Go.iload_8 d_Sim_fills_121 rfl ?_
                refine Go.iadd d_Sim_fills_123 rfl ?_
                refine Go.iastore d_Sim_fills_124 rfl (sm_row hA (by decide) bt) (okI_in (by decide)) ?_
                rw [show (1 : Int32).toNatClampNeg = 1 from by decide]
                refine Go.heq (sm_setup hA (by decide) bt) ?_
                refine Go.iload_8 d_Sim_fills_125 rfl ?_
                rw [if_pos c50_2, if_neg c57_3, if_neg c64_4, if_neg c82_8, if_pos c99_10]
                exact Go.iret d_Sim_fills_127 rfl rfl ⟨rfl, by dsimp only, rfl⟩
              · refine Go.aload_7 d_Sim_fills_102 rfl ?_
                refine Go.iconst (v := 1) d_Sim_fills_104 rfl (by decide) ?_
                refine Go.iaload d_Sim_fills_105 rfl (sm_row hA (by decide) (by omega)) (okI_in (by decide)) ?_
                rw [show (1 : Int32).toNatClampNeg = 1 from by decide]
                refine Go.istore_8 d_Sim_fills_106 rfl (by rfl) ?_
                refine Go.aload_7 d_Sim_fills_108 rfl ?_
                refine Go.iconst (v := 1) d_Sim_fills_110 rfl (by decide) ?_
                refine Go.dup2 d_Sim_fills_111 rfl rfl rfl ?_
                refine Go.iaload d_Sim_fills_112 rfl (sm_row hA (by decide) (by omega)) (okI_in (by decide)) ?_
                rw [show (1 : Int32).toNatClampNeg = 1 from by decide]
                refine Go.iload_8 d_Sim_fills_113 rfl ?_
                refine Go.isub d_Sim_fills_115 rfl ?_
                refine Go.iastore d_Sim_fills_116 rfl (sm_row hA (by decide) (by omega)) (okI_in (by decide)) ?_
                rw [show (1 : Int32).toNatClampNeg = 1 from by decide]
                refine Go.heq (sm_setup hA (by decide) (by omega)) ?_
                refine Go.aload_3 d_Sim_fills_117 rfl ?_
                refine Go.iconst (v := 1) d_Sim_fills_118 rfl (by decide) ?_
                refine Go.dup2 d_Sim_fills_119 rfl rfl rfl ?_
                refine Go.iaload d_Sim_fills_120 rfl (sm_row hA (by decide) bt) (okI_in (by decide)) ?_
                rw [show (1 : Int32).toNatClampNeg = 1 from by decide]
                refine Go.iload_8 d_Sim_fills_121 rfl ?_
                refine Go.iadd d_Sim_fills_123 rfl ?_
                refine Go.iastore d_Sim_fills_124 rfl (sm_row hA (by decide) bt) (okI_in (by decide)) ?_
                rw [show (1 : Int32).toNatClampNeg = 1 from by decide]
                refine Go.heq (sm_setup hA (by decide) bt) ?_
                refine Go.iload_8 d_Sim_fills_125 rfl ?_
                rw [if_pos c50_2, if_neg c57_3, if_neg c64_4, if_neg c82_8, if_neg c99_10]
                exact Go.iret d_Sim_fills_127 rfl rfl ⟨rfl, by dsimp only, rfl⟩
        · refine Go.goto (t := 128) d_Sim_fills_60 (by decide) ?_
          refine Go.iinc_6 d_Sim_fills_128 rfl (by rfl) (nI_inc _) ?_
          refine Go.goto (t := 29) d_Sim_fills_131 (by decide) ?_
          rw [if_pos c50_2, if_pos c57_3]
          refine Go.fgt [some (.ref (ad A 6 0)), some (.int (nI t)), some (.int w), some (.ref (ad A 4 t)), some (.ref (ad A 8 3)), some (.int (nI (cn A 3))), some (.int (nI (i + 1))), none, none] (by repeat' (first | exact trivial | refine ⟨rfl, ?_⟩)) ?_
          exact ih (i + 1) (by omega)
set_option maxRecDepth 100000 in
set_option maxHeartbeats 4000000 in
theorem sm_dy_l_Sim_fills_29 {A : AD} {Y : SM} {t : Nat} {w : Int32} : ∀ (k i : Nat), sm_dy (l_Sim_fills_29 A Y t w k i).2 = sm_dy Y := by
  intro k
  induction k with
  | zero =>
    intros
    unfold l_Sim_fills_29
    (repeat' split) <;> (try simp only [sm_dy_set, sm_dy_fl, sm_dy_ca, sm_dy_rd, sm_dy_Sim_probes])
  | succ k ih =>
    intros
    unfold l_Sim_fills_29
    (repeat' split) <;> (try simp only [ih, sm_dy_set, sm_dy_fl, sm_dy_ca, sm_dy_rd, sm_dy_Sim_probes])
set_option maxRecDepth 100000 in
set_option maxHeartbeats 4000000 in
theorem v5_l_Sim_fills_29 {A : AD} {Y : SM} {t : Nat} {w : Int32} : ∀ (k i : Nat), v5 (l_Sim_fills_29 A Y t w k i).2 = v5 Y := by
  intro k
  induction k with
  | zero =>
    intros
    unfold l_Sim_fills_29
    (repeat' split) <;> (try simp only [v5_set0, v5_set1, v5_set2, v5_set3, v5_set4, v5_fl, v5_ca, v5_rd, v5_Sim_probes])
  | succ k ih =>
    intros
    unfold l_Sim_fills_29
    (repeat' split) <;> (try simp only [ih, v5_set0, v5_set1, v5_set2, v5_set3, v5_set4, v5_fl, v5_ca, v5_rd, v5_Sim_probes])
theorem d_Sim_fills_0 : decode M_Sim_fills.2.1 0 = .ok (.aload_n 0, 1) := by decide +kernel
theorem d_Sim_fills_1 : decode M_Sim_fills.2.1 1 = .ok (.getfield 27, 3) := by decide +kernel
theorem d_Sim_fills_4 : decode M_Sim_fills.2.1 4 = .ok (.iload_n 1, 1) := by decide +kernel
theorem d_Sim_fills_5 : decode M_Sim_fills.2.1 5 = .ok (.aaload, 1) := by decide +kernel
theorem d_Sim_fills_6 : decode M_Sim_fills.2.1 6 = .ok (.astore_n 3, 1) := by decide +kernel
theorem d_Sim_fills_7 : decode M_Sim_fills.2.1 7 = .ok (.aload_n 3, 1) := by decide +kernel
theorem d_Sim_fills_8 : decode M_Sim_fills.2.1 8 = .ok (.iconst 4, 1) := by decide +kernel
theorem d_Sim_fills_9 : decode M_Sim_fills.2.1 9 = .ok (.iaload, 1) := by decide +kernel
theorem d_Sim_fills_10 : decode M_Sim_fills.2.1 10 = .ok (.ifCond .ne 5, 3) := by decide +kernel
theorem d_Sim_fills_13 : decode M_Sim_fills.2.1 13 = .ok (.iconst 0, 1) := by decide +kernel
theorem d_Sim_fills_14 : decode M_Sim_fills.2.1 14 = .ok (.ireturn, 1) := by decide +kernel
theorem d_Sim_fills_15 : decode M_Sim_fills.2.1 15 = .ok (.aload_n 0, 1) := by decide +kernel
theorem d_Sim_fills_16 : decode M_Sim_fills.2.1 16 = .ok (.getfield 24, 3) := by decide +kernel
theorem d_Sim_fills_19 : decode M_Sim_fills.2.1 19 = .ok (.astore 4, 2) := by decide +kernel
theorem d_Sim_fills_21 : decode M_Sim_fills.2.1 21 = .ok (.aload 4, 2) := by decide +kernel
theorem d_Sim_fills_23 : decode M_Sim_fills.2.1 23 = .ok (.arraylength, 1) := by decide +kernel
theorem d_Sim_fills_24 : decode M_Sim_fills.2.1 24 = .ok (.istore 5, 2) := by decide +kernel
theorem d_Sim_fills_26 : decode M_Sim_fills.2.1 26 = .ok (.iconst 0, 1) := by decide +kernel
theorem d_Sim_fills_27 : decode M_Sim_fills.2.1 27 = .ok (.istore 6, 2) := by decide +kernel
def s_Sim_fills (A : AD) (Y : SM) (t : Nat) (w : Int32) : Int32 × SM := (if ((sm_v Y 4 t) 4) = 0 then (0, Y) else (l_Sim_fills_29 A Y t w (cn A 3) 0))
set_option maxRecDepth 100000 in
set_option maxHeartbeats 4000000 in
theorem c_Sim_fills {Γ : G9} {h : AH} {z : Nat} {A : AD} {Y : SM} {t : Nat} {vt : Int32} {w : Int32} (et : vt = nI t) (bt : t < cn A 4) (hA : AOk A) : CallR Γ M_Sim_fills 0 [.ref (ad A 6 0), .int vt, .int w] (smC Γ A h Y) z (some (.int (s_Sim_fills A Y t w).1)) (smC Γ A h (s_Sim_fills A Y t w).2) := by
  subst et
  refine Call.of_go (L := [some (.ref (ad A 6 0)), some (.int (nI t)), some (.int w), none, none, none, none, none, none]) (by decide +kernel) rfl (by exact Nat.le_of_ble_eq_true rfl) ?_
  unfold s_Sim_fills
  refine Go.aload_0 d_Sim_fills_0 rfl ?_
  refine Go.getfield d_Sim_fills_1 rfl f_Sim_27 (sm_obj hA) (by rfl) ?_
  refine Go.iload_1 d_Sim_fills_4 rfl ?_
  refine Go.aaldA d_Sim_fills_5 rfl (sm_out hA (by decide)) (vp_in_nI bt (Nat.lt_of_le_of_lt (hA.2.2 4 (by decide)) (by decide))) ?_
  rw [nI_clamp (show t < 2 ^ 31 from Nat.lt_trans (Nat.lt_of_lt_of_le (show t < cn A 4 by first | assumption | omega) (hA.2.2 4 (by decide))) (by decide))]
  refine Go.astore_3 d_Sim_fills_6 rfl (by rfl) ?_
  refine Go.aload_3 d_Sim_fills_7 rfl ?_
  refine Go.iconst (v := 4) d_Sim_fills_8 rfl (by decide) ?_
  refine Go.iaload d_Sim_fills_9 rfl (sm_row hA (by decide) bt) (okI_in (by decide)) ?_
  rw [show (4 : Int32).toNatClampNeg = 4 from by decide]
  refine Go.if_ne (t := 15) d_Sim_fills_10 (by decide) rfl (fun c10_1 => ?_) (fun c10_1 => ?_)
  · refine Go.aload_0 d_Sim_fills_15 rfl ?_
    refine Go.getfield d_Sim_fills_16 rfl f_Sim_24 (sm_obj hA) (by rfl) ?_
    refine Go.astore_4 d_Sim_fills_19 rfl (by rfl) ?_
    refine Go.aload_4 d_Sim_fills_21 rfl ?_
    refine Go.alen (n := (nI (cn A 3))) d_Sim_fills_23 rfl (sm_out hA (by decide)) (by rfl) rfl ?_
    refine Go.istore_5 d_Sim_fills_24 rfl (by rfl) ?_
    refine Go.iconst (v := 0) d_Sim_fills_26 rfl (by decide) ?_
    refine Go.istore_6 d_Sim_fills_27 rfl (by rfl) ?_
    rw [if_neg c10_1]
    exact l_Sim_fills_29_go (n := (cn A 3)) bt hA (Nat.le_trans (hA.2.2 3 (by decide)) (by decide)) rfl (cn A 3) 0 (by omega)
  · refine Go.iconst (v := 0) d_Sim_fills_13 rfl (by decide) ?_
    rw [if_pos c10_1]
    exact Go.iret d_Sim_fills_14 rfl rfl ⟨rfl, by dsimp only, rfl⟩
set_option maxRecDepth 100000 in
set_option maxHeartbeats 4000000 in
theorem sm_dy_Sim_fills {A : AD} {Y : SM} {t : Nat} {w : Int32} : sm_dy (s_Sim_fills A Y t w).2 = sm_dy Y := by
  unfold s_Sim_fills
  (repeat' split) <;> (try simp only [sm_dy_set, sm_dy_fl, sm_dy_ca, sm_dy_rd, sm_dy_Sim_probes, sm_dy_l_Sim_fills_29])
set_option maxRecDepth 100000 in
set_option maxHeartbeats 4000000 in
theorem v5_Sim_fills {A : AD} {Y : SM} {t : Nat} {w : Int32} : v5 (s_Sim_fills A Y t w).2 = v5 Y := by
  unfold s_Sim_fills
  (repeat' split) <;> (try simp only [v5_set0, v5_set1, v5_set2, v5_set3, v5_set4, v5_fl, v5_ca, v5_rd, v5_Sim_probes, v5_l_Sim_fills_29])
theorem d_Sim_drills_25 : decode M_Sim_drills.2.1 25 = .ok (.iload 4, 2) := by decide +kernel
theorem d_Sim_drills_27 : decode M_Sim_drills.2.1 27 = .ok (.iload_n 3, 1) := by decide +kernel
theorem d_Sim_drills_28 : decode M_Sim_drills.2.1 28 = .ok (.if_icmp .ge 60, 3) := by decide +kernel
theorem d_Sim_drills_88 : decode M_Sim_drills.2.1 88 = .ok (.iconst 0, 1) := by decide +kernel
theorem d_Sim_drills_89 : decode M_Sim_drills.2.1 89 = .ok (.ireturn, 1) := by decide +kernel
theorem d_Sim_drills_31 : decode M_Sim_drills.2.1 31 = .ok (.aload_n 2, 1) := by decide +kernel
theorem d_Sim_drills_32 : decode M_Sim_drills.2.1 32 = .ok (.iload 4, 2) := by decide +kernel
theorem d_Sim_drills_34 : decode M_Sim_drills.2.1 34 = .ok (.aaload, 1) := by decide +kernel
theorem d_Sim_drills_35 : decode M_Sim_drills.2.1 35 = .ok (.astore 5, 2) := by decide +kernel
theorem d_Sim_drills_37 : decode M_Sim_drills.2.1 37 = .ok (.aload 5, 2) := by decide +kernel
theorem d_Sim_drills_39 : decode M_Sim_drills.2.1 39 = .ok (.iconst 4, 1) := by decide +kernel
theorem d_Sim_drills_40 : decode M_Sim_drills.2.1 40 = .ok (.iaload, 1) := by decide +kernel
theorem d_Sim_drills_41 : decode M_Sim_drills.2.1 41 = .ok (.ifCond .eq 41, 3) := by decide +kernel
theorem d_Sim_drills_44 : decode M_Sim_drills.2.1 44 = .ok (.aload 5, 2) := by decide +kernel
theorem d_Sim_drills_46 : decode M_Sim_drills.2.1 46 = .ok (.iconst 2, 1) := by decide +kernel
theorem d_Sim_drills_47 : decode M_Sim_drills.2.1 47 = .ok (.iaload, 1) := by decide +kernel
theorem d_Sim_drills_48 : decode M_Sim_drills.2.1 48 = .ok (.aload_n 0, 1) := by decide +kernel
theorem d_Sim_drills_49 : decode M_Sim_drills.2.1 49 = .ok (.getfield 18, 3) := by decide +kernel
theorem d_Sim_drills_52 : decode M_Sim_drills.2.1 52 = .ok (.iload_n 1, 1) := by decide +kernel
theorem d_Sim_drills_53 : decode M_Sim_drills.2.1 53 = .ok (.aaload, 1) := by decide +kernel
theorem d_Sim_drills_54 : decode M_Sim_drills.2.1 54 = .ok (.iconst 0, 1) := by decide +kernel
theorem d_Sim_drills_55 : decode M_Sim_drills.2.1 55 = .ok (.iaload, 1) := by decide +kernel
theorem d_Sim_drills_56 : decode M_Sim_drills.2.1 56 = .ok (.if_icmp .eq 6, 3) := by decide +kernel
theorem d_Sim_drills_59 : decode M_Sim_drills.2.1 59 = .ok (.goto 23, 3) := by decide +kernel
theorem d_Sim_drills_62 : decode M_Sim_drills.2.1 62 = .ok (.aload_n 0, 1) := by decide +kernel
theorem d_Sim_drills_63 : decode M_Sim_drills.2.1 63 = .ok (.getfield 18, 3) := by decide +kernel
theorem d_Sim_drills_66 : decode M_Sim_drills.2.1 66 = .ok (.iload_n 1, 1) := by decide +kernel
theorem d_Sim_drills_67 : decode M_Sim_drills.2.1 67 = .ok (.aaload, 1) := by decide +kernel
theorem d_Sim_drills_68 : decode M_Sim_drills.2.1 68 = .ok (.iconst 2, 1) := by decide +kernel
theorem d_Sim_drills_69 : decode M_Sim_drills.2.1 69 = .ok (.iconst 0, 1) := by decide +kernel
theorem d_Sim_drills_70 : decode M_Sim_drills.2.1 70 = .ok (.iastore, 1) := by decide +kernel
theorem d_Sim_drills_71 : decode M_Sim_drills.2.1 71 = .ok (.aload_n 0, 1) := by decide +kernel
theorem d_Sim_drills_72 : decode M_Sim_drills.2.1 72 = .ok (.getfield 18, 3) := by decide +kernel
theorem d_Sim_drills_75 : decode M_Sim_drills.2.1 75 = .ok (.iload_n 1, 1) := by decide +kernel
theorem d_Sim_drills_76 : decode M_Sim_drills.2.1 76 = .ok (.aaload, 1) := by decide +kernel
theorem d_Sim_drills_77 : decode M_Sim_drills.2.1 77 = .ok (.iconst 3, 1) := by decide +kernel
theorem d_Sim_drills_78 : decode M_Sim_drills.2.1 78 = .ok (.iconst 1, 1) := by decide +kernel
theorem d_Sim_drills_79 : decode M_Sim_drills.2.1 79 = .ok (.iastore, 1) := by decide +kernel
theorem d_Sim_drills_80 : decode M_Sim_drills.2.1 80 = .ok (.iconst 1, 1) := by decide +kernel
theorem d_Sim_drills_81 : decode M_Sim_drills.2.1 81 = .ok (.ireturn, 1) := by decide +kernel
theorem d_Sim_drills_82 : decode M_Sim_drills.2.1 82 = .ok (.iinc 4 1, 3) := by decide +kernel
theorem d_Sim_drills_85 : decode M_Sim_drills.2.1 85 = .ok (.goto (-60), 3) := by decide +kernel
def l_Sim_drills_25 (A : AD) (Y : SM) (k0 : Nat) : Nat → Nat → Int32 × SM
  | 0, i => (0, Y)
  | k + 1, i => (if ((sm_v Y 4 i) 4) = 0 then (l_Sim_drills_25 A Y k0 k (i + 1)) else (if ((sm_v Y 4 i) 2) = ((sm_v Y 1 k0) 0) then (1, (sm_set (sm_set Y 1 k0 2 0) 1 k0 3 1)) else (l_Sim_drills_25 A Y k0 k (i + 1))))
set_option maxRecDepth 100000 in
set_option maxHeartbeats 4000000 in
theorem l_Sim_drills_25_go {Γ : G9} {h : AH} {z : Nat} {n : Nat} {A : AD} {Y : SM} {k0 : Nat} (bk0 : k0 < cn A 1) (hA : AOk A) (hn20 : n ≤ 20) (hn : cn A 4 = n) : ∀ (k i : Nat), i + k = n → Go Γ M_Sim_drills 0 0 0 25 [some (.ref (ad A 6 0)), some (.int (nI k0)), some (.ref (ad A 8 4)), some (.int (nI (cn A 4))), some (.int (nI i)), none] [] (smC Γ A h Y) z (RQ (some (.int (l_Sim_drills_25 A Y k0 k i).1)) (smC Γ A h (l_Sim_drills_25 A Y k0 k i).2) z) noX := by
  intro k
  induction k with
  | zero =>
    intro i hi
    unfold l_Sim_drills_25
    refine Go.iload_4 d_Sim_drills_25 rfl ?_
    refine Go.iload_3 d_Sim_drills_27 rfl ?_
    refine Go.icmp_ge (t := 88) d_Sim_drills_28 (by decide) rfl (fun c28_1 => ?_) (fun c28_1 => ?_)
    · refine Go.iconst (v := 0) d_Sim_drills_88 rfl (by decide) ?_
      exact Go.iret d_Sim_drills_89 rfl rfl ⟨rfl, by dsimp only, rfl⟩
    · exact absurd (nI_le (by omega) (by omega)) c28_1
  | succ k ih =>
    intro i hi
    unfold l_Sim_drills_25
    refine Go.iload_4 d_Sim_drills_25 rfl ?_
    refine Go.iload_3 d_Sim_drills_27 rfl ?_
    refine Go.icmp_ge (t := 88) d_Sim_drills_28 (by decide) rfl (fun c28_1 => ?_) (fun c28_1 => ?_)
    · exact absurd c28_1 (nI_ge (by omega) (by omega))
    · refine Go.aload_2 d_Sim_drills_31 rfl ?_
      refine Go.iload_4 d_Sim_drills_32 rfl ?_
      refine Go.aaldA d_Sim_drills_34 rfl (sm_out hA (by decide)) (vp_in_nI (by omega) (Nat.lt_of_le_of_lt (hA.2.2 4 (by decide)) (by decide))) ?_
      rw [nI_clamp (show i < 2 ^ 31 from Nat.lt_trans (Nat.lt_of_lt_of_le (show i < cn A 4 by first | assumption | omega) (hA.2.2 4 (by decide))) (by decide))]
      refine Go.astore_5 d_Sim_drills_35 rfl (by rfl) ?_
      refine Go.aload_5 d_Sim_drills_37 rfl ?_
      refine Go.iconst (v := 4) d_Sim_drills_39 rfl (by decide) ?_
      refine Go.iaload d_Sim_drills_40 rfl (sm_row hA (by decide) (by omega)) (okI_in (by decide)) ?_
      rw [show (4 : Int32).toNatClampNeg = 4 from by decide]
      refine Go.if_eq (t := 82) d_Sim_drills_41 (by decide) rfl (fun c41_2 => ?_) (fun c41_2 => ?_)
      · refine Go.iinc_4 d_Sim_drills_82 rfl (by rfl) (nI_inc _) ?_
        refine Go.goto (t := 25) d_Sim_drills_85 (by decide) ?_
        rw [if_pos c41_2]
        refine Go.fgt [some (.ref (ad A 6 0)), some (.int (nI k0)), some (.ref (ad A 8 4)), some (.int (nI (cn A 4))), some (.int (nI (i + 1))), none] (by repeat' (first | exact trivial | refine ⟨rfl, ?_⟩)) ?_
        exact ih (i + 1) (by omega)
      · refine Go.aload_5 d_Sim_drills_44 rfl ?_
        refine Go.iconst (v := 2) d_Sim_drills_46 rfl (by decide) ?_
        refine Go.iaload d_Sim_drills_47 rfl (sm_row hA (by decide) (by omega)) (okI_in (by decide)) ?_
        rw [show (2 : Int32).toNatClampNeg = 2 from by decide]
        refine Go.aload_0 d_Sim_drills_48 rfl ?_
        refine Go.getfield d_Sim_drills_49 rfl f_Sim_18 (sm_obj hA) (by rfl) ?_
        refine Go.iload_1 d_Sim_drills_52 rfl ?_
        refine Go.aaldA d_Sim_drills_53 rfl (sm_out hA (by decide)) (vp_in_nI bk0 (Nat.lt_of_le_of_lt (hA.2.2 1 (by decide)) (by decide))) ?_
        rw [nI_clamp (show k0 < 2 ^ 31 from Nat.lt_trans (Nat.lt_of_lt_of_le (show k0 < cn A 1 by first | assumption | omega) (hA.2.2 1 (by decide))) (by decide))]
        refine Go.iconst (v := 0) d_Sim_drills_54 rfl (by decide) ?_
        refine Go.iaload d_Sim_drills_55 rfl (sm_row hA (by decide) bk0) (okI_in (by decide)) ?_
        rw [show (0 : Int32).toNatClampNeg = 0 from by decide]
        refine Go.icmp_eq (t := 62) d_Sim_drills_56 (by decide) rfl (fun c56_3 => ?_) (fun c56_3 => ?_)
        · refine Go.aload_0 d_Sim_drills_62 rfl ?_
          refine Go.getfield d_Sim_drills_63 rfl f_Sim_18 (sm_obj hA) (by rfl) ?_
          refine Go.iload_1 d_Sim_drills_66 rfl ?_
          refine Go.aaldA d_Sim_drills_67 rfl (sm_out hA (by decide)) (vp_in_nI bk0 (Nat.lt_of_le_of_lt (hA.2.2 1 (by decide)) (by decide))) ?_
          rw [nI_clamp (show k0 < 2 ^ 31 from Nat.lt_trans (Nat.lt_of_lt_of_le (show k0 < cn A 1 by first | assumption | omega) (hA.2.2 1 (by decide))) (by decide))]
          refine Go.iconst (v := 2) d_Sim_drills_68 rfl (by decide) ?_
          refine Go.iconst (v := 0) d_Sim_drills_69 rfl (by decide) ?_
          refine Go.iastore d_Sim_drills_70 rfl (sm_row hA (by decide) bk0) (okI_in (by decide)) ?_
          rw [show (2 : Int32).toNatClampNeg = 2 from by decide]
          refine Go.heq (sm_setup hA (by decide) bk0) ?_
          refine Go.aload_0 d_Sim_drills_71 rfl ?_
          refine Go.getfield d_Sim_drills_72 rfl f_Sim_18 (sm_obj hA) (by rfl) ?_
          refine Go.iload_1 d_Sim_drills_75 rfl ?_
          refine Go.aaldA d_Sim_drills_76 rfl (sm_out hA (by decide)) (vp_in_nI bk0 (Nat.lt_of_le_of_lt (hA.2.2 1 (by decide)) (by decide))) ?_
          rw [nI_clamp (show k0 < 2 ^ 31 from Nat.lt_trans (Nat.lt_of_lt_of_le (show k0 < cn A 1 by first | assumption | omega) (hA.2.2 1 (by decide))) (by decide))]
          refine Go.iconst (v := 3) d_Sim_drills_77 rfl (by decide) ?_
          refine Go.iconst (v := 1) d_Sim_drills_78 rfl (by decide) ?_
          refine Go.iastore d_Sim_drills_79 rfl (sm_row hA (by decide) bk0) (okI_in (by decide)) ?_
          rw [show (3 : Int32).toNatClampNeg = 3 from by decide]
          refine Go.heq (sm_setup hA (by decide) bk0) ?_
          refine Go.iconst (v := 1) d_Sim_drills_80 rfl (by decide) ?_
          rw [if_neg c41_2, if_pos c56_3]
          exact Go.iret d_Sim_drills_81 rfl rfl ⟨rfl, by dsimp only, rfl⟩
        · refine Go.goto (t := 82) d_Sim_drills_59 (by decide) ?_
          refine Go.iinc_4 d_Sim_drills_82 rfl (by rfl) (nI_inc _) ?_
          refine Go.goto (t := 25) d_Sim_drills_85 (by decide) ?_
          rw [if_neg c41_2, if_neg c56_3]
          refine Go.fgt [some (.ref (ad A 6 0)), some (.int (nI k0)), some (.ref (ad A 8 4)), some (.int (nI (cn A 4))), some (.int (nI (i + 1))), none] (by repeat' (first | exact trivial | refine ⟨rfl, ?_⟩)) ?_
          exact ih (i + 1) (by omega)
set_option maxRecDepth 100000 in
set_option maxHeartbeats 4000000 in
theorem sm_dy_l_Sim_drills_25 {A : AD} {Y : SM} {k0 : Nat} : ∀ (k i : Nat), sm_dy (l_Sim_drills_25 A Y k0 k i).2 = sm_dy Y := by
  intro k
  induction k with
  | zero =>
    intros
    unfold l_Sim_drills_25
    (repeat' split) <;> (try simp only [sm_dy_set, sm_dy_fl, sm_dy_ca, sm_dy_rd, sm_dy_Sim_probes, sm_dy_l_Sim_fills_29, sm_dy_Sim_fills])
  | succ k ih =>
    intros
    unfold l_Sim_drills_25
    (repeat' split) <;> (try simp only [ih, sm_dy_set, sm_dy_fl, sm_dy_ca, sm_dy_rd, sm_dy_Sim_probes, sm_dy_l_Sim_fills_29, sm_dy_Sim_fills])
set_option maxRecDepth 100000 in
set_option maxHeartbeats 4000000 in
theorem v5_l_Sim_drills_25 {A : AD} {Y : SM} {k0 : Nat} : ∀ (k i : Nat), v5 (l_Sim_drills_25 A Y k0 k i).2 = v5 Y := by
  intro k
  induction k with
  | zero =>
    intros
    unfold l_Sim_drills_25
    (repeat' split) <;> (try simp only [v5_set0, v5_set1, v5_set2, v5_set3, v5_set4, v5_fl, v5_ca, v5_rd, v5_Sim_probes, v5_l_Sim_fills_29, v5_Sim_fills])
  | succ k ih =>
    intros
    unfold l_Sim_drills_25
    (repeat' split) <;> (try simp only [ih, v5_set0, v5_set1, v5_set2, v5_set3, v5_set4, v5_fl, v5_ca, v5_rd, v5_Sim_probes, v5_l_Sim_fills_29, v5_Sim_fills])
theorem d_Sim_drills_0 : decode M_Sim_drills.2.1 0 = .ok (.aload_n 0, 1) := by decide +kernel
theorem d_Sim_drills_1 : decode M_Sim_drills.2.1 1 = .ok (.getfield 18, 3) := by decide +kernel
theorem d_Sim_drills_4 : decode M_Sim_drills.2.1 4 = .ok (.iload_n 1, 1) := by decide +kernel
theorem d_Sim_drills_5 : decode M_Sim_drills.2.1 5 = .ok (.aaload, 1) := by decide +kernel
theorem d_Sim_drills_6 : decode M_Sim_drills.2.1 6 = .ok (.iconst 3, 1) := by decide +kernel
theorem d_Sim_drills_7 : decode M_Sim_drills.2.1 7 = .ok (.iaload, 1) := by decide +kernel
theorem d_Sim_drills_8 : decode M_Sim_drills.2.1 8 = .ok (.iconst 1, 1) := by decide +kernel
theorem d_Sim_drills_9 : decode M_Sim_drills.2.1 9 = .ok (.if_icmp .ne 5, 3) := by decide +kernel
theorem d_Sim_drills_12 : decode M_Sim_drills.2.1 12 = .ok (.iconst 0, 1) := by decide +kernel
theorem d_Sim_drills_13 : decode M_Sim_drills.2.1 13 = .ok (.ireturn, 1) := by decide +kernel
theorem d_Sim_drills_14 : decode M_Sim_drills.2.1 14 = .ok (.aload_n 0, 1) := by decide +kernel
theorem d_Sim_drills_15 : decode M_Sim_drills.2.1 15 = .ok (.getfield 27, 3) := by decide +kernel
theorem d_Sim_drills_18 : decode M_Sim_drills.2.1 18 = .ok (.astore_n 2, 1) := by decide +kernel
theorem d_Sim_drills_19 : decode M_Sim_drills.2.1 19 = .ok (.aload_n 2, 1) := by decide +kernel
theorem d_Sim_drills_20 : decode M_Sim_drills.2.1 20 = .ok (.arraylength, 1) := by decide +kernel
theorem d_Sim_drills_21 : decode M_Sim_drills.2.1 21 = .ok (.istore_n 3, 1) := by decide +kernel
theorem d_Sim_drills_22 : decode M_Sim_drills.2.1 22 = .ok (.iconst 0, 1) := by decide +kernel
theorem d_Sim_drills_23 : decode M_Sim_drills.2.1 23 = .ok (.istore 4, 2) := by decide +kernel
def s_Sim_drills (A : AD) (Y : SM) (k0 : Nat) : Int32 × SM := (if ((sm_v Y 1 k0) 3) = 1 then (0, Y) else (l_Sim_drills_25 A Y k0 (cn A 4) 0))
set_option maxRecDepth 100000 in
set_option maxHeartbeats 4000000 in
theorem c_Sim_drills {Γ : G9} {h : AH} {z : Nat} {A : AD} {Y : SM} {k0 : Nat} {vk0 : Int32} (ek0 : vk0 = nI k0) (bk0 : k0 < cn A 1) (hA : AOk A) : CallR Γ M_Sim_drills 0 [.ref (ad A 6 0), .int vk0] (smC Γ A h Y) z (some (.int (s_Sim_drills A Y k0).1)) (smC Γ A h (s_Sim_drills A Y k0).2) := by
  subst ek0
  refine Call.of_go (L := [some (.ref (ad A 6 0)), some (.int (nI k0)), none, none, none, none]) (by decide +kernel) rfl (by exact Nat.le_of_ble_eq_true rfl) ?_
  unfold s_Sim_drills
  refine Go.aload_0 d_Sim_drills_0 rfl ?_
  refine Go.getfield d_Sim_drills_1 rfl f_Sim_18 (sm_obj hA) (by rfl) ?_
  refine Go.iload_1 d_Sim_drills_4 rfl ?_
  refine Go.aaldA d_Sim_drills_5 rfl (sm_out hA (by decide)) (vp_in_nI bk0 (Nat.lt_of_le_of_lt (hA.2.2 1 (by decide)) (by decide))) ?_
  rw [nI_clamp (show k0 < 2 ^ 31 from Nat.lt_trans (Nat.lt_of_lt_of_le (show k0 < cn A 1 by first | assumption | omega) (hA.2.2 1 (by decide))) (by decide))]
  refine Go.iconst (v := 3) d_Sim_drills_6 rfl (by decide) ?_
  refine Go.iaload d_Sim_drills_7 rfl (sm_row hA (by decide) bk0) (okI_in (by decide)) ?_
  rw [show (3 : Int32).toNatClampNeg = 3 from by decide]
  refine Go.iconst (v := 1) d_Sim_drills_8 rfl (by decide) ?_
  refine Go.icmp_ne (t := 14) d_Sim_drills_9 (by decide) rfl (fun c9_1 => ?_) (fun c9_1 => ?_)
  · refine Go.aload_0 d_Sim_drills_14 rfl ?_
    refine Go.getfield d_Sim_drills_15 rfl f_Sim_27 (sm_obj hA) (by rfl) ?_
    refine Go.astore_2 d_Sim_drills_18 rfl (by rfl) ?_
    refine Go.aload_2 d_Sim_drills_19 rfl ?_
    refine Go.alen (n := (nI (cn A 4))) d_Sim_drills_20 rfl (sm_out hA (by decide)) (by rfl) rfl ?_
    refine Go.istore_3 d_Sim_drills_21 rfl (by rfl) ?_
    refine Go.iconst (v := 0) d_Sim_drills_22 rfl (by decide) ?_
    refine Go.istore_4 d_Sim_drills_23 rfl (by rfl) ?_
    rw [if_neg c9_1]
    exact l_Sim_drills_25_go (n := (cn A 4)) bk0 hA (Nat.le_trans (hA.2.2 4 (by decide)) (by decide)) rfl (cn A 4) 0 (by omega)
  · refine Go.iconst (v := 0) d_Sim_drills_12 rfl (by decide) ?_
    rw [if_pos c9_1]
    exact Go.iret d_Sim_drills_13 rfl rfl ⟨rfl, by dsimp only, rfl⟩
set_option maxRecDepth 100000 in
set_option maxHeartbeats 4000000 in
theorem sm_dy_Sim_drills {A : AD} {Y : SM} {k0 : Nat} : sm_dy (s_Sim_drills A Y k0).2 = sm_dy Y := by
  unfold s_Sim_drills
  (repeat' split) <;> (try simp only [sm_dy_set, sm_dy_fl, sm_dy_ca, sm_dy_rd, sm_dy_Sim_probes, sm_dy_l_Sim_fills_29, sm_dy_Sim_fills, sm_dy_l_Sim_drills_25])
set_option maxRecDepth 100000 in
set_option maxHeartbeats 4000000 in
theorem v5_Sim_drills {A : AD} {Y : SM} {k0 : Nat} : v5 (s_Sim_drills A Y k0).2 = v5 Y := by
  unfold s_Sim_drills
  (repeat' split) <;> (try simp only [v5_set0, v5_set1, v5_set2, v5_set3, v5_set4, v5_fl, v5_ca, v5_rd, v5_Sim_probes, v5_l_Sim_fills_29, v5_Sim_fills, v5_l_Sim_drills_25])
theorem d_Sim_sum_0 : decode M_Sim_sum.2.1 0 = .ok (.aload_n 1, 1) := by decide +kernel
theorem d_Sim_sum_1 : decode M_Sim_sum.2.1 1 = .ok (.iconst 4, 1) := by decide +kernel
theorem d_Sim_sum_2 : decode M_Sim_sum.2.1 2 = .ok (.iaload, 1) := by decide +kernel
theorem d_Sim_sum_3 : decode M_Sim_sum.2.1 3 = .ok (.istore_n 2, 1) := by decide +kernel
theorem d_Sim_sum_4 : decode M_Sim_sum.2.1 4 = .ok (.aload_n 1, 1) := by decide +kernel
theorem d_Sim_sum_5 : decode M_Sim_sum.2.1 5 = .ok (.iconst 3, 1) := by decide +kernel
theorem d_Sim_sum_6 : decode M_Sim_sum.2.1 6 = .ok (.iaload, 1) := by decide +kernel
theorem d_Sim_sum_7 : decode M_Sim_sum.2.1 7 = .ok (.tableswitch 137 0 6 #[41, 43, 58, 74, 84, 98, 120], 41) := by decide +kernel
theorem d_Sim_sum_48 : decode M_Sim_sum.2.1 48 = .ok (.iload_n 2, 1) := by decide +kernel
theorem d_Sim_sum_49 : decode M_Sim_sum.2.1 49 = .ok (.ireturn, 1) := by decide +kernel
theorem d_Sim_sum_50 : decode M_Sim_sum.2.1 50 = .ok (.bipush 40, 2) := by decide +kernel
theorem d_Sim_sum_52 : decode M_Sim_sum.2.1 52 = .ok (.aload_n 0, 1) := by decide +kernel
theorem d_Sim_sum_53 : decode M_Sim_sum.2.1 53 = .ok (.getfield 27, 3) := by decide +kernel
theorem d_Sim_sum_56 : decode M_Sim_sum.2.1 56 = .ok (.aload_n 1, 1) := by decide +kernel
theorem d_Sim_sum_57 : decode M_Sim_sum.2.1 57 = .ok (.bipush 9, 2) := by decide +kernel
theorem d_Sim_sum_59 : decode M_Sim_sum.2.1 59 = .ok (.iaload, 1) := by decide +kernel
theorem d_Sim_sum_60 : decode M_Sim_sum.2.1 60 = .ok (.aaload, 1) := by decide +kernel
theorem d_Sim_sum_61 : decode M_Sim_sum.2.1 61 = .ok (.iconst 1, 1) := by decide +kernel
theorem d_Sim_sum_62 : decode M_Sim_sum.2.1 62 = .ok (.iaload, 1) := by decide +kernel
theorem d_Sim_sum_63 : decode M_Sim_sum.2.1 63 = .ok (.isub, 1) := by decide +kernel
theorem d_Sim_sum_64 : decode M_Sim_sum.2.1 64 = .ok (.ireturn, 1) := by decide +kernel
theorem d_Sim_sum_65 : decode M_Sim_sum.2.1 65 = .ok (.aload_n 0, 1) := by decide +kernel
theorem d_Sim_sum_66 : decode M_Sim_sum.2.1 66 = .ok (.getfield 24, 3) := by decide +kernel
theorem d_Sim_sum_69 : decode M_Sim_sum.2.1 69 = .ok (.aload_n 1, 1) := by decide +kernel
theorem d_Sim_sum_70 : decode M_Sim_sum.2.1 70 = .ok (.bipush 10, 2) := by decide +kernel
theorem d_Sim_sum_72 : decode M_Sim_sum.2.1 72 = .ok (.iaload, 1) := by decide +kernel
theorem d_Sim_sum_73 : decode M_Sim_sum.2.1 73 = .ok (.aaload, 1) := by decide +kernel
theorem d_Sim_sum_74 : decode M_Sim_sum.2.1 74 = .ok (.iconst 1, 1) := by decide +kernel
theorem d_Sim_sum_75 : decode M_Sim_sum.2.1 75 = .ok (.iaload, 1) := by decide +kernel
theorem d_Sim_sum_76 : decode M_Sim_sum.2.1 76 = .ok (.iload_n 2, 1) := by decide +kernel
theorem d_Sim_sum_77 : decode M_Sim_sum.2.1 77 = .ok (.invokestatic 67, 3) := by decide +kernel
theorem d_Sim_sum_80 : decode M_Sim_sum.2.1 80 = .ok (.ireturn, 1) := by decide +kernel
theorem d_Sim_sum_81 : decode M_Sim_sum.2.1 81 = .ok (.aload_n 0, 1) := by decide +kernel
theorem d_Sim_sum_82 : decode M_Sim_sum.2.1 82 = .ok (.getfield 34, 3) := by decide +kernel
theorem d_Sim_sum_85 : decode M_Sim_sum.2.1 85 = .ok (.bipush 8, 2) := by decide +kernel
theorem d_Sim_sum_87 : decode M_Sim_sum.2.1 87 = .ok (.irem, 1) := by decide +kernel
theorem d_Sim_sum_88 : decode M_Sim_sum.2.1 88 = .ok (.iload_n 2, 1) := by decide +kernel
theorem d_Sim_sum_89 : decode M_Sim_sum.2.1 89 = .ok (.iadd, 1) := by decide +kernel
theorem d_Sim_sum_90 : decode M_Sim_sum.2.1 90 = .ok (.ireturn, 1) := by decide +kernel
theorem d_Sim_sum_91 : decode M_Sim_sum.2.1 91 = .ok (.aload_n 0, 1) := by decide +kernel
theorem d_Sim_sum_92 : decode M_Sim_sum.2.1 92 = .ok (.getfield 27, 3) := by decide +kernel
theorem d_Sim_sum_95 : decode M_Sim_sum.2.1 95 = .ok (.aload_n 1, 1) := by decide +kernel
theorem d_Sim_sum_96 : decode M_Sim_sum.2.1 96 = .ok (.bipush 9, 2) := by decide +kernel
theorem d_Sim_sum_98 : decode M_Sim_sum.2.1 98 = .ok (.iaload, 1) := by decide +kernel
theorem d_Sim_sum_99 : decode M_Sim_sum.2.1 99 = .ok (.aaload, 1) := by decide +kernel
theorem d_Sim_sum_100 : decode M_Sim_sum.2.1 100 = .ok (.iconst 2, 1) := by decide +kernel
theorem d_Sim_sum_101 : decode M_Sim_sum.2.1 101 = .ok (.iaload, 1) := by decide +kernel
theorem d_Sim_sum_102 : decode M_Sim_sum.2.1 102 = .ok (.iload_n 2, 1) := by decide +kernel
theorem d_Sim_sum_103 : decode M_Sim_sum.2.1 103 = .ok (.imul, 1) := by decide +kernel
theorem d_Sim_sum_104 : decode M_Sim_sum.2.1 104 = .ok (.ireturn, 1) := by decide +kernel
theorem d_Sim_sum_105 : decode M_Sim_sum.2.1 105 = .ok (.iload_n 2, 1) := by decide +kernel
theorem d_Sim_sum_106 : decode M_Sim_sum.2.1 106 = .ok (.ifCond .ne 7, 3) := by decide +kernel
theorem d_Sim_sum_109 : decode M_Sim_sum.2.1 109 = .ok (.iconst 0, 1) := by decide +kernel
theorem d_Sim_sum_110 : decode M_Sim_sum.2.1 110 = .ok (.goto 16, 3) := by decide +kernel
theorem d_Sim_sum_113 : decode M_Sim_sum.2.1 113 = .ok (.aload_n 0, 1) := by decide +kernel
theorem d_Sim_sum_114 : decode M_Sim_sum.2.1 114 = .ok (.getfield 18, 3) := by decide +kernel
theorem d_Sim_sum_117 : decode M_Sim_sum.2.1 117 = .ok (.aload_n 1, 1) := by decide +kernel
theorem d_Sim_sum_118 : decode M_Sim_sum.2.1 118 = .ok (.bipush 7, 2) := by decide +kernel
theorem d_Sim_sum_120 : decode M_Sim_sum.2.1 120 = .ok (.iaload, 1) := by decide +kernel
theorem d_Sim_sum_121 : decode M_Sim_sum.2.1 121 = .ok (.aaload, 1) := by decide +kernel
theorem d_Sim_sum_122 : decode M_Sim_sum.2.1 122 = .ok (.iconst 2, 1) := by decide +kernel
theorem d_Sim_sum_123 : decode M_Sim_sum.2.1 123 = .ok (.iaload, 1) := by decide +kernel
theorem d_Sim_sum_124 : decode M_Sim_sum.2.1 124 = .ok (.iload_n 2, 1) := by decide +kernel
theorem d_Sim_sum_125 : decode M_Sim_sum.2.1 125 = .ok (.idiv, 1) := by decide +kernel
theorem d_Sim_sum_126 : decode M_Sim_sum.2.1 126 = .ok (.ireturn, 1) := by decide +kernel
theorem d_Sim_sum_127 : decode M_Sim_sum.2.1 127 = .ok (.aload_n 0, 1) := by decide +kernel
theorem d_Sim_sum_128 : decode M_Sim_sum.2.1 128 = .ok (.getfield 14, 3) := by decide +kernel
theorem d_Sim_sum_131 : decode M_Sim_sum.2.1 131 = .ok (.aload_n 1, 1) := by decide +kernel
theorem d_Sim_sum_132 : decode M_Sim_sum.2.1 132 = .ok (.bipush 11, 2) := by decide +kernel
theorem d_Sim_sum_134 : decode M_Sim_sum.2.1 134 = .ok (.iaload, 1) := by decide +kernel
theorem d_Sim_sum_135 : decode M_Sim_sum.2.1 135 = .ok (.aaload, 1) := by decide +kernel
theorem d_Sim_sum_136 : decode M_Sim_sum.2.1 136 = .ok (.iconst 1, 1) := by decide +kernel
theorem d_Sim_sum_137 : decode M_Sim_sum.2.1 137 = .ok (.iaload, 1) := by decide +kernel
theorem d_Sim_sum_138 : decode M_Sim_sum.2.1 138 = .ok (.bipush 9, 2) := by decide +kernel
theorem d_Sim_sum_140 : decode M_Sim_sum.2.1 140 = .ok (.idiv, 1) := by decide +kernel
theorem d_Sim_sum_141 : decode M_Sim_sum.2.1 141 = .ok (.iload_n 2, 1) := by decide +kernel
theorem d_Sim_sum_142 : decode M_Sim_sum.2.1 142 = .ok (.isub, 1) := by decide +kernel
theorem d_Sim_sum_143 : decode M_Sim_sum.2.1 143 = .ok (.ireturn, 1) := by decide +kernel
theorem d_Sim_sum_144 : decode M_Sim_sum.2.1 144 = .ok (.aload_n 0, 1) := by decide +kernel
theorem d_Sim_sum_145 : decode M_Sim_sum.2.1 145 = .ok (.getfield 21, 3) := by decide +kernel
theorem d_Sim_sum_148 : decode M_Sim_sum.2.1 148 = .ok (.aload_n 1, 1) := by decide +kernel
theorem d_Sim_sum_149 : decode M_Sim_sum.2.1 149 = .ok (.bipush 8, 2) := by decide +kernel
theorem d_Sim_sum_151 : decode M_Sim_sum.2.1 151 = .ok (.iaload, 1) := by decide +kernel
theorem d_Sim_sum_152 : decode M_Sim_sum.2.1 152 = .ok (.aaload, 1) := by decide +kernel
theorem d_Sim_sum_153 : decode M_Sim_sum.2.1 153 = .ok (.iconst 1, 1) := by decide +kernel
theorem d_Sim_sum_154 : decode M_Sim_sum.2.1 154 = .ok (.iaload, 1) := by decide +kernel
theorem d_Sim_sum_155 : decode M_Sim_sum.2.1 155 = .ok (.iload_n 2, 1) := by decide +kernel
theorem d_Sim_sum_156 : decode M_Sim_sum.2.1 156 = .ok (.invokestatic 73, 3) := by decide +kernel
theorem d_Sim_sum_159 : decode M_Sim_sum.2.1 159 = .ok (.ireturn, 1) := by decide +kernel
def s_Sim_sum (A : AD) (Y : SM) (r : Nat) : Int32 := (if ((sm_v Y 5 r) 3) = 0 then ((sm_v Y 5 r) 4) else (if ((sm_v Y 5 r) 3) = 1 then (40 - ((sm_v Y 4 ((sm_v Y 5 r) 9).toNatClampNeg) 1)) else (if ((sm_v Y 5 r) 3) = 2 then (iMin ((sm_v Y 3 ((sm_v Y 5 r) 10).toNatClampNeg) 1) ((sm_v Y 5 r) 4)) else (if ((sm_v Y 5 r) 3) = 3 then ((nI ((sm_dy Y) % 8)) + ((sm_v Y 5 r) 4)) else (if ((sm_v Y 5 r) 3) = 4 then (((sm_v Y 4 ((sm_v Y 5 r) 9).toNatClampNeg) 2) * ((sm_v Y 5 r) 4)) else (if ((sm_v Y 5 r) 3) = 5 then (if ((sm_v Y 5 r) 4) = 0 then 0 else (((sm_v Y 1 ((sm_v Y 5 r) 7).toNatClampNeg) 2) / ((sm_v Y 5 r) 4))) else (if ((sm_v Y 5 r) 3) = 6 then ((((sm_v Y 0 ((sm_v Y 5 r) 11).toNatClampNeg) 1) / 9) - ((sm_v Y 5 r) 4)) else (iMax ((sm_v Y 2 ((sm_v Y 5 r) 8).toNatClampNeg) 1) ((sm_v Y 5 r) 4)))))))))
set_option maxRecDepth 100000 in
set_option maxHeartbeats 4000000 in
theorem c_Sim_sum {Γ : G9} {h : AH} {z : Nat} {A : AD} {Y : SM} {r : Nat} (br : r < cn A 5) (hA : AOk A) (hdy : sm_dy Y < 1000000) (ho : OrdOk A (sm_v Y 5 r)) : CallR Γ M_Sim_sum 1 [.ref (ad A 6 0), .ref (ad A 5 r)] (smC Γ A h Y) z (some (.int (s_Sim_sum A Y r))) (smC Γ A h Y) := by
  refine Call.of_go (L := [some (.ref (ad A 6 0)), some (.ref (ad A 5 r)), none]) (by decide +kernel) rfl (by exact Nat.le_of_ble_eq_true rfl) ?_
  unfold s_Sim_sum
  refine Go.aload_1 d_Sim_sum_0 rfl ?_
  refine Go.iconst (v := 4) d_Sim_sum_1 rfl (by decide) ?_
  refine Go.iaload d_Sim_sum_2 rfl (sm_row hA (by decide) br) (okI_in (by decide)) ?_
  rw [show (4 : Int32).toNatClampNeg = 4 from by decide]
  refine Go.istore_2 d_Sim_sum_3 rfl (by rfl) ?_
  refine Go.aload_1 d_Sim_sum_4 rfl ?_
  refine Go.iconst (v := 3) d_Sim_sum_5 rfl (by decide) ?_
  refine Go.iaload d_Sim_sum_6 rfl (sm_row hA (by decide) br) (okI_in (by decide)) ?_
  rw [show (3 : Int32).toNatClampNeg = 3 from by decide]
  by_cases w7_1 : ((sm_v Y 5 r) 3) = 0
  · refine Go.tsw (t := 48) d_Sim_sum_7 (by rw [w7_1]; rfl) ?_
    refine Go.iload_2 d_Sim_sum_48 rfl ?_
    rw [if_pos w7_1]
    exact Go.iret d_Sim_sum_49 rfl rfl ⟨rfl, rfl, rfl⟩
  by_cases w7_2 : ((sm_v Y 5 r) 3) = 1
  · refine Go.tsw (t := 50) d_Sim_sum_7 (by rw [w7_2]; rfl) ?_
    refine Go.bipush (v := 40) d_Sim_sum_50 rfl (by decide) ?_
    refine Go.aload_0 d_Sim_sum_52 rfl ?_
    refine Go.getfield d_Sim_sum_53 rfl f_Sim_27 (sm_obj hA) (by rfl) ?_
    refine Go.aload_1 d_Sim_sum_56 rfl ?_
    refine Go.bipush (v := 9) d_Sim_sum_57 rfl (by decide) ?_
    refine Go.iaload d_Sim_sum_59 rfl (sm_row hA (by decide) br) (okI_in (by decide)) ?_
    rw [show (9 : Int32).toNatClampNeg = 9 from by decide]
    refine Go.aaldA d_Sim_sum_60 rfl (sm_out hA (by decide)) (okI_in ho.o9) ?_
    refine Go.iconst (v := 1) d_Sim_sum_61 rfl (by decide) ?_
    refine Go.iaload d_Sim_sum_62 rfl (sm_row hA (by decide) (okI_lt ho.o9)) (okI_in (by decide)) ?_
    rw [show (1 : Int32).toNatClampNeg = 1 from by decide]
    refine Go.isub d_Sim_sum_63 rfl ?_
    rw [if_neg w7_1, if_pos w7_2]
    exact Go.iret d_Sim_sum_64 rfl rfl ⟨rfl, rfl, rfl⟩
  by_cases w7_3 : ((sm_v Y 5 r) 3) = 2
  · refine Go.tsw (t := 65) d_Sim_sum_7 (by rw [w7_3]; rfl) ?_
    refine Go.aload_0 d_Sim_sum_65 rfl ?_
    refine Go.getfield d_Sim_sum_66 rfl f_Sim_24 (sm_obj hA) (by rfl) ?_
    refine Go.aload_1 d_Sim_sum_69 rfl ?_
    refine Go.bipush (v := 10) d_Sim_sum_70 rfl (by decide) ?_
    refine Go.iaload d_Sim_sum_72 rfl (sm_row hA (by decide) br) (okI_in (by decide)) ?_
    rw [show (10 : Int32).toNatClampNeg = 10 from by decide]
    refine Go.aaldA d_Sim_sum_73 rfl (sm_out hA (by decide)) (okI_in ho.o10) ?_
    refine Go.iconst (v := 1) d_Sim_sum_74 rfl (by decide) ?_
    refine Go.iaload d_Sim_sum_75 rfl (sm_row hA (by decide) (okI_lt ho.o10)) (okI_in (by decide)) ?_
    rw [show (1 : Int32).toNatClampNeg = 1 from by decide]
    refine Go.iload_2 d_Sim_sum_76 rfl ?_
    refine Go.imin d_Sim_sum_77 rfl l_Sim_67 (by decide) rfl ?_
    rw [if_neg w7_1, if_neg w7_2, if_pos w7_3]
    exact Go.iret d_Sim_sum_80 rfl rfl ⟨rfl, rfl, rfl⟩
  by_cases w7_4 : ((sm_v Y 5 r) 3) = 3
  · refine Go.tsw (t := 81) d_Sim_sum_7 (by rw [w7_4]; rfl) ?_
    refine Go.aload_0 d_Sim_sum_81 rfl ?_
    refine Go.getfield d_Sim_sum_82 rfl f_Sim_34 (sm_obj hA) (by rfl) ?_
    refine Go.bipush (v := 8) d_Sim_sum_85 rfl (by decide) ?_
    refine Go.irem d_Sim_sum_87 rfl (by decide) ?_
    rw [show nI (sm_dy Y) - nI (sm_dy Y) / 8 * 8 = nI ((sm_dy Y) % 8) from nI_remm (m := 8) (Nat.lt_trans hdy (by decide)) (by decide) (by decide) rfl]
    refine Go.iload_2 d_Sim_sum_88 rfl ?_
    refine Go.iadd d_Sim_sum_89 rfl ?_
    rw [if_neg w7_1, if_neg w7_2, if_neg w7_3, if_pos w7_4]
    exact Go.iret d_Sim_sum_90 rfl rfl ⟨rfl, rfl, rfl⟩
  by_cases w7_5 : ((sm_v Y 5 r) 3) = 4
  · refine Go.tsw (t := 91) d_Sim_sum_7 (by rw [w7_5]; rfl) ?_
    refine Go.aload_0 d_Sim_sum_91 rfl ?_
    refine Go.getfield d_Sim_sum_92 rfl f_Sim_27 (sm_obj hA) (by rfl) ?_
    refine Go.aload_1 d_Sim_sum_95 rfl ?_
    refine Go.bipush (v := 9) d_Sim_sum_96 rfl (by decide) ?_
    refine Go.iaload d_Sim_sum_98 rfl (sm_row hA (by decide) br) (okI_in (by decide)) ?_
    rw [show (9 : Int32).toNatClampNeg = 9 from by decide]
    refine Go.aaldA d_Sim_sum_99 rfl (sm_out hA (by decide)) (okI_in ho.o9) ?_
    refine Go.iconst (v := 2) d_Sim_sum_100 rfl (by decide) ?_
    refine Go.iaload d_Sim_sum_101 rfl (sm_row hA (by decide) (okI_lt ho.o9)) (okI_in (by decide)) ?_
    rw [show (2 : Int32).toNatClampNeg = 2 from by decide]
    refine Go.iload_2 d_Sim_sum_102 rfl ?_
    refine Go.imul d_Sim_sum_103 rfl ?_
    rw [if_neg w7_1, if_neg w7_2, if_neg w7_3, if_neg w7_4, if_pos w7_5]
    exact Go.iret d_Sim_sum_104 rfl rfl ⟨rfl, rfl, rfl⟩
  by_cases w7_6 : ((sm_v Y 5 r) 3) = 5
  · refine Go.tsw (t := 105) d_Sim_sum_7 (by rw [w7_6]; rfl) ?_
    refine Go.iload_2 d_Sim_sum_105 rfl ?_
    refine Go.if_ne (t := 113) d_Sim_sum_106 (by decide) rfl (fun c106_7 => ?_) (fun c106_7 => ?_)
    · refine Go.aload_0 d_Sim_sum_113 rfl ?_
      refine Go.getfield d_Sim_sum_114 rfl f_Sim_18 (sm_obj hA) (by rfl) ?_
      refine Go.aload_1 d_Sim_sum_117 rfl ?_
      refine Go.bipush (v := 7) d_Sim_sum_118 rfl (by decide) ?_
      refine Go.iaload d_Sim_sum_120 rfl (sm_row hA (by decide) br) (okI_in (by decide)) ?_
      rw [show (7 : Int32).toNatClampNeg = 7 from by decide]
      refine Go.aaldA d_Sim_sum_121 rfl (sm_out hA (by decide)) (okI_in ho.o7) ?_
      refine Go.iconst (v := 2) d_Sim_sum_122 rfl (by decide) ?_
      refine Go.iaload d_Sim_sum_123 rfl (sm_row hA (by decide) (okI_lt ho.o7)) (okI_in (by decide)) ?_
      rw [show (2 : Int32).toNatClampNeg = 2 from by decide]
      refine Go.iload_2 d_Sim_sum_124 rfl ?_
      refine Go.idiv d_Sim_sum_125 rfl (by assumption) ?_
      rw [if_neg w7_1, if_neg w7_2, if_neg w7_3, if_neg w7_4, if_neg w7_5, if_pos w7_6, if_neg c106_7]
      exact Go.iret d_Sim_sum_126 rfl rfl ⟨rfl, rfl, rfl⟩
    · refine Go.iconst (v := 0) d_Sim_sum_109 rfl (by decide) ?_
      refine Go.goto (t := 126) d_Sim_sum_110 (by decide) ?_
      rw [if_neg w7_1, if_neg w7_2, if_neg w7_3, if_neg w7_4, if_neg w7_5, if_pos w7_6, if_pos c106_7]
      exact Go.iret d_Sim_sum_126 rfl rfl ⟨rfl, rfl, rfl⟩
  by_cases w7_8 : ((sm_v Y 5 r) 3) = 6
  · refine Go.tsw (t := 127) d_Sim_sum_7 (by rw [w7_8]; rfl) ?_
    refine Go.aload_0 d_Sim_sum_127 rfl ?_
    refine Go.getfield d_Sim_sum_128 rfl f_Sim_14 (sm_obj hA) (by rfl) ?_
    refine Go.aload_1 d_Sim_sum_131 rfl ?_
    refine Go.bipush (v := 11) d_Sim_sum_132 rfl (by decide) ?_
    refine Go.iaload d_Sim_sum_134 rfl (sm_row hA (by decide) br) (okI_in (by decide)) ?_
    rw [show (11 : Int32).toNatClampNeg = 11 from by decide]
    refine Go.aaldA d_Sim_sum_135 rfl (sm_out hA (by decide)) (okI_in ho.o11) ?_
    refine Go.iconst (v := 1) d_Sim_sum_136 rfl (by decide) ?_
    refine Go.iaload d_Sim_sum_137 rfl (sm_row hA (by decide) (okI_lt ho.o11)) (okI_in (by decide)) ?_
    rw [show (1 : Int32).toNatClampNeg = 1 from by decide]
    refine Go.bipush (v := 9) d_Sim_sum_138 rfl (by decide) ?_
    refine Go.idiv d_Sim_sum_140 rfl (by decide) ?_
    refine Go.iload_2 d_Sim_sum_141 rfl ?_
    refine Go.isub d_Sim_sum_142 rfl ?_
    rw [if_neg w7_1, if_neg w7_2, if_neg w7_3, if_neg w7_4, if_neg w7_5, if_neg w7_6, if_pos w7_8]
    exact Go.iret d_Sim_sum_143 rfl rfl ⟨rfl, rfl, rfl⟩
  refine Go.tsw (t := 144) d_Sim_sum_7 (tsw_out fun n hn => by
      match n, hn with
      | 0, _ => exact fun w => w7_1 (i32_eq w)
      | 1, _ => exact fun w => w7_2 (i32_eq w)
      | 2, _ => exact fun w => w7_3 (i32_eq w)
      | 3, _ => exact fun w => w7_4 (i32_eq w)
      | 4, _ => exact fun w => w7_5 (i32_eq w)
      | 5, _ => exact fun w => w7_6 (i32_eq w)
      | 6, _ => exact fun w => w7_8 (i32_eq w)
      | _ + 7, w => exact absurd w (by simp)) ?_
  refine Go.aload_0 d_Sim_sum_144 rfl ?_
  refine Go.getfield d_Sim_sum_145 rfl f_Sim_21 (sm_obj hA) (by rfl) ?_
  refine Go.aload_1 d_Sim_sum_148 rfl ?_
  refine Go.bipush (v := 8) d_Sim_sum_149 rfl (by decide) ?_
  refine Go.iaload d_Sim_sum_151 rfl (sm_row hA (by decide) br) (okI_in (by decide)) ?_
  rw [show (8 : Int32).toNatClampNeg = 8 from by decide]
  refine Go.aaldA d_Sim_sum_152 rfl (sm_out hA (by decide)) (okI_in ho.o8) ?_
  refine Go.iconst (v := 1) d_Sim_sum_153 rfl (by decide) ?_
  refine Go.iaload d_Sim_sum_154 rfl (sm_row hA (by decide) (okI_lt ho.o8)) (okI_in (by decide)) ?_
  rw [show (1 : Int32).toNatClampNeg = 1 from by decide]
  refine Go.iload_2 d_Sim_sum_155 rfl ?_
  refine Go.imax d_Sim_sum_156 rfl l_Sim_73 (by decide) rfl ?_
  rw [if_neg w7_1, if_neg w7_2, if_neg w7_3, if_neg w7_4, if_neg w7_5, if_neg w7_6, if_neg w7_8]
  exact Go.iret d_Sim_sum_159 rfl rfl ⟨rfl, rfl, rfl⟩
theorem d_Sim_holds_0 : decode M_Sim_holds.2.1 0 = .ok (.aload_n 1, 1) := by decide +kernel
theorem d_Sim_holds_1 : decode M_Sim_holds.2.1 1 = .ok (.bipush 6, 2) := by decide +kernel
theorem d_Sim_holds_3 : decode M_Sim_holds.2.1 3 = .ok (.iaload, 1) := by decide +kernel
theorem d_Sim_holds_4 : decode M_Sim_holds.2.1 4 = .ok (.istore_n 2, 1) := by decide +kernel
theorem d_Sim_holds_5 : decode M_Sim_holds.2.1 5 = .ok (.aload_n 0, 1) := by decide +kernel
theorem d_Sim_holds_6 : decode M_Sim_holds.2.1 6 = .ok (.getfield 27, 3) := by decide +kernel
theorem d_Sim_holds_9 : decode M_Sim_holds.2.1 9 = .ok (.aload_n 1, 1) := by decide +kernel
theorem d_Sim_holds_10 : decode M_Sim_holds.2.1 10 = .ok (.bipush 9, 2) := by decide +kernel
theorem d_Sim_holds_12 : decode M_Sim_holds.2.1 12 = .ok (.iaload, 1) := by decide +kernel
theorem d_Sim_holds_13 : decode M_Sim_holds.2.1 13 = .ok (.aaload, 1) := by decide +kernel
theorem d_Sim_holds_14 : decode M_Sim_holds.2.1 14 = .ok (.astore_n 3, 1) := by decide +kernel
theorem d_Sim_holds_15 : decode M_Sim_holds.2.1 15 = .ok (.aload_n 0, 1) := by decide +kernel
theorem d_Sim_holds_16 : decode M_Sim_holds.2.1 16 = .ok (.getfield 18, 3) := by decide +kernel
theorem d_Sim_holds_19 : decode M_Sim_holds.2.1 19 = .ok (.aload_n 1, 1) := by decide +kernel
theorem d_Sim_holds_20 : decode M_Sim_holds.2.1 20 = .ok (.bipush 7, 2) := by decide +kernel
theorem d_Sim_holds_22 : decode M_Sim_holds.2.1 22 = .ok (.iaload, 1) := by decide +kernel
theorem d_Sim_holds_23 : decode M_Sim_holds.2.1 23 = .ok (.aaload, 1) := by decide +kernel
theorem d_Sim_holds_24 : decode M_Sim_holds.2.1 24 = .ok (.astore 4, 2) := by decide +kernel
theorem d_Sim_holds_26 : decode M_Sim_holds.2.1 26 = .ok (.aload_n 1, 1) := by decide +kernel
theorem d_Sim_holds_27 : decode M_Sim_holds.2.1 27 = .ok (.iconst 5, 1) := by decide +kernel
theorem d_Sim_holds_28 : decode M_Sim_holds.2.1 28 = .ok (.iaload, 1) := by decide +kernel
theorem d_Sim_holds_29 : decode M_Sim_holds.2.1 29 = .ok (.tableswitch 238 (-1) 7 #[51, 53, 70, 85, 99, 123, 158, 187, 223], 51) := by decide +kernel
theorem d_Sim_holds_80 : decode M_Sim_holds.2.1 80 = .ok (.iconst 1, 1) := by decide +kernel
theorem d_Sim_holds_81 : decode M_Sim_holds.2.1 81 = .ok (.ireturn, 1) := by decide +kernel
theorem d_Sim_holds_82 : decode M_Sim_holds.2.1 82 = .ok (.aload_n 0, 1) := by decide +kernel
theorem d_Sim_holds_83 : decode M_Sim_holds.2.1 83 = .ok (.getfield 34, 3) := by decide +kernel
theorem d_Sim_holds_86 : decode M_Sim_holds.2.1 86 = .ok (.bipush 8, 2) := by decide +kernel
theorem d_Sim_holds_88 : decode M_Sim_holds.2.1 88 = .ok (.irem, 1) := by decide +kernel
theorem d_Sim_holds_89 : decode M_Sim_holds.2.1 89 = .ok (.iload_n 2, 1) := by decide +kernel
theorem d_Sim_holds_90 : decode M_Sim_holds.2.1 90 = .ok (.if_icmp .le 7, 3) := by decide +kernel
theorem d_Sim_holds_93 : decode M_Sim_holds.2.1 93 = .ok (.iconst 1, 1) := by decide +kernel
theorem d_Sim_holds_94 : decode M_Sim_holds.2.1 94 = .ok (.goto 4, 3) := by decide +kernel
theorem d_Sim_holds_97 : decode M_Sim_holds.2.1 97 = .ok (.iconst 0, 1) := by decide +kernel
theorem d_Sim_holds_98 : decode M_Sim_holds.2.1 98 = .ok (.ireturn, 1) := by decide +kernel
theorem d_Sim_holds_99 : decode M_Sim_holds.2.1 99 = .ok (.aload_n 3, 1) := by decide +kernel
theorem d_Sim_holds_100 : decode M_Sim_holds.2.1 100 = .ok (.iconst 1, 1) := by decide +kernel
theorem d_Sim_holds_101 : decode M_Sim_holds.2.1 101 = .ok (.iaload, 1) := by decide +kernel
theorem d_Sim_holds_102 : decode M_Sim_holds.2.1 102 = .ok (.iconst 3, 1) := by decide +kernel
theorem d_Sim_holds_103 : decode M_Sim_holds.2.1 103 = .ok (.iload_n 2, 1) := by decide +kernel
theorem d_Sim_holds_104 : decode M_Sim_holds.2.1 104 = .ok (.imul, 1) := by decide +kernel
theorem d_Sim_holds_105 : decode M_Sim_holds.2.1 105 = .ok (.if_icmp .ge 7, 3) := by decide +kernel
theorem d_Sim_holds_108 : decode M_Sim_holds.2.1 108 = .ok (.iconst 1, 1) := by decide +kernel
theorem d_Sim_holds_109 : decode M_Sim_holds.2.1 109 = .ok (.goto 4, 3) := by decide +kernel
theorem d_Sim_holds_112 : decode M_Sim_holds.2.1 112 = .ok (.iconst 0, 1) := by decide +kernel
theorem d_Sim_holds_113 : decode M_Sim_holds.2.1 113 = .ok (.ireturn, 1) := by decide +kernel
theorem d_Sim_holds_114 : decode M_Sim_holds.2.1 114 = .ok (.aload 4, 2) := by decide +kernel
theorem d_Sim_holds_116 : decode M_Sim_holds.2.1 116 = .ok (.iconst 3, 1) := by decide +kernel
theorem d_Sim_holds_117 : decode M_Sim_holds.2.1 117 = .ok (.iaload, 1) := by decide +kernel
theorem d_Sim_holds_118 : decode M_Sim_holds.2.1 118 = .ok (.iconst 1, 1) := by decide +kernel
theorem d_Sim_holds_119 : decode M_Sim_holds.2.1 119 = .ok (.if_icmp .ne 7, 3) := by decide +kernel
theorem d_Sim_holds_122 : decode M_Sim_holds.2.1 122 = .ok (.iconst 1, 1) := by decide +kernel
theorem d_Sim_holds_123 : decode M_Sim_holds.2.1 123 = .ok (.goto 4, 3) := by decide +kernel
theorem d_Sim_holds_126 : decode M_Sim_holds.2.1 126 = .ok (.iconst 0, 1) := by decide +kernel
theorem d_Sim_holds_127 : decode M_Sim_holds.2.1 127 = .ok (.ireturn, 1) := by decide +kernel
theorem d_Sim_holds_128 : decode M_Sim_holds.2.1 128 = .ok (.aload 4, 2) := by decide +kernel
theorem d_Sim_holds_130 : decode M_Sim_holds.2.1 130 = .ok (.iconst 3, 1) := by decide +kernel
theorem d_Sim_holds_131 : decode M_Sim_holds.2.1 131 = .ok (.iaload, 1) := by decide +kernel
theorem d_Sim_holds_132 : decode M_Sim_holds.2.1 132 = .ok (.ifCond .eq 14, 3) := by decide +kernel
theorem d_Sim_holds_135 : decode M_Sim_holds.2.1 135 = .ok (.aload 4, 2) := by decide +kernel
theorem d_Sim_holds_137 : decode M_Sim_holds.2.1 137 = .ok (.iconst 2, 1) := by decide +kernel
theorem d_Sim_holds_138 : decode M_Sim_holds.2.1 138 = .ok (.iaload, 1) := by decide +kernel
theorem d_Sim_holds_139 : decode M_Sim_holds.2.1 139 = .ok (.bipush 9, 2) := by decide +kernel
theorem d_Sim_holds_141 : decode M_Sim_holds.2.1 141 = .ok (.iload_n 2, 1) := by decide +kernel
theorem d_Sim_holds_142 : decode M_Sim_holds.2.1 142 = .ok (.imul, 1) := by decide +kernel
theorem d_Sim_holds_143 : decode M_Sim_holds.2.1 143 = .ok (.if_icmp .le 7, 3) := by decide +kernel
theorem d_Sim_holds_146 : decode M_Sim_holds.2.1 146 = .ok (.iconst 1, 1) := by decide +kernel
theorem d_Sim_holds_147 : decode M_Sim_holds.2.1 147 = .ok (.goto 4, 3) := by decide +kernel
theorem d_Sim_holds_150 : decode M_Sim_holds.2.1 150 = .ok (.iconst 0, 1) := by decide +kernel
theorem d_Sim_holds_151 : decode M_Sim_holds.2.1 151 = .ok (.ireturn, 1) := by decide +kernel
theorem d_Sim_holds_152 : decode M_Sim_holds.2.1 152 = .ok (.aload_n 0, 1) := by decide +kernel
theorem d_Sim_holds_153 : decode M_Sim_holds.2.1 153 = .ok (.aload_n 1, 1) := by decide +kernel
theorem d_Sim_holds_154 : decode M_Sim_holds.2.1 154 = .ok (.bipush 8, 2) := by decide +kernel
theorem d_Sim_holds_156 : decode M_Sim_holds.2.1 156 = .ok (.iaload, 1) := by decide +kernel
theorem d_Sim_holds_157 : decode M_Sim_holds.2.1 157 = .ok (.invokevirtual 59, 3) := by decide +kernel
theorem d_Sim_holds_160 : decode M_Sim_holds.2.1 160 = .ok (.ifCond .eq 25, 3) := by decide +kernel
theorem d_Sim_holds_163 : decode M_Sim_holds.2.1 163 = .ok (.aload_n 0, 1) := by decide +kernel
theorem d_Sim_holds_164 : decode M_Sim_holds.2.1 164 = .ok (.getfield 21, 3) := by decide +kernel
theorem d_Sim_holds_167 : decode M_Sim_holds.2.1 167 = .ok (.aload_n 1, 1) := by decide +kernel
theorem d_Sim_holds_168 : decode M_Sim_holds.2.1 168 = .ok (.bipush 8, 2) := by decide +kernel
theorem d_Sim_holds_170 : decode M_Sim_holds.2.1 170 = .ok (.iaload, 1) := by decide +kernel
theorem d_Sim_holds_171 : decode M_Sim_holds.2.1 171 = .ok (.aaload, 1) := by decide +kernel
theorem d_Sim_holds_172 : decode M_Sim_holds.2.1 172 = .ok (.iconst 1, 1) := by decide +kernel
theorem d_Sim_holds_173 : decode M_Sim_holds.2.1 173 = .ok (.iaload, 1) := by decide +kernel
theorem d_Sim_holds_174 : decode M_Sim_holds.2.1 174 = .ok (.bipush 6, 2) := by decide +kernel
theorem d_Sim_holds_176 : decode M_Sim_holds.2.1 176 = .ok (.iload_n 2, 1) := by decide +kernel
theorem d_Sim_holds_177 : decode M_Sim_holds.2.1 177 = .ok (.imul, 1) := by decide +kernel
theorem d_Sim_holds_178 : decode M_Sim_holds.2.1 178 = .ok (.if_icmp .lt 7, 3) := by decide +kernel
theorem d_Sim_holds_181 : decode M_Sim_holds.2.1 181 = .ok (.iconst 1, 1) := by decide +kernel
theorem d_Sim_holds_182 : decode M_Sim_holds.2.1 182 = .ok (.goto 4, 3) := by decide +kernel
theorem d_Sim_holds_185 : decode M_Sim_holds.2.1 185 = .ok (.iconst 0, 1) := by decide +kernel
theorem d_Sim_holds_186 : decode M_Sim_holds.2.1 186 = .ok (.ireturn, 1) := by decide +kernel
theorem d_Sim_holds_187 : decode M_Sim_holds.2.1 187 = .ok (.aload_n 0, 1) := by decide +kernel
theorem d_Sim_holds_188 : decode M_Sim_holds.2.1 188 = .ok (.aload_n 1, 1) := by decide +kernel
theorem d_Sim_holds_189 : decode M_Sim_holds.2.1 189 = .ok (.bipush 8, 2) := by decide +kernel
theorem d_Sim_holds_191 : decode M_Sim_holds.2.1 191 = .ok (.iaload, 1) := by decide +kernel
theorem d_Sim_holds_192 : decode M_Sim_holds.2.1 192 = .ok (.invokevirtual 59, 3) := by decide +kernel
theorem d_Sim_holds_195 : decode M_Sim_holds.2.1 195 = .ok (.ifCond .ne 19, 3) := by decide +kernel
theorem d_Sim_holds_198 : decode M_Sim_holds.2.1 198 = .ok (.aload_n 0, 1) := by decide +kernel
theorem d_Sim_holds_199 : decode M_Sim_holds.2.1 199 = .ok (.getfield 34, 3) := by decide +kernel
theorem d_Sim_holds_202 : decode M_Sim_holds.2.1 202 = .ok (.bipush 8, 2) := by decide +kernel
theorem d_Sim_holds_204 : decode M_Sim_holds.2.1 204 = .ok (.irem, 1) := by decide +kernel
theorem d_Sim_holds_205 : decode M_Sim_holds.2.1 205 = .ok (.iconst 3, 1) := by decide +kernel
theorem d_Sim_holds_206 : decode M_Sim_holds.2.1 206 = .ok (.irem, 1) := by decide +kernel
theorem d_Sim_holds_207 : decode M_Sim_holds.2.1 207 = .ok (.ifCond .ne 7, 3) := by decide +kernel
theorem d_Sim_holds_210 : decode M_Sim_holds.2.1 210 = .ok (.iconst 1, 1) := by decide +kernel
theorem d_Sim_holds_211 : decode M_Sim_holds.2.1 211 = .ok (.goto 4, 3) := by decide +kernel
theorem d_Sim_holds_214 : decode M_Sim_holds.2.1 214 = .ok (.iconst 0, 1) := by decide +kernel
theorem d_Sim_holds_215 : decode M_Sim_holds.2.1 215 = .ok (.ireturn, 1) := by decide +kernel
theorem d_Sim_holds_216 : decode M_Sim_holds.2.1 216 = .ok (.aload_n 3, 1) := by decide +kernel
theorem d_Sim_holds_217 : decode M_Sim_holds.2.1 217 = .ok (.iconst 4, 1) := by decide +kernel
theorem d_Sim_holds_218 : decode M_Sim_holds.2.1 218 = .ok (.iaload, 1) := by decide +kernel
theorem d_Sim_holds_219 : decode M_Sim_holds.2.1 219 = .ok (.iconst 1, 1) := by decide +kernel
theorem d_Sim_holds_220 : decode M_Sim_holds.2.1 220 = .ok (.if_icmp .eq 8, 3) := by decide +kernel
theorem d_Sim_holds_223 : decode M_Sim_holds.2.1 223 = .ok (.iload_n 2, 1) := by decide +kernel
theorem d_Sim_holds_224 : decode M_Sim_holds.2.1 224 = .ok (.iconst 3, 1) := by decide +kernel
theorem d_Sim_holds_225 : decode M_Sim_holds.2.1 225 = .ok (.if_icmp .le 25, 3) := by decide +kernel
theorem d_Sim_holds_228 : decode M_Sim_holds.2.1 228 = .ok (.aload_n 0, 1) := by decide +kernel
theorem d_Sim_holds_229 : decode M_Sim_holds.2.1 229 = .ok (.getfield 7, 3) := by decide +kernel
theorem d_Sim_holds_232 : decode M_Sim_holds.2.1 232 = .ok (.aload_n 0, 1) := by decide +kernel
theorem d_Sim_holds_233 : decode M_Sim_holds.2.1 233 = .ok (.getfield 34, 3) := by decide +kernel
theorem d_Sim_holds_236 : decode M_Sim_holds.2.1 236 = .ok (.bipush 8, 2) := by decide +kernel
theorem d_Sim_holds_238 : decode M_Sim_holds.2.1 238 = .ok (.irem, 1) := by decide +kernel
theorem d_Sim_holds_239 : decode M_Sim_holds.2.1 239 = .ok (.iaload, 1) := by decide +kernel
theorem d_Sim_holds_240 : decode M_Sim_holds.2.1 240 = .ok (.iconst 2, 1) := by decide +kernel
theorem d_Sim_holds_241 : decode M_Sim_holds.2.1 241 = .ok (.iload_n 2, 1) := by decide +kernel
theorem d_Sim_holds_242 : decode M_Sim_holds.2.1 242 = .ok (.imul, 1) := by decide +kernel
theorem d_Sim_holds_243 : decode M_Sim_holds.2.1 243 = .ok (.if_icmp .lt 7, 3) := by decide +kernel
theorem d_Sim_holds_246 : decode M_Sim_holds.2.1 246 = .ok (.iconst 1, 1) := by decide +kernel
theorem d_Sim_holds_247 : decode M_Sim_holds.2.1 247 = .ok (.goto 4, 3) := by decide +kernel
theorem d_Sim_holds_250 : decode M_Sim_holds.2.1 250 = .ok (.iconst 0, 1) := by decide +kernel
theorem d_Sim_holds_251 : decode M_Sim_holds.2.1 251 = .ok (.ireturn, 1) := by decide +kernel
theorem d_Sim_holds_252 : decode M_Sim_holds.2.1 252 = .ok (.aload_n 3, 1) := by decide +kernel
theorem d_Sim_holds_253 : decode M_Sim_holds.2.1 253 = .ok (.iconst 2, 1) := by decide +kernel
theorem d_Sim_holds_254 : decode M_Sim_holds.2.1 254 = .ok (.iaload, 1) := by decide +kernel
theorem d_Sim_holds_255 : decode M_Sim_holds.2.1 255 = .ok (.iload_n 2, 1) := by decide +kernel
theorem d_Sim_holds_256 : decode M_Sim_holds.2.1 256 = .ok (.iconst 3, 1) := by decide +kernel
theorem d_Sim_holds_257 : decode M_Sim_holds.2.1 257 = .ok (.irem, 1) := by decide +kernel
theorem d_Sim_holds_258 : decode M_Sim_holds.2.1 258 = .ok (.if_icmp .eq 7, 3) := by decide +kernel
theorem d_Sim_holds_261 : decode M_Sim_holds.2.1 261 = .ok (.iconst 1, 1) := by decide +kernel
theorem d_Sim_holds_262 : decode M_Sim_holds.2.1 262 = .ok (.goto 4, 3) := by decide +kernel
theorem d_Sim_holds_265 : decode M_Sim_holds.2.1 265 = .ok (.iconst 0, 1) := by decide +kernel
theorem d_Sim_holds_266 : decode M_Sim_holds.2.1 266 = .ok (.ireturn, 1) := by decide +kernel
theorem d_Sim_holds_267 : decode M_Sim_holds.2.1 267 = .ok (.iconst 1, 1) := by decide +kernel
theorem d_Sim_holds_268 : decode M_Sim_holds.2.1 268 = .ok (.ireturn, 1) := by decide +kernel
def s_Sim_holds (A : AD) (Y : SM) (r : Nat) : Int32 := (if ((sm_v Y 5 r) 5) = (-1) then 1 else (if ((sm_v Y 5 r) 5) = 0 then (if (nI ((sm_dy Y) % 8)) ≤ ((sm_v Y 5 r) 6) then 0 else 1) else (if ((sm_v Y 5 r) 5) = 1 then (if (3 * ((sm_v Y 5 r) 6)) ≤ ((sm_v Y 4 ((sm_v Y 5 r) 9).toNatClampNeg) 1) then 0 else 1) else (if ((sm_v Y 5 r) 5) = 2 then (if ((sm_v Y 1 ((sm_v Y 5 r) 7).toNatClampNeg) 3) = 1 then 1 else 0) else (if ((sm_v Y 5 r) 5) = 3 then (if ((sm_v Y 1 ((sm_v Y 5 r) 7).toNatClampNeg) 3) = 0 then 1 else (if ((sm_v Y 1 ((sm_v Y 5 r) 7).toNatClampNeg) 2) ≤ (9 * ((sm_v Y 5 r) 6)) then 0 else 1)) else (if ((sm_v Y 5 r) 5) = 4 then (if (s_Sim_isKnown Y ((sm_v Y 5 r) 8).toNatClampNeg) = 0 then 0 else (if ((sm_v Y 2 ((sm_v Y 5 r) 8).toNatClampNeg) 1) < (6 * ((sm_v Y 5 r) 6)) then 0 else 1)) else (if ((sm_v Y 5 r) 5) = 5 then (if (s_Sim_isKnown Y ((sm_v Y 5 r) 8).toNatClampNeg) = 0 then (if (nI (((sm_dy Y) % 8) % 3)) = 0 then 1 else 0) else 0) else (if ((sm_v Y 5 r) 5) = 6 then (if ((sm_v Y 4 ((sm_v Y 5 r) 9).toNatClampNeg) 4) = 1 then (if ((sm_wa Y) ((sm_dy Y) % 8)) < (2 * ((sm_v Y 5 r) 6)) then 0 else 1) else (if ((sm_v Y 5 r) 6) ≤ 3 then 0 else (if ((sm_wa Y) ((sm_dy Y) % 8)) < (2 * ((sm_v Y 5 r) 6)) then 0 else 1))) else (if ((sm_v Y 5 r) 5) = 7 then (if ((sm_v Y 4 ((sm_v Y 5 r) 9).toNatClampNeg) 2) = (((sm_v Y 5 r) 6) - ((sm_v Y 5 r) 6) / 3 * 3) then 0 else 1) else 1)))))))))
set_option maxRecDepth 100000 in
set_option maxHeartbeats 4000000 in
theorem c_Sim_holds {Γ : G9} {h : AH} {z : Nat} {A : AD} {Y : SM} {r : Nat} (br : r < cn A 5) (hA : AOk A) (hdy : sm_dy Y < 1000000) (ho : OrdOk A (sm_v Y 5 r)) : CallR Γ M_Sim_holds 1 [.ref (ad A 6 0), .ref (ad A 5 r)] (smC Γ A h Y) z (some (.int (s_Sim_holds A Y r))) (smC Γ A h Y) := by
  refine Call.of_go (L := [some (.ref (ad A 6 0)), some (.ref (ad A 5 r)), none, none, none]) (by decide +kernel) rfl (by exact Nat.le_of_ble_eq_true rfl) ?_
  unfold s_Sim_holds
  refine Go.aload_1 d_Sim_holds_0 rfl ?_
  refine Go.bipush (v := 6) d_Sim_holds_1 rfl (by decide) ?_
  refine Go.iaload d_Sim_holds_3 rfl (sm_row hA (by decide) br) (okI_in (by decide)) ?_
  rw [show (6 : Int32).toNatClampNeg = 6 from by decide]
  refine Go.istore_2 d_Sim_holds_4 rfl (by rfl) ?_
  refine Go.aload_0 d_Sim_holds_5 rfl ?_
  refine Go.getfield d_Sim_holds_6 rfl f_Sim_27 (sm_obj hA) (by rfl) ?_
  refine Go.aload_1 d_Sim_holds_9 rfl ?_
  refine Go.bipush (v := 9) d_Sim_holds_10 rfl (by decide) ?_
  refine Go.iaload d_Sim_holds_12 rfl (sm_row hA (by decide) br) (okI_in (by decide)) ?_
  rw [show (9 : Int32).toNatClampNeg = 9 from by decide]
  refine Go.aaldA d_Sim_holds_13 rfl (sm_out hA (by decide)) (okI_in ho.o9) ?_
  refine Go.astore_3 d_Sim_holds_14 rfl (by rfl) ?_
  refine Go.aload_0 d_Sim_holds_15 rfl ?_
  refine Go.getfield d_Sim_holds_16 rfl f_Sim_18 (sm_obj hA) (by rfl) ?_
  refine Go.aload_1 d_Sim_holds_19 rfl ?_
  refine Go.bipush (v := 7) d_Sim_holds_20 rfl (by decide) ?_
  refine Go.iaload d_Sim_holds_22 rfl (sm_row hA (by decide) br) (okI_in (by decide)) ?_
  rw [show (7 : Int32).toNatClampNeg = 7 from by decide]
  refine Go.aaldA d_Sim_holds_23 rfl (sm_out hA (by decide)) (okI_in ho.o7) ?_
  refine Go.astore_4 d_Sim_holds_24 rfl (by rfl) ?_
  refine Go.aload_1 d_Sim_holds_26 rfl ?_
  refine Go.iconst (v := 5) d_Sim_holds_27 rfl (by decide) ?_
  refine Go.iaload d_Sim_holds_28 rfl (sm_row hA (by decide) br) (okI_in (by decide)) ?_
  rw [show (5 : Int32).toNatClampNeg = 5 from by decide]
  by_cases w29_1 : ((sm_v Y 5 r) 5) = (-1)
  · refine Go.tsw (t := 80) d_Sim_holds_29 (by rw [w29_1]; rfl) ?_
    refine Go.iconst (v := 1) d_Sim_holds_80 rfl (by decide) ?_
    rw [if_pos w29_1]
    exact Go.iret d_Sim_holds_81 rfl rfl ⟨rfl, rfl, rfl⟩
  by_cases w29_2 : ((sm_v Y 5 r) 5) = 0
  · refine Go.tsw (t := 82) d_Sim_holds_29 (by rw [w29_2]; rfl) ?_
    refine Go.aload_0 d_Sim_holds_82 rfl ?_
    refine Go.getfield d_Sim_holds_83 rfl f_Sim_34 (sm_obj hA) (by rfl) ?_
    refine Go.bipush (v := 8) d_Sim_holds_86 rfl (by decide) ?_
    refine Go.irem d_Sim_holds_88 rfl (by decide) ?_
    rw [show nI (sm_dy Y) - nI (sm_dy Y) / 8 * 8 = nI ((sm_dy Y) % 8) from nI_remm (m := 8) (Nat.lt_trans hdy (by decide)) (by decide) (by decide) rfl]
    refine Go.iload_2 d_Sim_holds_89 rfl ?_
    refine Go.icmp_le (t := 97) d_Sim_holds_90 (by decide) rfl (fun c90_3 => ?_) (fun c90_3 => ?_)
    · refine Go.iconst (v := 0) d_Sim_holds_97 rfl (by decide) ?_
      rw [if_neg w29_1, if_pos w29_2, if_pos c90_3]
      exact Go.iret d_Sim_holds_98 rfl rfl ⟨rfl, rfl, rfl⟩
    · refine Go.iconst (v := 1) d_Sim_holds_93 rfl (by decide) ?_
      refine Go.goto (t := 98) d_Sim_holds_94 (by decide) ?_
      rw [if_neg w29_1, if_pos w29_2, if_neg c90_3]
      exact Go.iret d_Sim_holds_98 rfl rfl ⟨rfl, rfl, rfl⟩
  by_cases w29_4 : ((sm_v Y 5 r) 5) = 1
  · refine Go.tsw (t := 99) d_Sim_holds_29 (by rw [w29_4]; rfl) ?_
    refine Go.aload_3 d_Sim_holds_99 rfl ?_
    refine Go.iconst (v := 1) d_Sim_holds_100 rfl (by decide) ?_
    refine Go.iaload d_Sim_holds_101 rfl (sm_row hA (by decide) (okI_lt ho.o9)) (okI_in (by decide)) ?_
    rw [show (1 : Int32).toNatClampNeg = 1 from by decide]
    refine Go.iconst (v := 3) d_Sim_holds_102 rfl (by decide) ?_
    refine Go.iload_2 d_Sim_holds_103 rfl ?_
    refine Go.imul d_Sim_holds_104 rfl ?_
    refine Go.icmp_ge (t := 112) d_Sim_holds_105 (by decide) rfl (fun c105_5 => ?_) (fun c105_5 => ?_)
    · refine Go.iconst (v := 0) d_Sim_holds_112 rfl (by decide) ?_
      rw [if_neg w29_1, if_neg w29_2, if_pos w29_4, if_pos c105_5]
      exact Go.iret d_Sim_holds_113 rfl rfl ⟨rfl, rfl, rfl⟩
    · refine Go.iconst (v := 1) d_Sim_holds_108 rfl (by decide) ?_
      refine Go.goto (t := 113) d_Sim_holds_109 (by decide) ?_
      rw [if_neg w29_1, if_neg w29_2, if_pos w29_4, if_neg c105_5]
      exact Go.iret d_Sim_holds_113 rfl rfl ⟨rfl, rfl, rfl⟩
  by_cases w29_6 : ((sm_v Y 5 r) 5) = 2
  · refine Go.tsw (t := 114) d_Sim_holds_29 (by rw [w29_6]; rfl) ?_
    refine Go.aload_4 d_Sim_holds_114 rfl ?_
    refine Go.iconst (v := 3) d_Sim_holds_116 rfl (by decide) ?_
    refine Go.iaload d_Sim_holds_117 rfl (sm_row hA (by decide) (okI_lt ho.o7)) (okI_in (by decide)) ?_
    rw [show (3 : Int32).toNatClampNeg = 3 from by decide]
    refine Go.iconst (v := 1) d_Sim_holds_118 rfl (by decide) ?_
    refine Go.icmp_ne (t := 126) d_Sim_holds_119 (by decide) rfl (fun c119_7 => ?_) (fun c119_7 => ?_)
    · refine Go.iconst (v := 0) d_Sim_holds_126 rfl (by decide) ?_
      rw [if_neg w29_1, if_neg w29_2, if_neg w29_4, if_pos w29_6, if_neg c119_7]
      exact Go.iret d_Sim_holds_127 rfl rfl ⟨rfl, rfl, rfl⟩
    · refine Go.iconst (v := 1) d_Sim_holds_122 rfl (by decide) ?_
      refine Go.goto (t := 127) d_Sim_holds_123 (by decide) ?_
      rw [if_neg w29_1, if_neg w29_2, if_neg w29_4, if_pos w29_6, if_pos c119_7]
      exact Go.iret d_Sim_holds_127 rfl rfl ⟨rfl, rfl, rfl⟩
  by_cases w29_8 : ((sm_v Y 5 r) 5) = 3
  · refine Go.tsw (t := 128) d_Sim_holds_29 (by rw [w29_8]; rfl) ?_
    refine Go.aload_4 d_Sim_holds_128 rfl ?_
    refine Go.iconst (v := 3) d_Sim_holds_130 rfl (by decide) ?_
    refine Go.iaload d_Sim_holds_131 rfl (sm_row hA (by decide) (okI_lt ho.o7)) (okI_in (by decide)) ?_
    rw [show (3 : Int32).toNatClampNeg = 3 from by decide]
    refine Go.if_eq (t := 146) d_Sim_holds_132 (by decide) rfl (fun c132_9 => ?_) (fun c132_9 => ?_)
    · refine Go.iconst (v := 1) d_Sim_holds_146 rfl (by decide) ?_
      refine Go.goto (t := 151) d_Sim_holds_147 (by decide) ?_
      rw [if_neg w29_1, if_neg w29_2, if_neg w29_4, if_neg w29_6, if_pos w29_8, if_pos c132_9]
      exact Go.iret d_Sim_holds_151 rfl rfl ⟨rfl, rfl, rfl⟩
    · refine Go.aload_4 d_Sim_holds_135 rfl ?_
      refine Go.iconst (v := 2) d_Sim_holds_137 rfl (by decide) ?_
      refine Go.iaload d_Sim_holds_138 rfl (sm_row hA (by decide) (okI_lt ho.o7)) (okI_in (by decide)) ?_
      rw [show (2 : Int32).toNatClampNeg = 2 from by decide]
      refine Go.bipush (v := 9) d_Sim_holds_139 rfl (by decide) ?_
      refine Go.iload_2 d_Sim_holds_141 rfl ?_
      refine Go.imul d_Sim_holds_142 rfl ?_
      refine Go.icmp_le (t := 150) d_Sim_holds_143 (by decide) rfl (fun c143_10 => ?_) (fun c143_10 => ?_)
      · refine Go.iconst (v := 0) d_Sim_holds_150 rfl (by decide) ?_
        rw [if_neg w29_1, if_neg w29_2, if_neg w29_4, if_neg w29_6, if_pos w29_8, if_neg c132_9, if_pos c143_10]
        exact Go.iret d_Sim_holds_151 rfl rfl ⟨rfl, rfl, rfl⟩
      · refine Go.iconst (v := 1) d_Sim_holds_146 rfl (by decide) ?_
        refine Go.goto (t := 151) d_Sim_holds_147 (by decide) ?_
        rw [if_neg w29_1, if_neg w29_2, if_neg w29_4, if_neg w29_6, if_pos w29_8, if_neg c132_9, if_neg c143_10]
        exact Go.iret d_Sim_holds_151 rfl rfl ⟨rfl, rfl, rfl⟩
  by_cases w29_11 : ((sm_v Y 5 r) 5) = 4
  · refine Go.tsw (t := 152) d_Sim_holds_29 (by rw [w29_11]; rfl) ?_
    refine Go.aload_0 d_Sim_holds_152 rfl ?_
    refine Go.aload_1 d_Sim_holds_153 rfl ?_
    refine Go.bipush (v := 8) d_Sim_holds_154 rfl (by decide) ?_
    refine Go.iaload d_Sim_holds_156 rfl (sm_row hA (by decide) br) (okI_in (by decide)) ?_
    rw [show (8 : Int32).toNatClampNeg = 8 from by decide]
    refine Go.cv1r d_Sim_holds_157 rfl l_Sim_59 k_Sim_isKnown_v (sm_obj hA) rfl (c_Sim_isKnown (c := ((sm_v Y 5 r) 8).toNatClampNeg) (nI_back (okI_pos ho.o8)) (okI_lt ho.o8) hA) rfl rfl rfl ?_
    refine Go.if_eq (t := 185) d_Sim_holds_160 (by decide) rfl (fun c160_12 => ?_) (fun c160_12 => ?_)
    · refine Go.iconst (v := 0) d_Sim_holds_185 rfl (by decide) ?_
      rw [if_neg w29_1, if_neg w29_2, if_neg w29_4, if_neg w29_6, if_neg w29_8, if_pos w29_11, if_pos c160_12]
      exact Go.iret d_Sim_holds_186 rfl rfl ⟨rfl, rfl, rfl⟩
    · refine Go.aload_0 d_Sim_holds_163 rfl ?_
      refine Go.getfield d_Sim_holds_164 rfl f_Sim_21 (sm_obj hA) (by rfl) ?_
      refine Go.aload_1 d_Sim_holds_167 rfl ?_
      refine Go.bipush (v := 8) d_Sim_holds_168 rfl (by decide) ?_
      refine Go.iaload d_Sim_holds_170 rfl (sm_row hA (by decide) br) (okI_in (by decide)) ?_
      rw [show (8 : Int32).toNatClampNeg = 8 from by decide]
      refine Go.aaldA d_Sim_holds_171 rfl (sm_out hA (by decide)) (okI_in ho.o8) ?_
      refine Go.iconst (v := 1) d_Sim_holds_172 rfl (by decide) ?_
      refine Go.iaload d_Sim_holds_173 rfl (sm_row hA (by decide) (okI_lt ho.o8)) (okI_in (by decide)) ?_
      rw [show (1 : Int32).toNatClampNeg = 1 from by decide]
      refine Go.bipush (v := 6) d_Sim_holds_174 rfl (by decide) ?_
      refine Go.iload_2 d_Sim_holds_176 rfl ?_
      refine Go.imul d_Sim_holds_177 rfl ?_
      refine Go.icmp_lt (t := 185) d_Sim_holds_178 (by decide) rfl (fun c178_13 => ?_) (fun c178_13 => ?_)
      · refine Go.iconst (v := 0) d_Sim_holds_185 rfl (by decide) ?_
        rw [if_neg w29_1, if_neg w29_2, if_neg w29_4, if_neg w29_6, if_neg w29_8, if_pos w29_11, if_neg c160_12, if_pos c178_13]
        exact Go.iret d_Sim_holds_186 rfl rfl ⟨rfl, rfl, rfl⟩
      · refine Go.iconst (v := 1) d_Sim_holds_181 rfl (by decide) ?_
        refine Go.goto (t := 186) d_Sim_holds_182 (by decide) ?_
        rw [if_neg w29_1, if_neg w29_2, if_neg w29_4, if_neg w29_6, if_neg w29_8, if_pos w29_11, if_neg c160_12, if_neg c178_13]
        exact Go.iret d_Sim_holds_186 rfl rfl ⟨rfl, rfl, rfl⟩
  by_cases w29_14 : ((sm_v Y 5 r) 5) = 5
  · refine Go.tsw (t := 187) d_Sim_holds_29 (by rw [w29_14]; rfl) ?_
    refine Go.aload_0 d_Sim_holds_187 rfl ?_
    refine Go.aload_1 d_Sim_holds_188 rfl ?_
    refine Go.bipush (v := 8) d_Sim_holds_189 rfl (by decide) ?_
    refine Go.iaload d_Sim_holds_191 rfl (sm_row hA (by decide) br) (okI_in (by decide)) ?_
    rw [show (8 : Int32).toNatClampNeg = 8 from by decide]
    refine Go.cv1r d_Sim_holds_192 rfl l_Sim_59 k_Sim_isKnown_v (sm_obj hA) rfl (c_Sim_isKnown (c := ((sm_v Y 5 r) 8).toNatClampNeg) (nI_back (okI_pos ho.o8)) (okI_lt ho.o8) hA) rfl rfl rfl ?_
    refine Go.if_ne (t := 214) d_Sim_holds_195 (by decide) rfl (fun c195_15 => ?_) (fun c195_15 => ?_)
    · refine Go.iconst (v := 0) d_Sim_holds_214 rfl (by decide) ?_
      rw [if_neg w29_1, if_neg w29_2, if_neg w29_4, if_neg w29_6, if_neg w29_8, if_neg w29_11, if_pos w29_14, if_neg c195_15]
      exact Go.iret d_Sim_holds_215 rfl rfl ⟨rfl, rfl, rfl⟩
    · refine Go.aload_0 d_Sim_holds_198 rfl ?_
      refine Go.getfield d_Sim_holds_199 rfl f_Sim_34 (sm_obj hA) (by rfl) ?_
      refine Go.bipush (v := 8) d_Sim_holds_202 rfl (by decide) ?_
      refine Go.irem d_Sim_holds_204 rfl (by decide) ?_
      rw [show nI (sm_dy Y) - nI (sm_dy Y) / 8 * 8 = nI ((sm_dy Y) % 8) from nI_remm (m := 8) (Nat.lt_trans hdy (by decide)) (by decide) (by decide) rfl]
      refine Go.iconst (v := 3) d_Sim_holds_205 rfl (by decide) ?_
      refine Go.irem d_Sim_holds_206 rfl (by decide) ?_
      rw [show nI ((sm_dy Y) % 8) - nI ((sm_dy Y) % 8) / 3 * 3 = nI (((sm_dy Y) % 8) % 3) from nI_remm (m := 3) (Nat.lt_trans (Nat.mod_lt _ (by decide)) (by decide)) (by decide) (by decide) rfl]
      refine Go.if_ne (t := 214) d_Sim_holds_207 (by decide) rfl (fun c207_16 => ?_) (fun c207_16 => ?_)
      · refine Go.iconst (v := 0) d_Sim_holds_214 rfl (by decide) ?_
        rw [if_neg w29_1, if_neg w29_2, if_neg w29_4, if_neg w29_6, if_neg w29_8, if_neg w29_11, if_pos w29_14, if_pos c195_15, if_neg c207_16]
        exact Go.iret d_Sim_holds_215 rfl rfl ⟨rfl, rfl, rfl⟩
      · refine Go.iconst (v := 1) d_Sim_holds_210 rfl (by decide) ?_
        refine Go.goto (t := 215) d_Sim_holds_211 (by decide) ?_
        rw [if_neg w29_1, if_neg w29_2, if_neg w29_4, if_neg w29_6, if_neg w29_8, if_neg w29_11, if_pos w29_14, if_pos c195_15, if_pos c207_16]
        exact Go.iret d_Sim_holds_215 rfl rfl ⟨rfl, rfl, rfl⟩
  by_cases w29_17 : ((sm_v Y 5 r) 5) = 6
  · refine Go.tsw (t := 216) d_Sim_holds_29 (by rw [w29_17]; rfl) ?_
    refine Go.aload_3 d_Sim_holds_216 rfl ?_
    refine Go.iconst (v := 4) d_Sim_holds_217 rfl (by decide) ?_
    refine Go.iaload d_Sim_holds_218 rfl (sm_row hA (by decide) (okI_lt ho.o9)) (okI_in (by decide)) ?_
    rw [show (4 : Int32).toNatClampNeg = 4 from by decide]
    refine Go.iconst (v := 1) d_Sim_holds_219 rfl (by decide) ?_
    refine Go.icmp_eq (t := 228) d_Sim_holds_220 (by decide) rfl (fun c220_18 => ?_) (fun c220_18 => ?_)
    · refine Go.aload_0 d_Sim_holds_228 rfl ?_
      refine Go.getfield d_Sim_holds_229 rfl f_Sim_7 (sm_obj hA) (by rfl) ?_
      refine Go.aload_0 d_Sim_holds_232 rfl ?_
      refine Go.getfield d_Sim_holds_233 rfl f_Sim_34 (sm_obj hA) (by rfl) ?_
      refine Go.bipush (v := 8) d_Sim_holds_236 rfl (by decide) ?_
      refine Go.irem d_Sim_holds_238 rfl (by decide) ?_
      rw [show nI (sm_dy Y) - nI (sm_dy Y) / 8 * 8 = nI ((sm_dy Y) % 8) from nI_remm (m := 8) (Nat.lt_trans hdy (by decide)) (by decide) (by decide) rfl]
      refine Go.iaload d_Sim_holds_239 rfl (sm_war hA) (vp_in_nI (Nat.mod_lt _ (by decide)) (by decide)) ?_
      rw [nI_clamp (show ((sm_dy Y) % 8) < 2 ^ 31 from Nat.lt_trans (Nat.mod_lt _ (by decide)) (by decide))]
      refine Go.iconst (v := 2) d_Sim_holds_240 rfl (by decide) ?_
      refine Go.iload_2 d_Sim_holds_241 rfl ?_
      refine Go.imul d_Sim_holds_242 rfl ?_
      refine Go.icmp_lt (t := 250) d_Sim_holds_243 (by decide) rfl (fun c243_19 => ?_) (fun c243_19 => ?_)
      · refine Go.iconst (v := 0) d_Sim_holds_250 rfl (by decide) ?_
        rw [if_neg w29_1, if_neg w29_2, if_neg w29_4, if_neg w29_6, if_neg w29_8, if_neg w29_11, if_neg w29_14, if_pos w29_17, if_pos c220_18, if_pos c243_19]
        exact Go.iret d_Sim_holds_251 rfl rfl ⟨rfl, rfl, rfl⟩
      · refine Go.iconst (v := 1) d_Sim_holds_246 rfl (by decide) ?_
        refine Go.goto (t := 251) d_Sim_holds_247 (by decide) ?_
        rw [if_neg w29_1, if_neg w29_2, if_neg w29_4, if_neg w29_6, if_neg w29_8, if_neg w29_11, if_neg w29_14, if_pos w29_17, if_pos c220_18, if_neg c243_19]
        exact Go.iret d_Sim_holds_251 rfl rfl ⟨rfl, rfl, rfl⟩
    · refine Go.iload_2 d_Sim_holds_223 rfl ?_
      refine Go.iconst (v := 3) d_Sim_holds_224 rfl (by decide) ?_
      refine Go.icmp_le (t := 250) d_Sim_holds_225 (by decide) rfl (fun c225_20 => ?_) (fun c225_20 => ?_)
      · refine Go.iconst (v := 0) d_Sim_holds_250 rfl (by decide) ?_
        rw [if_neg w29_1, if_neg w29_2, if_neg w29_4, if_neg w29_6, if_neg w29_8, if_neg w29_11, if_neg w29_14, if_pos w29_17, if_neg c220_18, if_pos c225_20]
        exact Go.iret d_Sim_holds_251 rfl rfl ⟨rfl, rfl, rfl⟩
      · refine Go.aload_0 d_Sim_holds_228 rfl ?_
        refine Go.getfield d_Sim_holds_229 rfl f_Sim_7 (sm_obj hA) (by rfl) ?_
        refine Go.aload_0 d_Sim_holds_232 rfl ?_
        refine Go.getfield d_Sim_holds_233 rfl f_Sim_34 (sm_obj hA) (by rfl) ?_
        refine Go.bipush (v := 8) d_Sim_holds_236 rfl (by decide) ?_
        refine Go.irem d_Sim_holds_238 rfl (by decide) ?_
        rw [show nI (sm_dy Y) - nI (sm_dy Y) / 8 * 8 = nI ((sm_dy Y) % 8) from nI_remm (m := 8) (Nat.lt_trans hdy (by decide)) (by decide) (by decide) rfl]
        refine Go.iaload d_Sim_holds_239 rfl (sm_war hA) (vp_in_nI (Nat.mod_lt _ (by decide)) (by decide)) ?_
        rw [nI_clamp (show ((sm_dy Y) % 8) < 2 ^ 31 from Nat.lt_trans (Nat.mod_lt _ (by decide)) (by decide))]
        refine Go.iconst (v := 2) d_Sim_holds_240 rfl (by decide) ?_
        refine Go.iload_2 d_Sim_holds_241 rfl ?_
        refine Go.imul d_Sim_holds_242 rfl ?_
        refine Go.icmp_lt (t := 250) d_Sim_holds_243 (by decide) rfl (fun c243_21 => ?_) (fun c243_21 => ?_)
        · refine Go.iconst (v := 0) d_Sim_holds_250 rfl (by decide) ?_
          rw [if_neg w29_1, if_neg w29_2, if_neg w29_4, if_neg w29_6, if_neg w29_8, if_neg w29_11, if_neg w29_14, if_pos w29_17, if_neg c220_18, if_neg c225_20, if_pos c243_21]
          exact Go.iret d_Sim_holds_251 rfl rfl ⟨rfl, rfl, rfl⟩
        · refine Go.iconst (v := 1) d_Sim_holds_246 rfl (by decide) ?_
          refine Go.goto (t := 251) d_Sim_holds_247 (by decide) ?_
          rw [if_neg w29_1, if_neg w29_2, if_neg w29_4, if_neg w29_6, if_neg w29_8, if_neg w29_11, if_neg w29_14, if_pos w29_17, if_neg c220_18, if_neg c225_20, if_neg c243_21]
          exact Go.iret d_Sim_holds_251 rfl rfl ⟨rfl, rfl, rfl⟩
  by_cases w29_22 : ((sm_v Y 5 r) 5) = 7
  · refine Go.tsw (t := 252) d_Sim_holds_29 (by rw [w29_22]; rfl) ?_
    refine Go.aload_3 d_Sim_holds_252 rfl ?_
    refine Go.iconst (v := 2) d_Sim_holds_253 rfl (by decide) ?_
    refine Go.iaload d_Sim_holds_254 rfl (sm_row hA (by decide) (okI_lt ho.o9)) (okI_in (by decide)) ?_
    rw [show (2 : Int32).toNatClampNeg = 2 from by decide]
    refine Go.iload_2 d_Sim_holds_255 rfl ?_
    refine Go.iconst (v := 3) d_Sim_holds_256 rfl (by decide) ?_
    refine Go.irem d_Sim_holds_257 rfl (by decide) ?_
    refine Go.icmp_eq (t := 265) d_Sim_holds_258 (by decide) rfl (fun c258_23 => ?_) (fun c258_23 => ?_)
    · refine Go.iconst (v := 0) d_Sim_holds_265 rfl (by decide) ?_
      rw [if_neg w29_1, if_neg w29_2, if_neg w29_4, if_neg w29_6, if_neg w29_8, if_neg w29_11, if_neg w29_14, if_neg w29_17, if_pos w29_22, if_pos c258_23]
      exact Go.iret d_Sim_holds_266 rfl rfl ⟨rfl, rfl, rfl⟩
    · refine Go.iconst (v := 1) d_Sim_holds_261 rfl (by decide) ?_
      refine Go.goto (t := 266) d_Sim_holds_262 (by decide) ?_
      rw [if_neg w29_1, if_neg w29_2, if_neg w29_4, if_neg w29_6, if_neg w29_8, if_neg w29_11, if_neg w29_14, if_neg w29_17, if_pos w29_22, if_neg c258_23]
      exact Go.iret d_Sim_holds_266 rfl rfl ⟨rfl, rfl, rfl⟩
  refine Go.tsw (t := 267) d_Sim_holds_29 (tsw_out fun n hn => by
      match n, hn with
      | 0, _ => exact fun w => w29_1 (i32_eq w)
      | 1, _ => exact fun w => w29_2 (i32_eq w)
      | 2, _ => exact fun w => w29_4 (i32_eq w)
      | 3, _ => exact fun w => w29_6 (i32_eq w)
      | 4, _ => exact fun w => w29_8 (i32_eq w)
      | 5, _ => exact fun w => w29_11 (i32_eq w)
      | 6, _ => exact fun w => w29_14 (i32_eq w)
      | 7, _ => exact fun w => w29_17 (i32_eq w)
      | 8, _ => exact fun w => w29_22 (i32_eq w)
      | _ + 9, w => exact absurd w (by simp)) ?_
  refine Go.iconst (v := 1) d_Sim_holds_267 rfl (by decide) ?_
  rw [if_neg w29_1, if_neg w29_2, if_neg w29_4, if_neg w29_6, if_neg w29_8, if_neg w29_11, if_neg w29_14, if_neg w29_17, if_neg w29_22]
  exact Go.iret d_Sim_holds_268 rfl rfl ⟨rfl, rfl, rfl⟩
set_option maxRecDepth 100000 in
set_option maxHeartbeats 4000000 in
theorem s_Sim_holds_01 (A : AD) (Y : SM) (r : Nat) : (s_Sim_holds A Y r) = 0 ∨ (s_Sim_holds A Y r) = 1 := by
  unfold s_Sim_holds
  (repeat' (first | exact Or.inl rfl | exact Or.inr rfl | refine ite01 ?_ ?_))
theorem d_Sim_weather_145 : decode M_Sim_weather.2.1 145 = .ok (.iload 8, 2) := by decide +kernel
theorem d_Sim_weather_147 : decode M_Sim_weather.2.1 147 = .ok (.iload 7, 2) := by decide +kernel
theorem d_Sim_weather_149 : decode M_Sim_weather.2.1 149 = .ok (.if_icmp .ge 67, 3) := by decide +kernel
theorem d_Sim_weather_152 : decode M_Sim_weather.2.1 152 = .ok (.aload 6, 2) := by decide +kernel
theorem d_Sim_weather_154 : decode M_Sim_weather.2.1 154 = .ok (.iload 8, 2) := by decide +kernel
theorem d_Sim_weather_156 : decode M_Sim_weather.2.1 156 = .ok (.aaload, 1) := by decide +kernel
theorem d_Sim_weather_157 : decode M_Sim_weather.2.1 157 = .ok (.astore 9, 2) := by decide +kernel
theorem d_Sim_weather_159 : decode M_Sim_weather.2.1 159 = .ok (.aload 9, 2) := by decide +kernel
theorem d_Sim_weather_161 : decode M_Sim_weather.2.1 161 = .ok (.iconst 0, 1) := by decide +kernel
theorem d_Sim_weather_162 : decode M_Sim_weather.2.1 162 = .ok (.iaload, 1) := by decide +kernel
theorem d_Sim_weather_163 : decode M_Sim_weather.2.1 163 = .ok (.iload_n 1, 1) := by decide +kernel
theorem d_Sim_weather_164 : decode M_Sim_weather.2.1 164 = .ok (.if_icmp .ne 46, 3) := by decide +kernel
theorem d_Sim_weather_167 : decode M_Sim_weather.2.1 167 = .ok (.aload 9, 2) := by decide +kernel
theorem d_Sim_weather_169 : decode M_Sim_weather.2.1 169 = .ok (.iconst 3, 1) := by decide +kernel
theorem d_Sim_weather_170 : decode M_Sim_weather.2.1 170 = .ok (.iaload, 1) := by decide +kernel
theorem d_Sim_weather_171 : decode M_Sim_weather.2.1 171 = .ok (.ifCond .ne 6, 3) := by decide +kernel
theorem d_Sim_weather_174 : decode M_Sim_weather.2.1 174 = .ok (.goto 36, 3) := by decide +kernel
theorem d_Sim_weather_177 : decode M_Sim_weather.2.1 177 = .ok (.aload 9, 2) := by decide +kernel
theorem d_Sim_weather_179 : decode M_Sim_weather.2.1 179 = .ok (.iconst 2, 1) := by decide +kernel
theorem d_Sim_weather_180 : decode M_Sim_weather.2.1 180 = .ok (.iconst 0, 1) := by decide +kernel
theorem d_Sim_weather_181 : decode M_Sim_weather.2.1 181 = .ok (.aload 9, 2) := by decide +kernel
theorem d_Sim_weather_183 : decode M_Sim_weather.2.1 183 = .ok (.iconst 2, 1) := by decide +kernel
theorem d_Sim_weather_184 : decode M_Sim_weather.2.1 184 = .ok (.iaload, 1) := by decide +kernel
theorem d_Sim_weather_185 : decode M_Sim_weather.2.1 185 = .ok (.iload_n 3, 1) := by decide +kernel
theorem d_Sim_weather_186 : decode M_Sim_weather.2.1 186 = .ok (.iadd, 1) := by decide +kernel
theorem d_Sim_weather_187 : decode M_Sim_weather.2.1 187 = .ok (.iload 4, 2) := by decide +kernel
theorem d_Sim_weather_189 : decode M_Sim_weather.2.1 189 = .ok (.isub, 1) := by decide +kernel
theorem d_Sim_weather_190 : decode M_Sim_weather.2.1 190 = .ok (.invokestatic 73, 3) := by decide +kernel
theorem d_Sim_weather_193 : decode M_Sim_weather.2.1 193 = .ok (.iastore, 1) := by decide +kernel
theorem d_Sim_weather_194 : decode M_Sim_weather.2.1 194 = .ok (.aload 9, 2) := by decide +kernel
theorem d_Sim_weather_196 : decode M_Sim_weather.2.1 196 = .ok (.iconst 2, 1) := by decide +kernel
theorem d_Sim_weather_197 : decode M_Sim_weather.2.1 197 = .ok (.iaload, 1) := by decide +kernel
theorem d_Sim_weather_198 : decode M_Sim_weather.2.1 198 = .ok (.aload 9, 2) := by decide +kernel
theorem d_Sim_weather_200 : decode M_Sim_weather.2.1 200 = .ok (.iconst 1, 1) := by decide +kernel
theorem d_Sim_weather_201 : decode M_Sim_weather.2.1 201 = .ok (.iaload, 1) := by decide +kernel
theorem d_Sim_weather_202 : decode M_Sim_weather.2.1 202 = .ok (.if_icmp .lt 8, 3) := by decide +kernel
theorem d_Sim_weather_205 : decode M_Sim_weather.2.1 205 = .ok (.aload 9, 2) := by decide +kernel
theorem d_Sim_weather_207 : decode M_Sim_weather.2.1 207 = .ok (.iconst 3, 1) := by decide +kernel
theorem d_Sim_weather_208 : decode M_Sim_weather.2.1 208 = .ok (.iconst 0, 1) := by decide +kernel
theorem d_Sim_weather_209 : decode M_Sim_weather.2.1 209 = .ok (.iastore, 1) := by decide +kernel
theorem d_Sim_weather_210 : decode M_Sim_weather.2.1 210 = .ok (.iinc 8 1, 3) := by decide +kernel
theorem d_Sim_weather_213 : decode M_Sim_weather.2.1 213 = .ok (.goto (-68), 3) := by decide +kernel
def l_Sim_weather_145 (A : AD) (b : Nat) (ml : Int32) (sn : Int32) : Nat → Nat → SM → SM
  | 0, _, Y => Y
  | k + 1, i, Y => (if ((sm_v Y 1 i) 0) = (nI b) then (if ((sm_v Y 1 i) 3) = 0 then (l_Sim_weather_145 A b ml sn k (i + 1) Y) else (if ((sm_v (sm_set Y 1 i 2 (iMax 0 ((((sm_v Y 1 i) 2) + ml) - sn))) 1 i) 2) < ((sm_v (sm_set Y 1 i 2 (iMax 0 ((((sm_v Y 1 i) 2) + ml) - sn))) 1 i) 1) then (l_Sim_weather_145 A b ml sn k (i + 1) (sm_set Y 1 i 2 (iMax 0 ((((sm_v Y 1 i) 2) + ml) - sn)))) else (l_Sim_weather_145 A b ml sn k (i + 1) (sm_set (sm_set Y 1 i 2 (iMax 0 ((((sm_v Y 1 i) 2) + ml) - sn))) 1 i 3 0)))) else (l_Sim_weather_145 A b ml sn k (i + 1) Y))
set_option maxRecDepth 100000 in
set_option maxHeartbeats 4000000 in
theorem l_Sim_weather_145_go {Γ : G9} {h : AH} {z : Nat} {n : Nat} {Q : QT} {X : XT} {A : AD} {b : Nat} {ml : Int32} {sn : Int32} (bb : b < cn A 0) (hA : AOk A) (hn20 : n ≤ 20) : ∀ (k i : Nat) (Y : SM), i + k = n → cn A 1 = n → Go Γ M_Sim_weather 1 0 0 216 [some (.ref (ad A 6 0)), some (.int (nI b)), none, some (.int ml), some (.int sn), none, some (.ref (ad A 8 1)), some (.int (nI (cn A 1))), some (.int (nI (i + k))), none] [] (smC Γ A h (l_Sim_weather_145 A b ml sn k i Y)) z Q X → Go Γ M_Sim_weather 1 0 0 145 [some (.ref (ad A 6 0)), some (.int (nI b)), none, some (.int ml), some (.int sn), none, some (.ref (ad A 8 1)), some (.int (nI (cn A 1))), some (.int (nI i)), none] [] (smC Γ A h Y) z Q X := by
  intro k
  induction k with
  | zero =>
    intro i Y hi hn hk
    refine Go.iload_8 d_Sim_weather_145 rfl ?_
    refine Go.iload_7 d_Sim_weather_147 rfl ?_
    refine Go.icmp_ge (t := 216) d_Sim_weather_149 (by decide) rfl (fun c149_1 => ?_) (fun c149_1 => ?_)
    · exact hk
    · exact absurd (nI_le (by omega) (by omega)) c149_1
  | succ k ih =>
    intro i Y hi hn hk
    unfold l_Sim_weather_145 at hk
    rw [show i + (k + 1) = i + 1 + k by omega] at hk
    refine Go.iload_8 d_Sim_weather_145 rfl ?_
    refine Go.iload_7 d_Sim_weather_147 rfl ?_
    refine Go.icmp_ge (t := 216) d_Sim_weather_149 (by decide) rfl (fun c149_1 => ?_) (fun c149_1 => ?_)
    · exact absurd c149_1 (nI_ge (by omega) (by omega))
    · refine Go.aload_6 d_Sim_weather_152 rfl ?_
      refine Go.iload_8 d_Sim_weather_154 rfl ?_
      refine Go.aaldA d_Sim_weather_156 rfl (sm_out hA (by decide)) (vp_in_nI (by omega) (Nat.lt_of_le_of_lt (hA.2.2 1 (by decide)) (by decide))) ?_
      rw [nI_clamp (show i < 2 ^ 31 from Nat.lt_trans (Nat.lt_of_lt_of_le (show i < cn A 1 by first | assumption | omega) (hA.2.2 1 (by decide))) (by decide))]
      refine Go.astore_9 d_Sim_weather_157 rfl (by rfl) ?_
      refine Go.aload_9 d_Sim_weather_159 rfl ?_
      refine Go.iconst (v := 0) d_Sim_weather_161 rfl (by decide) ?_
      refine Go.iaload d_Sim_weather_162 rfl (sm_row hA (by decide) (by omega)) (okI_in (by decide)) ?_
      rw [show (0 : Int32).toNatClampNeg = 0 from by decide]
      refine Go.iload_1 d_Sim_weather_163 rfl ?_
      refine Go.icmp_ne (t := 210) d_Sim_weather_164 (by decide) rfl (fun c164_2 => ?_) (fun c164_2 => ?_)
      · refine Go.iinc_8 d_Sim_weather_210 rfl (by rfl) (nI_inc _) ?_
        refine Go.goto (t := 145) d_Sim_weather_213 (by decide) ?_
        rw [if_neg c164_2] at hk
        refine Go.fgt [some (.ref (ad A 6 0)), some (.int (nI b)), none, some (.int ml), some (.int sn), none, some (.ref (ad A 8 1)), some (.int (nI (cn A 1))), some (.int (nI (i + 1))), none] (by repeat' (first | exact trivial | refine ⟨rfl, ?_⟩)) ?_
        exact ih (i + 1) _ (by omega) (by first | exact hn | (simp only []; exact hn)) hk
      · refine Go.aload_9 d_Sim_weather_167 rfl ?_
        refine Go.iconst (v := 3) d_Sim_weather_169 rfl (by decide) ?_
        refine Go.iaload d_Sim_weather_170 rfl (sm_row hA (by decide) (by omega)) (okI_in (by decide)) ?_
        rw [show (3 : Int32).toNatClampNeg = 3 from by decide]
        refine Go.if_ne (t := 177) d_Sim_weather_171 (by decide) rfl (fun c171_3 => ?_) (fun c171_3 => ?_)
        · refine Go.aload_9 d_Sim_weather_177 rfl ?_
          refine Go.iconst (v := 2) d_Sim_weather_179 rfl (by decide) ?_
          refine Go.iconst (v := 0) d_Sim_weather_180 rfl (by decide) ?_
          refine Go.aload_9 d_Sim_weather_181 rfl ?_
          refine Go.iconst (v := 2) d_Sim_weather_183 rfl (by decide) ?_
          refine Go.iaload d_Sim_weather_184 rfl (sm_row hA (by decide) (by omega)) (okI_in (by decide)) ?_
          rw [show (2 : Int32).toNatClampNeg = 2 from by decide]
          refine Go.iload_3 d_Sim_weather_185 rfl ?_
          refine Go.iadd d_Sim_weather_186 rfl ?_
          refine Go.iload_4 d_Sim_weather_187 rfl ?_
          refine Go.isub d_Sim_weather_189 rfl ?_
          refine Go.imax d_Sim_weather_190 rfl l_Sim_73 (by decide) rfl ?_
          refine Go.iastore d_Sim_weather_193 rfl (sm_row hA (by decide) (by omega)) (okI_in (by decide)) ?_
          rw [show (2 : Int32).toNatClampNeg = 2 from by decide]
          refine Go.heq (sm_setup hA (by decide) (by omega)) ?_
          refine Go.aload_9 d_Sim_weather_194 rfl ?_
          refine Go.iconst (v := 2) d_Sim_weather_196 rfl (by decide) ?_
          refine Go.iaload d_Sim_weather_197 rfl (sm_row hA (by decide) (by omega)) (okI_in (by decide)) ?_
          rw [show (2 : Int32).toNatClampNeg = 2 from by decide]
          refine Go.aload_9 d_Sim_weather_198 rfl ?_
          refine Go.iconst (v := 1) d_Sim_weather_200 rfl (by decide) ?_
          refine Go.iaload d_Sim_weather_201 rfl (sm_row hA (by decide) (by omega)) (okI_in (by decide)) ?_
          rw [show (1 : Int32).toNatClampNeg = 1 from by decide]
          refine Go.icmp_lt (t := 210) d_Sim_weather_202 (by decide) rfl (fun c202_4 => ?_) (fun c202_4 => ?_)
          · refine Go.iinc_8 d_Sim_weather_210 rfl (by rfl) (nI_inc _) ?_
            refine Go.goto (t := 145) d_Sim_weather_213 (by decide) ?_
            rw [if_pos c164_2, if_neg c171_3, if_pos c202_4] at hk
            refine Go.fgt [some (.ref (ad A 6 0)), some (.int (nI b)), none, some (.int ml), some (.int sn), none, some (.ref (ad A 8 1)), some (.int (nI (cn A 1))), some (.int (nI (i + 1))), none] (by repeat' (first | exact trivial | refine ⟨rfl, ?_⟩)) ?_
            exact ih (i + 1) _ (by omega) (by first | exact hn | (simp only []; exact hn)) hk
          · refine Go.aload_9 d_Sim_weather_205 rfl ?_
            refine Go.iconst (v := 3) d_Sim_weather_207 rfl (by decide) ?_
            refine Go.iconst (v := 0) d_Sim_weather_208 rfl (by decide) ?_
            refine Go.iastore d_Sim_weather_209 rfl (sm_row hA (by decide) (by omega)) (okI_in (by decide)) ?_
            rw [show (3 : Int32).toNatClampNeg = 3 from by decide]
            refine Go.heq (sm_setup hA (by decide) (by omega)) ?_
            refine Go.iinc_8 d_Sim_weather_210 rfl (by rfl) (nI_inc _) ?_
            refine Go.goto (t := 145) d_Sim_weather_213 (by decide) ?_
            rw [if_pos c164_2, if_neg c171_3, if_neg c202_4] at hk
            refine Go.fgt [some (.ref (ad A 6 0)), some (.int (nI b)), none, some (.int ml), some (.int sn), none, some (.ref (ad A 8 1)), some (.int (nI (cn A 1))), some (.int (nI (i + 1))), none] (by repeat' (first | exact trivial | refine ⟨rfl, ?_⟩)) ?_
            exact ih (i + 1) _ (by omega) (by first | exact hn | (simp only []; exact hn)) hk
        · refine Go.goto (t := 210) d_Sim_weather_174 (by decide) ?_
          refine Go.iinc_8 d_Sim_weather_210 rfl (by rfl) (nI_inc _) ?_
          refine Go.goto (t := 145) d_Sim_weather_213 (by decide) ?_
          rw [if_pos c164_2, if_pos c171_3] at hk
          refine Go.fgt [some (.ref (ad A 6 0)), some (.int (nI b)), none, some (.int ml), some (.int sn), none, some (.ref (ad A 8 1)), some (.int (nI (cn A 1))), some (.int (nI (i + 1))), none] (by repeat' (first | exact trivial | refine ⟨rfl, ?_⟩)) ?_
          exact ih (i + 1) _ (by omega) (by first | exact hn | (simp only []; exact hn)) hk
set_option maxRecDepth 100000 in
set_option maxHeartbeats 4000000 in
theorem sm_dy_l_Sim_weather_145 {A : AD} {b : Nat} {ml : Int32} {sn : Int32} : ∀ (k i : Nat) (Y : SM), sm_dy (l_Sim_weather_145 A b ml sn k i Y) = sm_dy Y := by
  intro k
  induction k with
  | zero => intros; rfl
  | succ k ih =>
    intros
    unfold l_Sim_weather_145
    (repeat' split) <;> (try simp only [ih, sm_dy_set, sm_dy_fl, sm_dy_ca, sm_dy_rd, sm_dy_Sim_probes, sm_dy_l_Sim_fills_29, sm_dy_Sim_fills, sm_dy_l_Sim_drills_25, sm_dy_Sim_drills])
set_option maxRecDepth 100000 in
set_option maxHeartbeats 4000000 in
theorem v5_l_Sim_weather_145 {A : AD} {b : Nat} {ml : Int32} {sn : Int32} : ∀ (k i : Nat) (Y : SM), v5 (l_Sim_weather_145 A b ml sn k i Y) = v5 Y := by
  intro k
  induction k with
  | zero => intros; rfl
  | succ k ih =>
    intros
    unfold l_Sim_weather_145
    (repeat' split) <;> (try simp only [ih, v5_set0, v5_set1, v5_set2, v5_set3, v5_set4, v5_fl, v5_ca, v5_rd, v5_Sim_probes, v5_l_Sim_fills_29, v5_Sim_fills, v5_l_Sim_drills_25, v5_Sim_drills])
theorem d_Sim_weather_230 : decode M_Sim_weather.2.1 230 = .ok (.iload 8, 2) := by decide +kernel
theorem d_Sim_weather_232 : decode M_Sim_weather.2.1 232 = .ok (.iload 7, 2) := by decide +kernel
theorem d_Sim_weather_234 : decode M_Sim_weather.2.1 234 = .ok (.if_icmp .ge 48, 3) := by decide +kernel
theorem d_Sim_weather_237 : decode M_Sim_weather.2.1 237 = .ok (.aload 6, 2) := by decide +kernel
theorem d_Sim_weather_239 : decode M_Sim_weather.2.1 239 = .ok (.iload 8, 2) := by decide +kernel
theorem d_Sim_weather_241 : decode M_Sim_weather.2.1 241 = .ok (.aaload, 1) := by decide +kernel
theorem d_Sim_weather_242 : decode M_Sim_weather.2.1 242 = .ok (.astore 9, 2) := by decide +kernel
theorem d_Sim_weather_244 : decode M_Sim_weather.2.1 244 = .ok (.aload 9, 2) := by decide +kernel
theorem d_Sim_weather_246 : decode M_Sim_weather.2.1 246 = .ok (.iconst 0, 1) := by decide +kernel
theorem d_Sim_weather_247 : decode M_Sim_weather.2.1 247 = .ok (.iaload, 1) := by decide +kernel
theorem d_Sim_weather_248 : decode M_Sim_weather.2.1 248 = .ok (.iload_n 1, 1) := by decide +kernel
theorem d_Sim_weather_249 : decode M_Sim_weather.2.1 249 = .ok (.if_icmp .ne 27, 3) := by decide +kernel
theorem d_Sim_weather_252 : decode M_Sim_weather.2.1 252 = .ok (.aload 9, 2) := by decide +kernel
theorem d_Sim_weather_254 : decode M_Sim_weather.2.1 254 = .ok (.iconst 1, 1) := by decide +kernel
theorem d_Sim_weather_255 : decode M_Sim_weather.2.1 255 = .ok (.iconst 0, 1) := by decide +kernel
theorem d_Sim_weather_256 : decode M_Sim_weather.2.1 256 = .ok (.bipush 99, 2) := by decide +kernel
theorem d_Sim_weather_258 : decode M_Sim_weather.2.1 258 = .ok (.aload 9, 2) := by decide +kernel
theorem d_Sim_weather_260 : decode M_Sim_weather.2.1 260 = .ok (.iconst 1, 1) := by decide +kernel
theorem d_Sim_weather_261 : decode M_Sim_weather.2.1 261 = .ok (.iaload, 1) := by decide +kernel
theorem d_Sim_weather_262 : decode M_Sim_weather.2.1 262 = .ok (.iload 4, 2) := by decide +kernel
theorem d_Sim_weather_264 : decode M_Sim_weather.2.1 264 = .ok (.iadd, 1) := by decide +kernel
theorem d_Sim_weather_265 : decode M_Sim_weather.2.1 265 = .ok (.iload_n 3, 1) := by decide +kernel
theorem d_Sim_weather_266 : decode M_Sim_weather.2.1 266 = .ok (.iconst 3, 1) := by decide +kernel
theorem d_Sim_weather_267 : decode M_Sim_weather.2.1 267 = .ok (.idiv, 1) := by decide +kernel
theorem d_Sim_weather_268 : decode M_Sim_weather.2.1 268 = .ok (.isub, 1) := by decide +kernel
theorem d_Sim_weather_269 : decode M_Sim_weather.2.1 269 = .ok (.invokestatic 67, 3) := by decide +kernel
theorem d_Sim_weather_272 : decode M_Sim_weather.2.1 272 = .ok (.invokestatic 73, 3) := by decide +kernel
theorem d_Sim_weather_275 : decode M_Sim_weather.2.1 275 = .ok (.iastore, 1) := by decide +kernel
theorem d_Sim_weather_276 : decode M_Sim_weather.2.1 276 = .ok (.iinc 8 1, 3) := by decide +kernel
theorem d_Sim_weather_279 : decode M_Sim_weather.2.1 279 = .ok (.goto (-49), 3) := by decide +kernel
def l_Sim_weather_230 (A : AD) (b : Nat) (ml : Int32) (sn : Int32) : Nat → Nat → SM → SM
  | 0, _, Y => Y
  | k + 1, i, Y => (if ((sm_v Y 2 i) 0) = (nI b) then (l_Sim_weather_230 A b ml sn k (i + 1) (sm_set Y 2 i 1 (iMax 0 (iMin 99 ((((sm_v Y 2 i) 1) + sn) - (ml / 3)))))) else (l_Sim_weather_230 A b ml sn k (i + 1) Y))
set_option maxRecDepth 100000 in
set_option maxHeartbeats 4000000 in
theorem l_Sim_weather_230_go {Γ : G9} {h : AH} {z : Nat} {n : Nat} {Q : QT} {X : XT} {A : AD} {b : Nat} {ml : Int32} {sn : Int32} (bb : b < cn A 0) (hA : AOk A) (hn20 : n ≤ 20) : ∀ (k i : Nat) (Y : SM), i + k = n → cn A 2 = n → Go Γ M_Sim_weather 1 0 0 282 [some (.ref (ad A 6 0)), some (.int (nI b)), none, some (.int ml), some (.int sn), none, some (.ref (ad A 8 2)), some (.int (nI (cn A 2))), some (.int (nI (i + k))), none] [] (smC Γ A h (l_Sim_weather_230 A b ml sn k i Y)) z Q X → Go Γ M_Sim_weather 1 0 0 230 [some (.ref (ad A 6 0)), some (.int (nI b)), none, some (.int ml), some (.int sn), none, some (.ref (ad A 8 2)), some (.int (nI (cn A 2))), some (.int (nI i)), none] [] (smC Γ A h Y) z Q X := by
  intro k
  induction k with
  | zero =>
    intro i Y hi hn hk
    refine Go.iload_8 d_Sim_weather_230 rfl ?_
    refine Go.iload_7 d_Sim_weather_232 rfl ?_
    refine Go.icmp_ge (t := 282) d_Sim_weather_234 (by decide) rfl (fun c234_1 => ?_) (fun c234_1 => ?_)
    · exact hk
    · exact absurd (nI_le (by omega) (by omega)) c234_1
  | succ k ih =>
    intro i Y hi hn hk
    unfold l_Sim_weather_230 at hk
    rw [show i + (k + 1) = i + 1 + k by omega] at hk
    refine Go.iload_8 d_Sim_weather_230 rfl ?_
    refine Go.iload_7 d_Sim_weather_232 rfl ?_
    refine Go.icmp_ge (t := 282) d_Sim_weather_234 (by decide) rfl (fun c234_1 => ?_) (fun c234_1 => ?_)
    · exact absurd c234_1 (nI_ge (by omega) (by omega))
    · refine Go.aload_6 d_Sim_weather_237 rfl ?_
      refine Go.iload_8 d_Sim_weather_239 rfl ?_
      refine Go.aaldA d_Sim_weather_241 rfl (sm_out hA (by decide)) (vp_in_nI (by omega) (Nat.lt_of_le_of_lt (hA.2.2 2 (by decide)) (by decide))) ?_
      rw [nI_clamp (show i < 2 ^ 31 from Nat.lt_trans (Nat.lt_of_lt_of_le (show i < cn A 2 by first | assumption | omega) (hA.2.2 2 (by decide))) (by decide))]
      refine Go.astore_9 d_Sim_weather_242 rfl (by rfl) ?_
      refine Go.aload_9 d_Sim_weather_244 rfl ?_
      refine Go.iconst (v := 0) d_Sim_weather_246 rfl (by decide) ?_
      refine Go.iaload d_Sim_weather_247 rfl (sm_row hA (by decide) (by omega)) (okI_in (by decide)) ?_
      rw [show (0 : Int32).toNatClampNeg = 0 from by decide]
      refine Go.iload_1 d_Sim_weather_248 rfl ?_
      refine Go.icmp_ne (t := 276) d_Sim_weather_249 (by decide) rfl (fun c249_2 => ?_) (fun c249_2 => ?_)
      · refine Go.iinc_8 d_Sim_weather_276 rfl (by rfl) (nI_inc _) ?_
        refine Go.goto (t := 230) d_Sim_weather_279 (by decide) ?_
        rw [if_neg c249_2] at hk
        refine Go.fgt [some (.ref (ad A 6 0)), some (.int (nI b)), none, some (.int ml), some (.int sn), none, some (.ref (ad A 8 2)), some (.int (nI (cn A 2))), some (.int (nI (i + 1))), none] (by repeat' (first | exact trivial | refine ⟨rfl, ?_⟩)) ?_
        exact ih (i + 1) _ (by omega) (by first | exact hn | (simp only []; exact hn)) hk
      · refine Go.aload_9 d_Sim_weather_252 rfl ?_
        refine Go.iconst (v := 1) d_Sim_weather_254 rfl (by decide) ?_
        refine Go.iconst (v := 0) d_Sim_weather_255 rfl (by decide) ?_
        refine Go.bipush (v := 99) d_Sim_weather_256 rfl (by decide) ?_
        refine Go.aload_9 d_Sim_weather_258 rfl ?_
        refine Go.iconst (v := 1) d_Sim_weather_260 rfl (by decide) ?_
        refine Go.iaload d_Sim_weather_261 rfl (sm_row hA (by decide) (by omega)) (okI_in (by decide)) ?_
        rw [show (1 : Int32).toNatClampNeg = 1 from by decide]
        refine Go.iload_4 d_Sim_weather_262 rfl ?_
        refine Go.iadd d_Sim_weather_264 rfl ?_
        refine Go.iload_3 d_Sim_weather_265 rfl ?_
        refine Go.iconst (v := 3) d_Sim_weather_266 rfl (by decide) ?_
        refine Go.idiv d_Sim_weather_267 rfl (by decide) ?_
        refine Go.isub d_Sim_weather_268 rfl ?_
        refine Go.imin d_Sim_weather_269 rfl l_Sim_67 (by decide) rfl ?_
        refine Go.imax d_Sim_weather_272 rfl l_Sim_73 (by decide) rfl ?_
        refine Go.iastore d_Sim_weather_275 rfl (sm_row hA (by decide) (by omega)) (okI_in (by decide)) ?_
        rw [show (1 : Int32).toNatClampNeg = 1 from by decide]
        refine Go.heq (sm_setup hA (by decide) (by omega)) ?_
        refine Go.iinc_8 d_Sim_weather_276 rfl (by rfl) (nI_inc _) ?_
        refine Go.goto (t := 230) d_Sim_weather_279 (by decide) ?_
        rw [if_pos c249_2] at hk
        refine Go.fgt [some (.ref (ad A 6 0)), some (.int (nI b)), none, some (.int ml), some (.int sn), none, some (.ref (ad A 8 2)), some (.int (nI (cn A 2))), some (.int (nI (i + 1))), none] (by repeat' (first | exact trivial | refine ⟨rfl, ?_⟩)) ?_
        exact ih (i + 1) _ (by omega) (by first | exact hn | (simp only []; exact hn)) hk
set_option maxRecDepth 100000 in
set_option maxHeartbeats 4000000 in
theorem sm_dy_l_Sim_weather_230 {A : AD} {b : Nat} {ml : Int32} {sn : Int32} : ∀ (k i : Nat) (Y : SM), sm_dy (l_Sim_weather_230 A b ml sn k i Y) = sm_dy Y := by
  intro k
  induction k with
  | zero => intros; rfl
  | succ k ih =>
    intros
    unfold l_Sim_weather_230
    (repeat' split) <;> (try simp only [ih, sm_dy_set, sm_dy_fl, sm_dy_ca, sm_dy_rd, sm_dy_Sim_probes, sm_dy_l_Sim_fills_29, sm_dy_Sim_fills, sm_dy_l_Sim_drills_25, sm_dy_Sim_drills, sm_dy_l_Sim_weather_145])
set_option maxRecDepth 100000 in
set_option maxHeartbeats 4000000 in
theorem v5_l_Sim_weather_230 {A : AD} {b : Nat} {ml : Int32} {sn : Int32} : ∀ (k i : Nat) (Y : SM), v5 (l_Sim_weather_230 A b ml sn k i Y) = v5 Y := by
  intro k
  induction k with
  | zero => intros; rfl
  | succ k ih =>
    intros
    unfold l_Sim_weather_230
    (repeat' split) <;> (try simp only [ih, v5_set0, v5_set1, v5_set2, v5_set3, v5_set4, v5_fl, v5_ca, v5_rd, v5_Sim_probes, v5_l_Sim_fills_29, v5_Sim_fills, v5_l_Sim_drills_25, v5_Sim_drills, v5_l_Sim_weather_145])
theorem d_Sim_weather_131 : decode M_Sim_weather.2.1 131 = .ok (.aload_n 0, 1) := by decide +kernel
theorem d_Sim_weather_132 : decode M_Sim_weather.2.1 132 = .ok (.getfield 18, 3) := by decide +kernel
theorem d_Sim_weather_135 : decode M_Sim_weather.2.1 135 = .ok (.astore 6, 2) := by decide +kernel
theorem d_Sim_weather_137 : decode M_Sim_weather.2.1 137 = .ok (.aload 6, 2) := by decide +kernel
theorem d_Sim_weather_139 : decode M_Sim_weather.2.1 139 = .ok (.arraylength, 1) := by decide +kernel
theorem d_Sim_weather_140 : decode M_Sim_weather.2.1 140 = .ok (.istore 7, 2) := by decide +kernel
theorem d_Sim_weather_142 : decode M_Sim_weather.2.1 142 = .ok (.iconst 0, 1) := by decide +kernel
theorem d_Sim_weather_143 : decode M_Sim_weather.2.1 143 = .ok (.istore 8, 2) := by decide +kernel
theorem d_Sim_weather_216 : decode M_Sim_weather.2.1 216 = .ok (.aload_n 0, 1) := by decide +kernel
theorem d_Sim_weather_217 : decode M_Sim_weather.2.1 217 = .ok (.getfield 21, 3) := by decide +kernel
theorem d_Sim_weather_220 : decode M_Sim_weather.2.1 220 = .ok (.astore 6, 2) := by decide +kernel
theorem d_Sim_weather_222 : decode M_Sim_weather.2.1 222 = .ok (.aload 6, 2) := by decide +kernel
theorem d_Sim_weather_224 : decode M_Sim_weather.2.1 224 = .ok (.arraylength, 1) := by decide +kernel
theorem d_Sim_weather_225 : decode M_Sim_weather.2.1 225 = .ok (.istore 7, 2) := by decide +kernel
theorem d_Sim_weather_227 : decode M_Sim_weather.2.1 227 = .ok (.iconst 0, 1) := by decide +kernel
theorem d_Sim_weather_228 : decode M_Sim_weather.2.1 228 = .ok (.istore 8, 2) := by decide +kernel
theorem d_Sim_weather_282 : decode M_Sim_weather.2.1 282 = .ok (.return_, 1) := by decide +kernel
def g_Sim_weather_131 (A : AD) (Y : SM) (b : Nat) (ml : Int32) (sn : Int32) : SM := (l_Sim_weather_230 A b ml sn (cn A 2) 0 (l_Sim_weather_145 A b ml sn (cn A 1) 0 Y))
set_option maxRecDepth 100000 in
set_option maxHeartbeats 4000000 in
theorem g_Sim_weather_131_go {Γ : G9} {h : AH} {z : Nat} {A : AD} {Y : SM} {b : Nat} {ml : Int32} {sn : Int32} (bb : b < cn A 0) (hA : AOk A) (hdy : sm_dy Y < 1000000) : Go Γ M_Sim_weather 1 0 0 131 [some (.ref (ad A 6 0)), some (.int (nI b)), none, some (.int ml), some (.int sn), none, none, none, none, none] [] (smC Γ A h Y) z (RQ none (smC Γ A h (g_Sim_weather_131 A Y b ml sn)) z) noX := by
  unfold g_Sim_weather_131
  refine Go.aload_0 d_Sim_weather_131 rfl ?_
  refine Go.getfield d_Sim_weather_132 rfl f_Sim_18 (sm_obj hA) (by rfl) ?_
  refine Go.astore_6 d_Sim_weather_135 rfl (by rfl) ?_
  refine Go.aload_6 d_Sim_weather_137 rfl ?_
  refine Go.alen (n := (nI (cn A 1))) d_Sim_weather_139 rfl (sm_out hA (by decide)) (by rfl) rfl ?_
  refine Go.istore_7 d_Sim_weather_140 rfl (by rfl) ?_
  refine Go.iconst (v := 0) d_Sim_weather_142 rfl (by decide) ?_
  refine Go.istore_8 d_Sim_weather_143 rfl (by rfl) ?_
  refine l_Sim_weather_145_go (n := (cn A 1)) bb hA (Nat.le_trans (hA.2.2 1 (by decide)) (by decide)) (cn A 1) 0 Y (by omega) rfl ?_
  refine Go.aload_0 d_Sim_weather_216 rfl ?_
  refine Go.getfield d_Sim_weather_217 rfl f_Sim_21 (sm_obj hA) (by rfl) ?_
  refine Go.astore_6 d_Sim_weather_220 rfl (by rfl) ?_
  refine Go.aload_6 d_Sim_weather_222 rfl ?_
  refine Go.alen (n := (nI (cn A 2))) d_Sim_weather_224 rfl (sm_out hA (by decide)) (by rfl) rfl ?_
  refine Go.istore_7 d_Sim_weather_225 rfl (by rfl) ?_
  refine Go.iconst (v := 0) d_Sim_weather_227 rfl (by decide) ?_
  refine Go.istore_8 d_Sim_weather_228 rfl (by rfl) ?_
  refine l_Sim_weather_230_go (n := (cn A 2)) bb hA (Nat.le_trans (hA.2.2 2 (by decide)) (by decide)) (cn A 2) 0 (l_Sim_weather_145 A b ml sn (cn A 1) 0 Y) (by omega) rfl ?_
  exact Go.vret d_Sim_weather_282 rfl ⟨rfl, by dsimp only, rfl⟩
set_option maxRecDepth 100000 in
set_option maxHeartbeats 4000000 in
theorem sm_dy_g_Sim_weather_131 {A : AD} {Y : SM} {b : Nat} {ml : Int32} {sn : Int32} : sm_dy (g_Sim_weather_131 A Y b ml sn) = sm_dy Y := by
  unfold g_Sim_weather_131
  (repeat' split) <;> (try simp only [sm_dy_set, sm_dy_fl, sm_dy_ca, sm_dy_rd, sm_dy_Sim_probes, sm_dy_l_Sim_fills_29, sm_dy_Sim_fills, sm_dy_l_Sim_drills_25, sm_dy_Sim_drills, sm_dy_l_Sim_weather_145, sm_dy_l_Sim_weather_230])
set_option maxRecDepth 100000 in
set_option maxHeartbeats 4000000 in
theorem v5_g_Sim_weather_131 {A : AD} {Y : SM} {b : Nat} {ml : Int32} {sn : Int32} : v5 (g_Sim_weather_131 A Y b ml sn) = v5 Y := by
  unfold g_Sim_weather_131
  (repeat' split) <;> (try simp only [v5_set0, v5_set1, v5_set2, v5_set3, v5_set4, v5_fl, v5_ca, v5_rd, v5_Sim_probes, v5_l_Sim_fills_29, v5_Sim_fills, v5_l_Sim_drills_25, v5_Sim_drills, v5_l_Sim_weather_145, v5_l_Sim_weather_230])
theorem d_Sim_weather_113 : decode M_Sim_weather.2.1 113 = .ok (.iload 5, 2) := by decide +kernel
theorem d_Sim_weather_115 : decode M_Sim_weather.2.1 115 = .ok (.ifCond .ge 16, 3) := by decide +kernel
theorem d_Sim_weather_118 : decode M_Sim_weather.2.1 118 = .ok (.aload_n 0, 1) := by decide +kernel
theorem d_Sim_weather_119 : decode M_Sim_weather.2.1 119 = .ok (.getfield 14, 3) := by decide +kernel
theorem d_Sim_weather_122 : decode M_Sim_weather.2.1 122 = .ok (.iload_n 1, 1) := by decide +kernel
theorem d_Sim_weather_123 : decode M_Sim_weather.2.1 123 = .ok (.aaload, 1) := by decide +kernel
theorem d_Sim_weather_124 : decode M_Sim_weather.2.1 124 = .ok (.iconst 2, 1) := by decide +kernel
theorem d_Sim_weather_125 : decode M_Sim_weather.2.1 125 = .ok (.dup2, 1) := by decide +kernel
theorem d_Sim_weather_126 : decode M_Sim_weather.2.1 126 = .ok (.iaload, 1) := by decide +kernel
theorem d_Sim_weather_127 : decode M_Sim_weather.2.1 127 = .ok (.iload 5, 2) := by decide +kernel
theorem d_Sim_weather_129 : decode M_Sim_weather.2.1 129 = .ok (.isub, 1) := by decide +kernel
theorem d_Sim_weather_130 : decode M_Sim_weather.2.1 130 = .ok (.iastore, 1) := by decide +kernel
def g_Sim_weather_113 (A : AD) (Y : SM) (b : Nat) (ml : Int32) (sn : Int32) (lf : Int32) : SM := (if 0 ≤ lf then (g_Sim_weather_131 A Y b ml sn) else (g_Sim_weather_131 A (sm_set Y 0 b 2 (((sm_v Y 0 b) 2) - lf)) b ml sn))
set_option maxRecDepth 100000 in
set_option maxHeartbeats 4000000 in
theorem g_Sim_weather_113_go {Γ : G9} {h : AH} {z : Nat} {A : AD} {Y : SM} {b : Nat} {ml : Int32} {sn : Int32} {lf : Int32} (bb : b < cn A 0) (hA : AOk A) (hdy : sm_dy Y < 1000000) : Go Γ M_Sim_weather 1 0 0 113 [some (.ref (ad A 6 0)), some (.int (nI b)), none, some (.int ml), some (.int sn), some (.int lf), none, none, none, none] [] (smC Γ A h Y) z (RQ none (smC Γ A h (g_Sim_weather_113 A Y b ml sn lf)) z) noX := by
  unfold g_Sim_weather_113
  refine Go.iload_5 d_Sim_weather_113 rfl ?_
  refine Go.if_ge (t := 131) d_Sim_weather_115 (by decide) rfl (fun c115_1 => ?_) (fun c115_1 => ?_)
  · rw [if_pos c115_1]
    refine Go.fgt [some (.ref (ad A 6 0)), some (.int (nI b)), none, some (.int ml), some (.int sn), none, none, none, none, none] (by repeat' (first | exact trivial | refine ⟨rfl, ?_⟩)) ?_
    exact g_Sim_weather_131_go (ml := ml) (sn := sn) bb hA hdy
  · refine Go.aload_0 d_Sim_weather_118 rfl ?_
    refine Go.getfield d_Sim_weather_119 rfl f_Sim_14 (sm_obj hA) (by rfl) ?_
    refine Go.iload_1 d_Sim_weather_122 rfl ?_
    refine Go.aaldA d_Sim_weather_123 rfl (sm_out hA (by decide)) (vp_in_nI bb (Nat.lt_of_le_of_lt (hA.2.2 0 (by decide)) (by decide))) ?_
    rw [nI_clamp (show b < 2 ^ 31 from Nat.lt_trans (Nat.lt_of_lt_of_le (show b < cn A 0 by first | assumption | omega) (hA.2.2 0 (by decide))) (by decide))]
    refine Go.iconst (v := 2) d_Sim_weather_124 rfl (by decide) ?_
    refine Go.dup2 d_Sim_weather_125 rfl rfl rfl ?_
    refine Go.iaload d_Sim_weather_126 rfl (sm_row hA (by decide) bb) (okI_in (by decide)) ?_
    rw [show (2 : Int32).toNatClampNeg = 2 from by decide]
    refine Go.iload_5 d_Sim_weather_127 rfl ?_
    refine Go.isub d_Sim_weather_129 rfl ?_
    refine Go.iastore d_Sim_weather_130 rfl (sm_row hA (by decide) bb) (okI_in (by decide)) ?_
    rw [show (2 : Int32).toNatClampNeg = 2 from by decide]
    refine Go.heq (sm_setup hA (by decide) bb) ?_
    rw [if_neg c115_1]
    refine Go.fgt [some (.ref (ad A 6 0)), some (.int (nI b)), none, some (.int ml), some (.int sn), none, none, none, none, none] (by repeat' (first | exact trivial | refine ⟨rfl, ?_⟩)) ?_
    exact g_Sim_weather_131_go (ml := ml) (sn := sn) bb hA hdy
set_option maxRecDepth 100000 in
set_option maxHeartbeats 4000000 in
theorem sm_dy_g_Sim_weather_113 {A : AD} {Y : SM} {b : Nat} {ml : Int32} {sn : Int32} {lf : Int32} : sm_dy (g_Sim_weather_113 A Y b ml sn lf) = sm_dy Y := by
  unfold g_Sim_weather_113
  (repeat' split) <;> (try simp only [sm_dy_set, sm_dy_fl, sm_dy_ca, sm_dy_rd, sm_dy_Sim_probes, sm_dy_l_Sim_fills_29, sm_dy_Sim_fills, sm_dy_l_Sim_drills_25, sm_dy_Sim_drills, sm_dy_l_Sim_weather_145, sm_dy_l_Sim_weather_230, sm_dy_g_Sim_weather_131])
set_option maxRecDepth 100000 in
set_option maxHeartbeats 4000000 in
theorem v5_g_Sim_weather_113 {A : AD} {Y : SM} {b : Nat} {ml : Int32} {sn : Int32} {lf : Int32} : v5 (g_Sim_weather_113 A Y b ml sn lf) = v5 Y := by
  unfold g_Sim_weather_113
  (repeat' split) <;> (try simp only [v5_set0, v5_set1, v5_set2, v5_set3, v5_set4, v5_fl, v5_ca, v5_rd, v5_Sim_probes, v5_l_Sim_fills_29, v5_Sim_fills, v5_l_Sim_drills_25, v5_Sim_drills, v5_l_Sim_weather_145, v5_l_Sim_weather_230, v5_g_Sim_weather_131])
theorem d_Sim_weather_79 : decode M_Sim_weather.2.1 79 = .ok (.aload_n 0, 1) := by decide +kernel
theorem d_Sim_weather_80 : decode M_Sim_weather.2.1 80 = .ok (.getfield 14, 3) := by decide +kernel
theorem d_Sim_weather_83 : decode M_Sim_weather.2.1 83 = .ok (.iload_n 1, 1) := by decide +kernel
theorem d_Sim_weather_84 : decode M_Sim_weather.2.1 84 = .ok (.aaload, 1) := by decide +kernel
theorem d_Sim_weather_85 : decode M_Sim_weather.2.1 85 = .ok (.iconst 1, 1) := by decide +kernel
theorem d_Sim_weather_86 : decode M_Sim_weather.2.1 86 = .ok (.iaload, 1) := by decide +kernel
theorem d_Sim_weather_87 : decode M_Sim_weather.2.1 87 = .ok (.iload 4, 2) := by decide +kernel
theorem d_Sim_weather_89 : decode M_Sim_weather.2.1 89 = .ok (.iadd, 1) := by decide +kernel
theorem d_Sim_weather_90 : decode M_Sim_weather.2.1 90 = .ok (.iload_n 3, 1) := by decide +kernel
theorem d_Sim_weather_91 : decode M_Sim_weather.2.1 91 = .ok (.isub, 1) := by decide +kernel
theorem d_Sim_weather_92 : decode M_Sim_weather.2.1 92 = .ok (.istore 5, 2) := by decide +kernel
theorem d_Sim_weather_94 : decode M_Sim_weather.2.1 94 = .ok (.aload_n 0, 1) := by decide +kernel
theorem d_Sim_weather_95 : decode M_Sim_weather.2.1 95 = .ok (.getfield 14, 3) := by decide +kernel
theorem d_Sim_weather_98 : decode M_Sim_weather.2.1 98 = .ok (.iload_n 1, 1) := by decide +kernel
theorem d_Sim_weather_99 : decode M_Sim_weather.2.1 99 = .ok (.aaload, 1) := by decide +kernel
theorem d_Sim_weather_100 : decode M_Sim_weather.2.1 100 = .ok (.iconst 1, 1) := by decide +kernel
theorem d_Sim_weather_101 : decode M_Sim_weather.2.1 101 = .ok (.iload 5, 2) := by decide +kernel
theorem d_Sim_weather_103 : decode M_Sim_weather.2.1 103 = .ok (.ifCond .ge 7, 3) := by decide +kernel
theorem d_Sim_weather_106 : decode M_Sim_weather.2.1 106 = .ok (.iconst 0, 1) := by decide +kernel
theorem d_Sim_weather_107 : decode M_Sim_weather.2.1 107 = .ok (.goto 5, 3) := by decide +kernel
theorem d_Sim_weather_110 : decode M_Sim_weather.2.1 110 = .ok (.iload 5, 2) := by decide +kernel
theorem d_Sim_weather_112 : decode M_Sim_weather.2.1 112 = .ok (.iastore, 1) := by decide +kernel
def g_Sim_weather_79 (A : AD) (Y : SM) (b : Nat) (ml : Int32) (sn : Int32) : SM := (if 0 ≤ ((((sm_v Y 0 b) 1) + sn) - ml) then (g_Sim_weather_113 A (sm_set Y 0 b 1 ((((sm_v Y 0 b) 1) + sn) - ml)) b ml sn ((((sm_v Y 0 b) 1) + sn) - ml)) else (g_Sim_weather_113 A (sm_set Y 0 b 1 0) b ml sn ((((sm_v Y 0 b) 1) + sn) - ml)))
set_option maxRecDepth 100000 in
set_option maxHeartbeats 4000000 in
theorem g_Sim_weather_79_go {Γ : G9} {h : AH} {z : Nat} {A : AD} {Y : SM} {b : Nat} {ml : Int32} {sn : Int32} (bb : b < cn A 0) (hA : AOk A) (hdy : sm_dy Y < 1000000) : Go Γ M_Sim_weather 1 0 0 79 [some (.ref (ad A 6 0)), some (.int (nI b)), none, some (.int ml), some (.int sn), none, none, none, none, none] [] (smC Γ A h Y) z (RQ none (smC Γ A h (g_Sim_weather_79 A Y b ml sn)) z) noX := by
  unfold g_Sim_weather_79
  refine Go.aload_0 d_Sim_weather_79 rfl ?_
  refine Go.getfield d_Sim_weather_80 rfl f_Sim_14 (sm_obj hA) (by rfl) ?_
  refine Go.iload_1 d_Sim_weather_83 rfl ?_
  refine Go.aaldA d_Sim_weather_84 rfl (sm_out hA (by decide)) (vp_in_nI bb (Nat.lt_of_le_of_lt (hA.2.2 0 (by decide)) (by decide))) ?_
  rw [nI_clamp (show b < 2 ^ 31 from Nat.lt_trans (Nat.lt_of_lt_of_le (show b < cn A 0 by first | assumption | omega) (hA.2.2 0 (by decide))) (by decide))]
  refine Go.iconst (v := 1) d_Sim_weather_85 rfl (by decide) ?_
  refine Go.iaload d_Sim_weather_86 rfl (sm_row hA (by decide) bb) (okI_in (by decide)) ?_
  rw [show (1 : Int32).toNatClampNeg = 1 from by decide]
  refine Go.iload_4 d_Sim_weather_87 rfl ?_
  refine Go.iadd d_Sim_weather_89 rfl ?_
  refine Go.iload_3 d_Sim_weather_90 rfl ?_
  refine Go.isub d_Sim_weather_91 rfl ?_
  refine Go.istore_5 d_Sim_weather_92 rfl (by rfl) ?_
  refine Go.aload_0 d_Sim_weather_94 rfl ?_
  refine Go.getfield d_Sim_weather_95 rfl f_Sim_14 (sm_obj hA) (by rfl) ?_
  refine Go.iload_1 d_Sim_weather_98 rfl ?_
  refine Go.aaldA d_Sim_weather_99 rfl (sm_out hA (by decide)) (vp_in_nI bb (Nat.lt_of_le_of_lt (hA.2.2 0 (by decide)) (by decide))) ?_
  rw [nI_clamp (show b < 2 ^ 31 from Nat.lt_trans (Nat.lt_of_lt_of_le (show b < cn A 0 by first | assumption | omega) (hA.2.2 0 (by decide))) (by decide))]
  refine Go.iconst (v := 1) d_Sim_weather_100 rfl (by decide) ?_
  refine Go.iload_5 d_Sim_weather_101 rfl ?_
  refine Go.if_ge (t := 110) d_Sim_weather_103 (by decide) rfl (fun c103_1 => ?_) (fun c103_1 => ?_)
  · refine Go.iload_5 d_Sim_weather_110 rfl ?_
    refine Go.iastore d_Sim_weather_112 rfl (sm_row hA (by decide) bb) (okI_in (by decide)) ?_
    rw [show (1 : Int32).toNatClampNeg = 1 from by decide]
    refine Go.heq (sm_setup hA (by decide) bb) ?_
    rw [if_pos c103_1]
    exact g_Sim_weather_113_go (ml := ml) (sn := sn) (lf := ((((sm_v Y 0 b) 1) + sn) - ml)) bb hA hdy
  · refine Go.iconst (v := 0) d_Sim_weather_106 rfl (by decide) ?_
    refine Go.goto (t := 112) d_Sim_weather_107 (by decide) ?_
    refine Go.iastore d_Sim_weather_112 rfl (sm_row hA (by decide) bb) (okI_in (by decide)) ?_
    rw [show (1 : Int32).toNatClampNeg = 1 from by decide]
    refine Go.heq (sm_setup hA (by decide) bb) ?_
    rw [if_neg c103_1]
    exact g_Sim_weather_113_go (ml := ml) (sn := sn) (lf := ((((sm_v Y 0 b) 1) + sn) - ml)) bb hA hdy
set_option maxRecDepth 100000 in
set_option maxHeartbeats 4000000 in
theorem sm_dy_g_Sim_weather_79 {A : AD} {Y : SM} {b : Nat} {ml : Int32} {sn : Int32} : sm_dy (g_Sim_weather_79 A Y b ml sn) = sm_dy Y := by
  unfold g_Sim_weather_79
  (repeat' split) <;> (try simp only [sm_dy_set, sm_dy_fl, sm_dy_ca, sm_dy_rd, sm_dy_Sim_probes, sm_dy_l_Sim_fills_29, sm_dy_Sim_fills, sm_dy_l_Sim_drills_25, sm_dy_Sim_drills, sm_dy_l_Sim_weather_145, sm_dy_l_Sim_weather_230, sm_dy_g_Sim_weather_131, sm_dy_g_Sim_weather_113])
set_option maxRecDepth 100000 in
set_option maxHeartbeats 4000000 in
theorem v5_g_Sim_weather_79 {A : AD} {Y : SM} {b : Nat} {ml : Int32} {sn : Int32} : v5 (g_Sim_weather_79 A Y b ml sn) = v5 Y := by
  unfold g_Sim_weather_79
  (repeat' split) <;> (try simp only [v5_set0, v5_set1, v5_set2, v5_set3, v5_set4, v5_fl, v5_ca, v5_rd, v5_Sim_probes, v5_l_Sim_fills_29, v5_Sim_fills, v5_l_Sim_drills_25, v5_Sim_drills, v5_l_Sim_weather_145, v5_l_Sim_weather_230, v5_g_Sim_weather_131, v5_g_Sim_weather_113])
theorem d_Sim_weather_46 : decode M_Sim_weather.2.1 46 = .ok (.istore 4, 2) := by decide +kernel
theorem d_Sim_weather_48 : decode M_Sim_weather.2.1 48 = .ok (.iload 4, 2) := by decide +kernel
theorem d_Sim_weather_50 : decode M_Sim_weather.2.1 50 = .ok (.sipush 300, 3) := by decide +kernel
theorem d_Sim_weather_53 : decode M_Sim_weather.2.1 53 = .ok (.aload_n 0, 1) := by decide +kernel
theorem d_Sim_weather_54 : decode M_Sim_weather.2.1 54 = .ok (.getfield 14, 3) := by decide +kernel
theorem d_Sim_weather_57 : decode M_Sim_weather.2.1 57 = .ok (.iload_n 1, 1) := by decide +kernel
theorem d_Sim_weather_58 : decode M_Sim_weather.2.1 58 = .ok (.aaload, 1) := by decide +kernel
theorem d_Sim_weather_59 : decode M_Sim_weather.2.1 59 = .ok (.iconst 1, 1) := by decide +kernel
theorem d_Sim_weather_60 : decode M_Sim_weather.2.1 60 = .ok (.iaload, 1) := by decide +kernel
theorem d_Sim_weather_61 : decode M_Sim_weather.2.1 61 = .ok (.isub, 1) := by decide +kernel
theorem d_Sim_weather_62 : decode M_Sim_weather.2.1 62 = .ok (.if_icmp .le 17, 3) := by decide +kernel
theorem d_Sim_weather_65 : decode M_Sim_weather.2.1 65 = .ok (.sipush 300, 3) := by decide +kernel
theorem d_Sim_weather_68 : decode M_Sim_weather.2.1 68 = .ok (.aload_n 0, 1) := by decide +kernel
theorem d_Sim_weather_69 : decode M_Sim_weather.2.1 69 = .ok (.getfield 14, 3) := by decide +kernel
theorem d_Sim_weather_72 : decode M_Sim_weather.2.1 72 = .ok (.iload_n 1, 1) := by decide +kernel
theorem d_Sim_weather_73 : decode M_Sim_weather.2.1 73 = .ok (.aaload, 1) := by decide +kernel
theorem d_Sim_weather_74 : decode M_Sim_weather.2.1 74 = .ok (.iconst 1, 1) := by decide +kernel
theorem d_Sim_weather_75 : decode M_Sim_weather.2.1 75 = .ok (.iaload, 1) := by decide +kernel
theorem d_Sim_weather_76 : decode M_Sim_weather.2.1 76 = .ok (.isub, 1) := by decide +kernel
theorem d_Sim_weather_77 : decode M_Sim_weather.2.1 77 = .ok (.istore 4, 2) := by decide +kernel
def g_Sim_weather_46 (A : AD) (Y : SM) (b : Nat) (ml : Int32) (sn : Int32) : SM := (if sn ≤ (300 - ((sm_v Y 0 b) 1)) then (g_Sim_weather_79 A Y b ml sn) else (g_Sim_weather_79 A Y b ml (300 - ((sm_v Y 0 b) 1))))
set_option maxRecDepth 100000 in
set_option maxHeartbeats 4000000 in
theorem g_Sim_weather_46_go {Γ : G9} {h : AH} {z : Nat} {A : AD} {Y : SM} {b : Nat} {ml : Int32} {sn : Int32} (bb : b < cn A 0) (hA : AOk A) (hdy : sm_dy Y < 1000000) : Go Γ M_Sim_weather 1 0 0 46 [some (.ref (ad A 6 0)), some (.int (nI b)), none, some (.int ml), none, none, none, none, none, none] [.int sn] (smC Γ A h Y) z (RQ none (smC Γ A h (g_Sim_weather_46 A Y b ml sn)) z) noX := by
  unfold g_Sim_weather_46
  refine Go.istore_4 d_Sim_weather_46 rfl (by rfl) ?_
  refine Go.iload_4 d_Sim_weather_48 rfl ?_
  refine Go.sipush (v := 300) d_Sim_weather_50 rfl (by decide) ?_
  refine Go.aload_0 d_Sim_weather_53 rfl ?_
  refine Go.getfield d_Sim_weather_54 rfl f_Sim_14 (sm_obj hA) (by rfl) ?_
  refine Go.iload_1 d_Sim_weather_57 rfl ?_
  refine Go.aaldA d_Sim_weather_58 rfl (sm_out hA (by decide)) (vp_in_nI bb (Nat.lt_of_le_of_lt (hA.2.2 0 (by decide)) (by decide))) ?_
  rw [nI_clamp (show b < 2 ^ 31 from Nat.lt_trans (Nat.lt_of_lt_of_le (show b < cn A 0 by first | assumption | omega) (hA.2.2 0 (by decide))) (by decide))]
  refine Go.iconst (v := 1) d_Sim_weather_59 rfl (by decide) ?_
  refine Go.iaload d_Sim_weather_60 rfl (sm_row hA (by decide) bb) (okI_in (by decide)) ?_
  rw [show (1 : Int32).toNatClampNeg = 1 from by decide]
  refine Go.isub d_Sim_weather_61 rfl ?_
  refine Go.icmp_le (t := 79) d_Sim_weather_62 (by decide) rfl (fun c62_1 => ?_) (fun c62_1 => ?_)
  · rw [if_pos c62_1]
    exact g_Sim_weather_79_go (ml := ml) (sn := sn) bb hA hdy
  · refine Go.sipush (v := 300) d_Sim_weather_65 rfl (by decide) ?_
    refine Go.aload_0 d_Sim_weather_68 rfl ?_
    refine Go.getfield d_Sim_weather_69 rfl f_Sim_14 (sm_obj hA) (by rfl) ?_
    refine Go.iload_1 d_Sim_weather_72 rfl ?_
    refine Go.aaldA d_Sim_weather_73 rfl (sm_out hA (by decide)) (vp_in_nI bb (Nat.lt_of_le_of_lt (hA.2.2 0 (by decide)) (by decide))) ?_
    rw [nI_clamp (show b < 2 ^ 31 from Nat.lt_trans (Nat.lt_of_lt_of_le (show b < cn A 0 by first | assumption | omega) (hA.2.2 0 (by decide))) (by decide))]
    refine Go.iconst (v := 1) d_Sim_weather_74 rfl (by decide) ?_
    refine Go.iaload d_Sim_weather_75 rfl (sm_row hA (by decide) bb) (okI_in (by decide)) ?_
    rw [show (1 : Int32).toNatClampNeg = 1 from by decide]
    refine Go.isub d_Sim_weather_76 rfl ?_
    refine Go.istore_4 d_Sim_weather_77 rfl (by rfl) ?_
    rw [if_neg c62_1]
    exact g_Sim_weather_79_go (ml := ml) (sn := (300 - ((sm_v Y 0 b) 1))) bb hA hdy
set_option maxRecDepth 100000 in
set_option maxHeartbeats 4000000 in
theorem sm_dy_g_Sim_weather_46 {A : AD} {Y : SM} {b : Nat} {ml : Int32} {sn : Int32} : sm_dy (g_Sim_weather_46 A Y b ml sn) = sm_dy Y := by
  unfold g_Sim_weather_46
  (repeat' split) <;> (try simp only [sm_dy_set, sm_dy_fl, sm_dy_ca, sm_dy_rd, sm_dy_Sim_probes, sm_dy_l_Sim_fills_29, sm_dy_Sim_fills, sm_dy_l_Sim_drills_25, sm_dy_Sim_drills, sm_dy_l_Sim_weather_145, sm_dy_l_Sim_weather_230, sm_dy_g_Sim_weather_131, sm_dy_g_Sim_weather_113, sm_dy_g_Sim_weather_79])
set_option maxRecDepth 100000 in
set_option maxHeartbeats 4000000 in
theorem v5_g_Sim_weather_46 {A : AD} {Y : SM} {b : Nat} {ml : Int32} {sn : Int32} : v5 (g_Sim_weather_46 A Y b ml sn) = v5 Y := by
  unfold g_Sim_weather_46
  (repeat' split) <;> (try simp only [v5_set0, v5_set1, v5_set2, v5_set3, v5_set4, v5_fl, v5_ca, v5_rd, v5_Sim_probes, v5_l_Sim_fills_29, v5_Sim_fills, v5_l_Sim_drills_25, v5_Sim_drills, v5_l_Sim_weather_145, v5_l_Sim_weather_230, v5_g_Sim_weather_131, v5_g_Sim_weather_113, v5_g_Sim_weather_79])
theorem d_Sim_weather_33 : decode M_Sim_weather.2.1 33 = .ok (.istore_n 3, 1) := by decide +kernel
theorem d_Sim_weather_34 : decode M_Sim_weather.2.1 34 = .ok (.iload_n 2, 1) := by decide +kernel
theorem d_Sim_weather_35 : decode M_Sim_weather.2.1 35 = .ok (.ifCond .ge 10, 3) := by decide +kernel
theorem d_Sim_weather_38 : decode M_Sim_weather.2.1 38 = .ok (.iload_n 2, 1) := by decide +kernel
theorem d_Sim_weather_39 : decode M_Sim_weather.2.1 39 = .ok (.ineg, 1) := by decide +kernel
theorem d_Sim_weather_40 : decode M_Sim_weather.2.1 40 = .ok (.iconst 2, 1) := by decide +kernel
theorem d_Sim_weather_41 : decode M_Sim_weather.2.1 41 = .ok (.idiv, 1) := by decide +kernel
theorem d_Sim_weather_42 : decode M_Sim_weather.2.1 42 = .ok (.goto 4, 3) := by decide +kernel
theorem d_Sim_weather_45 : decode M_Sim_weather.2.1 45 = .ok (.iconst 0, 1) := by decide +kernel
def g_Sim_weather_33 (A : AD) (Y : SM) (b : Nat) (its : Int32) (ml : Int32) : SM := (if 0 ≤ its then (g_Sim_weather_46 A Y b ml 0) else (g_Sim_weather_46 A Y b ml ((-its) / 2)))
set_option maxRecDepth 100000 in
set_option maxHeartbeats 4000000 in
theorem g_Sim_weather_33_go {Γ : G9} {h : AH} {z : Nat} {A : AD} {Y : SM} {b : Nat} {its : Int32} {ml : Int32} (bb : b < cn A 0) (hA : AOk A) (hdy : sm_dy Y < 1000000) : Go Γ M_Sim_weather 1 0 0 33 [some (.ref (ad A 6 0)), some (.int (nI b)), some (.int its), none, none, none, none, none, none, none] [.int ml] (smC Γ A h Y) z (RQ none (smC Γ A h (g_Sim_weather_33 A Y b its ml)) z) noX := by
  unfold g_Sim_weather_33
  refine Go.istore_3 d_Sim_weather_33 rfl (by rfl) ?_
  refine Go.iload_2 d_Sim_weather_34 rfl ?_
  refine Go.if_ge (t := 45) d_Sim_weather_35 (by decide) rfl (fun c35_1 => ?_) (fun c35_1 => ?_)
  · refine Go.iconst (v := 0) d_Sim_weather_45 rfl (by decide) ?_
    rw [if_pos c35_1]
    refine Go.fgt [some (.ref (ad A 6 0)), some (.int (nI b)), none, some (.int ml), none, none, none, none, none, none] (by repeat' (first | exact trivial | refine ⟨rfl, ?_⟩)) ?_
    exact g_Sim_weather_46_go (ml := ml) (sn := 0) bb hA hdy
  · refine Go.iload_2 d_Sim_weather_38 rfl ?_
    refine Go.ineg d_Sim_weather_39 rfl ?_
    refine Go.iconst (v := 2) d_Sim_weather_40 rfl (by decide) ?_
    refine Go.idiv d_Sim_weather_41 rfl (by decide) ?_
    refine Go.goto (t := 46) d_Sim_weather_42 (by decide) ?_
    rw [if_neg c35_1]
    refine Go.fgt [some (.ref (ad A 6 0)), some (.int (nI b)), none, some (.int ml), none, none, none, none, none, none] (by repeat' (first | exact trivial | refine ⟨rfl, ?_⟩)) ?_
    exact g_Sim_weather_46_go (ml := ml) (sn := ((-its) / 2)) bb hA hdy
set_option maxRecDepth 100000 in
set_option maxHeartbeats 4000000 in
theorem sm_dy_g_Sim_weather_33 {A : AD} {Y : SM} {b : Nat} {its : Int32} {ml : Int32} : sm_dy (g_Sim_weather_33 A Y b its ml) = sm_dy Y := by
  unfold g_Sim_weather_33
  (repeat' split) <;> (try simp only [sm_dy_set, sm_dy_fl, sm_dy_ca, sm_dy_rd, sm_dy_Sim_probes, sm_dy_l_Sim_fills_29, sm_dy_Sim_fills, sm_dy_l_Sim_drills_25, sm_dy_Sim_drills, sm_dy_l_Sim_weather_145, sm_dy_l_Sim_weather_230, sm_dy_g_Sim_weather_131, sm_dy_g_Sim_weather_113, sm_dy_g_Sim_weather_79, sm_dy_g_Sim_weather_46])
set_option maxRecDepth 100000 in
set_option maxHeartbeats 4000000 in
theorem v5_g_Sim_weather_33 {A : AD} {Y : SM} {b : Nat} {its : Int32} {ml : Int32} : v5 (g_Sim_weather_33 A Y b its ml) = v5 Y := by
  unfold g_Sim_weather_33
  (repeat' split) <;> (try simp only [v5_set0, v5_set1, v5_set2, v5_set3, v5_set4, v5_fl, v5_ca, v5_rd, v5_Sim_probes, v5_l_Sim_fills_29, v5_Sim_fills, v5_l_Sim_drills_25, v5_Sim_drills, v5_l_Sim_weather_145, v5_l_Sim_weather_230, v5_g_Sim_weather_131, v5_g_Sim_weather_113, v5_g_Sim_weather_79, v5_g_Sim_weather_46])
theorem d_Sim_weather_0 : decode M_Sim_weather.2.1 0 = .ok (.aload_n 0, 1) := by decide +kernel
theorem d_Sim_weather_1 : decode M_Sim_weather.2.1 1 = .ok (.getfield 7, 3) := by decide +kernel
theorem d_Sim_weather_4 : decode M_Sim_weather.2.1 4 = .ok (.aload_n 0, 1) := by decide +kernel
theorem d_Sim_weather_5 : decode M_Sim_weather.2.1 5 = .ok (.getfield 34, 3) := by decide +kernel
theorem d_Sim_weather_8 : decode M_Sim_weather.2.1 8 = .ok (.bipush 8, 2) := by decide +kernel
theorem d_Sim_weather_10 : decode M_Sim_weather.2.1 10 = .ok (.irem, 1) := by decide +kernel
theorem d_Sim_weather_11 : decode M_Sim_weather.2.1 11 = .ok (.iaload, 1) := by decide +kernel
theorem d_Sim_weather_12 : decode M_Sim_weather.2.1 12 = .ok (.aload_n 0, 1) := by decide +kernel
theorem d_Sim_weather_13 : decode M_Sim_weather.2.1 13 = .ok (.getfield 14, 3) := by decide +kernel
theorem d_Sim_weather_16 : decode M_Sim_weather.2.1 16 = .ok (.iload_n 1, 1) := by decide +kernel
theorem d_Sim_weather_17 : decode M_Sim_weather.2.1 17 = .ok (.aaload, 1) := by decide +kernel
theorem d_Sim_weather_18 : decode M_Sim_weather.2.1 18 = .ok (.iconst 0, 1) := by decide +kernel
theorem d_Sim_weather_19 : decode M_Sim_weather.2.1 19 = .ok (.iaload, 1) := by decide +kernel
theorem d_Sim_weather_20 : decode M_Sim_weather.2.1 20 = .ok (.isub, 1) := by decide +kernel
theorem d_Sim_weather_21 : decode M_Sim_weather.2.1 21 = .ok (.istore_n 2, 1) := by decide +kernel
theorem d_Sim_weather_22 : decode M_Sim_weather.2.1 22 = .ok (.iload_n 2, 1) := by decide +kernel
theorem d_Sim_weather_23 : decode M_Sim_weather.2.1 23 = .ok (.ifCond .le 9, 3) := by decide +kernel
theorem d_Sim_weather_26 : decode M_Sim_weather.2.1 26 = .ok (.iconst 3, 1) := by decide +kernel
theorem d_Sim_weather_27 : decode M_Sim_weather.2.1 27 = .ok (.iload_n 2, 1) := by decide +kernel
theorem d_Sim_weather_28 : decode M_Sim_weather.2.1 28 = .ok (.imul, 1) := by decide +kernel
theorem d_Sim_weather_29 : decode M_Sim_weather.2.1 29 = .ok (.goto 4, 3) := by decide +kernel
theorem d_Sim_weather_32 : decode M_Sim_weather.2.1 32 = .ok (.iconst 0, 1) := by decide +kernel
def s_Sim_weather (A : AD) (Y : SM) (b : Nat) : SM := (if (((sm_wa Y) ((sm_dy Y) % 8)) - ((sm_v Y 0 b) 0)) ≤ 0 then (g_Sim_weather_33 A Y b (((sm_wa Y) ((sm_dy Y) % 8)) - ((sm_v Y 0 b) 0)) 0) else (g_Sim_weather_33 A Y b (((sm_wa Y) ((sm_dy Y) % 8)) - ((sm_v Y 0 b) 0)) (3 * (((sm_wa Y) ((sm_dy Y) % 8)) - ((sm_v Y 0 b) 0)))))
set_option maxRecDepth 100000 in
set_option maxHeartbeats 4000000 in
theorem c_Sim_weather {Γ : G9} {h : AH} {z : Nat} {A : AD} {Y : SM} {b : Nat} {vb : Int32} (eb : vb = nI b) (bb : b < cn A 0) (hA : AOk A) (hdy : sm_dy Y < 1000000) : CallR Γ M_Sim_weather 1 [.ref (ad A 6 0), .int vb] (smC Γ A h Y) z none (smC Γ A h (s_Sim_weather A Y b)) := by
  subst eb
  refine Call.of_go (L := [some (.ref (ad A 6 0)), some (.int (nI b)), none, none, none, none, none, none, none, none]) (by decide +kernel) rfl (by exact Nat.le_of_ble_eq_true rfl) ?_
  unfold s_Sim_weather
  refine Go.aload_0 d_Sim_weather_0 rfl ?_
  refine Go.getfield d_Sim_weather_1 rfl f_Sim_7 (sm_obj hA) (by rfl) ?_
  refine Go.aload_0 d_Sim_weather_4 rfl ?_
  refine Go.getfield d_Sim_weather_5 rfl f_Sim_34 (sm_obj hA) (by rfl) ?_
  refine Go.bipush (v := 8) d_Sim_weather_8 rfl (by decide) ?_
  refine Go.irem d_Sim_weather_10 rfl (by decide) ?_
  rw [show nI (sm_dy Y) - nI (sm_dy Y) / 8 * 8 = nI ((sm_dy Y) % 8) from nI_remm (m := 8) (Nat.lt_trans hdy (by decide)) (by decide) (by decide) rfl]
  refine Go.iaload d_Sim_weather_11 rfl (sm_war hA) (vp_in_nI (Nat.mod_lt _ (by decide)) (by decide)) ?_
  rw [nI_clamp (show ((sm_dy Y) % 8) < 2 ^ 31 from Nat.lt_trans (Nat.mod_lt _ (by decide)) (by decide))]
  refine Go.aload_0 d_Sim_weather_12 rfl ?_
  refine Go.getfield d_Sim_weather_13 rfl f_Sim_14 (sm_obj hA) (by rfl) ?_
  refine Go.iload_1 d_Sim_weather_16 rfl ?_
  refine Go.aaldA d_Sim_weather_17 rfl (sm_out hA (by decide)) (vp_in_nI bb (Nat.lt_of_le_of_lt (hA.2.2 0 (by decide)) (by decide))) ?_
  rw [nI_clamp (show b < 2 ^ 31 from Nat.lt_trans (Nat.lt_of_lt_of_le (show b < cn A 0 by first | assumption | omega) (hA.2.2 0 (by decide))) (by decide))]
  refine Go.iconst (v := 0) d_Sim_weather_18 rfl (by decide) ?_
  refine Go.iaload d_Sim_weather_19 rfl (sm_row hA (by decide) bb) (okI_in (by decide)) ?_
  rw [show (0 : Int32).toNatClampNeg = 0 from by decide]
  refine Go.isub d_Sim_weather_20 rfl ?_
  refine Go.istore_2 d_Sim_weather_21 rfl (by rfl) ?_
  refine Go.iload_2 d_Sim_weather_22 rfl ?_
  refine Go.if_le (t := 32) d_Sim_weather_23 (by decide) rfl (fun c23_1 => ?_) (fun c23_1 => ?_)
  · refine Go.iconst (v := 0) d_Sim_weather_32 rfl (by decide) ?_
    rw [if_pos c23_1]
    exact g_Sim_weather_33_go (its := (((sm_wa Y) ((sm_dy Y) % 8)) - ((sm_v Y 0 b) 0))) (ml := 0) bb hA hdy
  · refine Go.iconst (v := 3) d_Sim_weather_26 rfl (by decide) ?_
    refine Go.iload_2 d_Sim_weather_27 rfl ?_
    refine Go.imul d_Sim_weather_28 rfl ?_
    refine Go.goto (t := 33) d_Sim_weather_29 (by decide) ?_
    rw [if_neg c23_1]
    exact g_Sim_weather_33_go (its := (((sm_wa Y) ((sm_dy Y) % 8)) - ((sm_v Y 0 b) 0))) (ml := (3 * (((sm_wa Y) ((sm_dy Y) % 8)) - ((sm_v Y 0 b) 0)))) bb hA hdy
set_option maxRecDepth 100000 in
set_option maxHeartbeats 4000000 in
theorem sm_dy_Sim_weather {A : AD} {Y : SM} {b : Nat} : sm_dy (s_Sim_weather A Y b) = sm_dy Y := by
  unfold s_Sim_weather
  (repeat' split) <;> (try simp only [sm_dy_set, sm_dy_fl, sm_dy_ca, sm_dy_rd, sm_dy_Sim_probes, sm_dy_l_Sim_fills_29, sm_dy_Sim_fills, sm_dy_l_Sim_drills_25, sm_dy_Sim_drills, sm_dy_l_Sim_weather_145, sm_dy_l_Sim_weather_230, sm_dy_g_Sim_weather_131, sm_dy_g_Sim_weather_113, sm_dy_g_Sim_weather_79, sm_dy_g_Sim_weather_46, sm_dy_g_Sim_weather_33])
set_option maxRecDepth 100000 in
set_option maxHeartbeats 4000000 in
theorem v5_Sim_weather {A : AD} {Y : SM} {b : Nat} : v5 (s_Sim_weather A Y b) = v5 Y := by
  unfold s_Sim_weather
  (repeat' split) <;> (try simp only [v5_set0, v5_set1, v5_set2, v5_set3, v5_set4, v5_fl, v5_ca, v5_rd, v5_Sim_probes, v5_l_Sim_fills_29, v5_Sim_fills, v5_l_Sim_drills_25, v5_Sim_drills, v5_l_Sim_weather_145, v5_l_Sim_weather_230, v5_g_Sim_weather_131, v5_g_Sim_weather_113, v5_g_Sim_weather_79, v5_g_Sim_weather_46, v5_g_Sim_weather_33])
theorem d_Sim_eats_57 : decode M_Sim_eats.2.1 57 = .ok (.iload_n 2, 1) := by decide +kernel
theorem d_Sim_eats_58 : decode M_Sim_eats.2.1 58 = .ok (.ifCond .le 34, 3) := by decide +kernel
theorem d_Sim_eats_61 : decode M_Sim_eats.2.1 61 = .ok (.aload 7, 2) := by decide +kernel
theorem d_Sim_eats_63 : decode M_Sim_eats.2.1 63 = .ok (.iconst 0, 1) := by decide +kernel
theorem d_Sim_eats_64 : decode M_Sim_eats.2.1 64 = .ok (.iaload, 1) := by decide +kernel
theorem d_Sim_eats_65 : decode M_Sim_eats.2.1 65 = .ok (.aload_n 1, 1) := by decide +kernel
theorem d_Sim_eats_66 : decode M_Sim_eats.2.1 66 = .ok (.iconst 2, 1) := by decide +kernel
theorem d_Sim_eats_67 : decode M_Sim_eats.2.1 67 = .ok (.iaload, 1) := by decide +kernel
theorem d_Sim_eats_68 : decode M_Sim_eats.2.1 68 = .ok (.if_icmp .ne 24, 3) := by decide +kernel
theorem d_Sim_eats_71 : decode M_Sim_eats.2.1 71 = .ok (.aload 7, 2) := by decide +kernel
theorem d_Sim_eats_73 : decode M_Sim_eats.2.1 73 = .ok (.iconst 1, 1) := by decide +kernel
theorem d_Sim_eats_74 : decode M_Sim_eats.2.1 74 = .ok (.iaload, 1) := by decide +kernel
theorem d_Sim_eats_75 : decode M_Sim_eats.2.1 75 = .ok (.ifCond .le 17, 3) := by decide +kernel
theorem d_Sim_eats_78 : decode M_Sim_eats.2.1 78 = .ok (.aload 7, 2) := by decide +kernel
theorem d_Sim_eats_80 : decode M_Sim_eats.2.1 80 = .ok (.iconst 1, 1) := by decide +kernel
theorem d_Sim_eats_81 : decode M_Sim_eats.2.1 81 = .ok (.dup2, 1) := by decide +kernel
theorem d_Sim_eats_82 : decode M_Sim_eats.2.1 82 = .ok (.iaload, 1) := by decide +kernel
theorem d_Sim_eats_83 : decode M_Sim_eats.2.1 83 = .ok (.iconst 1, 1) := by decide +kernel
theorem d_Sim_eats_84 : decode M_Sim_eats.2.1 84 = .ok (.isub, 1) := by decide +kernel
theorem d_Sim_eats_85 : decode M_Sim_eats.2.1 85 = .ok (.iastore, 1) := by decide +kernel
theorem d_Sim_eats_86 : decode M_Sim_eats.2.1 86 = .ok (.iinc 2 (-1), 3) := by decide +kernel
theorem d_Sim_eats_89 : decode M_Sim_eats.2.1 89 = .ok (.goto (-32), 3) := by decide +kernel
def l_Sim_eats_57 (A : AD) (t j : Nat) : Nat → Int32 → SM → Int32 × SM
  | 0, lk, Y => (lk, Y)
  | k + 1, lk, Y => (if lk ≤ 0 then (lk, Y) else (if ((sm_v Y 3 j) 0) = ((sm_v Y 4 t) 2) then (if ((sm_v Y 3 j) 1) ≤ 0 then (lk, Y) else (l_Sim_eats_57 A t j k (lk + (-1)) (sm_set Y 3 j 1 (((sm_v Y 3 j) 1) - 1)))) else (lk, Y)))
set_option maxRecDepth 100000 in
set_option maxHeartbeats 4000000 in
theorem l_Sim_eats_57_go {Γ : G9} {h : AH} {z : Nat} {A : AD} {t j : Nat} {Q : QT} {X : XT} (hA : AOk A) (bt : t < cn A 4) (bj : j < cn A 3) : ∀ (k : Nat) (lk : Int32) (Y : SM), lk.toNatClampNeg ≤ k → Go Γ M_Sim_eats 1 0 0 92 [some (.ref (ad A 6 0)), some (.ref (ad A 4 t)), some (.int (l_Sim_eats_57 A t j k lk Y).1), none, some (.ref (ad A 8 3)), some (.int (nI (cn A 3))), some (.int (nI j)), some (.ref (ad A 3 j))] [] (smC Γ A h (l_Sim_eats_57 A t j k lk Y).2) z Q X → Go Γ M_Sim_eats 1 0 0 57 [some (.ref (ad A 6 0)), some (.ref (ad A 4 t)), some (.int lk), none, some (.ref (ad A 8 3)), some (.int (nI (cn A 3))), some (.int (nI j)), some (.ref (ad A 3 j))] [] (smC Γ A h Y) z Q X := by
  intro k
  induction k with
  | zero =>
    intro lk Y hb hk
    refine Go.iload_2 d_Sim_eats_57 rfl ?_
    refine Go.if_le (t := 92) d_Sim_eats_58 (by decide) rfl (fun c58_1 => ?_) (fun c58_1 => ?_)
    · exact hk
    · exact absurd (tnc0 hb) c58_1
  | succ k ih =>
    intro lk Y hb hk
    unfold l_Sim_eats_57 at hk
    refine Go.iload_2 d_Sim_eats_57 rfl ?_
    refine Go.if_le (t := 92) d_Sim_eats_58 (by decide) rfl (fun c58_1 => ?_) (fun c58_1 => ?_)
    · rw [if_pos c58_1] at hk
      exact hk
    · refine Go.aload_7 d_Sim_eats_61 rfl ?_
      refine Go.iconst (v := 0) d_Sim_eats_63 rfl (by decide) ?_
      refine Go.iaload d_Sim_eats_64 rfl (sm_row hA (by decide) bj) (okI_in (by decide)) ?_
      rw [show (0 : Int32).toNatClampNeg = 0 from by decide]
      refine Go.aload_1 d_Sim_eats_65 rfl ?_
      refine Go.iconst (v := 2) d_Sim_eats_66 rfl (by decide) ?_
      refine Go.iaload d_Sim_eats_67 rfl (sm_row hA (by decide) bt) (okI_in (by decide)) ?_
      rw [show (2 : Int32).toNatClampNeg = 2 from by decide]
      refine Go.icmp_ne (t := 92) d_Sim_eats_68 (by decide) rfl (fun c68_2 => ?_) (fun c68_2 => ?_)
      · rw [if_neg c58_1, if_neg c68_2] at hk
        exact hk
      · refine Go.aload_7 d_Sim_eats_71 rfl ?_
        refine Go.iconst (v := 1) d_Sim_eats_73 rfl (by decide) ?_
        refine Go.iaload d_Sim_eats_74 rfl (sm_row hA (by decide) bj) (okI_in (by decide)) ?_
        rw [show (1 : Int32).toNatClampNeg = 1 from by decide]
        refine Go.if_le (t := 92) d_Sim_eats_75 (by decide) rfl (fun c75_3 => ?_) (fun c75_3 => ?_)
        · rw [if_neg c58_1, if_pos c68_2, if_pos c75_3] at hk
          exact hk
        · refine Go.aload_7 d_Sim_eats_78 rfl ?_
          refine Go.iconst (v := 1) d_Sim_eats_80 rfl (by decide) ?_
          refine Go.dup2 d_Sim_eats_81 rfl rfl rfl ?_
          refine Go.iaload d_Sim_eats_82 rfl (sm_row hA (by decide) bj) (okI_in (by decide)) ?_
          rw [show (1 : Int32).toNatClampNeg = 1 from by decide]
          refine Go.iconst (v := 1) d_Sim_eats_83 rfl (by decide) ?_
          refine Go.isub d_Sim_eats_84 rfl ?_
          refine Go.iastore d_Sim_eats_85 rfl (sm_row hA (by decide) bj) (okI_in (by decide)) ?_
          rw [show (1 : Int32).toNatClampNeg = 1 from by decide]
          refine Go.heq (sm_setup hA (by decide) bj) ?_
          refine Go.iinc_2 d_Sim_eats_86 rfl (by rfl) (show _ + Int32.ofInt (-1) = _ + (-1) from rfl) ?_
          refine Go.goto (t := 57) d_Sim_eats_89 (by decide) ?_
          rw [if_neg c58_1, if_pos c68_2, if_neg c75_3] at hk
          exact ih _ _ (tnc_pred hb c58_1) hk
set_option maxRecDepth 100000 in
set_option maxHeartbeats 4000000 in
theorem sm_dy_l_Sim_eats_57 {A : AD} {t j : Nat} : ∀ (k : Nat) (lk : Int32) (Y : SM), sm_dy (l_Sim_eats_57 A t j k lk Y).2 = sm_dy Y := by
  intro k
  induction k with
  | zero => intros; rfl
  | succ k ih =>
    intros
    unfold l_Sim_eats_57
    (repeat' split) <;> (try simp only [ih, sm_dy_set, sm_dy_fl, sm_dy_ca, sm_dy_rd, sm_dy_Sim_probes, sm_dy_l_Sim_fills_29, sm_dy_Sim_fills, sm_dy_l_Sim_drills_25, sm_dy_Sim_drills, sm_dy_l_Sim_weather_145, sm_dy_l_Sim_weather_230, sm_dy_g_Sim_weather_131, sm_dy_g_Sim_weather_113, sm_dy_g_Sim_weather_79, sm_dy_g_Sim_weather_46, sm_dy_g_Sim_weather_33, sm_dy_Sim_weather])
set_option maxRecDepth 100000 in
set_option maxHeartbeats 4000000 in
theorem v5_l_Sim_eats_57 {A : AD} {t j : Nat} : ∀ (k : Nat) (lk : Int32) (Y : SM), v5 (l_Sim_eats_57 A t j k lk Y).2 = v5 Y := by
  intro k
  induction k with
  | zero => intros; rfl
  | succ k ih =>
    intros
    unfold l_Sim_eats_57
    (repeat' split) <;> (try simp only [ih, v5_set0, v5_set1, v5_set2, v5_set3, v5_set4, v5_fl, v5_ca, v5_rd, v5_Sim_probes, v5_l_Sim_fills_29, v5_Sim_fills, v5_l_Sim_drills_25, v5_Sim_drills, v5_l_Sim_weather_145, v5_l_Sim_weather_230, v5_g_Sim_weather_131, v5_g_Sim_weather_113, v5_g_Sim_weather_79, v5_g_Sim_weather_46, v5_g_Sim_weather_33, v5_Sim_weather])
theorem d_Sim_eats_43 : decode M_Sim_eats.2.1 43 = .ok (.iload 6, 2) := by decide +kernel
theorem d_Sim_eats_45 : decode M_Sim_eats.2.1 45 = .ok (.iload 5, 2) := by decide +kernel
theorem d_Sim_eats_47 : decode M_Sim_eats.2.1 47 = .ok (.if_icmp .ge 51, 3) := by decide +kernel
theorem d_Sim_eats_50 : decode M_Sim_eats.2.1 50 = .ok (.aload 4, 2) := by decide +kernel
theorem d_Sim_eats_52 : decode M_Sim_eats.2.1 52 = .ok (.iload 6, 2) := by decide +kernel
theorem d_Sim_eats_54 : decode M_Sim_eats.2.1 54 = .ok (.aaload, 1) := by decide +kernel
theorem d_Sim_eats_55 : decode M_Sim_eats.2.1 55 = .ok (.astore 7, 2) := by decide +kernel
theorem d_Sim_eats_92 : decode M_Sim_eats.2.1 92 = .ok (.iinc 6 1, 3) := by decide +kernel
theorem d_Sim_eats_95 : decode M_Sim_eats.2.1 95 = .ok (.goto (-52), 3) := by decide +kernel
def l_Sim_eats_43 (A : AD) (t : Nat) : Nat → Nat → Int32 → SM → Int32 × SM
  | 0, _, lk, Y => (lk, Y)
  | k + 1, i, lk, Y => (l_Sim_eats_43 A t k (i + 1) (l_Sim_eats_57 A t i (lk).toNatClampNeg lk Y).1 (l_Sim_eats_57 A t i (lk).toNatClampNeg lk Y).2)
set_option maxRecDepth 100000 in
set_option maxHeartbeats 4000000 in
theorem l_Sim_eats_43_go {Γ : G9} {h : AH} {z : Nat} {n : Nat} {Q : QT} {X : XT} {A : AD} {t : Nat} (bt : t < cn A 4) (hA : AOk A) (hn20 : n ≤ 20) : ∀ (k i : Nat) (lk : Int32) (Y : SM), i + k = n → cn A 3 = n → Go Γ M_Sim_eats 1 0 0 98 [some (.ref (ad A 6 0)), some (.ref (ad A 4 t)), some (.int (l_Sim_eats_43 A t k i lk Y).1), none, some (.ref (ad A 8 3)), some (.int (nI (cn A 3))), some (.int (nI (i + k))), none] [] (smC Γ A h (l_Sim_eats_43 A t k i lk Y).2) z Q X → Go Γ M_Sim_eats 1 0 0 43 [some (.ref (ad A 6 0)), some (.ref (ad A 4 t)), some (.int lk), none, some (.ref (ad A 8 3)), some (.int (nI (cn A 3))), some (.int (nI i)), none] [] (smC Γ A h Y) z Q X := by
  intro k
  induction k with
  | zero =>
    intro i lk Y hi hn hk
    refine Go.iload_6 d_Sim_eats_43 rfl ?_
    refine Go.iload_5 d_Sim_eats_45 rfl ?_
    refine Go.icmp_ge (t := 98) d_Sim_eats_47 (by decide) rfl (fun c47_1 => ?_) (fun c47_1 => ?_)
    · exact hk
    · exact absurd (nI_le (by omega) (by omega)) c47_1
  | succ k ih =>
    intro i lk Y hi hn hk
    unfold l_Sim_eats_43 at hk
    rw [show i + (k + 1) = i + 1 + k by omega] at hk
    refine Go.iload_6 d_Sim_eats_43 rfl ?_
    refine Go.iload_5 d_Sim_eats_45 rfl ?_
    refine Go.icmp_ge (t := 98) d_Sim_eats_47 (by decide) rfl (fun c47_1 => ?_) (fun c47_1 => ?_)
    · exact absurd c47_1 (nI_ge (by omega) (by omega))
    · refine Go.aload_4 d_Sim_eats_50 rfl ?_
      refine Go.iload_6 d_Sim_eats_52 rfl ?_
      refine Go.aaldA d_Sim_eats_54 rfl (sm_out hA (by decide)) (vp_in_nI (by omega) (Nat.lt_of_le_of_lt (hA.2.2 3 (by decide)) (by decide))) ?_
      rw [nI_clamp (show i < 2 ^ 31 from Nat.lt_trans (Nat.lt_of_lt_of_le (show i < cn A 3 by first | assumption | omega) (hA.2.2 3 (by decide))) (by decide))]
      refine Go.astore_7 d_Sim_eats_55 rfl (by rfl) ?_
      refine l_Sim_eats_57_go hA bt (by omega) (lk).toNatClampNeg _ _ (Nat.le_refl _) ?_
      refine Go.iinc_6 d_Sim_eats_92 rfl (by rfl) (nI_inc _) ?_
      refine Go.goto (t := 43) d_Sim_eats_95 (by decide) ?_
      refine Go.fgt [some (.ref (ad A 6 0)), some (.ref (ad A 4 t)), some (.int (l_Sim_eats_57 A t i (lk).toNatClampNeg lk Y).1), none, some (.ref (ad A 8 3)), some (.int (nI (cn A 3))), some (.int (nI (i + 1))), none] (by repeat' (first | exact trivial | refine ⟨rfl, ?_⟩)) ?_
      exact ih (i + 1) _ _ (by omega) (by first | exact hn | (simp only []; exact hn)) hk
set_option maxRecDepth 100000 in
set_option maxHeartbeats 4000000 in
theorem sm_dy_l_Sim_eats_43 {A : AD} {t : Nat} : ∀ (k i : Nat) (lk : Int32) (Y : SM), sm_dy (l_Sim_eats_43 A t k i lk Y).2 = sm_dy Y := by
  intro k
  induction k with
  | zero => intros; rfl
  | succ k ih =>
    intros
    unfold l_Sim_eats_43
    (repeat' split) <;> (try simp only [ih, sm_dy_set, sm_dy_fl, sm_dy_ca, sm_dy_rd, sm_dy_Sim_probes, sm_dy_l_Sim_fills_29, sm_dy_Sim_fills, sm_dy_l_Sim_drills_25, sm_dy_Sim_drills, sm_dy_l_Sim_weather_145, sm_dy_l_Sim_weather_230, sm_dy_g_Sim_weather_131, sm_dy_g_Sim_weather_113, sm_dy_g_Sim_weather_79, sm_dy_g_Sim_weather_46, sm_dy_g_Sim_weather_33, sm_dy_Sim_weather, sm_dy_l_Sim_eats_57])
set_option maxRecDepth 100000 in
set_option maxHeartbeats 4000000 in
theorem v5_l_Sim_eats_43 {A : AD} {t : Nat} : ∀ (k i : Nat) (lk : Int32) (Y : SM), v5 (l_Sim_eats_43 A t k i lk Y).2 = v5 Y := by
  intro k
  induction k with
  | zero => intros; rfl
  | succ k ih =>
    intros
    unfold l_Sim_eats_43
    (repeat' split) <;> (try simp only [ih, v5_set0, v5_set1, v5_set2, v5_set3, v5_set4, v5_fl, v5_ca, v5_rd, v5_Sim_probes, v5_l_Sim_fills_29, v5_Sim_fills, v5_l_Sim_drills_25, v5_Sim_drills, v5_l_Sim_weather_145, v5_l_Sim_weather_230, v5_g_Sim_weather_131, v5_g_Sim_weather_113, v5_g_Sim_weather_79, v5_g_Sim_weather_46, v5_g_Sim_weather_33, v5_Sim_weather, v5_l_Sim_eats_57])
theorem d_Sim_eats_0 : decode M_Sim_eats.2.1 0 = .ok (.aload_n 1, 1) := by decide +kernel
theorem d_Sim_eats_1 : decode M_Sim_eats.2.1 1 = .ok (.iconst 0, 1) := by decide +kernel
theorem d_Sim_eats_2 : decode M_Sim_eats.2.1 2 = .ok (.iaload, 1) := by decide +kernel
theorem d_Sim_eats_3 : decode M_Sim_eats.2.1 3 = .ok (.aload_n 1, 1) := by decide +kernel
theorem d_Sim_eats_4 : decode M_Sim_eats.2.1 4 = .ok (.iconst 0, 1) := by decide +kernel
theorem d_Sim_eats_5 : decode M_Sim_eats.2.1 5 = .ok (.iaload, 1) := by decide +kernel
theorem d_Sim_eats_6 : decode M_Sim_eats.2.1 6 = .ok (.iconst 2, 1) := by decide +kernel
theorem d_Sim_eats_7 : decode M_Sim_eats.2.1 7 = .ok (.idiv, 1) := by decide +kernel
theorem d_Sim_eats_8 : decode M_Sim_eats.2.1 8 = .ok (.isub, 1) := by decide +kernel
theorem d_Sim_eats_9 : decode M_Sim_eats.2.1 9 = .ok (.istore_n 2, 1) := by decide +kernel
theorem d_Sim_eats_10 : decode M_Sim_eats.2.1 10 = .ok (.iload_n 2, 1) := by decide +kernel
theorem d_Sim_eats_11 : decode M_Sim_eats.2.1 11 = .ok (.aload_n 1, 1) := by decide +kernel
theorem d_Sim_eats_12 : decode M_Sim_eats.2.1 12 = .ok (.iconst 1, 1) := by decide +kernel
theorem d_Sim_eats_13 : decode M_Sim_eats.2.1 13 = .ok (.iaload, 1) := by decide +kernel
theorem d_Sim_eats_14 : decode M_Sim_eats.2.1 14 = .ok (.invokestatic 67, 3) := by decide +kernel
theorem d_Sim_eats_17 : decode M_Sim_eats.2.1 17 = .ok (.istore_n 3, 1) := by decide +kernel
theorem d_Sim_eats_18 : decode M_Sim_eats.2.1 18 = .ok (.aload_n 1, 1) := by decide +kernel
theorem d_Sim_eats_19 : decode M_Sim_eats.2.1 19 = .ok (.iconst 1, 1) := by decide +kernel
theorem d_Sim_eats_20 : decode M_Sim_eats.2.1 20 = .ok (.dup2, 1) := by decide +kernel
theorem d_Sim_eats_21 : decode M_Sim_eats.2.1 21 = .ok (.iaload, 1) := by decide +kernel
theorem d_Sim_eats_22 : decode M_Sim_eats.2.1 22 = .ok (.iload_n 3, 1) := by decide +kernel
theorem d_Sim_eats_23 : decode M_Sim_eats.2.1 23 = .ok (.isub, 1) := by decide +kernel
theorem d_Sim_eats_24 : decode M_Sim_eats.2.1 24 = .ok (.iastore, 1) := by decide +kernel
theorem d_Sim_eats_25 : decode M_Sim_eats.2.1 25 = .ok (.iload_n 2, 1) := by decide +kernel
theorem d_Sim_eats_26 : decode M_Sim_eats.2.1 26 = .ok (.iload_n 3, 1) := by decide +kernel
theorem d_Sim_eats_27 : decode M_Sim_eats.2.1 27 = .ok (.isub, 1) := by decide +kernel
theorem d_Sim_eats_28 : decode M_Sim_eats.2.1 28 = .ok (.istore_n 2, 1) := by decide +kernel
theorem d_Sim_eats_29 : decode M_Sim_eats.2.1 29 = .ok (.aload_n 0, 1) := by decide +kernel
theorem d_Sim_eats_30 : decode M_Sim_eats.2.1 30 = .ok (.getfield 24, 3) := by decide +kernel
theorem d_Sim_eats_33 : decode M_Sim_eats.2.1 33 = .ok (.astore 4, 2) := by decide +kernel
theorem d_Sim_eats_35 : decode M_Sim_eats.2.1 35 = .ok (.aload 4, 2) := by decide +kernel
theorem d_Sim_eats_37 : decode M_Sim_eats.2.1 37 = .ok (.arraylength, 1) := by decide +kernel
theorem d_Sim_eats_38 : decode M_Sim_eats.2.1 38 = .ok (.istore 5, 2) := by decide +kernel
theorem d_Sim_eats_40 : decode M_Sim_eats.2.1 40 = .ok (.iconst 0, 1) := by decide +kernel
theorem d_Sim_eats_41 : decode M_Sim_eats.2.1 41 = .ok (.istore 6, 2) := by decide +kernel
theorem d_Sim_eats_98 : decode M_Sim_eats.2.1 98 = .ok (.aload_n 1, 1) := by decide +kernel
theorem d_Sim_eats_99 : decode M_Sim_eats.2.1 99 = .ok (.iconst 3, 1) := by decide +kernel
theorem d_Sim_eats_100 : decode M_Sim_eats.2.1 100 = .ok (.iload_n 2, 1) := by decide +kernel
theorem d_Sim_eats_101 : decode M_Sim_eats.2.1 101 = .ok (.ifCond .ne 7, 3) := by decide +kernel
theorem d_Sim_eats_104 : decode M_Sim_eats.2.1 104 = .ok (.iconst 0, 1) := by decide +kernel
theorem d_Sim_eats_105 : decode M_Sim_eats.2.1 105 = .ok (.goto 8, 3) := by decide +kernel
theorem d_Sim_eats_108 : decode M_Sim_eats.2.1 108 = .ok (.aload_n 1, 1) := by decide +kernel
theorem d_Sim_eats_109 : decode M_Sim_eats.2.1 109 = .ok (.iconst 3, 1) := by decide +kernel
theorem d_Sim_eats_110 : decode M_Sim_eats.2.1 110 = .ok (.iaload, 1) := by decide +kernel
theorem d_Sim_eats_111 : decode M_Sim_eats.2.1 111 = .ok (.iconst 1, 1) := by decide +kernel
theorem d_Sim_eats_112 : decode M_Sim_eats.2.1 112 = .ok (.iadd, 1) := by decide +kernel
theorem d_Sim_eats_113 : decode M_Sim_eats.2.1 113 = .ok (.iastore, 1) := by decide +kernel
theorem d_Sim_eats_114 : decode M_Sim_eats.2.1 114 = .ok (.aload_n 1, 1) := by decide +kernel
theorem d_Sim_eats_115 : decode M_Sim_eats.2.1 115 = .ok (.iconst 3, 1) := by decide +kernel
theorem d_Sim_eats_116 : decode M_Sim_eats.2.1 116 = .ok (.iaload, 1) := by decide +kernel
theorem d_Sim_eats_117 : decode M_Sim_eats.2.1 117 = .ok (.iconst 2, 1) := by decide +kernel
theorem d_Sim_eats_118 : decode M_Sim_eats.2.1 118 = .ok (.if_icmp .le 7, 3) := by decide +kernel
theorem d_Sim_eats_121 : decode M_Sim_eats.2.1 121 = .ok (.aload_n 1, 1) := by decide +kernel
theorem d_Sim_eats_122 : decode M_Sim_eats.2.1 122 = .ok (.iconst 4, 1) := by decide +kernel
theorem d_Sim_eats_123 : decode M_Sim_eats.2.1 123 = .ok (.iconst 0, 1) := by decide +kernel
theorem d_Sim_eats_124 : decode M_Sim_eats.2.1 124 = .ok (.iastore, 1) := by decide +kernel
theorem d_Sim_eats_125 : decode M_Sim_eats.2.1 125 = .ok (.return_, 1) := by decide +kernel
def s_Sim_eats (A : AD) (Y : SM) (t : Nat) : SM := (if (l_Sim_eats_43 A t (cn A 3) 0 ((((sm_v Y 4 t) 0) - (((sm_v Y 4 t) 0) / 2)) - (iMin (((sm_v Y 4 t) 0) - (((sm_v Y 4 t) 0) / 2)) ((sm_v Y 4 t) 1))) (sm_set Y 4 t 1 (((sm_v Y 4 t) 1) - (iMin (((sm_v Y 4 t) 0) - (((sm_v Y 4 t) 0) / 2)) ((sm_v Y 4 t) 1))))).1 = 0 then (if ((sm_v (sm_set (l_Sim_eats_43 A t (cn A 3) 0 ((((sm_v Y 4 t) 0) - (((sm_v Y 4 t) 0) / 2)) - (iMin (((sm_v Y 4 t) 0) - (((sm_v Y 4 t) 0) / 2)) ((sm_v Y 4 t) 1))) (sm_set Y 4 t 1 (((sm_v Y 4 t) 1) - (iMin (((sm_v Y 4 t) 0) - (((sm_v Y 4 t) 0) / 2)) ((sm_v Y 4 t) 1))))).2 4 t 3 0) 4 t) 3) ≤ 2 then (sm_set (l_Sim_eats_43 A t (cn A 3) 0 ((((sm_v Y 4 t) 0) - (((sm_v Y 4 t) 0) / 2)) - (iMin (((sm_v Y 4 t) 0) - (((sm_v Y 4 t) 0) / 2)) ((sm_v Y 4 t) 1))) (sm_set Y 4 t 1 (((sm_v Y 4 t) 1) - (iMin (((sm_v Y 4 t) 0) - (((sm_v Y 4 t) 0) / 2)) ((sm_v Y 4 t) 1))))).2 4 t 3 0) else (sm_set (sm_set (l_Sim_eats_43 A t (cn A 3) 0 ((((sm_v Y 4 t) 0) - (((sm_v Y 4 t) 0) / 2)) - (iMin (((sm_v Y 4 t) 0) - (((sm_v Y 4 t) 0) / 2)) ((sm_v Y 4 t) 1))) (sm_set Y 4 t 1 (((sm_v Y 4 t) 1) - (iMin (((sm_v Y 4 t) 0) - (((sm_v Y 4 t) 0) / 2)) ((sm_v Y 4 t) 1))))).2 4 t 3 0) 4 t 4 0)) else (if ((sm_v (sm_set (l_Sim_eats_43 A t (cn A 3) 0 ((((sm_v Y 4 t) 0) - (((sm_v Y 4 t) 0) / 2)) - (iMin (((sm_v Y 4 t) 0) - (((sm_v Y 4 t) 0) / 2)) ((sm_v Y 4 t) 1))) (sm_set Y 4 t 1 (((sm_v Y 4 t) 1) - (iMin (((sm_v Y 4 t) 0) - (((sm_v Y 4 t) 0) / 2)) ((sm_v Y 4 t) 1))))).2 4 t 3 (((sm_v (l_Sim_eats_43 A t (cn A 3) 0 ((((sm_v Y 4 t) 0) - (((sm_v Y 4 t) 0) / 2)) - (iMin (((sm_v Y 4 t) 0) - (((sm_v Y 4 t) 0) / 2)) ((sm_v Y 4 t) 1))) (sm_set Y 4 t 1 (((sm_v Y 4 t) 1) - (iMin (((sm_v Y 4 t) 0) - (((sm_v Y 4 t) 0) / 2)) ((sm_v Y 4 t) 1))))).2 4 t) 3) + 1)) 4 t) 3) ≤ 2 then (sm_set (l_Sim_eats_43 A t (cn A 3) 0 ((((sm_v Y 4 t) 0) - (((sm_v Y 4 t) 0) / 2)) - (iMin (((sm_v Y 4 t) 0) - (((sm_v Y 4 t) 0) / 2)) ((sm_v Y 4 t) 1))) (sm_set Y 4 t 1 (((sm_v Y 4 t) 1) - (iMin (((sm_v Y 4 t) 0) - (((sm_v Y 4 t) 0) / 2)) ((sm_v Y 4 t) 1))))).2 4 t 3 (((sm_v (l_Sim_eats_43 A t (cn A 3) 0 ((((sm_v Y 4 t) 0) - (((sm_v Y 4 t) 0) / 2)) - (iMin (((sm_v Y 4 t) 0) - (((sm_v Y 4 t) 0) / 2)) ((sm_v Y 4 t) 1))) (sm_set Y 4 t 1 (((sm_v Y 4 t) 1) - (iMin (((sm_v Y 4 t) 0) - (((sm_v Y 4 t) 0) / 2)) ((sm_v Y 4 t) 1))))).2 4 t) 3) + 1)) else (sm_set (sm_set (l_Sim_eats_43 A t (cn A 3) 0 ((((sm_v Y 4 t) 0) - (((sm_v Y 4 t) 0) / 2)) - (iMin (((sm_v Y 4 t) 0) - (((sm_v Y 4 t) 0) / 2)) ((sm_v Y 4 t) 1))) (sm_set Y 4 t 1 (((sm_v Y 4 t) 1) - (iMin (((sm_v Y 4 t) 0) - (((sm_v Y 4 t) 0) / 2)) ((sm_v Y 4 t) 1))))).2 4 t 3 (((sm_v (l_Sim_eats_43 A t (cn A 3) 0 ((((sm_v Y 4 t) 0) - (((sm_v Y 4 t) 0) / 2)) - (iMin (((sm_v Y 4 t) 0) - (((sm_v Y 4 t) 0) / 2)) ((sm_v Y 4 t) 1))) (sm_set Y 4 t 1 (((sm_v Y 4 t) 1) - (iMin (((sm_v Y 4 t) 0) - (((sm_v Y 4 t) 0) / 2)) ((sm_v Y 4 t) 1))))).2 4 t) 3) + 1)) 4 t 4 0)))
set_option maxRecDepth 100000 in
set_option maxHeartbeats 4000000 in
theorem c_Sim_eats {Γ : G9} {h : AH} {z : Nat} {A : AD} {Y : SM} {t : Nat} (bt : t < cn A 4) (hA : AOk A) : CallR Γ M_Sim_eats 1 [.ref (ad A 6 0), .ref (ad A 4 t)] (smC Γ A h Y) z none (smC Γ A h (s_Sim_eats A Y t)) := by
  refine Call.of_go (L := [some (.ref (ad A 6 0)), some (.ref (ad A 4 t)), none, none, none, none, none, none]) (by decide +kernel) rfl (by exact Nat.le_of_ble_eq_true rfl) ?_
  unfold s_Sim_eats
  refine Go.aload_1 d_Sim_eats_0 rfl ?_
  refine Go.iconst (v := 0) d_Sim_eats_1 rfl (by decide) ?_
  refine Go.iaload d_Sim_eats_2 rfl (sm_row hA (by decide) bt) (okI_in (by decide)) ?_
  rw [show (0 : Int32).toNatClampNeg = 0 from by decide]
  refine Go.aload_1 d_Sim_eats_3 rfl ?_
  refine Go.iconst (v := 0) d_Sim_eats_4 rfl (by decide) ?_
  refine Go.iaload d_Sim_eats_5 rfl (sm_row hA (by decide) bt) (okI_in (by decide)) ?_
  rw [show (0 : Int32).toNatClampNeg = 0 from by decide]
  refine Go.iconst (v := 2) d_Sim_eats_6 rfl (by decide) ?_
  refine Go.idiv d_Sim_eats_7 rfl (by decide) ?_
  refine Go.isub d_Sim_eats_8 rfl ?_
  refine Go.istore_2 d_Sim_eats_9 rfl (by rfl) ?_
  refine Go.iload_2 d_Sim_eats_10 rfl ?_
  refine Go.aload_1 d_Sim_eats_11 rfl ?_
  refine Go.iconst (v := 1) d_Sim_eats_12 rfl (by decide) ?_
  refine Go.iaload d_Sim_eats_13 rfl (sm_row hA (by decide) bt) (okI_in (by decide)) ?_
  rw [show (1 : Int32).toNatClampNeg = 1 from by decide]
  refine Go.imin d_Sim_eats_14 rfl l_Sim_67 (by decide) rfl ?_
  refine Go.istore_3 d_Sim_eats_17 rfl (by rfl) ?_
  refine Go.aload_1 d_Sim_eats_18 rfl ?_
  refine Go.iconst (v := 1) d_Sim_eats_19 rfl (by decide) ?_
  refine Go.dup2 d_Sim_eats_20 rfl rfl rfl ?_
  refine Go.iaload d_Sim_eats_21 rfl (sm_row hA (by decide) bt) (okI_in (by decide)) ?_
  rw [show (1 : Int32).toNatClampNeg = 1 from by decide]
  refine Go.iload_3 d_Sim_eats_22 rfl ?_
  refine Go.isub d_Sim_eats_23 rfl ?_
  refine Go.iastore d_Sim_eats_24 rfl (sm_row hA (by decide) bt) (okI_in (by decide)) ?_
  rw [show (1 : Int32).toNatClampNeg = 1 from by decide]
  refine Go.heq (sm_setup hA (by decide) bt) ?_
  refine Go.iload_2 d_Sim_eats_25 rfl ?_
  refine Go.iload_3 d_Sim_eats_26 rfl ?_
  refine Go.isub d_Sim_eats_27 rfl ?_
  refine Go.istore_2 d_Sim_eats_28 rfl (by rfl) ?_
  refine Go.aload_0 d_Sim_eats_29 rfl ?_
  refine Go.getfield d_Sim_eats_30 rfl f_Sim_24 (sm_obj hA) (by rfl) ?_
  refine Go.astore_4 d_Sim_eats_33 rfl (by rfl) ?_
  refine Go.aload_4 d_Sim_eats_35 rfl ?_
  refine Go.alen (n := (nI (cn A 3))) d_Sim_eats_37 rfl (sm_out hA (by decide)) (by rfl) rfl ?_
  refine Go.istore_5 d_Sim_eats_38 rfl (by rfl) ?_
  refine Go.iconst (v := 0) d_Sim_eats_40 rfl (by decide) ?_
  refine Go.istore_6 d_Sim_eats_41 rfl (by rfl) ?_
  refine Go.fgt [some (.ref (ad A 6 0)), some (.ref (ad A 4 t)), some (.int ((((sm_v Y 4 t) 0) - (((sm_v Y 4 t) 0) / 2)) - (iMin (((sm_v Y 4 t) 0) - (((sm_v Y 4 t) 0) / 2)) ((sm_v Y 4 t) 1)))), none, some (.ref (ad A 8 3)), some (.int (nI (cn A 3))), some (.int 0), none] (by repeat' (first | exact trivial | refine ⟨rfl, ?_⟩)) ?_
  refine l_Sim_eats_43_go (n := (cn A 3)) bt hA (Nat.le_trans (hA.2.2 3 (by decide)) (by decide)) (cn A 3) 0 ((((sm_v Y 4 t) 0) - (((sm_v Y 4 t) 0) / 2)) - (iMin (((sm_v Y 4 t) 0) - (((sm_v Y 4 t) 0) / 2)) ((sm_v Y 4 t) 1))) (sm_set Y 4 t 1 (((sm_v Y 4 t) 1) - (iMin (((sm_v Y 4 t) 0) - (((sm_v Y 4 t) 0) / 2)) ((sm_v Y 4 t) 1)))) (by omega) rfl ?_
  refine Go.aload_1 d_Sim_eats_98 rfl ?_
  refine Go.iconst (v := 3) d_Sim_eats_99 rfl (by decide) ?_
  refine Go.iload_2 d_Sim_eats_100 rfl ?_
  refine Go.if_ne (t := 108) d_Sim_eats_101 (by decide) rfl (fun c101_1 => ?_) (fun c101_1 => ?_)
  · refine Go.aload_1 d_Sim_eats_108 rfl ?_
    refine Go.iconst (v := 3) d_Sim_eats_109 rfl (by decide) ?_
    refine Go.iaload d_Sim_eats_110 rfl (sm_row hA (by decide) bt) (okI_in (by decide)) ?_
    rw [show (3 : Int32).toNatClampNeg = 3 from by decide]
    refine Go.iconst (v := 1) d_Sim_eats_111 rfl (by decide) ?_
    refine Go.iadd d_Sim_eats_112 rfl ?_
    refine Go.iastore d_Sim_eats_113 rfl (sm_row hA (by decide) bt) (okI_in (by decide)) ?_
    rw [show (3 : Int32).toNatClampNeg = 3 from by decide]
    refine Go.heq (sm_setup hA (by decide) bt) ?_
    refine Go.aload_1 d_Sim_eats_114 rfl ?_
    refine Go.iconst (v := 3) d_Sim_eats_115 rfl (by decide) ?_
    refine Go.iaload d_Sim_eats_116 rfl (sm_row hA (by decide) bt) (okI_in (by decide)) ?_
    rw [show (3 : Int32).toNatClampNeg = 3 from by decide]
    refine Go.iconst (v := 2) d_Sim_eats_117 rfl (by decide) ?_
    refine Go.icmp_le (t := 125) d_Sim_eats_118 (by decide) rfl (fun c118_2 => ?_) (fun c118_2 => ?_)
    · rw [if_neg c101_1, if_pos c118_2]
      exact Go.vret d_Sim_eats_125 rfl ⟨rfl, by dsimp only, rfl⟩
    · refine Go.aload_1 d_Sim_eats_121 rfl ?_
      refine Go.iconst (v := 4) d_Sim_eats_122 rfl (by decide) ?_
      refine Go.iconst (v := 0) d_Sim_eats_123 rfl (by decide) ?_
      refine Go.iastore d_Sim_eats_124 rfl (sm_row hA (by decide) bt) (okI_in (by decide)) ?_
      rw [show (4 : Int32).toNatClampNeg = 4 from by decide]
      refine Go.heq (sm_setup hA (by decide) bt) ?_
      rw [if_neg c101_1, if_neg c118_2]
      exact Go.vret d_Sim_eats_125 rfl ⟨rfl, by dsimp only, rfl⟩
  · refine Go.iconst (v := 0) d_Sim_eats_104 rfl (by decide) ?_
    refine Go.goto (t := 113) d_Sim_eats_105 (by decide) ?_
    refine Go.iastore d_Sim_eats_113 rfl (sm_row hA (by decide) bt) (okI_in (by decide)) ?_
    rw [show (3 : Int32).toNatClampNeg = 3 from by decide]
    refine Go.heq (sm_setup hA (by decide) bt) ?_
    refine Go.aload_1 d_Sim_eats_114 rfl ?_
    refine Go.iconst (v := 3) d_Sim_eats_115 rfl (by decide) ?_
    refine Go.iaload d_Sim_eats_116 rfl (sm_row hA (by decide) bt) (okI_in (by decide)) ?_
    rw [show (3 : Int32).toNatClampNeg = 3 from by decide]
    refine Go.iconst (v := 2) d_Sim_eats_117 rfl (by decide) ?_
    refine Go.icmp_le (t := 125) d_Sim_eats_118 (by decide) rfl (fun c118_3 => ?_) (fun c118_3 => ?_)
    · rw [if_pos c101_1, if_pos c118_3]
      exact Go.vret d_Sim_eats_125 rfl ⟨rfl, by dsimp only, rfl⟩
    · refine Go.aload_1 d_Sim_eats_121 rfl ?_
      refine Go.iconst (v := 4) d_Sim_eats_122 rfl (by decide) ?_
      refine Go.iconst (v := 0) d_Sim_eats_123 rfl (by decide) ?_
      refine Go.iastore d_Sim_eats_124 rfl (sm_row hA (by decide) bt) (okI_in (by decide)) ?_
      rw [show (4 : Int32).toNatClampNeg = 4 from by decide]
      refine Go.heq (sm_setup hA (by decide) bt) ?_
      rw [if_pos c101_1, if_neg c118_3]
      exact Go.vret d_Sim_eats_125 rfl ⟨rfl, by dsimp only, rfl⟩
set_option maxRecDepth 100000 in
set_option maxHeartbeats 4000000 in
theorem sm_dy_Sim_eats {A : AD} {Y : SM} {t : Nat} : sm_dy (s_Sim_eats A Y t) = sm_dy Y := by
  unfold s_Sim_eats
  (repeat' split) <;> (try simp only [sm_dy_set, sm_dy_fl, sm_dy_ca, sm_dy_rd, sm_dy_Sim_probes, sm_dy_l_Sim_fills_29, sm_dy_Sim_fills, sm_dy_l_Sim_drills_25, sm_dy_Sim_drills, sm_dy_l_Sim_weather_145, sm_dy_l_Sim_weather_230, sm_dy_g_Sim_weather_131, sm_dy_g_Sim_weather_113, sm_dy_g_Sim_weather_79, sm_dy_g_Sim_weather_46, sm_dy_g_Sim_weather_33, sm_dy_Sim_weather, sm_dy_l_Sim_eats_57, sm_dy_l_Sim_eats_43])
set_option maxRecDepth 100000 in
set_option maxHeartbeats 4000000 in
theorem v5_Sim_eats {A : AD} {Y : SM} {t : Nat} : v5 (s_Sim_eats A Y t) = v5 Y := by
  unfold s_Sim_eats
  (repeat' split) <;> (try simp only [v5_set0, v5_set1, v5_set2, v5_set3, v5_set4, v5_fl, v5_ca, v5_rd, v5_Sim_probes, v5_l_Sim_fills_29, v5_Sim_fills, v5_l_Sim_drills_25, v5_Sim_drills, v5_l_Sim_weather_145, v5_l_Sim_weather_230, v5_g_Sim_weather_131, v5_g_Sim_weather_113, v5_g_Sim_weather_79, v5_g_Sim_weather_46, v5_g_Sim_weather_33, v5_Sim_weather, v5_l_Sim_eats_57, v5_l_Sim_eats_43])
