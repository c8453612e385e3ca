/-! the law's list: rules -/
theorem xq_Sim1 : Cond.methodLink "GlacierCampLaw$Sim" 1 Lib.objectInit ∈ gw := gm_5 (List.mem_of_getElem? (i := 189) rfl) rfl
theorem xq_A13 : Cond.classLink "GlacierCampLaw$Sim" 13 "[I" ∈ gw := gm_5 (List.mem_of_getElem? (i := 190) rfl) rfl
theorem xq_A129 : Cond.classLink "GlacierCampLaw" 129 "[I" ∈ gw := gm_5 (List.mem_of_getElem? (i := 233) rfl) rfl
theorem xq_T16 : Cond.classLink "GlacierCampLaw" 16 "java/lang/String" ∈ gw := gm_6 (List.mem_of_getElem? (i := 142) rfl) rfl
theorem xq_S116 : Cond.classLink "GlacierCampLaw" 116 "GlacierCampLaw$Sim" ∈ gw := gm_5 (List.mem_of_getElem? (i := 185) rfl) rfl
theorem xq_insSim : Cond.instantiable "GlacierCampLaw$Sim" 11 ∈ gw := gm_3 (List.mem_of_getElem? (i := 151) rfl) rfl
theorem xq_iniSim : Cond.initialized "GlacierCampLaw$Sim" ∈ gw := gm_1 (List.mem_of_getElem? (i := 14) rfl) rfl
abbrev simF0 : List Value := [.int 0, .int 0, .int 0, .int 0, .null, .null, .null, .null, .null, .null, .null]
theorem n9_fs_Sim : ∀ j, j < 11 → defaultValue (ty_Sim j) = vp_V simF0 j := by
  intro j hj
  match j, hj with
  | 0, _ => rfl
  | 1, _ => rfl
  | 2, _ => rfl
  | 3, _ => rfl
  | 4, _ => rfl
  | 5, _ => rfl
  | 6, _ => rfl
  | 7, _ => rfl
  | 8, _ => rfl
  | 9, _ => rfl
  | 10, _ => rfl
  | _ + 11, w => exact absurd w (by omega)
/-- a new glacier of the law at t, its cells from z on -/
def simN (Γ : G9) (h : AH) (t z : Nat) : AH := hup (hup (hup (hup (hup (hup (hup (hup h z (aI Γ 8 (fun _ => 10))) (z + 1) (aA Γ 0 (fun _ => none))) (z + 2) (aA Γ 0 (fun _ => none))) (z + 3) (aA Γ 0 (fun _ => none))) (z + 4) (aA Γ 0 (fun _ => none))) (z + 5) (aA Γ 0 (fun _ => none))) (z + 6) (aA Γ 0 (fun _ => none))) t (.inr (9, [.int 0, .int 0, .int 0, .int 0, .ref z, .ref (z + 1), .ref (z + 2), .ref (z + 3), .ref (z + 4), .ref (z + 5), .ref (z + 6)]))
theorem d_Sim_init_0 : decode M_Sim_init.2.1 0 = .ok (.aload_n 0, 1) := by decide +kernel
theorem d_Sim_init_1 : decode M_Sim_init.2.1 1 = .ok (.invokespecial 1, 3) := by decide +kernel
theorem d_Sim_init_4 : decode M_Sim_init.2.1 4 = .ok (.aload_n 0, 1) := by decide +kernel
theorem d_Sim_init_5 : decode M_Sim_init.2.1 5 = .ok (.bipush 8, 2) := by decide +kernel
theorem d_Sim_init_7 : decode M_Sim_init.2.1 7 = .ok (.newarray .int, 2) := by decide +kernel
theorem d_Sim_init_9 : decode M_Sim_init.2.1 9 = .ok (.dup, 1) := by decide +kernel
theorem d_Sim_init_10 : decode M_Sim_init.2.1 10 = .ok (.iconst 0, 1) := by decide +kernel
theorem d_Sim_init_11 : decode M_Sim_init.2.1 11 = .ok (.bipush 10, 2) := by decide +kernel
theorem d_Sim_init_13 : decode M_Sim_init.2.1 13 = .ok (.iastore, 1) := by decide +kernel
theorem d_Sim_init_14 : decode M_Sim_init.2.1 14 = .ok (.dup, 1) := by decide +kernel
theorem d_Sim_init_15 : decode M_Sim_init.2.1 15 = .ok (.iconst 1, 1) := by decide +kernel
theorem d_Sim_init_16 : decode M_Sim_init.2.1 16 = .ok (.bipush 10, 2) := by decide +kernel
theorem d_Sim_init_18 : decode M_Sim_init.2.1 18 = .ok (.iastore, 1) := by decide +kernel
theorem d_Sim_init_19 : decode M_Sim_init.2.1 19 = .ok (.dup, 1) := by decide +kernel
theorem d_Sim_init_20 : decode M_Sim_init.2.1 20 = .ok (.iconst 2, 1) := by decide +kernel
theorem d_Sim_init_21 : decode M_Sim_init.2.1 21 = .ok (.bipush 10, 2) := by decide +kernel
theorem d_Sim_init_23 : decode M_Sim_init.2.1 23 = .ok (.iastore, 1) := by decide +kernel
theorem d_Sim_init_24 : decode M_Sim_init.2.1 24 = .ok (.dup, 1) := by decide +kernel
theorem d_Sim_init_25 : decode M_Sim_init.2.1 25 = .ok (.iconst 3, 1) := by decide +kernel
theorem d_Sim_init_26 : decode M_Sim_init.2.1 26 = .ok (.bipush 10, 2) := by decide +kernel
theorem d_Sim_init_28 : decode M_Sim_init.2.1 28 = .ok (.iastore, 1) := by decide +kernel
theorem d_Sim_init_29 : decode M_Sim_init.2.1 29 = .ok (.dup, 1) := by decide +kernel
theorem d_Sim_init_30 : decode M_Sim_init.2.1 30 = .ok (.iconst 4, 1) := by decide +kernel
theorem d_Sim_init_31 : decode M_Sim_init.2.1 31 = .ok (.bipush 10, 2) := by decide +kernel
theorem d_Sim_init_33 : decode M_Sim_init.2.1 33 = .ok (.iastore, 1) := by decide +kernel
theorem d_Sim_init_34 : decode M_Sim_init.2.1 34 = .ok (.dup, 1) := by decide +kernel
theorem d_Sim_init_35 : decode M_Sim_init.2.1 35 = .ok (.iconst 5, 1) := by decide +kernel
theorem d_Sim_init_36 : decode M_Sim_init.2.1 36 = .ok (.bipush 10, 2) := by decide +kernel
theorem d_Sim_init_38 : decode M_Sim_init.2.1 38 = .ok (.iastore, 1) := by decide +kernel
theorem d_Sim_init_39 : decode M_Sim_init.2.1 39 = .ok (.dup, 1) := by decide +kernel
theorem d_Sim_init_40 : decode M_Sim_init.2.1 40 = .ok (.bipush 6, 2) := by decide +kernel
theorem d_Sim_init_42 : decode M_Sim_init.2.1 42 = .ok (.bipush 10, 2) := by decide +kernel
theorem d_Sim_init_44 : decode M_Sim_init.2.1 44 = .ok (.iastore, 1) := by decide +kernel
theorem d_Sim_init_45 : decode M_Sim_init.2.1 45 = .ok (.dup, 1) := by decide +kernel
theorem d_Sim_init_46 : decode M_Sim_init.2.1 46 = .ok (.bipush 7, 2) := by decide +kernel
theorem d_Sim_init_48 : decode M_Sim_init.2.1 48 = .ok (.bipush 10, 2) := by decide +kernel
theorem d_Sim_init_50 : decode M_Sim_init.2.1 50 = .ok (.iastore, 1) := by decide +kernel
theorem d_Sim_init_51 : decode M_Sim_init.2.1 51 = .ok (.putfield 7, 3) := by decide +kernel
theorem d_Sim_init_54 : decode M_Sim_init.2.1 54 = .ok (.aload_n 0, 1) := by decide +kernel
theorem d_Sim_init_55 : decode M_Sim_init.2.1 55 = .ok (.iconst 0, 1) := by decide +kernel
theorem d_Sim_init_56 : decode M_Sim_init.2.1 56 = .ok (.anewarray 13, 3) := by decide +kernel
theorem d_Sim_init_59 : decode M_Sim_init.2.1 59 = .ok (.putfield 14, 3) := by decide +kernel
theorem d_Sim_init_62 : decode M_Sim_init.2.1 62 = .ok (.aload_n 0, 1) := by decide +kernel
theorem d_Sim_init_63 : decode M_Sim_init.2.1 63 = .ok (.iconst 0, 1) := by decide +kernel
theorem d_Sim_init_64 : decode M_Sim_init.2.1 64 = .ok (.anewarray 13, 3) := by decide +kernel
theorem d_Sim_init_67 : decode M_Sim_init.2.1 67 = .ok (.putfield 18, 3) := by decide +kernel
theorem d_Sim_init_70 : decode M_Sim_init.2.1 70 = .ok (.aload_n 0, 1) := by decide +kernel
theorem d_Sim_init_71 : decode M_Sim_init.2.1 71 = .ok (.iconst 0, 1) := by decide +kernel
theorem d_Sim_init_72 : decode M_Sim_init.2.1 72 = .ok (.anewarray 13, 3) := by decide +kernel
theorem d_Sim_init_75 : decode M_Sim_init.2.1 75 = .ok (.putfield 21, 3) := by decide +kernel
theorem d_Sim_init_78 : decode M_Sim_init.2.1 78 = .ok (.aload_n 0, 1) := by decide +kernel
theorem d_Sim_init_79 : decode M_Sim_init.2.1 79 = .ok (.iconst 0, 1) := by decide +kernel
theorem d_Sim_init_80 : decode M_Sim_init.2.1 80 = .ok (.anewarray 13, 3) := by decide +kernel
theorem d_Sim_init_83 : decode M_Sim_init.2.1 83 = .ok (.putfield 24, 3) := by decide +kernel
theorem d_Sim_init_86 : decode M_Sim_init.2.1 86 = .ok (.aload_n 0, 1) := by decide +kernel
theorem d_Sim_init_87 : decode M_Sim_init.2.1 87 = .ok (.iconst 0, 1) := by decide +kernel
theorem d_Sim_init_88 : decode M_Sim_init.2.1 88 = .ok (.anewarray 13, 3) := by decide +kernel
theorem d_Sim_init_91 : decode M_Sim_init.2.1 91 = .ok (.putfield 27, 3) := by decide +kernel
theorem d_Sim_init_94 : decode M_Sim_init.2.1 94 = .ok (.aload_n 0, 1) := by decide +kernel
theorem d_Sim_init_95 : decode M_Sim_init.2.1 95 = .ok (.iconst 0, 1) := by decide +kernel
theorem d_Sim_init_96 : decode M_Sim_init.2.1 96 = .ok (.anewarray 13, 3) := by decide +kernel
theorem d_Sim_init_99 : decode M_Sim_init.2.1 99 = .ok (.putfield 30, 3) := by decide +kernel
theorem d_Sim_init_102 : decode M_Sim_init.2.1 102 = .ok (.return_, 1) := by decide +kernel
set_option maxRecDepth 100000 in
set_option maxHeartbeats 4000000 in
theorem c_Sim_init {Γ : G9} {h : AH} {t z : Nat} (hao : AoOk Γ) (ht : h t = some (.inr (9, simF0))) : Call Γ M_Sim_init 1 7 8 [.ref t] h z (fun v h2 z2 => v = none ∧ h2 = simN Γ h t z ∧ z2 = z + 7) noX := by
  refine Call.of_go (L := [some (.ref t)]) (by decide +kernel) rfl (by exact Nat.le_of_ble_eq_true rfl) ?_
  refine Go.low (fun hlow => ?_)
  have htz : t < z := Nat.lt_of_not_le fun w => by rw [hlow t w] at ht; cases ht
  refine Go.aload_0 d_Sim_init_0 rfl ?_
  refine Go.objInit d_Sim_init_1 rfl xq_Sim1 q_obj1 q_obj2 (by decide) rfl ?_
  refine Go.aload_0 d_Sim_init_4 rfl ?_
  refine Go.bipush (v := 8) d_Sim_init_5 rfl (by decide) ?_
  refine Go.newI (C1 := 6) (S1 := 0) (N := 8) d_Sim_init_7 rfl rfl (by decide) (by decide) (by decide) ?_
  refine Go.dup d_Sim_init_9 rfl rfl ?_
  refine Go.iconst (v := 0) d_Sim_init_10 rfl (by decide) ?_
  refine Go.bipush (v := 10) d_Sim_init_11 rfl (by decide) ?_
  refine Go.iastore d_Sim_init_13 rfl hup_at (okI_in (by decide)) ?_
  rw [show (0 : Int32).toNatClampNeg = 0 from by decide, hup_hup]
  refine Go.dup d_Sim_init_14 rfl rfl ?_
  refine Go.iconst (v := 1) d_Sim_init_15 rfl (by decide) ?_
  refine Go.bipush (v := 10) d_Sim_init_16 rfl (by decide) ?_
  refine Go.iastore d_Sim_init_18 rfl hup_at (okI_in (by decide)) ?_
  rw [show (1 : Int32).toNatClampNeg = 1 from by decide, hup_hup]
  refine Go.dup d_Sim_init_19 rfl rfl ?_
  refine Go.iconst (v := 2) d_Sim_init_20 rfl (by decide) ?_
  refine Go.bipush (v := 10) d_Sim_init_21 rfl (by decide) ?_
  refine Go.iastore d_Sim_init_23 rfl hup_at (okI_in (by decide)) ?_
  rw [show (2 : Int32).toNatClampNeg = 2 from by decide, hup_hup]
  refine Go.dup d_Sim_init_24 rfl rfl ?_
  refine Go.iconst (v := 3) d_Sim_init_25 rfl (by decide) ?_
  refine Go.bipush (v := 10) d_Sim_init_26 rfl (by decide) ?_
  refine Go.iastore d_Sim_init_28 rfl hup_at (okI_in (by decide)) ?_
  rw [show (3 : Int32).toNatClampNeg = 3 from by decide, hup_hup]
  refine Go.dup d_Sim_init_29 rfl rfl ?_
  refine Go.iconst (v := 4) d_Sim_init_30 rfl (by decide) ?_
  refine Go.bipush (v := 10) d_Sim_init_31 rfl (by decide) ?_
  refine Go.iastore d_Sim_init_33 rfl hup_at (okI_in (by decide)) ?_
  rw [show (4 : Int32).toNatClampNeg = 4 from by decide, hup_hup]
  refine Go.dup d_Sim_init_34 rfl rfl ?_
  refine Go.iconst (v := 5) d_Sim_init_35 rfl (by decide) ?_
  refine Go.bipush (v := 10) d_Sim_init_36 rfl (by decide) ?_
  refine Go.iastore d_Sim_init_38 rfl hup_at (okI_in (by decide)) ?_
  rw [show (5 : Int32).toNatClampNeg = 5 from by decide, hup_hup]
  refine Go.dup d_Sim_init_39 rfl rfl ?_
  refine Go.bipush (v := 6) d_Sim_init_40 rfl (by decide) ?_
  refine Go.bipush (v := 10) d_Sim_init_42 rfl (by decide) ?_
  refine Go.iastore d_Sim_init_44 rfl hup_at (okI_in (by decide)) ?_
  rw [show (6 : Int32).toNatClampNeg = 6 from by decide, hup_hup]
  refine Go.dup d_Sim_init_45 rfl rfl ?_
  refine Go.bipush (v := 7) d_Sim_init_46 rfl (by decide) ?_
  refine Go.bipush (v := 10) d_Sim_init_48 rfl (by decide) ?_
  refine Go.iastore d_Sim_init_50 rfl hup_at (okI_in (by decide)) ?_
  rw [show (7 : Int32).toNatClampNeg = 7 from by decide, hup_hup]
  refine Go.pic (g := fun _ => 10) hup_at (fun j hj => ?_) ?_
  · match j, hj with
    | 0, _ => rfl
    | 1, _ => rfl
    | 2, _ => rfl
    | 3, _ => rfl
    | 4, _ => rfl
    | 5, _ => rfl
    | 6, _ => rfl
    | 7, _ => rfl
    | _ + 8, w => exact absurd w (by omega)
  rw [hup_hup]
  refine Go.putfield d_Sim_init_51 rfl f_Sim_7_p (Or.inl (fun C T N h => by cases h; rfl)) ((hup_ne (by omega)).trans ht) (by exact Nat.le_of_ble_eq_true rfl) rfl rfl ?_
  refine Go.aload_0 d_Sim_init_54 rfl ?_
  refine Go.iconst (v := 0) d_Sim_init_55 rfl (by decide) ?_
  refine Go.anewA (C1 := 5) (S1 := 0) (N := 0) d_Sim_init_56 rfl xq_A13 hao rfl (by decide) (by decide) (by decide) ?_
  rw [hup_comm (show t ≠ z + 1 by omega)]
  refine Go.putfield d_Sim_init_59 rfl f_Sim_14_p (Or.inl (fun C T N h => by cases h; rfl)) hup_at (by exact Nat.le_of_ble_eq_true rfl) rfl rfl ?_
  rw [hup_hup]
  refine Go.aload_0 d_Sim_init_62 rfl ?_
  refine Go.iconst (v := 0) d_Sim_init_63 rfl (by decide) ?_
  refine Go.anewA (C1 := 4) (S1 := 0) (N := 0) d_Sim_init_64 rfl xq_A13 hao rfl (by decide) (by decide) (by decide) ?_
  rw [hup_comm (show t ≠ z + 2 by omega)]
  refine Go.putfield d_Sim_init_67 rfl f_Sim_18_p (Or.inl (fun C T N h => by cases h; rfl)) hup_at (by exact Nat.le_of_ble_eq_true rfl) rfl rfl ?_
  rw [hup_hup]
  refine Go.aload_0 d_Sim_init_70 rfl ?_
  refine Go.iconst (v := 0) d_Sim_init_71 rfl (by decide) ?_
  refine Go.anewA (C1 := 3) (S1 := 0) (N := 0) d_Sim_init_72 rfl xq_A13 hao rfl (by decide) (by decide) (by decide) ?_
  rw [hup_comm (show t ≠ z + 3 by omega)]
  refine Go.putfield d_Sim_init_75 rfl f_Sim_21_p (Or.inl (fun C T N h => by cases h; rfl)) hup_at (by exact Nat.le_of_ble_eq_true rfl) rfl rfl ?_
  rw [hup_hup]
  refine Go.aload_0 d_Sim_init_78 rfl ?_
  refine Go.iconst (v := 0) d_Sim_init_79 rfl (by decide) ?_
  refine Go.anewA (C1 := 2) (S1 := 0) (N := 0) d_Sim_init_80 rfl xq_A13 hao rfl (by decide) (by decide) (by decide) ?_
  rw [hup_comm (show t ≠ z + 4 by omega)]
  refine Go.putfield d_Sim_init_83 rfl f_Sim_24_p (Or.inl (fun C T N h => by cases h; rfl)) hup_at (by exact Nat.le_of_ble_eq_true rfl) rfl rfl ?_
  rw [hup_hup]
  refine Go.aload_0 d_Sim_init_86 rfl ?_
  refine Go.iconst (v := 0) d_Sim_init_87 rfl (by decide) ?_
  refine Go.anewA (C1 := 1) (S1 := 0) (N := 0) d_Sim_init_88 rfl xq_A13 hao rfl (by decide) (by decide) (by decide) ?_
  rw [hup_comm (show t ≠ z + 5 by omega)]
  refine Go.putfield d_Sim_init_91 rfl f_Sim_27_p (Or.inl (fun C T N h => by cases h; rfl)) hup_at (by exact Nat.le_of_ble_eq_true rfl) rfl rfl ?_
  rw [hup_hup]
  refine Go.aload_0 d_Sim_init_94 rfl ?_
  refine Go.iconst (v := 0) d_Sim_init_95 rfl (by decide) ?_
  refine Go.anewA (C1 := 0) (S1 := 0) (N := 0) d_Sim_init_96 rfl xq_A13 hao rfl (by decide) (by decide) (by decide) ?_
  rw [hup_comm (show t ≠ z + 6 by omega)]
  refine Go.putfield d_Sim_init_99 rfl f_Sim_30_p (Or.inl (fun C T N h => by cases h; rfl)) hup_at (by exact Nat.le_of_ble_eq_true rfl) rfl rfl ?_
  rw [hup_hup]
  exact Go.vret d_Sim_init_102 rfl ⟨rfl, rfl, rfl⟩
def B00 (t z : Nat) : BS := (fun k r => if k = 6 then t else if k = 7 then z else z + 1 + r, fun _ => 0, fun _ => [], fun _ => 10)
section Ln
variable {Γ : G9} {h h0 h2 hb : AH} {b z t q : Nat} {B : BS} {tt : List Int32}
theorem B00_ok {k r : Nat} (ho : okB (B00 t z) k r) : (k = 6 ∧ r = 0) ∨ (k = 7 ∧ r = 0) ∨ (k = 8 ∧ (r = 0 ∨ r = 1 ∨ r = 2 ∨ r = 3 ∨ r = 4 ∨ r = 5)) := by
  rcases ho with ⟨-, h2⟩ | h1 | h1 | ⟨h1, h2⟩
  · exact absurd h2 (Nat.not_lt_zero _)
  · exact Or.inl h1
  · exact Or.inr (Or.inl h1)
  · exact Or.inr (Or.inr ⟨h1, by omega⟩)
theorem B00_lo {k r : Nat} (htz : t < z) (ho : okB (B00 t z) k r) : b_ad (B00 t z) k r = t ∨ z ≤ b_ad (B00 t z) k r := by
  rcases B00_ok ho with ⟨rfl, rfl⟩ | ⟨rfl, rfl⟩ | ⟨rfl, -⟩
  · exact Or.inl rfl
  · exact Or.inr (Nat.le_refl _)
  · exact Or.inr (show z ≤ z + 1 + r by omega)
theorem aA0 {f : Nat → Nat} : aA Γ 0 (fun _ => none) = aA Γ 0 (fun j => if j < ([] : List (Nat → Int32)).length then some (f j) else none) := by
  congr 3
theorem SimB.new (htz : t < z) : SimB Γ (simN Γ h t z) (B00 t z) := by
  refine ⟨fun k r ho => ?_, fun k r k' r' ho ho' he => ?_⟩
  · unfold simN
    rcases B00_ok ho with ⟨rfl, rfl⟩ | ⟨rfl, rfl⟩ | ⟨rfl, h2⟩
    · exact hup_at
    · show hup _ t _ z = _
      rw [hup_ne (by omega), hup_ne (by omega), hup_ne (by omega), hup_ne (by omega), hup_ne (by omega), hup_ne (by omega), hup_ne (by omega), hup_at]
      rfl
    · rcases h2 with rfl | rfl | rfl | rfl | rfl | rfl
      · show hup _ t _ (z + 1) = _
        rw [hup_ne (by omega), hup_ne (by omega), hup_ne (by omega), hup_ne (by omega), hup_ne (by omega), hup_ne (by omega), hup_at, aA0]
        rfl
      · show hup _ t _ (z + 2) = _
        rw [hup_ne (by omega), hup_ne (by omega), hup_ne (by omega), hup_ne (by omega), hup_ne (by omega), hup_at, aA0]
        rfl
      · show hup _ t _ (z + 3) = _
        rw [hup_ne (by omega), hup_ne (by omega), hup_ne (by omega), hup_ne (by omega), hup_at, aA0]
        rfl
      · show hup _ t _ (z + 4) = _
        rw [hup_ne (by omega), hup_ne (by omega), hup_ne (by omega), hup_at, aA0]
        rfl
      · show hup _ t _ (z + 5) = _
        rw [hup_ne (by omega), hup_ne (by omega), hup_at, aA0]
        rfl
      · show hup _ t _ (z + 6) = _
        rw [hup_ne (by omega), hup_at, aA0]
        rfl
  · rcases B00_ok ho with ⟨rfl, rfl⟩ | ⟨rfl, rfl⟩ | ⟨rfl, h2⟩ <;> rcases B00_ok ho' with ⟨rfl, rfl⟩ | ⟨rfl, rfl⟩ | ⟨rfl, h2'⟩
    · exact ⟨rfl, rfl⟩
    · have he : t = z := he
      omega
    · have he : t = z + 1 + r' := he
      omega
    · have he : z = t := he
      omega
    · exact ⟨rfl, rfl⟩
    · have he : z = z + 1 + r' := he
      omega
    · have he : z + 1 + r = t := he
      omega
    · have he : z + 1 + r = z := he
      omega
    · have he : z + 1 + r = z + 1 + r' := he
      exact ⟨rfl, by omega⟩
theorem simN_ext (htz : t < z) (hl : ∀ x, z ≤ x → h x = none) (ht : h0 t = none) (he : Ext h0 h) : Ext h0 (simN Γ h t z) := by
  intro x e hx
  have hz : x < z := Nat.lt_of_not_le fun w => by rw [he.no (hl x w)] at hx; cases hx
  have hxt : x ≠ t := fun w => by rw [w, ht] at hx; cases hx
  unfold simN
  rw [hup_ne hxt, hup_ne (by omega), hup_ne (by omega), hup_ne (by omega), hup_ne (by omega), hup_ne (by omega), hup_ne (by omega), hup_ne (by omega)]
  exact he x e hx
/-- more stands beside the builder -/
theorem SB.ext2 (hs : SB Γ h b h0 tt q) (he : Ext h h2) : ∃ h0' : AH, SB Γ h2 b h0' tt q ∧ Ext h0 h0' ∧ ∀ x e, h x = none → h2 x = some e → h0' x = some e := by
  obtain ⟨v, m, a, rfl, hbv, h0b, h0v, hr⟩ := hs
  have eb := he _ _ (bd_b hbv)
  have ev := he _ _ (bd_v (b := b) (n := tt.length))
  refine ⟨fun x => if x = b ∨ x = v then none else h2 x, ⟨v, m, a, ?_, hbv, if_pos (Or.inl rfl), if_pos (Or.inr rfl), hr⟩, fun x e hx => ?_, fun x e hn hx => ?_⟩
  · funext x
    unfold sbH
    by_cases h1 : x = v
    · rw [h1, hup_at, ev]
    · rw [hup_ne h1]
      by_cases h2' : x = b
      · rw [h2', hup_at, eb]
      · rw [hup_ne h2', if_neg (fun w => w.elim h2' h1)]
  · have hxb : x ≠ b := fun w => by rw [w, h0b] at hx; cases hx
    have hxv : x ≠ v := fun w => by rw [w, h0v] at hx; cases hx
    show (if x = b ∨ x = v then none else h2 x) = _
    rw [if_neg (fun w => w.elim hxb hxv)]
    exact he _ _ ((bd_out hxb hxv).trans hx)
  · have hxb : x ≠ b := fun w => by rw [w, bd_b hbv] at hn; cases hn
    have hxv : x ≠ v := fun w => by rw [w, bd_v] at hn; cases hn
    show (if x = b ∨ x = v then none else h2 x) = _
    rw [if_neg (fun w => w.elim hxb hxv)]
    exact hx
theorem LSt.mk0 (hs : SB Γ h b h0 tt 0) (he : Ext h h2) (hB : SimB Γ h2 B) (hn : ∀ k r, okB B k r → h (b_ad B k r) = none) : LSt Γ h2 b h0 tt B := by
  obtain ⟨h0', s1, s2, s3⟩ := hs.ext2 he
  exact ⟨h0', s1, ⟨fun k r ho => s3 _ _ (hn k r ho) (hB.1 k r ho), hB.2⟩, s2, fun k r ho => hs.rd.no (hn k r ho)⟩
/-- of what is new, some is remembered -/
theorem LSt.ext2 {hb2 : AH} (hs : LSt Γ h b hb tt B) (he : Ext h h2) (hn : ∀ x e, hb2 x = some e → hb x = some e ∨ (h x = none ∧ h2 x = some e)) : LSt Γ h2 b hb2 tt B := by
  obtain ⟨h0, s1, s2, s3, s4⟩ := hs
  obtain ⟨h0', t1, t2, t3⟩ := s1.ext2 he
  refine ⟨h0', t1, s2.ext t2, fun x e hx => ?_, fun k r ho => ?_⟩
  · rcases hn x e hx with w | ⟨w1, w2⟩
    · exact t2 _ _ (s3 x e w)
    · exact t3 x e w1 w2
  · cases e : hb2 (b_ad B k r) with
    | none => rfl
    | some y =>
      rcases hn _ _ e with w | ⟨w, -⟩
      · rw [s4 k r ho] at w
        cases w
      · rw [s1.rd _ _ (s2.1 k r ho)] at w
        cases w
theorem LSt.down {hb2 : AH} (hs : LSt Γ h b hb2 tt B) (he : Ext hb hb2) : LSt Γ h b hb tt B := by
  obtain ⟨h0, s1, s2, s3, s4⟩ := hs
  exact ⟨h0, s1, s2, he.tr s3, fun k r ho => he.no (s4 k r ho)⟩
theorem LSt.base (hs : LSt Γ h b hb tt B) : Ext hb h := by
  obtain ⟨h0, s1, s2, s3, s4⟩ := hs
  exact s3.tr s1.rd
/-- what is remembered changes -/
theorem LSt.upb {x : Nat} {e e' : va_E} (hs : LSt Γ h b hb tt B) (hx : hb x = some e) : LSt Γ (hup h x e') b (hup hb x e') tt B := by
  obtain ⟨h0, s1, s2, s3, s4⟩ := hs
  have hne : ∀ {k r}, okB B k r → b_ad B k r ≠ x := fun {k r} ho w => by have := s4 k r ho; rw [w, hx] at this; cases this
  refine ⟨_, s1.up (s3 _ _ hx), ⟨fun k r ho => (hup_ne (hne ho)).trans (s2.1 k r ho), s2.2⟩, fun y w hy => ?_, fun k r ho => (hup_ne (hne ho)).trans (s4 k r ho)⟩
  by_cases h1 : y = x
  · rw [h1, hup_at] at hy
    rw [h1, hup_at]
    exact hy
  · rw [hup_ne h1] at hy
    rw [hup_ne h1]
    exact s3 _ _ hy
theorem LSt.str {c : Nat} {l : List Int32} (hs : LSt Γ h b hb tt B) (he : Ext h h2) (hn : STN Γ h h2 c l) : ∃ hb2 : AH, LSt Γ h2 b hb2 tt B ∧ STR Γ hb2 c l ∧ Ext hb hb2 := by
  rcases hn with h1 | ⟨v, e1, e2, e3, e4⟩
  · exact ⟨hb, hs.ext he, Or.inl h1, Ext.rf⟩
  · have hcv : c ≠ v := fun w => by rw [w, e4] at e3; cases e3
    have hbc := hs.base.no e1
    have hbv := hs.base.no e2
    refine ⟨hup (hup hb c (stO v)) v (aB Γ l.length (fun j => l.getD j 0)), hs.ext2 he (fun x e hx => ?_), Or.inr ⟨v, (hup_ne hcv).trans hup_at, hup_at⟩, (Ext.up hbc).tr (Ext.up ((hup_ne hcv.symm).trans hbv))⟩
    by_cases x1 : x = v
    · rw [x1, hup_at] at hx
      rw [x1]
      exact Or.inr ⟨e2, e4.trans hx⟩
    · rw [hup_ne x1] at hx
      by_cases x2 : x = c
      · rw [x2, hup_at] at hx
        rw [x2]
        exact Or.inr ⟨e1, e3.trans hx⟩
      · rw [hup_ne x2] at hx
        exact Or.inl hx
end Ln
theorem LB_app {l m : List Int32} (hl : LB l) (hm : LB m) : LB (l ++ m) := by
  intro j
  rw [List.getD_eq_getElem?_getD, List.getElem?_append]
  by_cases h : j < l.length
  · rw [if_pos h, ← List.getD_eq_getElem?_getD]
    exact hl j
  · rw [if_neg h, ← List.getD_eq_getElem?_getD]
    exact hm _
theorem nI_ad (a c : Nat) : nI a + nI c = nI (a + c) := (Int32.ofNat_add a c).symm
section Lr
variable {Γ : G9} {C S pc q : Nat} {L : List (Option Value)} {st : List Value} {h hb : AH} {z b sim : Nat} {t : List Int32} {B : BS} {Q : QT} {X : XT}
theorem Go.lapp {a : Nat} {l : List Int32} (hd : decode M_Law_list.2.1 pc = .ok (.invokevirtual 37, 3)) (hq : pc + 3 = q) (hk : CsOk Γ) (hp : PrOk Γ) (hs : LSt Γ h b hb t B) (hst : STR Γ hb a l) (hl : LB l) (hlen : t.length + l.length ≤ 1200) (hC : 1 ≤ C) (hS : 2402 ≤ S) (hw : Nat.ble (st.map fun v => v.category).sum 8 = true) (kk : ∀ h2 z2, LSt Γ h2 b hb (t ++ l) B → Go Γ M_Law_list 9 (C - 1) (S - 2402) q L (.ref b :: st) h2 z2 Q X) : Go Γ M_Law_list 9 C S pc L (.ref a :: .ref b :: st) h z Q X := by
  obtain ⟨h0, s1, s2, s3, s4⟩ := hs
  obtain ⟨v8, n8, hb8⟩ := s1.obj
  refine Go.callV (C1 := C - 1) (S1 := S - 2402) (as := [.ref a]) hd hq l_Law_37 k_StringBuilder_append_1_v rfl hb8 rfl rfl (c_append hk hp s1 (hst.ext s3) hl hlen) (by decide) (by decide) (by omega) (by omega) (Nat.le_of_ble_eq_true hw) (fun _ _ _ w _ => w.elim) (fun v9 h9 z9 w9 hz9 => ?_)
  obtain ⟨rfl, w1, -⟩ := w9
  exact kk _ _ ⟨h0, w1, s2, s3, s4⟩
theorem Go.lappI {v : Nat} (hd : decode M_Law_list.2.1 pc = .ok (.invokevirtual 41, 3)) (hq : pc + 3 = q) (hk : CsOk Γ) (hp : PrOk Γ) (hdg : DgOk Γ) (hs : LSt Γ h b hb t B) (hv : v < 1000) (hlen : t.length + (dec v).length ≤ 1200) (hC : 1 ≤ C) (hS : 2402 ≤ S) (hw : Nat.ble (st.map fun v => v.category).sum 8 = true) (kk : ∀ h2 z2, LSt Γ h2 b hb (t ++ dec v) B → Go Γ M_Law_list 9 (C - 1) (S - 2402) q L (.ref b :: st) h2 z2 Q X) : Go Γ M_Law_list 9 C S pc L (.int (nI v) :: .ref b :: st) h z Q X := by
  obtain ⟨h0, s1, s2, s3, s4⟩ := hs
  obtain ⟨v8, n8, hb8⟩ := s1.obj
  refine Go.callV (C1 := C - 1) (S1 := S - 2402) (as := [.int (nI v)]) hd hq l_Law_41 k_StringBuilder_append_0_v rfl hb8 rfl rfl (c_appendI (v0 := v) hk hp hdg s1 hv hlen) (by decide) (by decide) (by omega) (by omega) (Nat.le_of_ble_eq_true hw) (fun _ _ _ w _ => w.elim) (fun v9 h9 z9 w9 hz9 => ?_)
  obtain ⟨rfl, w1, -⟩ := w9
  exact kk _ _ ⟨h0, w1, s2, s3, s4⟩
theorem Go.lcell {sa n k : Nat} {xs : Nat → Int32} {vk : Int32} (hd : decode M_Law_list.2.1 pc = .ok (.invokestatic 119, 3)) (hq : pc + 3 = q) (hsc : ScOk Γ sa n xs) (hn : n < 2 ^ 31) (ek : vk = nI k) (hk : k < 1000) (hw : Nat.ble (st.map fun v => v.category).sum 8 = true) (kk : ∀ x : Int32, Go Γ M_Law_list 9 C S q L (.int x :: st) h z Q X) : Go Γ M_Law_list 9 C S pc L (.int vk :: .ref sa :: st) h z Q X := by
  obtain ⟨x, hx⟩ := c_cell (h := h) (z := z) hsc hn ek hk
  exact Go.cs2r hd hq l_Law_119 k_Law_cell_s rfl hx (by decide) (by decide) hw (kk x)
theorem Go.lbel {n : Nat} {v vn : Int32} (hd : decode M_Law_list.2.1 pc = .ok (.invokestatic 125, 3)) (hq : pc + 3 = q) (en : vn = nI n) (h0 : 0 < n) (hn : n < 1000) (hw : Nat.ble (st.map fun v => v.category).sum 8 = true) (kk : ∀ y : Nat, y < n → Go Γ M_Law_list 9 C S q L (.int (nI y) :: st) h z Q X) : Go Γ M_Law_list 9 C S pc L (.int vn :: .int v :: st) h z Q X :=
  Go.cs2r hd hq l_Law_125 k_Law_below_s rfl (c_below (v := v) en h0 (by omega)) (by decide) (by decide) hw (kk _ (bel_lt h0))
theorem Go.bel2 {u v : Value} (n : Nat) (kk : ∀ y : Nat, y < n → Go Γ M_Law_list 9 C S q L (.int (nI y) :: st) h z Q X) (hb' : (∀ y : Nat, y < n → Go Γ M_Law_list 9 C S q L (.int (nI y) :: st) h z Q X) → Go Γ M_Law_list 9 C S pc L (u :: v :: st) h z Q X) : Go Γ M_Law_list 9 C S pc L (u :: v :: st) h z Q X := hb' kk
theorem Go.bel1 {u : Value} (n : Nat) (kk : ∀ y : Nat, y < n → Go Γ M_Law_list 9 C S q L (.int (nI y) :: st) h z Q X) (hb' : (∀ y : Nat, y < n → Go Γ M_Law_list 9 C S q L (.int (nI y) :: st) h z Q X) → Go Γ M_Law_list 9 C S pc L (u :: st) h z Q X) : Go Γ M_Law_list 9 C S pc L (u :: st) h z Q X := hb' kk
theorem LSt.nobj (hs : LSt Γ h b hb t B) (hl : ∀ x, z ≤ x → h x = none) {k r : Nat} (ho : okB B k r) : b_ad B k r ≠ z := fun w => by have := hs.rd ho; rw [w, hl z (Nat.le_refl _)] at this; cases this
/-- a new matrix of the glacier -/
theorem Go.lout {idx i2 k N : Nat} {n : Int32} (hd1 : decode M_Law_list.2.1 pc = .ok (.anewarray idx, 3)) (hd2 : decode M_Law_list.2.1 (pc + 3) = .ok (.putfield i2, 3)) (hq : pc + 3 + 3 = q) (hcl : Cond.classLink "GlacierCampLaw" idx "[I" ∈ gw) (hao : AoOk Γ) (hn : n = nI N) (hN : N < 100) (hk6 : k < 6) (lk : FPk "GlacierCampLaw" i2 9 (5 + k) (ty_Sim (5 + k))) (hnw : ∀ x : Nat, narrow (ty_Sim (5 + k)) (.ref x) = .ref x) (hft : ∀ x : Nat, fits (ty_Sim (5 + k)) (.ref x) = true) (hfin : ∀ C T N, vwCl[9]? = some (C, T, N) → (T (5 + k)).2.2.2 = false) (hs : LSt Γ h b hb t B) (es : b_ad B 6 0 = sim) (h0 : b_rs B k = []) (hC : 1 ≤ C) (hS : N ≤ S)
    (kk : ∀ (h2 : AH) (B' : BS), LSt Γ h2 b hb t B' → b_rs B' = b_rs B → b_cn B' = (fun k' => if k' = k then N else b_cn B k') → b_wa B' = b_wa B → b_ad B' 6 0 = sim → Go Γ M_Law_list 9 (C - 1) (S - N) q L st h2 (z + 1) Q X) : Go Γ M_Law_list 9 C S pc L (.int n :: .ref sim :: st) h z Q X := by
  subst es
  refine Go.low (fun hlow => ?_)
  refine Go.anewA (C1 := C - 1) (S1 := S - N) hd1 rfl hcl hao hn (by omega) (by omega) (by omega) ?_
  refine Go.putfield hd2 hq lk (Or.inl hfin) ((hup_ne (hs.nobj hlow (Or.inr (Or.inl ⟨rfl, rfl⟩)))).trans hs.obj) (show 5 + k < 11 by omega) (hnw _) (hft _) ?_
  exact kk _ (bsOut B k z N) (hs.addOut hlow hk6 h0) rfl rfl rfl (if_neg (c := (6 : Nat) = 8 ∧ 0 = k) (t := z) (fun w => absurd w.1 (by decide)))
/-- a new row into a matrix -/
theorem Go.laas {k y i : Nat} {f : Nat → Int32} {vi : Int32} (hd : decode M_Law_list.2.1 pc = .ok (.aastore, 1)) (hq : pc + 1 = q) (hao : AoOk Γ) (hs : LSt Γ h b hb t B) (es : b_ad B 6 0 = sim) (hl : ∀ x, y ≤ x → h x = none) (hk : k < 6) (ei : vi = nI i) (hlen : (b_rs B k).length = i) (hi : i < b_cn B k) (hcn : b_cn B k < 100)
    (kk : ∀ (h2 : AH) (B' : BS), LSt Γ h2 b hb t B' → b_rs B' = (fun k' => if k' = k then b_rs B k ++ [f] else b_rs B k') → b_cn B' = b_cn B → b_wa B' = b_wa B → b_ad B' 6 0 = sim → (b_rs B' k).length = i + 1 → (b_rs B' k).getD i (fun _ => 0) = f → Go Γ M_Law_list 9 C S q L st h2 z Q X) : Go Γ M_Law_list 9 C S pc L (.ref y :: .int vi :: .ref (b_ad B 8 k) :: st) (hup h y (aI Γ (wdt k) f)) z Q X := by
  subst ei
  subst es
  refine Go.aastA hd hq ((hup_ne (hs.nobj hl (Or.inr (Or.inr (Or.inr ⟨rfl, hk⟩))))).trans (hs.out hk)) hup_at (vp_in_nI hi (by omega)) hao ?_
  rw [nI_clamp (by omega), ← hlen]
  refine kk _ (bsRow B k y f) (hs.addRow hl hk) rfl rfl rfl (if_neg (fun w => absurd w.1 (by omega))) ?_ ?_
  · show (if k = k then b_rs B k ++ [f] else b_rs B k).length = _
    rw [if_pos rfl, List.length_append, List.length_singleton, hlen]
  · show (if k = k then b_rs B k ++ [f] else b_rs B k).getD i _ = _
    rw [if_pos rfl, ← hlen, getD_app_r]
theorem Go.lget {i2 k : Nat} (hd : decode M_Law_list.2.1 pc = .ok (.getfield i2, 3)) (hq : pc + 3 = q) (lk : FLk "GlacierCampLaw" i2 9 (5 + k)) (hk : k < 6) (ho : LSt Γ h b hb t B) (es : b_ad B 6 0 = sim) (kk : Go Γ M_Law_list 9 C S q L (.ref (b_ad B 8 k) :: st) h z Q X) : Go Γ M_Law_list 9 C S pc L (.ref sim :: st) h z Q X := by
  subst es
  refine Go.getfield hd hq lk ho.obj (v := .ref (b_ad B 8 k)) ?_ kk
  match k, hk with
  | 0, _ => rfl
  | 1, _ => rfl
  | 2, _ => rfl
  | 3, _ => rfl
  | 4, _ => rfl
  | 5, _ => rfl
theorem Go.lgetw {i2 : Nat} (hd : decode M_Law_list.2.1 pc = .ok (.getfield i2, 3)) (hq : pc + 3 = q) (lk : FLk "GlacierCampLaw" i2 9 4) (ho : LSt Γ h b hb t B) (es : b_ad B 6 0 = sim) (kk : Go Γ M_Law_list 9 C S q L (.ref (b_ad B 7 0) :: st) h z Q X) : Go Γ M_Law_list 9 C S pc L (.ref sim :: st) h z Q X := by
  subst es
  exact Go.getfield hd hq lk ho.obj rfl kk
theorem Go.llen {k n : Nat} (hd : decode M_Law_list.2.1 pc = .ok (.arraylength, 1)) (hq : pc + 1 = q) (hk : k < 6) (ho : LSt Γ h b hb t B) (hn : b_cn B k = n) (kk : Go Γ M_Law_list 9 C S q L (.int (nI n) :: st) h z Q X) : Go Γ M_Law_list 9 C S pc L (.ref (b_ad B 8 k) :: st) h z Q X := by
  subst hn
  exact Go.alen (t := 4) hd hq (ho.out hk) rfl rfl kk
theorem Go.lrow {k i : Nat} {vi : Int32} (hd : decode M_Law_list.2.1 pc = .ok (.aaload, 1)) (hq : pc + 1 = q) (hs : LSt Γ h b hb t B) (hk : k < 6) (ei : vi = nI i) (hlen : (b_rs B k).length = i + 1) (hi : i < b_cn B k) (hcn : b_cn B k < 100) (kk : Go Γ M_Law_list 9 C S q L (.ref (b_ad B k i) :: st) h z Q X) : Go Γ M_Law_list 9 C S pc L (.int vi :: .ref (b_ad B 8 k) :: st) h z Q X := by
  subst ei
  refine Go.aaldA hd hq (hs.out hk) (vp_in_nI hi (by omega)) ?_
  rw [nI_clamp (by omega), if_pos (by omega)]
  exact kk
theorem Go.lld {k i j : Nat} {f : Nat → Int32} {vj x : Int32} (hd : decode M_Law_list.2.1 pc = .ok (.iaload, 1)) (hq : pc + 1 = q) (hs : LSt Γ h b hb t B) (hk : k < 6) (hlen : (b_rs B k).length = i + 1) (hf : (b_rs B k).getD i (fun _ => 0) = f) (hj : okI vj (wdt k) = true) (ej : vj.toNatClampNeg = j) (hx : f j = x) (kk : Go Γ M_Law_list 9 C S q L (.int x :: st) h z Q X) : Go Γ M_Law_list 9 C S pc L (.int vj :: .ref (b_ad B k i) :: st) h z Q X := by
  refine Go.iaload hd hq ((hs.row hk (by omega)).trans (by rw [hf])) (okI_in hj) ?_
  rw [ej, hx]
  exact kk
end Lr
/-- a row by its numbers -/
def rL (l : List Int32) : Nat → Int32 := fun j => l.getD j 0
theorem rL_nil : (fun _ => 0) = rL [] := by
  funext j
  exact (List.getD_nil ..).symm
theorem rL_upd {l : List Int32} {x : Int32} {n : Nat} (hn : l.length = n) : upd (rL l) n x = rL (l ++ [x]) := by
  funext j
  unfold upd rL
  by_cases h : j = n
  · rw [if_pos h, h, ← hn, List.getD_eq_getElem?_getD, List.getElem?_append_right (Nat.le_refl _), Nat.sub_self]
    rfl
  · rw [if_neg h, List.getD_eq_getElem?_getD, List.getD_eq_getElem?_getD, List.getElem?_append]
    by_cases h1 : j < l.length
    · rw [if_pos h1]
    · rw [if_neg h1, List.getElem?_eq_none (Nat.le_of_not_lt h1), List.getElem?_eq_none (by rw [List.length_singleton]; omega)]
def tAllF {α : Type} (f : Nat → α → List Int32) : Nat → List α → List Int32
  | _, [] => []
  | k, a :: l => f k a ++ tAllF f (k + 1) l
def tAll {α : Type} (f : Nat → α → List Int32) (l : List α) : List Int32 := tAllF f 0 l
theorem tAllF_snoc {α : Type} (f : Nat → α → List Int32) (a : α) : ∀ (l : List α) (k : Nat), tAllF f k (l ++ [a]) = tAllF f k l ++ f (k + l.length) a
  | [], k => by
    show f k a ++ [] = [] ++ f (k + 0) a
    rw [List.append_nil]
    rfl
  | c :: l, k => by
    show f k c ++ tAllF f (k + 1) (l ++ [a]) = (f k c ++ tAllF f (k + 1) l) ++ f (k + (l.length + 1)) a
    rw [tAllF_snoc f a l (k + 1), List.append_assoc, show k + 1 + l.length = k + (l.length + 1) by omega]
theorem tAll_snoc {α : Type} (f : Nat → α → List Int32) (a : α) (l : List α) : tAll f (l ++ [a]) = tAll f l ++ f l.length a := by
  unfold tAll
  rw [tAllF_snoc, Nat.zero_add]
/-- the rows of all matrices -/
def RSF (r0 r1 r2 r3 r4 r5 : List (Nat → Int32)) : Nat → List (Nat → Int32)
  | 0 => r0
  | 1 => r1
  | 2 => r2
  | 3 => r3
  | 4 => r4
  | 5 => r5
  | _ => []
def CN (n0 n1 n2 n3 n4 n5 : Nat) : Nat → Nat
  | 0 => n0
  | 1 => n1
  | 2 => n2
  | 3 => n3
  | 4 => n4
  | 5 => n5
  | _ => 0
theorem RS_row0 {r0 r1 r2 r3 r4 r5 : List (Nat → Int32)} {f : Nat → Int32} : (fun k' => if k' = 0 then RSF r0 r1 r2 r3 r4 r5 0 ++ [f] else RSF r0 r1 r2 r3 r4 r5 k') = RSF (r0 ++ [f]) r1 r2 r3 r4 r5 := by
  funext k
  match k with
  | 0 => rfl
  | 1 => rfl
  | 2 => rfl
  | 3 => rfl
  | 4 => rfl
  | 5 => rfl
  | n + 6 =>
    rw [if_neg (by omega)]
    rfl
theorem CN_out0 {n0 n1 n2 n3 n4 n5 n : Nat} : (fun k' => if k' = 0 then n else CN n0 n1 n2 n3 n4 n5 k') = CN n n1 n2 n3 n4 n5 := by
  funext k
  match k with
  | 0 => rfl
  | 1 => rfl
  | 2 => rfl
  | 3 => rfl
  | 4 => rfl
  | 5 => rfl
  | n + 6 =>
    rw [if_neg (by omega)]
    rfl
theorem RS_row1 {r0 r1 r2 r3 r4 r5 : List (Nat → Int32)} {f : Nat → Int32} : (fun k' => if k' = 1 then RSF r0 r1 r2 r3 r4 r5 1 ++ [f] else RSF r0 r1 r2 r3 r4 r5 k') = RSF r0 (r1 ++ [f]) r2 r3 r4 r5 := by
  funext k
  match k with
  | 0 => rfl
  | 1 => rfl
  | 2 => rfl
  | 3 => rfl
  | 4 => rfl
  | 5 => rfl
  | n + 6 =>
    rw [if_neg (by omega)]
    rfl
theorem CN_out1 {n0 n1 n2 n3 n4 n5 n : Nat} : (fun k' => if k' = 1 then n else CN n0 n1 n2 n3 n4 n5 k') = CN n0 n n2 n3 n4 n5 := by
  funext k
  match k with
  | 0 => rfl
  | 1 => rfl
  | 2 => rfl
  | 3 => rfl
  | 4 => rfl
  | 5 => rfl
  | n + 6 =>
    rw [if_neg (by omega)]
    rfl
theorem RS_row2 {r0 r1 r2 r3 r4 r5 : List (Nat → Int32)} {f : Nat → Int32} : (fun k' => if k' = 2 then RSF r0 r1 r2 r3 r4 r5 2 ++ [f] else RSF r0 r1 r2 r3 r4 r5 k') = RSF r0 r1 (r2 ++ [f]) r3 r4 r5 := by
  funext k
  match k with
  | 0 => rfl
  | 1 => rfl
  | 2 => rfl
  | 3 => rfl
  | 4 => rfl
  | 5 => rfl
  | n + 6 =>
    rw [if_neg (by omega)]
    rfl
theorem CN_out2 {n0 n1 n2 n3 n4 n5 n : Nat} : (fun k' => if k' = 2 then n else CN n0 n1 n2 n3 n4 n5 k') = CN n0 n1 n n3 n4 n5 := by
  funext k
  match k with
  | 0 => rfl
  | 1 => rfl
  | 2 => rfl
  | 3 => rfl
  | 4 => rfl
  | 5 => rfl
  | n + 6 =>
    rw [if_neg (by omega)]
    rfl
theorem RS_row3 {r0 r1 r2 r3 r4 r5 : List (Nat → Int32)} {f : Nat → Int32} : (fun k' => if k' = 3 then RSF r0 r1 r2 r3 r4 r5 3 ++ [f] else RSF r0 r1 r2 r3 r4 r5 k') = RSF r0 r1 r2 (r3 ++ [f]) r4 r5 := by
  funext k
  match k with
  | 0 => rfl
  | 1 => rfl
  | 2 => rfl
  | 3 => rfl
  | 4 => rfl
  | 5 => rfl
  | n + 6 =>
    rw [if_neg (by omega)]
    rfl
theorem CN_out3 {n0 n1 n2 n3 n4 n5 n : Nat} : (fun k' => if k' = 3 then n else CN n0 n1 n2 n3 n4 n5 k') = CN n0 n1 n2 n n4 n5 := by
  funext k
  match k with
  | 0 => rfl
  | 1 => rfl
  | 2 => rfl
  | 3 => rfl
  | 4 => rfl
  | 5 => rfl
  | n + 6 =>
    rw [if_neg (by omega)]
    rfl
theorem RS_row4 {r0 r1 r2 r3 r4 r5 : List (Nat → Int32)} {f : Nat → Int32} : (fun k' => if k' = 4 then RSF r0 r1 r2 r3 r4 r5 4 ++ [f] else RSF r0 r1 r2 r3 r4 r5 k') = RSF r0 r1 r2 r3 (r4 ++ [f]) r5 := by
  funext k
  match k with
  | 0 => rfl
  | 1 => rfl
  | 2 => rfl
  | 3 => rfl
  | 4 => rfl
  | 5 => rfl
  | n + 6 =>
    rw [if_neg (by omega)]
    rfl
theorem CN_out4 {n0 n1 n2 n3 n4 n5 n : Nat} : (fun k' => if k' = 4 then n else CN n0 n1 n2 n3 n4 n5 k') = CN n0 n1 n2 n3 n n5 := by
  funext k
  match k with
  | 0 => rfl
  | 1 => rfl
  | 2 => rfl
  | 3 => rfl
  | 4 => rfl
  | 5 => rfl
  | n + 6 =>
    rw [if_neg (by omega)]
    rfl
theorem RS_row5 {r0 r1 r2 r3 r4 r5 : List (Nat → Int32)} {f : Nat → Int32} : (fun k' => if k' = 5 then RSF r0 r1 r2 r3 r4 r5 5 ++ [f] else RSF r0 r1 r2 r3 r4 r5 k') = RSF r0 r1 r2 r3 r4 (r5 ++ [f]) := by
  funext k
  match k with
  | 0 => rfl
  | 1 => rfl
  | 2 => rfl
  | 3 => rfl
  | 4 => rfl
  | 5 => rfl
  | n + 6 =>
    rw [if_neg (by omega)]
    rfl
theorem CN_out5 {n0 n1 n2 n3 n4 n5 n : Nat} : (fun k' => if k' = 5 then n else CN n0 n1 n2 n3 n4 n5 k') = CN n0 n1 n2 n3 n4 n := by
  funext k
  match k with
  | 0 => rfl
  | 1 => rfl
  | 2 => rfl
  | 3 => rfl
  | 4 => rfl
  | 5 => rfl
  | n + 6 =>
    rw [if_neg (by omega)]
    rfl
def LX (Γ : G9) (h : AH) (b : Nat) (hb : AH) (sim : Nat) (t : List Int32) (R : Nat → List (Nat → Int32)) (c : Nat → Nat) (w : Nat → Int32) : Prop := ∃ B : BS, LSt Γ h b hb t B ∧ b_rs B = R ∧ b_cn B = c ∧ b_wa B = w ∧ b_ad B 6 0 = sim
