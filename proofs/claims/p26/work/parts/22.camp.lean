/-! GlacierCamp: its world, its checks, its calls -/
abbrev msL : List (Nat × String) := [(53, "the tape would be too long"), (64, "the tape has not so many bytes"), (155, "there is no such one"), (158, "there is no such thing to tell"), (160, "the number is out of its range"), (166, "the team cannot go"), (172, "the team cannot probe"), (181, "nothing comes into the sack"), (211, "this is not foreseen")]
def MsOk (Γ : G9) (ms : Nat → Nat) : Prop := ∀ (k : Nat) (tx : String), (k, tx) ∈ msL → SF Γ (fun _ U _ => vk_R "GlacierCamp" k tx (ms k) U)
theorem Go.csT {Γ : G9} {M : MI} {d C S pc q : Nat} {L : List (Option Value)} {st : List Value} {h : AH} {z : Nat} {Q : QT} {X : XT} {M' : MI} {n d' C' S' C1 S1 idx : Nat} {as rest : List Value} {t : Int32} {h2 : AH} (hd : decode M.2.1 pc = .ok (.invokestatic idx, 3)) (hq : pc + 3 = q) (lk : Cond.methodLink M.1.cls idx M'.1 ∈ gw) (ok : OkS M' n) (hh : M'.2.2.2.2 = []) (hn : as.length = n) (hst : st = as.reverse ++ rest)
    (hc : CallT Γ M' d' C' S' as h z t none h2) (hd' : Nat.ble (d' + 1) d = true) (hml : Nat.ble M'.2.2.1 21 = true) (hC : Nat.ble (C' + C1) C = true) (hS : Nat.ble (S' + S1) S = true) (hw : Nat.ble (rest.map fun v => v.category).sum 8 = true) (hh0 : M.2.2.2.2 = [])
    (kx : ¬ t = 0 → ∀ z', z ≤ z' → X (exn t) h2 z') (kk : t = 0 → Go Γ M d C1 S1 q L rest h2 z Q X) : Go Γ M d C S pc L st h z Q X :=
  Go.callS hd hq lk ok hh hn hst hc (Nat.le_of_ble_eq_true hd') (Nat.le_of_ble_eq_true hml) (Nat.le_of_ble_eq_true hC) (Nat.le_of_ble_eq_true hS) (Nat.le_of_ble_eq_true hw) (fun E h' z' hx _ => by
    obtain ⟨h1, rfl, rfl, h4⟩ := hx
    exact GoX.out hh0 (kx h1 _ h4)) (fun v h' z' hx _ => by
    obtain ⟨h1, rfl, rfl, rfl⟩ := hx
    exact kk h1)
theorem d_Camp_needRow_0 : decode M_Camp_needRow.2.1 0 = .ok (.aload_n 0, 1) := by decide +kernel
theorem d_Camp_needRow_1 : decode M_Camp_needRow.2.1 1 = .ok (.iload_n 1, 1) := by decide +kernel
theorem d_Camp_needRow_2 : decode M_Camp_needRow.2.1 2 = .ok (.invokevirtual 149, 3) := by decide +kernel
theorem d_Camp_needRow_5 : decode M_Camp_needRow.2.1 5 = .ok (.ifCond .ne 13, 3) := by decide +kernel
theorem d_Camp_needRow_8 : decode M_Camp_needRow.2.1 8 = .ok (.new 153, 3) := by decide +kernel
theorem d_Camp_needRow_11 : decode M_Camp_needRow.2.1 11 = .ok (.dup, 1) := by decide +kernel
theorem d_Camp_needRow_12 : decode M_Camp_needRow.2.1 12 = .ok (.ldc 155, 2) := by decide +kernel
theorem d_Camp_needRow_14 : decode M_Camp_needRow.2.1 14 = .ok (.invokespecial 157, 3) := by decide +kernel
theorem d_Camp_needRow_17 : decode M_Camp_needRow.2.1 17 = .ok (.athrow, 1) := by decide +kernel
theorem d_Camp_needRow_18 : decode M_Camp_needRow.2.1 18 = .ok (.return_, 1) := by decide +kernel
def s_Camp_needRow (T : TM) (x2 : Int32) : Int32 := (if (if 0 ≤ x2 ∧ x2 < nI T.2 then (1 : Int32) else 0) = 0 then 1 else 0)
set_option maxRecDepth 100000 in
set_option maxHeartbeats 800000 in
theorem c_Camp_needRow {Γ : G9} {ms : Nat → Nat} {h : AH} {t z : Nat} {T : TM} {x2 : Int32} (hT : h t = some (tabO t T)) (hms : MsOk Γ ms) (hth : ThOk Γ) : CallT Γ M_Camp_needRow 6 1 6 [.ref t, .int x2] h z (s_Camp_needRow T x2) none h := by
  refine Call.of_go (L := [some (.ref t), some (.int x2)]) (by decide +kernel) rfl (by exact Nat.le_of_ble_eq_true rfl) ?_
  unfold s_Camp_needRow
  refine Go.aload_0 d_Camp_needRow_0 rfl ?_
  refine Go.iload_1 d_Camp_needRow_1 rfl ?_
  refine Go.cv1r d_Camp_needRow_2 rfl l_Camp_149 k_Table_has_v hT rfl (c_Table_has hT) rfl rfl rfl ?_
  refine Go.if_ne (t := 18) d_Camp_needRow_5 (by decide) rfl (fun c5_1 => ?_) (fun c5_1 => ?_)
  · rw [if_neg c5_1]
    exact Go.vret d_Camp_needRow_18 rfl ⟨rfl, rfl, by dsimp only, rfl⟩
  · rw [if_pos c5_1]
    exact Go.throwS (names := xnm) (cls := xIO) d_Camp_needRow_8 d_Camp_needRow_11 d_Camp_needRow_12 d_Camp_needRow_14 d_Camp_needRow_17 x_Camp_k153 x_ini_IndexOutOfBoundsException xw_xIO (by decide +kernel) (by decide +kernel) (hms 155 "there is no such one" (by decide)) hth rfl rfl (by decide) rfl rfl rfl (fun z2 hz => ⟨by decide, rfl, by dsimp only, hz⟩)
theorem d_Camp_needWhat_0 : decode M_Camp_needWhat.2.1 0 = .ok (.iload_n 0, 1) := by decide +kernel
theorem d_Camp_needWhat_1 : decode M_Camp_needWhat.2.1 1 = .ok (.ifCond .lt 8, 3) := by decide +kernel
theorem d_Camp_needWhat_4 : decode M_Camp_needWhat.2.1 4 = .ok (.iload_n 0, 1) := by decide +kernel
theorem d_Camp_needWhat_5 : decode M_Camp_needWhat.2.1 5 = .ok (.iload_n 1, 1) := by decide +kernel
theorem d_Camp_needWhat_6 : decode M_Camp_needWhat.2.1 6 = .ok (.if_icmp .lt 13, 3) := by decide +kernel
theorem d_Camp_needWhat_9 : decode M_Camp_needWhat.2.1 9 = .ok (.new 153, 3) := by decide +kernel
theorem d_Camp_needWhat_12 : decode M_Camp_needWhat.2.1 12 = .ok (.dup, 1) := by decide +kernel
theorem d_Camp_needWhat_13 : decode M_Camp_needWhat.2.1 13 = .ok (.ldc 158, 2) := by decide +kernel
theorem d_Camp_needWhat_15 : decode M_Camp_needWhat.2.1 15 = .ok (.invokespecial 157, 3) := by decide +kernel
theorem d_Camp_needWhat_18 : decode M_Camp_needWhat.2.1 18 = .ok (.athrow, 1) := by decide +kernel
theorem d_Camp_needWhat_19 : decode M_Camp_needWhat.2.1 19 = .ok (.return_, 1) := by decide +kernel
def s_Camp_needWhat (x1 : Int32) (x2 : Int32) : Int32 := (if x1 < 0 then 1 else (if x1 < x2 then 0 else 1))
set_option maxRecDepth 100000 in
set_option maxHeartbeats 800000 in
theorem c_Camp_needWhat {Γ : G9} {ms : Nat → Nat} {h : AH} {z : Nat} {x1 : Int32} {x2 : Int32} (hms : MsOk Γ ms) (hth : ThOk Γ) : CallT Γ M_Camp_needWhat 6 1 6 [.int x1, .int x2] h z (s_Camp_needWhat x1 x2) none h := by
  refine Call.of_go (L := [some (.int x1), some (.int x2)]) (by decide +kernel) rfl (by exact Nat.le_of_ble_eq_true rfl) ?_
  unfold s_Camp_needWhat
  refine Go.iload_0 d_Camp_needWhat_0 rfl ?_
  refine Go.if_lt (t := 9) d_Camp_needWhat_1 (by decide) rfl (fun c1_1 => ?_) (fun c1_1 => ?_)
  · rw [if_pos c1_1]
    exact Go.throwS (names := xnm) (cls := xIO) d_Camp_needWhat_9 d_Camp_needWhat_12 d_Camp_needWhat_13 d_Camp_needWhat_15 d_Camp_needWhat_18 x_Camp_k153 x_ini_IndexOutOfBoundsException xw_xIO (by decide +kernel) (by decide +kernel) (hms 158 "there is no such thing to tell" (by decide)) hth rfl rfl (by decide) rfl rfl rfl (fun z2 hz => ⟨by decide, rfl, by dsimp only, hz⟩)
  · refine Go.iload_0 d_Camp_needWhat_4 rfl ?_
    refine Go.iload_1 d_Camp_needWhat_5 rfl ?_
    refine Go.icmp_lt (t := 19) d_Camp_needWhat_6 (by decide) rfl (fun c6_2 => ?_) (fun c6_2 => ?_)
    · rw [if_neg c1_1, if_pos c6_2]
      exact Go.vret d_Camp_needWhat_19 rfl ⟨rfl, rfl, by dsimp only, rfl⟩
    · rw [if_neg c1_1, if_neg c6_2]
      exact Go.throwS (names := xnm) (cls := xIO) d_Camp_needWhat_9 d_Camp_needWhat_12 d_Camp_needWhat_13 d_Camp_needWhat_15 d_Camp_needWhat_18 x_Camp_k153 x_ini_IndexOutOfBoundsException xw_xIO (by decide +kernel) (by decide +kernel) (hms 158 "there is no such thing to tell" (by decide)) hth rfl rfl (by decide) rfl rfl rfl (fun z2 hz => ⟨by decide, rfl, by dsimp only, hz⟩)
theorem d_Camp_needRange_0 : decode M_Camp_needRange.2.1 0 = .ok (.iload_n 0, 1) := by decide +kernel
theorem d_Camp_needRange_1 : decode M_Camp_needRange.2.1 1 = .ok (.iload_n 1, 1) := by decide +kernel
theorem d_Camp_needRange_2 : decode M_Camp_needRange.2.1 2 = .ok (.if_icmp .lt 8, 3) := by decide +kernel
theorem d_Camp_needRange_5 : decode M_Camp_needRange.2.1 5 = .ok (.iload_n 0, 1) := by decide +kernel
theorem d_Camp_needRange_6 : decode M_Camp_needRange.2.1 6 = .ok (.iload_n 2, 1) := by decide +kernel
theorem d_Camp_needRange_7 : decode M_Camp_needRange.2.1 7 = .ok (.if_icmp .le 13, 3) := by decide +kernel
theorem d_Camp_needRange_10 : decode M_Camp_needRange.2.1 10 = .ok (.new 62, 3) := by decide +kernel
theorem d_Camp_needRange_13 : decode M_Camp_needRange.2.1 13 = .ok (.dup, 1) := by decide +kernel
theorem d_Camp_needRange_14 : decode M_Camp_needRange.2.1 14 = .ok (.ldc 160, 2) := by decide +kernel
theorem d_Camp_needRange_16 : decode M_Camp_needRange.2.1 16 = .ok (.invokespecial 66, 3) := by decide +kernel
theorem d_Camp_needRange_19 : decode M_Camp_needRange.2.1 19 = .ok (.athrow, 1) := by decide +kernel
theorem d_Camp_needRange_20 : decode M_Camp_needRange.2.1 20 = .ok (.return_, 1) := by decide +kernel
def s_Camp_needRange (x1 : Int32) (x2 : Int32) (x3 : Int32) : Int32 := (if x1 < x2 then 2 else (if x1 ≤ x3 then 0 else 2))
set_option maxRecDepth 100000 in
set_option maxHeartbeats 800000 in
theorem c_Camp_needRange {Γ : G9} {ms : Nat → Nat} {h : AH} {z : Nat} {x1 : Int32} {x2 : Int32} {x3 : Int32} (hms : MsOk Γ ms) (hth : ThOk Γ) : CallT Γ M_Camp_needRange 6 1 6 [.int x1, .int x2, .int x3] h z (s_Camp_needRange x1 x2 x3) none h := by
  refine Call.of_go (L := [some (.int x1), some (.int x2), some (.int x3)]) (by decide +kernel) rfl (by exact Nat.le_of_ble_eq_true rfl) ?_
  unfold s_Camp_needRange
  refine Go.iload_0 d_Camp_needRange_0 rfl ?_
  refine Go.iload_1 d_Camp_needRange_1 rfl ?_
  refine Go.icmp_lt (t := 10) d_Camp_needRange_2 (by decide) rfl (fun c2_1 => ?_) (fun c2_1 => ?_)
  · rw [if_pos c2_1]
    exact Go.throwS (names := xnm) (cls := xIA) d_Camp_needRange_10 d_Camp_needRange_13 d_Camp_needRange_14 d_Camp_needRange_16 d_Camp_needRange_19 x_Camp_k62 x_ini_IllegalArgumentException xw_xIA (by decide +kernel) (by decide +kernel) (hms 160 "the number is out of its range" (by decide)) hth rfl rfl (by decide) rfl rfl rfl (fun z2 hz => ⟨by decide, rfl, by dsimp only, hz⟩)
  · refine Go.iload_0 d_Camp_needRange_5 rfl ?_
    refine Go.iload_2 d_Camp_needRange_6 rfl ?_
    refine Go.icmp_le (t := 20) d_Camp_needRange_7 (by decide) rfl (fun c7_2 => ?_) (fun c7_2 => ?_)
    · rw [if_neg c2_1, if_pos c7_2]
      exact Go.vret d_Camp_needRange_20 rfl ⟨rfl, rfl, by dsimp only, rfl⟩
    · rw [if_neg c2_1, if_neg c7_2]
      exact Go.throwS (names := xnm) (cls := xIA) d_Camp_needRange_10 d_Camp_needRange_13 d_Camp_needRange_14 d_Camp_needRange_16 d_Camp_needRange_19 x_Camp_k62 x_ini_IllegalArgumentException xw_xIA (by decide +kernel) (by decide +kernel) (hms 160 "the number is out of its range" (by decide)) hth rfl rfl (by decide) rfl rfl rfl (fun z2 hz => ⟨by decide, rfl, by dsimp only, hz⟩)
theorem d_Camp_digestOf_18 : decode M_Camp_digestOf.2.1 18 = .ok (.iload 7, 2) := by decide +kernel
theorem d_Camp_digestOf_20 : decode M_Camp_digestOf.2.1 20 = .ok (.iload_n 1, 1) := by decide +kernel
theorem d_Camp_digestOf_21 : decode M_Camp_digestOf.2.1 21 = .ok (.if_icmp .ge 27, 3) := by decide +kernel
theorem d_Camp_digestOf_24 : decode M_Camp_digestOf.2.1 24 = .ok (.lload 4, 2) := by decide +kernel
theorem d_Camp_digestOf_26 : decode M_Camp_digestOf.2.1 26 = .ok (.ldc2_w 227, 3) := by decide +kernel
theorem d_Camp_digestOf_29 : decode M_Camp_digestOf.2.1 29 = .ok (.lmul, 1) := by decide +kernel
theorem d_Camp_digestOf_30 : decode M_Camp_digestOf.2.1 30 = .ok (.aload_n 0, 1) := by decide +kernel
theorem d_Camp_digestOf_31 : decode M_Camp_digestOf.2.1 31 = .ok (.iload 6, 2) := by decide +kernel
theorem d_Camp_digestOf_33 : decode M_Camp_digestOf.2.1 33 = .ok (.iload 7, 2) := by decide +kernel
theorem d_Camp_digestOf_35 : decode M_Camp_digestOf.2.1 35 = .ok (.invokevirtual 143, 3) := by decide +kernel
theorem d_Camp_digestOf_38 : decode M_Camp_digestOf.2.1 38 = .ok (.i2l, 1) := by decide +kernel
theorem d_Camp_digestOf_39 : decode M_Camp_digestOf.2.1 39 = .ok (.ladd, 1) := by decide +kernel
theorem d_Camp_digestOf_40 : decode M_Camp_digestOf.2.1 40 = .ok (.lstore 4, 2) := by decide +kernel
theorem d_Camp_digestOf_42 : decode M_Camp_digestOf.2.1 42 = .ok (.iinc 7 1, 3) := by decide +kernel
theorem d_Camp_digestOf_45 : decode M_Camp_digestOf.2.1 45 = .ok (.goto (-27), 3) := by decide +kernel
def l_Camp_digestOf_in (T : TM) (x1 : Nat) (x2 : Int64) (r : Int32) : Nat → Nat → Int64 → Int64
  | 0, _, d => d
  | k + 1, i, d => (l_Camp_digestOf_in T x1 x2 r k (i + 1) ((d * 31) + (tgI T r i).toInt64))
set_option maxRecDepth 100000 in
set_option maxHeartbeats 800000 in
theorem l_Camp_digestOf_in_go {Γ : G9} {h : AH} {t z cap : Nat} {n : Nat} {Q : QT} {X : XT} {T : TM} {x1 : Nat} {x2 : Int64} {r : Int32} (bx1 : x1 ≤ 8) (hT : h t = some (tabO t T)) (hA : h (t + 1) = some (aI Γ (cap * 8) T.1)) (hw : T.2 ≤ cap) (hcap : cap ≤ 20) (hn20 : n ≤ 8) (hn : x1 = n) : ∀ (k i : Nat) (d : Int64), i + k = n → Go Γ M_Camp_digestOf 1 0 0 48 [some (.ref t), some (.int (nI x1)), some (.long x2), none, some (.long (l_Camp_digestOf_in T x1 x2 r k i d)), none, some (.int r), some (.int (nI (i + k)))] [] h z Q X → Go Γ M_Camp_digestOf 1 0 0 18 [some (.ref t), some (.int (nI x1)), some (.long x2), none, some (.long d), none, some (.int r), some (.int (nI i))] [] h z Q X := by
  intro k
  induction k with
  | zero =>
    intro i d hi hk
    refine Go.iload_7 d_Camp_digestOf_18 rfl ?_
    refine Go.iload_1 d_Camp_digestOf_20 rfl ?_
    refine Go.icmp_ge (t := 48) d_Camp_digestOf_21 (by decide) rfl (fun c21_1 => ?_) (fun c21_1 => ?_)
    · exact hk
    · exact absurd (nI_le (by omega) (by omega)) c21_1
  | succ k ih =>
    intro i d hi hk
    unfold l_Camp_digestOf_in at hk
    rw [show i + (k + 1) = i + 1 + k by omega] at hk
    refine Go.iload_7 d_Camp_digestOf_18 rfl ?_
    refine Go.iload_1 d_Camp_digestOf_20 rfl ?_
    refine Go.icmp_ge (t := 48) d_Camp_digestOf_21 (by decide) rfl (fun c21_1 => ?_) (fun c21_1 => ?_)
    · exact absurd c21_1 (nI_ge (by omega) (by omega))
    · refine Go.lload_4 d_Camp_digestOf_24 rfl ?_
      refine Go.ldc2 (v := 31) d_Camp_digestOf_26 rfl x_Camp_227 ?_
      refine Go.lmul d_Camp_digestOf_29 rfl ?_
      refine Go.aload_0 d_Camp_digestOf_30 rfl ?_
      refine Go.iload_6 d_Camp_digestOf_31 rfl ?_
      refine Go.iload_7 d_Camp_digestOf_33 rfl ?_
      refine Go.cv2r d_Camp_digestOf_35 rfl l_Camp_143 k_Table_get_v hT rfl (c_Table_get (c := i) hT hA hw hcap (by omega)) rfl rfl rfl ?_
      refine Go.i2l d_Camp_digestOf_38 rfl ?_
      refine Go.ladd d_Camp_digestOf_39 rfl ?_
      refine Go.lstore_4 d_Camp_digestOf_40 rfl (by rfl) ?_
      refine Go.iinc_7 d_Camp_digestOf_42 rfl (by rfl) (nI_inc _) ?_
      refine Go.goto (t := 18) d_Camp_digestOf_45 (by decide) ?_
      exact ih (i + 1) _ (by omega) hk
theorem d_Camp_digestOf_6 : decode M_Camp_digestOf.2.1 6 = .ok (.iload 6, 2) := by decide +kernel
theorem d_Camp_digestOf_8 : decode M_Camp_digestOf.2.1 8 = .ok (.aload_n 0, 1) := by decide +kernel
theorem d_Camp_digestOf_9 : decode M_Camp_digestOf.2.1 9 = .ok (.invokevirtual 111, 3) := by decide +kernel
theorem d_Camp_digestOf_12 : decode M_Camp_digestOf.2.1 12 = .ok (.if_icmp .ge 42, 3) := by decide +kernel
theorem d_Camp_digestOf_15 : decode M_Camp_digestOf.2.1 15 = .ok (.iconst 0, 1) := by decide +kernel
theorem d_Camp_digestOf_16 : decode M_Camp_digestOf.2.1 16 = .ok (.istore 7, 2) := by decide +kernel
theorem d_Camp_digestOf_48 : decode M_Camp_digestOf.2.1 48 = .ok (.iinc 6 1, 3) := by decide +kernel
theorem d_Camp_digestOf_51 : decode M_Camp_digestOf.2.1 51 = .ok (.goto (-45), 3) := by decide +kernel
def l_Camp_digestOf_6 (T : TM) (x1 : Nat) (x2 : Int64) : Nat → Nat → Int64 → Int64
  | 0, _, d => d
  | k + 1, i, d => (l_Camp_digestOf_6 T x1 x2 k (i + 1) (l_Camp_digestOf_in T x1 x2 (nI i) (x1) 0 d))
set_option maxRecDepth 100000 in
set_option maxHeartbeats 800000 in
theorem l_Camp_digestOf_6_go {Γ : G9} {h : AH} {t z cap : Nat} {n : Nat} {Q : QT} {X : XT} {T : TM} {x1 : Nat} {x2 : Int64} (bx1 : x1 ≤ 8) (hT : h t = some (tabO t T)) (hA : h (t + 1) = some (aI Γ (cap * 8) T.1)) (hw : T.2 ≤ cap) (hcap : cap ≤ 20) (hn20 : n ≤ 20) (hn : T.2 = n) : ∀ (k i : Nat) (d : Int64), i + k = n → Go Γ M_Camp_digestOf 1 0 0 54 [some (.ref t), some (.int (nI x1)), some (.long x2), none, some (.long (l_Camp_digestOf_6 T x1 x2 k i d)), none, some (.int (nI (i + k))), none] [] h z Q X → Go Γ M_Camp_digestOf 1 0 0 6 [some (.ref t), some (.int (nI x1)), some (.long x2), none, some (.long d), none, some (.int (nI i)), none] [] h z Q X := by
  intro k
  induction k with
  | zero =>
    intro i d hi hk
    refine Go.iload_6 d_Camp_digestOf_6 rfl ?_
    refine Go.aload_0 d_Camp_digestOf_8 rfl ?_
    refine Go.cv0r d_Camp_digestOf_9 rfl l_Camp_111 k_Table_rows_v hT rfl (c_Table_rows hT) rfl rfl rfl ?_
    refine Go.icmp_ge (t := 54) d_Camp_digestOf_12 (by decide) rfl (fun c12_1 => ?_) (fun c12_1 => ?_)
    · exact hk
    · exact absurd (nI_le (by omega) (by omega)) c12_1
  | succ k ih =>
    intro i d hi hk
    unfold l_Camp_digestOf_6 at hk
    rw [show i + (k + 1) = i + 1 + k by omega] at hk
    refine Go.iload_6 d_Camp_digestOf_6 rfl ?_
    refine Go.aload_0 d_Camp_digestOf_8 rfl ?_
    refine Go.cv0r d_Camp_digestOf_9 rfl l_Camp_111 k_Table_rows_v hT rfl (c_Table_rows hT) rfl rfl rfl ?_
    refine Go.icmp_ge (t := 54) d_Camp_digestOf_12 (by decide) rfl (fun c12_1 => ?_) (fun c12_1 => ?_)
    · exact absurd c12_1 (nI_ge (by omega) (by omega))
    · refine Go.iconst (v := 0) d_Camp_digestOf_15 rfl (by decide) ?_
      refine Go.istore_7 d_Camp_digestOf_16 rfl (by rfl) ?_
      refine l_Camp_digestOf_in_go (n := (x1)) bx1 hT hA hw hcap (by omega) rfl (x1) 0 d (by omega) ?_
      refine Go.iinc_6 d_Camp_digestOf_48 rfl (by rfl) (nI_inc _) ?_
      refine Go.goto (t := 6) d_Camp_digestOf_51 (by decide) ?_
      refine Go.fgt [some (.ref t), some (.int (nI x1)), some (.long x2), none, some (.long (l_Camp_digestOf_in T x1 x2 (nI i) (x1) 0 d)), none, some (.int (nI (i + 1))), none] (by repeat' (first | exact trivial | refine ⟨rfl, ?_⟩)) ?_
      exact ih (i + 1) _ (by omega) hk
theorem d_Camp_digestOf_0 : decode M_Camp_digestOf.2.1 0 = .ok (.lload_n 2, 1) := by decide +kernel
theorem d_Camp_digestOf_1 : decode M_Camp_digestOf.2.1 1 = .ok (.lstore 4, 2) := by decide +kernel
theorem d_Camp_digestOf_3 : decode M_Camp_digestOf.2.1 3 = .ok (.iconst 0, 1) := by decide +kernel
theorem d_Camp_digestOf_4 : decode M_Camp_digestOf.2.1 4 = .ok (.istore 6, 2) := by decide +kernel
theorem d_Camp_digestOf_54 : decode M_Camp_digestOf.2.1 54 = .ok (.lload 4, 2) := by decide +kernel
theorem d_Camp_digestOf_56 : decode M_Camp_digestOf.2.1 56 = .ok (.lreturn, 1) := by decide +kernel
def s_Camp_digestOf (T : TM) (x1 : Nat) (x2 : Int64) : Int64 := (l_Camp_digestOf_6 T x1 x2 (T.2) 0 x2)
set_option maxRecDepth 100000 in
set_option maxHeartbeats 800000 in
theorem c_Camp_digestOf {Γ : G9} {h : AH} {t z cap : Nat} {T : TM} {x1 : Nat} {vx1 : Int32} {x2 : Int64} (ex1 : vx1 = nI x1) (bx1 : x1 ≤ 8) (hT : h t = some (tabO t T)) (hA : h (t + 1) = some (aI Γ (cap * 8) T.1)) (hw : T.2 ≤ cap) (hcap : cap ≤ 20) : CallR Γ M_Camp_digestOf 1 [.ref t, .int vx1, .long x2] h z (some (.long (s_Camp_digestOf T x1 x2))) h := by
  subst ex1
  refine Call.of_go (L := [some (.ref t), some (.int (nI x1)), some (.long x2), none, none, none, none, none]) (by decide +kernel) rfl (by exact Nat.le_of_ble_eq_true rfl) ?_
  unfold s_Camp_digestOf
  refine Go.lload_2 d_Camp_digestOf_0 rfl ?_
  refine Go.lstore_4 d_Camp_digestOf_1 rfl (by rfl) ?_
  refine Go.iconst (v := 0) d_Camp_digestOf_3 rfl (by decide) ?_
  refine Go.istore_6 d_Camp_digestOf_4 rfl (by rfl) ?_
  refine l_Camp_digestOf_6_go (n := (T.2)) bx1 hT hA hw hcap (by omega) rfl (T.2) 0 x2 (by omega) ?_
  refine Go.lload_4 d_Camp_digestOf_54 rfl ?_
  exact Go.lret d_Camp_digestOf_56 rfl ⟨rfl, rfl, rfl⟩
