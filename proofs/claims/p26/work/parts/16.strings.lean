/-! strings that are constants -/
theorem x_String_1053 : Cond.fieldLink "java/lang/String" 1053 "jdk/internal/util/Preconditions" "SIOOBE_FORMATTER" "Ljava/util/function/BiFunction;" ∈ gw := gm_3 (List.mem_of_getElem? (i := 222) rfl) rfl
def StOk (Γ : G9) (a : Nat) (l : List Int32) : Prop := l.length ≤ 20 ∧ SF Γ (va_O "java/lang/String" a) ∧ SF Γ (va_OF "java/lang/String" "coder" "B" (.int 0) a) ∧ ∃ v : Nat, SF Γ (va_OF "java/lang/String" "value" "[B" (.ref v) a) ∧ SF Γ (va_T .byte v l.length (fun j => .int (l.getD j 0)))
def CsOk (Γ : G9) : Prop := SF Γ (va_Z "java/lang/String" "COMPACT_STRINGS" "Z" (.int 1)) ∧ SF Γ (va_Zq "jdk/internal/util/Preconditions" "SIOOBE_FORMATTER" "Ljava/util/function/BiFunction;")
def chr (l : List Int32) (i : Nat) : Int32 := ((l.getD i 0 &&& 255).toUInt32 % 65536).toInt32
section GoStr
variable {Γ : G9} {M : MI} {d C S pc q : Nat} {L : List (Option Value)} {st : List Value} {h : AH} {z : Nat} {Q : QT} {X : XT}
/-- a static that holds null or a reference -/
theorem Go.getsq {idx : Nat} {Cn n ds : String} (hd : decode M.2.1 pc = .ok (.getstatic idx, 3)) (hq : pc + 3 = q) (lk : Cond.fieldLink M.1.cls idx Cn n ds ∈ gw) (hz : SF Γ (va_Zq Cn n ds)) (kk : ∀ o : Option Nat, Go Γ M d C S q L (va_rf o :: st) h z Q X) : Go Γ M d C S pc L st h z Q X := by
  subst hq
  intro p e R s m args below meth c H locs cells slots ls Z hc
  rcases hz _ _ hc.2.2.1.se with h1 | ⟨t, h1⟩
  · exact va_gets hc.1.1 hc.1.2.1 h1 hc.2.2.1.2.1 hc.1.2.2.2.2.1 (hc.1.2.2.2.2.2.1 _ lk) (fun x hx => hx) hd (kk none _ _ _ _ _ _ _ _ _ _ _ _ _ _ _ hc)
  · exact va_gets hc.1.1 hc.1.2.1 h1 hc.2.2.1.2.1 hc.1.2.2.2.2.1 (hc.1.2.2.2.2.2.1 _ lk) (fun x hx => hx) hd (kk (some t) _ _ _ _ _ _ _ _ _ _ _ _ _ _ _ hc)
/-- an instance method of a constant object -/
theorem Go.callO {M' : MI} {n d' idx b : Nat} {V : Option Value} {h2 : AH} {as rest : List Value} (hd : decode M.2.1 pc = .ok (.invokevirtual idx, 3)) (hq : pc + 3 = q) (lk : Cond.methodLink M.1.cls idx M'.1 ∈ gw) (ok : OkV M' n) (hn : as.length = n) (hO : SF Γ (va_O M'.1.cls b)) (hst : st = as.reverse ++ .ref b :: rest)
    (hc : CallR Γ M' d' (.ref b :: as) h z V h2) (hd' : Nat.ble (d' + 1) d = true) (hml : Nat.ble M'.2.2.1 21 = true) (hw : Nat.ble (rest.map fun v => v.category).sum 8 = true)
    (kk : Go Γ M d C S q L (V.toList ++ rest) h2 z Q X) : Go Γ M d C S pc L st h z Q X := by
  subst hq
  have hd' := Nat.le_of_ble_eq_true hd'
  have hml := Nat.le_of_ble_eq_true hml
  have hw := Nat.le_of_ble_eq_true hw
  refine Go.after (Q' := RQ V h2 z) (X' := noX) (C' := 0) (S' := 0) (C1 := C) (S1 := S) (av := (Value.ref b :: as).toArray) (rest := rest) (fun p e R s m args below meth c H locs cells slots ls Z hx => ?_) (by omega) (by omega) (fun E h' z' hx _ => hx.elim) (fun v h' z' hx _ => by obtain ⟨rfl, rfl, rfl⟩ := hx; exact kk)
  obtain ⟨r1, r2, r3, r4⟩ := hx.2.1
  have hts := hx.1.2.2.2.2.2.1
  have hH := hx.2.2.1
  obtain ⟨⟨g1, g2, g3, g4, g5⟩, g6, g7, g8⟩ := ok
  rw [mi_w_nil g6] at g1
  have hcell := va_Orecv (hO _ _ hH.se) hH.2.1
  refine vx_runV (C := M'.1.cls) (As := as) (n := n) (Ts := gw) (own := M.1.cls) ⟨hx.1.1, hx.1.2.1, hx.1.2.2.1, hx.1.2.2.2.2.1, hts⟩ hc ⟨⟨rfl, rfl, (show d' + 1 ≤ R.frames by omega), ?_, by rw [← mi_w_nil g6] at g1; exact gw_pay hts g1, by rw [mi_w_nil g6]; exact List.mem_cons_self, hts _ g1, hts _ g2, ⟨g3, g4⟩, fun sig hsig => ?_, hts _ lk⟩, hts _ g7, hts _ g8⟩ ⟨blindP, hcell, fun U hU hW => startP hH hx.2.2.2.1 hU hW⟩ rfl hn (by rw [hx.2.2.2.2.1.1]) hst (lv_room hw) hd ⟨by omega, by omega⟩
  · show 8 + (M'.2.2.1 + 11) + 40 * d' ≤ R.locals
    omega
  · rw [hsig] at g5
    exact (Option.some.inj g5).symm
end GoStr
theorem chr_id (x : Int32) : narrow .char (.int ((x.toUInt32 % 65536).toInt32)) = .int ((x.toUInt32 % 65536).toInt32) := by
  have h : x.toUInt32 % 65536 % 65536 = x.toUInt32 % 65536 := UInt32.toNat_inj.mp (by simp [UInt32.toNat_mod])
  simp [narrow, h]
theorem nI_shr0 (n : Nat) : nI n >>> ((0 : Int32) &&& 31) = nI n := by
  have : (0 : Int32) &&& 31 = 0 := by decide
  rw [this]
  exact Int32.shiftRight_zero
theorem d_String_coder_0 : decode M_String_coder.2.1 0 = .ok (.getstatic 38, 3) := by decide +kernel
theorem d_String_coder_3 : decode M_String_coder.2.1 3 = .ok (.ifCond .eq 10, 3) := by decide +kernel
theorem d_String_coder_6 : decode M_String_coder.2.1 6 = .ok (.aload_n 0, 1) := by decide +kernel
theorem d_String_coder_7 : decode M_String_coder.2.1 7 = .ok (.getfield 15, 3) := by decide +kernel
theorem d_String_coder_10 : decode M_String_coder.2.1 10 = .ok (.goto 4, 3) := by decide +kernel
theorem d_String_coder_13 : decode M_String_coder.2.1 13 = .ok (.iconst 1, 1) := by decide +kernel
theorem d_String_coder_14 : decode M_String_coder.2.1 14 = .ok (.ireturn, 1) := by decide +kernel
set_option maxRecDepth 100000 in
set_option maxHeartbeats 4000000 in
theorem c_String_coder {Γ : G9} {h : AH} {z a : Nat} {l : List Int32} (hk : CsOk Γ) (ha : StOk Γ a l) : CallR Γ M_String_coder 0 [.ref a] h z (some (.int 0)) h := by
  refine Call.of_go (L := [some (.ref a)]) (by decide +kernel) rfl (by exact Nat.le_of_ble_eq_true rfl) ?_
  refine Go.gets d_String_coder_0 rfl x_String_38 hk.1 ?_
  refine Go.if_eq (t := 13) d_String_coder_3 (by decide) rfl (fun w => absurd w (by decide)) (fun _ => ?_)
  refine Go.aload_0 d_String_coder_6 rfl ?_
  refine Go.getfS d_String_coder_7 rfl x_String_15 ha.2.2.1 ?_
  refine Go.goto (t := 14) d_String_coder_10 (by decide) ?_
  exact Go.iret d_String_coder_14 rfl rfl ⟨rfl, rfl, rfl⟩
theorem d_String_isLatin1_0 : decode M_String_isLatin1.2.1 0 = .ok (.getstatic 38, 3) := by decide +kernel
theorem d_String_isLatin1_3 : decode M_String_isLatin1.2.1 3 = .ok (.ifCond .eq 14, 3) := by decide +kernel
theorem d_String_isLatin1_6 : decode M_String_isLatin1.2.1 6 = .ok (.aload_n 0, 1) := by decide +kernel
theorem d_String_isLatin1_7 : decode M_String_isLatin1.2.1 7 = .ok (.getfield 15, 3) := by decide +kernel
theorem d_String_isLatin1_10 : decode M_String_isLatin1.2.1 10 = .ok (.ifCond .ne 7, 3) := by decide +kernel
theorem d_String_isLatin1_13 : decode M_String_isLatin1.2.1 13 = .ok (.iconst 1, 1) := by decide +kernel
theorem d_String_isLatin1_14 : decode M_String_isLatin1.2.1 14 = .ok (.goto 4, 3) := by decide +kernel
theorem d_String_isLatin1_17 : decode M_String_isLatin1.2.1 17 = .ok (.iconst 0, 1) := by decide +kernel
theorem d_String_isLatin1_18 : decode M_String_isLatin1.2.1 18 = .ok (.ireturn, 1) := by decide +kernel
set_option maxRecDepth 100000 in
set_option maxHeartbeats 4000000 in
theorem c_String_isLatin1 {Γ : G9} {h : AH} {z a : Nat} {l : List Int32} (hk : CsOk Γ) (ha : StOk Γ a l) : CallR Γ M_String_isLatin1 0 [.ref a] h z (some (.int 1)) h := by
  refine Call.of_go (L := [some (.ref a)]) (by decide +kernel) rfl (by exact Nat.le_of_ble_eq_true rfl) ?_
  refine Go.gets d_String_isLatin1_0 rfl x_String_38 hk.1 ?_
  refine Go.if_eq (t := 17) d_String_isLatin1_3 (by decide) rfl (fun w => absurd w (by decide)) (fun _ => ?_)
  refine Go.aload_0 d_String_isLatin1_6 rfl ?_
  refine Go.getfS d_String_isLatin1_7 rfl x_String_15 ha.2.2.1 ?_
  refine Go.if_ne (t := 17) d_String_isLatin1_10 (by decide) rfl (fun w => absurd rfl w) (fun _ => ?_)
  refine Go.iconst (v := 1) d_String_isLatin1_13 rfl (by decide) ?_
  refine Go.goto (t := 18) d_String_isLatin1_14 (by decide) ?_
  exact Go.iret d_String_isLatin1_18 rfl rfl ⟨rfl, rfl, rfl⟩
theorem d_String_length_0 : decode M_String_length.2.1 0 = .ok (.aload_n 0, 1) := by decide +kernel
theorem d_String_length_1 : decode M_String_length.2.1 1 = .ok (.getfield 9, 3) := by decide +kernel
theorem d_String_length_4 : decode M_String_length.2.1 4 = .ok (.arraylength, 1) := by decide +kernel
theorem d_String_length_5 : decode M_String_length.2.1 5 = .ok (.aload_n 0, 1) := by decide +kernel
theorem d_String_length_6 : decode M_String_length.2.1 6 = .ok (.invokevirtual 335, 3) := by decide +kernel
theorem d_String_length_9 : decode M_String_length.2.1 9 = .ok (.ishr, 1) := by decide +kernel
theorem d_String_length_10 : decode M_String_length.2.1 10 = .ok (.ireturn, 1) := by decide +kernel
set_option maxRecDepth 100000 in
set_option maxHeartbeats 4000000 in
theorem c_String_length {Γ : G9} {h : AH} {z a : Nat} {l : List Int32} (hk : CsOk Γ) (ha : StOk Γ a l) : CallR Γ M_String_length 1 [.ref a] h z (some (.int (nI l.length))) h := by
  refine Call.of_go (L := [some (.ref a)]) (by decide +kernel) rfl (by exact Nat.le_of_ble_eq_true rfl) ?_
  obtain ⟨v, hv, ht⟩ := ha.2.2.2
  refine Go.aload_0 d_String_length_0 rfl ?_
  refine Go.getfS d_String_length_1 rfl x_String_9 hv ?_
  refine Go.alenS (v := nI l.length) d_String_length_4 rfl ht rfl ?_
  refine Go.aload_0 d_String_length_5 rfl ?_
  refine Go.callO (as := []) d_String_length_6 rfl l_String_335 k_String_coder_v rfl ha.2.1 rfl (c_String_coder hk ha) rfl rfl rfl ?_
  refine Go.ishr d_String_length_9 rfl ?_
  rw [nI_shr0]
  exact Go.iret d_String_length_10 rfl rfl ⟨rfl, rfl, rfl⟩
theorem d_Preconditions_checkIndex_0 : decode M_Preconditions_checkIndex.2.1 0 = .ok (.iload_n 0, 1) := by decide +kernel
theorem d_Preconditions_checkIndex_1 : decode M_Preconditions_checkIndex.2.1 1 = .ok (.ifCond .lt 8, 3) := by decide +kernel
theorem d_Preconditions_checkIndex_4 : decode M_Preconditions_checkIndex.2.1 4 = .ok (.iload_n 0, 1) := by decide +kernel
theorem d_Preconditions_checkIndex_5 : decode M_Preconditions_checkIndex.2.1 5 = .ok (.iload_n 1, 1) := by decide +kernel
theorem d_Preconditions_checkIndex_6 : decode M_Preconditions_checkIndex.2.1 6 = .ok (.if_icmp .lt 10, 3) := by decide +kernel
theorem d_Preconditions_checkIndex_9 : decode M_Preconditions_checkIndex.2.1 9 = .ok (.aload_n 2, 1) := by decide +kernel
theorem d_Preconditions_checkIndex_10 : decode M_Preconditions_checkIndex.2.1 10 = .ok (.iload_n 0, 1) := by decide +kernel
theorem d_Preconditions_checkIndex_11 : decode M_Preconditions_checkIndex.2.1 11 = .ok (.iload_n 1, 1) := by decide +kernel
theorem d_Preconditions_checkIndex_12 : decode M_Preconditions_checkIndex.2.1 12 = .ok (.invokestatic 95, 3) := by decide +kernel
theorem d_Preconditions_checkIndex_15 : decode M_Preconditions_checkIndex.2.1 15 = .ok (.athrow, 1) := by decide +kernel
theorem d_Preconditions_checkIndex_16 : decode M_Preconditions_checkIndex.2.1 16 = .ok (.iload_n 0, 1) := by decide +kernel
theorem d_Preconditions_checkIndex_17 : decode M_Preconditions_checkIndex.2.1 17 = .ok (.ireturn, 1) := by decide +kernel
set_option maxRecDepth 100000 in
set_option maxHeartbeats 4000000 in
theorem c_Preconditions_checkIndex {Γ : G9} {h : AH} {z i n : Nat} {o : Option Nat} (hi : i < n) (hn : n ≤ 20) : CallR Γ M_Preconditions_checkIndex 0 [.int (nI i), .int (nI n), va_rf o] h z (some (.int (nI i))) h := by
  cases o with
  | none =>
    refine Call.of_go (L := [some (.int (nI i)), some (.int (nI n)), some .null]) (by decide +kernel) rfl (by exact Nat.le_of_ble_eq_true rfl) ?_
    refine Go.iload_0 d_Preconditions_checkIndex_0 rfl ?_
    refine Go.if_lt (t := 9) d_Preconditions_checkIndex_1 (by decide) rfl (fun w => absurd w (nI_pos (by omega))) (fun _ => ?_)
    refine Go.iload_0 d_Preconditions_checkIndex_4 rfl ?_
    refine Go.iload_1 d_Preconditions_checkIndex_5 rfl ?_
    refine Go.icmp_lt (t := 16) d_Preconditions_checkIndex_6 (by decide) rfl (fun _ => ?_) (fun w => absurd ((nI_ltI (by omega) (by omega)).mpr hi) w)
    refine Go.iload_0 d_Preconditions_checkIndex_16 rfl ?_
    exact Go.iret d_Preconditions_checkIndex_17 rfl rfl ⟨rfl, rfl, rfl⟩
  | some t =>
    refine Call.of_go (L := [some (.int (nI i)), some (.int (nI n)), some (.ref t)]) (by decide +kernel) rfl (by exact Nat.le_of_ble_eq_true rfl) ?_
    refine Go.iload_0 d_Preconditions_checkIndex_0 rfl ?_
    refine Go.if_lt (t := 9) d_Preconditions_checkIndex_1 (by decide) rfl (fun w => absurd w (nI_pos (by omega))) (fun _ => ?_)
    refine Go.iload_0 d_Preconditions_checkIndex_4 rfl ?_
    refine Go.iload_1 d_Preconditions_checkIndex_5 rfl ?_
    refine Go.icmp_lt (t := 16) d_Preconditions_checkIndex_6 (by decide) rfl (fun _ => ?_) (fun w => absurd ((nI_ltI (by omega) (by omega)).mpr hi) w)
    refine Go.iload_0 d_Preconditions_checkIndex_16 rfl ?_
    exact Go.iret d_Preconditions_checkIndex_17 rfl rfl ⟨rfl, rfl, rfl⟩
theorem d_String_checkIndex_0 : decode M_String_checkIndex.2.1 0 = .ok (.iload_n 0, 1) := by decide +kernel
theorem d_String_checkIndex_1 : decode M_String_checkIndex.2.1 1 = .ok (.iload_n 1, 1) := by decide +kernel
theorem d_String_checkIndex_2 : decode M_String_checkIndex.2.1 2 = .ok (.getstatic 1053, 3) := by decide +kernel
theorem d_String_checkIndex_5 : decode M_String_checkIndex.2.1 5 = .ok (.invokestatic 1059, 3) := by decide +kernel
theorem d_String_checkIndex_8 : decode M_String_checkIndex.2.1 8 = .ok (.pop, 1) := by decide +kernel
theorem d_String_checkIndex_9 : decode M_String_checkIndex.2.1 9 = .ok (.return_, 1) := by decide +kernel
set_option maxRecDepth 100000 in
set_option maxHeartbeats 4000000 in
theorem c_String_checkIndex {Γ : G9} {h : AH} {z i n : Nat} (hk : CsOk Γ) (hi : i < n) (hn : n ≤ 20) : CallR Γ M_String_checkIndex 1 [.int (nI i), .int (nI n)] h z none h := by
  refine Call.of_go (L := [some (.int (nI i)), some (.int (nI n))]) (by decide +kernel) rfl (by exact Nat.le_of_ble_eq_true rfl) ?_
  refine Go.iload_0 d_String_checkIndex_0 rfl ?_
  refine Go.iload_1 d_String_checkIndex_1 rfl ?_
  refine Go.getsq d_String_checkIndex_2 rfl x_String_1053 hk.2 (fun o => ?_)
  refine Go.cs3r d_String_checkIndex_5 rfl l_String_1059 k_Preconditions_checkIndex_s rfl (c_Preconditions_checkIndex hi hn) rfl rfl rfl ?_
  refine Go.pop d_String_checkIndex_8 rfl rfl ?_
  exact Go.vret d_String_checkIndex_9 rfl ⟨rfl, rfl, rfl⟩
theorem d_StringLatin1_charAt_0 : decode M_StringLatin1_charAt.2.1 0 = .ok (.iload_n 1, 1) := by decide +kernel
theorem d_StringLatin1_charAt_1 : decode M_StringLatin1_charAt.2.1 1 = .ok (.aload_n 0, 1) := by decide +kernel
theorem d_StringLatin1_charAt_2 : decode M_StringLatin1_charAt.2.1 2 = .ok (.arraylength, 1) := by decide +kernel
theorem d_StringLatin1_charAt_3 : decode M_StringLatin1_charAt.2.1 3 = .ok (.invokestatic 9, 3) := by decide +kernel
theorem d_StringLatin1_charAt_6 : decode M_StringLatin1_charAt.2.1 6 = .ok (.aload_n 0, 1) := by decide +kernel
theorem d_StringLatin1_charAt_7 : decode M_StringLatin1_charAt.2.1 7 = .ok (.iload_n 1, 1) := by decide +kernel
theorem d_StringLatin1_charAt_8 : decode M_StringLatin1_charAt.2.1 8 = .ok (.baload, 1) := by decide +kernel
theorem d_StringLatin1_charAt_9 : decode M_StringLatin1_charAt.2.1 9 = .ok (.sipush 255, 3) := by decide +kernel
theorem d_StringLatin1_charAt_12 : decode M_StringLatin1_charAt.2.1 12 = .ok (.iand, 1) := by decide +kernel
theorem d_StringLatin1_charAt_13 : decode M_StringLatin1_charAt.2.1 13 = .ok (.i2c, 1) := by decide +kernel
theorem d_StringLatin1_charAt_14 : decode M_StringLatin1_charAt.2.1 14 = .ok (.ireturn, 1) := by decide +kernel
set_option maxRecDepth 100000 in
set_option maxHeartbeats 4000000 in
theorem c_StringLatin1_charAt {Γ : G9} {h : AH} {z i v : Nat} {l : List Int32} (hk : CsOk Γ) (ht : SF Γ (va_T .byte v l.length (fun j => .int (l.getD j 0)))) (hi : i < l.length) (hl : l.length ≤ 20) : CallR Γ M_StringLatin1_charAt 2 [.ref v, .int (nI i)] h z (some (.int (chr l i))) h := by
  refine Call.of_go (L := [some (.ref v), some (.int (nI i))]) (by decide +kernel) rfl (by exact Nat.le_of_ble_eq_true rfl) ?_
  refine Go.iload_1 d_StringLatin1_charAt_0 rfl ?_
  refine Go.aload_0 d_StringLatin1_charAt_1 rfl ?_
  refine Go.alenS (v := nI l.length) d_StringLatin1_charAt_2 rfl ht rfl ?_
  refine Go.cs2v d_StringLatin1_charAt_3 rfl l_StringLatin1_9 k_String_checkIndex_s rfl (c_String_checkIndex hk hi hl) rfl rfl rfl ?_
  refine Go.aload_0 d_StringLatin1_charAt_6 rfl ?_
  refine Go.iload_1 d_StringLatin1_charAt_7 rfl ?_
  refine Go.baloadS d_StringLatin1_charAt_8 rfl ht (vp_in_nI (by omega) (by omega)) ?_
  rw [nI_clamp (show i < 2 ^ 31 by omega)]
  refine Go.sipush (v := 255) d_StringLatin1_charAt_9 rfl (by decide) ?_
  refine Go.iand d_StringLatin1_charAt_12 rfl ?_
  refine Go.i2c d_StringLatin1_charAt_13 rfl ?_
  exact Go.iret d_StringLatin1_charAt_14 rfl (chr_id _) ⟨rfl, rfl, rfl⟩
theorem d_String_charAt_0 : decode M_String_charAt.2.1 0 = .ok (.aload_n 0, 1) := by decide +kernel
theorem d_String_charAt_1 : decode M_String_charAt.2.1 1 = .ok (.invokevirtual 492, 3) := by decide +kernel
theorem d_String_charAt_4 : decode M_String_charAt.2.1 4 = .ok (.ifCond .eq 12, 3) := by decide +kernel
theorem d_String_charAt_7 : decode M_String_charAt.2.1 7 = .ok (.aload_n 0, 1) := by decide +kernel
theorem d_String_charAt_8 : decode M_String_charAt.2.1 8 = .ok (.getfield 9, 3) := by decide +kernel
theorem d_String_charAt_11 : decode M_String_charAt.2.1 11 = .ok (.iload_n 1, 1) := by decide +kernel
theorem d_String_charAt_12 : decode M_String_charAt.2.1 12 = .ok (.invokestatic 495, 3) := by decide +kernel
theorem d_String_charAt_15 : decode M_String_charAt.2.1 15 = .ok (.ireturn, 1) := by decide +kernel
theorem d_String_charAt_16 : decode M_String_charAt.2.1 16 = .ok (.aload_n 0, 1) := by decide +kernel
theorem d_String_charAt_17 : decode M_String_charAt.2.1 17 = .ok (.getfield 9, 3) := by decide +kernel
theorem d_String_charAt_20 : decode M_String_charAt.2.1 20 = .ok (.iload_n 1, 1) := by decide +kernel
theorem d_String_charAt_21 : decode M_String_charAt.2.1 21 = .ok (.invokestatic 498, 3) := by decide +kernel
theorem d_String_charAt_24 : decode M_String_charAt.2.1 24 = .ok (.ireturn, 1) := by decide +kernel
set_option maxRecDepth 100000 in
set_option maxHeartbeats 4000000 in
theorem c_String_charAt {Γ : G9} {h : AH} {z a i : Nat} {l : List Int32} (hk : CsOk Γ) (ha : StOk Γ a l) (hi : i < l.length) : CallR Γ M_String_charAt 3 [.ref a, .int (nI i)] h z (some (.int (chr l i))) h := by
  refine Call.of_go (L := [some (.ref a), some (.int (nI i))]) (by decide +kernel) rfl (by exact Nat.le_of_ble_eq_true rfl) ?_
  obtain ⟨v, hv, ht⟩ := ha.2.2.2
  refine Go.aload_0 d_String_charAt_0 rfl ?_
  refine Go.callO (as := []) d_String_charAt_1 rfl l_String_492 k_String_isLatin1_v rfl ha.2.1 rfl (c_String_isLatin1 hk ha) rfl rfl rfl ?_
  refine Go.if_eq (t := 16) d_String_charAt_4 (by decide) rfl (fun w => absurd w (by decide)) (fun _ => ?_)
  refine Go.aload_0 d_String_charAt_7 rfl ?_
  refine Go.getfS d_String_charAt_8 rfl x_String_9 hv ?_
  refine Go.iload_1 d_String_charAt_11 rfl ?_
  refine Go.cs2r d_String_charAt_12 rfl l_String_495 k_StringLatin1_charAt_s rfl (c_StringLatin1_charAt hk ht hi ha.1) rfl rfl rfl ?_
  exact Go.iret d_String_charAt_15 rfl (chr_id _) ⟨rfl, rfl, rfl⟩
theorem d_StringLatin1_canEncode_0 : decode M_StringLatin1_canEncode.2.1 0 = .ok (.iload_n 0, 1) := by decide +kernel
theorem d_StringLatin1_canEncode_1 : decode M_StringLatin1_canEncode.2.1 1 = .ok (.ifCond .lt 14, 3) := by decide +kernel
theorem d_StringLatin1_canEncode_4 : decode M_StringLatin1_canEncode.2.1 4 = .ok (.iload_n 0, 1) := by decide +kernel
theorem d_StringLatin1_canEncode_5 : decode M_StringLatin1_canEncode.2.1 5 = .ok (.sipush 255, 3) := by decide +kernel
theorem d_StringLatin1_canEncode_8 : decode M_StringLatin1_canEncode.2.1 8 = .ok (.if_icmp .gt 7, 3) := by decide +kernel
theorem d_StringLatin1_canEncode_11 : decode M_StringLatin1_canEncode.2.1 11 = .ok (.iconst 1, 1) := by decide +kernel
theorem d_StringLatin1_canEncode_12 : decode M_StringLatin1_canEncode.2.1 12 = .ok (.goto 4, 3) := by decide +kernel
theorem d_StringLatin1_canEncode_15 : decode M_StringLatin1_canEncode.2.1 15 = .ok (.iconst 0, 1) := by decide +kernel
theorem d_StringLatin1_canEncode_16 : decode M_StringLatin1_canEncode.2.1 16 = .ok (.ireturn, 1) := by decide +kernel
set_option maxRecDepth 100000 in
set_option maxHeartbeats 4000000 in
theorem c_StringLatin1_canEncode {Γ : G9} {h : AH} {z : Nat} {x : Int32} : CallR Γ M_StringLatin1_canEncode 0 [.int x] h z (some (.int (if x < 0 then 0 else if 255 < x then 0 else 1))) h := by
  refine Call.of_go (L := [some (.int x)]) (by decide +kernel) rfl (by exact Nat.le_of_ble_eq_true rfl) ?_
  refine Go.iload_0 d_StringLatin1_canEncode_0 rfl ?_
  refine Go.if_lt (t := 15) d_StringLatin1_canEncode_1 (by decide) rfl (fun c1 => ?_) (fun c1 => ?_)
  · refine Go.iconst (v := 0) d_StringLatin1_canEncode_15 rfl (by decide) ?_
    rw [if_pos c1]
    exact Go.iret d_StringLatin1_canEncode_16 rfl rfl ⟨rfl, rfl, rfl⟩
  · refine Go.iload_0 d_StringLatin1_canEncode_4 rfl ?_
    refine Go.sipush (v := 255) d_StringLatin1_canEncode_5 rfl (by decide) ?_
    refine Go.icmp_gt (t := 15) d_StringLatin1_canEncode_8 (by decide) rfl (fun c2 => ?_) (fun c2 => ?_)
    · refine Go.iconst (v := 0) d_StringLatin1_canEncode_15 rfl (by decide) ?_
      rw [if_neg c1, if_pos c2]
      exact Go.iret d_StringLatin1_canEncode_16 rfl rfl ⟨rfl, rfl, rfl⟩
    · refine Go.iconst (v := 1) d_StringLatin1_canEncode_11 rfl (by decide) ?_
      refine Go.goto (t := 16) d_StringLatin1_canEncode_12 (by decide) ?_
      rw [if_neg c1, if_neg c2]
      exact Go.iret d_StringLatin1_canEncode_16 rfl rfl ⟨rfl, rfl, rfl⟩
theorem d_StringLatin1_indexOfChar_0 : decode M_StringLatin1_indexOfChar.2.1 0 = .ok (.iload_n 1, 1) := by decide +kernel
theorem d_StringLatin1_indexOfChar_1 : decode M_StringLatin1_indexOfChar.2.1 1 = .ok (.i2b, 1) := by decide +kernel
theorem d_StringLatin1_indexOfChar_2 : decode M_StringLatin1_indexOfChar.2.1 2 = .ok (.istore 4, 2) := by decide +kernel
theorem d_StringLatin1_indexOfChar_4 : decode M_StringLatin1_indexOfChar.2.1 4 = .ok (.iload_n 2, 1) := by decide +kernel
theorem d_StringLatin1_indexOfChar_5 : decode M_StringLatin1_indexOfChar.2.1 5 = .ok (.istore 5, 2) := by decide +kernel
theorem d_StringLatin1_indexOfChar_7 : decode M_StringLatin1_indexOfChar.2.1 7 = .ok (.iload 5, 2) := by decide +kernel
theorem d_StringLatin1_indexOfChar_9 : decode M_StringLatin1_indexOfChar.2.1 9 = .ok (.iload_n 3, 1) := by decide +kernel
theorem d_StringLatin1_indexOfChar_10 : decode M_StringLatin1_indexOfChar.2.1 10 = .ok (.if_icmp .ge 21, 3) := by decide +kernel
theorem d_StringLatin1_indexOfChar_13 : decode M_StringLatin1_indexOfChar.2.1 13 = .ok (.aload_n 0, 1) := by decide +kernel
theorem d_StringLatin1_indexOfChar_14 : decode M_StringLatin1_indexOfChar.2.1 14 = .ok (.iload 5, 2) := by decide +kernel
theorem d_StringLatin1_indexOfChar_16 : decode M_StringLatin1_indexOfChar.2.1 16 = .ok (.baload, 1) := by decide +kernel
theorem d_StringLatin1_indexOfChar_17 : decode M_StringLatin1_indexOfChar.2.1 17 = .ok (.iload 4, 2) := by decide +kernel
theorem d_StringLatin1_indexOfChar_19 : decode M_StringLatin1_indexOfChar.2.1 19 = .ok (.if_icmp .ne 6, 3) := by decide +kernel
theorem d_StringLatin1_indexOfChar_22 : decode M_StringLatin1_indexOfChar.2.1 22 = .ok (.iload 5, 2) := by decide +kernel
theorem d_StringLatin1_indexOfChar_24 : decode M_StringLatin1_indexOfChar.2.1 24 = .ok (.ireturn, 1) := by decide +kernel
theorem d_StringLatin1_indexOfChar_25 : decode M_StringLatin1_indexOfChar.2.1 25 = .ok (.iinc 5 1, 3) := by decide +kernel
theorem d_StringLatin1_indexOfChar_28 : decode M_StringLatin1_indexOfChar.2.1 28 = .ok (.goto (-21), 3) := by decide +kernel
theorem d_StringLatin1_indexOfChar_31 : decode M_StringLatin1_indexOfChar.2.1 31 = .ok (.iconst (-1), 1) := by decide +kernel
theorem d_StringLatin1_indexOfChar_32 : decode M_StringLatin1_indexOfChar.2.1 32 = .ok (.ireturn, 1) := by decide +kernel
def ixF (l : List Int32) (x : Int32) : Nat → Nat → Int32
  | 0, _ => -1
  | k + 1, i => if l.getD i 0 = x then nI i else ixF l x k (i + 1)
set_option maxRecDepth 100000 in
set_option maxHeartbeats 4000000 in
theorem l_indexOfChar {Γ : G9} {h : AH} {z v : Nat} {l : List Int32} {x a3 : Int32} (ht : SF Γ (va_T .byte v l.length (fun j => .int (l.getD j 0)))) (hl : l.length ≤ 20) : ∀ (k i : Nat), i + k = l.length → Go Γ M_StringLatin1_indexOfChar 0 0 0 7 [some (.ref v), some (.int a3), some (.int 0), some (.int (nI l.length)), some (.int x), some (.int (nI i))] [] h z (RQ (some (.int (ixF l x k i))) h z) noX := by
  intro k
  induction k with
  | zero =>
    intro i hi
    refine Go.iload_5 d_StringLatin1_indexOfChar_7 rfl ?_
    refine Go.iload_3 d_StringLatin1_indexOfChar_9 rfl ?_
    refine Go.icmp_ge (t := 31) d_StringLatin1_indexOfChar_10 (by decide) rfl (fun _ => ?_) (fun w => absurd (nI_le (by omega) (by omega)) w)
    refine Go.iconst (v := -1) d_StringLatin1_indexOfChar_31 rfl (by decide) ?_
    exact Go.iret d_StringLatin1_indexOfChar_32 rfl rfl ⟨rfl, rfl, rfl⟩
  | succ k ih =>
    intro i hi
    refine Go.iload_5 d_StringLatin1_indexOfChar_7 rfl ?_
    refine Go.iload_3 d_StringLatin1_indexOfChar_9 rfl ?_
    refine Go.icmp_ge (t := 31) d_StringLatin1_indexOfChar_10 (by decide) rfl (fun w => absurd w (nI_ge (by omega) (by omega))) (fun _ => ?_)
    refine Go.aload_0 d_StringLatin1_indexOfChar_13 rfl ?_
    refine Go.iload_5 d_StringLatin1_indexOfChar_14 rfl ?_
    refine Go.baloadS d_StringLatin1_indexOfChar_16 rfl ht (vp_in_nI (by omega) (by omega)) ?_
    rw [nI_clamp (show i < 2 ^ 31 by omega)]
    refine Go.iload_4 d_StringLatin1_indexOfChar_17 rfl ?_
    unfold ixF
    refine Go.icmp_ne (t := 25) d_StringLatin1_indexOfChar_19 (by decide) rfl (fun c => ?_) (fun c => ?_)
    · refine Go.iinc_5 d_StringLatin1_indexOfChar_25 rfl (by rfl) (nI_inc _) ?_
      refine Go.goto (t := 7) d_StringLatin1_indexOfChar_28 (by decide) ?_
      rw [if_neg c]
      exact ih (i + 1) (by omega)
    · refine Go.iload_5 d_StringLatin1_indexOfChar_22 rfl ?_
      rw [if_pos (c)]
      exact Go.iret d_StringLatin1_indexOfChar_24 rfl rfl ⟨rfl, rfl, rfl⟩
set_option maxRecDepth 100000 in
set_option maxHeartbeats 4000000 in
theorem c_StringLatin1_indexOfChar {Γ : G9} {h : AH} {z v : Nat} {l : List Int32} {x : Int32} (ht : SF Γ (va_T .byte v l.length (fun j => .int (l.getD j 0)))) (hl : l.length ≤ 20) : CallR Γ M_StringLatin1_indexOfChar 0 [.ref v, .int x, .int 0, .int (nI l.length)] h z (some (.int (ixF l x.toInt8.toInt32 l.length 0))) h := by
  refine Call.of_go (L := [some (.ref v), some (.int x), some (.int 0), some (.int (nI l.length)), none, none]) (by decide +kernel) rfl (by exact Nat.le_of_ble_eq_true rfl) ?_
  refine Go.iload_1 d_StringLatin1_indexOfChar_0 rfl ?_
  refine Go.i2b d_StringLatin1_indexOfChar_1 rfl ?_
  refine Go.istore_4 d_StringLatin1_indexOfChar_2 rfl (by rfl) ?_
  refine Go.iload_2 d_StringLatin1_indexOfChar_4 rfl ?_
  refine Go.istore_5 d_StringLatin1_indexOfChar_5 rfl (by rfl) ?_
  exact l_indexOfChar ht hl l.length 0 (by omega)
def ixS (l : List Int32) (x : Int32) : Int32 := if x < 0 then -1 else if 255 < x then -1 else ixF l x.toInt8.toInt32 l.length 0
theorem d_StringLatin1_indexOf_0 : decode M_StringLatin1_indexOf.2.1 0 = .ok (.iload_n 1, 1) := by decide +kernel
theorem d_StringLatin1_indexOf_1 : decode M_StringLatin1_indexOf.2.1 1 = .ok (.invokestatic 88, 3) := by decide +kernel
theorem d_StringLatin1_indexOf_4 : decode M_StringLatin1_indexOf.2.1 4 = .ok (.ifCond .ne 5, 3) := by decide +kernel
theorem d_StringLatin1_indexOf_7 : decode M_StringLatin1_indexOf.2.1 7 = .ok (.iconst (-1), 1) := by decide +kernel
theorem d_StringLatin1_indexOf_8 : decode M_StringLatin1_indexOf.2.1 8 = .ok (.ireturn, 1) := by decide +kernel
theorem d_StringLatin1_indexOf_9 : decode M_StringLatin1_indexOf.2.1 9 = .ok (.iload_n 2, 1) := by decide +kernel
theorem d_StringLatin1_indexOf_10 : decode M_StringLatin1_indexOf.2.1 10 = .ok (.iconst 0, 1) := by decide +kernel
theorem d_StringLatin1_indexOf_11 : decode M_StringLatin1_indexOf.2.1 11 = .ok (.invokestatic 92, 3) := by decide +kernel
theorem d_StringLatin1_indexOf_14 : decode M_StringLatin1_indexOf.2.1 14 = .ok (.istore_n 2, 1) := by decide +kernel
theorem d_StringLatin1_indexOf_15 : decode M_StringLatin1_indexOf.2.1 15 = .ok (.iload_n 3, 1) := by decide +kernel
theorem d_StringLatin1_indexOf_16 : decode M_StringLatin1_indexOf.2.1 16 = .ok (.aload_n 0, 1) := by decide +kernel
theorem d_StringLatin1_indexOf_17 : decode M_StringLatin1_indexOf.2.1 17 = .ok (.arraylength, 1) := by decide +kernel
theorem d_StringLatin1_indexOf_18 : decode M_StringLatin1_indexOf.2.1 18 = .ok (.invokestatic 38, 3) := by decide +kernel
theorem d_StringLatin1_indexOf_21 : decode M_StringLatin1_indexOf.2.1 21 = .ok (.istore_n 3, 1) := by decide +kernel
theorem d_StringLatin1_indexOf_22 : decode M_StringLatin1_indexOf.2.1 22 = .ok (.iload_n 2, 1) := by decide +kernel
theorem d_StringLatin1_indexOf_23 : decode M_StringLatin1_indexOf.2.1 23 = .ok (.iload_n 3, 1) := by decide +kernel
theorem d_StringLatin1_indexOf_24 : decode M_StringLatin1_indexOf.2.1 24 = .ok (.if_icmp .lt 5, 3) := by decide +kernel
theorem d_StringLatin1_indexOf_27 : decode M_StringLatin1_indexOf.2.1 27 = .ok (.iconst (-1), 1) := by decide +kernel
theorem d_StringLatin1_indexOf_28 : decode M_StringLatin1_indexOf.2.1 28 = .ok (.ireturn, 1) := by decide +kernel
theorem d_StringLatin1_indexOf_29 : decode M_StringLatin1_indexOf.2.1 29 = .ok (.aload_n 0, 1) := by decide +kernel
theorem d_StringLatin1_indexOf_30 : decode M_StringLatin1_indexOf.2.1 30 = .ok (.iload_n 1, 1) := by decide +kernel
theorem d_StringLatin1_indexOf_31 : decode M_StringLatin1_indexOf.2.1 31 = .ok (.iload_n 2, 1) := by decide +kernel
theorem d_StringLatin1_indexOf_32 : decode M_StringLatin1_indexOf.2.1 32 = .ok (.iload_n 3, 1) := by decide +kernel
theorem d_StringLatin1_indexOf_33 : decode M_StringLatin1_indexOf.2.1 33 = .ok (.invokestatic 95, 3) := by decide +kernel
theorem d_StringLatin1_indexOf_36 : decode M_StringLatin1_indexOf.2.1 36 = .ok (.ireturn, 1) := by decide +kernel
set_option maxRecDepth 100000 in
set_option maxHeartbeats 4000000 in
theorem c_StringLatin1_indexOf {Γ : G9} {h : AH} {z v : Nat} {l : List Int32} {x : Int32} (ht : SF Γ (va_T .byte v l.length (fun j => .int (l.getD j 0)))) (hl : l.length ≤ 20) (h0 : 0 < l.length) : CallR Γ M_StringLatin1_indexOf 1 [.ref v, .int x, .int 0, .int (nI l.length)] h z (some (.int (ixS l x))) h := by
  refine Call.of_go (L := [some (.ref v), some (.int x), some (.int 0), some (.int (nI l.length))]) (by decide +kernel) rfl (by exact Nat.le_of_ble_eq_true rfl) ?_
  unfold ixS
  refine Go.iload_1 d_StringLatin1_indexOf_0 rfl ?_
  refine Go.cs1r d_StringLatin1_indexOf_1 rfl l_StringLatin1_88 k_StringLatin1_canEncode_s rfl c_StringLatin1_canEncode rfl rfl rfl ?_
  have go : ¬ x < 0 → ¬ 255 < x → Go Γ M_StringLatin1_indexOf 1 0 0 9 [some (.ref v), some (.int x), some (.int 0), some (.int (nI l.length))] [] h z (RQ (some (.int (ixF l x.toInt8.toInt32 l.length 0))) h z) noX := by
    intro _ _
    refine Go.iload_2 d_StringLatin1_indexOf_9 rfl ?_
    refine Go.iconst (v := 0) d_StringLatin1_indexOf_10 rfl (by decide) ?_
    refine Go.imax d_StringLatin1_indexOf_11 rfl l_StringLatin1_92 (by decide) rfl ?_
    refine Go.istore_2 d_StringLatin1_indexOf_14 rfl (by rfl) ?_
    refine Go.iload_3 d_StringLatin1_indexOf_15 rfl ?_
    refine Go.aload_0 d_StringLatin1_indexOf_16 rfl ?_
    refine Go.alenS (v := nI l.length) d_StringLatin1_indexOf_17 rfl ht rfl ?_
    refine Go.imin d_StringLatin1_indexOf_18 rfl l_StringLatin1_38 (by decide) rfl ?_
    rw [show iMax 0 0 = (0 : Int32) from by decide, show iMin (nI l.length) (nI l.length) = nI l.length from by unfold iMin; split <;> rfl]
    refine Go.istore_3 d_StringLatin1_indexOf_21 rfl (by rfl) ?_
    refine Go.iload_2 d_StringLatin1_indexOf_22 rfl ?_
    refine Go.iload_3 d_StringLatin1_indexOf_23 rfl ?_
    refine Go.icmp_lt (t := 29) d_StringLatin1_indexOf_24 (by decide) rfl (fun _ => ?_) (fun w => absurd (show (0 : Int32) < nI l.length from (nI_ltI (a := 0) (b := l.length) (by omega) (by omega)).mpr h0) w)
    refine Go.aload_0 d_StringLatin1_indexOf_29 rfl ?_
    refine Go.iload_1 d_StringLatin1_indexOf_30 rfl ?_
    refine Go.iload_2 d_StringLatin1_indexOf_31 rfl ?_
    refine Go.iload_3 d_StringLatin1_indexOf_32 rfl ?_
    refine Go.cs4r d_StringLatin1_indexOf_33 rfl l_StringLatin1_95 k_StringLatin1_indexOfChar_s rfl (c_StringLatin1_indexOfChar ht hl) rfl rfl rfl ?_
    exact Go.iret d_StringLatin1_indexOf_36 rfl rfl ⟨rfl, rfl, rfl⟩
  by_cases c1 : x < 0
  · rw [if_pos c1, if_pos c1]
    refine Go.if_ne (t := 9) d_StringLatin1_indexOf_4 (by decide) rfl (fun w => absurd rfl w) (fun _ => ?_)
    refine Go.iconst (v := -1) d_StringLatin1_indexOf_7 rfl (by decide) ?_
    exact Go.iret d_StringLatin1_indexOf_8 rfl rfl ⟨rfl, rfl, rfl⟩
  · by_cases c2 : 255 < x
    · rw [if_neg c1, if_neg c1, if_pos c2, if_pos c2]
      refine Go.if_ne (t := 9) d_StringLatin1_indexOf_4 (by decide) rfl (fun w => absurd rfl w) (fun _ => ?_)
      refine Go.iconst (v := -1) d_StringLatin1_indexOf_7 rfl (by decide) ?_
      exact Go.iret d_StringLatin1_indexOf_8 rfl rfl ⟨rfl, rfl, rfl⟩
    · rw [if_neg c1, if_neg c1, if_neg c2, if_neg c2]
      refine Go.if_ne (t := 9) d_StringLatin1_indexOf_4 (by decide) rfl (fun _ => ?_) (fun w => absurd w (by decide))
      exact go c1 c2
theorem d_String_indexOf_1_0 : decode M_String_indexOf_1.2.1 0 = .ok (.aload_n 0, 1) := by decide +kernel
theorem d_String_indexOf_1_1 : decode M_String_indexOf_1.2.1 1 = .ok (.invokevirtual 492, 3) := by decide +kernel
theorem d_String_indexOf_1_4 : decode M_String_indexOf_1.2.1 4 = .ok (.ifCond .eq 19, 3) := by decide +kernel
theorem d_String_indexOf_1_7 : decode M_String_indexOf_1.2.1 7 = .ok (.aload_n 0, 1) := by decide +kernel
theorem d_String_indexOf_1_8 : decode M_String_indexOf_1.2.1 8 = .ok (.getfield 9, 3) := by decide +kernel
theorem d_String_indexOf_1_11 : decode M_String_indexOf_1.2.1 11 = .ok (.iload_n 1, 1) := by decide +kernel
theorem d_String_indexOf_1_12 : decode M_String_indexOf_1.2.1 12 = .ok (.iload_n 2, 1) := by decide +kernel
theorem d_String_indexOf_1_13 : decode M_String_indexOf_1.2.1 13 = .ok (.aload_n 0, 1) := by decide +kernel
theorem d_String_indexOf_1_14 : decode M_String_indexOf_1.2.1 14 = .ok (.invokevirtual 505, 3) := by decide +kernel
theorem d_String_indexOf_1_17 : decode M_String_indexOf_1.2.1 17 = .ok (.invokestatic 637, 3) := by decide +kernel
theorem d_String_indexOf_1_20 : decode M_String_indexOf_1.2.1 20 = .ok (.goto 16, 3) := by decide +kernel
theorem d_String_indexOf_1_23 : decode M_String_indexOf_1.2.1 23 = .ok (.aload_n 0, 1) := by decide +kernel
theorem d_String_indexOf_1_24 : decode M_String_indexOf_1.2.1 24 = .ok (.getfield 9, 3) := by decide +kernel
theorem d_String_indexOf_1_27 : decode M_String_indexOf_1.2.1 27 = .ok (.iload_n 1, 1) := by decide +kernel
theorem d_String_indexOf_1_28 : decode M_String_indexOf_1.2.1 28 = .ok (.iload_n 2, 1) := by decide +kernel
theorem d_String_indexOf_1_29 : decode M_String_indexOf_1.2.1 29 = .ok (.aload_n 0, 1) := by decide +kernel
theorem d_String_indexOf_1_30 : decode M_String_indexOf_1.2.1 30 = .ok (.invokevirtual 505, 3) := by decide +kernel
theorem d_String_indexOf_1_33 : decode M_String_indexOf_1.2.1 33 = .ok (.invokestatic 640, 3) := by decide +kernel
theorem d_String_indexOf_1_36 : decode M_String_indexOf_1.2.1 36 = .ok (.ireturn, 1) := by decide +kernel
set_option maxRecDepth 100000 in
set_option maxHeartbeats 4000000 in
theorem c_String_indexOf_1 {Γ : G9} {h : AH} {z a : Nat} {l : List Int32} {x : Int32} (hk : CsOk Γ) (ha : StOk Γ a l) (h0 : 0 < l.length) : CallR Γ M_String_indexOf_1 2 [.ref a, .int x, .int 0] h z (some (.int (ixS l x))) h := by
  refine Call.of_go (L := [some (.ref a), some (.int x), some (.int 0)]) (by decide +kernel) rfl (by exact Nat.le_of_ble_eq_true rfl) ?_
  obtain ⟨v, hv, ht⟩ := ha.2.2.2
  refine Go.aload_0 d_String_indexOf_1_0 rfl ?_
  refine Go.callO (as := []) d_String_indexOf_1_1 rfl l_String_492 k_String_isLatin1_v rfl ha.2.1 rfl (c_String_isLatin1 hk ha) rfl rfl rfl ?_
  refine Go.if_eq (t := 23) d_String_indexOf_1_4 (by decide) rfl (fun w => absurd w (by decide)) (fun _ => ?_)
  refine Go.aload_0 d_String_indexOf_1_7 rfl ?_
  refine Go.getfS d_String_indexOf_1_8 rfl x_String_9 hv ?_
  refine Go.iload_1 d_String_indexOf_1_11 rfl ?_
  refine Go.iload_2 d_String_indexOf_1_12 rfl ?_
  refine Go.aload_0 d_String_indexOf_1_13 rfl ?_
  refine Go.callO (as := []) d_String_indexOf_1_14 rfl l_String_505 k_String_length_v rfl ha.2.1 rfl (c_String_length hk ha) rfl rfl rfl ?_
  refine Go.cs4r d_String_indexOf_1_17 rfl l_String_637 k_StringLatin1_indexOf_s rfl (c_StringLatin1_indexOf ht ha.1 h0) rfl rfl rfl ?_
  refine Go.goto (t := 36) d_String_indexOf_1_20 (by decide) ?_
  exact Go.iret d_String_indexOf_1_36 rfl rfl ⟨rfl, rfl, rfl⟩
theorem d_String_indexOf_0_0 : decode M_String_indexOf_0.2.1 0 = .ok (.aload_n 0, 1) := by decide +kernel
theorem d_String_indexOf_0_1 : decode M_String_indexOf_0.2.1 1 = .ok (.iload_n 1, 1) := by decide +kernel
theorem d_String_indexOf_0_2 : decode M_String_indexOf_0.2.1 2 = .ok (.iconst 0, 1) := by decide +kernel
theorem d_String_indexOf_0_3 : decode M_String_indexOf_0.2.1 3 = .ok (.invokevirtual 633, 3) := by decide +kernel
theorem d_String_indexOf_0_6 : decode M_String_indexOf_0.2.1 6 = .ok (.ireturn, 1) := by decide +kernel
set_option maxRecDepth 100000 in
set_option maxHeartbeats 4000000 in
theorem c_String_indexOf_0 {Γ : G9} {h : AH} {z a : Nat} {l : List Int32} {x : Int32} (hk : CsOk Γ) (ha : StOk Γ a l) (h0 : 0 < l.length) : CallR Γ M_String_indexOf_0 3 [.ref a, .int x] h z (some (.int (ixS l x))) h := by
  refine Call.of_go (L := [some (.ref a), some (.int x)]) (by decide +kernel) rfl (by exact Nat.le_of_ble_eq_true rfl) ?_
  refine Go.aload_0 d_String_indexOf_0_0 rfl ?_
  refine Go.iload_1 d_String_indexOf_0_1 rfl ?_
  refine Go.iconst (v := 0) d_String_indexOf_0_2 rfl (by decide) ?_
  refine Go.callO (as := [.int x, .int 0]) d_String_indexOf_0_3 rfl l_String_633 k_String_indexOf_1_v rfl ha.2.1 rfl (c_String_indexOf_1 hk ha h0) rfl rfl rfl ?_
  exact Go.iret d_String_indexOf_0_6 rfl rfl ⟨rfl, rfl, rfl⟩
