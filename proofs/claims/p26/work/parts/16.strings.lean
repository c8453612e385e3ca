/-! strings that are constants -/
theorem x_String_1053 : Cond.fieldLink "java/lang/String" 1053 "jdk/internal/util/Preconditions" "SIOOBE_FORMATTER" "Ljava/util/function/BiFunction;" ∈ gw := gm_3 (List.mem_of_getElem? (i := 222) rfl) rfl
def StOk (Γ : G9) (a : Nat) (l : List Int32) : Prop := l.length ≤ 20 ∧ SF Γ (va_O "java/lang/String" a) ∧ SF Γ (va_OF "java/lang/String" "coder" "B" (.int 0) a) ∧ ∃ v : Nat, SF Γ (va_OF "java/lang/String" "value" "[B" (.ref v) a) ∧ SF Γ (va_T .byte v l.length (fun j => .int (l.getD j 0)))
def CsOk (Γ : G9) : Prop := SF Γ (va_Z "java/lang/String" "COMPACT_STRINGS" "Z" (.int 1)) ∧ SF Γ (va_Zq "jdk/internal/util/Preconditions" "SIOOBE_FORMATTER" "Ljava/util/function/BiFunction;")
def chr (l : List Int32) (i : Nat) : Int32 := ((l.getD i 0 &&& 255).toUInt32 % 65536).toInt32
section GoStr
variable {Γ : G9} {M : MI} {d C S pc q : Nat} {L : List (Option Value)} {st : List Value} {h : AH} {z : Nat} {Q : QT} {X : XT}
/-- a static that holds null or a reference -/
theorem Go.getsq {idx : Nat} {Cn n ds : String} (hd : decode M.2.1 pc = .ok (.getstatic idx, 3)) (hq : pc + 3 = q) (lk : Cond.fieldLink M.1.cls idx Cn n ds ∈ gw) (hz : SF Γ (va_Zq Cn n ds)) (kk : ∀ o : Option Nat, Go Γ M d C S q L (va_rf o :: st) h z Q X) : Go Γ M d C S pc L st h z Q X := by
  subst hq
  intro p e R s m args below meth c H locs cells slots ls Z hc
  rcases hz _ _ hc.2.2.1.se with h1 | ⟨t, h1⟩
  · exact va_gets hc.1.1 hc.1.2.1 h1 hc.2.2.1.2.1 hc.1.2.2.2.2.1 (hc.1.2.2.2.2.2.1 _ lk) (fun x hx => hx) hd (kk none _ _ _ _ _ _ _ _ _ _ _ _ _ _ _ hc)
  · exact va_gets hc.1.1 hc.1.2.1 h1 hc.2.2.1.2.1 hc.1.2.2.2.2.1 (hc.1.2.2.2.2.2.1 _ lk) (fun x hx => hx) hd (kk (some t) _ _ _ _ _ _ _ _ _ _ _ _ _ _ _ hc)
/-- an instance method of a constant object -/
theorem Go.callO {M' : MI} {n d' idx b : Nat} {V : Option Value} {h2 : AH} {as rest : List Value} (hd : decode M.2.1 pc = .ok (.invokevirtual idx, 3)) (hq : pc + 3 = q) (lk : Cond.methodLink M.1.cls idx M'.1 ∈ gw) (ok : OkV M' n) (hn : as.length = n) (hO : SF Γ (va_O M'.1.cls b)) (hst : st = as.reverse ++ .ref b :: rest)
    (hc : CallR Γ M' d' (.ref b :: as) h z V h2) (hd' : Nat.ble (d' + 1) d = true) (hml : Nat.ble M'.2.2.1 21 = true) (hw : Nat.ble (rest.map fun v => v.category).sum 8 = true)
    (kk : Go Γ M d C S q L (V.toList ++ rest) h2 z Q X) : Go Γ M d C S pc L st h z Q X := by
  subst hq
  have hd' := Nat.le_of_ble_eq_true hd'
  have hml := Nat.le_of_ble_eq_true hml
  have hw := Nat.le_of_ble_eq_true hw
  refine Go.after (Q' := RQ V h2 z) (X' := noX) (C' := 0) (S' := 0) (C1 := C) (S1 := S) (av := (Value.ref b :: as).toArray) (rest := rest) (fun p e R s m args below meth c H locs cells slots ls Z hx => ?_) (by omega) (by omega) (fun E h' z' hx _ => hx.elim) (fun v h' z' hx _ => by obtain ⟨rfl, rfl, rfl⟩ := hx; exact kk)
  obtain ⟨r1, r2, r3, r4⟩ := hx.2.1
  have hts := hx.1.2.2.2.2.2.1
  have hH := hx.2.2.1
  obtain ⟨⟨g1, g2, g3, g4, g5⟩, g6, g7, g8⟩ := ok
  rw [mi_w_nil g6] at g1
  have hcell := va_Orecv (hO _ _ hH.se) hH.2.1
  refine vx_runV (C := M'.1.cls) (As := as) (n := n) (Ts := gw) (own := M.1.cls) ⟨hx.1.1, hx.1.2.1, hx.1.2.2.1, hx.1.2.2.2.2.1, hts⟩ hc ⟨⟨rfl, rfl, (show d' + 1 ≤ R.frames by omega), ?_, by rw [← mi_w_nil g6] at g1; exact gw_pay hts g1, by rw [mi_w_nil g6]; exact List.mem_cons_self, hts _ g1, hts _ g2, ⟨g3, g4⟩, fun sig hsig => ?_, hts _ lk⟩, hts _ g7, hts _ g8⟩ ⟨blindP, hcell, fun U hU hW => startP hH hx.2.2.2.1 hU hW⟩ rfl hn (by rw [hx.2.2.2.2.1.1]) hst (lv_room hw) hd ⟨by omega, by omega⟩
  · show 8 + (M'.2.2.1 + 11) + 40 * d' ≤ R.locals
    omega
  · rw [hsig] at g5
    exact (Option.some.inj g5).symm
end GoStr
theorem chr_id (x : Int32) : narrow .char (.int ((x.toUInt32 % 65536).toInt32)) = .int ((x.toUInt32 % 65536).toInt32) := by
  have h : x.toUInt32 % 65536 % 65536 = x.toUInt32 % 65536 := UInt32.toNat_inj.mp (by simp [UInt32.toNat_mod])
  simp [narrow, h]
theorem nI_shr0 (n : Nat) : nI n >>> ((0 : Int32) &&& 31) = nI n := by
  have : (0 : Int32) &&& 31 = 0 := by decide
  rw [this]
  exact Int32.shiftRight_zero
theorem d_String_coder_0 : decode M_String_coder.2.1 0 = .ok (.getstatic 38, 3) := by decide +kernel
theorem d_String_coder_3 : decode M_String_coder.2.1 3 = .ok (.ifCond .eq 10, 3) := by decide +kernel
theorem d_String_coder_6 : decode M_String_coder.2.1 6 = .ok (.aload_n 0, 1) := by decide +kernel
theorem d_String_coder_7 : decode M_String_coder.2.1 7 = .ok (.getfield 15, 3) := by decide +kernel
theorem d_String_coder_10 : decode M_String_coder.2.1 10 = .ok (.goto 4, 3) := by decide +kernel
theorem d_String_coder_13 : decode M_String_coder.2.1 13 = .ok (.iconst 1, 1) := by decide +kernel
theorem d_String_coder_14 : decode M_String_coder.2.1 14 = .ok (.ireturn, 1) := by decide +kernel
set_option maxRecDepth 100000 in
set_option maxHeartbeats 4000000 in
theorem c_String_coder {Γ : G9} {h : AH} {z a : Nat} {l : List Int32} (hk : CsOk Γ) (ha : StOk Γ a l) : CallR Γ M_String_coder 0 [.ref a] h z (some (.int 0)) h := by
  refine Call.of_go (L := [some (.ref a)]) (by decide +kernel) rfl (by exact Nat.le_of_ble_eq_true rfl) ?_
  refine Go.gets d_String_coder_0 rfl x_String_38 hk.1 ?_
  refine Go.if_eq (t := 13) d_String_coder_3 (by decide) rfl (fun w => absurd w (by decide)) (fun _ => ?_)
  refine Go.aload_0 d_String_coder_6 rfl ?_
  refine Go.getfS d_String_coder_7 rfl x_String_15 ha.2.2.1 ?_
  refine Go.goto (t := 14) d_String_coder_10 (by decide) ?_
  exact Go.iret d_String_coder_14 rfl rfl ⟨rfl, rfl, rfl⟩
theorem d_String_isLatin1_0 : decode M_String_isLatin1.2.1 0 = .ok (.getstatic 38, 3) := by decide +kernel
theorem d_String_isLatin1_3 : decode M_String_isLatin1.2.1 3 = .ok (.ifCond .eq 14, 3) := by decide +kernel
theorem d_String_isLatin1_6 : decode M_String_isLatin1.2.1 6 = .ok (.aload_n 0, 1) := by decide +kernel
theorem d_String_isLatin1_7 : decode M_String_isLatin1.2.1 7 = .ok (.getfield 15, 3) := by decide +kernel
theorem d_String_isLatin1_10 : decode M_String_isLatin1.2.1 10 = .ok (.ifCond .ne 7, 3) := by decide +kernel
theorem d_String_isLatin1_13 : decode M_String_isLatin1.2.1 13 = .ok (.iconst 1, 1) := by decide +kernel
theorem d_String_isLatin1_14 : decode M_String_isLatin1.2.1 14 = .ok (.goto 4, 3) := by decide +kernel
theorem d_String_isLatin1_17 : decode M_String_isLatin1.2.1 17 = .ok (.iconst 0, 1) := by decide +kernel
theorem d_String_isLatin1_18 : decode M_String_isLatin1.2.1 18 = .ok (.ireturn, 1) := by decide +kernel
set_option maxRecDepth 100000 in
set_option maxHeartbeats 4000000 in
theorem c_String_isLatin1 {Γ : G9} {h : AH} {z a : Nat} {l : List Int32} (hk : CsOk Γ) (ha : StOk Γ a l) : CallR Γ M_String_isLatin1 0 [.ref a] h z (some (.int 1)) h := by
  refine Call.of_go (L := [some (.ref a)]) (by decide +kernel) rfl (by exact Nat.le_of_ble_eq_true rfl) ?_
  refine Go.gets d_String_isLatin1_0 rfl x_String_38 hk.1 ?_
  refine Go.if_eq (t := 17) d_String_isLatin1_3 (by decide) rfl (fun w => absurd w (by decide)) (fun _ => ?_)
  refine Go.aload_0 d_String_isLatin1_6 rfl ?_
  refine Go.getfS d_String_isLatin1_7 rfl x_String_15 ha.2.2.1 ?_
  refine Go.if_ne (t := 17) d_String_isLatin1_10 (by decide) rfl (fun w => absurd rfl w) (fun _ => ?_)
  refine Go.iconst (v := 1) d_String_isLatin1_13 rfl (by decide) ?_
  refine Go.goto (t := 18) d_String_isLatin1_14 (by decide) ?_
  exact Go.iret d_String_isLatin1_18 rfl rfl ⟨rfl, rfl, rfl⟩
theorem d_String_length_0 : decode M_String_length.2.1 0 = .ok (.aload_n 0, 1) := by decide +kernel
theorem d_String_length_1 : decode M_String_length.2.1 1 = .ok (.getfield 9, 3) := by decide +kernel
theorem d_String_length_4 : decode M_String_length.2.1 4 = .ok (.arraylength, 1) := by decide +kernel
theorem d_String_length_5 : decode M_String_length.2.1 5 = .ok (.aload_n 0, 1) := by decide +kernel
theorem d_String_length_6 : decode M_String_length.2.1 6 = .ok (.invokevirtual 335, 3) := by decide +kernel
theorem d_String_length_9 : decode M_String_length.2.1 9 = .ok (.ishr, 1) := by decide +kernel
theorem d_String_length_10 : decode M_String_length.2.1 10 = .ok (.ireturn, 1) := by decide +kernel
set_option maxRecDepth 100000 in
set_option maxHeartbeats 4000000 in
theorem c_String_length {Γ : G9} {h : AH} {z a : Nat} {l : List Int32} (hk : CsOk Γ) (ha : StOk Γ a l) : CallR Γ M_String_length 1 [.ref a] h z (some (.int (nI l.length))) h := by
  refine Call.of_go (L := [some (.ref a)]) (by decide +kernel) rfl (by exact Nat.le_of_ble_eq_true rfl) ?_
  obtain ⟨v, hv, ht⟩ := ha.2.2.2
  refine Go.aload_0 d_String_length_0 rfl ?_
  refine Go.getfS d_String_length_1 rfl x_String_9 hv ?_
  refine Go.alenS (v := nI l.length) d_String_length_4 rfl ht rfl ?_
  refine Go.aload_0 d_String_length_5 rfl ?_
  refine Go.callO (as := []) d_String_length_6 rfl l_String_335 k_String_coder_v rfl ha.2.1 rfl (c_String_coder hk ha) rfl rfl rfl ?_
  refine Go.ishr d_String_length_9 rfl ?_
  rw [nI_shr0]
  exact Go.iret d_String_length_10 rfl rfl ⟨rfl, rfl, rfl⟩
theorem d_Preconditions_checkIndex_0 : decode M_Preconditions_checkIndex.2.1 0 = .ok (.iload_n 0, 1) := by decide +kernel
theorem d_Preconditions_checkIndex_1 : decode M_Preconditions_checkIndex.2.1 1 = .ok (.ifCond .lt 8, 3) := by decide +kernel
theorem d_Preconditions_checkIndex_4 : decode M_Preconditions_checkIndex.2.1 4 = .ok (.iload_n 0, 1) := by decide +kernel
theorem d_Preconditions_checkIndex_5 : decode M_Preconditions_checkIndex.2.1 5 = .ok (.iload_n 1, 1) := by decide +kernel
theorem d_Preconditions_checkIndex_6 : decode M_Preconditions_checkIndex.2.1 6 = .ok (.if_icmp .lt 10, 3) := by decide +kernel
theorem d_Preconditions_checkIndex_9 : decode M_Preconditions_checkIndex.2.1 9 = .ok (.aload_n 2, 1) := by decide +kernel
theorem d_Preconditions_checkIndex_10 : decode M_Preconditions_checkIndex.2.1 10 = .ok (.iload_n 0, 1) := by decide +kernel
theorem d_Preconditions_checkIndex_11 : decode M_Preconditions_checkIndex.2.1 11 = .ok (.iload_n 1, 1) := by decide +kernel
theorem d_Preconditions_checkIndex_12 : decode M_Preconditions_checkIndex.2.1 12 = .ok (.invokestatic 95, 3) := by decide +kernel
theorem d_Preconditions_checkIndex_15 : decode M_Preconditions_checkIndex.2.1 15 = .ok (.athrow, 1) := by decide +kernel
theorem d_Preconditions_checkIndex_16 : decode M_Preconditions_checkIndex.2.1 16 = .ok (.iload_n 0, 1) := by decide +kernel
theorem d_Preconditions_checkIndex_17 : decode M_Preconditions_checkIndex.2.1 17 = .ok (.ireturn, 1) := by decide +kernel
set_option maxRecDepth 100000 in
set_option maxHeartbeats 4000000 in
theorem c_Preconditions_checkIndex {Γ : G9} {h : AH} {z i n : Nat} {o : Option Nat} (hi : i < n) (hn : n ≤ 20) : CallR Γ M_Preconditions_checkIndex 0 [.int (nI i), .int (nI n), va_rf o] h z (some (.int (nI i))) h := by
  cases o with
  | none =>
    refine Call.of_go (L := [some (.int (nI i)), some (.int (nI n)), some .null]) (by decide +kernel) rfl (by exact Nat.le_of_ble_eq_true rfl) ?_
    refine Go.iload_0 d_Preconditions_checkIndex_0 rfl ?_
    refine Go.if_lt (t := 9) d_Preconditions_checkIndex_1 (by decide) rfl (fun w => absurd w (nI_pos (by omega))) (fun _ => ?_)
    refine Go.iload_0 d_Preconditions_checkIndex_4 rfl ?_
    refine Go.iload_1 d_Preconditions_checkIndex_5 rfl ?_
    refine Go.icmp_lt (t := 16) d_Preconditions_checkIndex_6 (by decide) rfl (fun _ => ?_) (fun w => absurd ((nI_ltI (by omega) (by omega)).mpr hi) w)
    refine Go.iload_0 d_Preconditions_checkIndex_16 rfl ?_
    exact Go.iret d_Preconditions_checkIndex_17 rfl rfl ⟨rfl, rfl, rfl⟩
  | some t =>
    refine Call.of_go (L := [some (.int (nI i)), some (.int (nI n)), some (.ref t)]) (by decide +kernel) rfl (by exact Nat.le_of_ble_eq_true rfl) ?_
    refine Go.iload_0 d_Preconditions_checkIndex_0 rfl ?_
    refine Go.if_lt (t := 9) d_Preconditions_checkIndex_1 (by decide) rfl (fun w => absurd w (nI_pos (by omega))) (fun _ => ?_)
    refine Go.iload_0 d_Preconditions_checkIndex_4 rfl ?_
    refine Go.iload_1 d_Preconditions_checkIndex_5 rfl ?_
    refine Go.icmp_lt (t := 16) d_Preconditions_checkIndex_6 (by decide) rfl (fun _ => ?_) (fun w => absurd ((nI_ltI (by omega) (by omega)).mpr hi) w)
    refine Go.iload_0 d_Preconditions_checkIndex_16 rfl ?_
    exact Go.iret d_Preconditions_checkIndex_17 rfl rfl ⟨rfl, rfl, rfl⟩
theorem d_String_checkIndex_0 : decode M_String_checkIndex.2.1 0 = .ok (.iload_n 0, 1) := by decide +kernel
theorem d_String_checkIndex_1 : decode M_String_checkIndex.2.1 1 = .ok (.iload_n 1, 1) := by decide +kernel
theorem d_String_checkIndex_2 : decode M_String_checkIndex.2.1 2 = .ok (.getstatic 1053, 3) := by decide +kernel
theorem d_String_checkIndex_5 : decode M_String_checkIndex.2.1 5 = .ok (.invokestatic 1059, 3) := by decide +kernel
theorem d_String_checkIndex_8 : decode M_String_checkIndex.2.1 8 = .ok (.pop, 1) := by decide +kernel
theorem d_String_checkIndex_9 : decode M_String_checkIndex.2.1 9 = .ok (.return_, 1) := by decide +kernel
set_option maxRecDepth 100000 in
set_option maxHeartbeats 4000000 in
theorem c_String_checkIndex {Γ : G9} {h : AH} {z i n : Nat} (hk : CsOk Γ) (hi : i < n) (hn : n ≤ 20) : CallR Γ M_String_checkIndex 1 [.int (nI i), .int (nI n)] h z none h := by
  refine Call.of_go (L := [some (.int (nI i)), some (.int (nI n))]) (by decide +kernel) rfl (by exact Nat.le_of_ble_eq_true rfl) ?_
  refine Go.iload_0 d_String_checkIndex_0 rfl ?_
  refine Go.iload_1 d_String_checkIndex_1 rfl ?_
  refine Go.getsq d_String_checkIndex_2 rfl x_String_1053 hk.2 (fun o => ?_)
  refine Go.cs3r d_String_checkIndex_5 rfl l_String_1059 k_Preconditions_checkIndex_s rfl (c_Preconditions_checkIndex hi hn) rfl rfl rfl ?_
  refine Go.pop d_String_checkIndex_8 rfl rfl ?_
  exact Go.vret d_String_checkIndex_9 rfl ⟨rfl, rfl, rfl⟩
theorem d_StringLatin1_charAt_0 : decode M_StringLatin1_charAt.2.1 0 = .ok (.iload_n 1, 1) := by decide +kernel
theorem d_StringLatin1_charAt_1 : decode M_StringLatin1_charAt.2.1 1 = .ok (.aload_n 0, 1) := by decide +kernel
theorem d_StringLatin1_charAt_2 : decode M_StringLatin1_charAt.2.1 2 = .ok (.arraylength, 1) := by decide +kernel
theorem d_StringLatin1_charAt_3 : decode M_StringLatin1_charAt.2.1 3 = .ok (.invokestatic 9, 3) := by decide +kernel
theorem d_StringLatin1_charAt_6 : decode M_StringLatin1_charAt.2.1 6 = .ok (.aload_n 0, 1) := by decide +kernel
theorem d_StringLatin1_charAt_7 : decode M_StringLatin1_charAt.2.1 7 = .ok (.iload_n 1, 1) := by decide +kernel
theorem d_StringLatin1_charAt_8 : decode M_StringLatin1_charAt.2.1 8 = .ok (.baload, 1) := by decide +kernel
theorem d_StringLatin1_charAt_9 : decode M_StringLatin1_charAt.2.1 9 = .ok (.sipush 255, 3) := by decide +kernel
theorem d_StringLatin1_charAt_12 : decode M_StringLatin1_charAt.2.1 12 = .ok (.iand, 1) := by decide +kernel
theorem d_StringLatin1_charAt_13 : decode M_StringLatin1_charAt.2.1 13 = .ok (.i2c, 1) := by decide +kernel
theorem d_StringLatin1_charAt_14 : decode M_StringLatin1_charAt.2.1 14 = .ok (.ireturn, 1) := by decide +kernel
set_option maxRecDepth 100000 in
set_option maxHeartbeats 4000000 in
theorem c_StringLatin1_charAt {Γ : G9} {h : AH} {z i v : Nat} {l : List Int32} (hk : CsOk Γ) (ht : SF Γ (va_T .byte v l.length (fun j => .int (l.getD j 0)))) (hi : i < l.length) (hl : l.length ≤ 20) : CallR Γ M_StringLatin1_charAt 2 [.ref v, .int (nI i)] h z (some (.int (chr l i))) h := by
  refine Call.of_go (L := [some (.ref v), some (.int (nI i))]) (by decide +kernel) rfl (by exact Nat.le_of_ble_eq_true rfl) ?_
  refine Go.iload_1 d_StringLatin1_charAt_0 rfl ?_
  refine Go.aload_0 d_StringLatin1_charAt_1 rfl ?_
  refine Go.alenS (v := nI l.length) d_StringLatin1_charAt_2 rfl ht rfl ?_
  refine Go.cs2v d_StringLatin1_charAt_3 rfl l_StringLatin1_9 k_String_checkIndex_s rfl (c_String_checkIndex hk hi hl) rfl rfl rfl ?_
  refine Go.aload_0 d_StringLatin1_charAt_6 rfl ?_
  refine Go.iload_1 d_StringLatin1_charAt_7 rfl ?_
  refine Go.baloadS d_StringLatin1_charAt_8 rfl ht (vp_in_nI (by omega) (by omega)) ?_
  rw [nI_clamp (show i < 2 ^ 31 by omega)]
  refine Go.sipush (v := 255) d_StringLatin1_charAt_9 rfl (by decide) ?_
  refine Go.iand d_StringLatin1_charAt_12 rfl ?_
  refine Go.i2c d_StringLatin1_charAt_13 rfl ?_
  exact Go.iret d_StringLatin1_charAt_14 rfl (chr_id _) ⟨rfl, rfl, rfl⟩
theorem d_String_charAt_0 : decode M_String_charAt.2.1 0 = .ok (.aload_n 0, 1) := by decide +kernel
theorem d_String_charAt_1 : decode M_String_charAt.2.1 1 = .ok (.invokevirtual 492, 3) := by decide +kernel
theorem d_String_charAt_4 : decode M_String_charAt.2.1 4 = .ok (.ifCond .eq 12, 3) := by decide +kernel
theorem d_String_charAt_7 : decode M_String_charAt.2.1 7 = .ok (.aload_n 0, 1) := by decide +kernel
theorem d_String_charAt_8 : decode M_String_charAt.2.1 8 = .ok (.getfield 9, 3) := by decide +kernel
theorem d_String_charAt_11 : decode M_String_charAt.2.1 11 = .ok (.iload_n 1, 1) := by decide +kernel
theorem d_String_charAt_12 : decode M_String_charAt.2.1 12 = .ok (.invokestatic 495, 3) := by decide +kernel
theorem d_String_charAt_15 : decode M_String_charAt.2.1 15 = .ok (.ireturn, 1) := by decide +kernel
theorem d_String_charAt_16 : decode M_String_charAt.2.1 16 = .ok (.aload_n 0, 1) := by decide +kernel
theorem d_String_charAt_17 : decode M_String_charAt.2.1 17 = .ok (.getfield 9, 3) := by decide +kernel
theorem d_String_charAt_20 : decode M_String_charAt.2.1 20 = .ok (.iload_n 1, 1) := by decide +kernel
theorem d_String_charAt_21 : decode M_String_charAt.2.1 21 = .ok (.invokestatic 498, 3) := by decide +kernel
theorem d_String_charAt_24 : decode M_String_charAt.2.1 24 = .ok (.ireturn, 1) := by decide +kernel
set_option maxRecDepth 100000 in
set_option maxHeartbeats 4000000 in
theorem c_String_charAt {Γ : G9} {h : AH} {z a i : Nat} {l : List Int32} (hk : CsOk Γ) (ha : StOk Γ a l) (hi : i < l.length) : CallR Γ M_String_charAt 3 [.ref a, .int (nI i)] h z (some (.int (chr l i))) h := by
  refine Call.of_go (L := [some (.ref a), some (.int (nI i))]) (by decide +kernel) rfl (by exact Nat.le_of_ble_eq_true rfl) ?_
  obtain ⟨v, hv, ht⟩ := ha.2.2.2
  refine Go.aload_0 d_String_charAt_0 rfl ?_
  refine Go.callO (as := []) d_String_charAt_1 rfl l_String_492 k_String_isLatin1_v rfl ha.2.1 rfl (c_String_isLatin1 hk ha) rfl rfl rfl ?_
  refine Go.if_eq (t := 16) d_String_charAt_4 (by decide) rfl (fun w => absurd w (by decide)) (fun _ => ?_)
  refine Go.aload_0 d_String_charAt_7 rfl ?_
  refine Go.getfS d_String_charAt_8 rfl x_String_9 hv ?_
  refine Go.iload_1 d_String_charAt_11 rfl ?_
  refine Go.cs2r d_String_charAt_12 rfl l_String_495 k_StringLatin1_charAt_s rfl (c_StringLatin1_charAt hk ht hi ha.1) rfl rfl rfl ?_
  exact Go.iret d_String_charAt_15 rfl (chr_id _) ⟨rfl, rfl, rfl⟩
