/-! the law's list: the loop of its orders -/
section Lv
variable {Γ : G9} {C S pc q : Nat} {L : List (Option Value)} {st : List Value} {h h0 hb : AH} {z b b2 sim q0 : Nat} {t tt : List Int32} {B : BS} {Q : QT} {X : XT} {ls : Nat → Nat}
theorem Go.lwn {idx : Nat} (hd : decode M_Law_list.2.1 pc = .ok (.anewarray idx, 3)) (hq : pc + 3 = q) (hcl : Cond.classLink "GlacierCampLaw" idx "java/lang/String" ∈ gw) (hat : AtOk Γ) (hs : LSt Γ h b hb t B) (hC : 1 ≤ C) (hS : 5 ≤ S) (kk : ∀ (w : Nat) (h2 hb2 : AH) (z2 : Nat), LSt Γ h2 b hb2 t B → WD Γ hb2 w (fun _ => none) [] → Ext hb hb2 → hb w = none → Go Γ M_Law_list 9 (C - 1) (S - 5) q L (.ref w :: st) h2 z2 Q X) : Go Γ M_Law_list 9 C S pc L (.int 5 :: st) h z Q X := by
  refine Go.low (fun hlow => ?_)
  refine Go.anewT (C1 := C - 1) (S1 := S - 5) (N := 5) hd hq hcl hat rfl (by decide) (by omega) (by omega) ?_
  have hz := hlow z (Nat.le_refl z)
  have hbz := hs.base.no hz
  refine kk z _ (hup hb z (aT Γ 5 (fun _ => none))) _ (hs.ext2 (Ext.up hz) (fun x e hx => ?_)) ⟨hup_at, fun j hj => absurd hj (Nat.not_lt_zero j)⟩ (Ext.up hbz) hbz
  by_cases e1 : x = z
  · rw [e1, hup_at] at hx
    rw [e1, hup_at]
    exact Or.inr ⟨hz, hx⟩
  · rw [hup_ne e1] at hx
    exact Or.inl hx
theorem Go.lsb {pc2 : Nat} (hd : decode M_Law_list.2.1 pc = .ok (.new 32, 3)) (hd2 : decode M_Law_list.2.1 (pc + 3) = .ok (.dup, 1)) (hd3 : decode M_Law_list.2.1 (pc + 3 + 1) = .ok (.invokespecial 34, 3)) (hq : pc + 3 + 1 + 3 = pc2) (hk : CsOk Γ) (hw : Nat.ble (st.map fun v => v.category).sum 7 = true) (hC : 2 ≤ C) (hS : 20 ≤ S) (kk : ∀ (b2 : Nat) (h9 : AH) (z9 : Nat), SB Γ h9 b2 h [] 0 → Go Γ M_Law_list 9 (C - 2) (S - 20) pc2 L (.ref b2 :: st) h9 z9 Q X) : Go Γ M_Law_list 9 C S pc L st h z Q X := by
  refine Go.low (fun hlow => ?_)
  refine Go.new (ci := 10) (C1 := C - 1) (S1 := S - 4) (fs := [.null, .int 0, .int 0, .int 0]) ty_StringBuilder hd rfl rfl cw_StringBuilder ty_StringBuilder_ok x_lkSB x_insSB x_iniSB n9_fs_SB (by omega) (by omega) ?_
  refine Go.dup hd2 rfl rfl ?_
  have hw1 := Nat.le_of_ble_eq_true hw
  refine Go.callI (C1 := C - 2) (S1 := S - 20) (as := []) hd3 hq (Or.inl l_Law_34) k_StringBuilder_init_n rfl rfl (c_sb_init hk hup_at) (by decide) (by decide) (by omega) (by omega) (by show 1 + (st.map fun v => v.category).sum ≤ 8; omega) (fun _ _ _ w _ => w.elim) (fun v9 h9 z9 w9 hz9 => ?_)
  obtain ⟨rfl, hs, rfl⟩ := w9
  rw [hdel_up (hlow _ (Nat.le_refl _))] at hs
  exact kk _ _ _ hs
theorem Go.lsa {a : Nat} {l : List Int32} (hd : decode M_Law_list.2.1 pc = .ok (.invokevirtual 37, 3)) (hq : pc + 3 = q) (hk : CsOk Γ) (hp : PrOk Γ) (hs : SB Γ h b2 h0 tt q0) (hst : STR Γ h0 a l) (hl : LB l) (hlen : tt.length + l.length ≤ 1200) (hw : Nat.ble (st.map fun v => v.category).sum 8 = true) (hC : 1 ≤ C) (hS : 2402 ≤ S) (kk : ∀ (h9 : AH) (z9 : Nat), SB Γ h9 b2 h0 (tt ++ l) 0 → Go Γ M_Law_list 9 (C - 1) (S - 2402) q L (.ref b2 :: st) h9 z9 Q X) : Go Γ M_Law_list 9 C S pc L (.ref a :: .ref b2 :: st) h z Q X := by
  obtain ⟨v8, n8, hb8⟩ := hs.obj
  refine Go.callV (C1 := C - 1) (S1 := S - 2402) (as := [.ref a]) hd hq l_Law_37 k_StringBuilder_append_1_v rfl hb8 rfl rfl (c_append hk hp hs hst hl hlen) (by decide) (by decide) (by omega) (by omega) (Nat.le_of_ble_eq_true hw) (fun _ _ _ w _ => w.elim) (fun v9 h9 z9 w9 hz9 => ?_)
  obtain ⟨rfl, w1, -⟩ := w9
  exact kk _ _ w1
theorem Go.lsi {v : Nat} (hd : decode M_Law_list.2.1 pc = .ok (.invokevirtual 41, 3)) (hq : pc + 3 = q) (hk : CsOk Γ) (hp : PrOk Γ) (hdg : DgOk Γ) (hs : SB Γ h b2 h0 tt q0) (hv : v < 1000) (hlen : tt.length + (dec v).length ≤ 1200) (hw : Nat.ble (st.map fun v => v.category).sum 8 = true) (hC : 1 ≤ C) (hS : 2402 ≤ S) (kk : ∀ (h9 : AH) (z9 : Nat), SB Γ h9 b2 h0 (tt ++ dec v) 0 → Go Γ M_Law_list 9 (C - 1) (S - 2402) q L (.ref b2 :: st) h9 z9 Q X) : Go Γ M_Law_list 9 C S pc L (.int (nI v) :: .ref b2 :: st) h z Q X := by
  obtain ⟨v8, n8, hb8⟩ := hs.obj
  refine Go.callV (C1 := C - 1) (S1 := S - 2402) (as := [.int (nI v)]) hd hq l_Law_41 k_StringBuilder_append_0_v rfl hb8 rfl rfl (c_appendI (v0 := v) hk hp hdg hs hv hlen) (by decide) (by decide) (by omega) (by omega) (Nat.le_of_ble_eq_true hw) (fun _ _ _ w _ => w.elim) (fun v9 h9 z9 w9 hz9 => ?_)
  obtain ⟨rfl, w1, -⟩ := w9
  exact kk _ _ w1
theorem Go.lts (hd : decode M_Law_list.2.1 pc = .ok (.invokevirtual 44, 3)) (hq : pc + 3 = q) (hk : CsOk Γ) (hs : SB Γ h b2 h0 tt q0) (hlen : tt.length ≤ 100) (hw : Nat.ble (st.map fun v => v.category).sum 8 = true) (hC : 2 ≤ C) (hS : 104 ≤ S) (kk : ∀ (c : Nat) (h9 : AH) (z9 : Nat), Ext h0 h9 → STW Γ h0 h9 c tt → Go Γ M_Law_list 9 (C - 2) (S - 104) q L (.ref c :: st) h9 z9 Q X) : Go Γ M_Law_list 9 C S pc L (.ref b2 :: st) h z Q X := by
  obtain ⟨v8, n8, hb8⟩ := hs.obj
  refine Go.callV (C1 := C - 2) (S1 := S - 104) (as := []) hd hq l_Law_44 k_StringBuilder_toString_v rfl hb8 rfl rfl (c_toStr hk hs) (by decide) (by decide) (by omega) (by omega) (Nat.le_of_ble_eq_true hw) (fun _ _ _ w _ => w.elim) (fun v9 h9 z9 w9 hz9 => ?_)
  obtain ⟨c9, rfl, he9, hst9⟩ := w9
  exact kk _ _ _ (hs.rd.tr he9) (hst9.of hs.rd)
theorem Go.lsum {oa : Nat} {f : Nat → Int32} {o : Nat → Nat} (hd : decode M_Law_list.2.1 pc = .ok (.invokestatic 199, 3)) (hq : pc + 3 = q) (hk : CsOk Γ) (hp : PrOk Γ) (hdg : DgOk Γ) (hls : LsOk Γ ls) (hs : SB Γ h b2 h0 tt q0) (ho : h0 oa = some (aI Γ 12 f)) (hf : ∀ j, j ≠ 5 → f j = nI (o j)) (hob : ∀ j, o j < 100) (h3 : o 3 < 8) (hw : Nat.ble (st.map fun v => v.category).sum 8 = true) (hC : 9 ≤ C) (hS : 12200 ≤ S) (kk : ∀ (c : Nat) (h9 h1 : AH) (z9 : Nat), SB Γ h9 b2 h1 tt q0 → Ext h0 h1 → STR Γ h1 c (sumT o) → Go Γ M_Law_list 9 (C - 9) (S - 12200) q L (.ref c :: st) h9 z9 Q X) : Go Γ M_Law_list 9 C S pc L (.ref oa :: st) h z Q X := by
  refine Go.callS (C1 := C - 9) (S1 := S - 12200) (as := [.ref oa]) hd hq l_Law_199 k_Law_sum_s rfl rfl rfl (c_sum hk hp hdg hls (hs.rd _ _ ho) hf hob h3) (by decide) (by decide) (by omega) (by omega) (Nat.le_of_ble_eq_true hw) (fun _ _ _ w _ => w.elim) (fun v9 h9 z9 w9 hz9 => ?_)
  obtain ⟨c9, rfl, he9, hst9⟩ := w9
  obtain ⟨h1, s1, s2, s3⟩ := hs.ext2 he9
  exact kk _ _ _ _ s1 s2 (hst9.vis s3)
theorem Go.lwhen {oa : Nat} {f : Nat → Int32} {o : Nat → Nat} (hd : decode M_Law_list.2.1 pc = .ok (.invokestatic 205, 3)) (hq : pc + 3 = q) (hk : CsOk Γ) (hp : PrOk Γ) (hdg : DgOk Γ) (hls : LsOk Γ ls) (hs : LSt Γ h b hb t B) (ho : h oa = some (aI Γ 12 f)) (hf : ∀ j, j ≠ 5 → f j = nI (o j)) (hob : ∀ j, o j < 100) (h6 : o 6 < 9) (h5 : o5Ok (f 5)) (hw : Nat.ble (st.map fun v => v.category).sum 8 = true) (hC : 11 ≤ C) (hS : 16000 ≤ S) (kk : ∀ (c : Nat) (h9 hb2 : AH) (z9 : Nat), LSt Γ h9 b hb2 t B → Ext hb hb2 → STR Γ hb2 c (whenT o (f 5)) → Go Γ M_Law_list 9 (C - 11) (S - 16000) q L (.ref c :: st) h9 z9 Q X) : Go Γ M_Law_list 9 C S pc L (.ref oa :: st) h z Q X := by
  refine Go.callS (C1 := C - 11) (S1 := S - 16000) (as := [.ref oa]) hd hq l_Law_205 k_Law_when_s rfl rfl rfl (c_when hk hp hdg hls ho hf hob h6 h5) (by decide) (by decide) (by omega) (by omega) (Nat.le_of_ble_eq_true hw) (fun _ _ _ w _ => w.elim) (fun v9 h9 z9 w9 hz9 => ?_)
  obtain ⟨c9, rfl, he9, hst9⟩ := w9
  obtain ⟨hb2, s1, s2, s3⟩ := hs.str he9 hst9
  exact kk _ _ _ _ s1 s3 s2
end Lv
theorem nI_nm1 {n : Nat} (h : n < 100) : nI n ≠ -1 := fun w => nI_pos (show n < 2 ^ 31 by omega) (by rw [w]; decide)
theorem d_Law_list_998 : decode M_Law_list.2.1 998 = .ok (.iload 6, 2) := by decide +kernel
theorem d_Law_list_1000 : decode M_Law_list.2.1 1000 = .ok (.aload_n 2, 1) := by decide +kernel
theorem d_Law_list_1001 : decode M_Law_list.2.1 1001 = .ok (.getfield 184, 3) := by decide +kernel
theorem d_Law_list_1004 : decode M_Law_list.2.1 1004 = .ok (.arraylength, 1) := by decide +kernel
theorem d_Law_list_1005 : decode M_Law_list.2.1 1005 = .ok (.if_icmp .ge 440, 3) := by decide +kernel
theorem d_Law_list_1008 : decode M_Law_list.2.1 1008 = .ok (.aload_n 0, 1) := by decide +kernel
theorem d_Law_list_1009 : decode M_Law_list.2.1 1009 = .ok (.bipush 9, 2) := by decide +kernel
theorem d_Law_list_1011 : decode M_Law_list.2.1 1011 = .ok (.iload 6, 2) := by decide +kernel
theorem d_Law_list_1013 : decode M_Law_list.2.1 1013 = .ok (.bipush 7, 2) := by decide +kernel
theorem d_Law_list_1015 : decode M_Law_list.2.1 1015 = .ok (.irem, 1) := by decide +kernel
theorem d_Law_list_1016 : decode M_Law_list.2.1 1016 = .ok (.iadd, 1) := by decide +kernel
theorem d_Law_list_1017 : decode M_Law_list.2.1 1017 = .ok (.invokestatic 119, 3) := by decide +kernel
theorem d_Law_list_1020 : decode M_Law_list.2.1 1020 = .ok (.iconst 2, 1) := by decide +kernel
theorem d_Law_list_1021 : decode M_Law_list.2.1 1021 = .ok (.ishr, 1) := by decide +kernel
theorem d_Law_list_1022 : decode M_Law_list.2.1 1022 = .ok (.istore 7, 2) := by decide +kernel
theorem d_Law_list_1024 : decode M_Law_list.2.1 1024 = .ok (.iload 7, 2) := by decide +kernel
theorem d_Law_list_1026 : decode M_Law_list.2.1 1026 = .ok (.iconst 5, 1) := by decide +kernel
theorem d_Law_list_1027 : decode M_Law_list.2.1 1027 = .ok (.invokestatic 125, 3) := by decide +kernel
theorem d_Law_list_1030 : decode M_Law_list.2.1 1030 = .ok (.istore 8, 2) := by decide +kernel
theorem d_Law_list_1032 : decode M_Law_list.2.1 1032 = .ok (.iload 7, 2) := by decide +kernel
theorem d_Law_list_1034 : decode M_Law_list.2.1 1034 = .ok (.iconst 3, 1) := by decide +kernel
theorem d_Law_list_1035 : decode M_Law_list.2.1 1035 = .ok (.ishr, 1) := by decide +kernel
theorem d_Law_list_1036 : decode M_Law_list.2.1 1036 = .ok (.iload 8, 2) := by decide +kernel
theorem d_Law_list_1038 : decode M_Law_list.2.1 1038 = .ok (.iconst 2, 1) := by decide +kernel
theorem d_Law_list_1039 : decode M_Law_list.2.1 1039 = .ok (.if_icmp .ne 11, 3) := by decide +kernel
theorem d_Law_list_1042 : decode M_Law_list.2.1 1042 = .ok (.aload_n 2, 1) := by decide +kernel
theorem d_Law_list_1043 : decode M_Law_list.2.1 1043 = .ok (.getfield 154, 3) := by decide +kernel
theorem d_Law_list_1046 : decode M_Law_list.2.1 1046 = .ok (.arraylength, 1) := by decide +kernel
theorem d_Law_list_1047 : decode M_Law_list.2.1 1047 = .ok (.goto 22, 3) := by decide +kernel
theorem d_Law_list_1069 : decode M_Law_list.2.1 1069 = .ok (.invokestatic 125, 3) := by decide +kernel
theorem d_Law_list_1050 : decode M_Law_list.2.1 1050 = .ok (.iload 8, 2) := by decide +kernel
theorem d_Law_list_1052 : decode M_Law_list.2.1 1052 = .ok (.iconst 4, 1) := by decide +kernel
theorem d_Law_list_1053 : decode M_Law_list.2.1 1053 = .ok (.if_icmp .ne 11, 3) := by decide +kernel
theorem d_Law_list_1056 : decode M_Law_list.2.1 1056 = .ok (.aload_n 2, 1) := by decide +kernel
theorem d_Law_list_1057 : decode M_Law_list.2.1 1057 = .ok (.getfield 145, 3) := by decide +kernel
theorem d_Law_list_1060 : decode M_Law_list.2.1 1060 = .ok (.arraylength, 1) := by decide +kernel
theorem d_Law_list_1061 : decode M_Law_list.2.1 1061 = .ok (.goto 8, 3) := by decide +kernel
theorem d_Law_list_1064 : decode M_Law_list.2.1 1064 = .ok (.aload_n 2, 1) := by decide +kernel
theorem d_Law_list_1065 : decode M_Law_list.2.1 1065 = .ok (.getfield 170, 3) := by decide +kernel
theorem d_Law_list_1068 : decode M_Law_list.2.1 1068 = .ok (.arraylength, 1) := by decide +kernel
theorem d_Law_list_1072 : decode M_Law_list.2.1 1072 = .ok (.istore 9, 2) := by decide +kernel
theorem d_Law_list_1074 : decode M_Law_list.2.1 1074 = .ok (.iload 7, 2) := by decide +kernel
theorem d_Law_list_1076 : decode M_Law_list.2.1 1076 = .ok (.iconst 4, 1) := by decide +kernel
theorem d_Law_list_1077 : decode M_Law_list.2.1 1077 = .ok (.ishr, 1) := by decide +kernel
theorem d_Law_list_1078 : decode M_Law_list.2.1 1078 = .ok (.bipush 9, 2) := by decide +kernel
theorem d_Law_list_1080 : decode M_Law_list.2.1 1080 = .ok (.invokestatic 125, 3) := by decide +kernel
theorem d_Law_list_1083 : decode M_Law_list.2.1 1083 = .ok (.istore 10, 2) := by decide +kernel
theorem d_Law_list_1085 : decode M_Law_list.2.1 1085 = .ok (.bipush 12, 2) := by decide +kernel
theorem d_Law_list_1087 : decode M_Law_list.2.1 1087 = .ok (.newarray .int, 2) := by decide +kernel
theorem d_Law_list_1089 : decode M_Law_list.2.1 1089 = .ok (.dup, 1) := by decide +kernel
theorem d_Law_list_1090 : decode M_Law_list.2.1 1090 = .ok (.iconst 0, 1) := by decide +kernel
theorem d_Law_list_1091 : decode M_Law_list.2.1 1091 = .ok (.iload 8, 2) := by decide +kernel
theorem d_Law_list_1093 : decode M_Law_list.2.1 1093 = .ok (.iastore, 1) := by decide +kernel
theorem d_Law_list_1094 : decode M_Law_list.2.1 1094 = .ok (.dup, 1) := by decide +kernel
theorem d_Law_list_1095 : decode M_Law_list.2.1 1095 = .ok (.iconst 1, 1) := by decide +kernel
theorem d_Law_list_1096 : decode M_Law_list.2.1 1096 = .ok (.iload 9, 2) := by decide +kernel
theorem d_Law_list_1098 : decode M_Law_list.2.1 1098 = .ok (.iastore, 1) := by decide +kernel
theorem d_Law_list_1099 : decode M_Law_list.2.1 1099 = .ok (.dup, 1) := by decide +kernel
theorem d_Law_list_1100 : decode M_Law_list.2.1 1100 = .ok (.iconst 2, 1) := by decide +kernel
theorem d_Law_list_1101 : decode M_Law_list.2.1 1101 = .ok (.iload 7, 2) := by decide +kernel
theorem d_Law_list_1103 : decode M_Law_list.2.1 1103 = .ok (.iconst 5, 1) := by decide +kernel
theorem d_Law_list_1104 : decode M_Law_list.2.1 1104 = .ok (.ishr, 1) := by decide +kernel
theorem d_Law_list_1105 : decode M_Law_list.2.1 1105 = .ok (.aload_n 2, 1) := by decide +kernel
theorem d_Law_list_1106 : decode M_Law_list.2.1 1106 = .ok (.getfield 170, 3) := by decide +kernel
theorem d_Law_list_1109 : decode M_Law_list.2.1 1109 = .ok (.arraylength, 1) := by decide +kernel
theorem d_Law_list_1110 : decode M_Law_list.2.1 1110 = .ok (.invokestatic 125, 3) := by decide +kernel
theorem d_Law_list_1113 : decode M_Law_list.2.1 1113 = .ok (.iastore, 1) := by decide +kernel
theorem d_Law_list_1114 : decode M_Law_list.2.1 1114 = .ok (.dup, 1) := by decide +kernel
theorem d_Law_list_1115 : decode M_Law_list.2.1 1115 = .ok (.iconst 3, 1) := by decide +kernel
theorem d_Law_list_1116 : decode M_Law_list.2.1 1116 = .ok (.iload 7, 2) := by decide +kernel
theorem d_Law_list_1118 : decode M_Law_list.2.1 1118 = .ok (.iconst 2, 1) := by decide +kernel
theorem d_Law_list_1119 : decode M_Law_list.2.1 1119 = .ok (.ishr, 1) := by decide +kernel
theorem d_Law_list_1120 : decode M_Law_list.2.1 1120 = .ok (.bipush 8, 2) := by decide +kernel
theorem d_Law_list_1122 : decode M_Law_list.2.1 1122 = .ok (.invokestatic 125, 3) := by decide +kernel
theorem d_Law_list_1125 : decode M_Law_list.2.1 1125 = .ok (.iastore, 1) := by decide +kernel
theorem d_Law_list_1126 : decode M_Law_list.2.1 1126 = .ok (.dup, 1) := by decide +kernel
theorem d_Law_list_1127 : decode M_Law_list.2.1 1127 = .ok (.iconst 4, 1) := by decide +kernel
theorem d_Law_list_1128 : decode M_Law_list.2.1 1128 = .ok (.iload 7, 2) := by decide +kernel
theorem d_Law_list_1130 : decode M_Law_list.2.1 1130 = .ok (.iconst 3, 1) := by decide +kernel
theorem d_Law_list_1131 : decode M_Law_list.2.1 1131 = .ok (.ishr, 1) := by decide +kernel
theorem d_Law_list_1132 : decode M_Law_list.2.1 1132 = .ok (.bipush 12, 2) := by decide +kernel
theorem d_Law_list_1134 : decode M_Law_list.2.1 1134 = .ok (.invokestatic 125, 3) := by decide +kernel
theorem d_Law_list_1137 : decode M_Law_list.2.1 1137 = .ok (.iastore, 1) := by decide +kernel
theorem d_Law_list_1138 : decode M_Law_list.2.1 1138 = .ok (.dup, 1) := by decide +kernel
theorem d_Law_list_1139 : decode M_Law_list.2.1 1139 = .ok (.iconst 5, 1) := by decide +kernel
theorem d_Law_list_1140 : decode M_Law_list.2.1 1140 = .ok (.iload 8, 2) := by decide +kernel
theorem d_Law_list_1142 : decode M_Law_list.2.1 1142 = .ok (.iconst 3, 1) := by decide +kernel
theorem d_Law_list_1143 : decode M_Law_list.2.1 1143 = .ok (.if_icmp .ne 19, 3) := by decide +kernel
theorem d_Law_list_1146 : decode M_Law_list.2.1 1146 = .ok (.iload 7, 2) := by decide +kernel
theorem d_Law_list_1148 : decode M_Law_list.2.1 1148 = .ok (.bipush 6, 2) := by decide +kernel
theorem d_Law_list_1150 : decode M_Law_list.2.1 1150 = .ok (.ishr, 1) := by decide +kernel
theorem d_Law_list_1151 : decode M_Law_list.2.1 1151 = .ok (.iconst 3, 1) := by decide +kernel
theorem d_Law_list_1152 : decode M_Law_list.2.1 1152 = .ok (.invokestatic 125, 3) := by decide +kernel
theorem d_Law_list_1155 : decode M_Law_list.2.1 1155 = .ok (.ifCond .ne 7, 3) := by decide +kernel
theorem d_Law_list_1162 : decode M_Law_list.2.1 1162 = .ok (.iload 10, 2) := by decide +kernel
theorem d_Law_list_1158 : decode M_Law_list.2.1 1158 = .ok (.iconst (-1), 1) := by decide +kernel
theorem d_Law_list_1159 : decode M_Law_list.2.1 1159 = .ok (.goto 5, 3) := by decide +kernel
theorem d_Law_list_1164 : decode M_Law_list.2.1 1164 = .ok (.iastore, 1) := by decide +kernel
theorem d_Law_list_1165 : decode M_Law_list.2.1 1165 = .ok (.dup, 1) := by decide +kernel
theorem d_Law_list_1166 : decode M_Law_list.2.1 1166 = .ok (.bipush 6, 2) := by decide +kernel
theorem d_Law_list_1168 : decode M_Law_list.2.1 1168 = .ok (.iload 7, 2) := by decide +kernel
theorem d_Law_list_1170 : decode M_Law_list.2.1 1170 = .ok (.iconst 5, 1) := by decide +kernel
theorem d_Law_list_1171 : decode M_Law_list.2.1 1171 = .ok (.ishr, 1) := by decide +kernel
theorem d_Law_list_1172 : decode M_Law_list.2.1 1172 = .ok (.bipush 9, 2) := by decide +kernel
theorem d_Law_list_1174 : decode M_Law_list.2.1 1174 = .ok (.invokestatic 125, 3) := by decide +kernel
theorem d_Law_list_1177 : decode M_Law_list.2.1 1177 = .ok (.iastore, 1) := by decide +kernel
theorem d_Law_list_1178 : decode M_Law_list.2.1 1178 = .ok (.dup, 1) := by decide +kernel
theorem d_Law_list_1179 : decode M_Law_list.2.1 1179 = .ok (.bipush 7, 2) := by decide +kernel
theorem d_Law_list_1181 : decode M_Law_list.2.1 1181 = .ok (.iload 7, 2) := by decide +kernel
theorem d_Law_list_1183 : decode M_Law_list.2.1 1183 = .ok (.bipush 7, 2) := by decide +kernel
theorem d_Law_list_1185 : decode M_Law_list.2.1 1185 = .ok (.ishr, 1) := by decide +kernel
theorem d_Law_list_1186 : decode M_Law_list.2.1 1186 = .ok (.aload_n 2, 1) := by decide +kernel
theorem d_Law_list_1187 : decode M_Law_list.2.1 1187 = .ok (.getfield 145, 3) := by decide +kernel
theorem d_Law_list_1190 : decode M_Law_list.2.1 1190 = .ok (.arraylength, 1) := by decide +kernel
theorem d_Law_list_1191 : decode M_Law_list.2.1 1191 = .ok (.invokestatic 125, 3) := by decide +kernel
theorem d_Law_list_1194 : decode M_Law_list.2.1 1194 = .ok (.iastore, 1) := by decide +kernel
theorem d_Law_list_1195 : decode M_Law_list.2.1 1195 = .ok (.dup, 1) := by decide +kernel
theorem d_Law_list_1196 : decode M_Law_list.2.1 1196 = .ok (.bipush 8, 2) := by decide +kernel
theorem d_Law_list_1198 : decode M_Law_list.2.1 1198 = .ok (.iload 7, 2) := by decide +kernel
theorem d_Law_list_1200 : decode M_Law_list.2.1 1200 = .ok (.bipush 6, 2) := by decide +kernel
theorem d_Law_list_1202 : decode M_Law_list.2.1 1202 = .ok (.ishr, 1) := by decide +kernel
theorem d_Law_list_1203 : decode M_Law_list.2.1 1203 = .ok (.aload_n 2, 1) := by decide +kernel
theorem d_Law_list_1204 : decode M_Law_list.2.1 1204 = .ok (.getfield 154, 3) := by decide +kernel
theorem d_Law_list_1207 : decode M_Law_list.2.1 1207 = .ok (.arraylength, 1) := by decide +kernel
theorem d_Law_list_1208 : decode M_Law_list.2.1 1208 = .ok (.invokestatic 125, 3) := by decide +kernel
theorem d_Law_list_1211 : decode M_Law_list.2.1 1211 = .ok (.iastore, 1) := by decide +kernel
theorem d_Law_list_1212 : decode M_Law_list.2.1 1212 = .ok (.dup, 1) := by decide +kernel
theorem d_Law_list_1213 : decode M_Law_list.2.1 1213 = .ok (.bipush 9, 2) := by decide +kernel
theorem d_Law_list_1215 : decode M_Law_list.2.1 1215 = .ok (.iload 7, 2) := by decide +kernel
theorem d_Law_list_1217 : decode M_Law_list.2.1 1217 = .ok (.bipush 8, 2) := by decide +kernel
theorem d_Law_list_1219 : decode M_Law_list.2.1 1219 = .ok (.ishr, 1) := by decide +kernel
theorem d_Law_list_1220 : decode M_Law_list.2.1 1220 = .ok (.aload_n 2, 1) := by decide +kernel
theorem d_Law_list_1221 : decode M_Law_list.2.1 1221 = .ok (.getfield 170, 3) := by decide +kernel
theorem d_Law_list_1224 : decode M_Law_list.2.1 1224 = .ok (.arraylength, 1) := by decide +kernel
theorem d_Law_list_1225 : decode M_Law_list.2.1 1225 = .ok (.invokestatic 125, 3) := by decide +kernel
theorem d_Law_list_1228 : decode M_Law_list.2.1 1228 = .ok (.iastore, 1) := by decide +kernel
theorem d_Law_list_1229 : decode M_Law_list.2.1 1229 = .ok (.dup, 1) := by decide +kernel
theorem d_Law_list_1230 : decode M_Law_list.2.1 1230 = .ok (.bipush 10, 2) := by decide +kernel
theorem d_Law_list_1232 : decode M_Law_list.2.1 1232 = .ok (.iload 7, 2) := by decide +kernel
theorem d_Law_list_1234 : decode M_Law_list.2.1 1234 = .ok (.bipush 9, 2) := by decide +kernel
theorem d_Law_list_1236 : decode M_Law_list.2.1 1236 = .ok (.ishr, 1) := by decide +kernel
theorem d_Law_list_1237 : decode M_Law_list.2.1 1237 = .ok (.aload_n 2, 1) := by decide +kernel
theorem d_Law_list_1238 : decode M_Law_list.2.1 1238 = .ok (.getfield 163, 3) := by decide +kernel
theorem d_Law_list_1241 : decode M_Law_list.2.1 1241 = .ok (.arraylength, 1) := by decide +kernel
theorem d_Law_list_1242 : decode M_Law_list.2.1 1242 = .ok (.invokestatic 125, 3) := by decide +kernel
theorem d_Law_list_1245 : decode M_Law_list.2.1 1245 = .ok (.iastore, 1) := by decide +kernel
theorem d_Law_list_1246 : decode M_Law_list.2.1 1246 = .ok (.dup, 1) := by decide +kernel
theorem d_Law_list_1247 : decode M_Law_list.2.1 1247 = .ok (.bipush 11, 2) := by decide +kernel
theorem d_Law_list_1249 : decode M_Law_list.2.1 1249 = .ok (.iload 7, 2) := by decide +kernel
theorem d_Law_list_1251 : decode M_Law_list.2.1 1251 = .ok (.bipush 7, 2) := by decide +kernel
theorem d_Law_list_1253 : decode M_Law_list.2.1 1253 = .ok (.ishr, 1) := by decide +kernel
theorem d_Law_list_1254 : decode M_Law_list.2.1 1254 = .ok (.iload_n 3, 1) := by decide +kernel
theorem d_Law_list_1255 : decode M_Law_list.2.1 1255 = .ok (.invokestatic 125, 3) := by decide +kernel
theorem d_Law_list_1258 : decode M_Law_list.2.1 1258 = .ok (.iastore, 1) := by decide +kernel
theorem d_Law_list_1259 : decode M_Law_list.2.1 1259 = .ok (.astore 11, 2) := by decide +kernel
theorem d_Law_list_1261 : decode M_Law_list.2.1 1261 = .ok (.aload_n 2, 1) := by decide +kernel
theorem d_Law_list_1262 : decode M_Law_list.2.1 1262 = .ok (.getfield 184, 3) := by decide +kernel
theorem d_Law_list_1265 : decode M_Law_list.2.1 1265 = .ok (.iload 6, 2) := by decide +kernel
theorem d_Law_list_1267 : decode M_Law_list.2.1 1267 = .ok (.aload 11, 2) := by decide +kernel
theorem d_Law_list_1269 : decode M_Law_list.2.1 1269 = .ok (.aastore, 1) := by decide +kernel
theorem d_Law_list_1270 : decode M_Law_list.2.1 1270 = .ok (.iconst 5, 1) := by decide +kernel
theorem d_Law_list_1271 : decode M_Law_list.2.1 1271 = .ok (.anewarray 16, 3) := by decide +kernel
theorem d_Law_list_1274 : decode M_Law_list.2.1 1274 = .ok (.dup, 1) := by decide +kernel
theorem d_Law_list_1275 : decode M_Law_list.2.1 1275 = .ok (.iconst 0, 1) := by decide +kernel
theorem d_Law_list_1276 : decode M_Law_list.2.1 1276 = .ok (.new 32, 3) := by decide +kernel
theorem d_Law_list_1279 : decode M_Law_list.2.1 1279 = .ok (.dup, 1) := by decide +kernel
theorem d_Law_list_1280 : decode M_Law_list.2.1 1280 = .ok (.invokespecial 34, 3) := by decide +kernel
theorem d_Law_list_1283 : decode M_Law_list.2.1 1283 = .ok (.ldc 187, 2) := by decide +kernel
theorem d_Law_list_1285 : decode M_Law_list.2.1 1285 = .ok (.invokevirtual 37, 3) := by decide +kernel
theorem d_Law_list_1288 : decode M_Law_list.2.1 1288 = .ok (.iload 9, 2) := by decide +kernel
theorem d_Law_list_1290 : decode M_Law_list.2.1 1290 = .ok (.invokevirtual 41, 3) := by decide +kernel
theorem d_Law_list_1293 : decode M_Law_list.2.1 1293 = .ok (.invokevirtual 44, 3) := by decide +kernel
theorem d_Law_list_1296 : decode M_Law_list.2.1 1296 = .ok (.aastore, 1) := by decide +kernel
theorem d_Law_list_1297 : decode M_Law_list.2.1 1297 = .ok (.dup, 1) := by decide +kernel
theorem d_Law_list_1298 : decode M_Law_list.2.1 1298 = .ok (.iconst 1, 1) := by decide +kernel
theorem d_Law_list_1299 : decode M_Law_list.2.1 1299 = .ok (.new 32, 3) := by decide +kernel
theorem d_Law_list_1302 : decode M_Law_list.2.1 1302 = .ok (.dup, 1) := by decide +kernel
theorem d_Law_list_1303 : decode M_Law_list.2.1 1303 = .ok (.invokespecial 34, 3) := by decide +kernel
theorem d_Law_list_1306 : decode M_Law_list.2.1 1306 = .ok (.ldc 189, 2) := by decide +kernel
theorem d_Law_list_1308 : decode M_Law_list.2.1 1308 = .ok (.invokevirtual 37, 3) := by decide +kernel
theorem d_Law_list_1311 : decode M_Law_list.2.1 1311 = .ok (.iload 9, 2) := by decide +kernel
theorem d_Law_list_1313 : decode M_Law_list.2.1 1313 = .ok (.invokevirtual 41, 3) := by decide +kernel
theorem d_Law_list_1316 : decode M_Law_list.2.1 1316 = .ok (.invokevirtual 44, 3) := by decide +kernel
theorem d_Law_list_1319 : decode M_Law_list.2.1 1319 = .ok (.aastore, 1) := by decide +kernel
theorem d_Law_list_1320 : decode M_Law_list.2.1 1320 = .ok (.dup, 1) := by decide +kernel
theorem d_Law_list_1321 : decode M_Law_list.2.1 1321 = .ok (.iconst 2, 1) := by decide +kernel
theorem d_Law_list_1322 : decode M_Law_list.2.1 1322 = .ok (.new 32, 3) := by decide +kernel
theorem d_Law_list_1325 : decode M_Law_list.2.1 1325 = .ok (.dup, 1) := by decide +kernel
theorem d_Law_list_1326 : decode M_Law_list.2.1 1326 = .ok (.invokespecial 34, 3) := by decide +kernel
theorem d_Law_list_1329 : decode M_Law_list.2.1 1329 = .ok (.ldc 191, 2) := by decide +kernel
theorem d_Law_list_1331 : decode M_Law_list.2.1 1331 = .ok (.invokevirtual 37, 3) := by decide +kernel
theorem d_Law_list_1334 : decode M_Law_list.2.1 1334 = .ok (.iload 9, 2) := by decide +kernel
theorem d_Law_list_1336 : decode M_Law_list.2.1 1336 = .ok (.invokevirtual 41, 3) := by decide +kernel
theorem d_Law_list_1339 : decode M_Law_list.2.1 1339 = .ok (.ldc 193, 2) := by decide +kernel
theorem d_Law_list_1341 : decode M_Law_list.2.1 1341 = .ok (.invokevirtual 37, 3) := by decide +kernel
theorem d_Law_list_1344 : decode M_Law_list.2.1 1344 = .ok (.aload 11, 2) := by decide +kernel
theorem d_Law_list_1346 : decode M_Law_list.2.1 1346 = .ok (.iconst 2, 1) := by decide +kernel
theorem d_Law_list_1347 : decode M_Law_list.2.1 1347 = .ok (.iaload, 1) := by decide +kernel
theorem d_Law_list_1348 : decode M_Law_list.2.1 1348 = .ok (.invokevirtual 41, 3) := by decide +kernel
theorem d_Law_list_1351 : decode M_Law_list.2.1 1351 = .ok (.invokevirtual 44, 3) := by decide +kernel
theorem d_Law_list_1354 : decode M_Law_list.2.1 1354 = .ok (.aastore, 1) := by decide +kernel
theorem d_Law_list_1355 : decode M_Law_list.2.1 1355 = .ok (.dup, 1) := by decide +kernel
theorem d_Law_list_1356 : decode M_Law_list.2.1 1356 = .ok (.iconst 3, 1) := by decide +kernel
theorem d_Law_list_1357 : decode M_Law_list.2.1 1357 = .ok (.new 32, 3) := by decide +kernel
theorem d_Law_list_1360 : decode M_Law_list.2.1 1360 = .ok (.dup, 1) := by decide +kernel
theorem d_Law_list_1361 : decode M_Law_list.2.1 1361 = .ok (.invokespecial 34, 3) := by decide +kernel
theorem d_Law_list_1364 : decode M_Law_list.2.1 1364 = .ok (.ldc 195, 2) := by decide +kernel
theorem d_Law_list_1366 : decode M_Law_list.2.1 1366 = .ok (.invokevirtual 37, 3) := by decide +kernel
theorem d_Law_list_1369 : decode M_Law_list.2.1 1369 = .ok (.iload 9, 2) := by decide +kernel
theorem d_Law_list_1371 : decode M_Law_list.2.1 1371 = .ok (.invokevirtual 41, 3) := by decide +kernel
theorem d_Law_list_1374 : decode M_Law_list.2.1 1374 = .ok (.ldc 197, 2) := by decide +kernel
theorem d_Law_list_1376 : decode M_Law_list.2.1 1376 = .ok (.invokevirtual 37, 3) := by decide +kernel
theorem d_Law_list_1379 : decode M_Law_list.2.1 1379 = .ok (.aload 11, 2) := by decide +kernel
theorem d_Law_list_1381 : decode M_Law_list.2.1 1381 = .ok (.invokestatic 199, 3) := by decide +kernel
theorem d_Law_list_1384 : decode M_Law_list.2.1 1384 = .ok (.invokevirtual 37, 3) := by decide +kernel
theorem d_Law_list_1387 : decode M_Law_list.2.1 1387 = .ok (.invokevirtual 44, 3) := by decide +kernel
theorem d_Law_list_1390 : decode M_Law_list.2.1 1390 = .ok (.aastore, 1) := by decide +kernel
theorem d_Law_list_1391 : decode M_Law_list.2.1 1391 = .ok (.dup, 1) := by decide +kernel
theorem d_Law_list_1392 : decode M_Law_list.2.1 1392 = .ok (.iconst 4, 1) := by decide +kernel
theorem d_Law_list_1393 : decode M_Law_list.2.1 1393 = .ok (.new 32, 3) := by decide +kernel
theorem d_Law_list_1396 : decode M_Law_list.2.1 1396 = .ok (.dup, 1) := by decide +kernel
theorem d_Law_list_1397 : decode M_Law_list.2.1 1397 = .ok (.invokespecial 34, 3) := by decide +kernel
theorem d_Law_list_1400 : decode M_Law_list.2.1 1400 = .ok (.ldc 203, 2) := by decide +kernel
theorem d_Law_list_1402 : decode M_Law_list.2.1 1402 = .ok (.invokevirtual 37, 3) := by decide +kernel
theorem d_Law_list_1405 : decode M_Law_list.2.1 1405 = .ok (.iload 9, 2) := by decide +kernel
theorem d_Law_list_1407 : decode M_Law_list.2.1 1407 = .ok (.invokevirtual 41, 3) := by decide +kernel
theorem d_Law_list_1410 : decode M_Law_list.2.1 1410 = .ok (.invokevirtual 44, 3) := by decide +kernel
theorem d_Law_list_1413 : decode M_Law_list.2.1 1413 = .ok (.aastore, 1) := by decide +kernel
theorem d_Law_list_1414 : decode M_Law_list.2.1 1414 = .ok (.astore 12, 2) := by decide +kernel
theorem d_Law_list_1416 : decode M_Law_list.2.1 1416 = .ok (.aload_n 1, 1) := by decide +kernel
theorem d_Law_list_1417 : decode M_Law_list.2.1 1417 = .ok (.aload 12, 2) := by decide +kernel
theorem d_Law_list_1419 : decode M_Law_list.2.1 1419 = .ok (.iload 8, 2) := by decide +kernel
theorem d_Law_list_1421 : decode M_Law_list.2.1 1421 = .ok (.aaload, 1) := by decide +kernel
theorem d_Law_list_1422 : decode M_Law_list.2.1 1422 = .ok (.invokevirtual 37, 3) := by decide +kernel
theorem d_Law_list_1425 : decode M_Law_list.2.1 1425 = .ok (.aload 11, 2) := by decide +kernel
theorem d_Law_list_1427 : decode M_Law_list.2.1 1427 = .ok (.invokestatic 205, 3) := by decide +kernel
theorem d_Law_list_1430 : decode M_Law_list.2.1 1430 = .ok (.invokevirtual 37, 3) := by decide +kernel
theorem d_Law_list_1433 : decode M_Law_list.2.1 1433 = .ok (.ldc 208, 2) := by decide +kernel
theorem d_Law_list_1435 : decode M_Law_list.2.1 1435 = .ok (.invokevirtual 37, 3) := by decide +kernel
theorem d_Law_list_1438 : decode M_Law_list.2.1 1438 = .ok (.pop, 1) := by decide +kernel
theorem d_Law_list_1439 : decode M_Law_list.2.1 1439 = .ok (.iinc 6 1, 3) := by decide +kernel
theorem d_Law_list_1442 : decode M_Law_list.2.1 1442 = .ok (.goto (-444), 3) := by decide +kernel
set_option maxRecDepth 100000 in
set_option maxHeartbeats 4000000 in
theorem li_orders {Γ : G9} {ls : Nat → Nat} {sa n : Nat} {xs : Nat → Int32} {b sim nb m C' S' : Nat} {hb : AH} {Q : QT} {X : XT} {p : List Int32} {n0 : Nat} {n1 : Nat} {n2 : Nat} {n3 : Nat} {n4 : Nat} {r0 : List (Nat → Int32)} {r1 : List (Nat → Int32)} {r2 : List (Nat → Int32)} {r3 : List (Nat → Int32)} {r4 : List (Nat → Int32)} {l5 : List R2} (hk : CsOk Γ) (hp : PrOk Γ) (hdg : DgOk Γ) (hls : LsOk Γ ls) (hao : AoOk Γ) (hsc : ScOk Γ sa n xs) (hn : n < 2 ^ 31) (hat : AtOk Γ) (hnb : 1 ≤ nb ∧ nb ≤ 4) (hm : m ≤ 7) (hpl : p.length ≤ 628) (hn0 : n0 ≤ 4) (hn1 : 1 ≤ n1 ∧ n1 ≤ 4) (hn2 : 1 ≤ n2 ∧ n2 ≤ 4) (hn3 : 1 ≤ n3 ∧ n3 ≤ 4) (hn4 : 1 ≤ n4 ∧ n4 ≤ 4) (kx : ∀ (l : List RO) (h : AH) (z : Nat), l.length = m → (∀ a ∈ l, okOrd nb n1 n2 n3 n4 a) → LX Γ h b hb sim (p ++ tAll tOrd l) (RSF r0 r1 r2 r3 r4 (l.map rOrd)) (CN n0 n1 n2 n3 n4 m) (wF l5) → Go Γ M_Law_list 9 C' S' 1445 [some (.ref sa), some (.ref b), some (.ref sim), some (.int (nI nb)), none, none, none, none, none, none, none, none, none] [] h z Q X) : ∀ (k i : Nat) (l : List RO) (h : AH) (z C S : Nat), i + k = m → l.length = i → (∀ a ∈ l, okOrd nb n1 n2 n3 n4 a) → LX Γ h b hb sim (p ++ tAll tOrd l) (RSF r0 r1 r2 r3 r4 (l.map rOrd)) (CN n0 n1 n2 n3 n4 m) (wF l5) → C' + k * 75 ≤ C → S' + k * 76000 ≤ S → Go Γ M_Law_list 9 C S 998 [some (.ref sa), some (.ref b), some (.ref sim), some (.int (nI nb)), none, none, some (.int (nI i)), none, none, none, none, none, none] [] h z Q X := by
  intro k
  induction k with
  | zero =>
    intro i l h z C S hi hl hok ⟨B, hs, hr, hc, hw, hsim⟩ hC hS
    rw [Nat.zero_mul] at hC hS
    refine Go.room (C' := C') (S' := S') ?_ (Nat.le_refl _) hC hS
    refine Go.iload_6 d_Law_list_998 rfl ?_
    refine Go.aload_2 d_Law_list_1000 rfl ?_
    refine Go.lget (k := 5) d_Law_list_1001 rfl f_Law_184 (by decide) hs hsim ?_
    refine Go.llen d_Law_list_1004 rfl (by decide) hs (n := m) (by rw [hc]; rfl) ?_
    refine Go.icmp_ge (t := 1445) d_Law_list_1005 (by decide) rfl (fun _ => ?_) (fun w => absurd (nI_le (by omega) (by omega)) w)
    refine Go.fgt [some (.ref sa), some (.ref b), some (.ref sim), some (.int (nI nb)), none, none, none, none, none, none, none, none, none] (by repeat' (first | exact trivial | refine ⟨rfl, ?_⟩)) ?_
    exact kx l h z (by omega) hok ⟨B, hs, hr, hc, hw, hsim⟩
  | succ k ih =>
    intro i l h z C S hi hl hok ⟨B, hs, hr, hc, hw, hsim⟩ hC hS
    rw [Nat.succ_mul] at hC hS
    have htl : (tAll tOrd l).length ≤ 71 * i := tAll_len (K := 10) (fun k a => len_tOrd ⟨hnb.2, hn1.2, hn2.2, hn3.2, hn4.2⟩) hl (by omega) hok
    refine Go.iload_6 d_Law_list_998 rfl ?_
    refine Go.aload_2 d_Law_list_1000 rfl ?_
    refine Go.lget (k := 5) d_Law_list_1001 rfl f_Law_184 (by decide) hs hsim ?_
    refine Go.llen d_Law_list_1004 rfl (by decide) hs (n := m) (by rw [hc]; rfl) ?_
    refine Go.icmp_ge (t := 1445) d_Law_list_1005 (by decide) rfl (fun w => absurd w (nI_ge (by omega) (by omega))) (fun _ => ?_)
    refine Go.aload_0 d_Law_list_1008 rfl ?_
    refine Go.bipush (v := 9) d_Law_list_1009 rfl (by decide) ?_
    refine Go.iload_6 d_Law_list_1011 rfl ?_
    refine Go.bipush (v := 7) d_Law_list_1013 rfl (by decide) ?_
    refine Go.irem d_Law_list_1015 rfl (by decide) ?_
    rw [show nI (i) - nI (i) / 7 * 7 = nI (i % 7) from nI_remm (m := 7) (by omega) (by decide) (by decide) rfl]
    refine Go.iadd d_Law_list_1016 rfl ?_
    rw [show (9 : Int32) + nI ((i % 7)) = nI (9 + (i % 7)) from nI_ad _ _]
    refine Go.lcell d_Law_list_1017 rfl hsc hn (k := (9 + (i % 7))) rfl (by omega) rfl (fun x0 => ?_)
    refine Go.iconst (v := 2) d_Law_list_1020 rfl (by decide) ?_
    refine Go.ishr d_Law_list_1021 rfl ?_
    refine Go.istore_7 d_Law_list_1022 rfl (by rfl) ?_
    refine Go.iload_7 d_Law_list_1024 rfl ?_
    refine Go.iconst (v := 5) d_Law_list_1026 rfl (by decide) ?_
    refine Go.lbel d_Law_list_1027 rfl (n := 5) rfl (by omega) (by omega) rfl (fun y1 by1 => ?_)
    refine Go.istore_8 d_Law_list_1030 rfl (by rfl) ?_
    refine Go.iload_7 d_Law_list_1032 rfl ?_
    refine Go.iconst (v := 3) d_Law_list_1034 rfl (by decide) ?_
    refine Go.ishr d_Law_list_1035 rfl ?_
    refine Go.iload_8 d_Law_list_1036 rfl ?_
    refine Go.iconst (v := 2) d_Law_list_1038 rfl (by decide) ?_
    have hC9 : C' + k * 75 ≤ C - 74 - 1 := by omega
    have hS9 : S' + k * 76000 ≤ S - 73598 - 2402 := by
      rw [Nat.sub_sub]
      exact Nat.le_sub_of_add_le (by rw [Nat.add_assoc]; exact hS)
    refine Go.bel3 (q := 1072) (fun y => (y1 = 2 → y < n2) ∧ (y1 = 4 → y < n1) ∧ (y1 ≠ 2 → y1 ≠ 4 → y < n4) ∧ y < 4) (fun y2 by2 => ?_) (fun hkk => ?_)
    rotate_left
    · by_cases e2 : y1 = 2
      · refine Go.icmp_ne (t := 1050) d_Law_list_1039 (by decide) rfl (fun w => absurd (show nI (y1) = 2 by rw [e2]; rfl) w) (fun _ => ?_)
        refine Go.aload_2 d_Law_list_1042 rfl ?_
        refine Go.lget (k := 2) d_Law_list_1043 rfl f_Law_154 (by decide) hs hsim ?_
        refine Go.llen d_Law_list_1046 rfl (by decide) hs (n := n2) (by rw [hc]; rfl) ?_
        refine Go.goto (t := 1069) d_Law_list_1047 (by decide) ?_
        exact Go.lbel d_Law_list_1069 rfl (n := n2) rfl (by omega) (by omega) rfl (fun y by_ => hkk y ⟨fun _ => by_, fun w => absurd (e2.symm.trans w) (by decide), fun w => absurd e2 w, by omega⟩)
      · refine Go.icmp_ne (t := 1050) d_Law_list_1039 (by decide) rfl (fun _ => ?_) (fun w => absurd (nI_eqn (a := y1) (c := 2) (by omega) (by decide) w) e2)
        refine Go.iload_8 d_Law_list_1050 rfl ?_
        refine Go.iconst (v := 4) d_Law_list_1052 rfl (by decide) ?_
        by_cases e4 : y1 = 4
        · refine Go.icmp_ne (t := 1064) d_Law_list_1053 (by decide) rfl (fun w => absurd (show nI (y1) = 4 by rw [e4]; rfl) w) (fun _ => ?_)
          refine Go.aload_2 d_Law_list_1056 rfl ?_
          refine Go.lget (k := 1) d_Law_list_1057 rfl f_Law_145 (by decide) hs hsim ?_
          refine Go.llen d_Law_list_1060 rfl (by decide) hs (n := n1) (by rw [hc]; rfl) ?_
          refine Go.goto (t := 1069) d_Law_list_1061 (by decide) ?_
          exact Go.lbel d_Law_list_1069 rfl (n := n1) rfl (by omega) (by omega) rfl (fun y by_ => hkk y ⟨fun w => absurd w e2, fun _ => by_, fun _ w => absurd e4 w, by omega⟩)
        · refine Go.icmp_ne (t := 1064) d_Law_list_1053 (by decide) rfl (fun _ => ?_) (fun w => absurd (nI_eqn (a := y1) (c := 4) (by omega) (by decide) w) e4)
          refine Go.aload_2 d_Law_list_1064 rfl ?_
          refine Go.lget (k := 4) d_Law_list_1065 rfl f_Law_170 (by decide) hs hsim ?_
          refine Go.llen d_Law_list_1068 rfl (by decide) hs (n := n4) (by rw [hc]; rfl) ?_
          exact Go.lbel d_Law_list_1069 rfl (n := n4) rfl (by omega) (by omega) rfl (fun y by_ => hkk y ⟨fun w => absurd w e2, fun w => absurd w e4, fun _ _ => by_, by omega⟩)
    have cy2 := by2.2.2.2
    refine Go.istore_9 d_Law_list_1072 rfl (by rfl) ?_
    refine Go.iload_7 d_Law_list_1074 rfl ?_
    refine Go.iconst (v := 4) d_Law_list_1076 rfl (by decide) ?_
    refine Go.ishr d_Law_list_1077 rfl ?_
    refine Go.bipush (v := 9) d_Law_list_1078 rfl (by decide) ?_
    refine Go.lbel d_Law_list_1080 rfl (n := 9) rfl (by omega) (by omega) rfl (fun y3 by3 => ?_)
    refine Go.istore_10 d_Law_list_1083 rfl (by rfl) ?_
    refine Go.bipush (v := 12) d_Law_list_1085 rfl (by decide) ?_
    refine Go.low (fun hlow => ?_)
    refine Go.lnewI (C1 := C - 1) (S1 := S - 12) (N := 12) d_Law_list_1087 rfl rfl (by decide) (by omega) (by omega) ?_
    refine Go.dup d_Law_list_1089 rfl rfl ?_
    refine Go.iconst (v := 0) d_Law_list_1090 rfl (by decide) ?_
    refine Go.iload_8 d_Law_list_1091 rfl ?_
    refine Go.lini d_Law_list_1093 rfl (j := 0) rfl (by decide) (by decide) ?_
    refine Go.dup d_Law_list_1094 rfl rfl ?_
    refine Go.iconst (v := 1) d_Law_list_1095 rfl (by decide) ?_
    refine Go.iload_9 d_Law_list_1096 rfl ?_
    refine Go.lini d_Law_list_1098 rfl (j := 1) rfl (by decide) (by decide) ?_
    refine Go.dup d_Law_list_1099 rfl rfl ?_
    refine Go.iconst (v := 2) d_Law_list_1100 rfl (by decide) ?_
    refine Go.iload_7 d_Law_list_1101 rfl ?_
    refine Go.iconst (v := 5) d_Law_list_1103 rfl (by decide) ?_
    refine Go.ishr d_Law_list_1104 rfl ?_
    refine Go.aload_2 d_Law_list_1105 rfl ?_
    refine Go.lget (k := 4) d_Law_list_1106 rfl f_Law_170 (by decide) (hs.ext (Ext.up (hlow _ (Nat.le_refl _)))) hsim ?_
    refine Go.llen d_Law_list_1109 rfl (by decide) (hs.ext (Ext.up (hlow _ (Nat.le_refl _)))) (n := n4) (by rw [hc]; rfl) ?_
    refine Go.lbel d_Law_list_1110 rfl (n := n4) rfl (by omega) (by omega) rfl (fun y4 by4 => ?_)
    refine Go.lini d_Law_list_1113 rfl (j := 2) rfl (by decide) (by decide) ?_
    refine Go.dup d_Law_list_1114 rfl rfl ?_
    refine Go.iconst (v := 3) d_Law_list_1115 rfl (by decide) ?_
    refine Go.iload_7 d_Law_list_1116 rfl ?_
    refine Go.iconst (v := 2) d_Law_list_1118 rfl (by decide) ?_
    refine Go.ishr d_Law_list_1119 rfl ?_
    refine Go.bipush (v := 8) d_Law_list_1120 rfl (by decide) ?_
    refine Go.lbel d_Law_list_1122 rfl (n := 8) rfl (by omega) (by omega) rfl (fun y5 by5 => ?_)
    refine Go.lini d_Law_list_1125 rfl (j := 3) rfl (by decide) (by decide) ?_
    refine Go.dup d_Law_list_1126 rfl rfl ?_
    refine Go.iconst (v := 4) d_Law_list_1127 rfl (by decide) ?_
    refine Go.iload_7 d_Law_list_1128 rfl ?_
    refine Go.iconst (v := 3) d_Law_list_1130 rfl (by decide) ?_
    refine Go.ishr d_Law_list_1131 rfl ?_
    refine Go.bipush (v := 12) d_Law_list_1132 rfl (by decide) ?_
    refine Go.lbel d_Law_list_1134 rfl (n := 12) rfl (by omega) (by omega) rfl (fun y6 by6 => ?_)
    refine Go.lini d_Law_list_1137 rfl (j := 4) rfl (by decide) (by decide) ?_
    refine Go.dup d_Law_list_1138 rfl rfl ?_
    refine Go.iconst (v := 5) d_Law_list_1139 rfl (by decide) ?_
    refine Go.iload_8 d_Law_list_1140 rfl ?_
    refine Go.iconst (v := 3) d_Law_list_1142 rfl (by decide) ?_
    refine Go.bel5 (q := 1164) (fun x => (x = -1 ∧ y1 = 3) ∨ x = nI (y3)) (fun x5 bx5 => ?_) (fun hkk => ?_)
    rotate_left
    · by_cases e3 : y1 = 3
      · refine Go.icmp_ne (t := 1162) d_Law_list_1143 (by decide) rfl (fun w => absurd (show nI (y1) = 3 by rw [e3]; rfl) w) (fun _ => ?_)
        refine Go.iload_7 d_Law_list_1146 rfl ?_
        refine Go.bipush (v := 6) d_Law_list_1148 rfl (by decide) ?_
        refine Go.ishr d_Law_list_1150 rfl ?_
        refine Go.iconst (v := 3) d_Law_list_1151 rfl (by decide) ?_
        refine Go.lbel d_Law_list_1152 rfl (n := 3) rfl (by omega) (by omega) rfl (fun y7 by7 => ?_)
        refine Go.if_ne (t := 1162) d_Law_list_1155 (by decide) rfl (fun _ => ?_) (fun _ => ?_)
        · skip
          refine Go.iload_10 d_Law_list_1162 rfl ?_
          exact hkk _ (Or.inr rfl)
        · skip
          refine Go.iconst (v := (-1)) d_Law_list_1158 rfl (by decide) ?_
          refine Go.goto (t := 1164) d_Law_list_1159 (by decide) ?_
          exact hkk _ (Or.inl ⟨rfl, e3⟩)
      · refine Go.icmp_ne (t := 1162) d_Law_list_1143 (by decide) rfl (fun _ => ?_) (fun w => absurd (nI_eqn (a := y1) (c := 3) (by omega) (by decide) w) e3)
        refine Go.iload_10 d_Law_list_1162 rfl ?_
        exact hkk _ (Or.inr rfl)
    refine Go.lini d_Law_list_1164 rfl (j := 5) rfl (by decide) (by decide) ?_
    refine Go.dup d_Law_list_1165 rfl rfl ?_
    refine Go.bipush (v := 6) d_Law_list_1166 rfl (by decide) ?_
    refine Go.iload_7 d_Law_list_1168 rfl ?_
    refine Go.iconst (v := 5) d_Law_list_1170 rfl (by decide) ?_
    refine Go.ishr d_Law_list_1171 rfl ?_
    refine Go.bipush (v := 9) d_Law_list_1172 rfl (by decide) ?_
    refine Go.lbel d_Law_list_1174 rfl (n := 9) rfl (by omega) (by omega) rfl (fun y8 by8 => ?_)
    refine Go.lini d_Law_list_1177 rfl (j := 6) rfl (by decide) (by decide) ?_
    refine Go.dup d_Law_list_1178 rfl rfl ?_
    refine Go.bipush (v := 7) d_Law_list_1179 rfl (by decide) ?_
    refine Go.iload_7 d_Law_list_1181 rfl ?_
    refine Go.bipush (v := 7) d_Law_list_1183 rfl (by decide) ?_
    refine Go.ishr d_Law_list_1185 rfl ?_
    refine Go.aload_2 d_Law_list_1186 rfl ?_
    refine Go.lget (k := 1) d_Law_list_1187 rfl f_Law_145 (by decide) (hs.ext (Ext.up (hlow _ (Nat.le_refl _)))) hsim ?_
    refine Go.llen d_Law_list_1190 rfl (by decide) (hs.ext (Ext.up (hlow _ (Nat.le_refl _)))) (n := n1) (by rw [hc]; rfl) ?_
    refine Go.lbel d_Law_list_1191 rfl (n := n1) rfl (by omega) (by omega) rfl (fun y9 by9 => ?_)
    refine Go.lini d_Law_list_1194 rfl (j := 7) rfl (by decide) (by decide) ?_
    refine Go.dup d_Law_list_1195 rfl rfl ?_
    refine Go.bipush (v := 8) d_Law_list_1196 rfl (by decide) ?_
    refine Go.iload_7 d_Law_list_1198 rfl ?_
    refine Go.bipush (v := 6) d_Law_list_1200 rfl (by decide) ?_
    refine Go.ishr d_Law_list_1202 rfl ?_
    refine Go.aload_2 d_Law_list_1203 rfl ?_
    refine Go.lget (k := 2) d_Law_list_1204 rfl f_Law_154 (by decide) (hs.ext (Ext.up (hlow _ (Nat.le_refl _)))) hsim ?_
    refine Go.llen d_Law_list_1207 rfl (by decide) (hs.ext (Ext.up (hlow _ (Nat.le_refl _)))) (n := n2) (by rw [hc]; rfl) ?_
    refine Go.lbel d_Law_list_1208 rfl (n := n2) rfl (by omega) (by omega) rfl (fun y10 by10 => ?_)
    refine Go.lini d_Law_list_1211 rfl (j := 8) rfl (by decide) (by decide) ?_
    refine Go.dup d_Law_list_1212 rfl rfl ?_
    refine Go.bipush (v := 9) d_Law_list_1213 rfl (by decide) ?_
    refine Go.iload_7 d_Law_list_1215 rfl ?_
    refine Go.bipush (v := 8) d_Law_list_1217 rfl (by decide) ?_
    refine Go.ishr d_Law_list_1219 rfl ?_
    refine Go.aload_2 d_Law_list_1220 rfl ?_
    refine Go.lget (k := 4) d_Law_list_1221 rfl f_Law_170 (by decide) (hs.ext (Ext.up (hlow _ (Nat.le_refl _)))) hsim ?_
    refine Go.llen d_Law_list_1224 rfl (by decide) (hs.ext (Ext.up (hlow _ (Nat.le_refl _)))) (n := n4) (by rw [hc]; rfl) ?_
    refine Go.lbel d_Law_list_1225 rfl (n := n4) rfl (by omega) (by omega) rfl (fun y11 by11 => ?_)
    refine Go.lini d_Law_list_1228 rfl (j := 9) rfl (by decide) (by decide) ?_
    refine Go.dup d_Law_list_1229 rfl rfl ?_
    refine Go.bipush (v := 10) d_Law_list_1230 rfl (by decide) ?_
    refine Go.iload_7 d_Law_list_1232 rfl ?_
    refine Go.bipush (v := 9) d_Law_list_1234 rfl (by decide) ?_
    refine Go.ishr d_Law_list_1236 rfl ?_
    refine Go.aload_2 d_Law_list_1237 rfl ?_
    refine Go.lget (k := 3) d_Law_list_1238 rfl f_Law_163 (by decide) (hs.ext (Ext.up (hlow _ (Nat.le_refl _)))) hsim ?_
    refine Go.llen d_Law_list_1241 rfl (by decide) (hs.ext (Ext.up (hlow _ (Nat.le_refl _)))) (n := n3) (by rw [hc]; rfl) ?_
    refine Go.lbel d_Law_list_1242 rfl (n := n3) rfl (by omega) (by omega) rfl (fun y12 by12 => ?_)
    refine Go.lini d_Law_list_1245 rfl (j := 10) rfl (by decide) (by decide) ?_
    refine Go.dup d_Law_list_1246 rfl rfl ?_
    refine Go.bipush (v := 11) d_Law_list_1247 rfl (by decide) ?_
    refine Go.iload_7 d_Law_list_1249 rfl ?_
    refine Go.bipush (v := 7) d_Law_list_1251 rfl (by decide) ?_
    refine Go.ishr d_Law_list_1253 rfl ?_
    refine Go.iload_3 d_Law_list_1254 rfl ?_
    refine Go.lbel d_Law_list_1255 rfl (n := nb) rfl (by omega) (by omega) rfl (fun y13 by13 => ?_)
    refine Go.lini d_Law_list_1258 rfl (j := 11) rfl (by decide) (by decide) ?_
    refine Go.heq (congrArg (fun f => hup h z (aI Γ 12 f)) rOrd_eq) ?_
    have hob : ∀ j, oF ([y1, y2, y4, y5, y6, 0, y8, y9, y10, y11, y12, y13], x5) j < 100 := by
      intro j
      match j with
      | 0 => show y1 < 100; omega
      | 1 => show y2 < 100; omega
      | 2 => show y4 < 100; omega
      | 3 => show y5 < 100; omega
      | 4 => show y6 < 100; omega
      | 5 => show 0 < 100; omega
      | 6 => show y8 < 100; omega
      | 7 => show y9 < 100; omega
      | 8 => show y10 < 100; omega
      | 9 => show y11 < 100; omega
      | 10 => show y12 < 100; omega
      | 11 => show y13 < 100; omega
      | k + 12 => exact (by decide : (0 : Nat) < 100)
    have h5 : o5Ok x5 := o5_of (by omega) bx5
    have hoo : okOrd nb n1 n2 n3 n4 ([y1, y2, y4, y5, y6, 0, y8, y9, y10, y11, y12, y13], x5) := ⟨hob, (show y1 < 5 by omega), by2.1, by2.2.1, by2.2.2.1, (show y2 < 10 by omega), by4, by5, by6, h5, (fun w => bx5.elim (fun e => e.2) (fun e => absurd (e.symm.trans w) (nI_nm1 (by omega)))), by8, by9, by10, by11, by12, by13⟩
    have hoF : ∀ j, j ≠ 5 → rOrd ([y1, y2, y4, y5, y6, 0, y8, y9, y10, y11, y12, y13], x5) j = nI (oF ([y1, y2, y4, y5, y6, 0, y8, y9, y10, y11, y12, y13], x5) j) := fun j hj => if_neg hj
    refine Go.astore_11 d_Law_list_1259 rfl (by rfl) ?_
    refine Go.aload_2 d_Law_list_1261 rfl ?_
    refine Go.lget (k := 5) d_Law_list_1262 rfl f_Law_184 (by decide) (hs.ext (Ext.up (hlow _ (Nat.le_refl _)))) hsim ?_
    refine Go.iload_6 d_Law_list_1265 rfl ?_
    refine Go.aload_11 d_Law_list_1267 rfl ?_
    refine Go.laas2 (k := 5) d_Law_list_1269 rfl hao hs hsim hlow (by decide) (i := i) rfl (by rw [hr]; exact (List.length_map ..).trans hl) (by rw [hc]; show i < m; omega) (by rw [hc]; show m < 100; omega) (fun h B hs e1 hc1 hw1 hsim hlen hf ea => ?_)
    rw [← ea]
    have hc := hc1.trans hc
    have hw := hw1.trans hw
    have hr : b_rs B = RSF r0 r1 r2 r3 r4 ((l ++ [([y1, y2, y4, y5, y6, 0, y8, y9, y10, y11, y12, y13], x5)]).map rOrd) := by
      rw [e1, hr, RS_row5, List.map_append]
      rfl
    have ho := hs.row (k := 5) (r := i) (by decide) (by omega)
    rw [hf] at ho
    have ho : h (b_ad B 5 i) = some (aI Γ 12 (rOrd ([y1, y2, y4, y5, y6, 0, y8, y9, y10, y11, y12, y13], x5))) := ho
    have dy := dec_1 (show y2 < 10 by omega)
    have du := dec_1 (show y4 < 10 by omega)
    have lsm := len_sumT hob ⟨(show y9 < 4 by omega), (show y10 < 4 by omega), (show y11 < 4 by omega), (show y12 < 4 by omega), (show y13 < 4 by omega)⟩
    refine Go.iconst (v := 5) d_Law_list_1270 rfl (by decide) ?_
    have hbE : Ext hb hb := Ext.rf
    obtain ⟨hb0, eb0⟩ : ∃ hb0, hb0 = hb := ⟨hb, rfl⟩
    rw [← eb0] at hbE
    refine Go.lwn d_Law_list_1271 rfl xq_T16 hat hs (by omega) (by omega) (fun w h hb z hs hwd hx h0w => ?_)
    rw [← eb0] at hx h0w
    replace ho := hs.row (k := 5) (r := i) (by decide) (by omega)
    rw [hf] at ho
    have ho : h (b_ad B 5 i) = some (aI Γ 12 (rOrd ([y1, y2, y4, y5, y6, 0, y8, y9, y10, y11, y12, y13], x5))) := ho
    refine Go.dup d_Law_list_1274 rfl rfl ?_
    refine Go.iconst (v := 0) d_Law_list_1275 rfl (by decide) ?_
    refine Go.lsb d_Law_list_1276 d_Law_list_1279 d_Law_list_1280 rfl hk rfl (by omega) (by omega) (fun b2 h9 z9 hsb => ?_)
    refine Go.ldcS d_Law_list_1283 rfl rfl (hls.t187).1 ?_
    refine Go.lsa d_Law_list_1285 rfl hk hp hsb (Or.inl (hls.t187).2) LB_tx187 (by simp only [List.length_append, List.length_nil, len_tx35, len_tx48, len_tx50, len_tx52, len_tx54, len_tx56, len_tx58, len_tx60, len_tx62, len_tx64, len_tx66, len_tx68, len_tx70, len_tx72, len_tx74, len_tx76, len_tx78, len_tx80, len_tx82, len_tx84, len_tx86, len_tx88, len_tx90, len_tx92, len_tx94, len_tx96, len_tx98, len_tx100, len_tx102, len_tx104, len_tx106, len_tx108, len_tx110, len_tx112, len_tx114, len_tx135, len_tx137, len_tx139, len_tx141, len_tx143, len_tx148, len_tx150, len_tx152, len_tx157, len_tx159, len_tx161, len_tx166, len_tx168, len_tx173, len_tx175, len_tx180, len_tx182, len_tx187, len_tx189, len_tx191, len_tx193, len_tx195, len_tx197, len_tx203, len_tx208]; omega) rfl (by omega) (by omega) (fun h9 z9 hsb => ?_)
    refine Go.iload_9 d_Law_list_1288 rfl ?_
    refine Go.lsi (v := y2) d_Law_list_1290 rfl hk hp hdg hsb (by omega) (by simp only [List.length_append, List.length_nil, len_tx35, len_tx48, len_tx50, len_tx52, len_tx54, len_tx56, len_tx58, len_tx60, len_tx62, len_tx64, len_tx66, len_tx68, len_tx70, len_tx72, len_tx74, len_tx76, len_tx78, len_tx80, len_tx82, len_tx84, len_tx86, len_tx88, len_tx90, len_tx92, len_tx94, len_tx96, len_tx98, len_tx100, len_tx102, len_tx104, len_tx106, len_tx108, len_tx110, len_tx112, len_tx114, len_tx135, len_tx137, len_tx139, len_tx141, len_tx143, len_tx148, len_tx150, len_tx152, len_tx157, len_tx159, len_tx161, len_tx166, len_tx168, len_tx173, len_tx175, len_tx180, len_tx182, len_tx187, len_tx189, len_tx191, len_tx193, len_tx195, len_tx197, len_tx203, len_tx208]; omega) rfl (by omega) (by omega) (fun h9 z9 hsb => ?_)
    refine Go.lts d_Law_list_1293 rfl hk hsb (by simp only [List.length_append, List.length_nil, len_tx35, len_tx48, len_tx50, len_tx52, len_tx54, len_tx56, len_tx58, len_tx60, len_tx62, len_tx64, len_tx66, len_tx68, len_tx70, len_tx72, len_tx74, len_tx76, len_tx78, len_tx80, len_tx82, len_tx84, len_tx86, len_tx88, len_tx90, len_tx92, len_tx94, len_tx96, len_tx98, len_tx100, len_tx102, len_tx104, len_tx106, len_tx108, len_tx110, len_tx112, len_tx114, len_tx135, len_tx137, len_tx139, len_tx141, len_tx143, len_tx148, len_tx150, len_tx152, len_tx157, len_tx159, len_tx161, len_tx166, len_tx168, len_tx173, len_tx175, len_tx180, len_tx182, len_tx187, len_tx189, len_tx191, len_tx193, len_tx195, len_tx197, len_tx203, len_tx208]; omega) rfl (by omega) (by omega) (fun c9 h9 z9 he9 hst9 => ?_)
    refine Go.lwd d_Law_list_1296 rfl hs hwd hx h0w he9 hst9 rfl (Nat.le_of_ble_eq_true rfl) (fun h hb f hs hwd hx => ?_)
    clear he9 hst9 hsb
    refine Go.room (C' := C - 8) (S' := S - 4945) ?_ (Nat.le_refl _) (by omega) (by omega)
    replace ho := hs.row (k := 5) (r := i) (by decide) (by omega)
    rw [hf] at ho
    have ho : h (b_ad B 5 i) = some (aI Γ 12 (rOrd ([y1, y2, y4, y5, y6, 0, y8, y9, y10, y11, y12, y13], x5))) := ho
    refine Go.dup d_Law_list_1297 rfl rfl ?_
    refine Go.iconst (v := 1) d_Law_list_1298 rfl (by decide) ?_
    refine Go.lsb d_Law_list_1299 d_Law_list_1302 d_Law_list_1303 rfl hk rfl (by omega) (by omega) (fun b2 h9 z9 hsb => ?_)
    refine Go.ldcS d_Law_list_1306 rfl rfl (hls.t189).1 ?_
    refine Go.lsa d_Law_list_1308 rfl hk hp hsb (Or.inl (hls.t189).2) LB_tx189 (by simp only [List.length_append, List.length_nil, len_tx35, len_tx48, len_tx50, len_tx52, len_tx54, len_tx56, len_tx58, len_tx60, len_tx62, len_tx64, len_tx66, len_tx68, len_tx70, len_tx72, len_tx74, len_tx76, len_tx78, len_tx80, len_tx82, len_tx84, len_tx86, len_tx88, len_tx90, len_tx92, len_tx94, len_tx96, len_tx98, len_tx100, len_tx102, len_tx104, len_tx106, len_tx108, len_tx110, len_tx112, len_tx114, len_tx135, len_tx137, len_tx139, len_tx141, len_tx143, len_tx148, len_tx150, len_tx152, len_tx157, len_tx159, len_tx161, len_tx166, len_tx168, len_tx173, len_tx175, len_tx180, len_tx182, len_tx187, len_tx189, len_tx191, len_tx193, len_tx195, len_tx197, len_tx203, len_tx208]; omega) rfl (by omega) (by omega) (fun h9 z9 hsb => ?_)
    refine Go.iload_9 d_Law_list_1311 rfl ?_
    refine Go.lsi (v := y2) d_Law_list_1313 rfl hk hp hdg hsb (by omega) (by simp only [List.length_append, List.length_nil, len_tx35, len_tx48, len_tx50, len_tx52, len_tx54, len_tx56, len_tx58, len_tx60, len_tx62, len_tx64, len_tx66, len_tx68, len_tx70, len_tx72, len_tx74, len_tx76, len_tx78, len_tx80, len_tx82, len_tx84, len_tx86, len_tx88, len_tx90, len_tx92, len_tx94, len_tx96, len_tx98, len_tx100, len_tx102, len_tx104, len_tx106, len_tx108, len_tx110, len_tx112, len_tx114, len_tx135, len_tx137, len_tx139, len_tx141, len_tx143, len_tx148, len_tx150, len_tx152, len_tx157, len_tx159, len_tx161, len_tx166, len_tx168, len_tx173, len_tx175, len_tx180, len_tx182, len_tx187, len_tx189, len_tx191, len_tx193, len_tx195, len_tx197, len_tx203, len_tx208]; omega) rfl (by omega) (by omega) (fun h9 z9 hsb => ?_)
    refine Go.lts d_Law_list_1316 rfl hk hsb (by simp only [List.length_append, List.length_nil, len_tx35, len_tx48, len_tx50, len_tx52, len_tx54, len_tx56, len_tx58, len_tx60, len_tx62, len_tx64, len_tx66, len_tx68, len_tx70, len_tx72, len_tx74, len_tx76, len_tx78, len_tx80, len_tx82, len_tx84, len_tx86, len_tx88, len_tx90, len_tx92, len_tx94, len_tx96, len_tx98, len_tx100, len_tx102, len_tx104, len_tx106, len_tx108, len_tx110, len_tx112, len_tx114, len_tx135, len_tx137, len_tx139, len_tx141, len_tx143, len_tx148, len_tx150, len_tx152, len_tx157, len_tx159, len_tx161, len_tx166, len_tx168, len_tx173, len_tx175, len_tx180, len_tx182, len_tx187, len_tx189, len_tx191, len_tx193, len_tx195, len_tx197, len_tx203, len_tx208]; omega) rfl (by omega) (by omega) (fun c9 h9 z9 he9 hst9 => ?_)
    refine Go.lwd d_Law_list_1319 rfl hs hwd hx h0w he9 hst9 rfl (Nat.le_of_ble_eq_true rfl) (fun h hb f hs hwd hx => ?_)
    clear he9 hst9 hsb
    refine Go.room (C' := C - 14) (S' := S - 9873) ?_ (Nat.le_refl _) (by omega) (by omega)
    replace ho := hs.row (k := 5) (r := i) (by decide) (by omega)
    rw [hf] at ho
    have ho : h (b_ad B 5 i) = some (aI Γ 12 (rOrd ([y1, y2, y4, y5, y6, 0, y8, y9, y10, y11, y12, y13], x5))) := ho
    refine Go.dup d_Law_list_1320 rfl rfl ?_
    refine Go.iconst (v := 2) d_Law_list_1321 rfl (by decide) ?_
    refine Go.lsb d_Law_list_1322 d_Law_list_1325 d_Law_list_1326 rfl hk rfl (by omega) (by omega) (fun b2 h9 z9 hsb => ?_)
    refine Go.ldcS d_Law_list_1329 rfl rfl (hls.t191).1 ?_
    refine Go.lsa d_Law_list_1331 rfl hk hp hsb (Or.inl (hls.t191).2) LB_tx191 (by simp only [List.length_append, List.length_nil, len_tx35, len_tx48, len_tx50, len_tx52, len_tx54, len_tx56, len_tx58, len_tx60, len_tx62, len_tx64, len_tx66, len_tx68, len_tx70, len_tx72, len_tx74, len_tx76, len_tx78, len_tx80, len_tx82, len_tx84, len_tx86, len_tx88, len_tx90, len_tx92, len_tx94, len_tx96, len_tx98, len_tx100, len_tx102, len_tx104, len_tx106, len_tx108, len_tx110, len_tx112, len_tx114, len_tx135, len_tx137, len_tx139, len_tx141, len_tx143, len_tx148, len_tx150, len_tx152, len_tx157, len_tx159, len_tx161, len_tx166, len_tx168, len_tx173, len_tx175, len_tx180, len_tx182, len_tx187, len_tx189, len_tx191, len_tx193, len_tx195, len_tx197, len_tx203, len_tx208]; omega) rfl (by omega) (by omega) (fun h9 z9 hsb => ?_)
    refine Go.iload_9 d_Law_list_1334 rfl ?_
    refine Go.lsi (v := y2) d_Law_list_1336 rfl hk hp hdg hsb (by omega) (by simp only [List.length_append, List.length_nil, len_tx35, len_tx48, len_tx50, len_tx52, len_tx54, len_tx56, len_tx58, len_tx60, len_tx62, len_tx64, len_tx66, len_tx68, len_tx70, len_tx72, len_tx74, len_tx76, len_tx78, len_tx80, len_tx82, len_tx84, len_tx86, len_tx88, len_tx90, len_tx92, len_tx94, len_tx96, len_tx98, len_tx100, len_tx102, len_tx104, len_tx106, len_tx108, len_tx110, len_tx112, len_tx114, len_tx135, len_tx137, len_tx139, len_tx141, len_tx143, len_tx148, len_tx150, len_tx152, len_tx157, len_tx159, len_tx161, len_tx166, len_tx168, len_tx173, len_tx175, len_tx180, len_tx182, len_tx187, len_tx189, len_tx191, len_tx193, len_tx195, len_tx197, len_tx203, len_tx208]; omega) rfl (by omega) (by omega) (fun h9 z9 hsb => ?_)
    refine Go.ldcS d_Law_list_1339 rfl rfl (hls.t193).1 ?_
    refine Go.lsa d_Law_list_1341 rfl hk hp hsb (Or.inl (hls.t193).2) LB_tx193 (by simp only [List.length_append, List.length_nil, len_tx35, len_tx48, len_tx50, len_tx52, len_tx54, len_tx56, len_tx58, len_tx60, len_tx62, len_tx64, len_tx66, len_tx68, len_tx70, len_tx72, len_tx74, len_tx76, len_tx78, len_tx80, len_tx82, len_tx84, len_tx86, len_tx88, len_tx90, len_tx92, len_tx94, len_tx96, len_tx98, len_tx100, len_tx102, len_tx104, len_tx106, len_tx108, len_tx110, len_tx112, len_tx114, len_tx135, len_tx137, len_tx139, len_tx141, len_tx143, len_tx148, len_tx150, len_tx152, len_tx157, len_tx159, len_tx161, len_tx166, len_tx168, len_tx173, len_tx175, len_tx180, len_tx182, len_tx187, len_tx189, len_tx191, len_tx193, len_tx195, len_tx197, len_tx203, len_tx208]; omega) rfl (by omega) (by omega) (fun h9 z9 hsb => ?_)
    refine Go.aload_11 d_Law_list_1344 rfl ?_
    refine Go.iconst (v := 2) d_Law_list_1346 rfl (by decide) ?_
    refine Go.iaload d_Law_list_1347 rfl (hsb.rd _ _ ho) (okI_in (by decide)) ?_
    rw [show (2 : Int32).toNatClampNeg = 2 from by decide, hoF 2 (by decide)]
    have du : (dec (oF ([y1, y2, y4, y5, y6, 0, y8, y9, y10, y11, y12, y13], x5) 2)).length = 1 := du
    refine Go.lsi (v := oF ([y1, y2, y4, y5, y6, 0, y8, y9, y10, y11, y12, y13], x5) 2) d_Law_list_1348 rfl hk hp hdg hsb (Nat.lt_trans (hob 2) (by decide)) (by simp only [List.length_append, List.length_nil, len_tx35, len_tx48, len_tx50, len_tx52, len_tx54, len_tx56, len_tx58, len_tx60, len_tx62, len_tx64, len_tx66, len_tx68, len_tx70, len_tx72, len_tx74, len_tx76, len_tx78, len_tx80, len_tx82, len_tx84, len_tx86, len_tx88, len_tx90, len_tx92, len_tx94, len_tx96, len_tx98, len_tx100, len_tx102, len_tx104, len_tx106, len_tx108, len_tx110, len_tx112, len_tx114, len_tx135, len_tx137, len_tx139, len_tx141, len_tx143, len_tx148, len_tx150, len_tx152, len_tx157, len_tx159, len_tx161, len_tx166, len_tx168, len_tx173, len_tx175, len_tx180, len_tx182, len_tx187, len_tx189, len_tx191, len_tx193, len_tx195, len_tx197, len_tx203, len_tx208]; omega) rfl (by omega) (by omega) (fun h9 z9 hsb => ?_)
    refine Go.lts d_Law_list_1351 rfl hk hsb (by simp only [List.length_append, List.length_nil, len_tx35, len_tx48, len_tx50, len_tx52, len_tx54, len_tx56, len_tx58, len_tx60, len_tx62, len_tx64, len_tx66, len_tx68, len_tx70, len_tx72, len_tx74, len_tx76, len_tx78, len_tx80, len_tx82, len_tx84, len_tx86, len_tx88, len_tx90, len_tx92, len_tx94, len_tx96, len_tx98, len_tx100, len_tx102, len_tx104, len_tx106, len_tx108, len_tx110, len_tx112, len_tx114, len_tx135, len_tx137, len_tx139, len_tx141, len_tx143, len_tx148, len_tx150, len_tx152, len_tx157, len_tx159, len_tx161, len_tx166, len_tx168, len_tx173, len_tx175, len_tx180, len_tx182, len_tx187, len_tx189, len_tx191, len_tx193, len_tx195, len_tx197, len_tx203, len_tx208]; omega) rfl (by omega) (by omega) (fun c9 h9 z9 he9 hst9 => ?_)
    refine Go.lwd d_Law_list_1354 rfl hs hwd hx h0w he9 hst9 rfl (Nat.le_of_ble_eq_true rfl) (fun h hb f hs hwd hx => ?_)
    clear he9 hst9 hsb
    refine Go.room (C' := C - 22) (S' := S - 19605) ?_ (Nat.le_refl _) (by omega) (by omega)
    replace ho := hs.row (k := 5) (r := i) (by decide) (by omega)
    rw [hf] at ho
    have ho : h (b_ad B 5 i) = some (aI Γ 12 (rOrd ([y1, y2, y4, y5, y6, 0, y8, y9, y10, y11, y12, y13], x5))) := ho
    refine Go.dup d_Law_list_1355 rfl rfl ?_
    refine Go.iconst (v := 3) d_Law_list_1356 rfl (by decide) ?_
    refine Go.lsb d_Law_list_1357 d_Law_list_1360 d_Law_list_1361 rfl hk rfl (by omega) (by omega) (fun b2 h9 z9 hsb => ?_)
    refine Go.ldcS d_Law_list_1364 rfl rfl (hls.t195).1 ?_
    refine Go.lsa d_Law_list_1366 rfl hk hp hsb (Or.inl (hls.t195).2) LB_tx195 (by simp only [List.length_append, List.length_nil, len_tx35, len_tx48, len_tx50, len_tx52, len_tx54, len_tx56, len_tx58, len_tx60, len_tx62, len_tx64, len_tx66, len_tx68, len_tx70, len_tx72, len_tx74, len_tx76, len_tx78, len_tx80, len_tx82, len_tx84, len_tx86, len_tx88, len_tx90, len_tx92, len_tx94, len_tx96, len_tx98, len_tx100, len_tx102, len_tx104, len_tx106, len_tx108, len_tx110, len_tx112, len_tx114, len_tx135, len_tx137, len_tx139, len_tx141, len_tx143, len_tx148, len_tx150, len_tx152, len_tx157, len_tx159, len_tx161, len_tx166, len_tx168, len_tx173, len_tx175, len_tx180, len_tx182, len_tx187, len_tx189, len_tx191, len_tx193, len_tx195, len_tx197, len_tx203, len_tx208]; omega) rfl (by omega) (by omega) (fun h9 z9 hsb => ?_)
    refine Go.iload_9 d_Law_list_1369 rfl ?_
    refine Go.lsi (v := y2) d_Law_list_1371 rfl hk hp hdg hsb (by omega) (by simp only [List.length_append, List.length_nil, len_tx35, len_tx48, len_tx50, len_tx52, len_tx54, len_tx56, len_tx58, len_tx60, len_tx62, len_tx64, len_tx66, len_tx68, len_tx70, len_tx72, len_tx74, len_tx76, len_tx78, len_tx80, len_tx82, len_tx84, len_tx86, len_tx88, len_tx90, len_tx92, len_tx94, len_tx96, len_tx98, len_tx100, len_tx102, len_tx104, len_tx106, len_tx108, len_tx110, len_tx112, len_tx114, len_tx135, len_tx137, len_tx139, len_tx141, len_tx143, len_tx148, len_tx150, len_tx152, len_tx157, len_tx159, len_tx161, len_tx166, len_tx168, len_tx173, len_tx175, len_tx180, len_tx182, len_tx187, len_tx189, len_tx191, len_tx193, len_tx195, len_tx197, len_tx203, len_tx208]; omega) rfl (by omega) (by omega) (fun h9 z9 hsb => ?_)
    refine Go.ldcS d_Law_list_1374 rfl rfl (hls.t197).1 ?_
    refine Go.lsa d_Law_list_1376 rfl hk hp hsb (Or.inl (hls.t197).2) LB_tx197 (by simp only [List.length_append, List.length_nil, len_tx35, len_tx48, len_tx50, len_tx52, len_tx54, len_tx56, len_tx58, len_tx60, len_tx62, len_tx64, len_tx66, len_tx68, len_tx70, len_tx72, len_tx74, len_tx76, len_tx78, len_tx80, len_tx82, len_tx84, len_tx86, len_tx88, len_tx90, len_tx92, len_tx94, len_tx96, len_tx98, len_tx100, len_tx102, len_tx104, len_tx106, len_tx108, len_tx110, len_tx112, len_tx114, len_tx135, len_tx137, len_tx139, len_tx141, len_tx143, len_tx148, len_tx150, len_tx152, len_tx157, len_tx159, len_tx161, len_tx166, len_tx168, len_tx173, len_tx175, len_tx180, len_tx182, len_tx187, len_tx189, len_tx191, len_tx193, len_tx195, len_tx197, len_tx203, len_tx208]; omega) rfl (by omega) (by omega) (fun h9 z9 hsb => ?_)
    refine Go.aload_11 d_Law_list_1379 rfl ?_
    refine Go.lsum (o := oF ([y1, y2, y4, y5, y6, 0, y8, y9, y10, y11, y12, y13], x5)) d_Law_list_1381 rfl hk hp hdg hls hsb ho hoF hob hoo.2.2.2.2.2.2.2.1 rfl (by omega) (by omega) (fun c8 h9 hh z9 hsb hbe hst8 => ?_)
    refine Go.lsa d_Law_list_1384 rfl hk hp hsb hst8 (LB_sumT hob) (by simp only [List.length_append, List.length_nil, len_tx35, len_tx48, len_tx50, len_tx52, len_tx54, len_tx56, len_tx58, len_tx60, len_tx62, len_tx64, len_tx66, len_tx68, len_tx70, len_tx72, len_tx74, len_tx76, len_tx78, len_tx80, len_tx82, len_tx84, len_tx86, len_tx88, len_tx90, len_tx92, len_tx94, len_tx96, len_tx98, len_tx100, len_tx102, len_tx104, len_tx106, len_tx108, len_tx110, len_tx112, len_tx114, len_tx135, len_tx137, len_tx139, len_tx141, len_tx143, len_tx148, len_tx150, len_tx152, len_tx157, len_tx159, len_tx161, len_tx166, len_tx168, len_tx173, len_tx175, len_tx180, len_tx182, len_tx187, len_tx189, len_tx191, len_tx193, len_tx195, len_tx197, len_tx203, len_tx208]; omega) rfl (by omega) (by omega) (fun h9 z9 hsb => ?_)
    refine Go.lts d_Law_list_1387 rfl hk hsb (by simp only [List.length_append, List.length_nil, len_tx35, len_tx48, len_tx50, len_tx52, len_tx54, len_tx56, len_tx58, len_tx60, len_tx62, len_tx64, len_tx66, len_tx68, len_tx70, len_tx72, len_tx74, len_tx76, len_tx78, len_tx80, len_tx82, len_tx84, len_tx86, len_tx88, len_tx90, len_tx92, len_tx94, len_tx96, len_tx98, len_tx100, len_tx102, len_tx104, len_tx106, len_tx108, len_tx110, len_tx112, len_tx114, len_tx135, len_tx137, len_tx139, len_tx141, len_tx143, len_tx148, len_tx150, len_tx152, len_tx157, len_tx159, len_tx161, len_tx166, len_tx168, len_tx173, len_tx175, len_tx180, len_tx182, len_tx187, len_tx189, len_tx191, len_tx193, len_tx195, len_tx197, len_tx203, len_tx208]; omega) rfl (by omega) (by omega) (fun c9 h9 z9 he9 hst9 => ?_)
    replace hst9 := hst9.of hbe
    replace he9 := hbe.tr he9
    refine Go.lwd d_Law_list_1390 rfl hs hwd hx h0w he9 hst9 rfl (Nat.le_of_ble_eq_true rfl) (fun h hb f hs hwd hx => ?_)
    clear he9 hst9 hsb
    refine Go.room (C' := C - 39) (S' := S - 41537) ?_ (Nat.le_refl _) (by omega) (by omega)
    replace ho := hs.row (k := 5) (r := i) (by decide) (by omega)
    rw [hf] at ho
    have ho : h (b_ad B 5 i) = some (aI Γ 12 (rOrd ([y1, y2, y4, y5, y6, 0, y8, y9, y10, y11, y12, y13], x5))) := ho
    refine Go.dup d_Law_list_1391 rfl rfl ?_
    refine Go.iconst (v := 4) d_Law_list_1392 rfl (by decide) ?_
    refine Go.lsb d_Law_list_1393 d_Law_list_1396 d_Law_list_1397 rfl hk rfl (by omega) (by omega) (fun b2 h9 z9 hsb => ?_)
    refine Go.ldcS d_Law_list_1400 rfl rfl (hls.t203).1 ?_
    refine Go.lsa d_Law_list_1402 rfl hk hp hsb (Or.inl (hls.t203).2) LB_tx203 (by simp only [List.length_append, List.length_nil, len_tx35, len_tx48, len_tx50, len_tx52, len_tx54, len_tx56, len_tx58, len_tx60, len_tx62, len_tx64, len_tx66, len_tx68, len_tx70, len_tx72, len_tx74, len_tx76, len_tx78, len_tx80, len_tx82, len_tx84, len_tx86, len_tx88, len_tx90, len_tx92, len_tx94, len_tx96, len_tx98, len_tx100, len_tx102, len_tx104, len_tx106, len_tx108, len_tx110, len_tx112, len_tx114, len_tx135, len_tx137, len_tx139, len_tx141, len_tx143, len_tx148, len_tx150, len_tx152, len_tx157, len_tx159, len_tx161, len_tx166, len_tx168, len_tx173, len_tx175, len_tx180, len_tx182, len_tx187, len_tx189, len_tx191, len_tx193, len_tx195, len_tx197, len_tx203, len_tx208]; omega) rfl (by omega) (by omega) (fun h9 z9 hsb => ?_)
    refine Go.iload_9 d_Law_list_1405 rfl ?_
    refine Go.lsi (v := y2) d_Law_list_1407 rfl hk hp hdg hsb (by omega) (by simp only [List.length_append, List.length_nil, len_tx35, len_tx48, len_tx50, len_tx52, len_tx54, len_tx56, len_tx58, len_tx60, len_tx62, len_tx64, len_tx66, len_tx68, len_tx70, len_tx72, len_tx74, len_tx76, len_tx78, len_tx80, len_tx82, len_tx84, len_tx86, len_tx88, len_tx90, len_tx92, len_tx94, len_tx96, len_tx98, len_tx100, len_tx102, len_tx104, len_tx106, len_tx108, len_tx110, len_tx112, len_tx114, len_tx135, len_tx137, len_tx139, len_tx141, len_tx143, len_tx148, len_tx150, len_tx152, len_tx157, len_tx159, len_tx161, len_tx166, len_tx168, len_tx173, len_tx175, len_tx180, len_tx182, len_tx187, len_tx189, len_tx191, len_tx193, len_tx195, len_tx197, len_tx203, len_tx208]; omega) rfl (by omega) (by omega) (fun h9 z9 hsb => ?_)
    refine Go.lts d_Law_list_1410 rfl hk hsb (by simp only [List.length_append, List.length_nil, len_tx35, len_tx48, len_tx50, len_tx52, len_tx54, len_tx56, len_tx58, len_tx60, len_tx62, len_tx64, len_tx66, len_tx68, len_tx70, len_tx72, len_tx74, len_tx76, len_tx78, len_tx80, len_tx82, len_tx84, len_tx86, len_tx88, len_tx90, len_tx92, len_tx94, len_tx96, len_tx98, len_tx100, len_tx102, len_tx104, len_tx106, len_tx108, len_tx110, len_tx112, len_tx114, len_tx135, len_tx137, len_tx139, len_tx141, len_tx143, len_tx148, len_tx150, len_tx152, len_tx157, len_tx159, len_tx161, len_tx166, len_tx168, len_tx173, len_tx175, len_tx180, len_tx182, len_tx187, len_tx189, len_tx191, len_tx193, len_tx195, len_tx197, len_tx203, len_tx208]; omega) rfl (by omega) (by omega) (fun c9 h9 z9 he9 hst9 => ?_)
    refine Go.lwd d_Law_list_1413 rfl hs hwd hx h0w he9 hst9 rfl (Nat.le_of_ble_eq_true rfl) (fun h hb f hs hwd hx => ?_)
    clear he9 hst9 hsb
    refine Go.room (C' := C - 45) (S' := S - 46465) ?_ (Nat.le_refl _) (by omega) (by omega)
    replace ho := hs.row (k := 5) (r := i) (by decide) (by omega)
    rw [hf] at ho
    have ho : h (b_ad B 5 i) = some (aI Γ 12 (rOrd ([y1, y2, y4, y5, y6, 0, y8, y9, y10, y11, y12, y13], x5))) := ho
    refine Go.astore_12 d_Law_list_1414 rfl (by rfl) ?_
    refine Go.aload_1 d_Law_list_1416 rfl ?_
    refine Go.aload_12 d_Law_list_1417 rfl ?_
    refine Go.iload_8 d_Law_list_1419 rfl ?_
    refine Go.lwr (i := y1) d_Law_list_1421 rfl hs hwd rfl (show y1 < 5 by omega) (Nat.le_of_ble_eq_true rfl) (fun c hst => ?_)
    have lww := len_wsT (o := oF ([y1, y2, y4, y5, y6, 0, y8, y9, y10, y11, y12, y13], x5)) (j := y1) hob (show y2 < 10 by omega) (show y4 < 10 by omega) ⟨(show y9 < 4 by omega), (show y10 < 4 by omega), (show y11 < 4 by omega), (show y12 < 4 by omega), (show y13 < 4 by omega)⟩
    have lwn := len_whenT (o := oF ([y1, y2, y4, y5, y6, 0, y8, y9, y10, y11, y12, y13], x5)) (x := x5) hob hoo.2.2.2.2.2.2.2.2.2.2.2.1 ⟨(show y9 < 4 by omega), (show y10 < 4 by omega), (show y11 < 4 by omega), (show y12 < 4 by omega), (show y13 < 4 by omega)⟩
    have hst : STR Γ hb c ((wsT (oF ([y1, y2, y4, y5, y6, 0, y8, y9, y10, y11, y12, y13], x5))).getD y1 []) := hst
    refine Go.lapp d_Law_list_1422 rfl hk hp hs hst (LB_wsT hob) (by simp only [List.length_append, List.length_nil, len_tx35, len_tx48, len_tx50, len_tx52, len_tx54, len_tx56, len_tx58, len_tx60, len_tx62, len_tx64, len_tx66, len_tx68, len_tx70, len_tx72, len_tx74, len_tx76, len_tx78, len_tx80, len_tx82, len_tx84, len_tx86, len_tx88, len_tx90, len_tx92, len_tx94, len_tx96, len_tx98, len_tx100, len_tx102, len_tx104, len_tx106, len_tx108, len_tx110, len_tx112, len_tx114, len_tx135, len_tx137, len_tx139, len_tx141, len_tx143, len_tx148, len_tx150, len_tx152, len_tx157, len_tx159, len_tx161, len_tx166, len_tx168, len_tx173, len_tx175, len_tx180, len_tx182, len_tx187, len_tx189, len_tx191, len_tx193, len_tx195, len_tx197, len_tx203, len_tx208]; omega) (by omega) (by omega) rfl (fun h z hs => ?_)
    replace ho := hs.row (k := 5) (r := i) (by decide) (by omega)
    rw [hf] at ho
    have ho : h (b_ad B 5 i) = some (aI Γ 12 (rOrd ([y1, y2, y4, y5, y6, 0, y8, y9, y10, y11, y12, y13], x5))) := ho
    refine Go.aload_11 d_Law_list_1425 rfl ?_
    refine Go.lwhen (o := oF ([y1, y2, y4, y5, y6, 0, y8, y9, y10, y11, y12, y13], x5)) d_Law_list_1427 rfl hk hp hdg hls hs ho hoF hob hoo.2.2.2.2.2.2.2.2.2.2.2.1 h5 rfl (by omega) (by omega) (fun c h hb z hs hx2 hst => ?_)
    have hst : STR Γ hb c (whenT (oF ([y1, y2, y4, y5, y6, 0, y8, y9, y10, y11, y12, y13], x5)) x5) := hst
    replace hx := hx.tr hx2
    refine Go.lapp d_Law_list_1430 rfl hk hp hs hst (LB_whenT hob hoo.2.2.2.2.2.2.2.2.2.2.2.1) (by simp only [List.length_append, List.length_nil, len_tx35, len_tx48, len_tx50, len_tx52, len_tx54, len_tx56, len_tx58, len_tx60, len_tx62, len_tx64, len_tx66, len_tx68, len_tx70, len_tx72, len_tx74, len_tx76, len_tx78, len_tx80, len_tx82, len_tx84, len_tx86, len_tx88, len_tx90, len_tx92, len_tx94, len_tx96, len_tx98, len_tx100, len_tx102, len_tx104, len_tx106, len_tx108, len_tx110, len_tx112, len_tx114, len_tx135, len_tx137, len_tx139, len_tx141, len_tx143, len_tx148, len_tx150, len_tx152, len_tx157, len_tx159, len_tx161, len_tx166, len_tx168, len_tx173, len_tx175, len_tx180, len_tx182, len_tx187, len_tx189, len_tx191, len_tx193, len_tx195, len_tx197, len_tx203, len_tx208]; omega) (by omega) (by omega) rfl (fun h z hs => ?_)
    refine Go.room (C' := C - 58) (S' := S - 67269) ?_ (Nat.le_refl _) (by omega) (by omega)
    refine Go.room (C' := C - 74) (S' := S - 73598) ?_ (Nat.le_refl _) (by omega) (by omega)
    replace hs := hs.down hx
    rw [eb0] at hs
    clear hx hwd ho hst
    refine Go.ldcS d_Law_list_1433 rfl rfl (hls.t208).1 ?_
    refine Go.lapp d_Law_list_1435 rfl hk hp hs (Or.inl (hls.t208).2) LB_tx208 (by simp only [List.length_append, List.length_nil, len_tx35, len_tx48, len_tx50, len_tx52, len_tx54, len_tx56, len_tx58, len_tx60, len_tx62, len_tx64, len_tx66, len_tx68, len_tx70, len_tx72, len_tx74, len_tx76, len_tx78, len_tx80, len_tx82, len_tx84, len_tx86, len_tx88, len_tx90, len_tx92, len_tx94, len_tx96, len_tx98, len_tx100, len_tx102, len_tx104, len_tx106, len_tx108, len_tx110, len_tx112, len_tx114, len_tx135, len_tx137, len_tx139, len_tx141, len_tx143, len_tx148, len_tx150, len_tx152, len_tx157, len_tx159, len_tx161, len_tx166, len_tx168, len_tx173, len_tx175, len_tx180, len_tx182, len_tx187, len_tx189, len_tx191, len_tx193, len_tx195, len_tx197, len_tx203, len_tx208]; omega) (by omega) (by omega) rfl (fun h z hs => ?_)
    refine Go.pop d_Law_list_1438 rfl rfl ?_
    refine Go.iinc_6 (v := nI (i + 1)) d_Law_list_1439 rfl (by rfl) (nI_inc _) ?_
    refine Go.goto (t := 998) d_Law_list_1442 (by decide) ?_
    refine Go.fgt [some (.ref sa), some (.ref b), some (.ref sim), some (.int (nI nb)), none, none, some (.int (nI (i + 1))), none, none, none, none, none, none] (by repeat' (first | exact trivial | refine ⟨rfl, ?_⟩)) ?_
    have et : ((((p ++ tAll tOrd l) ++ (wsT (oF ([y1, y2, y4, y5, y6, 0, y8, y9, y10, y11, y12, y13], x5))).getD y1 []) ++ whenT (oF ([y1, y2, y4, y5, y6, 0, y8, y9, y10, y11, y12, y13], x5)) x5) ++ tx208) = p ++ tAll tOrd (l ++ [([y1, y2, y4, y5, y6, 0, y8, y9, y10, y11, y12, y13], x5)]) := by
      rw [tAll_snoc, hl]
      unfold tOrd
      simp only [List.append_assoc]
      rfl
    rw [et] at hs
    exact ih (i + 1) (l ++ [([y1, y2, y4, y5, y6, 0, y8, y9, y10, y11, y12, y13], x5)]) h _ _ _ (by omega) (len_snoc hl) (all_snoc hok hoo) ⟨B, hs, hr, hc, hw, hsim⟩ hC9 hS9
