/-! the reference: what a number breaks -/
theorem mk_at_q_4 {Γ : G9} {h : AH} {m q qs sa sb ro : Nat} {M : MO} {H : SH} (geo : m + 2 ≤ q) : (mk_ Γ h m q qs sa sb ro M H) (q + 4) = some (aI Γ 401 (sh_me H)) := by
  unfold mk_
  exact (sh_g4)
theorem mk_arr_q_4 {Γ : G9} {h : AH} {m q qs sa sb ro : Nat} {M : MO} {H : SH} {v : Nat → Int32} (geo : m + 2 ≤ q) : hup (mk_ Γ h m q qs sa sb ro M H) (q + 4) (aI Γ 401 v) = (mk_ Γ h m q qs sa sb ro M (sh_me' H v)) := by
  unfold mk_
  exact (sh_a_me (v := v))
theorem gs_sh_ha_me {S : SH} {v : Nat → Int32} : sh_ha (sh_me' S v) = sh_ha S := rfl
theorem gs_sh_kd_me {S : SH} {v : Nat → Int32} : sh_kd (sh_me' S v) = sh_kd S := rfl
theorem mk_at_q_7 {Γ : G9} {h : AH} {m q qs sa sb ro : Nat} {M : MO} {H : SH} (geo : m + 2 ≤ q) : (mk_ Γ h m q qs sa sb ro M H) (q + 7) = some (aI Γ 5 (sh_hg H)) := by
  unfold mk_
  exact (sh_g7)
theorem mk_arr_q_7 {Γ : G9} {h : AH} {m q qs sa sb ro : Nat} {M : MO} {H : SH} {v : Nat → Int32} (geo : m + 2 ≤ q) : hup (mk_ Γ h m q qs sa sb ro M H) (q + 7) (aI Γ 5 v) = (mk_ Γ h m q qs sa sb ro M (sh_hg' H v)) := by
  unfold mk_
  exact (sh_a_hg (v := v))
theorem gs_sh_hg_me {S : SH} {v : Nat → Int32} : sh_hg (sh_me' S v) = sh_hg S := rfl
theorem gs_sh_hg_hg {S : SH} {v : Nat → Int32} : sh_hg (sh_hg' S v) = v := rfl
theorem mk_c_Model_errorOfRange_ {Γ : G9} {h : AH} {m q qs sa sb ro z : Nat} {M : MO} {H : SH} {x1 : Int32} {x2 : Int32} {x3 : Int32} (geo : m + 2 ≤ q) : CallR Γ M_Model_errorOfRange 1 [.int x1, .int x2, .int x3] (mk_ Γ h m q qs sa sb ro M H) z (some (.int (s_Model_errorOfRange x1 x2 x3))) (mk_ Γ h m q qs sa sb ro M H) := by
  unfold mk_
  exact CallR.conv rfl rfl (c_Model_errorOfRange)
theorem mk_at_q_8 {Γ : G9} {h : AH} {m q qs sa sb ro : Nat} {M : MO} {H : SH} (geo : m + 2 ≤ q) : (mk_ Γ h m q qs sa sb ro M H) (q + 8) = some (aI Γ 5 (sh_sn H)) := by
  unfold mk_
  exact (sh_g8)
theorem mk_arr_q_8 {Γ : G9} {h : AH} {m q qs sa sb ro : Nat} {M : MO} {H : SH} {v : Nat → Int32} (geo : m + 2 ≤ q) : hup (mk_ Γ h m q qs sa sb ro M H) (q + 8) (aI Γ 5 v) = (mk_ Γ h m q qs sa sb ro M (sh_sn' H v)) := by
  unfold mk_
  exact (sh_a_sn (v := v))
theorem gs_sh_sn_me {S : SH} {v : Nat → Int32} : sh_sn (sh_me' S v) = sh_sn S := rfl
theorem mk_at_q_10 {Γ : G9} {h : AH} {m q qs sa sb ro : Nat} {M : MO} {H : SH} (geo : m + 2 ≤ q) : (mk_ Γ h m q qs sa sb ro M H) (q + 10) = some (aI Γ 6 (sh_dp H)) := by
  unfold mk_
  exact (sh_g10)
theorem mk_arr_q_10 {Γ : G9} {h : AH} {m q qs sa sb ro : Nat} {M : MO} {H : SH} {v : Nat → Int32} (geo : m + 2 ≤ q) : hup (mk_ Γ h m q qs sa sb ro M H) (q + 10) (aI Γ 6 v) = (mk_ Γ h m q qs sa sb ro M (sh_dp' H v)) := by
  unfold mk_
  exact (sh_a_dp (v := v))
theorem gs_sh_dp_me {S : SH} {v : Nat → Int32} : sh_dp (sh_me' S v) = sh_dp S := rfl
theorem mk_at_q_12 {Γ : G9} {h : AH} {m q qs sa sb ro : Nat} {M : MO} {H : SH} (geo : m + 2 ≤ q) : (mk_ Γ h m q qs sa sb ro M H) (q + 12) = some (aI Γ 4 (sh_br H)) := by
  unfold mk_
  exact (sh_g12)
theorem mk_arr_q_12 {Γ : G9} {h : AH} {m q qs sa sb ro : Nat} {M : MO} {H : SH} {v : Nat → Int32} (geo : m + 2 ≤ q) : hup (mk_ Γ h m q qs sa sb ro M H) (q + 12) (aI Γ 4 v) = (mk_ Γ h m q qs sa sb ro M (sh_br' H v)) := by
  unfold mk_
  exact (sh_a_br (v := v))
theorem gs_sh_br_me {S : SH} {v : Nat → Int32} : sh_br (sh_me' S v) = sh_br S := rfl
theorem gs_sh_ln_me {S : SH} {v : Nat → Int32} : sh_ln (sh_me' S v) = sh_ln S := rfl
theorem mk_at_q_17 {Γ : G9} {h : AH} {m q qs sa sb ro : Nat} {M : MO} {H : SH} (geo : m + 2 ≤ q) : (mk_ Γ h m q qs sa sb ro M H) (q + 17) = some (aI Γ 4 (sh_sk H)) := by
  unfold mk_
  exact (sh_g17)
theorem mk_arr_q_17 {Γ : G9} {h : AH} {m q qs sa sb ro : Nat} {M : MO} {H : SH} {v : Nat → Int32} (geo : m + 2 ≤ q) : hup (mk_ Γ h m q qs sa sb ro M H) (q + 17) (aI Γ 4 v) = (mk_ Γ h m q qs sa sb ro M (sh_sk' H v)) := by
  unfold mk_
  exact (sh_a_sk (v := v))
theorem gs_sh_sk_me {S : SH} {v : Nat → Int32} : sh_sk (sh_me' S v) = sh_sk S := rfl
theorem gs_sh_ln_sk {S : SH} {v : Nat → Int32} : sh_ln (sh_sk' S v) = sh_ln S := rfl
theorem mk_at_q_14 {Γ : G9} {h : AH} {m q qs sa sb ro : Nat} {M : MO} {H : SH} (geo : m + 2 ≤ q) : (mk_ Γ h m q qs sa sb ro M H) (q + 14) = some (aI Γ 4 (sh_fo H)) := by
  unfold mk_
  exact (sh_g14)
theorem mk_arr_q_14 {Γ : G9} {h : AH} {m q qs sa sb ro : Nat} {M : MO} {H : SH} {v : Nat → Int32} (geo : m + 2 ≤ q) : hup (mk_ Γ h m q qs sa sb ro M H) (q + 14) (aI Γ 4 v) = (mk_ Γ h m q qs sa sb ro M (sh_fo' H v)) := by
  unfold mk_
  exact (sh_a_fo (v := v))
theorem gs_sh_fo_me {S : SH} {v : Nat → Int32} : sh_fo (sh_me' S v) = sh_fo S := rfl
theorem gs_sh_ln_fo {S : SH} {v : Nat → Int32} : sh_ln (sh_fo' S v) = sh_ln S := rfl
theorem mk_at_q_16 {Γ : G9} {h : AH} {m q qs sa sb ro : Nat} {M : MO} {H : SH} (geo : m + 2 ≤ q) : (mk_ Γ h m q qs sa sb ro M H) (q + 16) = some (aI Γ 4 (sh_sz H)) := by
  unfold mk_
  exact (sh_g16)
theorem mk_arr_q_16 {Γ : G9} {h : AH} {m q qs sa sb ro : Nat} {M : MO} {H : SH} {v : Nat → Int32} (geo : m + 2 ≤ q) : hup (mk_ Γ h m q qs sa sb ro M H) (q + 16) (aI Γ 4 v) = (mk_ Γ h m q qs sa sb ro M (sh_sz' H v)) := by
  unfold mk_
  exact (sh_a_sz (v := v))
theorem gs_sh_sz_me {S : SH} {v : Nat → Int32} : sh_sz (sh_me' S v) = sh_sz S := rfl
theorem mk_put_q_dayTold {Γ : G9} {h : AH} {m q qs sa sb ro : Nat} {M : MO} {H : SH} {v : Int32} (geo : m + 2 ≤ q) : hup (mk_ Γ h m q qs sa sb ro M H) q (.inr (9, [.ref (q + 1), .ref (q + 2), .ref (q + 3), .ref (q + 4), .ref (q + 5), .ref (q + 6), .int (sh_ln H), .ref (q + 7), .ref (q + 8), .ref (q + 9), .ref (q + 10), .ref (q + 11), .ref (q + 12), .ref (q + 13), .ref (q + 14), .ref (q + 15), .ref (q + 16), .ref (q + 17), .ref (q + 18), .int (sh_dt H), .int (nI (sh_or H)), .ref (q + 19), .ref (q + 20), .ref (q + 21), .ref (q + 22), .ref (q + 23)].set 19 (.int v))) = (mk_ Γ h m q qs sa sb ro M (sh_dt' H v)) := by
  unfold mk_
  exact (sh_p_dt (v := v))
theorem gs_sh_dt_me {S : SH} {v : Nat → Int32} : sh_dt (sh_me' S v) = sh_dt S := rfl
theorem mk_at_q_18 {Γ : G9} {h : AH} {m q qs sa sb ro : Nat} {M : MO} {H : SH} (geo : m + 2 ≤ q) : (mk_ Γ h m q qs sa sb ro M H) (q + 18) = some (aI Γ 8 (sh_wa H)) := by
  unfold mk_
  exact (sh_g18)
theorem mk_arr_q_18 {Γ : G9} {h : AH} {m q qs sa sb ro : Nat} {M : MO} {H : SH} {v : Nat → Int32} (geo : m + 2 ≤ q) : hup (mk_ Γ h m q qs sa sb ro M H) (q + 18) (aI Γ 8 v) = (mk_ Γ h m q qs sa sb ro M (sh_wa' H v)) := by
  unfold mk_
  exact (sh_a_wa (v := v))
theorem gs_sh_wa_me {S : SH} {v : Nat → Int32} : sh_wa (sh_me' S v) = sh_wa S := rfl
theorem d_Model_errorOfNumber_0 : decode M_Model_errorOfNumber.2.1 0 = .ok (.aload_n 0, 1) := by decide +kernel
theorem d_Model_errorOfNumber_1 : decode M_Model_errorOfNumber.2.1 1 = .ok (.aload_n 1, 1) := by decide +kernel
theorem d_Model_errorOfNumber_2 : decode M_Model_errorOfNumber.2.1 2 = .ok (.iload_n 2, 1) := by decide +kernel
theorem d_Model_errorOfNumber_3 : decode M_Model_errorOfNumber.2.1 3 = .ok (.invokevirtual 196, 3) := by decide +kernel
theorem d_Model_errorOfNumber_6 : decode M_Model_errorOfNumber.2.1 6 = .ok (.istore_n 3, 1) := by decide +kernel
theorem d_Model_errorOfNumber_7 : decode M_Model_errorOfNumber.2.1 7 = .ok (.aload_n 1, 1) := by decide +kernel
theorem d_Model_errorOfNumber_8 : decode M_Model_errorOfNumber.2.1 8 = .ok (.getfield 169, 3) := by decide +kernel
theorem d_Model_errorOfNumber_11 : decode M_Model_errorOfNumber.2.1 11 = .ok (.iload_n 2, 1) := by decide +kernel
theorem d_Model_errorOfNumber_12 : decode M_Model_errorOfNumber.2.1 12 = .ok (.iload_n 3, 1) := by decide +kernel
theorem d_Model_errorOfNumber_13 : decode M_Model_errorOfNumber.2.1 13 = .ok (.iastore, 1) := by decide +kernel
theorem d_Model_errorOfNumber_14 : decode M_Model_errorOfNumber.2.1 14 = .ok (.aload_n 1, 1) := by decide +kernel
theorem d_Model_errorOfNumber_15 : decode M_Model_errorOfNumber.2.1 15 = .ok (.getfield 40, 3) := by decide +kernel
theorem d_Model_errorOfNumber_18 : decode M_Model_errorOfNumber.2.1 18 = .ok (.iconst 0, 1) := by decide +kernel
theorem d_Model_errorOfNumber_19 : decode M_Model_errorOfNumber.2.1 19 = .ok (.iaload, 1) := by decide +kernel
theorem d_Model_errorOfNumber_20 : decode M_Model_errorOfNumber.2.1 20 = .ok (.iconst 1, 1) := by decide +kernel
theorem d_Model_errorOfNumber_21 : decode M_Model_errorOfNumber.2.1 21 = .ok (.isub, 1) := by decide +kernel
theorem d_Model_errorOfNumber_22 : decode M_Model_errorOfNumber.2.1 22 = .ok (.istore 4, 2) := by decide +kernel
theorem d_Model_errorOfNumber_24 : decode M_Model_errorOfNumber.2.1 24 = .ok (.aload_n 1, 1) := by decide +kernel
theorem d_Model_errorOfNumber_25 : decode M_Model_errorOfNumber.2.1 25 = .ok (.getfield 93, 3) := by decide +kernel
theorem d_Model_errorOfNumber_28 : decode M_Model_errorOfNumber.2.1 28 = .ok (.iload_n 2, 1) := by decide +kernel
theorem d_Model_errorOfNumber_29 : decode M_Model_errorOfNumber.2.1 29 = .ok (.iconst 1, 1) := by decide +kernel
theorem d_Model_errorOfNumber_30 : decode M_Model_errorOfNumber.2.1 30 = .ok (.isub, 1) := by decide +kernel
theorem d_Model_errorOfNumber_31 : decode M_Model_errorOfNumber.2.1 31 = .ok (.iaload, 1) := by decide +kernel
theorem d_Model_errorOfNumber_32 : decode M_Model_errorOfNumber.2.1 32 = .ok (.tableswitch 288 1 14 #[72, 107, 288, 288, 124, 288, 288, 147, 288, 170, 288, 234, 257, 270], 72) := by decide +kernel
theorem d_Model_errorOfNumber_104 : decode M_Model_errorOfNumber.2.1 104 = .ok (.aload_n 1, 1) := by decide +kernel
theorem d_Model_errorOfNumber_105 : decode M_Model_errorOfNumber.2.1 105 = .ok (.getfield 200, 3) := by decide +kernel
theorem d_Model_errorOfNumber_108 : decode M_Model_errorOfNumber.2.1 108 = .ok (.iload 4, 2) := by decide +kernel
theorem d_Model_errorOfNumber_110 : decode M_Model_errorOfNumber.2.1 110 = .ok (.iload_n 3, 1) := by decide +kernel
theorem d_Model_errorOfNumber_111 : decode M_Model_errorOfNumber.2.1 111 = .ok (.iastore, 1) := by decide +kernel
theorem d_Model_errorOfNumber_112 : decode M_Model_errorOfNumber.2.1 112 = .ok (.iload_n 3, 1) := by decide +kernel
theorem d_Model_errorOfNumber_113 : decode M_Model_errorOfNumber.2.1 113 = .ok (.iload 4, 2) := by decide +kernel
theorem d_Model_errorOfNumber_115 : decode M_Model_errorOfNumber.2.1 115 = .ok (.ifCond .ne 7, 3) := by decide +kernel
theorem d_Model_errorOfNumber_118 : decode M_Model_errorOfNumber.2.1 118 = .ok (.iconst 0, 1) := by decide +kernel
theorem d_Model_errorOfNumber_119 : decode M_Model_errorOfNumber.2.1 119 = .ok (.goto 14, 3) := by decide +kernel
theorem d_Model_errorOfNumber_122 : decode M_Model_errorOfNumber.2.1 122 = .ok (.aload_n 1, 1) := by decide +kernel
theorem d_Model_errorOfNumber_123 : decode M_Model_errorOfNumber.2.1 123 = .ok (.getfield 200, 3) := by decide +kernel
theorem d_Model_errorOfNumber_126 : decode M_Model_errorOfNumber.2.1 126 = .ok (.iload 4, 2) := by decide +kernel
theorem d_Model_errorOfNumber_128 : decode M_Model_errorOfNumber.2.1 128 = .ok (.iconst 1, 1) := by decide +kernel
theorem d_Model_errorOfNumber_129 : decode M_Model_errorOfNumber.2.1 129 = .ok (.isub, 1) := by decide +kernel
theorem d_Model_errorOfNumber_130 : decode M_Model_errorOfNumber.2.1 130 = .ok (.iaload, 1) := by decide +kernel
theorem d_Model_errorOfNumber_131 : decode M_Model_errorOfNumber.2.1 131 = .ok (.iconst 1, 1) := by decide +kernel
theorem d_Model_errorOfNumber_132 : decode M_Model_errorOfNumber.2.1 132 = .ok (.iadd, 1) := by decide +kernel
theorem d_Model_errorOfNumber_133 : decode M_Model_errorOfNumber.2.1 133 = .ok (.bipush 20, 2) := by decide +kernel
theorem d_Model_errorOfNumber_135 : decode M_Model_errorOfNumber.2.1 135 = .ok (.invokestatic 203, 3) := by decide +kernel
theorem d_Model_errorOfNumber_138 : decode M_Model_errorOfNumber.2.1 138 = .ok (.ireturn, 1) := by decide +kernel
theorem d_Model_errorOfNumber_139 : decode M_Model_errorOfNumber.2.1 139 = .ok (.aload_n 1, 1) := by decide +kernel
theorem d_Model_errorOfNumber_140 : decode M_Model_errorOfNumber.2.1 140 = .ok (.getfield 207, 3) := by decide +kernel
theorem d_Model_errorOfNumber_143 : decode M_Model_errorOfNumber.2.1 143 = .ok (.iload 4, 2) := by decide +kernel
theorem d_Model_errorOfNumber_145 : decode M_Model_errorOfNumber.2.1 145 = .ok (.iload_n 3, 1) := by decide +kernel
theorem d_Model_errorOfNumber_146 : decode M_Model_errorOfNumber.2.1 146 = .ok (.iastore, 1) := by decide +kernel
theorem d_Model_errorOfNumber_147 : decode M_Model_errorOfNumber.2.1 147 = .ok (.iload_n 3, 1) := by decide +kernel
theorem d_Model_errorOfNumber_148 : decode M_Model_errorOfNumber.2.1 148 = .ok (.iconst 0, 1) := by decide +kernel
theorem d_Model_errorOfNumber_149 : decode M_Model_errorOfNumber.2.1 149 = .ok (.sipush 300, 3) := by decide +kernel
theorem d_Model_errorOfNumber_152 : decode M_Model_errorOfNumber.2.1 152 = .ok (.invokestatic 203, 3) := by decide +kernel
theorem d_Model_errorOfNumber_155 : decode M_Model_errorOfNumber.2.1 155 = .ok (.ireturn, 1) := by decide +kernel
theorem d_Model_errorOfNumber_156 : decode M_Model_errorOfNumber.2.1 156 = .ok (.aload_n 1, 1) := by decide +kernel
theorem d_Model_errorOfNumber_157 : decode M_Model_errorOfNumber.2.1 157 = .ok (.getfield 210, 3) := by decide +kernel
theorem d_Model_errorOfNumber_160 : decode M_Model_errorOfNumber.2.1 160 = .ok (.aload_n 1, 1) := by decide +kernel
theorem d_Model_errorOfNumber_161 : decode M_Model_errorOfNumber.2.1 161 = .ok (.getfield 40, 3) := by decide +kernel
theorem d_Model_errorOfNumber_164 : decode M_Model_errorOfNumber.2.1 164 = .ok (.iconst 3, 1) := by decide +kernel
theorem d_Model_errorOfNumber_165 : decode M_Model_errorOfNumber.2.1 165 = .ok (.iaload, 1) := by decide +kernel
theorem d_Model_errorOfNumber_166 : decode M_Model_errorOfNumber.2.1 166 = .ok (.iconst 1, 1) := by decide +kernel
theorem d_Model_errorOfNumber_167 : decode M_Model_errorOfNumber.2.1 167 = .ok (.isub, 1) := by decide +kernel
theorem d_Model_errorOfNumber_168 : decode M_Model_errorOfNumber.2.1 168 = .ok (.iload_n 3, 1) := by decide +kernel
theorem d_Model_errorOfNumber_169 : decode M_Model_errorOfNumber.2.1 169 = .ok (.iastore, 1) := by decide +kernel
theorem d_Model_errorOfNumber_170 : decode M_Model_errorOfNumber.2.1 170 = .ok (.iload_n 3, 1) := by decide +kernel
theorem d_Model_errorOfNumber_171 : decode M_Model_errorOfNumber.2.1 171 = .ok (.iconst 1, 1) := by decide +kernel
theorem d_Model_errorOfNumber_172 : decode M_Model_errorOfNumber.2.1 172 = .ok (.sipush 200, 3) := by decide +kernel
theorem d_Model_errorOfNumber_175 : decode M_Model_errorOfNumber.2.1 175 = .ok (.invokestatic 203, 3) := by decide +kernel
theorem d_Model_errorOfNumber_178 : decode M_Model_errorOfNumber.2.1 178 = .ok (.ireturn, 1) := by decide +kernel
theorem d_Model_errorOfNumber_179 : decode M_Model_errorOfNumber.2.1 179 = .ok (.aload_n 1, 1) := by decide +kernel
theorem d_Model_errorOfNumber_180 : decode M_Model_errorOfNumber.2.1 180 = .ok (.getfield 213, 3) := by decide +kernel
theorem d_Model_errorOfNumber_183 : decode M_Model_errorOfNumber.2.1 183 = .ok (.aload_n 1, 1) := by decide +kernel
theorem d_Model_errorOfNumber_184 : decode M_Model_errorOfNumber.2.1 184 = .ok (.getfield 40, 3) := by decide +kernel
theorem d_Model_errorOfNumber_187 : decode M_Model_errorOfNumber.2.1 187 = .ok (.bipush 6, 2) := by decide +kernel
theorem d_Model_errorOfNumber_189 : decode M_Model_errorOfNumber.2.1 189 = .ok (.iaload, 1) := by decide +kernel
theorem d_Model_errorOfNumber_190 : decode M_Model_errorOfNumber.2.1 190 = .ok (.iconst 1, 1) := by decide +kernel
theorem d_Model_errorOfNumber_191 : decode M_Model_errorOfNumber.2.1 191 = .ok (.isub, 1) := by decide +kernel
theorem d_Model_errorOfNumber_192 : decode M_Model_errorOfNumber.2.1 192 = .ok (.iload_n 3, 1) := by decide +kernel
theorem d_Model_errorOfNumber_193 : decode M_Model_errorOfNumber.2.1 193 = .ok (.iastore, 1) := by decide +kernel
theorem d_Model_errorOfNumber_194 : decode M_Model_errorOfNumber.2.1 194 = .ok (.iload_n 3, 1) := by decide +kernel
theorem d_Model_errorOfNumber_195 : decode M_Model_errorOfNumber.2.1 195 = .ok (.iconst 0, 1) := by decide +kernel
theorem d_Model_errorOfNumber_196 : decode M_Model_errorOfNumber.2.1 196 = .ok (.bipush 99, 2) := by decide +kernel
theorem d_Model_errorOfNumber_198 : decode M_Model_errorOfNumber.2.1 198 = .ok (.invokestatic 203, 3) := by decide +kernel
theorem d_Model_errorOfNumber_201 : decode M_Model_errorOfNumber.2.1 201 = .ok (.ireturn, 1) := by decide +kernel
theorem d_Model_errorOfNumber_202 : decode M_Model_errorOfNumber.2.1 202 = .ok (.aload_n 1, 1) := by decide +kernel
theorem d_Model_errorOfNumber_203 : decode M_Model_errorOfNumber.2.1 203 = .ok (.getfield 175, 3) := by decide +kernel
theorem d_Model_errorOfNumber_206 : decode M_Model_errorOfNumber.2.1 206 = .ok (.bipush 9, 2) := by decide +kernel
theorem d_Model_errorOfNumber_208 : decode M_Model_errorOfNumber.2.1 208 = .ok (.if_icmp .ne 21, 3) := by decide +kernel
theorem d_Model_errorOfNumber_211 : decode M_Model_errorOfNumber.2.1 211 = .ok (.aload_n 1, 1) := by decide +kernel
theorem d_Model_errorOfNumber_212 : decode M_Model_errorOfNumber.2.1 212 = .ok (.getfield 216, 3) := by decide +kernel
theorem d_Model_errorOfNumber_215 : decode M_Model_errorOfNumber.2.1 215 = .ok (.aload_n 1, 1) := by decide +kernel
theorem d_Model_errorOfNumber_216 : decode M_Model_errorOfNumber.2.1 216 = .ok (.getfield 40, 3) := by decide +kernel
theorem d_Model_errorOfNumber_219 : decode M_Model_errorOfNumber.2.1 219 = .ok (.bipush 9, 2) := by decide +kernel
theorem d_Model_errorOfNumber_221 : decode M_Model_errorOfNumber.2.1 221 = .ok (.iaload, 1) := by decide +kernel
theorem d_Model_errorOfNumber_222 : decode M_Model_errorOfNumber.2.1 222 = .ok (.iconst 1, 1) := by decide +kernel
theorem d_Model_errorOfNumber_223 : decode M_Model_errorOfNumber.2.1 223 = .ok (.isub, 1) := by decide +kernel
theorem d_Model_errorOfNumber_224 : decode M_Model_errorOfNumber.2.1 224 = .ok (.iload_n 3, 1) := by decide +kernel
theorem d_Model_errorOfNumber_225 : decode M_Model_errorOfNumber.2.1 225 = .ok (.iastore, 1) := by decide +kernel
theorem d_Model_errorOfNumber_226 : decode M_Model_errorOfNumber.2.1 226 = .ok (.goto 18, 3) := by decide +kernel
theorem d_Model_errorOfNumber_229 : decode M_Model_errorOfNumber.2.1 229 = .ok (.aload_n 1, 1) := by decide +kernel
theorem d_Model_errorOfNumber_230 : decode M_Model_errorOfNumber.2.1 230 = .ok (.getfield 219, 3) := by decide +kernel
theorem d_Model_errorOfNumber_233 : decode M_Model_errorOfNumber.2.1 233 = .ok (.aload_n 1, 1) := by decide +kernel
theorem d_Model_errorOfNumber_234 : decode M_Model_errorOfNumber.2.1 234 = .ok (.getfield 40, 3) := by decide +kernel
theorem d_Model_errorOfNumber_237 : decode M_Model_errorOfNumber.2.1 237 = .ok (.bipush 11, 2) := by decide +kernel
theorem d_Model_errorOfNumber_239 : decode M_Model_errorOfNumber.2.1 239 = .ok (.iaload, 1) := by decide +kernel
theorem d_Model_errorOfNumber_240 : decode M_Model_errorOfNumber.2.1 240 = .ok (.iconst 1, 1) := by decide +kernel
theorem d_Model_errorOfNumber_241 : decode M_Model_errorOfNumber.2.1 241 = .ok (.isub, 1) := by decide +kernel
theorem d_Model_errorOfNumber_242 : decode M_Model_errorOfNumber.2.1 242 = .ok (.iload_n 3, 1) := by decide +kernel
theorem d_Model_errorOfNumber_243 : decode M_Model_errorOfNumber.2.1 243 = .ok (.iastore, 1) := by decide +kernel
theorem d_Model_errorOfNumber_244 : decode M_Model_errorOfNumber.2.1 244 = .ok (.iload_n 3, 1) := by decide +kernel
theorem d_Model_errorOfNumber_245 : decode M_Model_errorOfNumber.2.1 245 = .ok (.iconst 0, 1) := by decide +kernel
theorem d_Model_errorOfNumber_246 : decode M_Model_errorOfNumber.2.1 246 = .ok (.aload_n 1, 1) := by decide +kernel
theorem d_Model_errorOfNumber_247 : decode M_Model_errorOfNumber.2.1 247 = .ok (.getfield 175, 3) := by decide +kernel
theorem d_Model_errorOfNumber_250 : decode M_Model_errorOfNumber.2.1 250 = .ok (.bipush 9, 2) := by decide +kernel
theorem d_Model_errorOfNumber_252 : decode M_Model_errorOfNumber.2.1 252 = .ok (.if_icmp .ne 8, 3) := by decide +kernel
theorem d_Model_errorOfNumber_255 : decode M_Model_errorOfNumber.2.1 255 = .ok (.bipush 99, 2) := by decide +kernel
theorem d_Model_errorOfNumber_257 : decode M_Model_errorOfNumber.2.1 257 = .ok (.goto 5, 3) := by decide +kernel
theorem d_Model_errorOfNumber_260 : decode M_Model_errorOfNumber.2.1 260 = .ok (.bipush 40, 2) := by decide +kernel
theorem d_Model_errorOfNumber_262 : decode M_Model_errorOfNumber.2.1 262 = .ok (.invokestatic 203, 3) := by decide +kernel
theorem d_Model_errorOfNumber_265 : decode M_Model_errorOfNumber.2.1 265 = .ok (.ireturn, 1) := by decide +kernel
theorem d_Model_errorOfNumber_266 : decode M_Model_errorOfNumber.2.1 266 = .ok (.aload_n 1, 1) := by decide +kernel
theorem d_Model_errorOfNumber_267 : decode M_Model_errorOfNumber.2.1 267 = .ok (.getfield 222, 3) := by decide +kernel
theorem d_Model_errorOfNumber_270 : decode M_Model_errorOfNumber.2.1 270 = .ok (.aload_n 1, 1) := by decide +kernel
theorem d_Model_errorOfNumber_271 : decode M_Model_errorOfNumber.2.1 271 = .ok (.getfield 40, 3) := by decide +kernel
theorem d_Model_errorOfNumber_274 : decode M_Model_errorOfNumber.2.1 274 = .ok (.bipush 11, 2) := by decide +kernel
theorem d_Model_errorOfNumber_276 : decode M_Model_errorOfNumber.2.1 276 = .ok (.iaload, 1) := by decide +kernel
theorem d_Model_errorOfNumber_277 : decode M_Model_errorOfNumber.2.1 277 = .ok (.iconst 1, 1) := by decide +kernel
theorem d_Model_errorOfNumber_278 : decode M_Model_errorOfNumber.2.1 278 = .ok (.isub, 1) := by decide +kernel
theorem d_Model_errorOfNumber_279 : decode M_Model_errorOfNumber.2.1 279 = .ok (.iload_n 3, 1) := by decide +kernel
theorem d_Model_errorOfNumber_280 : decode M_Model_errorOfNumber.2.1 280 = .ok (.iastore, 1) := by decide +kernel
theorem d_Model_errorOfNumber_281 : decode M_Model_errorOfNumber.2.1 281 = .ok (.iload_n 3, 1) := by decide +kernel
theorem d_Model_errorOfNumber_282 : decode M_Model_errorOfNumber.2.1 282 = .ok (.iconst 2, 1) := by decide +kernel
theorem d_Model_errorOfNumber_283 : decode M_Model_errorOfNumber.2.1 283 = .ok (.bipush 6, 2) := by decide +kernel
theorem d_Model_errorOfNumber_285 : decode M_Model_errorOfNumber.2.1 285 = .ok (.invokestatic 203, 3) := by decide +kernel
theorem d_Model_errorOfNumber_288 : decode M_Model_errorOfNumber.2.1 288 = .ok (.ireturn, 1) := by decide +kernel
theorem d_Model_errorOfNumber_289 : decode M_Model_errorOfNumber.2.1 289 = .ok (.aload_n 1, 1) := by decide +kernel
theorem d_Model_errorOfNumber_290 : decode M_Model_errorOfNumber.2.1 290 = .ok (.iload_n 3, 1) := by decide +kernel
theorem d_Model_errorOfNumber_291 : decode M_Model_errorOfNumber.2.1 291 = .ok (.putfield 224, 3) := by decide +kernel
theorem d_Model_errorOfNumber_294 : decode M_Model_errorOfNumber.2.1 294 = .ok (.iload_n 3, 1) := by decide +kernel
theorem d_Model_errorOfNumber_295 : decode M_Model_errorOfNumber.2.1 295 = .ok (.iconst 0, 1) := by decide +kernel
theorem d_Model_errorOfNumber_296 : decode M_Model_errorOfNumber.2.1 296 = .ok (.bipush 7, 2) := by decide +kernel
theorem d_Model_errorOfNumber_298 : decode M_Model_errorOfNumber.2.1 298 = .ok (.invokestatic 203, 3) := by decide +kernel
theorem d_Model_errorOfNumber_301 : decode M_Model_errorOfNumber.2.1 301 = .ok (.ireturn, 1) := by decide +kernel
theorem d_Model_errorOfNumber_302 : decode M_Model_errorOfNumber.2.1 302 = .ok (.aload_n 1, 1) := by decide +kernel
theorem d_Model_errorOfNumber_303 : decode M_Model_errorOfNumber.2.1 303 = .ok (.getfield 227, 3) := by decide +kernel
theorem d_Model_errorOfNumber_306 : decode M_Model_errorOfNumber.2.1 306 = .ok (.aload_n 1, 1) := by decide +kernel
theorem d_Model_errorOfNumber_307 : decode M_Model_errorOfNumber.2.1 307 = .ok (.getfield 224, 3) := by decide +kernel
theorem d_Model_errorOfNumber_310 : decode M_Model_errorOfNumber.2.1 310 = .ok (.iload_n 3, 1) := by decide +kernel
theorem d_Model_errorOfNumber_311 : decode M_Model_errorOfNumber.2.1 311 = .ok (.iastore, 1) := by decide +kernel
theorem d_Model_errorOfNumber_312 : decode M_Model_errorOfNumber.2.1 312 = .ok (.iload_n 3, 1) := by decide +kernel
theorem d_Model_errorOfNumber_313 : decode M_Model_errorOfNumber.2.1 313 = .ok (.iconst 0, 1) := by decide +kernel
theorem d_Model_errorOfNumber_314 : decode M_Model_errorOfNumber.2.1 314 = .ok (.bipush 30, 2) := by decide +kernel
theorem d_Model_errorOfNumber_316 : decode M_Model_errorOfNumber.2.1 316 = .ok (.invokestatic 203, 3) := by decide +kernel
theorem d_Model_errorOfNumber_319 : decode M_Model_errorOfNumber.2.1 319 = .ok (.ireturn, 1) := by decide +kernel
theorem d_Model_errorOfNumber_320 : decode M_Model_errorOfNumber.2.1 320 = .ok (.iconst 0, 1) := by decide +kernel
theorem d_Model_errorOfNumber_321 : decode M_Model_errorOfNumber.2.1 321 = .ok (.ireturn, 1) := by decide +kernel
def s_Model_errorOfNumber (M : MO) (H : SH) (x2 : Nat) : Option (Int32 × SH) := (if x2 ≤ 2500 then ((s_Model_number M H x2).bind fun p3_2 => (if x2 < 401 then (if 1 ≤ x2 then (if (x2 - 1) < 401 then (if ((sh_kd H) (x2 - 1)) = 1 then (if 1 ≤ ((sh_ha H) 0) then (if (((sh_ha H) 0) - 1) < 5 then (if (nI (((sh_ha H) 0) - 1)) = 0 then some ((s_Model_errorOfRange p3_2 0 20), (sh_hg' (sh_me' H (upd (sh_me H) x2 p3_2)) (upd (sh_hg H) (((sh_ha H) 0) - 1) p3_2))) else (if 1 ≤ (((sh_ha H) 0) - 1) then (if ((((sh_ha H) 0) - 1) - 1) < 5 then some ((s_Model_errorOfRange p3_2 (((upd (sh_hg H) (((sh_ha H) 0) - 1) p3_2) ((((sh_ha H) 0) - 1) - 1)) + 1) 20), (sh_hg' (sh_me' H (upd (sh_me H) x2 p3_2)) (upd (sh_hg H) (((sh_ha H) 0) - 1) p3_2))) else none) else none)) else none) else none) else (if ((sh_kd H) (x2 - 1)) = 2 then (if okI ((nI ((sh_ha H) 0)) - 1) 5 = true then some ((s_Model_errorOfRange p3_2 0 300), (sh_sn' (sh_me' H (upd (sh_me H) x2 p3_2)) (upd (sh_sn H) ((nI ((sh_ha H) 0)) - 1).toNatClampNeg p3_2))) else none) else (if ((sh_kd H) (x2 - 1)) = 5 then (if 1 ≤ ((sh_ha H) 3) then (if (((sh_ha H) 3) - 1) < 6 then some ((s_Model_errorOfRange p3_2 1 200), (sh_dp' (sh_me' H (upd (sh_me H) x2 p3_2)) (upd (sh_dp H) (((sh_ha H) 3) - 1) p3_2))) else none) else none) else (if ((sh_kd H) (x2 - 1)) = 8 then (if 1 ≤ ((sh_ha H) 6) then (if (((sh_ha H) 6) - 1) < 4 then some ((s_Model_errorOfRange p3_2 0 99), (sh_br' (sh_me' H (upd (sh_me H) x2 p3_2)) (upd (sh_br H) (((sh_ha H) 6) - 1) p3_2))) else none) else none) else (if ((sh_kd H) (x2 - 1)) = 10 then (if (sh_ln H) = 9 then (if 1 ≤ ((sh_ha H) 9) then (if (((sh_ha H) 9) - 1) < 4 then some ((s_Model_errorOfRange p3_2 0 99), (sh_fo' (sh_me' H (upd (sh_me H) x2 p3_2)) (upd (sh_fo H) (((sh_ha H) 9) - 1) p3_2))) else none) else none) else (if 1 ≤ ((sh_ha H) 11) then (if (((sh_ha H) 11) - 1) < 4 then some ((s_Model_errorOfRange p3_2 0 40), (sh_sk' (sh_me' H (upd (sh_me H) x2 p3_2)) (upd (sh_sk H) (((sh_ha H) 11) - 1) p3_2))) else none) else none)) else (if ((sh_kd H) (x2 - 1)) = 12 then (if 1 ≤ ((sh_ha H) 11) then (if (((sh_ha H) 11) - 1) < 4 then some ((s_Model_errorOfRange p3_2 2 6), (sh_sz' (sh_me' H (upd (sh_me H) x2 p3_2)) (upd (sh_sz H) (((sh_ha H) 11) - 1) p3_2))) else none) else none) else (if ((sh_kd H) (x2 - 1)) = 13 then some ((s_Model_errorOfRange p3_2 0 7), (sh_dt' (sh_me' H (upd (sh_me H) x2 p3_2)) p3_2)) else (if ((sh_kd H) (x2 - 1)) = 14 then (if okI (sh_dt H) 8 = true then some ((s_Model_errorOfRange p3_2 0 30), (sh_wa' (sh_me' H (upd (sh_me H) x2 p3_2)) (upd (sh_wa H) (sh_dt H).toNatClampNeg p3_2))) else none) else some (0, (sh_me' H (upd (sh_me H) x2 p3_2))))))))))) else none) else none) else none)) else none)
set_option maxRecDepth 100000 in
set_option maxHeartbeats 4000000 in
theorem c_Model_errorOfNumber {Γ : G9} {h : AH} {m q qs sa sb ro z : Nat} {M : MO} {H : SH} {x2 : Nat} {p : Int32 × SH} (bx2 : x2 ≤ 2500) (geo : m + 2 ≤ q) (hr : s_Model_errorOfNumber M H x2 = some p) : CallR Γ M_Model_errorOfNumber 2 [.ref m, .ref q, .int (nI x2)] (mk_ Γ h m q qs sa sb ro M H) z (some (.int p.1)) (mk_ Γ h m q qs sa sb ro M p.2) := by
  refine Call.of_go (L := [some (.ref m), some (.ref q), some (.int (nI x2)), none, none]) (by decide +kernel) rfl (by exact Nat.le_of_ble_eq_true rfl) ?_
  unfold s_Model_errorOfNumber at hr
  refine Go.aload_0 d_Model_errorOfNumber_0 rfl ?_
  refine Go.aload_1 d_Model_errorOfNumber_1 rfl ?_
  refine Go.iload_2 d_Model_errorOfNumber_2 rfl ?_
  have o3_1 : x2 ≤ 2500 := Classical.byContradiction fun w => by
    rw [if_neg w] at hr
    cases hr
  rw [if_pos o3_1] at hr
  obtain ⟨p3_2, hp3_2, hr⟩ := Option.bind_eq_some_iff.mp hr
  try dsimp only at hr
  refine Go.cv2r d_Model_errorOfNumber_3 rfl l_Model_196 k_Model_number_v (mk_at_m (by omega)) rfl (c_Model_number (by omega) (by omega) hp3_2) (Nat.ble_eq_true_of_le (by omega)) rfl rfl ?_
  refine Go.istore_3 d_Model_errorOfNumber_6 rfl (by rfl) ?_
  refine Go.aload_1 d_Model_errorOfNumber_7 rfl ?_
  refine Go.getfield d_Model_errorOfNumber_8 rfl f_Model_169 (mk_at_q (by omega)) (by rfl) ?_
  refine Go.iload_2 d_Model_errorOfNumber_11 rfl ?_
  refine Go.iload_3 d_Model_errorOfNumber_12 rfl ?_
  have o13_3 : x2 < 401 := Classical.byContradiction fun w => by
    rw [if_neg w] at hr
    cases hr
  refine Go.iastore d_Model_errorOfNumber_13 rfl (mk_at_q_4 (by omega)) (vp_in_nI o13_3 (by decide)) ?_
  rw [nI_clamp (show x2 < 2 ^ 31 by omega)]
  refine Go.heq (mk_arr_q_4 (by omega)) ?_
  refine Go.aload_1 d_Model_errorOfNumber_14 rfl ?_
  refine Go.getfield d_Model_errorOfNumber_15 rfl f_Model_40 (mk_at_q (by omega)) (by rfl) ?_
  refine Go.iconst (v := 0) d_Model_errorOfNumber_18 rfl (by decide) ?_
  refine Go.iaload d_Model_errorOfNumber_19 rfl (mk_at_q_5 (by omega)) (show vp_in (nI 0) 12 from by first | exact vp_in_nI (by omega) (by omega) | exact vp_nle (by assumption) (by omega) (by omega)) ?_
  rw [show (0 : Int32).toNatClampNeg = 0 from by decide]
  rw [gs_sh_ha_me]
  refine Go.iconst (v := 1) d_Model_errorOfNumber_20 rfl (by decide) ?_
  refine Go.isub d_Model_errorOfNumber_21 rfl ?_
  refine Go.istore_4 d_Model_errorOfNumber_22 rfl (by rfl) ?_
  refine Go.aload_1 d_Model_errorOfNumber_24 rfl ?_
  refine Go.getfield d_Model_errorOfNumber_25 rfl f_Model_93 (mk_at_q (by omega)) (by rfl) ?_
  refine Go.iload_2 d_Model_errorOfNumber_28 rfl ?_
  refine Go.iconst (v := 1) d_Model_errorOfNumber_29 rfl (by decide) ?_
  refine Go.isub d_Model_errorOfNumber_30 rfl ?_
  have o30_4 : 1 ≤ x2 := Classical.byContradiction fun w => by
    rw [if_pos o13_3, if_neg w] at hr
    cases hr
  rw [show (nI x2) - 1 = nI (x2 - 1) from nI_pred1 o30_4]
  have o31_5 : (x2 - 1) < 401 := Classical.byContradiction fun w => by
    rw [if_pos o13_3, if_pos o30_4, if_neg w] at hr
    cases hr
  refine Go.iaload d_Model_errorOfNumber_31 rfl (mk_at_q_1 (by omega)) (vp_in_nI o31_5 (by decide)) ?_
  rw [nI_clamp (show (x2 - 1) < 2 ^ 31 by omega)]
  rw [gs_sh_kd_me]
  by_cases w32_6 : ((sh_kd H) (x2 - 1)) = 1
  · refine Go.tsw (t := 104) d_Model_errorOfNumber_32 (by rw [w32_6]; rfl) ?_
    have o104_7 : 1 ≤ ((sh_ha H) 0) := Classical.byContradiction fun w => by
      rw [if_pos o13_3, if_pos o30_4, if_pos o31_5, if_pos w32_6, if_neg w] at hr
      cases hr
    rw [show ((nI ((sh_ha H) 0)) - 1) = nI (((sh_ha H) 0) - 1) from nI_pred1 o104_7]
    refine Go.aload_1 d_Model_errorOfNumber_104 rfl ?_
    refine Go.getfield d_Model_errorOfNumber_105 rfl f_Model_200 (mk_at_q (by omega)) (by rfl) ?_
    refine Go.iload_4 d_Model_errorOfNumber_108 rfl ?_
    refine Go.iload_3 d_Model_errorOfNumber_110 rfl ?_
    have o111_8 : (((sh_ha H) 0) - 1) < 5 := Classical.byContradiction fun w => by
      rw [if_pos o13_3, if_pos o30_4, if_pos o31_5, if_pos w32_6, if_pos o104_7, if_neg w] at hr
      cases hr
    refine Go.iastore d_Model_errorOfNumber_111 rfl (mk_at_q_7 (by omega)) (vp_in_nI o111_8 (by decide)) ?_
    rw [nI_clamp (show (((sh_ha H) 0) - 1) < 2 ^ 31 by omega)]
    rw [gs_sh_hg_me]
    refine Go.heq (mk_arr_q_7 (by omega)) ?_
    refine Go.iload_3 d_Model_errorOfNumber_112 rfl ?_
    refine Go.iload_4 d_Model_errorOfNumber_113 rfl ?_
    refine Go.if_ne (t := 122) d_Model_errorOfNumber_115 (by decide) rfl (fun c115_9 => ?_) (fun c115_9 => ?_)
    · refine Go.aload_1 d_Model_errorOfNumber_122 rfl ?_
      refine Go.getfield d_Model_errorOfNumber_123 rfl f_Model_200 (mk_at_q (by omega)) (by rfl) ?_
      refine Go.iload_4 d_Model_errorOfNumber_126 rfl ?_
      refine Go.iconst (v := 1) d_Model_errorOfNumber_128 rfl (by decide) ?_
      refine Go.isub d_Model_errorOfNumber_129 rfl ?_
      have o129_10 : 1 ≤ (((sh_ha H) 0) - 1) := Classical.byContradiction fun w => by
        rw [if_pos o13_3, if_pos o30_4, if_pos o31_5, if_pos w32_6, if_pos o104_7, if_pos o111_8, if_neg c115_9, if_neg w] at hr
        cases hr
      rw [show (nI (((sh_ha H) 0) - 1)) - 1 = nI ((((sh_ha H) 0) - 1) - 1) from nI_pred1 o129_10]
      have o130_11 : ((((sh_ha H) 0) - 1) - 1) < 5 := Classical.byContradiction fun w => by
        rw [if_pos o13_3, if_pos o30_4, if_pos o31_5, if_pos w32_6, if_pos o104_7, if_pos o111_8, if_neg c115_9, if_pos o129_10, if_neg w] at hr
        cases hr
      refine Go.iaload d_Model_errorOfNumber_130 rfl (mk_at_q_7 (by omega)) (vp_in_nI o130_11 (by decide)) ?_
      rw [nI_clamp (show ((((sh_ha H) 0) - 1) - 1) < 2 ^ 31 by omega)]
      rw [gs_sh_hg_hg]
      refine Go.iconst (v := 1) d_Model_errorOfNumber_131 rfl (by decide) ?_
      refine Go.iadd d_Model_errorOfNumber_132 rfl ?_
      refine Go.bipush (v := 20) d_Model_errorOfNumber_133 rfl (by decide) ?_
      refine Go.cs3r d_Model_errorOfNumber_135 rfl l_Model_203 k_Model_errorOfRange_s rfl (mk_c_Model_errorOfRange_ (by omega)) (Nat.ble_eq_true_of_le (by omega)) rfl rfl ?_
      rw [if_pos o13_3, if_pos o30_4, if_pos o31_5, if_pos w32_6, if_pos o104_7, if_pos o111_8, if_neg c115_9, if_pos o129_10, if_pos o130_11] at hr
      cases hr
      exact Go.iret d_Model_errorOfNumber_138 rfl rfl ⟨by first | dsimp only | rfl, by dsimp only, rfl⟩
    · refine Go.iconst (v := 0) d_Model_errorOfNumber_118 rfl (by decide) ?_
      refine Go.goto (t := 133) d_Model_errorOfNumber_119 (by decide) ?_
      refine Go.bipush (v := 20) d_Model_errorOfNumber_133 rfl (by decide) ?_
      refine Go.cs3r d_Model_errorOfNumber_135 rfl l_Model_203 k_Model_errorOfRange_s rfl (mk_c_Model_errorOfRange_ (by omega)) (Nat.ble_eq_true_of_le (by omega)) rfl rfl ?_
      rw [if_pos o13_3, if_pos o30_4, if_pos o31_5, if_pos w32_6, if_pos o104_7, if_pos o111_8, if_pos c115_9] at hr
      cases hr
      exact Go.iret d_Model_errorOfNumber_138 rfl rfl ⟨by first | dsimp only | rfl, by dsimp only, rfl⟩
  by_cases w32_12 : ((sh_kd H) (x2 - 1)) = 2
  · refine Go.tsw (t := 139) d_Model_errorOfNumber_32 (by rw [w32_12]; rfl) ?_
    refine Go.aload_1 d_Model_errorOfNumber_139 rfl ?_
    refine Go.getfield d_Model_errorOfNumber_140 rfl f_Model_207 (mk_at_q (by omega)) (by rfl) ?_
    refine Go.iload_4 d_Model_errorOfNumber_143 rfl ?_
    refine Go.iload_3 d_Model_errorOfNumber_145 rfl ?_
    have o146_13 : okI ((nI ((sh_ha H) 0)) - 1) 5 = true := Classical.byContradiction fun w => by
      rw [if_pos o13_3, if_pos o30_4, if_pos o31_5, if_neg w32_6, if_pos w32_12, if_neg w] at hr
      cases hr
    refine Go.iastore d_Model_errorOfNumber_146 rfl (mk_at_q_8 (by omega)) (okI_in o146_13) ?_
    rw [gs_sh_sn_me]
    refine Go.heq (mk_arr_q_8 (by omega)) ?_
    refine Go.iload_3 d_Model_errorOfNumber_147 rfl ?_
    refine Go.iconst (v := 0) d_Model_errorOfNumber_148 rfl (by decide) ?_
    refine Go.sipush (v := 300) d_Model_errorOfNumber_149 rfl (by decide) ?_
    refine Go.cs3r d_Model_errorOfNumber_152 rfl l_Model_203 k_Model_errorOfRange_s rfl (mk_c_Model_errorOfRange_ (by omega)) (Nat.ble_eq_true_of_le (by omega)) rfl rfl ?_
    rw [if_pos o13_3, if_pos o30_4, if_pos o31_5, if_neg w32_6, if_pos w32_12, if_pos o146_13] at hr
    cases hr
    exact Go.iret d_Model_errorOfNumber_155 rfl rfl ⟨by first | dsimp only | rfl, by dsimp only, rfl⟩
  by_cases w32_14 : ((sh_kd H) (x2 - 1)) = 5
  · refine Go.tsw (t := 156) d_Model_errorOfNumber_32 (by rw [w32_14]; rfl) ?_
    refine Go.aload_1 d_Model_errorOfNumber_156 rfl ?_
    refine Go.getfield d_Model_errorOfNumber_157 rfl f_Model_210 (mk_at_q (by omega)) (by rfl) ?_
    refine Go.aload_1 d_Model_errorOfNumber_160 rfl ?_
    refine Go.getfield d_Model_errorOfNumber_161 rfl f_Model_40 (mk_at_q (by omega)) (by rfl) ?_
    refine Go.iconst (v := 3) d_Model_errorOfNumber_164 rfl (by decide) ?_
    refine Go.iaload d_Model_errorOfNumber_165 rfl (mk_at_q_5 (by omega)) (show vp_in (nI 3) 12 from by first | exact vp_in_nI (by omega) (by omega) | exact vp_nle (by assumption) (by omega) (by omega)) ?_
    rw [show (3 : Int32).toNatClampNeg = 3 from by decide]
    rw [gs_sh_ha_me]
    refine Go.iconst (v := 1) d_Model_errorOfNumber_166 rfl (by decide) ?_
    refine Go.isub d_Model_errorOfNumber_167 rfl ?_
    have o167_15 : 1 ≤ ((sh_ha H) 3) := Classical.byContradiction fun w => by
      rw [if_pos o13_3, if_pos o30_4, if_pos o31_5, if_neg w32_6, if_neg w32_12, if_pos w32_14, if_neg w] at hr
      cases hr
    rw [show (nI ((sh_ha H) 3)) - 1 = nI (((sh_ha H) 3) - 1) from nI_pred1 o167_15]
    refine Go.iload_3 d_Model_errorOfNumber_168 rfl ?_
    have o169_16 : (((sh_ha H) 3) - 1) < 6 := Classical.byContradiction fun w => by
      rw [if_pos o13_3, if_pos o30_4, if_pos o31_5, if_neg w32_6, if_neg w32_12, if_pos w32_14, if_pos o167_15, if_neg w] at hr
      cases hr
    refine Go.iastore d_Model_errorOfNumber_169 rfl (mk_at_q_10 (by omega)) (vp_in_nI o169_16 (by decide)) ?_
    rw [nI_clamp (show (((sh_ha H) 3) - 1) < 2 ^ 31 by omega)]
    rw [gs_sh_dp_me]
    refine Go.heq (mk_arr_q_10 (by omega)) ?_
    refine Go.iload_3 d_Model_errorOfNumber_170 rfl ?_
    refine Go.iconst (v := 1) d_Model_errorOfNumber_171 rfl (by decide) ?_
    refine Go.sipush (v := 200) d_Model_errorOfNumber_172 rfl (by decide) ?_
    refine Go.cs3r d_Model_errorOfNumber_175 rfl l_Model_203 k_Model_errorOfRange_s rfl (mk_c_Model_errorOfRange_ (by omega)) (Nat.ble_eq_true_of_le (by omega)) rfl rfl ?_
    rw [if_pos o13_3, if_pos o30_4, if_pos o31_5, if_neg w32_6, if_neg w32_12, if_pos w32_14, if_pos o167_15, if_pos o169_16] at hr
    cases hr
    exact Go.iret d_Model_errorOfNumber_178 rfl rfl ⟨by first | dsimp only | rfl, by dsimp only, rfl⟩
  by_cases w32_17 : ((sh_kd H) (x2 - 1)) = 8
  · refine Go.tsw (t := 179) d_Model_errorOfNumber_32 (by rw [w32_17]; rfl) ?_
    refine Go.aload_1 d_Model_errorOfNumber_179 rfl ?_
    refine Go.getfield d_Model_errorOfNumber_180 rfl f_Model_213 (mk_at_q (by omega)) (by rfl) ?_
    refine Go.aload_1 d_Model_errorOfNumber_183 rfl ?_
    refine Go.getfield d_Model_errorOfNumber_184 rfl f_Model_40 (mk_at_q (by omega)) (by rfl) ?_
    refine Go.bipush (v := 6) d_Model_errorOfNumber_187 rfl (by decide) ?_
    refine Go.iaload d_Model_errorOfNumber_189 rfl (mk_at_q_5 (by omega)) (show vp_in (nI 6) 12 from by first | exact vp_in_nI (by omega) (by omega) | exact vp_nle (by assumption) (by omega) (by omega)) ?_
    rw [show (6 : Int32).toNatClampNeg = 6 from by decide]
    rw [gs_sh_ha_me]
    refine Go.iconst (v := 1) d_Model_errorOfNumber_190 rfl (by decide) ?_
    refine Go.isub d_Model_errorOfNumber_191 rfl ?_
    have o191_18 : 1 ≤ ((sh_ha H) 6) := Classical.byContradiction fun w => by
      rw [if_pos o13_3, if_pos o30_4, if_pos o31_5, if_neg w32_6, if_neg w32_12, if_neg w32_14, if_pos w32_17, if_neg w] at hr
      cases hr
    rw [show (nI ((sh_ha H) 6)) - 1 = nI (((sh_ha H) 6) - 1) from nI_pred1 o191_18]
    refine Go.iload_3 d_Model_errorOfNumber_192 rfl ?_
    have o193_19 : (((sh_ha H) 6) - 1) < 4 := Classical.byContradiction fun w => by
      rw [if_pos o13_3, if_pos o30_4, if_pos o31_5, if_neg w32_6, if_neg w32_12, if_neg w32_14, if_pos w32_17, if_pos o191_18, if_neg w] at hr
      cases hr
    refine Go.iastore d_Model_errorOfNumber_193 rfl (mk_at_q_12 (by omega)) (vp_in_nI o193_19 (by decide)) ?_
    rw [nI_clamp (show (((sh_ha H) 6) - 1) < 2 ^ 31 by omega)]
    rw [gs_sh_br_me]
    refine Go.heq (mk_arr_q_12 (by omega)) ?_
    refine Go.iload_3 d_Model_errorOfNumber_194 rfl ?_
    refine Go.iconst (v := 0) d_Model_errorOfNumber_195 rfl (by decide) ?_
    refine Go.bipush (v := 99) d_Model_errorOfNumber_196 rfl (by decide) ?_
    refine Go.cs3r d_Model_errorOfNumber_198 rfl l_Model_203 k_Model_errorOfRange_s rfl (mk_c_Model_errorOfRange_ (by omega)) (Nat.ble_eq_true_of_le (by omega)) rfl rfl ?_
    rw [if_pos o13_3, if_pos o30_4, if_pos o31_5, if_neg w32_6, if_neg w32_12, if_neg w32_14, if_pos w32_17, if_pos o191_18, if_pos o193_19] at hr
    cases hr
    exact Go.iret d_Model_errorOfNumber_201 rfl rfl ⟨by first | dsimp only | rfl, by dsimp only, rfl⟩
  by_cases w32_20 : ((sh_kd H) (x2 - 1)) = 10
  · refine Go.tsw (t := 202) d_Model_errorOfNumber_32 (by rw [w32_20]; rfl) ?_
    refine Go.aload_1 d_Model_errorOfNumber_202 rfl ?_
    refine Go.getfield d_Model_errorOfNumber_203 rfl f_Model_175 (mk_at_q (by omega)) (by rfl) ?_
    rw [gs_sh_ln_me]
    refine Go.bipush (v := 9) d_Model_errorOfNumber_206 rfl (by decide) ?_
    refine Go.icmp_ne (t := 229) d_Model_errorOfNumber_208 (by decide) rfl (fun c208_21 => ?_) (fun c208_21 => ?_)
    · refine Go.aload_1 d_Model_errorOfNumber_229 rfl ?_
      refine Go.getfield d_Model_errorOfNumber_230 rfl f_Model_219 (mk_at_q (by omega)) (by rfl) ?_
      refine Go.aload_1 d_Model_errorOfNumber_233 rfl ?_
      refine Go.getfield d_Model_errorOfNumber_234 rfl f_Model_40 (mk_at_q (by omega)) (by rfl) ?_
      refine Go.bipush (v := 11) d_Model_errorOfNumber_237 rfl (by decide) ?_
      refine Go.iaload d_Model_errorOfNumber_239 rfl (mk_at_q_5 (by omega)) (show vp_in (nI 11) 12 from by first | exact vp_in_nI (by omega) (by omega) | exact vp_nle (by assumption) (by omega) (by omega)) ?_
      rw [show (11 : Int32).toNatClampNeg = 11 from by decide]
      rw [gs_sh_ha_me]
      refine Go.iconst (v := 1) d_Model_errorOfNumber_240 rfl (by decide) ?_
      refine Go.isub d_Model_errorOfNumber_241 rfl ?_
      have o241_22 : 1 ≤ ((sh_ha H) 11) := Classical.byContradiction fun w => by
        rw [if_pos o13_3, if_pos o30_4, if_pos o31_5, if_neg w32_6, if_neg w32_12, if_neg w32_14, if_neg w32_17, if_pos w32_20, if_neg c208_21, if_neg w] at hr
        cases hr
      rw [show (nI ((sh_ha H) 11)) - 1 = nI (((sh_ha H) 11) - 1) from nI_pred1 o241_22]
      refine Go.iload_3 d_Model_errorOfNumber_242 rfl ?_
      have o243_23 : (((sh_ha H) 11) - 1) < 4 := Classical.byContradiction fun w => by
        rw [if_pos o13_3, if_pos o30_4, if_pos o31_5, if_neg w32_6, if_neg w32_12, if_neg w32_14, if_neg w32_17, if_pos w32_20, if_neg c208_21, if_pos o241_22, if_neg w] at hr
        cases hr
      refine Go.iastore d_Model_errorOfNumber_243 rfl (mk_at_q_17 (by omega)) (vp_in_nI o243_23 (by decide)) ?_
      rw [nI_clamp (show (((sh_ha H) 11) - 1) < 2 ^ 31 by omega)]
      rw [gs_sh_sk_me]
      refine Go.heq (mk_arr_q_17 (by omega)) ?_
      refine Go.iload_3 d_Model_errorOfNumber_244 rfl ?_
      refine Go.iconst (v := 0) d_Model_errorOfNumber_245 rfl (by decide) ?_
      refine Go.aload_1 d_Model_errorOfNumber_246 rfl ?_
      refine Go.getfield d_Model_errorOfNumber_247 rfl f_Model_175 (mk_at_q (by omega)) (by rfl) ?_
      rw [gs_sh_ln_sk, gs_sh_ln_me]
      refine Go.bipush (v := 9) d_Model_errorOfNumber_250 rfl (by decide) ?_
      refine Go.icmp_ne (t := 260) d_Model_errorOfNumber_252 (by decide) rfl (fun c252_24 => ?_) (fun c252_24 => ?_)
      · refine Go.bipush (v := 40) d_Model_errorOfNumber_260 rfl (by decide) ?_
        refine Go.cs3r d_Model_errorOfNumber_262 rfl l_Model_203 k_Model_errorOfRange_s rfl (mk_c_Model_errorOfRange_ (by omega)) (Nat.ble_eq_true_of_le (by omega)) rfl rfl ?_
        rw [if_pos o13_3, if_pos o30_4, if_pos o31_5, if_neg w32_6, if_neg w32_12, if_neg w32_14, if_neg w32_17, if_pos w32_20, if_neg c208_21, if_pos o241_22, if_pos o243_23] at hr
        cases hr
        exact Go.iret d_Model_errorOfNumber_265 rfl rfl ⟨by first | dsimp only | rfl, by dsimp only, rfl⟩
      · exact absurd c252_24 c208_21
    · refine Go.aload_1 d_Model_errorOfNumber_211 rfl ?_
      refine Go.getfield d_Model_errorOfNumber_212 rfl f_Model_216 (mk_at_q (by omega)) (by rfl) ?_
      refine Go.aload_1 d_Model_errorOfNumber_215 rfl ?_
      refine Go.getfield d_Model_errorOfNumber_216 rfl f_Model_40 (mk_at_q (by omega)) (by rfl) ?_
      refine Go.bipush (v := 9) d_Model_errorOfNumber_219 rfl (by decide) ?_
      refine Go.iaload d_Model_errorOfNumber_221 rfl (mk_at_q_5 (by omega)) (show vp_in (nI 9) 12 from by first | exact vp_in_nI (by omega) (by omega) | exact vp_nle (by assumption) (by omega) (by omega)) ?_
      rw [show (9 : Int32).toNatClampNeg = 9 from by decide]
      rw [gs_sh_ha_me]
      refine Go.iconst (v := 1) d_Model_errorOfNumber_222 rfl (by decide) ?_
      refine Go.isub d_Model_errorOfNumber_223 rfl ?_
      have o223_25 : 1 ≤ ((sh_ha H) 9) := Classical.byContradiction fun w => by
        rw [if_pos o13_3, if_pos o30_4, if_pos o31_5, if_neg w32_6, if_neg w32_12, if_neg w32_14, if_neg w32_17, if_pos w32_20, if_pos c208_21, if_neg w] at hr
        cases hr
      rw [show (nI ((sh_ha H) 9)) - 1 = nI (((sh_ha H) 9) - 1) from nI_pred1 o223_25]
      refine Go.iload_3 d_Model_errorOfNumber_224 rfl ?_
      have o225_26 : (((sh_ha H) 9) - 1) < 4 := Classical.byContradiction fun w => by
        rw [if_pos o13_3, if_pos o30_4, if_pos o31_5, if_neg w32_6, if_neg w32_12, if_neg w32_14, if_neg w32_17, if_pos w32_20, if_pos c208_21, if_pos o223_25, if_neg w] at hr
        cases hr
      refine Go.iastore d_Model_errorOfNumber_225 rfl (mk_at_q_14 (by omega)) (vp_in_nI o225_26 (by decide)) ?_
      rw [nI_clamp (show (((sh_ha H) 9) - 1) < 2 ^ 31 by omega)]
      rw [gs_sh_fo_me]
      refine Go.heq (mk_arr_q_14 (by omega)) ?_
      refine Go.goto (t := 244) d_Model_errorOfNumber_226 (by decide) ?_
      refine Go.iload_3 d_Model_errorOfNumber_244 rfl ?_
      refine Go.iconst (v := 0) d_Model_errorOfNumber_245 rfl (by decide) ?_
      refine Go.aload_1 d_Model_errorOfNumber_246 rfl ?_
      refine Go.getfield d_Model_errorOfNumber_247 rfl f_Model_175 (mk_at_q (by omega)) (by rfl) ?_
      rw [gs_sh_ln_fo, gs_sh_ln_me]
      refine Go.bipush (v := 9) d_Model_errorOfNumber_250 rfl (by decide) ?_
      refine Go.icmp_ne (t := 260) d_Model_errorOfNumber_252 (by decide) rfl (fun c252_27 => ?_) (fun c252_27 => ?_)
      · exact absurd c208_21 c252_27
      · refine Go.bipush (v := 99) d_Model_errorOfNumber_255 rfl (by decide) ?_
        refine Go.goto (t := 262) d_Model_errorOfNumber_257 (by decide) ?_
        refine Go.cs3r d_Model_errorOfNumber_262 rfl l_Model_203 k_Model_errorOfRange_s rfl (mk_c_Model_errorOfRange_ (by omega)) (Nat.ble_eq_true_of_le (by omega)) rfl rfl ?_
        rw [if_pos o13_3, if_pos o30_4, if_pos o31_5, if_neg w32_6, if_neg w32_12, if_neg w32_14, if_neg w32_17, if_pos w32_20, if_pos c208_21, if_pos o223_25, if_pos o225_26] at hr
        cases hr
        exact Go.iret d_Model_errorOfNumber_265 rfl rfl ⟨by first | dsimp only | rfl, by dsimp only, rfl⟩
  by_cases w32_28 : ((sh_kd H) (x2 - 1)) = 12
  · refine Go.tsw (t := 266) d_Model_errorOfNumber_32 (by rw [w32_28]; rfl) ?_
    refine Go.aload_1 d_Model_errorOfNumber_266 rfl ?_
    refine Go.getfield d_Model_errorOfNumber_267 rfl f_Model_222 (mk_at_q (by omega)) (by rfl) ?_
    refine Go.aload_1 d_Model_errorOfNumber_270 rfl ?_
    refine Go.getfield d_Model_errorOfNumber_271 rfl f_Model_40 (mk_at_q (by omega)) (by rfl) ?_
    refine Go.bipush (v := 11) d_Model_errorOfNumber_274 rfl (by decide) ?_
    refine Go.iaload d_Model_errorOfNumber_276 rfl (mk_at_q_5 (by omega)) (show vp_in (nI 11) 12 from by first | exact vp_in_nI (by omega) (by omega) | exact vp_nle (by assumption) (by omega) (by omega)) ?_
    rw [show (11 : Int32).toNatClampNeg = 11 from by decide]
    rw [gs_sh_ha_me]
    refine Go.iconst (v := 1) d_Model_errorOfNumber_277 rfl (by decide) ?_
    refine Go.isub d_Model_errorOfNumber_278 rfl ?_
    have o278_29 : 1 ≤ ((sh_ha H) 11) := Classical.byContradiction fun w => by
      rw [if_pos o13_3, if_pos o30_4, if_pos o31_5, if_neg w32_6, if_neg w32_12, if_neg w32_14, if_neg w32_17, if_neg w32_20, if_pos w32_28, if_neg w] at hr
      cases hr
    rw [show (nI ((sh_ha H) 11)) - 1 = nI (((sh_ha H) 11) - 1) from nI_pred1 o278_29]
    refine Go.iload_3 d_Model_errorOfNumber_279 rfl ?_
    have o280_30 : (((sh_ha H) 11) - 1) < 4 := Classical.byContradiction fun w => by
      rw [if_pos o13_3, if_pos o30_4, if_pos o31_5, if_neg w32_6, if_neg w32_12, if_neg w32_14, if_neg w32_17, if_neg w32_20, if_pos w32_28, if_pos o278_29, if_neg w] at hr
      cases hr
    refine Go.iastore d_Model_errorOfNumber_280 rfl (mk_at_q_16 (by omega)) (vp_in_nI o280_30 (by decide)) ?_
    rw [nI_clamp (show (((sh_ha H) 11) - 1) < 2 ^ 31 by omega)]
    rw [gs_sh_sz_me]
    refine Go.heq (mk_arr_q_16 (by omega)) ?_
    refine Go.iload_3 d_Model_errorOfNumber_281 rfl ?_
    refine Go.iconst (v := 2) d_Model_errorOfNumber_282 rfl (by decide) ?_
    refine Go.bipush (v := 6) d_Model_errorOfNumber_283 rfl (by decide) ?_
    refine Go.cs3r d_Model_errorOfNumber_285 rfl l_Model_203 k_Model_errorOfRange_s rfl (mk_c_Model_errorOfRange_ (by omega)) (Nat.ble_eq_true_of_le (by omega)) rfl rfl ?_
    rw [if_pos o13_3, if_pos o30_4, if_pos o31_5, if_neg w32_6, if_neg w32_12, if_neg w32_14, if_neg w32_17, if_neg w32_20, if_pos w32_28, if_pos o278_29, if_pos o280_30] at hr
    cases hr
    exact Go.iret d_Model_errorOfNumber_288 rfl rfl ⟨by first | dsimp only | rfl, by dsimp only, rfl⟩
  by_cases w32_31 : ((sh_kd H) (x2 - 1)) = 13
  · refine Go.tsw (t := 289) d_Model_errorOfNumber_32 (by rw [w32_31]; rfl) ?_
    refine Go.aload_1 d_Model_errorOfNumber_289 rfl ?_
    refine Go.iload_3 d_Model_errorOfNumber_290 rfl ?_
    refine Go.putfield d_Model_errorOfNumber_291 rfl f_Model_224_p (Or.inl (fun C T N h => by cases h; rfl)) (mk_at_q (by omega)) (by exact Nat.le_of_ble_eq_true rfl) rfl rfl ?_
    refine Go.heq (mk_put_q_dayTold (by omega)) ?_
    refine Go.iload_3 d_Model_errorOfNumber_294 rfl ?_
    refine Go.iconst (v := 0) d_Model_errorOfNumber_295 rfl (by decide) ?_
    refine Go.bipush (v := 7) d_Model_errorOfNumber_296 rfl (by decide) ?_
    refine Go.cs3r d_Model_errorOfNumber_298 rfl l_Model_203 k_Model_errorOfRange_s rfl (mk_c_Model_errorOfRange_ (by omega)) (Nat.ble_eq_true_of_le (by omega)) rfl rfl ?_
    rw [if_pos o13_3, if_pos o30_4, if_pos o31_5, if_neg w32_6, if_neg w32_12, if_neg w32_14, if_neg w32_17, if_neg w32_20, if_neg w32_28, if_pos w32_31] at hr
    cases hr
    exact Go.iret d_Model_errorOfNumber_301 rfl rfl ⟨by first | dsimp only | rfl, by dsimp only, rfl⟩
  by_cases w32_32 : ((sh_kd H) (x2 - 1)) = 14
  · refine Go.tsw (t := 302) d_Model_errorOfNumber_32 (by rw [w32_32]; rfl) ?_
    refine Go.aload_1 d_Model_errorOfNumber_302 rfl ?_
    refine Go.getfield d_Model_errorOfNumber_303 rfl f_Model_227 (mk_at_q (by omega)) (by rfl) ?_
    refine Go.aload_1 d_Model_errorOfNumber_306 rfl ?_
    refine Go.getfield d_Model_errorOfNumber_307 rfl f_Model_224 (mk_at_q (by omega)) (by rfl) ?_
    rw [gs_sh_dt_me]
    refine Go.iload_3 d_Model_errorOfNumber_310 rfl ?_
    have o311_33 : okI (sh_dt H) 8 = true := Classical.byContradiction fun w => by
      rw [if_pos o13_3, if_pos o30_4, if_pos o31_5, if_neg w32_6, if_neg w32_12, if_neg w32_14, if_neg w32_17, if_neg w32_20, if_neg w32_28, if_neg w32_31, if_pos w32_32, if_neg w] at hr
      cases hr
    refine Go.iastore d_Model_errorOfNumber_311 rfl (mk_at_q_18 (by omega)) (okI_in o311_33) ?_
    rw [gs_sh_wa_me]
    refine Go.heq (mk_arr_q_18 (by omega)) ?_
    refine Go.iload_3 d_Model_errorOfNumber_312 rfl ?_
    refine Go.iconst (v := 0) d_Model_errorOfNumber_313 rfl (by decide) ?_
    refine Go.bipush (v := 30) d_Model_errorOfNumber_314 rfl (by decide) ?_
    refine Go.cs3r d_Model_errorOfNumber_316 rfl l_Model_203 k_Model_errorOfRange_s rfl (mk_c_Model_errorOfRange_ (by omega)) (Nat.ble_eq_true_of_le (by omega)) rfl rfl ?_
    rw [if_pos o13_3, if_pos o30_4, if_pos o31_5, if_neg w32_6, if_neg w32_12, if_neg w32_14, if_neg w32_17, if_neg w32_20, if_neg w32_28, if_neg w32_31, if_pos w32_32, if_pos o311_33] at hr
    cases hr
    exact Go.iret d_Model_errorOfNumber_319 rfl rfl ⟨by first | dsimp only | rfl, by dsimp only, rfl⟩
  refine Go.tsw (t := 320) d_Model_errorOfNumber_32 (tsw_d fun n hn => by
      match n, hn with
      | 0, _ => exact Or.inr fun w => w32_6 (i32_eq w)
      | 1, _ => exact Or.inr fun w => w32_12 (i32_eq w)
      | 2, _ => exact Or.inl rfl
      | 3, _ => exact Or.inl rfl
      | 4, _ => exact Or.inr fun w => w32_14 (i32_eq w)
      | 5, _ => exact Or.inl rfl
      | 6, _ => exact Or.inl rfl
      | 7, _ => exact Or.inr fun w => w32_17 (i32_eq w)
      | 8, _ => exact Or.inl rfl
      | 9, _ => exact Or.inr fun w => w32_20 (i32_eq w)
      | 10, _ => exact Or.inl rfl
      | 11, _ => exact Or.inr fun w => w32_28 (i32_eq w)
      | 12, _ => exact Or.inr fun w => w32_31 (i32_eq w)
      | 13, _ => exact Or.inr fun w => w32_32 (i32_eq w)
      | _ + 14, w => exact absurd w (by simp)) ?_
  refine Go.iconst (v := 0) d_Model_errorOfNumber_320 rfl (by decide) ?_
  rw [if_pos o13_3, if_pos o30_4, if_pos o31_5, if_neg w32_6, if_neg w32_12, if_neg w32_14, if_neg w32_17, if_neg w32_20, if_neg w32_28, if_neg w32_31, if_neg w32_32] at hr
  cases hr
  exact Go.iret d_Model_errorOfNumber_321 rfl rfl ⟨by first | dsimp only | rfl, by dsimp only, rfl⟩
