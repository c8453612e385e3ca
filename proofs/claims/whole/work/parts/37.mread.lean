/-! the reference: what a name breaks; reading -/
theorem mk_c_Model_isSort_ {Γ : G9} {h : AH} {m q qs sa sb ro z : Nat} {M : MO} {H : SH} {x1 : Int32} (geo : m + 2 ≤ q) : CallR Γ M_Model_isSort 0 [.int x1] (mk_ Γ h m q qs sa sb ro M H) z (some (.int (s_Model_isSort x1))) (mk_ Γ h m q qs sa sb ro M H) := by
  unfold mk_
  exact CallR.conv rfl rfl (c_Model_isSort)
theorem mk_c_Model_sortBehind_ {Γ : G9} {h : AH} {m q qs sa sb ro z : Nat} {M : MO} {H : SH} {x1 : Int32} (geo : m + 2 ≤ q) : CallR Γ M_Model_sortBehind 0 [.int x1] (mk_ Γ h m q qs sa sb ro M H) z (some (.int (s_Model_sortBehind x1))) (mk_ Γ h m q qs sa sb ro M H) := by
  unfold mk_
  exact CallR.conv rfl rfl (c_Model_sortBehind)
set_option maxRecDepth 100000 in
set_option maxHeartbeats 4000000 in
theorem cv_Model_find {Γ : G9} {h : AH} {m q qs sa sb ro z : Nat} {M : MO} {H : SH} {x2 : Nat} {x3 : Nat} {vx2 : Int32} {vx3 : Int32} {p : Int32} (ex2 : vx2 = nI x2) (ex3 : vx3 = nI x3) (bx2 : x2 ≤ 12) (bx3 : x3 ≤ 2500) (geo : m + 2 ≤ q) (hr : s_Model_find M H x2 x3 = some p) : CallR Γ M_Model_find 1 [.ref m, .ref q, .int vx2, .int vx3] (mk_ Γ h m q qs sa sb ro M H) z (some (.int p)) (mk_ Γ h m q qs sa sb ro M H) := by
  subst ex2
  subst ex3
  exact c_Model_find bx2 bx3 geo hr
theorem gs_sh_or_me {S : SH} {v : Nat → Int32} : sh_or (sh_me' S v) = sh_or S := rfl
theorem mk_at_q_15 {Γ : G9} {h : AH} {m q qs sa sb ro : Nat} {M : MO} {H : SH} (geo : m + 2 ≤ q) : (mk_ Γ h m q qs sa sb ro M H) (q + 15) = some (aI Γ 4 (sh_ti H)) := by
  unfold mk_
  exact (sh_g15)
theorem mk_arr_q_15 {Γ : G9} {h : AH} {m q qs sa sb ro : Nat} {M : MO} {H : SH} {v : Nat → Int32} (geo : m + 2 ≤ q) : hup (mk_ Γ h m q qs sa sb ro M H) (q + 15) (aI Γ 4 v) = (mk_ Γ h m q qs sa sb ro M (sh_ti' H v)) := by
  unfold mk_
  exact (sh_a_ti (v := v))
theorem gs_sh_ti_me {S : SH} {v : Nat → Int32} : sh_ti (sh_me' S v) = sh_ti S := rfl
theorem mk_at_q_13 {Γ : G9} {h : AH} {m q qs sa sb ro : Nat} {M : MO} {H : SH} (geo : m + 2 ≤ q) : (mk_ Γ h m q qs sa sb ro M H) (q + 13) = some (aI Γ 4 (sh_di H)) := by
  unfold mk_
  exact (sh_g13)
theorem mk_arr_q_13 {Γ : G9} {h : AH} {m q qs sa sb ro : Nat} {M : MO} {H : SH} {v : Nat → Int32} (geo : m + 2 ≤ q) : hup (mk_ Γ h m q qs sa sb ro M H) (q + 13) (aI Γ 4 v) = (mk_ Γ h m q qs sa sb ro M (sh_di' H v)) := by
  unfold mk_
  exact (sh_a_di (v := v))
theorem gs_sh_di_me {S : SH} {v : Nat → Int32} : sh_di (sh_me' S v) = sh_di S := rfl
theorem gs_sh_ln_di {S : SH} {v : Nat → Int32} : sh_ln (sh_di' S v) = sh_ln S := rfl
theorem gs_sh_ha_di {S : SH} {v : Nat → Int32} : sh_ha (sh_di' S v) = sh_ha S := rfl
theorem gs_sh_ti_di {S : SH} {v : Nat → Int32} : sh_ti (sh_di' S v) = sh_ti S := rfl
theorem mk_at_q_9 {Γ : G9} {h : AH} {m q qs sa sb ro : Nat} {M : MO} {H : SH} (geo : m + 2 ≤ q) : (mk_ Γ h m q qs sa sb ro M H) (q + 9) = some (aI Γ 6 (sh_si H)) := by
  unfold mk_
  exact (sh_g9)
theorem mk_arr_q_9 {Γ : G9} {h : AH} {m q qs sa sb ro : Nat} {M : MO} {H : SH} {v : Nat → Int32} (geo : m + 2 ≤ q) : hup (mk_ Γ h m q qs sa sb ro M H) (q + 9) (aI Γ 6 v) = (mk_ Γ h m q qs sa sb ro M (sh_si' H v)) := by
  unfold mk_
  exact (sh_a_si (v := v))
theorem gs_sh_si_me {S : SH} {v : Nat → Int32} : sh_si (sh_me' S v) = sh_si S := rfl
theorem gs_sh_ln_si {S : SH} {v : Nat → Int32} : sh_ln (sh_si' S v) = sh_ln S := rfl
theorem gs_sh_ha_si {S : SH} {v : Nat → Int32} : sh_ha (sh_si' S v) = sh_ha S := rfl
theorem gs_sh_ti_si {S : SH} {v : Nat → Int32} : sh_ti (sh_si' S v) = sh_ti S := rfl
theorem gs_sh_di_si {S : SH} {v : Nat → Int32} : sh_di (sh_si' S v) = sh_di S := rfl
theorem mk_at_q_11 {Γ : G9} {h : AH} {m q qs sa sb ro : Nat} {M : MO} {H : SH} (geo : m + 2 ≤ q) : (mk_ Γ h m q qs sa sb ro M H) (q + 11) = some (aI Γ 4 (sh_ab H)) := by
  unfold mk_
  exact (sh_g11)
theorem mk_arr_q_11 {Γ : G9} {h : AH} {m q qs sa sb ro : Nat} {M : MO} {H : SH} {v : Nat → Int32} (geo : m + 2 ≤ q) : hup (mk_ Γ h m q qs sa sb ro M H) (q + 11) (aI Γ 4 v) = (mk_ Γ h m q qs sa sb ro M (sh_ab' H v)) := by
  unfold mk_
  exact (sh_a_ab (v := v))
theorem gs_sh_ab_me {S : SH} {v : Nat → Int32} : sh_ab (sh_me' S v) = sh_ab S := rfl
theorem mk_at_q_20 {Γ : G9} {h : AH} {m q qs sa sb ro : Nat} {M : MO} {H : SH} (geo : m + 2 ≤ q) : (mk_ Γ h m q qs sa sb ro M H) (q + 20) = some (aI Γ 20 (sh_on H)) := by
  unfold mk_
  exact (sh_g20)
theorem mk_arr_q_20 {Γ : G9} {h : AH} {m q qs sa sb ro : Nat} {M : MO} {H : SH} {v : Nat → Int32} (geo : m + 2 ≤ q) : hup (mk_ Γ h m q qs sa sb ro M H) (q + 20) (aI Γ 20 v) = (mk_ Γ h m q qs sa sb ro M (sh_on' H v)) := by
  unfold mk_
  exact (sh_a_on (v := v))
theorem gs_sh_on_me {S : SH} {v : Nat → Int32} : sh_on (sh_me' S v) = sh_on S := rfl
theorem mk_at_q_21 {Γ : G9} {h : AH} {m q qs sa sb ro : Nat} {M : MO} {H : SH} (geo : m + 2 ≤ q) : (mk_ Γ h m q qs sa sb ro M H) (q + 21) = some (aI Γ 20 (sh_ot H)) := by
  unfold mk_
  exact (sh_g21)
theorem mk_arr_q_21 {Γ : G9} {h : AH} {m q qs sa sb ro : Nat} {M : MO} {H : SH} {v : Nat → Int32} (geo : m + 2 ≤ q) : hup (mk_ Γ h m q qs sa sb ro M H) (q + 21) (aI Γ 20 v) = (mk_ Γ h m q qs sa sb ro M (sh_ot' H v)) := by
  unfold mk_
  exact (sh_a_ot (v := v))
theorem gs_sh_ot_me {S : SH} {v : Nat → Int32} : sh_ot (sh_me' S v) = sh_ot S := rfl
set_option maxRecDepth 100000 in
set_option maxHeartbeats 4000000 in
theorem cv_Model_errorOfNew {Γ : G9} {h : AH} {m q qs sa sb ro z : Nat} {M : MO} {H : SH} {x2 : Nat} {x3 : Nat} {vx2 : Int32} {vx3 : Int32} {p : Int32 × SH} (ex2 : vx2 = nI x2) (ex3 : vx3 = nI x3) (bx2 : x2 ≤ 12) (bx3 : x3 ≤ 2500) (geo : m + 2 ≤ q) (hr : s_Model_errorOfNew M H x2 x3 = some p) : CallR Γ M_Model_errorOfNew 2 [.ref m, .ref q, .int vx2, .int vx3] (mk_ Γ h m q qs sa sb ro M H) z (some (.int p.1)) (mk_ Γ h m q qs sa sb ro M p.2) := by
  subst ex2
  subst ex3
  exact c_Model_errorOfNew bx2 bx3 geo hr
theorem d_Model_errorOfName_0 : decode M_Model_errorOfName.2.1 0 = .ok (.aload_n 1, 1) := by decide +kernel
theorem d_Model_errorOfName_1 : decode M_Model_errorOfName.2.1 1 = .ok (.getfield 93, 3) := by decide +kernel
theorem d_Model_errorOfName_4 : decode M_Model_errorOfName.2.1 4 = .ok (.iload_n 2, 1) := by decide +kernel
theorem d_Model_errorOfName_5 : decode M_Model_errorOfName.2.1 5 = .ok (.iconst 1, 1) := by decide +kernel
theorem d_Model_errorOfName_6 : decode M_Model_errorOfName.2.1 6 = .ok (.isub, 1) := by decide +kernel
theorem d_Model_errorOfName_7 : decode M_Model_errorOfName.2.1 7 = .ok (.iaload, 1) := by decide +kernel
theorem d_Model_errorOfName_8 : decode M_Model_errorOfName.2.1 8 = .ok (.istore_n 3, 1) := by decide +kernel
theorem d_Model_errorOfName_9 : decode M_Model_errorOfName.2.1 9 = .ok (.iload_n 3, 1) := by decide +kernel
theorem d_Model_errorOfName_10 : decode M_Model_errorOfName.2.1 10 = .ok (.invokestatic 160, 3) := by decide +kernel
theorem d_Model_errorOfName_13 : decode M_Model_errorOfName.2.1 13 = .ok (.ifCond .eq 11, 3) := by decide +kernel
theorem d_Model_errorOfName_16 : decode M_Model_errorOfName.2.1 16 = .ok (.aload_n 0, 1) := by decide +kernel
theorem d_Model_errorOfName_17 : decode M_Model_errorOfName.2.1 17 = .ok (.aload_n 1, 1) := by decide +kernel
theorem d_Model_errorOfName_18 : decode M_Model_errorOfName.2.1 18 = .ok (.iload_n 3, 1) := by decide +kernel
theorem d_Model_errorOfName_19 : decode M_Model_errorOfName.2.1 19 = .ok (.iload_n 2, 1) := by decide +kernel
theorem d_Model_errorOfName_20 : decode M_Model_errorOfName.2.1 20 = .ok (.invokevirtual 163, 3) := by decide +kernel
theorem d_Model_errorOfName_23 : decode M_Model_errorOfName.2.1 23 = .ok (.ireturn, 1) := by decide +kernel
theorem d_Model_errorOfName_24 : decode M_Model_errorOfName.2.1 24 = .ok (.aload_n 0, 1) := by decide +kernel
theorem d_Model_errorOfName_25 : decode M_Model_errorOfName.2.1 25 = .ok (.aload_n 1, 1) := by decide +kernel
theorem d_Model_errorOfName_26 : decode M_Model_errorOfName.2.1 26 = .ok (.iload_n 3, 1) := by decide +kernel
theorem d_Model_errorOfName_27 : decode M_Model_errorOfName.2.1 27 = .ok (.invokestatic 166, 3) := by decide +kernel
theorem d_Model_errorOfName_30 : decode M_Model_errorOfName.2.1 30 = .ok (.iload_n 2, 1) := by decide +kernel
theorem d_Model_errorOfName_31 : decode M_Model_errorOfName.2.1 31 = .ok (.invokevirtual 153, 3) := by decide +kernel
theorem d_Model_errorOfName_34 : decode M_Model_errorOfName.2.1 34 = .ok (.istore 4, 2) := by decide +kernel
theorem d_Model_errorOfName_36 : decode M_Model_errorOfName.2.1 36 = .ok (.aload_n 1, 1) := by decide +kernel
theorem d_Model_errorOfName_37 : decode M_Model_errorOfName.2.1 37 = .ok (.getfield 169, 3) := by decide +kernel
theorem d_Model_errorOfName_40 : decode M_Model_errorOfName.2.1 40 = .ok (.iload_n 2, 1) := by decide +kernel
theorem d_Model_errorOfName_41 : decode M_Model_errorOfName.2.1 41 = .ok (.iload 4, 2) := by decide +kernel
theorem d_Model_errorOfName_43 : decode M_Model_errorOfName.2.1 43 = .ok (.iastore, 1) := by decide +kernel
theorem d_Model_errorOfName_44 : decode M_Model_errorOfName.2.1 44 = .ok (.iload 4, 2) := by decide +kernel
theorem d_Model_errorOfName_46 : decode M_Model_errorOfName.2.1 46 = .ok (.iconst (-1), 1) := by decide +kernel
theorem d_Model_errorOfName_47 : decode M_Model_errorOfName.2.1 47 = .ok (.if_icmp .ne 5, 3) := by decide +kernel
theorem d_Model_errorOfName_50 : decode M_Model_errorOfName.2.1 50 = .ok (.iconst 3, 1) := by decide +kernel
theorem d_Model_errorOfName_51 : decode M_Model_errorOfName.2.1 51 = .ok (.ireturn, 1) := by decide +kernel
theorem d_Model_errorOfName_52 : decode M_Model_errorOfName.2.1 52 = .ok (.aload_n 1, 1) := by decide +kernel
theorem d_Model_errorOfName_53 : decode M_Model_errorOfName.2.1 53 = .ok (.getfield 172, 3) := by decide +kernel
theorem d_Model_errorOfName_56 : decode M_Model_errorOfName.2.1 56 = .ok (.iconst 1, 1) := by decide +kernel
theorem d_Model_errorOfName_57 : decode M_Model_errorOfName.2.1 57 = .ok (.isub, 1) := by decide +kernel
theorem d_Model_errorOfName_58 : decode M_Model_errorOfName.2.1 58 = .ok (.istore 5, 2) := by decide +kernel
theorem d_Model_errorOfName_60 : decode M_Model_errorOfName.2.1 60 = .ok (.iload_n 3, 1) := by decide +kernel
theorem d_Model_errorOfName_61 : decode M_Model_errorOfName.2.1 61 = .ok (.tableswitch 202 4 21 #[87, 202, 202, 162, 202, 202, 202, 202, 202, 202, 202, 180, 180, 180, 191, 180, 202, 180], 87) := by decide +kernel
theorem d_Model_errorOfName_148 : decode M_Model_errorOfName.2.1 148 = .ok (.aload_n 1, 1) := by decide +kernel
theorem d_Model_errorOfName_149 : decode M_Model_errorOfName.2.1 149 = .ok (.getfield 175, 3) := by decide +kernel
theorem d_Model_errorOfName_152 : decode M_Model_errorOfName.2.1 152 = .ok (.iconst 3, 1) := by decide +kernel
theorem d_Model_errorOfName_153 : decode M_Model_errorOfName.2.1 153 = .ok (.if_icmp .ne 18, 3) := by decide +kernel
theorem d_Model_errorOfName_156 : decode M_Model_errorOfName.2.1 156 = .ok (.aload_n 1, 1) := by decide +kernel
theorem d_Model_errorOfName_157 : decode M_Model_errorOfName.2.1 157 = .ok (.getfield 178, 3) := by decide +kernel
theorem d_Model_errorOfName_160 : decode M_Model_errorOfName.2.1 160 = .ok (.aload_n 1, 1) := by decide +kernel
theorem d_Model_errorOfName_161 : decode M_Model_errorOfName.2.1 161 = .ok (.getfield 40, 3) := by decide +kernel
theorem d_Model_errorOfName_164 : decode M_Model_errorOfName.2.1 164 = .ok (.iconst 3, 1) := by decide +kernel
theorem d_Model_errorOfName_165 : decode M_Model_errorOfName.2.1 165 = .ok (.iaload, 1) := by decide +kernel
theorem d_Model_errorOfName_166 : decode M_Model_errorOfName.2.1 166 = .ok (.iconst 1, 1) := by decide +kernel
theorem d_Model_errorOfName_167 : decode M_Model_errorOfName.2.1 167 = .ok (.isub, 1) := by decide +kernel
theorem d_Model_errorOfName_168 : decode M_Model_errorOfName.2.1 168 = .ok (.iload 4, 2) := by decide +kernel
theorem d_Model_errorOfName_170 : decode M_Model_errorOfName.2.1 170 = .ok (.iastore, 1) := by decide +kernel
theorem d_Model_errorOfName_171 : decode M_Model_errorOfName.2.1 171 = .ok (.aload_n 1, 1) := by decide +kernel
theorem d_Model_errorOfName_172 : decode M_Model_errorOfName.2.1 172 = .ok (.getfield 175, 3) := by decide +kernel
theorem d_Model_errorOfName_175 : decode M_Model_errorOfName.2.1 175 = .ok (.bipush 9, 2) := by decide +kernel
theorem d_Model_errorOfName_177 : decode M_Model_errorOfName.2.1 177 = .ok (.if_icmp .ne 19, 3) := by decide +kernel
theorem d_Model_errorOfName_180 : decode M_Model_errorOfName.2.1 180 = .ok (.aload_n 1, 1) := by decide +kernel
theorem d_Model_errorOfName_181 : decode M_Model_errorOfName.2.1 181 = .ok (.getfield 181, 3) := by decide +kernel
theorem d_Model_errorOfName_184 : decode M_Model_errorOfName.2.1 184 = .ok (.aload_n 1, 1) := by decide +kernel
theorem d_Model_errorOfName_185 : decode M_Model_errorOfName.2.1 185 = .ok (.getfield 40, 3) := by decide +kernel
theorem d_Model_errorOfName_188 : decode M_Model_errorOfName.2.1 188 = .ok (.bipush 9, 2) := by decide +kernel
theorem d_Model_errorOfName_190 : decode M_Model_errorOfName.2.1 190 = .ok (.iaload, 1) := by decide +kernel
theorem d_Model_errorOfName_191 : decode M_Model_errorOfName.2.1 191 = .ok (.iconst 1, 1) := by decide +kernel
theorem d_Model_errorOfName_192 : decode M_Model_errorOfName.2.1 192 = .ok (.isub, 1) := by decide +kernel
theorem d_Model_errorOfName_193 : decode M_Model_errorOfName.2.1 193 = .ok (.iload 4, 2) := by decide +kernel
theorem d_Model_errorOfName_195 : decode M_Model_errorOfName.2.1 195 = .ok (.iastore, 1) := by decide +kernel
theorem d_Model_errorOfName_196 : decode M_Model_errorOfName.2.1 196 = .ok (.aload_n 1, 1) := by decide +kernel
theorem d_Model_errorOfName_197 : decode M_Model_errorOfName.2.1 197 = .ok (.getfield 175, 3) := by decide +kernel
theorem d_Model_errorOfName_200 : decode M_Model_errorOfName.2.1 200 = .ok (.bipush 11, 2) := by decide +kernel
theorem d_Model_errorOfName_202 : decode M_Model_errorOfName.2.1 202 = .ok (.if_icmp .ne 19, 3) := by decide +kernel
theorem d_Model_errorOfName_205 : decode M_Model_errorOfName.2.1 205 = .ok (.aload_n 1, 1) := by decide +kernel
theorem d_Model_errorOfName_206 : decode M_Model_errorOfName.2.1 206 = .ok (.getfield 184, 3) := by decide +kernel
theorem d_Model_errorOfName_209 : decode M_Model_errorOfName.2.1 209 = .ok (.aload_n 1, 1) := by decide +kernel
theorem d_Model_errorOfName_210 : decode M_Model_errorOfName.2.1 210 = .ok (.getfield 40, 3) := by decide +kernel
theorem d_Model_errorOfName_213 : decode M_Model_errorOfName.2.1 213 = .ok (.bipush 11, 2) := by decide +kernel
theorem d_Model_errorOfName_215 : decode M_Model_errorOfName.2.1 215 = .ok (.iaload, 1) := by decide +kernel
theorem d_Model_errorOfName_216 : decode M_Model_errorOfName.2.1 216 = .ok (.iconst 1, 1) := by decide +kernel
theorem d_Model_errorOfName_217 : decode M_Model_errorOfName.2.1 217 = .ok (.isub, 1) := by decide +kernel
theorem d_Model_errorOfName_218 : decode M_Model_errorOfName.2.1 218 = .ok (.iload 4, 2) := by decide +kernel
theorem d_Model_errorOfName_220 : decode M_Model_errorOfName.2.1 220 = .ok (.iastore, 1) := by decide +kernel
theorem d_Model_errorOfName_221 : decode M_Model_errorOfName.2.1 221 = .ok (.iconst 0, 1) := by decide +kernel
theorem d_Model_errorOfName_222 : decode M_Model_errorOfName.2.1 222 = .ok (.ireturn, 1) := by decide +kernel
theorem d_Model_errorOfName_223 : decode M_Model_errorOfName.2.1 223 = .ok (.aload_n 1, 1) := by decide +kernel
theorem d_Model_errorOfName_224 : decode M_Model_errorOfName.2.1 224 = .ok (.getfield 187, 3) := by decide +kernel
theorem d_Model_errorOfName_227 : decode M_Model_errorOfName.2.1 227 = .ok (.aload_n 1, 1) := by decide +kernel
theorem d_Model_errorOfName_228 : decode M_Model_errorOfName.2.1 228 = .ok (.getfield 40, 3) := by decide +kernel
theorem d_Model_errorOfName_231 : decode M_Model_errorOfName.2.1 231 = .ok (.bipush 6, 2) := by decide +kernel
theorem d_Model_errorOfName_233 : decode M_Model_errorOfName.2.1 233 = .ok (.iaload, 1) := by decide +kernel
theorem d_Model_errorOfName_234 : decode M_Model_errorOfName.2.1 234 = .ok (.iconst 1, 1) := by decide +kernel
theorem d_Model_errorOfName_235 : decode M_Model_errorOfName.2.1 235 = .ok (.isub, 1) := by decide +kernel
theorem d_Model_errorOfName_236 : decode M_Model_errorOfName.2.1 236 = .ok (.iload 4, 2) := by decide +kernel
theorem d_Model_errorOfName_238 : decode M_Model_errorOfName.2.1 238 = .ok (.iastore, 1) := by decide +kernel
theorem d_Model_errorOfName_239 : decode M_Model_errorOfName.2.1 239 = .ok (.iconst 0, 1) := by decide +kernel
theorem d_Model_errorOfName_240 : decode M_Model_errorOfName.2.1 240 = .ok (.ireturn, 1) := by decide +kernel
theorem d_Model_errorOfName_241 : decode M_Model_errorOfName.2.1 241 = .ok (.aload_n 1, 1) := by decide +kernel
theorem d_Model_errorOfName_242 : decode M_Model_errorOfName.2.1 242 = .ok (.getfield 190, 3) := by decide +kernel
theorem d_Model_errorOfName_245 : decode M_Model_errorOfName.2.1 245 = .ok (.iload 5, 2) := by decide +kernel
theorem d_Model_errorOfName_247 : decode M_Model_errorOfName.2.1 247 = .ok (.iload 4, 2) := by decide +kernel
theorem d_Model_errorOfName_249 : decode M_Model_errorOfName.2.1 249 = .ok (.iastore, 1) := by decide +kernel
theorem d_Model_errorOfName_250 : decode M_Model_errorOfName.2.1 250 = .ok (.iconst 0, 1) := by decide +kernel
theorem d_Model_errorOfName_251 : decode M_Model_errorOfName.2.1 251 = .ok (.ireturn, 1) := by decide +kernel
theorem d_Model_errorOfName_252 : decode M_Model_errorOfName.2.1 252 = .ok (.aload_n 1, 1) := by decide +kernel
theorem d_Model_errorOfName_253 : decode M_Model_errorOfName.2.1 253 = .ok (.getfield 193, 3) := by decide +kernel
theorem d_Model_errorOfName_256 : decode M_Model_errorOfName.2.1 256 = .ok (.iload 5, 2) := by decide +kernel
theorem d_Model_errorOfName_258 : decode M_Model_errorOfName.2.1 258 = .ok (.iload 4, 2) := by decide +kernel
theorem d_Model_errorOfName_260 : decode M_Model_errorOfName.2.1 260 = .ok (.iastore, 1) := by decide +kernel
theorem d_Model_errorOfName_261 : decode M_Model_errorOfName.2.1 261 = .ok (.iconst 0, 1) := by decide +kernel
theorem d_Model_errorOfName_262 : decode M_Model_errorOfName.2.1 262 = .ok (.ireturn, 1) := by decide +kernel
theorem d_Model_errorOfName_263 : decode M_Model_errorOfName.2.1 263 = .ok (.iconst 0, 1) := by decide +kernel
theorem d_Model_errorOfName_264 : decode M_Model_errorOfName.2.1 264 = .ok (.ireturn, 1) := by decide +kernel
def s_Model_errorOfName (M : MO) (H : SH) (x2 : Nat) : Option (Int32 × SH) := (if 1 ≤ x2 then (if (x2 - 1) < 401 then (if (s_Model_isSort ((sh_kd H) (x2 - 1))) = 0 then (if okI (s_Model_sortBehind ((sh_kd H) (x2 - 1))) 13 = true then (if x2 ≤ 2500 then ((s_Model_find M H (s_Model_sortBehind ((sh_kd H) (x2 - 1))).toNatClampNeg x2).bind fun p31_6 => (if x2 < 401 then (if p31_6 = (-1) then some (3, (sh_me' H (upd (sh_me H) x2 p31_6))) else (if ((sh_kd H) (x2 - 1)) = 4 then (if (sh_ln H) = 3 then (if okI ((nI ((sh_ha H) 3)) - 1) 6 = true then (if (sh_ln H) = 9 then (if okI ((nI ((sh_ha H) 9)) - 1) 4 = true then (if (sh_ln H) = 11 then (if okI ((nI ((sh_ha H) 11)) - 1) 4 = true then some (0, (sh_ti' (sh_di' (sh_si' (sh_me' H (upd (sh_me H) x2 p31_6)) (upd (sh_si H) ((nI ((sh_ha H) 3)) - 1).toNatClampNeg p31_6)) (upd (sh_di H) ((nI ((sh_ha H) 9)) - 1).toNatClampNeg p31_6)) (upd (sh_ti H) ((nI ((sh_ha H) 11)) - 1).toNatClampNeg p31_6))) else none) else some (0, (sh_di' (sh_si' (sh_me' H (upd (sh_me H) x2 p31_6)) (upd (sh_si H) ((nI ((sh_ha H) 3)) - 1).toNatClampNeg p31_6)) (upd (sh_di H) ((nI ((sh_ha H) 9)) - 1).toNatClampNeg p31_6)))) else none) else (if (sh_ln H) = 11 then (if okI ((nI ((sh_ha H) 11)) - 1) 4 = true then some (0, (sh_ti' (sh_si' (sh_me' H (upd (sh_me H) x2 p31_6)) (upd (sh_si H) ((nI ((sh_ha H) 3)) - 1).toNatClampNeg p31_6)) (upd (sh_ti H) ((nI ((sh_ha H) 11)) - 1).toNatClampNeg p31_6))) else none) else some (0, (sh_si' (sh_me' H (upd (sh_me H) x2 p31_6)) (upd (sh_si H) ((nI ((sh_ha H) 3)) - 1).toNatClampNeg p31_6))))) else none) else (if (sh_ln H) = 9 then (if okI ((nI ((sh_ha H) 9)) - 1) 4 = true then (if (sh_ln H) = 11 then (if okI ((nI ((sh_ha H) 11)) - 1) 4 = true then some (0, (sh_ti' (sh_di' (sh_me' H (upd (sh_me H) x2 p31_6)) (upd (sh_di H) ((nI ((sh_ha H) 9)) - 1).toNatClampNeg p31_6)) (upd (sh_ti H) ((nI ((sh_ha H) 11)) - 1).toNatClampNeg p31_6))) else none) else some (0, (sh_di' (sh_me' H (upd (sh_me H) x2 p31_6)) (upd (sh_di H) ((nI ((sh_ha H) 9)) - 1).toNatClampNeg p31_6)))) else none) else (if (sh_ln H) = 11 then (if okI ((nI ((sh_ha H) 11)) - 1) 4 = true then some (0, (sh_ti' (sh_me' H (upd (sh_me H) x2 p31_6)) (upd (sh_ti H) ((nI ((sh_ha H) 11)) - 1).toNatClampNeg p31_6))) else none) else some (0, (sh_me' H (upd (sh_me H) x2 p31_6)))))) else (if ((sh_kd H) (x2 - 1)) = 7 then (if 1 ≤ ((sh_ha H) 6) then (if (((sh_ha H) 6) - 1) < 4 then some (0, (sh_ab' (sh_me' H (upd (sh_me H) x2 p31_6)) (upd (sh_ab H) (((sh_ha H) 6) - 1) p31_6))) else none) else none) else (if ((sh_kd H) (x2 - 1)) = 15 then (if okI ((nI (sh_or H)) - 1) 20 = true then some (0, (sh_on' (sh_me' H (upd (sh_me H) x2 p31_6)) (upd (sh_on H) ((nI (sh_or H)) - 1).toNatClampNeg p31_6))) else none) else (if ((sh_kd H) (x2 - 1)) = 16 then (if okI ((nI (sh_or H)) - 1) 20 = true then some (0, (sh_on' (sh_me' H (upd (sh_me H) x2 p31_6)) (upd (sh_on H) ((nI (sh_or H)) - 1).toNatClampNeg p31_6))) else none) else (if ((sh_kd H) (x2 - 1)) = 17 then (if okI ((nI (sh_or H)) - 1) 20 = true then some (0, (sh_on' (sh_me' H (upd (sh_me H) x2 p31_6)) (upd (sh_on H) ((nI (sh_or H)) - 1).toNatClampNeg p31_6))) else none) else (if ((sh_kd H) (x2 - 1)) = 18 then (if okI ((nI (sh_or H)) - 1) 20 = true then some (0, (sh_ot' (sh_me' H (upd (sh_me H) x2 p31_6)) (upd (sh_ot H) ((nI (sh_or H)) - 1).toNatClampNeg p31_6))) else none) else (if ((sh_kd H) (x2 - 1)) = 19 then (if okI ((nI (sh_or H)) - 1) 20 = true then some (0, (sh_on' (sh_me' H (upd (sh_me H) x2 p31_6)) (upd (sh_on H) ((nI (sh_or H)) - 1).toNatClampNeg p31_6))) else none) else (if ((sh_kd H) (x2 - 1)) = 21 then (if okI ((nI (sh_or H)) - 1) 20 = true then some (0, (sh_on' (sh_me' H (upd (sh_me H) x2 p31_6)) (upd (sh_on H) ((nI (sh_or H)) - 1).toNatClampNeg p31_6))) else none) else some (0, (sh_me' H (upd (sh_me H) x2 p31_6)))))))))))) else none)) else none) else none) else (if okI ((sh_kd H) (x2 - 1)) 13 = true then (if x2 ≤ 2500 then ((s_Model_errorOfNew M H ((sh_kd H) (x2 - 1)).toNatClampNeg x2).bind fun p20_41 => some (p20_41.1, p20_41.2)) else none) else none)) else none) else none)
set_option maxRecDepth 100000 in
set_option maxHeartbeats 4000000 in
theorem c_Model_errorOfName {Γ : G9} {h : AH} {m q qs sa sb ro z : Nat} {M : MO} {H : SH} {x2 : Nat} {p : Int32 × SH} (bx2 : x2 ≤ 2500) (geo : m + 2 ≤ q) (hr : s_Model_errorOfName M H x2 = some p) : CallR Γ M_Model_errorOfName 3 [.ref m, .ref q, .int (nI x2)] (mk_ Γ h m q qs sa sb ro M H) z (some (.int p.1)) (mk_ Γ h m q qs sa sb ro M p.2) := by
  refine Call.of_go (L := [some (.ref m), some (.ref q), some (.int (nI x2)), none, none, none]) (by decide +kernel) rfl (by exact Nat.le_of_ble_eq_true rfl) ?_
  unfold s_Model_errorOfName at hr
  refine Go.aload_1 d_Model_errorOfName_0 rfl ?_
  refine Go.getfield d_Model_errorOfName_1 rfl f_Model_93 (mk_at_q (by omega)) (by rfl) ?_
  refine Go.iload_2 d_Model_errorOfName_4 rfl ?_
  refine Go.iconst (v := 1) d_Model_errorOfName_5 rfl (by decide) ?_
  refine Go.isub d_Model_errorOfName_6 rfl ?_
  have o6_1 : 1 ≤ x2 := Classical.byContradiction fun w => by
    rw [if_neg w] at hr
    cases hr
  rw [show (nI x2) - 1 = nI (x2 - 1) from nI_pred1 o6_1]
  have o7_2 : (x2 - 1) < 401 := Classical.byContradiction fun w => by
    rw [if_pos o6_1, if_neg w] at hr
    cases hr
  refine Go.iaload d_Model_errorOfName_7 rfl (mk_at_q_1 (by omega)) (vp_in_nI o7_2 (by decide)) ?_
  rw [nI_clamp (show (x2 - 1) < 2 ^ 31 by omega)]
  refine Go.istore_3 d_Model_errorOfName_8 rfl (by rfl) ?_
  refine Go.iload_3 d_Model_errorOfName_9 rfl ?_
  refine Go.cs1r d_Model_errorOfName_10 rfl l_Model_160 k_Model_isSort_s rfl (mk_c_Model_isSort_ (by omega)) (Nat.ble_eq_true_of_le (by omega)) rfl rfl ?_
  refine Go.if_eq (t := 24) d_Model_errorOfName_13 (by decide) rfl (fun c13_3 => ?_) (fun c13_3 => ?_)
  · refine Go.aload_0 d_Model_errorOfName_24 rfl ?_
    refine Go.aload_1 d_Model_errorOfName_25 rfl ?_
    refine Go.iload_3 d_Model_errorOfName_26 rfl ?_
    refine Go.cs1r d_Model_errorOfName_27 rfl l_Model_166 k_Model_sortBehind_s rfl (mk_c_Model_sortBehind_ (by omega)) (Nat.ble_eq_true_of_le (by omega)) rfl rfl ?_
    refine Go.iload_2 d_Model_errorOfName_30 rfl ?_
    have o31_4 : okI (s_Model_sortBehind ((sh_kd H) (x2 - 1))) 13 = true := Classical.byContradiction fun w => by
      rw [if_pos o6_1, if_pos o7_2, if_pos c13_3, if_neg w] at hr
      cases hr
    have o31_4l := okI_lt o31_4
    have o31_5 : x2 ≤ 2500 := Classical.byContradiction fun w => by
      rw [if_pos o6_1, if_pos o7_2, if_pos c13_3, if_pos o31_4, if_neg w] at hr
      cases hr
    rw [if_pos o6_1, if_pos o7_2, if_pos c13_3, if_pos o31_4, if_pos o31_5] at hr
    obtain ⟨p31_6, hp31_6, hr⟩ := Option.bind_eq_some_iff.mp hr
    try dsimp only at hr
    refine Go.cv3r d_Model_errorOfName_31 rfl l_Model_153 k_Model_find_v (mk_at_m (by omega)) rfl (cv_Model_find (nI_back (okI_pos o31_4)) rfl (by omega) (by omega) (by omega) hp31_6) (Nat.ble_eq_true_of_le (by omega)) rfl rfl ?_
    refine Go.istore_4 d_Model_errorOfName_34 rfl (by rfl) ?_
    refine Go.aload_1 d_Model_errorOfName_36 rfl ?_
    refine Go.getfield d_Model_errorOfName_37 rfl f_Model_169 (mk_at_q (by omega)) (by rfl) ?_
    refine Go.iload_2 d_Model_errorOfName_40 rfl ?_
    refine Go.iload_4 d_Model_errorOfName_41 rfl ?_
    have o43_7 : x2 < 401 := Classical.byContradiction fun w => by
      rw [if_neg w] at hr
      cases hr
    refine Go.iastore d_Model_errorOfName_43 rfl (mk_at_q_4 (by omega)) (vp_in_nI o43_7 (by decide)) ?_
    rw [nI_clamp (show x2 < 2 ^ 31 by omega)]
    refine Go.heq (mk_arr_q_4 (by omega)) ?_
    refine Go.iload_4 d_Model_errorOfName_44 rfl ?_
    refine Go.iconst (v := (-1)) d_Model_errorOfName_46 rfl (by decide) ?_
    refine Go.icmp_ne (t := 52) d_Model_errorOfName_47 (by decide) rfl (fun c47_8 => ?_) (fun c47_8 => ?_)
    · refine Go.aload_1 d_Model_errorOfName_52 rfl ?_
      refine Go.getfield d_Model_errorOfName_53 rfl f_Model_172 (mk_at_q (by omega)) (by rfl) ?_
      rw [gs_sh_or_me]
      refine Go.iconst (v := 1) d_Model_errorOfName_56 rfl (by decide) ?_
      refine Go.isub d_Model_errorOfName_57 rfl ?_
      refine Go.istore_5 d_Model_errorOfName_58 rfl (by rfl) ?_
      refine Go.iload_3 d_Model_errorOfName_60 rfl ?_
      by_cases w61_9 : ((sh_kd H) (x2 - 1)) = 4
      · refine Go.tsw (t := 148) d_Model_errorOfName_61 (by rw [w61_9]; rfl) ?_
        refine Go.aload_1 d_Model_errorOfName_148 rfl ?_
        refine Go.getfield d_Model_errorOfName_149 rfl f_Model_175 (mk_at_q (by omega)) (by rfl) ?_
        rw [gs_sh_ln_me]
        refine Go.iconst (v := 3) d_Model_errorOfName_152 rfl (by decide) ?_
        refine Go.icmp_ne (t := 171) d_Model_errorOfName_153 (by decide) rfl (fun c153_10 => ?_) (fun c153_10 => ?_)
        · refine Go.aload_1 d_Model_errorOfName_171 rfl ?_
          refine Go.getfield d_Model_errorOfName_172 rfl f_Model_175 (mk_at_q (by omega)) (by rfl) ?_
          rw [gs_sh_ln_me]
          refine Go.bipush (v := 9) d_Model_errorOfName_175 rfl (by decide) ?_
          refine Go.icmp_ne (t := 196) d_Model_errorOfName_177 (by decide) rfl (fun c177_11 => ?_) (fun c177_11 => ?_)
          · refine Go.aload_1 d_Model_errorOfName_196 rfl ?_
            refine Go.getfield d_Model_errorOfName_197 rfl f_Model_175 (mk_at_q (by omega)) (by rfl) ?_
            rw [gs_sh_ln_me]
            refine Go.bipush (v := 11) d_Model_errorOfName_200 rfl (by decide) ?_
            refine Go.icmp_ne (t := 221) d_Model_errorOfName_202 (by decide) rfl (fun c202_12 => ?_) (fun c202_12 => ?_)
            · refine Go.iconst (v := 0) d_Model_errorOfName_221 rfl (by decide) ?_
              rw [if_pos o43_7, if_neg c47_8, if_pos w61_9, if_neg c153_10, if_neg c177_11, if_neg c202_12] at hr
              cases hr
              exact Go.iret d_Model_errorOfName_222 rfl rfl ⟨rfl, by dsimp only, rfl⟩
            · refine Go.aload_1 d_Model_errorOfName_205 rfl ?_
              refine Go.getfield d_Model_errorOfName_206 rfl f_Model_184 (mk_at_q (by omega)) (by rfl) ?_
              refine Go.aload_1 d_Model_errorOfName_209 rfl ?_
              refine Go.getfield d_Model_errorOfName_210 rfl f_Model_40 (mk_at_q (by omega)) (by rfl) ?_
              refine Go.bipush (v := 11) d_Model_errorOfName_213 rfl (by decide) ?_
              refine Go.iaload d_Model_errorOfName_215 rfl (mk_at_q_5 (by omega)) (show vp_in (nI 11) 12 from by first | exact vp_in_nI (by omega) (by omega) | exact vp_nle (by assumption) (by omega) (by omega)) ?_
              rw [show (11 : Int32).toNatClampNeg = 11 from by decide]
              rw [gs_sh_ha_me]
              refine Go.iconst (v := 1) d_Model_errorOfName_216 rfl (by decide) ?_
              refine Go.isub d_Model_errorOfName_217 rfl ?_
              refine Go.iload_4 d_Model_errorOfName_218 rfl ?_
              have o220_13 : okI ((nI ((sh_ha H) 11)) - 1) 4 = true := Classical.byContradiction fun w => by
                rw [if_pos o43_7, if_neg c47_8, if_pos w61_9, if_neg c153_10, if_neg c177_11, if_pos c202_12, if_neg w] at hr
                cases hr
              refine Go.iastore d_Model_errorOfName_220 rfl (mk_at_q_15 (by omega)) (okI_in o220_13) ?_
              rw [gs_sh_ti_me]
              refine Go.heq (mk_arr_q_15 (by omega)) ?_
              refine Go.iconst (v := 0) d_Model_errorOfName_221 rfl (by decide) ?_
              rw [if_pos o43_7, if_neg c47_8, if_pos w61_9, if_neg c153_10, if_neg c177_11, if_pos c202_12, if_pos o220_13] at hr
              cases hr
              exact Go.iret d_Model_errorOfName_222 rfl rfl ⟨rfl, by dsimp only, rfl⟩
          · refine Go.aload_1 d_Model_errorOfName_180 rfl ?_
            refine Go.getfield d_Model_errorOfName_181 rfl f_Model_181 (mk_at_q (by omega)) (by rfl) ?_
            refine Go.aload_1 d_Model_errorOfName_184 rfl ?_
            refine Go.getfield d_Model_errorOfName_185 rfl f_Model_40 (mk_at_q (by omega)) (by rfl) ?_
            refine Go.bipush (v := 9) d_Model_errorOfName_188 rfl (by decide) ?_
            refine Go.iaload d_Model_errorOfName_190 rfl (mk_at_q_5 (by omega)) (show vp_in (nI 9) 12 from by first | exact vp_in_nI (by omega) (by omega) | exact vp_nle (by assumption) (by omega) (by omega)) ?_
            rw [show (9 : Int32).toNatClampNeg = 9 from by decide]
            rw [gs_sh_ha_me]
            refine Go.iconst (v := 1) d_Model_errorOfName_191 rfl (by decide) ?_
            refine Go.isub d_Model_errorOfName_192 rfl ?_
            refine Go.iload_4 d_Model_errorOfName_193 rfl ?_
            have o195_14 : okI ((nI ((sh_ha H) 9)) - 1) 4 = true := Classical.byContradiction fun w => by
              rw [if_pos o43_7, if_neg c47_8, if_pos w61_9, if_neg c153_10, if_pos c177_11, if_neg w] at hr
              cases hr
            refine Go.iastore d_Model_errorOfName_195 rfl (mk_at_q_13 (by omega)) (okI_in o195_14) ?_
            rw [gs_sh_di_me]
            refine Go.heq (mk_arr_q_13 (by omega)) ?_
            refine Go.aload_1 d_Model_errorOfName_196 rfl ?_
            refine Go.getfield d_Model_errorOfName_197 rfl f_Model_175 (mk_at_q (by omega)) (by rfl) ?_
            rw [gs_sh_ln_di, gs_sh_ln_me]
            refine Go.bipush (v := 11) d_Model_errorOfName_200 rfl (by decide) ?_
            refine Go.icmp_ne (t := 221) d_Model_errorOfName_202 (by decide) rfl (fun c202_15 => ?_) (fun c202_15 => ?_)
            · refine Go.iconst (v := 0) d_Model_errorOfName_221 rfl (by decide) ?_
              rw [if_pos o43_7, if_neg c47_8, if_pos w61_9, if_neg c153_10, if_pos c177_11, if_pos o195_14, if_neg c202_15] at hr
              cases hr
              exact Go.iret d_Model_errorOfName_222 rfl rfl ⟨rfl, by dsimp only, rfl⟩
            · refine Go.aload_1 d_Model_errorOfName_205 rfl ?_
              refine Go.getfield d_Model_errorOfName_206 rfl f_Model_184 (mk_at_q (by omega)) (by rfl) ?_
              refine Go.aload_1 d_Model_errorOfName_209 rfl ?_
              refine Go.getfield d_Model_errorOfName_210 rfl f_Model_40 (mk_at_q (by omega)) (by rfl) ?_
              refine Go.bipush (v := 11) d_Model_errorOfName_213 rfl (by decide) ?_
              refine Go.iaload d_Model_errorOfName_215 rfl (mk_at_q_5 (by omega)) (show vp_in (nI 11) 12 from by first | exact vp_in_nI (by omega) (by omega) | exact vp_nle (by assumption) (by omega) (by omega)) ?_
              rw [show (11 : Int32).toNatClampNeg = 11 from by decide]
              rw [gs_sh_ha_di, gs_sh_ha_me]
              refine Go.iconst (v := 1) d_Model_errorOfName_216 rfl (by decide) ?_
              refine Go.isub d_Model_errorOfName_217 rfl ?_
              refine Go.iload_4 d_Model_errorOfName_218 rfl ?_
              have o220_16 : okI ((nI ((sh_ha H) 11)) - 1) 4 = true := Classical.byContradiction fun w => by
                rw [if_pos o43_7, if_neg c47_8, if_pos w61_9, if_neg c153_10, if_pos c177_11, if_pos o195_14, if_pos c202_15, if_neg w] at hr
                cases hr
              refine Go.iastore d_Model_errorOfName_220 rfl (mk_at_q_15 (by omega)) (okI_in o220_16) ?_
              rw [gs_sh_ti_di, gs_sh_ti_me]
              refine Go.heq (mk_arr_q_15 (by omega)) ?_
              refine Go.iconst (v := 0) d_Model_errorOfName_221 rfl (by decide) ?_
              rw [if_pos o43_7, if_neg c47_8, if_pos w61_9, if_neg c153_10, if_pos c177_11, if_pos o195_14, if_pos c202_15, if_pos o220_16] at hr
              cases hr
              exact Go.iret d_Model_errorOfName_222 rfl rfl ⟨rfl, by dsimp only, rfl⟩
        · refine Go.aload_1 d_Model_errorOfName_156 rfl ?_
          refine Go.getfield d_Model_errorOfName_157 rfl f_Model_178 (mk_at_q (by omega)) (by rfl) ?_
          refine Go.aload_1 d_Model_errorOfName_160 rfl ?_
          refine Go.getfield d_Model_errorOfName_161 rfl f_Model_40 (mk_at_q (by omega)) (by rfl) ?_
          refine Go.iconst (v := 3) d_Model_errorOfName_164 rfl (by decide) ?_
          refine Go.iaload d_Model_errorOfName_165 rfl (mk_at_q_5 (by omega)) (show vp_in (nI 3) 12 from by first | exact vp_in_nI (by omega) (by omega) | exact vp_nle (by assumption) (by omega) (by omega)) ?_
          rw [show (3 : Int32).toNatClampNeg = 3 from by decide]
          rw [gs_sh_ha_me]
          refine Go.iconst (v := 1) d_Model_errorOfName_166 rfl (by decide) ?_
          refine Go.isub d_Model_errorOfName_167 rfl ?_
          refine Go.iload_4 d_Model_errorOfName_168 rfl ?_
          have o170_17 : okI ((nI ((sh_ha H) 3)) - 1) 6 = true := Classical.byContradiction fun w => by
            rw [if_pos o43_7, if_neg c47_8, if_pos w61_9, if_pos c153_10, if_neg w] at hr
            cases hr
          refine Go.iastore d_Model_errorOfName_170 rfl (mk_at_q_9 (by omega)) (okI_in o170_17) ?_
          rw [gs_sh_si_me]
          refine Go.heq (mk_arr_q_9 (by omega)) ?_
          refine Go.aload_1 d_Model_errorOfName_171 rfl ?_
          refine Go.getfield d_Model_errorOfName_172 rfl f_Model_175 (mk_at_q (by omega)) (by rfl) ?_
          rw [gs_sh_ln_si, gs_sh_ln_me]
          refine Go.bipush (v := 9) d_Model_errorOfName_175 rfl (by decide) ?_
          refine Go.icmp_ne (t := 196) d_Model_errorOfName_177 (by decide) rfl (fun c177_18 => ?_) (fun c177_18 => ?_)
          · refine Go.aload_1 d_Model_errorOfName_196 rfl ?_
            refine Go.getfield d_Model_errorOfName_197 rfl f_Model_175 (mk_at_q (by omega)) (by rfl) ?_
            rw [gs_sh_ln_si, gs_sh_ln_me]
            refine Go.bipush (v := 11) d_Model_errorOfName_200 rfl (by decide) ?_
            refine Go.icmp_ne (t := 221) d_Model_errorOfName_202 (by decide) rfl (fun c202_19 => ?_) (fun c202_19 => ?_)
            · refine Go.iconst (v := 0) d_Model_errorOfName_221 rfl (by decide) ?_
              rw [if_pos o43_7, if_neg c47_8, if_pos w61_9, if_pos c153_10, if_pos o170_17, if_neg c177_18, if_neg c202_19] at hr
              cases hr
              exact Go.iret d_Model_errorOfName_222 rfl rfl ⟨rfl, by dsimp only, rfl⟩
            · refine Go.aload_1 d_Model_errorOfName_205 rfl ?_
              refine Go.getfield d_Model_errorOfName_206 rfl f_Model_184 (mk_at_q (by omega)) (by rfl) ?_
              refine Go.aload_1 d_Model_errorOfName_209 rfl ?_
              refine Go.getfield d_Model_errorOfName_210 rfl f_Model_40 (mk_at_q (by omega)) (by rfl) ?_
              refine Go.bipush (v := 11) d_Model_errorOfName_213 rfl (by decide) ?_
              refine Go.iaload d_Model_errorOfName_215 rfl (mk_at_q_5 (by omega)) (show vp_in (nI 11) 12 from by first | exact vp_in_nI (by omega) (by omega) | exact vp_nle (by assumption) (by omega) (by omega)) ?_
              rw [show (11 : Int32).toNatClampNeg = 11 from by decide]
              rw [gs_sh_ha_si, gs_sh_ha_me]
              refine Go.iconst (v := 1) d_Model_errorOfName_216 rfl (by decide) ?_
              refine Go.isub d_Model_errorOfName_217 rfl ?_
              refine Go.iload_4 d_Model_errorOfName_218 rfl ?_
              have o220_20 : okI ((nI ((sh_ha H) 11)) - 1) 4 = true := Classical.byContradiction fun w => by
                rw [if_pos o43_7, if_neg c47_8, if_pos w61_9, if_pos c153_10, if_pos o170_17, if_neg c177_18, if_pos c202_19, if_neg w] at hr
                cases hr
              refine Go.iastore d_Model_errorOfName_220 rfl (mk_at_q_15 (by omega)) (okI_in o220_20) ?_
              rw [gs_sh_ti_si, gs_sh_ti_me]
              refine Go.heq (mk_arr_q_15 (by omega)) ?_
              refine Go.iconst (v := 0) d_Model_errorOfName_221 rfl (by decide) ?_
              rw [if_pos o43_7, if_neg c47_8, if_pos w61_9, if_pos c153_10, if_pos o170_17, if_neg c177_18, if_pos c202_19, if_pos o220_20] at hr
              cases hr
              exact Go.iret d_Model_errorOfName_222 rfl rfl ⟨rfl, by dsimp only, rfl⟩
          · refine Go.aload_1 d_Model_errorOfName_180 rfl ?_
            refine Go.getfield d_Model_errorOfName_181 rfl f_Model_181 (mk_at_q (by omega)) (by rfl) ?_
            refine Go.aload_1 d_Model_errorOfName_184 rfl ?_
            refine Go.getfield d_Model_errorOfName_185 rfl f_Model_40 (mk_at_q (by omega)) (by rfl) ?_
            refine Go.bipush (v := 9) d_Model_errorOfName_188 rfl (by decide) ?_
            refine Go.iaload d_Model_errorOfName_190 rfl (mk_at_q_5 (by omega)) (show vp_in (nI 9) 12 from by first | exact vp_in_nI (by omega) (by omega) | exact vp_nle (by assumption) (by omega) (by omega)) ?_
            rw [show (9 : Int32).toNatClampNeg = 9 from by decide]
            rw [gs_sh_ha_si, gs_sh_ha_me]
            refine Go.iconst (v := 1) d_Model_errorOfName_191 rfl (by decide) ?_
            refine Go.isub d_Model_errorOfName_192 rfl ?_
            refine Go.iload_4 d_Model_errorOfName_193 rfl ?_
            have o195_21 : okI ((nI ((sh_ha H) 9)) - 1) 4 = true := Classical.byContradiction fun w => by
              rw [if_pos o43_7, if_neg c47_8, if_pos w61_9, if_pos c153_10, if_pos o170_17, if_pos c177_18, if_neg w] at hr
              cases hr
            refine Go.iastore d_Model_errorOfName_195 rfl (mk_at_q_13 (by omega)) (okI_in o195_21) ?_
            rw [gs_sh_di_si, gs_sh_di_me]
            refine Go.heq (mk_arr_q_13 (by omega)) ?_
            refine Go.aload_1 d_Model_errorOfName_196 rfl ?_
            refine Go.getfield d_Model_errorOfName_197 rfl f_Model_175 (mk_at_q (by omega)) (by rfl) ?_
            rw [gs_sh_ln_di, gs_sh_ln_si, gs_sh_ln_me]
            refine Go.bipush (v := 11) d_Model_errorOfName_200 rfl (by decide) ?_
            refine Go.icmp_ne (t := 221) d_Model_errorOfName_202 (by decide) rfl (fun c202_22 => ?_) (fun c202_22 => ?_)
            · refine Go.iconst (v := 0) d_Model_errorOfName_221 rfl (by decide) ?_
              rw [if_pos o43_7, if_neg c47_8, if_pos w61_9, if_pos c153_10, if_pos o170_17, if_pos c177_18, if_pos o195_21, if_neg c202_22] at hr
              cases hr
              exact Go.iret d_Model_errorOfName_222 rfl rfl ⟨rfl, by dsimp only, rfl⟩
            · refine Go.aload_1 d_Model_errorOfName_205 rfl ?_
              refine Go.getfield d_Model_errorOfName_206 rfl f_Model_184 (mk_at_q (by omega)) (by rfl) ?_
              refine Go.aload_1 d_Model_errorOfName_209 rfl ?_
              refine Go.getfield d_Model_errorOfName_210 rfl f_Model_40 (mk_at_q (by omega)) (by rfl) ?_
              refine Go.bipush (v := 11) d_Model_errorOfName_213 rfl (by decide) ?_
              refine Go.iaload d_Model_errorOfName_215 rfl (mk_at_q_5 (by omega)) (show vp_in (nI 11) 12 from by first | exact vp_in_nI (by omega) (by omega) | exact vp_nle (by assumption) (by omega) (by omega)) ?_
              rw [show (11 : Int32).toNatClampNeg = 11 from by decide]
              rw [gs_sh_ha_di, gs_sh_ha_si, gs_sh_ha_me]
              refine Go.iconst (v := 1) d_Model_errorOfName_216 rfl (by decide) ?_
              refine Go.isub d_Model_errorOfName_217 rfl ?_
              refine Go.iload_4 d_Model_errorOfName_218 rfl ?_
              have o220_23 : okI ((nI ((sh_ha H) 11)) - 1) 4 = true := Classical.byContradiction fun w => by
                rw [if_pos o43_7, if_neg c47_8, if_pos w61_9, if_pos c153_10, if_pos o170_17, if_pos c177_18, if_pos o195_21, if_pos c202_22, if_neg w] at hr
                cases hr
              refine Go.iastore d_Model_errorOfName_220 rfl (mk_at_q_15 (by omega)) (okI_in o220_23) ?_
              rw [gs_sh_ti_di, gs_sh_ti_si, gs_sh_ti_me]
              refine Go.heq (mk_arr_q_15 (by omega)) ?_
              refine Go.iconst (v := 0) d_Model_errorOfName_221 rfl (by decide) ?_
              rw [if_pos o43_7, if_neg c47_8, if_pos w61_9, if_pos c153_10, if_pos o170_17, if_pos c177_18, if_pos o195_21, if_pos c202_22, if_pos o220_23] at hr
              cases hr
              exact Go.iret d_Model_errorOfName_222 rfl rfl ⟨rfl, by dsimp only, rfl⟩
      by_cases w61_24 : ((sh_kd H) (x2 - 1)) = 7
      · refine Go.tsw (t := 223) d_Model_errorOfName_61 (by rw [w61_24]; rfl) ?_
        refine Go.aload_1 d_Model_errorOfName_223 rfl ?_
        refine Go.getfield d_Model_errorOfName_224 rfl f_Model_187 (mk_at_q (by omega)) (by rfl) ?_
        refine Go.aload_1 d_Model_errorOfName_227 rfl ?_
        refine Go.getfield d_Model_errorOfName_228 rfl f_Model_40 (mk_at_q (by omega)) (by rfl) ?_
        refine Go.bipush (v := 6) d_Model_errorOfName_231 rfl (by decide) ?_
        refine Go.iaload d_Model_errorOfName_233 rfl (mk_at_q_5 (by omega)) (show vp_in (nI 6) 12 from by first | exact vp_in_nI (by omega) (by omega) | exact vp_nle (by assumption) (by omega) (by omega)) ?_
        rw [show (6 : Int32).toNatClampNeg = 6 from by decide]
        rw [gs_sh_ha_me]
        refine Go.iconst (v := 1) d_Model_errorOfName_234 rfl (by decide) ?_
        refine Go.isub d_Model_errorOfName_235 rfl ?_
        have o235_25 : 1 ≤ ((sh_ha H) 6) := Classical.byContradiction fun w => by
          rw [if_pos o43_7, if_neg c47_8, if_neg w61_9, if_pos w61_24, if_neg w] at hr
          cases hr
        rw [show (nI ((sh_ha H) 6)) - 1 = nI (((sh_ha H) 6) - 1) from nI_pred1 o235_25]
        refine Go.iload_4 d_Model_errorOfName_236 rfl ?_
        have o238_26 : (((sh_ha H) 6) - 1) < 4 := Classical.byContradiction fun w => by
          rw [if_pos o43_7, if_neg c47_8, if_neg w61_9, if_pos w61_24, if_pos o235_25, if_neg w] at hr
          cases hr
        refine Go.iastore d_Model_errorOfName_238 rfl (mk_at_q_11 (by omega)) (vp_in_nI o238_26 (by decide)) ?_
        rw [nI_clamp (show (((sh_ha H) 6) - 1) < 2 ^ 31 by omega)]
        rw [gs_sh_ab_me]
        refine Go.heq (mk_arr_q_11 (by omega)) ?_
        refine Go.iconst (v := 0) d_Model_errorOfName_239 rfl (by decide) ?_
        rw [if_pos o43_7, if_neg c47_8, if_neg w61_9, if_pos w61_24, if_pos o235_25, if_pos o238_26] at hr
        cases hr
        exact Go.iret d_Model_errorOfName_240 rfl rfl ⟨rfl, by dsimp only, rfl⟩
      by_cases w61_27 : ((sh_kd H) (x2 - 1)) = 15
      · refine Go.tsw (t := 241) d_Model_errorOfName_61 (by rw [w61_27]; rfl) ?_
        refine Go.aload_1 d_Model_errorOfName_241 rfl ?_
        refine Go.getfield d_Model_errorOfName_242 rfl f_Model_190 (mk_at_q (by omega)) (by rfl) ?_
        refine Go.iload_5 d_Model_errorOfName_245 rfl ?_
        refine Go.iload_4 d_Model_errorOfName_247 rfl ?_
        have o249_28 : okI ((nI (sh_or H)) - 1) 20 = true := Classical.byContradiction fun w => by
          rw [if_pos o43_7, if_neg c47_8, if_neg w61_9, if_neg w61_24, if_pos w61_27, if_neg w] at hr
          cases hr
        refine Go.iastore d_Model_errorOfName_249 rfl (mk_at_q_20 (by omega)) (okI_in o249_28) ?_
        rw [gs_sh_on_me]
        refine Go.heq (mk_arr_q_20 (by omega)) ?_
        refine Go.iconst (v := 0) d_Model_errorOfName_250 rfl (by decide) ?_
        rw [if_pos o43_7, if_neg c47_8, if_neg w61_9, if_neg w61_24, if_pos w61_27, if_pos o249_28] at hr
        cases hr
        exact Go.iret d_Model_errorOfName_251 rfl rfl ⟨rfl, by dsimp only, rfl⟩
      by_cases w61_29 : ((sh_kd H) (x2 - 1)) = 16
      · refine Go.tsw (t := 241) d_Model_errorOfName_61 (by rw [w61_29]; rfl) ?_
        refine Go.aload_1 d_Model_errorOfName_241 rfl ?_
        refine Go.getfield d_Model_errorOfName_242 rfl f_Model_190 (mk_at_q (by omega)) (by rfl) ?_
        refine Go.iload_5 d_Model_errorOfName_245 rfl ?_
        refine Go.iload_4 d_Model_errorOfName_247 rfl ?_
        have o249_30 : okI ((nI (sh_or H)) - 1) 20 = true := Classical.byContradiction fun w => by
          rw [if_pos o43_7, if_neg c47_8, if_neg w61_9, if_neg w61_24, if_neg w61_27, if_pos w61_29, if_neg w] at hr
          cases hr
        refine Go.iastore d_Model_errorOfName_249 rfl (mk_at_q_20 (by omega)) (okI_in o249_30) ?_
        rw [gs_sh_on_me]
        refine Go.heq (mk_arr_q_20 (by omega)) ?_
        refine Go.iconst (v := 0) d_Model_errorOfName_250 rfl (by decide) ?_
        rw [if_pos o43_7, if_neg c47_8, if_neg w61_9, if_neg w61_24, if_neg w61_27, if_pos w61_29, if_pos o249_30] at hr
        cases hr
        exact Go.iret d_Model_errorOfName_251 rfl rfl ⟨rfl, by dsimp only, rfl⟩
      by_cases w61_31 : ((sh_kd H) (x2 - 1)) = 17
      · refine Go.tsw (t := 241) d_Model_errorOfName_61 (by rw [w61_31]; rfl) ?_
        refine Go.aload_1 d_Model_errorOfName_241 rfl ?_
        refine Go.getfield d_Model_errorOfName_242 rfl f_Model_190 (mk_at_q (by omega)) (by rfl) ?_
        refine Go.iload_5 d_Model_errorOfName_245 rfl ?_
        refine Go.iload_4 d_Model_errorOfName_247 rfl ?_
        have o249_32 : okI ((nI (sh_or H)) - 1) 20 = true := Classical.byContradiction fun w => by
          rw [if_pos o43_7, if_neg c47_8, if_neg w61_9, if_neg w61_24, if_neg w61_27, if_neg w61_29, if_pos w61_31, if_neg w] at hr
          cases hr
        refine Go.iastore d_Model_errorOfName_249 rfl (mk_at_q_20 (by omega)) (okI_in o249_32) ?_
        rw [gs_sh_on_me]
        refine Go.heq (mk_arr_q_20 (by omega)) ?_
        refine Go.iconst (v := 0) d_Model_errorOfName_250 rfl (by decide) ?_
        rw [if_pos o43_7, if_neg c47_8, if_neg w61_9, if_neg w61_24, if_neg w61_27, if_neg w61_29, if_pos w61_31, if_pos o249_32] at hr
        cases hr
        exact Go.iret d_Model_errorOfName_251 rfl rfl ⟨rfl, by dsimp only, rfl⟩
      by_cases w61_33 : ((sh_kd H) (x2 - 1)) = 18
      · refine Go.tsw (t := 252) d_Model_errorOfName_61 (by rw [w61_33]; rfl) ?_
        refine Go.aload_1 d_Model_errorOfName_252 rfl ?_
        refine Go.getfield d_Model_errorOfName_253 rfl f_Model_193 (mk_at_q (by omega)) (by rfl) ?_
        refine Go.iload_5 d_Model_errorOfName_256 rfl ?_
        refine Go.iload_4 d_Model_errorOfName_258 rfl ?_
        have o260_34 : okI ((nI (sh_or H)) - 1) 20 = true := Classical.byContradiction fun w => by
          rw [if_pos o43_7, if_neg c47_8, if_neg w61_9, if_neg w61_24, if_neg w61_27, if_neg w61_29, if_neg w61_31, if_pos w61_33, if_neg w] at hr
          cases hr
        refine Go.iastore d_Model_errorOfName_260 rfl (mk_at_q_21 (by omega)) (okI_in o260_34) ?_
        rw [gs_sh_ot_me]
        refine Go.heq (mk_arr_q_21 (by omega)) ?_
        refine Go.iconst (v := 0) d_Model_errorOfName_261 rfl (by decide) ?_
        rw [if_pos o43_7, if_neg c47_8, if_neg w61_9, if_neg w61_24, if_neg w61_27, if_neg w61_29, if_neg w61_31, if_pos w61_33, if_pos o260_34] at hr
        cases hr
        exact Go.iret d_Model_errorOfName_262 rfl rfl ⟨rfl, by dsimp only, rfl⟩
      by_cases w61_35 : ((sh_kd H) (x2 - 1)) = 19
      · refine Go.tsw (t := 241) d_Model_errorOfName_61 (by rw [w61_35]; rfl) ?_
        refine Go.aload_1 d_Model_errorOfName_241 rfl ?_
        refine Go.getfield d_Model_errorOfName_242 rfl f_Model_190 (mk_at_q (by omega)) (by rfl) ?_
        refine Go.iload_5 d_Model_errorOfName_245 rfl ?_
        refine Go.iload_4 d_Model_errorOfName_247 rfl ?_
        have o249_36 : okI ((nI (sh_or H)) - 1) 20 = true := Classical.byContradiction fun w => by
          rw [if_pos o43_7, if_neg c47_8, if_neg w61_9, if_neg w61_24, if_neg w61_27, if_neg w61_29, if_neg w61_31, if_neg w61_33, if_pos w61_35, if_neg w] at hr
          cases hr
        refine Go.iastore d_Model_errorOfName_249 rfl (mk_at_q_20 (by omega)) (okI_in o249_36) ?_
        rw [gs_sh_on_me]
        refine Go.heq (mk_arr_q_20 (by omega)) ?_
        refine Go.iconst (v := 0) d_Model_errorOfName_250 rfl (by decide) ?_
        rw [if_pos o43_7, if_neg c47_8, if_neg w61_9, if_neg w61_24, if_neg w61_27, if_neg w61_29, if_neg w61_31, if_neg w61_33, if_pos w61_35, if_pos o249_36] at hr
        cases hr
        exact Go.iret d_Model_errorOfName_251 rfl rfl ⟨rfl, by dsimp only, rfl⟩
      by_cases w61_37 : ((sh_kd H) (x2 - 1)) = 21
      · refine Go.tsw (t := 241) d_Model_errorOfName_61 (by rw [w61_37]; rfl) ?_
        refine Go.aload_1 d_Model_errorOfName_241 rfl ?_
        refine Go.getfield d_Model_errorOfName_242 rfl f_Model_190 (mk_at_q (by omega)) (by rfl) ?_
        refine Go.iload_5 d_Model_errorOfName_245 rfl ?_
        refine Go.iload_4 d_Model_errorOfName_247 rfl ?_
        have o249_38 : okI ((nI (sh_or H)) - 1) 20 = true := Classical.byContradiction fun w => by
          rw [if_pos o43_7, if_neg c47_8, if_neg w61_9, if_neg w61_24, if_neg w61_27, if_neg w61_29, if_neg w61_31, if_neg w61_33, if_neg w61_35, if_pos w61_37, if_neg w] at hr
          cases hr
        refine Go.iastore d_Model_errorOfName_249 rfl (mk_at_q_20 (by omega)) (okI_in o249_38) ?_
        rw [gs_sh_on_me]
        refine Go.heq (mk_arr_q_20 (by omega)) ?_
        refine Go.iconst (v := 0) d_Model_errorOfName_250 rfl (by decide) ?_
        rw [if_pos o43_7, if_neg c47_8, if_neg w61_9, if_neg w61_24, if_neg w61_27, if_neg w61_29, if_neg w61_31, if_neg w61_33, if_neg w61_35, if_pos w61_37, if_pos o249_38] at hr
        cases hr
        exact Go.iret d_Model_errorOfName_251 rfl rfl ⟨rfl, by dsimp only, rfl⟩
      refine Go.tsw (t := 263) d_Model_errorOfName_61 (tsw_d fun n hn => by
              match n, hn with
              | 0, _ => exact Or.inr fun w => w61_9 (i32_eq w)
              | 1, _ => exact Or.inl rfl
              | 2, _ => exact Or.inl rfl
              | 3, _ => exact Or.inr fun w => w61_24 (i32_eq w)
              | 4, _ => exact Or.inl rfl
              | 5, _ => exact Or.inl rfl
              | 6, _ => exact Or.inl rfl
              | 7, _ => exact Or.inl rfl
              | 8, _ => exact Or.inl rfl
              | 9, _ => exact Or.inl rfl
              | 10, _ => exact Or.inl rfl
              | 11, _ => exact Or.inr fun w => w61_27 (i32_eq w)
              | 12, _ => exact Or.inr fun w => w61_29 (i32_eq w)
              | 13, _ => exact Or.inr fun w => w61_31 (i32_eq w)
              | 14, _ => exact Or.inr fun w => w61_33 (i32_eq w)
              | 15, _ => exact Or.inr fun w => w61_35 (i32_eq w)
              | 16, _ => exact Or.inl rfl
              | 17, _ => exact Or.inr fun w => w61_37 (i32_eq w)
              | _ + 18, w => exact absurd w (by simp)) ?_
      refine Go.iconst (v := 0) d_Model_errorOfName_263 rfl (by decide) ?_
      rw [if_pos o43_7, if_neg c47_8, if_neg w61_9, if_neg w61_24, if_neg w61_27, if_neg w61_29, if_neg w61_31, if_neg w61_33, if_neg w61_35, if_neg w61_37] at hr
      cases hr
      exact Go.iret d_Model_errorOfName_264 rfl rfl ⟨rfl, by dsimp only, rfl⟩
    · refine Go.iconst (v := 3) d_Model_errorOfName_50 rfl (by decide) ?_
      rw [if_pos o43_7, if_pos c47_8] at hr
      cases hr
      exact Go.iret d_Model_errorOfName_51 rfl rfl ⟨rfl, by dsimp only, rfl⟩
  · refine Go.aload_0 d_Model_errorOfName_16 rfl ?_
    refine Go.aload_1 d_Model_errorOfName_17 rfl ?_
    refine Go.iload_3 d_Model_errorOfName_18 rfl ?_
    refine Go.iload_2 d_Model_errorOfName_19 rfl ?_
    have o20_39 : okI ((sh_kd H) (x2 - 1)) 13 = true := Classical.byContradiction fun w => by
      rw [if_pos o6_1, if_pos o7_2, if_neg c13_3, if_neg w] at hr
      cases hr
    have o20_39l := okI_lt o20_39
    have o20_40 : x2 ≤ 2500 := Classical.byContradiction fun w => by
      rw [if_pos o6_1, if_pos o7_2, if_neg c13_3, if_pos o20_39, if_neg w] at hr
      cases hr
    rw [if_pos o6_1, if_pos o7_2, if_neg c13_3, if_pos o20_39, if_pos o20_40] at hr
    obtain ⟨p20_41, hp20_41, hr⟩ := Option.bind_eq_some_iff.mp hr
    try dsimp only at hr
    refine Go.cv3r d_Model_errorOfName_20 rfl l_Model_163 k_Model_errorOfNew_v (mk_at_m (by omega)) rfl (cv_Model_errorOfNew (nI_back (okI_pos o20_39)) rfl (by omega) (by omega) (by omega) hp20_41) (Nat.ble_eq_true_of_le (by omega)) rfl rfl ?_
    cases hr
    exact Go.iret d_Model_errorOfName_23 rfl rfl ⟨rfl, by dsimp only, rfl⟩
theorem mk_c_Model_isOrder_ {Γ : G9} {h : AH} {m q qs sa sb ro z : Nat} {M : MO} {H : SH} {x1 : Int32} (geo : m + 2 ≤ q) : CallR Γ M_Model_isOrder 0 [.int x1] (mk_ Γ h m q qs sa sb ro M H) z (some (.int (s_Model_isOrder x1))) (mk_ Γ h m q qs sa sb ro M H) := by
  unfold mk_
  exact CallR.conv rfl rfl (c_Model_isOrder)
theorem mk_at_q_22 {Γ : G9} {h : AH} {m q qs sa sb ro : Nat} {M : MO} {H : SH} (geo : m + 2 ≤ q) : (mk_ Γ h m q qs sa sb ro M H) (q + 22) = some (aI Γ 20 (sh_su H)) := by
  unfold mk_
  exact (sh_g22)
theorem mk_arr_q_22 {Γ : G9} {h : AH} {m q qs sa sb ro : Nat} {M : MO} {H : SH} {v : Nat → Int32} (geo : m + 2 ≤ q) : hup (mk_ Γ h m q qs sa sb ro M H) (q + 22) (aI Γ 20 v) = (mk_ Γ h m q qs sa sb ro M (sh_su' H v)) := by
  unfold mk_
  exact (sh_a_su (v := v))
theorem d_Model_errorOf_27 : decode M_Model_errorOf.2.1 27 = .ok (.aload_n 1, 1) := by decide +kernel
theorem d_Model_errorOf_28 : decode M_Model_errorOf.2.1 28 = .ok (.getfield 93, 3) := by decide +kernel
theorem d_Model_errorOf_31 : decode M_Model_errorOf.2.1 31 = .ok (.iload_n 2, 1) := by decide +kernel
theorem d_Model_errorOf_32 : decode M_Model_errorOf.2.1 32 = .ok (.iaload, 1) := by decide +kernel
theorem d_Model_errorOf_33 : decode M_Model_errorOf.2.1 33 = .ok (.invokestatic 236, 3) := by decide +kernel
theorem d_Model_errorOf_36 : decode M_Model_errorOf.2.1 36 = .ok (.ifCond .eq 15, 3) := by decide +kernel
theorem d_Model_errorOf_39 : decode M_Model_errorOf.2.1 39 = .ok (.aload_n 0, 1) := by decide +kernel
theorem d_Model_errorOf_40 : decode M_Model_errorOf.2.1 40 = .ok (.aload_n 1, 1) := by decide +kernel
theorem d_Model_errorOf_41 : decode M_Model_errorOf.2.1 41 = .ok (.aload_n 1, 1) := by decide +kernel
theorem d_Model_errorOf_42 : decode M_Model_errorOf.2.1 42 = .ok (.getfield 93, 3) := by decide +kernel
theorem d_Model_errorOf_45 : decode M_Model_errorOf.2.1 45 = .ok (.iload_n 2, 1) := by decide +kernel
theorem d_Model_errorOf_46 : decode M_Model_errorOf.2.1 46 = .ok (.iaload, 1) := by decide +kernel
theorem d_Model_errorOf_47 : decode M_Model_errorOf.2.1 47 = .ok (.invokevirtual 239, 3) := by decide +kernel
theorem d_Model_errorOf_50 : decode M_Model_errorOf.2.1 50 = .ok (.ireturn, 1) := by decide +kernel
theorem d_Model_errorOf_51 : decode M_Model_errorOf.2.1 51 = .ok (.aload_n 1, 1) := by decide +kernel
theorem d_Model_errorOf_52 : decode M_Model_errorOf.2.1 52 = .ok (.getfield 93, 3) := by decide +kernel
theorem d_Model_errorOf_55 : decode M_Model_errorOf.2.1 55 = .ok (.iload_n 2, 1) := by decide +kernel
theorem d_Model_errorOf_56 : decode M_Model_errorOf.2.1 56 = .ok (.iaload, 1) := by decide +kernel
theorem d_Model_errorOf_57 : decode M_Model_errorOf.2.1 57 = .ok (.lookupswitch 89 #[(20, 57), (22, 73), (36, 43), (37, 50)], 43) := by decide +kernel
theorem d_Model_errorOf_100 : decode M_Model_errorOf.2.1 100 = .ok (.aload_n 0, 1) := by decide +kernel
theorem d_Model_errorOf_101 : decode M_Model_errorOf.2.1 101 = .ok (.aload_n 1, 1) := by decide +kernel
theorem d_Model_errorOf_102 : decode M_Model_errorOf.2.1 102 = .ok (.iload_n 2, 1) := by decide +kernel
theorem d_Model_errorOf_103 : decode M_Model_errorOf.2.1 103 = .ok (.invokevirtual 242, 3) := by decide +kernel
theorem d_Model_errorOf_106 : decode M_Model_errorOf.2.1 106 = .ok (.ireturn, 1) := by decide +kernel
theorem d_Model_errorOf_107 : decode M_Model_errorOf.2.1 107 = .ok (.aload_n 0, 1) := by decide +kernel
theorem d_Model_errorOf_108 : decode M_Model_errorOf.2.1 108 = .ok (.aload_n 1, 1) := by decide +kernel
theorem d_Model_errorOf_109 : decode M_Model_errorOf.2.1 109 = .ok (.iload_n 2, 1) := by decide +kernel
theorem d_Model_errorOf_110 : decode M_Model_errorOf.2.1 110 = .ok (.invokevirtual 245, 3) := by decide +kernel
theorem d_Model_errorOf_113 : decode M_Model_errorOf.2.1 113 = .ok (.ireturn, 1) := by decide +kernel
theorem d_Model_errorOf_114 : decode M_Model_errorOf.2.1 114 = .ok (.aload_n 1, 1) := by decide +kernel
theorem d_Model_errorOf_115 : decode M_Model_errorOf.2.1 115 = .ok (.getfield 248, 3) := by decide +kernel
theorem d_Model_errorOf_118 : decode M_Model_errorOf.2.1 118 = .ok (.aload_n 1, 1) := by decide +kernel
theorem d_Model_errorOf_119 : decode M_Model_errorOf.2.1 119 = .ok (.getfield 172, 3) := by decide +kernel
theorem d_Model_errorOf_122 : decode M_Model_errorOf.2.1 122 = .ok (.iconst 1, 1) := by decide +kernel
theorem d_Model_errorOf_123 : decode M_Model_errorOf.2.1 123 = .ok (.isub, 1) := by decide +kernel
theorem d_Model_errorOf_124 : decode M_Model_errorOf.2.1 124 = .ok (.iload_n 2, 1) := by decide +kernel
theorem d_Model_errorOf_125 : decode M_Model_errorOf.2.1 125 = .ok (.iconst 1, 1) := by decide +kernel
theorem d_Model_errorOf_126 : decode M_Model_errorOf.2.1 126 = .ok (.iadd, 1) := by decide +kernel
theorem d_Model_errorOf_127 : decode M_Model_errorOf.2.1 127 = .ok (.iastore, 1) := by decide +kernel
theorem d_Model_errorOf_128 : decode M_Model_errorOf.2.1 128 = .ok (.iconst 0, 1) := by decide +kernel
theorem d_Model_errorOf_129 : decode M_Model_errorOf.2.1 129 = .ok (.ireturn, 1) := by decide +kernel
theorem d_Model_errorOf_130 : decode M_Model_errorOf.2.1 130 = .ok (.aload_n 1, 1) := by decide +kernel
theorem d_Model_errorOf_131 : decode M_Model_errorOf.2.1 131 = .ok (.getfield 233, 3) := by decide +kernel
theorem d_Model_errorOf_134 : decode M_Model_errorOf.2.1 134 = .ok (.aload_n 1, 1) := by decide +kernel
theorem d_Model_errorOf_135 : decode M_Model_errorOf.2.1 135 = .ok (.getfield 172, 3) := by decide +kernel
theorem d_Model_errorOf_138 : decode M_Model_errorOf.2.1 138 = .ok (.iconst 1, 1) := by decide +kernel
theorem d_Model_errorOf_139 : decode M_Model_errorOf.2.1 139 = .ok (.isub, 1) := by decide +kernel
theorem d_Model_errorOf_140 : decode M_Model_errorOf.2.1 140 = .ok (.iload_n 2, 1) := by decide +kernel
theorem d_Model_errorOf_141 : decode M_Model_errorOf.2.1 141 = .ok (.iconst 1, 1) := by decide +kernel
theorem d_Model_errorOf_142 : decode M_Model_errorOf.2.1 142 = .ok (.iadd, 1) := by decide +kernel
theorem d_Model_errorOf_143 : decode M_Model_errorOf.2.1 143 = .ok (.iastore, 1) := by decide +kernel
theorem d_Model_errorOf_144 : decode M_Model_errorOf.2.1 144 = .ok (.iconst 0, 1) := by decide +kernel
theorem d_Model_errorOf_145 : decode M_Model_errorOf.2.1 145 = .ok (.ireturn, 1) := by decide +kernel
theorem d_Model_errorOf_146 : decode M_Model_errorOf.2.1 146 = .ok (.iconst 0, 1) := by decide +kernel
theorem d_Model_errorOf_147 : decode M_Model_errorOf.2.1 147 = .ok (.ireturn, 1) := by decide +kernel
def l_Model_errorOf_27 (M : MO) (x2 : Nat) : Nat → SH → Option (Int32 × SH)
  | 0, _ => none
  | k + 1, H => (if x2 < 401 then (if (s_Model_isOrder ((sh_kd H) x2)) = 0 then (if ((sh_kd H) x2) = 20 then (if 1 ≤ (sh_or H) then (if ((sh_or H) - 1) < 20 then some (0, (sh_su' H (upd (sh_su H) ((sh_or H) - 1) (nI (x2 + 1))))) else none) else none) else (if ((sh_kd H) x2) = 22 then (if 1 ≤ (sh_or H) then (if ((sh_or H) - 1) < 20 then some (0, (sh_wh' H (upd (sh_wh H) ((sh_or H) - 1) (nI (x2 + 1))))) else none) else none) else (if ((sh_kd H) x2) = 36 then (if x2 ≤ 2500 then ((s_Model_errorOfName M H x2).bind fun p103_11 => some (p103_11.1, p103_11.2)) else none) else (if ((sh_kd H) x2) = 37 then (if x2 ≤ 2500 then ((s_Model_errorOfNumber M H x2).bind fun p110_14 => some (p110_14.1, p110_14.2)) else none) else some (0, H))))) else ((s_Model_errorOfOrder M H ((sh_kd H) x2)).bind fun p47_15 => some (p47_15.1, p47_15.2))) else none)
set_option maxRecDepth 100000 in
set_option maxHeartbeats 4000000 in
theorem l_Model_errorOf_27_go {Γ : G9} {h : AH} {m q qs sa sb ro z : Nat} {M : MO} {x2 : Nat} {p : Int32 × SH} (bx2 : x2 ≤ 2500) (geo : m + 2 ≤ q) : ∀ (k : Nat) (H : SH), l_Model_errorOf_27 M x2 k H = some p → Go Γ M_Model_errorOf 4 0 0 27 [some (.ref m), some (.ref q), some (.int (nI x2))] [] (mk_ Γ h m q qs sa sb ro M H) z (RQ (some (.int p.1)) (mk_ Γ h m q qs sa sb ro M p.2) z) noX := by
  intro k
  induction k with
  | zero =>
    intro H hr
    cases hr
  | succ k ih =>
    intro H hr
    unfold l_Model_errorOf_27 at hr
    dsimp only at hr
    refine Go.aload_1 d_Model_errorOf_27 rfl ?_
    refine Go.getfield d_Model_errorOf_28 rfl f_Model_93 (mk_at_q (by omega)) (by rfl) ?_
    refine Go.iload_2 d_Model_errorOf_31 rfl ?_
    have o32_1 : x2 < 401 := Classical.byContradiction fun w => by
      rw [if_neg w] at hr
      cases hr
    refine Go.iaload d_Model_errorOf_32 rfl (mk_at_q_1 (by omega)) (vp_in_nI o32_1 (by decide)) ?_
    rw [nI_clamp (show x2 < 2 ^ 31 by omega)]
    refine Go.cs1r d_Model_errorOf_33 rfl l_Model_236 k_Model_isOrder_s rfl (mk_c_Model_isOrder_ (by omega)) (Nat.ble_eq_true_of_le (by omega)) rfl rfl ?_
    refine Go.if_eq (t := 51) d_Model_errorOf_36 (by decide) rfl (fun c36_2 => ?_) (fun c36_2 => ?_)
    · refine Go.aload_1 d_Model_errorOf_51 rfl ?_
      refine Go.getfield d_Model_errorOf_52 rfl f_Model_93 (mk_at_q (by omega)) (by rfl) ?_
      refine Go.iload_2 d_Model_errorOf_55 rfl ?_
      refine Go.iaload d_Model_errorOf_56 rfl (mk_at_q_1 (by omega)) (vp_in_nI o32_1 (by decide)) ?_
      rw [nI_clamp (show x2 < 2 ^ 31 by omega)]
      by_cases w57_3 : ((sh_kd H) x2) = 20
      · refine Go.lsw (t := 114) d_Model_errorOf_57 (by decide) (by rw [w57_3] <;> decide +kernel) (by decide) ?_
        refine Go.aload_1 d_Model_errorOf_114 rfl ?_
        refine Go.getfield d_Model_errorOf_115 rfl f_Model_248 (mk_at_q (by omega)) (by rfl) ?_
        refine Go.aload_1 d_Model_errorOf_118 rfl ?_
        refine Go.getfield d_Model_errorOf_119 rfl f_Model_172 (mk_at_q (by omega)) (by rfl) ?_
        refine Go.iconst (v := 1) d_Model_errorOf_122 rfl (by decide) ?_
        refine Go.isub d_Model_errorOf_123 rfl ?_
        have o123_4 : 1 ≤ (sh_or H) := Classical.byContradiction fun w => by
          rw [if_pos o32_1, if_pos c36_2, if_pos w57_3, if_neg w] at hr
          cases hr
        rw [show (nI (sh_or H)) - 1 = nI ((sh_or H) - 1) from nI_pred1 o123_4]
        refine Go.iload_2 d_Model_errorOf_124 rfl ?_
        refine Go.iconst (v := 1) d_Model_errorOf_125 rfl (by decide) ?_
        refine Go.iadd d_Model_errorOf_126 rfl ?_
        rw [show (nI x2) + 1 = nI (x2 + 1) from nI_add _ _]
        have o127_5 : ((sh_or H) - 1) < 20 := Classical.byContradiction fun w => by
          rw [if_pos o32_1, if_pos c36_2, if_pos w57_3, if_pos o123_4, if_neg w] at hr
          cases hr
        refine Go.iastore d_Model_errorOf_127 rfl (mk_at_q_22 (by omega)) (vp_in_nI o127_5 (by decide)) ?_
        rw [nI_clamp (show ((sh_or H) - 1) < 2 ^ 31 by omega)]
        refine Go.heq (mk_arr_q_22 (by omega)) ?_
        refine Go.iconst (v := 0) d_Model_errorOf_128 rfl (by decide) ?_
        rw [if_pos o32_1, if_pos c36_2, if_pos w57_3, if_pos o123_4, if_pos o127_5] at hr
        cases hr
        exact Go.iret d_Model_errorOf_129 rfl rfl ⟨rfl, by dsimp only, rfl⟩
      by_cases w57_6 : ((sh_kd H) x2) = 22
      · refine Go.lsw (t := 130) d_Model_errorOf_57 (by decide) (by rw [w57_6] <;> decide +kernel) (by decide) ?_
        refine Go.aload_1 d_Model_errorOf_130 rfl ?_
        refine Go.getfield d_Model_errorOf_131 rfl f_Model_233 (mk_at_q (by omega)) (by rfl) ?_
        refine Go.aload_1 d_Model_errorOf_134 rfl ?_
        refine Go.getfield d_Model_errorOf_135 rfl f_Model_172 (mk_at_q (by omega)) (by rfl) ?_
        refine Go.iconst (v := 1) d_Model_errorOf_138 rfl (by decide) ?_
        refine Go.isub d_Model_errorOf_139 rfl ?_
        have o139_7 : 1 ≤ (sh_or H) := Classical.byContradiction fun w => by
          rw [if_pos o32_1, if_pos c36_2, if_neg w57_3, if_pos w57_6, if_neg w] at hr
          cases hr
        rw [show (nI (sh_or H)) - 1 = nI ((sh_or H) - 1) from nI_pred1 o139_7]
        refine Go.iload_2 d_Model_errorOf_140 rfl ?_
        refine Go.iconst (v := 1) d_Model_errorOf_141 rfl (by decide) ?_
        refine Go.iadd d_Model_errorOf_142 rfl ?_
        rw [show (nI x2) + 1 = nI (x2 + 1) from nI_add _ _]
        have o143_8 : ((sh_or H) - 1) < 20 := Classical.byContradiction fun w => by
          rw [if_pos o32_1, if_pos c36_2, if_neg w57_3, if_pos w57_6, if_pos o139_7, if_neg w] at hr
          cases hr
        refine Go.iastore d_Model_errorOf_143 rfl (mk_at_q_23 (by omega)) (vp_in_nI o143_8 (by decide)) ?_
        rw [nI_clamp (show ((sh_or H) - 1) < 2 ^ 31 by omega)]
        refine Go.heq (mk_arr_q_23 (by omega)) ?_
        refine Go.iconst (v := 0) d_Model_errorOf_144 rfl (by decide) ?_
        rw [if_pos o32_1, if_pos c36_2, if_neg w57_3, if_pos w57_6, if_pos o139_7, if_pos o143_8] at hr
        cases hr
        exact Go.iret d_Model_errorOf_145 rfl rfl ⟨rfl, by dsimp only, rfl⟩
      by_cases w57_9 : ((sh_kd H) x2) = 36
      · refine Go.lsw (t := 100) d_Model_errorOf_57 (by decide) (by rw [w57_9] <;> decide +kernel) (by decide) ?_
        refine Go.aload_0 d_Model_errorOf_100 rfl ?_
        refine Go.aload_1 d_Model_errorOf_101 rfl ?_
        refine Go.iload_2 d_Model_errorOf_102 rfl ?_
        have o103_10 : x2 ≤ 2500 := Classical.byContradiction fun w => by
          rw [if_pos o32_1, if_pos c36_2, if_neg w57_3, if_neg w57_6, if_pos w57_9, if_neg w] at hr
          cases hr
        rw [if_pos o32_1, if_pos c36_2, if_neg w57_3, if_neg w57_6, if_pos w57_9, if_pos o103_10] at hr
        obtain ⟨p103_11, hp103_11, hr⟩ := Option.bind_eq_some_iff.mp hr
        try dsimp only at hr
        refine Go.cv2r d_Model_errorOf_103 rfl l_Model_242 k_Model_errorOfName_v (mk_at_m (by omega)) rfl (c_Model_errorOfName (by omega) (by omega) hp103_11) (Nat.ble_eq_true_of_le (by omega)) rfl rfl ?_
        cases hr
        exact Go.iret d_Model_errorOf_106 rfl rfl ⟨rfl, by dsimp only, rfl⟩
      by_cases w57_12 : ((sh_kd H) x2) = 37
      · refine Go.lsw (t := 107) d_Model_errorOf_57 (by decide) (by rw [w57_12] <;> decide +kernel) (by decide) ?_
        refine Go.aload_0 d_Model_errorOf_107 rfl ?_
        refine Go.aload_1 d_Model_errorOf_108 rfl ?_
        refine Go.iload_2 d_Model_errorOf_109 rfl ?_
        have o110_13 : x2 ≤ 2500 := Classical.byContradiction fun w => by
          rw [if_pos o32_1, if_pos c36_2, if_neg w57_3, if_neg w57_6, if_neg w57_9, if_pos w57_12, if_neg w] at hr
          cases hr
        rw [if_pos o32_1, if_pos c36_2, if_neg w57_3, if_neg w57_6, if_neg w57_9, if_pos w57_12, if_pos o110_13] at hr
        obtain ⟨p110_14, hp110_14, hr⟩ := Option.bind_eq_some_iff.mp hr
        try dsimp only at hr
        refine Go.cv2r d_Model_errorOf_110 rfl l_Model_245 k_Model_errorOfNumber_v (mk_at_m (by omega)) rfl (c_Model_errorOfNumber (by omega) (by omega) hp110_14) (Nat.ble_eq_true_of_le (by omega)) rfl rfl ?_
        cases hr
        exact Go.iret d_Model_errorOf_113 rfl rfl ⟨rfl, by dsimp only, rfl⟩
      refine Go.lsw (t := 146) d_Model_errorOf_57 (by decide) (lsw_d [20, 22, 36, 37] (by decide +kernel) ⟨w57_3, w57_6, w57_9, w57_12, trivial⟩) (by decide) ?_
      refine Go.iconst (v := 0) d_Model_errorOf_146 rfl (by decide) ?_
      rw [if_pos o32_1, if_pos c36_2, if_neg w57_3, if_neg w57_6, if_neg w57_9, if_neg w57_12] at hr
      cases hr
      exact Go.iret d_Model_errorOf_147 rfl rfl ⟨rfl, by dsimp only, rfl⟩
    · refine Go.aload_0 d_Model_errorOf_39 rfl ?_
      refine Go.aload_1 d_Model_errorOf_40 rfl ?_
      refine Go.aload_1 d_Model_errorOf_41 rfl ?_
      refine Go.getfield d_Model_errorOf_42 rfl f_Model_93 (mk_at_q (by omega)) (by rfl) ?_
      refine Go.iload_2 d_Model_errorOf_45 rfl ?_
      refine Go.iaload d_Model_errorOf_46 rfl (mk_at_q_1 (by omega)) (vp_in_nI o32_1 (by decide)) ?_
      rw [nI_clamp (show x2 < 2 ^ 31 by omega)]
      rw [if_pos o32_1, if_neg c36_2] at hr
      obtain ⟨p47_15, hp47_15, hr⟩ := Option.bind_eq_some_iff.mp hr
      try dsimp only at hr
      refine Go.cv2r d_Model_errorOf_47 rfl l_Model_239 k_Model_errorOfOrder_v (mk_at_m (by omega)) rfl (c_Model_errorOfOrder (by omega) hp47_15) (Nat.ble_eq_true_of_le (by omega)) rfl rfl ?_
      cases hr
      exact Go.iret d_Model_errorOf_50 rfl rfl ⟨rfl, by dsimp only, rfl⟩
theorem mk_put_q_line {Γ : G9} {h : AH} {m q qs sa sb ro : Nat} {M : MO} {H : SH} {v : Int32} (geo : m + 2 ≤ q) : hup (mk_ Γ h m q qs sa sb ro M H) q (.inr (9, [.ref (q + 1), .ref (q + 2), .ref (q + 3), .ref (q + 4), .ref (q + 5), .ref (q + 6), .int (sh_ln H), .ref (q + 7), .ref (q + 8), .ref (q + 9), .ref (q + 10), .ref (q + 11), .ref (q + 12), .ref (q + 13), .ref (q + 14), .ref (q + 15), .ref (q + 16), .ref (q + 17), .ref (q + 18), .int (sh_dt H), .int (nI (sh_or H)), .ref (q + 19), .ref (q + 20), .ref (q + 21), .ref (q + 22), .ref (q + 23)].set 6 (.int v))) = (mk_ Γ h m q qs sa sb ro M (sh_ln' H v)) := by
  unfold mk_
  exact (sh_p_ln (v := v))
theorem d_Model_errorOf_0 : decode M_Model_errorOf.2.1 0 = .ok (.iload_n 2, 1) := by decide +kernel
theorem d_Model_errorOf_1 : decode M_Model_errorOf.2.1 1 = .ok (.ifCond .eq 16, 3) := by decide +kernel
theorem d_Model_errorOf_4 : decode M_Model_errorOf.2.1 4 = .ok (.aload_n 1, 1) := by decide +kernel
theorem d_Model_errorOf_5 : decode M_Model_errorOf.2.1 5 = .ok (.getfield 93, 3) := by decide +kernel
theorem d_Model_errorOf_8 : decode M_Model_errorOf.2.1 8 = .ok (.iload_n 2, 1) := by decide +kernel
theorem d_Model_errorOf_9 : decode M_Model_errorOf.2.1 9 = .ok (.iconst 1, 1) := by decide +kernel
theorem d_Model_errorOf_10 : decode M_Model_errorOf.2.1 10 = .ok (.isub, 1) := by decide +kernel
theorem d_Model_errorOf_11 : decode M_Model_errorOf.2.1 11 = .ok (.iaload, 1) := by decide +kernel
theorem d_Model_errorOf_12 : decode M_Model_errorOf.2.1 12 = .ok (.bipush 44, 2) := by decide +kernel
theorem d_Model_errorOf_14 : decode M_Model_errorOf.2.1 14 = .ok (.if_icmp .ne 13, 3) := by decide +kernel
theorem d_Model_errorOf_17 : decode M_Model_errorOf.2.1 17 = .ok (.aload_n 1, 1) := by decide +kernel
theorem d_Model_errorOf_18 : decode M_Model_errorOf.2.1 18 = .ok (.aload_n 1, 1) := by decide +kernel
theorem d_Model_errorOf_19 : decode M_Model_errorOf.2.1 19 = .ok (.getfield 93, 3) := by decide +kernel
theorem d_Model_errorOf_22 : decode M_Model_errorOf.2.1 22 = .ok (.iload_n 2, 1) := by decide +kernel
theorem d_Model_errorOf_23 : decode M_Model_errorOf.2.1 23 = .ok (.iaload, 1) := by decide +kernel
theorem d_Model_errorOf_24 : decode M_Model_errorOf.2.1 24 = .ok (.putfield 175, 3) := by decide +kernel
def s_Model_errorOf (M : MO) (H : SH) (x2 : Nat) : Option (Int32 × SH) := (if (nI x2) = 0 then (if x2 < 401 then (l_Model_errorOf_27 M x2 1 (sh_ln' H ((sh_kd H) x2))) else none) else (if 1 ≤ x2 then (if (x2 - 1) < 401 then (if ((sh_kd H) (x2 - 1)) = 44 then (if x2 < 401 then (l_Model_errorOf_27 M x2 1 (sh_ln' H ((sh_kd H) x2))) else none) else (l_Model_errorOf_27 M x2 1 H)) else none) else none))
set_option maxRecDepth 100000 in
set_option maxHeartbeats 4000000 in
theorem c_Model_errorOf {Γ : G9} {h : AH} {m q qs sa sb ro z : Nat} {M : MO} {H : SH} {x2 : Nat} {p : Int32 × SH} (bx2 : x2 ≤ 2500) (geo : m + 2 ≤ q) (hr : s_Model_errorOf M H x2 = some p) : CallR Γ M_Model_errorOf 4 [.ref m, .ref q, .int (nI x2)] (mk_ Γ h m q qs sa sb ro M H) z (some (.int p.1)) (mk_ Γ h m q qs sa sb ro M p.2) := by
  refine Call.of_go (L := [some (.ref m), some (.ref q), some (.int (nI x2))]) (by decide +kernel) rfl (by exact Nat.le_of_ble_eq_true rfl) ?_
  unfold s_Model_errorOf at hr
  refine Go.iload_2 d_Model_errorOf_0 rfl ?_
  refine Go.if_eq (t := 17) d_Model_errorOf_1 (by decide) rfl (fun c1_1 => ?_) (fun c1_1 => ?_)
  · refine Go.aload_1 d_Model_errorOf_17 rfl ?_
    refine Go.aload_1 d_Model_errorOf_18 rfl ?_
    refine Go.getfield d_Model_errorOf_19 rfl f_Model_93 (mk_at_q (by omega)) (by rfl) ?_
    refine Go.iload_2 d_Model_errorOf_22 rfl ?_
    have o23_2 : x2 < 401 := Classical.byContradiction fun w => by
      rw [if_pos c1_1, if_neg w] at hr
      cases hr
    refine Go.iaload d_Model_errorOf_23 rfl (mk_at_q_1 (by omega)) (vp_in_nI o23_2 (by decide)) ?_
    rw [nI_clamp (show x2 < 2 ^ 31 by omega)]
    refine Go.putfield d_Model_errorOf_24 rfl f_Model_175_p (Or.inl (fun C T N h => by cases h; rfl)) (mk_at_q (by omega)) (by exact Nat.le_of_ble_eq_true rfl) rfl rfl ?_
    refine Go.heq (mk_put_q_line (by omega)) ?_
    rw [if_pos c1_1, if_pos o23_2] at hr
    exact l_Model_errorOf_27_go bx2 (by omega) _ _ hr
  · refine Go.aload_1 d_Model_errorOf_4 rfl ?_
    refine Go.getfield d_Model_errorOf_5 rfl f_Model_93 (mk_at_q (by omega)) (by rfl) ?_
    refine Go.iload_2 d_Model_errorOf_8 rfl ?_
    refine Go.iconst (v := 1) d_Model_errorOf_9 rfl (by decide) ?_
    refine Go.isub d_Model_errorOf_10 rfl ?_
    have o10_3 : 1 ≤ x2 := Classical.byContradiction fun w => by
      rw [if_neg c1_1, if_neg w] at hr
      cases hr
    rw [show (nI x2) - 1 = nI (x2 - 1) from nI_pred1 o10_3]
    have o11_4 : (x2 - 1) < 401 := Classical.byContradiction fun w => by
      rw [if_neg c1_1, if_pos o10_3, if_neg w] at hr
      cases hr
    refine Go.iaload d_Model_errorOf_11 rfl (mk_at_q_1 (by omega)) (vp_in_nI o11_4 (by decide)) ?_
    rw [nI_clamp (show (x2 - 1) < 2 ^ 31 by omega)]
    refine Go.bipush (v := 44) d_Model_errorOf_12 rfl (by decide) ?_
    refine Go.icmp_ne (t := 27) d_Model_errorOf_14 (by decide) rfl (fun c14_5 => ?_) (fun c14_5 => ?_)
    · rw [if_neg c1_1, if_pos o10_3, if_pos o11_4, if_neg c14_5] at hr
      exact l_Model_errorOf_27_go bx2 (by omega) _ _ hr
    · refine Go.aload_1 d_Model_errorOf_17 rfl ?_
      refine Go.aload_1 d_Model_errorOf_18 rfl ?_
      refine Go.getfield d_Model_errorOf_19 rfl f_Model_93 (mk_at_q (by omega)) (by rfl) ?_
      refine Go.iload_2 d_Model_errorOf_22 rfl ?_
      have o23_6 : x2 < 401 := Classical.byContradiction fun w => by
        rw [if_neg c1_1, if_pos o10_3, if_pos o11_4, if_pos c14_5, if_neg w] at hr
        cases hr
      refine Go.iaload d_Model_errorOf_23 rfl (mk_at_q_1 (by omega)) (vp_in_nI o23_6 (by decide)) ?_
      rw [nI_clamp (show x2 < 2 ^ 31 by omega)]
      refine Go.putfield d_Model_errorOf_24 rfl f_Model_175_p (Or.inl (fun C T N h => by cases h; rfl)) (mk_at_q (by omega)) (by exact Nat.le_of_ble_eq_true rfl) rfl rfl ?_
      refine Go.heq (mk_put_q_line (by omega)) ?_
      rw [if_neg c1_1, if_pos o10_3, if_pos o11_4, if_pos c14_5, if_pos o23_6] at hr
      exact l_Model_errorOf_27_go bx2 (by omega) _ _ hr
theorem mk_put_m_errorAt {Γ : G9} {h : AH} {m q qs sa sb ro : Nat} {M : MO} {H : SH} {v : Int32} (geo : m + 2 ≤ q) : hup (mk_ Γ h m q qs sa sb ro M H) m (.inr (11, [.int (mo_th M), .ref (m + 1), .int (nI (mo_sz M)), .int (mo_ea M), .int (nI (mo_tk M)), .int (nI (mo_dp M)), .ref qs, .ref sa, .ref sb, .int (mo_wk M), .ref ro].set 3 (.int v))) = (mk_ Γ h m q qs sa sb ro (mo_ea' M v) H) := by
  unfold mk_
  exact ((hup_blk (by omega)).trans (blk_in (mo_p_ea (v := v))))
theorem d_Model_read_40 : decode M_Model_read.2.1 40 = .ok (.iload_n 2, 1) := by decide +kernel
theorem d_Model_read_41 : decode M_Model_read.2.1 41 = .ok (.aload_n 0, 1) := by decide +kernel
theorem d_Model_read_42 : decode M_Model_read.2.1 42 = .ok (.getfield 99, 3) := by decide +kernel
theorem d_Model_read_45 : decode M_Model_read.2.1 45 = .ok (.if_icmp .ge 35, 3) := by decide +kernel
theorem d_Model_read_48 : decode M_Model_read.2.1 48 = .ok (.aload_n 0, 1) := by decide +kernel
theorem d_Model_read_49 : decode M_Model_read.2.1 49 = .ok (.aload_n 1, 1) := by decide +kernel
theorem d_Model_read_50 : decode M_Model_read.2.1 50 = .ok (.iload_n 2, 1) := by decide +kernel
theorem d_Model_read_51 : decode M_Model_read.2.1 51 = .ok (.invokevirtual 258, 3) := by decide +kernel
theorem d_Model_read_54 : decode M_Model_read.2.1 54 = .ok (.istore_n 3, 1) := by decide +kernel
theorem d_Model_read_55 : decode M_Model_read.2.1 55 = .ok (.iload_n 3, 1) := by decide +kernel
theorem d_Model_read_56 : decode M_Model_read.2.1 56 = .ok (.ifCond .ne 6, 3) := by decide +kernel
theorem d_Model_read_59 : decode M_Model_read.2.1 59 = .ok (.goto 15, 3) := by decide +kernel
theorem d_Model_read_62 : decode M_Model_read.2.1 62 = .ok (.aload_n 0, 1) := by decide +kernel
theorem d_Model_read_63 : decode M_Model_read.2.1 63 = .ok (.aload_n 1, 1) := by decide +kernel
theorem d_Model_read_64 : decode M_Model_read.2.1 64 = .ok (.getfield 84, 3) := by decide +kernel
theorem d_Model_read_67 : decode M_Model_read.2.1 67 = .ok (.iload_n 2, 1) := by decide +kernel
theorem d_Model_read_68 : decode M_Model_read.2.1 68 = .ok (.iaload, 1) := by decide +kernel
theorem d_Model_read_69 : decode M_Model_read.2.1 69 = .ok (.putfield 13, 3) := by decide +kernel
theorem d_Model_read_72 : decode M_Model_read.2.1 72 = .ok (.iload_n 3, 1) := by decide +kernel
theorem d_Model_read_73 : decode M_Model_read.2.1 73 = .ok (.ireturn, 1) := by decide +kernel
theorem d_Model_read_74 : decode M_Model_read.2.1 74 = .ok (.iinc 2 1, 3) := by decide +kernel
theorem d_Model_read_77 : decode M_Model_read.2.1 77 = .ok (.goto (-37), 3) := by decide +kernel
theorem d_Model_read_80 : decode M_Model_read.2.1 80 = .ok (.iconst 0, 1) := by decide +kernel
theorem d_Model_read_81 : decode M_Model_read.2.1 81 = .ok (.ireturn, 1) := by decide +kernel
def l_Model_read_40 : Nat → Nat → MO → SH → Option (Int32 × MO × SH)
  | 0, _, _, _ => none
  | k + 1, i, M, H => (if (nI (mo_tk M)) ≤ (nI i) then some (0, M, H) else (if i ≤ 2500 then ((s_Model_errorOf M H i).bind fun p51_3 => (if p51_3.1 = 0 then (l_Model_read_40 k (i + 1) M p51_3.2) else (if i < 401 then some (p51_3.1, (mo_ea' M (nI ((sh_fr p51_3.2) i))), p51_3.2) else none))) else none))
set_option maxRecDepth 100000 in
set_option maxHeartbeats 4000000 in
theorem l_Model_read_40_go {Γ : G9} {h : AH} {wd : Nat → Nat} {wa sn : Nat} {m q qs sa sb ro z : Nat} {p : Int32 × MO × SH} (geo : m + 2 ≤ q) (hcs : CsOk Γ) (hwd : WdOk Γ wa wd) (hsg : SnOk Γ sn) : ∀ (k : Nat) (i : Nat) (M : MO) (H : SH), l_Model_read_40 k i M H = some p → Go Γ M_Model_read 72 0 0 40 [some (.ref m), some (.ref q), some (.int (nI i)), none] [] (mk_ Γ h m q qs sa sb ro M H) z (RQ (some (.int p.1)) (mk_ Γ h m q qs sa sb ro p.2.1 p.2.2) z) noX := by
  intro k
  induction k with
  | zero =>
    intro i M H hr
    cases hr
  | succ k ih =>
    intro i M H hr
    unfold l_Model_read_40 at hr
    refine Go.iload_2 d_Model_read_40 rfl ?_
    refine Go.aload_0 d_Model_read_41 rfl ?_
    refine Go.getfield d_Model_read_42 rfl f_Model_99 (mk_at_m (by omega)) (by rfl) ?_
    refine Go.icmp_ge (t := 80) d_Model_read_45 (by decide) rfl (fun c45_1 => ?_) (fun c45_1 => ?_)
    · refine Go.iconst (v := 0) d_Model_read_80 rfl (by decide) ?_
      rw [if_pos c45_1] at hr
      cases hr
      exact Go.iret d_Model_read_81 rfl rfl ⟨rfl, by dsimp only, rfl⟩
    · refine Go.aload_0 d_Model_read_48 rfl ?_
      refine Go.aload_1 d_Model_read_49 rfl ?_
      refine Go.iload_2 d_Model_read_50 rfl ?_
      have o51_2 : i ≤ 2500 := Classical.byContradiction fun w => by
        rw [if_neg c45_1, if_neg w] at hr
        cases hr
      rw [if_neg c45_1, if_pos o51_2] at hr
      obtain ⟨p51_3, hp51_3, hr⟩ := Option.bind_eq_some_iff.mp hr
      try dsimp only at hr
      refine Go.cv2r d_Model_read_51 rfl l_Model_258 k_Model_errorOf_v (mk_at_m (by omega)) rfl (c_Model_errorOf (by omega) (by omega) hp51_3) (Nat.ble_eq_true_of_le (by omega)) rfl rfl ?_
      refine Go.istore_3 d_Model_read_54 rfl (by rfl) ?_
      refine Go.iload_3 d_Model_read_55 rfl ?_
      refine Go.if_ne (t := 62) d_Model_read_56 (by decide) rfl (fun c56_4 => ?_) (fun c56_4 => ?_)
      · refine Go.aload_0 d_Model_read_62 rfl ?_
        refine Go.aload_1 d_Model_read_63 rfl ?_
        refine Go.getfield d_Model_read_64 rfl f_Model_84 (mk_at_q (by omega)) (by rfl) ?_
        refine Go.iload_2 d_Model_read_67 rfl ?_
        have o68_5 : i < 401 := Classical.byContradiction fun w => by
          rw [if_neg c56_4, if_neg w] at hr
          cases hr
        refine Go.iaload d_Model_read_68 rfl (mk_at_q_2 (by omega)) (vp_in_nI o68_5 (by decide)) ?_
        rw [nI_clamp (show i < 2 ^ 31 by omega)]
        refine Go.putfield d_Model_read_69 rfl f_Model_13_p (Or.inl (fun C T N h => by cases h; rfl)) (mk_at_m (by omega)) (by exact Nat.le_of_ble_eq_true rfl) rfl rfl ?_
        refine Go.heq (mk_put_m_errorAt (by omega)) ?_
        refine Go.iload_3 d_Model_read_72 rfl ?_
        rw [if_neg c56_4, if_pos o68_5] at hr
        cases hr
        exact Go.iret d_Model_read_73 rfl rfl ⟨rfl, by dsimp only, rfl⟩
      · refine Go.goto (t := 74) d_Model_read_59 (by decide) ?_
        refine Go.iinc_2 d_Model_read_74 rfl (by rfl) (nI_inc _) ?_
        refine Go.goto (t := 40) d_Model_read_77 (by decide) ?_
        rw [if_pos c56_4] at hr
        refine Go.fgt [some (.ref m), some (.ref q), some (.int (nI (i + 1))), none] (by repeat' (first | exact trivial | refine ⟨rfl, ?_⟩)) ?_
        exact ih _ _ _ hr
theorem d_Model_read_0 : decode M_Model_read.2.1 0 = .ok (.aload_n 0, 1) := by decide +kernel
theorem d_Model_read_1 : decode M_Model_read.2.1 1 = .ok (.aload_n 1, 1) := by decide +kernel
theorem d_Model_read_2 : decode M_Model_read.2.1 2 = .ok (.invokevirtual 251, 3) := by decide +kernel
theorem d_Model_read_5 : decode M_Model_read.2.1 5 = .ok (.aload_n 0, 1) := by decide +kernel
theorem d_Model_read_6 : decode M_Model_read.2.1 6 = .ok (.iconst 0, 1) := by decide +kernel
theorem d_Model_read_7 : decode M_Model_read.2.1 7 = .ok (.putfield 99, 3) := by decide +kernel
theorem d_Model_read_10 : decode M_Model_read.2.1 10 = .ok (.aload_n 0, 1) := by decide +kernel
theorem d_Model_read_11 : decode M_Model_read.2.1 11 = .ok (.iconst 0, 1) := by decide +kernel
theorem d_Model_read_12 : decode M_Model_read.2.1 12 = .ok (.putfield 102, 3) := by decide +kernel
theorem d_Model_read_15 : decode M_Model_read.2.1 15 = .ok (.aload_n 0, 1) := by decide +kernel
theorem d_Model_read_16 : decode M_Model_read.2.1 16 = .ok (.aload_n 1, 1) := by decide +kernel
theorem d_Model_read_17 : decode M_Model_read.2.1 17 = .ok (.invokevirtual 255, 3) := by decide +kernel
theorem d_Model_read_20 : decode M_Model_read.2.1 20 = .ok (.ifCond .ne 18, 3) := by decide +kernel
theorem d_Model_read_23 : decode M_Model_read.2.1 23 = .ok (.aload_n 0, 1) := by decide +kernel
theorem d_Model_read_24 : decode M_Model_read.2.1 24 = .ok (.aload_n 1, 1) := by decide +kernel
theorem d_Model_read_25 : decode M_Model_read.2.1 25 = .ok (.getfield 84, 3) := by decide +kernel
theorem d_Model_read_28 : decode M_Model_read.2.1 28 = .ok (.aload_n 0, 1) := by decide +kernel
theorem d_Model_read_29 : decode M_Model_read.2.1 29 = .ok (.getfield 99, 3) := by decide +kernel
theorem d_Model_read_32 : decode M_Model_read.2.1 32 = .ok (.iaload, 1) := by decide +kernel
theorem d_Model_read_33 : decode M_Model_read.2.1 33 = .ok (.putfield 13, 3) := by decide +kernel
theorem d_Model_read_36 : decode M_Model_read.2.1 36 = .ok (.iconst 1, 1) := by decide +kernel
theorem d_Model_read_37 : decode M_Model_read.2.1 37 = .ok (.ireturn, 1) := by decide +kernel
theorem d_Model_read_38 : decode M_Model_read.2.1 38 = .ok (.iconst 0, 1) := by decide +kernel
theorem d_Model_read_39 : decode M_Model_read.2.1 39 = .ok (.istore_n 2, 1) := by decide +kernel
def s_Model_read (M : MO) (H : SH) : Option (Int32 × MO × SH) := ((s_Model_cut M H).bind fun p2_1 => ((s_Model_isList p2_1 (mo_dp' (mo_tk' M 0) 0)).bind fun p17_2 => (if p17_2.1 = 0 then (if (mo_tk p17_2.2) < 401 then some (1, (mo_ea' p17_2.2 (nI ((sh_fr p2_1) (mo_tk p17_2.2)))), p2_1) else none) else (l_Model_read_40 402 0 p17_2.2 p2_1))))
set_option maxRecDepth 100000 in
set_option maxHeartbeats 4000000 in
theorem c_Model_read {Γ : G9} {h : AH} {wd : Nat → Nat} {wa sn : Nat} {m q qs sa sb ro z : Nat} {M : MO} {H : SH} {p : Int32 × MO × SH} (geo : m + 2 ≤ q) (hsz : mo_sz M ≤ 2000) (hcs : CsOk Γ) (hwd : WdOk Γ wa wd) (hsg : SnOk Γ sn) (hr : s_Model_read M H = some p) : CallR Γ M_Model_read 72 [.ref m, .ref q] (mk_ Γ h m q qs sa sb ro M H) z (some (.int p.1)) (mk_ Γ h m q qs sa sb ro p.2.1 p.2.2) := by
  refine Call.of_go (L := [some (.ref m), some (.ref q), none, none]) (by decide +kernel) rfl (by exact Nat.le_of_ble_eq_true rfl) ?_
  unfold s_Model_read at hr
  refine Go.aload_0 d_Model_read_0 rfl ?_
  refine Go.aload_1 d_Model_read_1 rfl ?_
  obtain ⟨p2_1, hp2_1, hr⟩ := Option.bind_eq_some_iff.mp hr
  try dsimp only at hr
  refine Go.cv1v d_Model_read_2 rfl l_Model_251 k_Model_cut_v (mk_at_m (by omega)) rfl (c_Model_cut (by omega) hsz hcs hwd hsg hp2_1) (Nat.ble_eq_true_of_le (by omega)) rfl rfl ?_
  refine Go.aload_0 d_Model_read_5 rfl ?_
  refine Go.iconst (v := 0) d_Model_read_6 rfl (by decide) ?_
  refine Go.putfield d_Model_read_7 rfl f_Model_99_p (Or.inl (fun C T N h => by cases h; rfl)) (mk_at_m (by omega)) (by exact Nat.le_of_ble_eq_true rfl) rfl rfl ?_
  refine Go.heq (mk_put_m_token (by omega)) ?_
  refine Go.aload_0 d_Model_read_10 rfl ?_
  refine Go.iconst (v := 0) d_Model_read_11 rfl (by decide) ?_
  refine Go.putfield d_Model_read_12 rfl f_Model_102_p (Or.inl (fun C T N h => by cases h; rfl)) (mk_at_m (by omega)) (by exact Nat.le_of_ble_eq_true rfl) rfl rfl ?_
  refine Go.heq (mk_put_m_depth (by omega)) ?_
  refine Go.aload_0 d_Model_read_15 rfl ?_
  refine Go.aload_1 d_Model_read_16 rfl ?_
  obtain ⟨p17_2, hp17_2, hr⟩ := Option.bind_eq_some_iff.mp hr
  try dsimp only at hr
  refine Go.cv1r d_Model_read_17 rfl l_Model_255 k_Model_isList_v (mk_at_m (by omega)) rfl (c_Model_isList geo hp17_2) (Nat.ble_eq_true_of_le (by omega)) rfl rfl ?_
  refine Go.if_ne (t := 38) d_Model_read_20 (by decide) rfl (fun c20_3 => ?_) (fun c20_3 => ?_)
  · refine Go.iconst (v := 0) d_Model_read_38 rfl (by decide) ?_
    refine Go.istore_2 d_Model_read_39 rfl (by rfl) ?_
    rw [if_neg c20_3] at hr
    exact l_Model_read_40_go (by omega) hcs hwd hsg _ _ _ _ hr
  · refine Go.aload_0 d_Model_read_23 rfl ?_
    refine Go.aload_1 d_Model_read_24 rfl ?_
    refine Go.getfield d_Model_read_25 rfl f_Model_84 (mk_at_q (by omega)) (by rfl) ?_
    refine Go.aload_0 d_Model_read_28 rfl ?_
    refine Go.getfield d_Model_read_29 rfl f_Model_99 (mk_at_m (by omega)) (by rfl) ?_
    have o32_4 : (mo_tk p17_2.2) < 401 := Classical.byContradiction fun w => by
      rw [if_pos c20_3, if_neg w] at hr
      cases hr
    refine Go.iaload d_Model_read_32 rfl (mk_at_q_2 (by omega)) (vp_in_nI o32_4 (by decide)) ?_
    rw [nI_clamp (show (mo_tk p17_2.2) < 2 ^ 31 by omega)]
    refine Go.putfield d_Model_read_33 rfl f_Model_13_p (Or.inl (fun C T N h => by cases h; rfl)) (mk_at_m (by omega)) (by exact Nat.le_of_ble_eq_true rfl) rfl rfl ?_
    refine Go.heq (mk_put_m_errorAt (by omega)) ?_
    refine Go.iconst (v := 1) d_Model_read_36 rfl (by decide) ?_
    rw [if_pos c20_3, if_pos o32_4] at hr
    cases hr
    exact Go.iret d_Model_read_37 rfl rfl ⟨rfl, by dsimp only, rfl⟩
