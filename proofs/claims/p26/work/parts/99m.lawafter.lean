/-! the law: the bands and the stakes after the day -/
section Lw
variable {Γ : G9} {A : AD} {c z0 z sa it : Nat} {Y : SM} {N : Nat} {dg : Int64} {h h' : AH} {ms : Nat → Nat} {Q : QT} {X : XT} {w8 : Int32}
variable {Y2 Y3 : SM} {N2 N1 : Nat} {dg2 : Int64}
theorem nI_np {n : Nat} (h : 0 < n) (hn : n < 2 ^ 31) : ¬ nI n ≤ 0 := fun w => absurd ((nI_leI (a := n) (b := 0) hn (by decide)).mp w) (by omega)
theorem melN : ∀ w, w < 31 → ∀ g, g < 31 → 3 * iMax 0 (nI w - nI g) = nI (3 * (w - g)) := by decide +kernel
theorem d_law_1129 : decode M_law.2.1 1129 = .ok (.iload 29, 2) := by decide +kernel
theorem d_law_1131 : decode M_law.2.1 1131 = .ok (.iload 4, 2) := by decide +kernel
theorem d_law_1133 : decode M_law.2.1 1133 = .ok (.if_icmp .ge 106, 3) := by decide +kernel
theorem d_law_1136 : decode M_law.2.1 1136 = .ok (.aload 12, 2) := by decide +kernel
theorem d_law_1138 : decode M_law.2.1 1138 = .ok (.iload 29, 2) := by decide +kernel
theorem d_law_1140 : decode M_law.2.1 1140 = .ok (.iaload, 1) := by decide +kernel
theorem d_law_1141 : decode M_law.2.1 1141 = .ok (.aload_n 1, 1) := by decide +kernel
theorem d_law_1142 : decode M_law.2.1 1142 = .ok (.iload 29, 2) := by decide +kernel
theorem d_law_1144 : decode M_law.2.1 1144 = .ok (.iconst 1, 1) := by decide +kernel
theorem d_law_1145 : decode M_law.2.1 1145 = .ok (.invokevirtual 271, 3) := by decide +kernel
theorem d_law_1148 : decode M_law.2.1 1148 = .ok (.isub, 1) := by decide +kernel
theorem d_law_1149 : decode M_law.2.1 1149 = .ok (.aload_n 1, 1) := by decide +kernel
theorem d_law_1150 : decode M_law.2.1 1150 = .ok (.iload 29, 2) := by decide +kernel
theorem d_law_1152 : decode M_law.2.1 1152 = .ok (.iconst 2, 1) := by decide +kernel
theorem d_law_1153 : decode M_law.2.1 1153 = .ok (.invokevirtual 271, 3) := by decide +kernel
theorem d_law_1156 : decode M_law.2.1 1156 = .ok (.iadd, 1) := by decide +kernel
theorem d_law_1157 : decode M_law.2.1 1157 = .ok (.aload 13, 2) := by decide +kernel
theorem d_law_1159 : decode M_law.2.1 1159 = .ok (.iload 29, 2) := by decide +kernel
theorem d_law_1161 : decode M_law.2.1 1161 = .ok (.iaload, 1) := by decide +kernel
theorem d_law_1162 : decode M_law.2.1 1162 = .ok (.isub, 1) := by decide +kernel
theorem d_law_1163 : decode M_law.2.1 1163 = .ok (.istore 30, 2) := by decide +kernel
theorem d_law_1165 : decode M_law.2.1 1165 = .ok (.aload 11, 2) := by decide +kernel
theorem d_law_1167 : decode M_law.2.1 1167 = .ok (.iload 29, 2) := by decide +kernel
theorem d_law_1169 : decode M_law.2.1 1169 = .ok (.iaload, 1) := by decide +kernel
theorem d_law_1170 : decode M_law.2.1 1170 = .ok (.ifCond .le 41, 3) := by decide +kernel
theorem d_law_1173 : decode M_law.2.1 1173 = .ok (.iload 30, 2) := by decide +kernel
theorem d_law_1175 : decode M_law.2.1 1175 = .ok (.aload 11, 2) := by decide +kernel
theorem d_law_1177 : decode M_law.2.1 1177 = .ok (.iload 29, 2) := by decide +kernel
theorem d_law_1179 : decode M_law.2.1 1179 = .ok (.iaload, 1) := by decide +kernel
theorem d_law_1180 : decode M_law.2.1 1180 = .ok (.if_icmp .ne 51, 3) := by decide +kernel
theorem d_law_1183 : decode M_law.2.1 1183 = .ok (.aload_n 1, 1) := by decide +kernel
theorem d_law_1184 : decode M_law.2.1 1184 = .ok (.iload 29, 2) := by decide +kernel
theorem d_law_1186 : decode M_law.2.1 1186 = .ok (.iconst 1, 1) := by decide +kernel
theorem d_law_1187 : decode M_law.2.1 1187 = .ok (.invokevirtual 271, 3) := by decide +kernel
theorem d_law_1190 : decode M_law.2.1 1190 = .ok (.ifCond .le 43, 3) := by decide +kernel
theorem d_law_1193 : decode M_law.2.1 1193 = .ok (.aload_n 1, 1) := by decide +kernel
theorem d_law_1194 : decode M_law.2.1 1194 = .ok (.iload 29, 2) := by decide +kernel
theorem d_law_1196 : decode M_law.2.1 1196 = .ok (.iconst 2, 1) := by decide +kernel
theorem d_law_1197 : decode M_law.2.1 1197 = .ok (.invokevirtual 271, 3) := by decide +kernel
theorem d_law_1200 : decode M_law.2.1 1200 = .ok (.aload 13, 2) := by decide +kernel
theorem d_law_1202 : decode M_law.2.1 1202 = .ok (.iload 29, 2) := by decide +kernel
theorem d_law_1204 : decode M_law.2.1 1204 = .ok (.iaload, 1) := by decide +kernel
theorem d_law_1205 : decode M_law.2.1 1205 = .ok (.if_icmp .eq 28, 3) := by decide +kernel
theorem d_law_1211 : decode M_law.2.1 1211 = .ok (.iload 30, 2) := by decide +kernel
theorem d_law_1213 : decode M_law.2.1 1213 = .ok (.ifCond .gt 18, 3) := by decide +kernel
theorem d_law_1216 : decode M_law.2.1 1216 = .ok (.aload_n 1, 1) := by decide +kernel
theorem d_law_1217 : decode M_law.2.1 1217 = .ok (.iload 29, 2) := by decide +kernel
theorem d_law_1219 : decode M_law.2.1 1219 = .ok (.iconst 2, 1) := by decide +kernel
theorem d_law_1220 : decode M_law.2.1 1220 = .ok (.invokevirtual 271, 3) := by decide +kernel
theorem d_law_1223 : decode M_law.2.1 1223 = .ok (.aload 13, 2) := by decide +kernel
theorem d_law_1225 : decode M_law.2.1 1225 = .ok (.iload 29, 2) := by decide +kernel
theorem d_law_1227 : decode M_law.2.1 1227 = .ok (.iaload, 1) := by decide +kernel
theorem d_law_1228 : decode M_law.2.1 1228 = .ok (.if_icmp .eq 5, 3) := by decide +kernel
theorem d_law_1233 : decode M_law.2.1 1233 = .ok (.iinc 29 1, 3) := by decide +kernel
theorem d_law_1236 : decode M_law.2.1 1236 = .ok (.goto (-107), 3) := by decide +kernel
set_option maxRecDepth 100000 in
set_option maxHeartbeats 4000000 in
theorem law_1129 (hj : AJ A c z0) (hms : MsOk Γ ms) (hth : ThOk Γ) {am as ai aw aH : Nat} (J : JW Γ A c Y3 Y3 N2 dg2 h h') (hI2 : IV A Y2 N1) (hN : N1 ≤ 900000 ∧ N2 ≤ 900000) (hg : GR A Y2 Y) (h3 : Y3 = dayF A Y2) (hr3 : RW3 Γ A Y z0 h am as ai) {C0 S0 : Nat} (kx : ∀ C S, C0 ≤ C → S0 ≤ S → Go Γ M_law 80 C S 1239 [some (.ref sa), some (.ref c), none, some (.ref ((ad A 6 0))), some (.int ((nI (cn A 0)))), some (.int ((nI (cn A 1)))), some (.int ((nI (cn A 4)))), some (.int ((nI it))), none, none, none, some (.ref am), some (.ref as), some (.ref ai), none, some (.ref aw), none, none, none, none, some (.ref aH), none, none, none, none, none, none, none, none, some (.int ((nI (cn A 0)))), none] [] h' z Q X) : ∀ (k r C S : Nat), r + k = cn A 0 → C0 + 16 * k ≤ C → S0 + 96 * k ≤ S → Go Γ M_law 80 C S 1129 [some (.ref sa), some (.ref c), none, some (.ref ((ad A 6 0))), some (.int ((nI (cn A 0)))), some (.int ((nI (cn A 1)))), some (.int ((nI (cn A 4)))), some (.int ((nI it))), none, none, none, some (.ref am), some (.ref as), some (.ref ai), none, some (.ref aw), none, none, none, none, some (.ref aH), none, none, none, none, none, none, none, none, some (.int ((nI r))), none] [] h' z Q X := by
  intro k
  induction k with
  | zero =>
    intro r C S hi hC hS
    have e : r = cn A 0 := by omega
    subst e
    obtain ⟨p0, p1, p2, p3, p4⟩ := aj_p hj
    refine Go.iload_29 d_law_1129 rfl ?_
    refine Go.iload_4 d_law_1131 rfl ?_
    refine Go.icmp_ge (t := 1239) d_law_1133 (by decide) rfl (fun _ => ?_) (fun w => absurd (nI_le (Nat.le_refl _) (by omega)) w)
    exact kx C S (by omega) (by omega)
  | succ k ih =>
    intro r C S hi hC hS
    obtain ⟨p0, p1, p2, p3, p4⟩ := aj_p hj
    have hr : r < cn A 0 := by omega
    have hr4 := hr3
    obtain ⟨g1, g2, g3, f1, f2, f3, h1, h2, h4, hb⟩ := hr4
    obtain ⟨b1, b2, b3⟩ := hb r hr
    obtain ⟨⟨sb, swa, sdy⟩, -, -⟩ := hg.all
    obtain ⟨el, sn, ic, e0, e0b, e1, e1b, e2, e2b⟩ := hI2.b0 hr
    obtain ⟨wn, hw, hw3⟩ := hI2.1.1 (sm_dy Y2 % 8) (Nat.mod_lt _ (by decide))
    obtain ⟨s', c', q1, q2, q3, hq⟩ := band_day hr hw hw3 e0 e0b e1 e1b e2
    rw [← h3] at q1 q2
    have m1 : f1 r = nI (3 * (wn - el)) := by
      rw [b1]
      show 3 * iMax 0 (sm_wa Y (sm_dy Y % 8) - sm_v Y 0 r 0) = _
      rw [← swa, ← sdy, ← sb r 0, hw, e0]
      exact melN wn (by omega) el (by omega)
    have m2 : f2 r = nI sn := by rw [b2, ← sb r 1, e1]
    have m3 : f3 r = nI ic := by rw [b3, ← sb r 2, e2]
    have hv : f2 r - tellB A Y3 r 1 + tellB A Y3 r 2 - f3 r = nI sn - nI s' + nI c' - nI ic := by
      rw [m2, m3, show tellB A Y3 r 1 = nI s' from q1, show tellB A Y3 r 2 = nI c' from q2]
    refine Go.iload_29 d_law_1129 rfl ?_
    refine Go.iload_4 d_law_1131 rfl ?_
    refine Go.icmp_ge (t := 1239) d_law_1133 (by decide) rfl (fun w => absurd w (nI_ge (show r < cn A 0 by omega) (by omega))) (fun _ => ?_)
    refine Go.aload_12 d_law_1136 rfl ?_
    refine Go.iload_29 d_law_1138 rfl ?_
    refine Go.oial d_law_1140 rfl hj J g2 h2 (j := r) rfl (by first | decide | assumption | omega) (by first | decide | omega) ?_
    refine Go.aload_1 d_law_1141 rfl ?_
    refine Go.iload_29 d_law_1142 rfl ?_
    refine Go.iconst (v := 1) d_law_1144 rfl (by decide) ?_
    refine Go.cvT (C1 := C - 4) (S1 := S - 24) (as := [.int ((nI r)), .int 1]) (rest := [.int ((f2 r))]) d_law_1145 rfl l_Law_271 k_Camp_band_v rfl (J.cam hj) rfl rfl (j_band hj J hms hth (r := r) (k := 1) rfl rfl (by first | decide | assumption | omega) (by first | decide | assumption | omega)) rfl rfl (by omega) (by omega) rfl ?_
    refine Go.isub d_law_1148 rfl ?_
    refine Go.aload_1 d_law_1149 rfl ?_
    refine Go.iload_29 d_law_1150 rfl ?_
    refine Go.iconst (v := 2) d_law_1152 rfl (by decide) ?_
    refine Go.cvT (C1 := C - 8) (S1 := S - 48) (as := [.int ((nI r)), .int 2]) (rest := [.int (((f2 r) - (tellB A Y3 r 1)))]) d_law_1153 rfl l_Law_271 k_Camp_band_v rfl (J.cam hj) rfl rfl (j_band hj J hms hth (r := r) (k := 2) rfl rfl (by first | decide | assumption | omega) (by first | decide | assumption | omega)) rfl rfl (by omega) (by omega) rfl ?_
    refine Go.iadd d_law_1156 rfl ?_
    refine Go.aload_13 d_law_1157 rfl ?_
    refine Go.iload_29 d_law_1159 rfl ?_
    refine Go.oial d_law_1161 rfl hj J g3 h4 (j := r) rfl (by first | decide | assumption | omega) (by first | decide | omega) ?_
    refine Go.isub d_law_1162 rfl ?_
    refine Go.istore_30 d_law_1163 rfl (by rfl) ?_
    refine Go.aload_11 d_law_1165 rfl ?_
    refine Go.iload_29 d_law_1167 rfl ?_
    refine Go.oial d_law_1169 rfl hj J g1 h1 (j := r) rfl (by first | decide | assumption | omega) (by first | decide | omega) ?_
    rcases hq with ⟨x1, x2, x3⟩ | ⟨x1, x2, x3⟩
    · refine Go.if_le (t := 1211) d_law_1170 (by decide) rfl (fun w => absurd w (by rw [m1]; exact nI_np (by omega) (by omega))) (fun _ => ?_)
      refine Go.iload_30 d_law_1173 rfl ?_
      refine Go.aload_11 d_law_1175 rfl ?_
      refine Go.iload_29 d_law_1177 rfl ?_
      refine Go.oial d_law_1179 rfl hj J g1 h1 (j := r) rfl (by first | decide | assumption | omega) (by first | decide | omega) ?_
      refine Go.icmp_ne (t := 1231) d_law_1180 (by decide) rfl (fun w => absurd (by rw [hv, m1]; exact lin4 (by rw [nI_ad, nI_ad, nI_ad, x2])) w) (fun _ => ?_)
      refine Go.aload_1 d_law_1183 rfl ?_
      refine Go.iload_29 d_law_1184 rfl ?_
      refine Go.iconst (v := 1) d_law_1186 rfl (by decide) ?_
      refine Go.cvT (C1 := C - 12) (S1 := S - 72) (as := [.int ((nI r)), .int 1]) (rest := []) d_law_1187 rfl l_Law_271 k_Camp_band_v rfl (J.cam hj) rfl rfl (j_band hj J hms hth (r := r) (k := 1) rfl rfl (by first | decide | assumption | omega) (by first | decide | assumption | omega)) rfl rfl (by omega) (by omega) rfl ?_
      by_cases s0 : s' = 0
      · refine Go.if_le (t := 1233) d_law_1190 (by decide) rfl (fun _ => ?_) (fun w => absurd (by rw [show tellB A Y3 r 1 = nI s' from q1, s0]; decide) w)
        refine Go.iinc_29 d_law_1233 rfl (by rfl) (show nI r + Int32.ofInt 1 = nI (r + 1) from nI_ad r 1) ?_
        refine Go.goto (t := 1129) d_law_1236 (by decide) ?_
        refine Go.fgt [some (.ref sa), some (.ref c), none, some (.ref ((ad A 6 0))), some (.int ((nI (cn A 0)))), some (.int ((nI (cn A 1)))), some (.int ((nI (cn A 4)))), some (.int ((nI it))), none, none, none, some (.ref am), some (.ref as), some (.ref ai), none, some (.ref aw), none, none, none, none, some (.ref aH), none, none, none, none, none, none, none, none, some (.int ((nI (r + 1)))), none] (by repeat' (first | exact trivial | refine ⟨rfl, ?_⟩)) ?_
        exact ih (r + 1) _ _ (by omega) (by omega) (by omega)
      · refine Go.if_le (t := 1233) d_law_1190 (by decide) rfl (fun w => absurd w (by rw [show tellB A Y3 r 1 = nI s' from q1]; exact nI_np (by omega) (by omega))) (fun _ => ?_)
        refine Go.aload_1 d_law_1193 rfl ?_
        refine Go.iload_29 d_law_1194 rfl ?_
        refine Go.iconst (v := 2) d_law_1196 rfl (by decide) ?_
        refine Go.cvT (C1 := C - 16) (S1 := S - 96) (as := [.int ((nI r)), .int 2]) (rest := []) d_law_1197 rfl l_Law_271 k_Camp_band_v rfl (J.cam hj) rfl rfl (j_band hj J hms hth (r := r) (k := 2) rfl rfl (by first | decide | assumption | omega) (by first | decide | assumption | omega)) rfl rfl (by omega) (by omega) rfl ?_
        refine Go.aload_13 d_law_1200 rfl ?_
        refine Go.iload_29 d_law_1202 rfl ?_
        refine Go.oial d_law_1204 rfl hj J g3 h4 (j := r) rfl (by first | decide | assumption | omega) (by first | decide | omega) ?_
        refine Go.icmp_eq (t := 1233) d_law_1205 (by decide) rfl (fun _ => ?_) (fun w => absurd (by rw [show tellB A Y3 r 2 = nI c' from q2, m3, x3 (by omega)]) w)
        refine Go.iinc_29 d_law_1233 rfl (by rfl) (show nI r + Int32.ofInt 1 = nI (r + 1) from nI_ad r 1) ?_
        refine Go.goto (t := 1129) d_law_1236 (by decide) ?_
        refine Go.fgt [some (.ref sa), some (.ref c), none, some (.ref ((ad A 6 0))), some (.int ((nI (cn A 0)))), some (.int ((nI (cn A 1)))), some (.int ((nI (cn A 4)))), some (.int ((nI it))), none, none, none, some (.ref am), some (.ref as), some (.ref ai), none, some (.ref aw), none, none, none, none, some (.ref aH), none, none, none, none, none, none, none, none, some (.int ((nI (r + 1)))), none] (by repeat' (first | exact trivial | refine ⟨rfl, ?_⟩)) ?_
        exact ih (r + 1) _ _ (by omega) (by omega) (by omega)
    · refine Go.if_le (t := 1211) d_law_1170 (by decide) rfl (fun _ => ?_) (fun w => absurd (by rw [m1, show wn - el = 0 by omega]; decide) w)
      refine Go.iload_30 d_law_1211 rfl ?_
      refine Go.if_gt (t := 1231) d_law_1213 (by decide) rfl (fun w => absurd w (by
                rw [hv, x3, lin2, Int32.lt_iff_toInt_lt, pk_sub_toInt (by omega) (by omega)]
                show ¬ (0 : Int) < _
                omega)) (fun _ => ?_)
      refine Go.aload_1 d_law_1216 rfl ?_
      refine Go.iload_29 d_law_1217 rfl ?_
      refine Go.iconst (v := 2) d_law_1219 rfl (by decide) ?_
      refine Go.cvT (C1 := C - 12) (S1 := S - 72) (as := [.int ((nI r)), .int 2]) (rest := []) d_law_1220 rfl l_Law_271 k_Camp_band_v rfl (J.cam hj) rfl rfl (j_band hj J hms hth (r := r) (k := 2) rfl rfl (by first | decide | assumption | omega) (by first | decide | assumption | omega)) rfl rfl (by omega) (by omega) rfl ?_
      refine Go.aload_13 d_law_1223 rfl ?_
      refine Go.iload_29 d_law_1225 rfl ?_
      refine Go.oial d_law_1227 rfl hj J g3 h4 (j := r) rfl (by first | decide | assumption | omega) (by first | decide | omega) ?_
      refine Go.icmp_eq (t := 1233) d_law_1228 (by decide) rfl (fun _ => ?_) (fun w => absurd (by rw [show tellB A Y3 r 2 = nI c' from q2, m3, x3]) w)
      refine Go.iinc_29 d_law_1233 rfl (by rfl) (show nI r + Int32.ofInt 1 = nI (r + 1) from nI_ad r 1) ?_
      refine Go.goto (t := 1129) d_law_1236 (by decide) ?_
      refine Go.fgt [some (.ref sa), some (.ref c), none, some (.ref ((ad A 6 0))), some (.int ((nI (cn A 0)))), some (.int ((nI (cn A 1)))), some (.int ((nI (cn A 4)))), some (.int ((nI it))), none, none, none, some (.ref am), some (.ref as), some (.ref ai), none, some (.ref aw), none, none, none, none, some (.ref aH), none, none, none, none, none, none, none, none, some (.int ((nI (r + 1)))), none] (by repeat' (first | exact trivial | refine ⟨rfl, ?_⟩)) ?_
      exact ih (r + 1) _ _ (by omega) (by omega) (by omega)
theorem d_law_1242 : decode M_law.2.1 1242 = .ok (.iload 29, 2) := by decide +kernel
theorem d_law_1244 : decode M_law.2.1 1244 = .ok (.iload 5, 2) := by decide +kernel
theorem d_law_1246 : decode M_law.2.1 1246 = .ok (.if_icmp .ge 46, 3) := by decide +kernel
theorem d_law_1249 : decode M_law.2.1 1249 = .ok (.aload 15, 2) := by decide +kernel
theorem d_law_1251 : decode M_law.2.1 1251 = .ok (.iload 29, 2) := by decide +kernel
theorem d_law_1253 : decode M_law.2.1 1253 = .ok (.baload, 1) := by decide +kernel
theorem d_law_1254 : decode M_law.2.1 1254 = .ok (.ifCond .ne 32, 3) := by decide +kernel
theorem d_law_1257 : decode M_law.2.1 1257 = .ok (.aload_n 1, 1) := by decide +kernel
theorem d_law_1258 : decode M_law.2.1 1258 = .ok (.iload 29, 2) := by decide +kernel
theorem d_law_1260 : decode M_law.2.1 1260 = .ok (.iconst 3, 1) := by decide +kernel
theorem d_law_1261 : decode M_law.2.1 1261 = .ok (.invokevirtual 277, 3) := by decide +kernel
theorem d_law_1264 : decode M_law.2.1 1264 = .ok (.ifCond .ne 22, 3) := by decide +kernel
theorem d_law_1267 : decode M_law.2.1 1267 = .ok (.aload_n 1, 1) := by decide +kernel
theorem d_law_1268 : decode M_law.2.1 1268 = .ok (.iload 29, 2) := by decide +kernel
theorem d_law_1270 : decode M_law.2.1 1270 = .ok (.iconst 2, 1) := by decide +kernel
theorem d_law_1271 : decode M_law.2.1 1271 = .ok (.invokevirtual 277, 3) := by decide +kernel
theorem d_law_1274 : decode M_law.2.1 1274 = .ok (.aload_n 1, 1) := by decide +kernel
theorem d_law_1275 : decode M_law.2.1 1275 = .ok (.iload 29, 2) := by decide +kernel
theorem d_law_1277 : decode M_law.2.1 1277 = .ok (.iconst 1, 1) := by decide +kernel
theorem d_law_1278 : decode M_law.2.1 1278 = .ok (.invokevirtual 277, 3) := by decide +kernel
theorem d_law_1281 : decode M_law.2.1 1281 = .ok (.if_icmp .ge 5, 3) := by decide +kernel
theorem d_law_1286 : decode M_law.2.1 1286 = .ok (.iinc 29 1, 3) := by decide +kernel
theorem d_law_1289 : decode M_law.2.1 1289 = .ok (.goto (-47), 3) := by decide +kernel
set_option maxRecDepth 100000 in
set_option maxHeartbeats 4000000 in
theorem law_1242 (hj : AJ A c z0) (hms : MsOk Γ ms) (hth : ThOk Γ) {am as ai aw aH : Nat} (J : JW Γ A c Y3 Y3 N2 dg2 h h') (hN : N2 ≤ 900000) (hw1 : SW1 Γ A Y z0 h aw) {C0 S0 : Nat} (kx : ∀ C S, C0 ≤ C → S0 ≤ S → Go Γ M_law 80 C S 1292 [some (.ref sa), some (.ref c), none, some (.ref ((ad A 6 0))), some (.int ((nI (cn A 0)))), some (.int ((nI (cn A 1)))), some (.int ((nI (cn A 4)))), some (.int ((nI it))), none, none, none, some (.ref am), some (.ref as), some (.ref ai), none, some (.ref aw), none, none, none, none, some (.ref aH), none, none, none, none, none, none, none, none, some (.int ((nI (cn A 1)))), none] [] h' z Q X) : ∀ (k r C S : Nat), r + k = cn A 1 → C0 + 12 * k ≤ C → S0 + 72 * k ≤ S → Go Γ M_law 80 C S 1242 [some (.ref sa), some (.ref c), none, some (.ref ((ad A 6 0))), some (.int ((nI (cn A 0)))), some (.int ((nI (cn A 1)))), some (.int ((nI (cn A 4)))), some (.int ((nI it))), none, none, none, some (.ref am), some (.ref as), some (.ref ai), none, some (.ref aw), none, none, none, none, some (.ref aH), none, none, none, none, none, none, none, none, some (.int ((nI r))), none] [] h' z Q X := by
  intro k
  induction k with
  | zero =>
    intro r C S hi hC hS
    have e : r = cn A 1 := by omega
    subst e
    obtain ⟨p0, p1, p2, p3, p4⟩ := aj_p hj
    refine Go.iload_29 d_law_1242 rfl ?_
    refine Go.iload_5 d_law_1244 rfl ?_
    refine Go.icmp_ge (t := 1292) d_law_1246 (by decide) rfl (fun _ => ?_) (fun w => absurd (nI_le (Nat.le_refl _) (by omega)) w)
    exact kx C S (by omega) (by omega)
  | succ k ih =>
    intro r C S hi hC hS
    obtain ⟨p0, p1, p2, p3, p4⟩ := aj_p hj
    have hr : r < cn A 1 := by omega
    have hw2 := hw1
    obtain ⟨gw, fw, hw, hfw⟩ := hw2
    obtain ⟨-, ⟨sd, so, e1, x1, x2, e2, x3, hst⟩, -⟩ := J.iv.1.2 1 r (by decide) hr
    have fin : ∀ C2 S2, C0 + 12 * k ≤ C2 → S0 + 72 * k ≤ S2 → Go Γ M_law 80 C2 S2 1286 [some (.ref sa), some (.ref c), none, some (.ref ((ad A 6 0))), some (.int ((nI (cn A 0)))), some (.int ((nI (cn A 1)))), some (.int ((nI (cn A 4)))), some (.int ((nI it))), none, none, none, some (.ref am), some (.ref as), some (.ref ai), none, some (.ref aw), none, none, none, none, some (.ref aH), none, none, none, none, none, none, none, none, some (.int ((nI r))), none] [] h' z Q X := by
      intro C2 S2 hC2 hS2
      refine Go.iinc_29 d_law_1286 rfl (by rfl) (show nI r + Int32.ofInt 1 = nI (r + 1) from nI_ad r 1) ?_
      refine Go.goto (t := 1242) d_law_1289 (by decide) ?_
      exact ih (r + 1) _ _ (by omega) (by omega) (by omega)
    refine Go.iload_29 d_law_1242 rfl ?_
    refine Go.iload_5 d_law_1244 rfl ?_
    refine Go.icmp_ge (t := 1292) d_law_1246 (by decide) rfl (fun w => absurd w (nI_ge (show r < cn A 1 by omega) (by omega))) (fun _ => ?_)
    refine Go.aload_15 d_law_1249 rfl ?_
    refine Go.iload_29 d_law_1251 rfl ?_
    refine Go.obal d_law_1253 rfl hj J gw hw (j := r) rfl (by first | decide | assumption | omega) (by first | decide | omega) ?_
    by_cases n1 : fw r = 0
    rotate_left
    · refine Go.if_ne (t := 1286) d_law_1254 (by decide) rfl (fun _ => ?_) (fun w => absurd w (n1))
      exact fin _ _ (by omega) (by omega)
    refine Go.if_ne (t := 1286) d_law_1254 (by decide) rfl (fun w => absurd (n1) w) (fun _ => ?_)
    refine Go.aload_1 d_law_1257 rfl ?_
    refine Go.iload_29 d_law_1258 rfl ?_
    refine Go.iconst (v := 3) d_law_1260 rfl (by decide) ?_
    refine Go.cvT (C1 := C - 4) (S1 := S - 24) (as := [.int ((nI r)), .int 3]) (rest := []) d_law_1261 rfl l_Law_277 k_Camp_stake_v rfl (J.cam hj) rfl rfl (j_stake hj J hms hth (r := r) (k := 3) rfl rfl (by first | decide | assumption | omega) (by first | decide | assumption | omega)) rfl rfl (by omega) (by omega) rfl ?_
    by_cases n2 : sm_v Y3 1 r 3 = 0
    rotate_left
    · refine Go.if_ne (t := 1286) d_law_1264 (by decide) rfl (fun _ => ?_) (fun w => absurd w (n2))
      exact fin _ _ (by omega) (by omega)
    refine Go.if_ne (t := 1286) d_law_1264 (by decide) rfl (fun w => absurd (n2) w) (fun _ => ?_)
    refine Go.aload_1 d_law_1267 rfl ?_
    refine Go.iload_29 d_law_1268 rfl ?_
    refine Go.iconst (v := 2) d_law_1270 rfl (by decide) ?_
    refine Go.cvT (C1 := C - 8) (S1 := S - 48) (as := [.int ((nI r)), .int 2]) (rest := []) d_law_1271 rfl l_Law_277 k_Camp_stake_v rfl (J.cam hj) rfl rfl (j_stake hj J hms hth (r := r) (k := 2) rfl rfl (by first | decide | assumption | omega) (by first | decide | assumption | omega)) rfl rfl (by omega) (by omega) rfl ?_
    refine Go.aload_1 d_law_1274 rfl ?_
    refine Go.iload_29 d_law_1275 rfl ?_
    refine Go.iconst (v := 1) d_law_1277 rfl (by decide) ?_
    refine Go.cvT (C1 := C - 12) (S1 := S - 72) (as := [.int ((nI r)), .int 1]) (rest := [.int ((sm_v Y3 1 r 2))]) d_law_1278 rfl l_Law_277 k_Camp_stake_v rfl (J.cam hj) rfl rfl (j_stake hj J hms hth (r := r) (k := 1) rfl rfl (by first | decide | assumption | omega) (by first | decide | assumption | omega)) rfl rfl (by omega) (by omega) rfl ?_
    refine Go.icmp_ge (t := 1286) d_law_1281 (by decide) rfl (fun _ => ?_) (fun w => absurd (by
            rcases hst with ⟨w3, -⟩ | ⟨-, w3⟩
            · exact absurd (w3.symm.trans n2) (by decide)
            · rw [e1, e2]
              exact nI_le w3 (by omega)) w)
    exact fin _ _ (by omega) (by omega)
theorem d_law_1126 : decode M_law.2.1 1126 = .ok (.iconst 0, 1) := by decide +kernel
theorem d_law_1127 : decode M_law.2.1 1127 = .ok (.istore 29, 2) := by decide +kernel
theorem d_law_1239 : decode M_law.2.1 1239 = .ok (.iconst 0, 1) := by decide +kernel
theorem d_law_1240 : decode M_law.2.1 1240 = .ok (.istore 29, 2) := by decide +kernel
theorem d_law_1292 : decode M_law.2.1 1292 = .ok (.iinc 7 1, 3) := by decide +kernel
theorem d_law_1295 : decode M_law.2.1 1295 = .ok (.goto (-1236), 3) := by decide +kernel
set_option maxRecDepth 100000 in
set_option maxHeartbeats 4000000 in
theorem law_1126 (hj : AJ A c z0) (hms : MsOk Γ ms) (hth : ThOk Γ) {am as ai aw aH C S : Nat} (J : JW Γ A c Y3 Y3 N2 dg2 h h') (hI2 : IV A Y2 N1) (hN : N1 ≤ 900000 ∧ N2 ≤ 900000) (hg : GR A Y2 Y) (h3 : Y3 = dayF A Y2) (hr3 : RW3 Γ A Y z0 h am as ai) (hw1 : SW1 Γ A Y z0 h aw) (hC : 112 ≤ C) (hS : 672 ≤ S) (kx : ∀ C2 S2, C ≤ C2 + 112 → S ≤ S2 + 672 → Go Γ M_law 80 C2 S2 59 [some (.ref sa), some (.ref c), none, some (.ref ((ad A 6 0))), some (.int ((nI (cn A 0)))), some (.int ((nI (cn A 1)))), some (.int ((nI (cn A 4)))), some (.int ((nI (it + 1)))), none, none, none, none, none, none, none, none, none, none, none, none, none, none, none, none, none, none, none, none, none, none, none] [] h' z Q X) : Go Γ M_law 80 C S 1126 [some (.ref sa), some (.ref c), none, some (.ref ((ad A 6 0))), some (.int ((nI (cn A 0)))), some (.int ((nI (cn A 1)))), some (.int ((nI (cn A 4)))), some (.int ((nI it))), none, none, none, some (.ref am), some (.ref as), some (.ref ai), none, some (.ref aw), none, none, none, none, some (.ref aH), none, none, none, none, none, none, none, none, none, none] [] h' z Q X := by
  obtain ⟨p0, p1, p2, p3, p4⟩ := aj_p hj
  refine Go.iconst (v := 0) d_law_1126 rfl (by decide) ?_
  refine Go.istore_29 d_law_1127 rfl (by rfl) ?_
  refine Go.fgt [some (.ref sa), some (.ref c), none, some (.ref ((ad A 6 0))), some (.int ((nI (cn A 0)))), some (.int ((nI (cn A 1)))), some (.int ((nI (cn A 4)))), some (.int ((nI it))), none, none, none, some (.ref am), some (.ref as), some (.ref ai), none, some (.ref aw), none, none, none, none, some (.ref aH), none, none, none, none, none, none, none, none, some (.int ((nI 0))), none] (by repeat' (first | exact trivial | refine ⟨rfl, ?_⟩)) ?_
  refine law_1129 hj hms hth J hI2 hN hg h3 hr3 (C0 := C - 64) (S0 := S - 384) (fun C2 S2 hC2 hS2 => ?_) (cn A 0) 0 _ _ (Nat.zero_add _) (by omega) (by omega)
  refine Go.iconst (v := 0) d_law_1239 rfl (by decide) ?_
  refine Go.istore_29 d_law_1240 rfl (by rfl) ?_
  refine Go.fgt [some (.ref sa), some (.ref c), none, some (.ref ((ad A 6 0))), some (.int ((nI (cn A 0)))), some (.int ((nI (cn A 1)))), some (.int ((nI (cn A 4)))), some (.int ((nI it))), none, none, none, some (.ref am), some (.ref as), some (.ref ai), none, some (.ref aw), none, none, none, none, some (.ref aH), none, none, none, none, none, none, none, none, some (.int ((nI 0))), none] (by repeat' (first | exact trivial | refine ⟨rfl, ?_⟩)) ?_
  refine law_1242 hj hms hth J hN.2 hw1 (C0 := C - 112) (S0 := S - 672) (fun C3 S3 hC3 hS3 => ?_) (cn A 1) 0 _ _ (Nat.zero_add _) (by omega) (by omega)
  refine Go.iinc_7 d_law_1292 rfl (by rfl) (show nI it + Int32.ofInt 1 = nI (it + 1) from nI_ad it 1) ?_
  refine Go.goto (t := 59) d_law_1295 (by decide) ?_
  refine Go.fgt [some (.ref sa), some (.ref c), none, some (.ref ((ad A 6 0))), some (.int ((nI (cn A 0)))), some (.int ((nI (cn A 1)))), some (.int ((nI (cn A 4)))), some (.int ((nI (it + 1)))), none, none, none, none, none, none, none, none, none, none, none, none, none, none, none, none, none, none, none, none, none, none, none] (by repeat' (first | exact trivial | refine ⟨rfl, ?_⟩)) ?_
  exact kx _ _ (by omega) (by omega)
end Lw
