/-! the law: its beginning -/
theorem cw_new {Γ : G9} {sg : Nat → Nat} {h : AH} {c : Nat} (hh : ∀ k, k < 45 → h (c + k) = (fun j => if j = 0 then some (.inr (8, [.ref (c + 1), .ref (c + 3), .ref (c + 7), .ref (c + 19), .ref (c + 31), .ref (c + 38), .int (-1)])) else if j - 1 < 37 then (if j - 1 < 30 then (if j - 1 < 18 then (if j - 1 < 6 then (if j - 1 < 2 then taC Γ (c + 1) new_ta (j - 1) else tkC Γ sg (c + 3) new_tk (j - 1 - 2)) else glC Γ (c + 7) new_gl (j - 1 - 6)) else glC Γ (c + 19) new_gl (j - 1 - 18)) else newOr Γ sg (c + 31) (j - 1 - 30)) else newOr Γ sg (c + 38) (j - 1 - 37)) k) : cw_ Γ sg h c (c + 7) (c + 19) (c + 31) (c + 38) new_ta new_tk new_gl new_gl new_tm new_fm new_tm new_fm (-1) = h := by
  rw [cw_]
  rw [blk_self (h := h) (g := c + 1) (n := 2) (fun k hk => by
    rw [show c + 1 + k = c + (1 + k) by omega, hh (1 + k) (by omega)]
    match k, hk with
    | 0, _ => rfl
    | 1, _ => rfl
    | _ + 2, w => exact absurd w (by omega)), blk_self (h := h) (g := c + 3) (n := 4) (fun k hk => by
    rw [show c + 3 + k = c + (3 + k) by omega, hh (3 + k) (by omega)]
    match k, hk with
    | 0, _ => rfl
    | 1, _ => rfl
    | 2, _ => rfl
    | 3, _ => rfl
    | _ + 4, w => exact absurd w (by omega)), blk_self (h := h) (g := c + 7) (n := 12) (fun k hk => by
    rw [show c + 7 + k = c + (7 + k) by omega, hh (7 + k) (by omega)]
    match k, hk with
    | 0, _ => rfl
    | 1, _ => rfl
    | 2, _ => rfl
    | 3, _ => rfl
    | 4, _ => rfl
    | 5, _ => rfl
    | 6, _ => rfl
    | 7, _ => rfl
    | 8, _ => rfl
    | 9, _ => rfl
    | 10, _ => rfl
    | 11, _ => rfl
    | _ + 12, w => exact absurd w (by omega)), blk_self (h := h) (g := c + 19) (n := 12) (fun k hk => by
    rw [show c + 19 + k = c + (19 + k) by omega, hh (19 + k) (by omega)]
    match k, hk with
    | 0, _ => rfl
    | 1, _ => rfl
    | 2, _ => rfl
    | 3, _ => rfl
    | 4, _ => rfl
    | 5, _ => rfl
    | 6, _ => rfl
    | 7, _ => rfl
    | 8, _ => rfl
    | 9, _ => rfl
    | 10, _ => rfl
    | 11, _ => rfl
    | _ + 12, w => exact absurd w (by omega)), blk_self (h := h) (g := c + 31 + 1) (n := 2) (fun k hk => by
    rw [show c + 31 + 1 + k = c + (32 + k) by omega, hh (32 + k) (by omega)]
    match k, hk with
    | 0, _ => rfl
    | 1, _ => rfl
    | _ + 2, w => exact absurd w (by omega)), blk_self (h := h) (g := c + 31 + 3) (n := 4) (fun k hk => by
    rw [show c + 31 + 3 + k = c + (34 + k) by omega, hh (34 + k) (by omega)]
    match k, hk with
    | 0, _ => rfl
    | 1, _ => rfl
    | 2, _ => rfl
    | 3, _ => rfl
    | _ + 4, w => exact absurd w (by omega)), blk_self (h := h) (g := c + 38 + 1) (n := 2) (fun k hk => by
    rw [show c + 38 + 1 + k = c + (39 + k) by omega, hh (39 + k) (by omega)]
    match k, hk with
    | 0, _ => rfl
    | 1, _ => rfl
    | _ + 2, w => exact absurd w (by omega)), blk_self (h := h) (g := c + 38 + 3) (n := 4) (fun k hk => by
    rw [show c + 38 + 3 + k = c + (41 + k) by omega, hh (41 + k) (by omega)]
    match k, hk with
    | 0, _ => rfl
    | 1, _ => rfl
    | 2, _ => rfl
    | 3, _ => rfl
    | _ + 4, w => exact absurd w (by omega)), blk_self (h := h) (g := c) (n := 1) (fun k hk => by
    rw [show c + k = c + (0 + k) by omega, hh (0 + k) (by omega)]
    match k, hk with
    | 0, _ => rfl
    | _ + 1, w => exact absurd w (by omega))]
theorem n9_fs_Camp : ∀ j, j < 7 → defaultValue (ty_Camp j) = vp_V [.null, .null, .null, .null, .null, .null, .int 0] j := by
  intro j hj
  match j, hj with
  | 0, _ => rfl
  | 1, _ => rfl
  | 2, _ => rfl
  | 3, _ => rfl
  | 4, _ => rfl
  | 5, _ => rfl
  | 6, _ => rfl
  | _ + 7, w => exact absurd w (by omega)
abbrev cam9 (Γ : G9) (sg : Nat → Nat) (c : Nat) : Nat → Option va_E := (fun j => if j = 0 then some (.inr (8, [.ref (c + 1), .ref (c + 3), .ref (c + 7), .ref (c + 19), .ref (c + 31), .ref (c + 38), .int (-1)])) else if j - 1 < 37 then (if j - 1 < 30 then (if j - 1 < 18 then (if j - 1 < 6 then (if j - 1 < 2 then taC Γ (c + 1) new_ta (j - 1) else tkC Γ sg (c + 3) new_tk (j - 1 - 2)) else glC Γ (c + 7) new_gl (j - 1 - 6)) else glC Γ (c + 19) new_gl (j - 1 - 18)) else newOr Γ sg (c + 31) (j - 1 - 30)) else newOr Γ sg (c + 38) (j - 1 - 37))
theorem cam9_some {Γ : G9} {sg : Nat → Nat} {c : Nat} : ∀ k, k < 45 → ∃ e, cam9 Γ sg c k = some e := by
  intro k hk
  match k, hk with
  | 0, _ => exact ⟨_, rfl⟩
  | 1, _ => exact ⟨_, rfl⟩
  | 2, _ => exact ⟨_, rfl⟩
  | 3, _ => exact ⟨_, rfl⟩
  | 4, _ => exact ⟨_, rfl⟩
  | 5, _ => exact ⟨_, rfl⟩
  | 6, _ => exact ⟨_, rfl⟩
  | 7, _ => exact ⟨_, rfl⟩
  | 8, _ => exact ⟨_, rfl⟩
  | 9, _ => exact ⟨_, rfl⟩
  | 10, _ => exact ⟨_, rfl⟩
  | 11, _ => exact ⟨_, rfl⟩
  | 12, _ => exact ⟨_, rfl⟩
  | 13, _ => exact ⟨_, rfl⟩
  | 14, _ => exact ⟨_, rfl⟩
  | 15, _ => exact ⟨_, rfl⟩
  | 16, _ => exact ⟨_, rfl⟩
  | 17, _ => exact ⟨_, rfl⟩
  | 18, _ => exact ⟨_, rfl⟩
  | 19, _ => exact ⟨_, rfl⟩
  | 20, _ => exact ⟨_, rfl⟩
  | 21, _ => exact ⟨_, rfl⟩
  | 22, _ => exact ⟨_, rfl⟩
  | 23, _ => exact ⟨_, rfl⟩
  | 24, _ => exact ⟨_, rfl⟩
  | 25, _ => exact ⟨_, rfl⟩
  | 26, _ => exact ⟨_, rfl⟩
  | 27, _ => exact ⟨_, rfl⟩
  | 28, _ => exact ⟨_, rfl⟩
  | 29, _ => exact ⟨_, rfl⟩
  | 30, _ => exact ⟨_, rfl⟩
  | 31, _ => exact ⟨_, rfl⟩
  | 32, _ => exact ⟨_, rfl⟩
  | 33, _ => exact ⟨_, rfl⟩
  | 34, _ => exact ⟨_, rfl⟩
  | 35, _ => exact ⟨_, rfl⟩
  | 36, _ => exact ⟨_, rfl⟩
  | 37, _ => exact ⟨_, rfl⟩
  | 38, _ => exact ⟨_, rfl⟩
  | 39, _ => exact ⟨_, rfl⟩
  | 40, _ => exact ⟨_, rfl⟩
  | 41, _ => exact ⟨_, rfl⟩
  | 42, _ => exact ⟨_, rfl⟩
  | 43, _ => exact ⟨_, rfl⟩
  | 44, _ => exact ⟨_, rfl⟩
  | _ + 45, w => exact absurd w (by omega)
section Lw
variable {Γ : G9} {A : AD} {c z0 z sa it : Nat} {Y : SM} {N : Nat} {dg : Int64} {h h' : AH} {ms : Nat → Nat} {Q : QT} {X : XT} {w8 : Int32}
variable {sg : Nat → Nat} {sw sx n : Nat} {tx ls : Nat → Nat} {xs : Nat → Int32}
theorem LB_of {b q : Nat} {t : List Int32} {h0 : AH} (hs : SB Γ h b h0 t q) : LB t := by
  obtain ⟨v, m, a, -, -, -, -, -, -, -, ha, hf⟩ := hs
  intro j
  by_cases hj : j < t.length
  · rw [← ha j hj]
    exact hf j
  · rw [List.getD_eq_getElem?_getD, List.getElem?_eq_none (by omega)]
    rfl
theorem dCN_14 {D : DL} (hD : DOk D) : ∀ k, k < 5 → 1 ≤ dCN D k ∧ dCN D k ≤ 4 := by
  obtain ⟨h0, h1, h2, h3, h4, -⟩ := hD
  intro k hk
  match k, hk with
  | 0, _ => exact h0
  | 1, _ => exact h1
  | 2, _ => exact h2
  | 3, _ => exact ⟨h3.1, Nat.le_trans h3.2 (by decide)⟩
  | 4, _ => exact ⟨h4.1, Nat.le_trans h4.2 (by decide)⟩
  | _ + 5, w => exact absurd w (by omega)
theorem d_law_0 : decode M_law.2.1 0 = .ok (.new 10, 3) := by decide +kernel
theorem d_law_3 : decode M_law.2.1 3 = .ok (.dup, 1) := by decide +kernel
theorem d_law_4 : decode M_law.2.1 4 = .ok (.invokespecial 248, 3) := by decide +kernel
theorem d_law_7 : decode M_law.2.1 7 = .ok (.astore_n 1, 1) := by decide +kernel
theorem d_law_8 : decode M_law.2.1 8 = .ok (.new 32, 3) := by decide +kernel
theorem d_law_11 : decode M_law.2.1 11 = .ok (.dup, 1) := by decide +kernel
theorem d_law_12 : decode M_law.2.1 12 = .ok (.invokespecial 34, 3) := by decide +kernel
theorem d_law_15 : decode M_law.2.1 15 = .ok (.astore_n 2, 1) := by decide +kernel
theorem d_law_16 : decode M_law.2.1 16 = .ok (.aload_n 0, 1) := by decide +kernel
theorem d_law_17 : decode M_law.2.1 17 = .ok (.aload_n 2, 1) := by decide +kernel
theorem d_law_18 : decode M_law.2.1 18 = .ok (.invokestatic 249, 3) := by decide +kernel
theorem d_law_21 : decode M_law.2.1 21 = .ok (.astore_n 3, 1) := by decide +kernel
theorem d_law_22 : decode M_law.2.1 22 = .ok (.aload_n 1, 1) := by decide +kernel
theorem d_law_23 : decode M_law.2.1 23 = .ok (.aload_n 2, 1) := by decide +kernel
theorem d_law_24 : decode M_law.2.1 24 = .ok (.invokevirtual 44, 3) := by decide +kernel
theorem d_law_27 : decode M_law.2.1 27 = .ok (.invokestatic 253, 3) := by decide +kernel
theorem d_law_30 : decode M_law.2.1 30 = .ok (.ifCond .eq 5, 3) := by decide +kernel
theorem d_law_35 : decode M_law.2.1 35 = .ok (.aload_n 1, 1) := by decide +kernel
theorem d_law_36 : decode M_law.2.1 36 = .ok (.iconst 1, 1) := by decide +kernel
theorem d_law_37 : decode M_law.2.1 37 = .ok (.invokevirtual 257, 3) := by decide +kernel
theorem d_law_40 : decode M_law.2.1 40 = .ok (.istore 4, 2) := by decide +kernel
theorem d_law_42 : decode M_law.2.1 42 = .ok (.aload_n 1, 1) := by decide +kernel
theorem d_law_43 : decode M_law.2.1 43 = .ok (.iconst 2, 1) := by decide +kernel
theorem d_law_44 : decode M_law.2.1 44 = .ok (.invokevirtual 257, 3) := by decide +kernel
theorem d_law_47 : decode M_law.2.1 47 = .ok (.istore 5, 2) := by decide +kernel
theorem d_law_49 : decode M_law.2.1 49 = .ok (.aload_n 1, 1) := by decide +kernel
theorem d_law_50 : decode M_law.2.1 50 = .ok (.iconst 5, 1) := by decide +kernel
theorem d_law_51 : decode M_law.2.1 51 = .ok (.invokevirtual 257, 3) := by decide +kernel
theorem d_law_54 : decode M_law.2.1 54 = .ok (.istore 6, 2) := by decide +kernel
theorem d_law_56 : decode M_law.2.1 56 = .ok (.iconst 0, 1) := by decide +kernel
theorem d_law_57 : decode M_law.2.1 57 = .ok (.istore 7, 2) := by decide +kernel
set_option maxRecDepth 100000 in
set_option maxHeartbeats 4000000 in
theorem law_0 (hs : SgOk Γ sg) (hsn : SgNe sg) (hw : SwOk Γ sw) (hms : MsOk Γ ms) (hth : ThOk Γ) (hcs : CsOk Γ) (htx : TxOk Γ sg tx) (hsa : SaOk Γ sg sx) (hao : AoOk Γ) (hsc : ScOk Γ sa n xs) (hn : n < 2 ^ 31) (hp : PrOk Γ) (hdg : DgOk Γ) (hls : LsOk Γ ls) (hat : AtOk Γ) {C S : Nat} (hC : 80000 ≤ C) (hS : 2000000 ≤ S) (hQ : ∀ h3 z3, Q (some (.int 1)) h3 z3) : Go Γ M_law 80 C S 0 [some (.ref sa), none, none, none, none, none, none, none, none, none, none, none, none, none, none, none, none, none, none, none, none, none, none, none, none, none, none, none, none, none, none] [] h c Q noX := by
  have hnil : ∀ (x : Nat) (e : va_E), (fun _ => none : AH) x = some e → False := fun x e w => by cases w
  refine Go.new (ci := 8) (C1 := C - 1) (S1 := S - 7) (fs := [.null, .null, .null, .null, .null, .null, .int 0]) ty_Camp d_law_0 rfl rfl cw_Camp ty_Camp_ok (gm_1 (List.mem_of_getElem? (i := 31) rfl) rfl) (gm_1 (List.mem_of_getElem? (i := 32) rfl) rfl) (gm_1 (List.mem_of_getElem? (i := 1) rfl) rfl) n9_fs_Camp (by omega) (by omega) ?_
  refine Go.dup d_law_3 rfl rfl ?_
  refine Go.callI (C1 := C - 45) (S1 := S - 8779) (as := []) d_law_4 rfl (Or.inl l_Law_248) k_Camp_init_n rfl rfl (c_Camp_init (sg := sg) (t := c) hs hao hup_at) (by decide) (by decide) (by omega) (by omega) (Nat.le_of_ble_eq_true rfl) (fun _ _ _ w _ => w.elim) (fun v2 h2 z2 w2 _ => ?_)
  obtain ⟨rfl, e2, rfl⟩ := w2
  have c2 : ∀ k, k < 45 → h2 (c + k) = cam9 Γ sg c k := fun k hk => by
    rw [e2]
    exact blk_at hk
  clear e2
  refine Go.astore_1 d_law_7 rfl (by rfl) ?_
  refine Go.new (ci := 10) (C1 := C - 46) (S1 := S - 8783) (fs := [.null, .int 0, .int 0, .int 0]) ty_StringBuilder d_law_8 rfl rfl cw_StringBuilder ty_StringBuilder_ok x_lkSB x_insSB x_iniSB n9_fs_SB (by omega) (by omega) ?_
  refine Go.dup d_law_11 rfl rfl ?_
  refine Go.callI (C1 := C - 47) (S1 := S - 8799) (as := []) d_law_12 rfl (Or.inl l_Law_34) k_StringBuilder_init_n rfl rfl (c_sb_init hcs hup_at) (by decide) (by decide) (by omega) (by omega) (Nat.le_of_ble_eq_true rfl) (fun _ _ _ w _ => w.elim) (fun v3 h3 z3 w3 _ => ?_)
  obtain ⟨rfl, hsb, rfl⟩ := w3
  refine Go.astore_2 d_law_15 rfl (by rfl) ?_
  refine Go.aload_0 d_law_16 rfl ?_
  refine Go.aload_2 d_law_17 rfl ?_
  refine Go.callS (C1 := C - 1000) (S1 := S - 1110000) (as := [.ref sa, .ref (c + 45)]) d_law_18 rfl l_Law_249 k_Law_list_s rfl rfl rfl (c_list hcs hp hdg hls hao hsc hn hat hsb) (by decide) (by decide) (by omega) (by omega) (by decide) (fun _ _ _ w _ => w.elim) (fun v4 h4 z4 w4 hz4 => ?_)
  obtain ⟨D, hD, sim, rfl, hx⟩ := w4
  have hl12 := dTx_len hD
  have c3 : ∀ k, k < 45 → hdel (hup h2 (c + 45) (.inr (10, [.null, .int 0, .int 0, .int 0]))) (c + 45) (c + k) = cam9 Γ sg c k := fun k hk => (hdel_ne (by omega)).trans ((hup_ne (by omega)).trans (c2 k hk))
  generalize hdel (hup h2 (c + 45) (.inr (10, [.null, .int 0, .int 0, .int 0]))) (c + 45) = hb at hsb hx c3
  obtain ⟨A, hA, hcn, hs6, htg, hal⟩ := hx.sim hD
  obtain ⟨B, hlst, -⟩ := hx
  have hbas := hlst.base
  obtain ⟨h0, hsb2, -⟩ := hlst
  have c4 : ∀ k, k < 45 → h4 (c + k) = cam9 Γ sg c k := fun k hk => by
    obtain ⟨e, he⟩ := cam9_some (Γ := Γ) (sg := sg) (c := c) k hk
    rw [he]
    exact hbas _ _ ((c3 k hk).trans he)
  refine Go.astore_3 d_law_21 rfl (by rfl) ?_
  refine Go.aload_1 d_law_22 rfl ?_
  refine Go.aload_2 d_law_23 rfl ?_
  obtain ⟨v5, n5, hob⟩ := hsb2.obj
  refine Go.callV (C1 := C - 1002) (S1 := S - 1112000) (as := []) d_law_24 rfl l_Law_44 k_StringBuilder_toString_v rfl hob rfl rfl (c_toStr hcs hsb2) (by decide) (by decide) (by omega) (by omega) (Nat.le_of_ble_eq_true rfl) (fun _ _ _ w _ => w.elim) (fun v6 h6 z6 w6 hz6 => ?_)
  obtain ⟨b, rfl, hE, hst⟩ := w6
  refine Go.low (fun hlow => ?_)
  subst hs6
  refine Go.alike (hal h6 hE) ?_
  have c6 : ∀ k, k < 45 → h6 (c + k) = cam9 Γ sg c k := fun k hk => by
    obtain ⟨e, he⟩ := cam9_some (Γ := Γ) (sg := sg) (c := c) k hk
    rw [he]
    exact hE _ _ ((c4 k hk).trans he)
  have ht0 : ∀ x, (∃ e, hb x = some e) → tg A x = none := fun x hxe => by
    obtain ⟨e, hxe⟩ := hxe
    cases ht : tg A x with
    | none => rfl
    | some kr =>
      have := (htg x kr.1 kr.2 ht).1
      rw [hxe] at this
      cases this
  have ht1 : ∀ x, h4 x = none → tg A x = none := fun x hxn => by
    cases ht : tg A x with
    | none => rfl
    | some kr => exact absurd hxn (htg x kr.1 kr.2 ht).2
  have hcx : ∀ k, k < 45 → tg A (c + k) = none := fun k hk => by
    obtain ⟨e, he⟩ := cam9_some (Γ := Γ) (sg := sg) (c := c) k hk
    exact ht0 _ ⟨e, (c3 k hk).trans he⟩
  have hj : AJ A c z6 := by
    refine ⟨hA, fun x h1 h2 => ?_, fun x k r hx => ?_, by omega, fun k hk => by rw [hcn]; exact dCN_14 hD k hk⟩
    · obtain ⟨k, rfl⟩ : ∃ k, x = c + k := ⟨x - c, by omega⟩
      exact hcx k (by omega)
    · refine Nat.not_le.mp (fun w => ?_)
      cases e4 : h4 x with
      | none => exact (htg x k r hx).2 e4
      | some e =>
        have := hE x e e4
        rw [hlow x w] at this
        cases this
  have hcX : ∀ k, k < 45 → smC Γ A h6 (Y0 D) (c + k) = cam9 Γ sg c k := fun k hk => (sm_no (hcx k hk)).trans (c6 k hk)
  have hnot : ∀ x, h4 x = none → x < c ∨ c + 45 ≤ x := fun x hxn => by
    by_cases h1 : x < c
    · exact Or.inl h1
    · by_cases h2 : c + 45 ≤ x
      · exact Or.inr h2
      · obtain ⟨k, rfl⟩ : ∃ k, x = c + k := ⟨x - c, by omega⟩
        obtain ⟨e, he⟩ := cam9_some (Γ := Γ) (sg := sg) (c := c) k (by omega)
        rw [c4 k (by omega), he] at hxn
        cases hxn
  obtain ⟨vb, n1, n2, e1, e2⟩ := hst
  have htl : TXL Γ (smC Γ A h6 (Y0 D)) c b (dTx D) := ⟨vb, hnot b n1, hnot vb n2, (sm_no (ht1 b n1)).trans e1, (sm_no (ht1 vb n2)).trans e2⟩
  have geo : GEO c (c + 7) (c + 19) (c + 31) (c + 38) := by
    refine ⟨?_, ?_, ?_, ?_, ?_, ?_, ?_, ?_⟩ <;> omega
  have geo2 : GEO c (c + 19) (c + 7) (c + 38) (c + 31) := by
    refine ⟨?_, ?_, ?_, ?_, ?_, ?_, ?_, ?_⟩ <;> omega
  have bd : BND c (c + 7) (c + 19) (c + 31) (c + 38) := by
    refine ⟨?_, ?_, ?_, ?_⟩ <;> omega
  have bd2 : BND c (c + 19) (c + 7) (c + 38) (c + 31) := by
    refine ⟨?_, ?_, ?_, ?_⟩ <;> omega
  have hc : CH Γ sg sw (smC Γ A h6 (Y0 D)) c (c + 7) (c + 19) (c + 31) (c + 38) new_gl new_gl new_tm new_tm := ⟨⟨hs, hsn, hw⟩, geo, bd, hcX 31 (by decide), hcX 38 (by decide), Nat.zero_le _, Nat.zero_le _, wf_begin, wf_begin⟩
  refine Go.heq (cw_new hcX).symm ?_
  refine Go.callS (C1 := C - 1402) (S1 := S - 1114400) (as := [.ref c, .ref b]) d_law_27 rfl l_Law_253 k_Law_taught_s rfl rfl rfl (c_taught hc hms hth hcs htx hsa hao (Nat.zero_le _) htl (LB_of hsb2) (by omega) hD hcn rfl rfl) (by decide) (by decide) (by omega) (by omega) (by decide) (fun _ _ _ w _ => w.elim) (fun v7 h7 z7 w7 hz7 => ?_)
  obtain ⟨rfl, a9, K9, σ9, T9, F9, P9, q1, q2, q3, q4⟩ := w7
  refine Go.if_eq (t := 35) d_law_30 (by decide) rfl (fun _ => ?_) (fun w => absurd rfl w)
  refine Go.less q4 ?_
  obtain ⟨dg, edg⟩ : ∃ dg, dg = s_Camp_digest a9 K9 σ9 new_gl T9 F9 new_tm new_fm P9 := ⟨_, rfl⟩
  have h85 := hA.2.2 5 (by decide)
  have J : JW Γ A c (Y0 D) (Y0 D) 0 dg h6 (cw_ Γ sg (smC Γ A h6 (Y0 D)) c (c + 19) (c + 7) (c + 38) (c + 31) a9 K9 σ9 new_gl T9 F9 new_tm new_fm P9) := ⟨sg, sw, c + 19, c + 7, c + 38, c + 31, a9, K9, σ9, new_gl, T9, F9, new_tm, new_fm, P9, ⟨hs, hsn, hw⟩, geo2, bd2, q1, c6 38 (by decide), c6 31 (by decide), by rw [q3.1]; omega, Nat.zero_le _, wf_begin, q2, ⟨ri_0 hD hcn, ct_0 hcn, fun r hr => (q3.2 r hr).imp (fun a w => w.1), ⟨0, rfl, Nat.le_refl _⟩, Nat.le_refl _⟩, q3, edg.symm, (sm_cw9 hj geo2 bd2).symm⟩
  refine Go.fgt [some (.ref sa), some (.ref c), none, some (.ref ((ad A 6 0))), none, none, none, none, none, none, none, none, none, none, none, none, none, none, none, none, none, none, none, none, none, none, none, none, none, none, none] (by repeat' (first | exact trivial | refine ⟨rfl, ?_⟩)) ?_
  refine Go.aload_1 d_law_35 rfl ?_
  refine Go.iconst (v := 1) d_law_36 rfl (by decide) ?_
  refine Go.cvT (C1 := C - 1406) (S1 := S - 1114424) (as := [.int 1]) (rest := []) d_law_37 rfl l_Law_257 k_Camp_count_v rfl (J.cam hj) rfl rfl (j_count hj J hms hth (k := 1) rfl (by first | decide | assumption | omega)) rfl rfl (by omega) (by omega) rfl ?_
  refine Go.istore_4 d_law_40 rfl (by rfl) ?_
  refine Go.aload_1 d_law_42 rfl ?_
  refine Go.iconst (v := 2) d_law_43 rfl (by decide) ?_
  refine Go.cvT (C1 := C - 1410) (S1 := S - 1114448) (as := [.int 2]) (rest := []) d_law_44 rfl l_Law_257 k_Camp_count_v rfl (J.cam hj) rfl rfl (j_count hj J hms hth (k := 2) rfl (by first | decide | assumption | omega)) rfl rfl (by omega) (by omega) rfl ?_
  refine Go.istore_5 d_law_47 rfl (by rfl) ?_
  refine Go.aload_1 d_law_49 rfl ?_
  refine Go.iconst (v := 5) d_law_50 rfl (by decide) ?_
  refine Go.cvT (C1 := C - 1414) (S1 := S - 1114472) (as := [.int 5]) (rest := []) d_law_51 rfl l_Law_257 k_Camp_count_v rfl (J.cam hj) rfl rfl (j_count hj J hms hth (k := 5) rfl (by first | decide | assumption | omega)) rfl rfl (by omega) (by omega) rfl ?_
  refine Go.istore_6 d_law_54 rfl (by rfl) ?_
  refine Go.iconst (v := 0) d_law_56 rfl (by decide) ?_
  refine Go.istore_7 d_law_57 rfl (by rfl) ?_
  refine Go.fgt [some (.ref sa), some (.ref c), none, some (.ref ((ad A 6 0))), some (.int ((nI (cn A 0)))), some (.int ((nI (cn A 1)))), some (.int ((nI (cn A 4)))), some (.int ((nI 0))), none, none, none, none, none, none, none, none, none, none, none, none, none, none, none, none, none, none, none, none, none, none, none] (by repeat' (first | exact trivial | refine ⟨rfl, ?_⟩)) ?_
  exact law_all hj hms hth hao hsc hn hQ 20 0 _ _ _ _ _ _ _ _ rfl J (by omega) (by omega) (by omega) (by omega)
end Lw
