/-! the law: its beginning -/
theorem cw_new {Γ : G9} {sg : Nat → Nat} {h : AH} {c : Nat} (hh : ∀ k, k < 45 → h (c + k) = (fun j => if j = 0 then some (.inr (8, [.ref (c + 1), .ref (c + 3), .ref (c + 7), .ref (c + 19), .ref (c + 31), .ref (c + 38), .int (-1)])) else if j - 1 < 37 then (if j - 1 < 30 then (if j - 1 < 18 then (if j - 1 < 6 then (if j - 1 < 2 then taC Γ (c + 1) new_ta (j - 1) else tkC Γ sg (c + 3) new_tk (j - 1 - 2)) else glC Γ (c + 7) new_gl (j - 1 - 6)) else glC Γ (c + 19) new_gl (j - 1 - 18)) else newOr Γ sg (c + 31) (j - 1 - 30)) else newOr Γ sg (c + 38) (j - 1 - 37)) k) : cw_ Γ sg h c (c + 7) (c + 19) (c + 31) (c + 38) new_ta new_tk new_gl new_gl new_tm new_fm new_tm new_fm (-1) = h := by
  rw [cw_]
  rw [blk_self (h := h) (g := c + 1) (n := 2) (fun k hk => by
    rw [show c + 1 + k = c + (1 + k) by omega, hh (1 + k) (by omega)]
    match k, hk with
    | 0, _ => rfl
    | 1, _ => rfl
    | _ + 2, w => exact absurd w (by omega)), blk_self (h := h) (g := c + 3) (n := 4) (fun k hk => by
    rw [show c + 3 + k = c + (3 + k) by omega, hh (3 + k) (by omega)]
    match k, hk with
    | 0, _ => rfl
    | 1, _ => rfl
    | 2, _ => rfl
    | 3, _ => rfl
    | _ + 4, w => exact absurd w (by omega)), blk_self (h := h) (g := c + 7) (n := 12) (fun k hk => by
    rw [show c + 7 + k = c + (7 + k) by omega, hh (7 + k) (by omega)]
    match k, hk with
    | 0, _ => rfl
    | 1, _ => rfl
    | 2, _ => rfl
    | 3, _ => rfl
    | 4, _ => rfl
    | 5, _ => rfl
    | 6, _ => rfl
    | 7, _ => rfl
    | 8, _ => rfl
    | 9, _ => rfl
    | 10, _ => rfl
    | 11, _ => rfl
    | _ + 12, w => exact absurd w (by omega)), blk_self (h := h) (g := c + 19) (n := 12) (fun k hk => by
    rw [show c + 19 + k = c + (19 + k) by omega, hh (19 + k) (by omega)]
    match k, hk with
    | 0, _ => rfl
    | 1, _ => rfl
    | 2, _ => rfl
    | 3, _ => rfl
    | 4, _ => rfl
    | 5, _ => rfl
    | 6, _ => rfl
    | 7, _ => rfl
    | 8, _ => rfl
    | 9, _ => rfl
    | 10, _ => rfl
    | 11, _ => rfl
    | _ + 12, w => exact absurd w (by omega)), blk_self (h := h) (g := c + 31 + 1) (n := 2) (fun k hk => by
    rw [show c + 31 + 1 + k = c + (32 + k) by omega, hh (32 + k) (by omega)]
    match k, hk with
    | 0, _ => rfl
    | 1, _ => rfl
    | _ + 2, w => exact absurd w (by omega)), blk_self (h := h) (g := c + 31 + 3) (n := 4) (fun k hk => by
    rw [show c + 31 + 3 + k = c + (34 + k) by omega, hh (34 + k) (by omega)]
    match k, hk with
    | 0, _ => rfl
    | 1, _ => rfl
    | 2, _ => rfl
    | 3, _ => rfl
    | _ + 4, w => exact absurd w (by omega)), blk_self (h := h) (g := c + 38 + 1) (n := 2) (fun k hk => by
    rw [show c + 38 + 1 + k = c + (39 + k) by omega, hh (39 + k) (by omega)]
    match k, hk with
    | 0, _ => rfl
    | 1, _ => rfl
    | _ + 2, w => exact absurd w (by omega)), blk_self (h := h) (g := c + 38 + 3) (n := 4) (fun k hk => by
    rw [show c + 38 + 3 + k = c + (41 + k) by omega, hh (41 + k) (by omega)]
    match k, hk with
    | 0, _ => rfl
    | 1, _ => rfl
    | 2, _ => rfl
    | 3, _ => rfl
    | _ + 4, w => exact absurd w (by omega)), blk_self (h := h) (g := c) (n := 1) (fun k hk => by
    rw [show c + k = c + (0 + k) by omega, hh (0 + k) (by omega)]
    match k, hk with
    | 0, _ => rfl
    | _ + 1, w => exact absurd w (by omega))]
theorem mf_abs0 {Γ : G9} {h h3 : AH} {m q r r2 z : Nat} {M : MO} {H : SH} {Y Ah : SX} {ow : Nat} (hz : m + 2 ≤ q ∧ q + 24 ≤ r ∧ r + 21 ≤ r2 ∧ r2 + 21 ≤ z) (hh : ∀ a, m ≤ a → a < z → h3 a = (mf_ Γ h m q r r2 M H Y Ah ow) a) : (mf_ Γ h3 m q r r2 M H Y Ah ow) = h3 := by
  rw [mf_]
  rw [blk_self (fun k hk => (hh _ (by omega) (by omega)).trans (by unfold mf_; rw [blk_out (by omega), blk_out (by omega), blk_out (by omega), blk_at hk])), blk_self (fun k hk => (hh _ (by omega) (by omega)).trans (by unfold mf_; rw [blk_out (by omega), blk_out (by omega), blk_at hk])), blk_self (fun k hk => (hh _ (by omega) (by omega)).trans (by unfold mf_; rw [blk_out (by omega), blk_at hk])), blk_self (fun k hk => (hh _ (by omega) (by omega)).trans (by unfold mf_; rw [blk_at hk]))]
theorem n9_fs_Camp : ∀ j, j < 7 → defaultValue (ty_Camp j) = vp_V [.null, .null, .null, .null, .null, .null, .int 0] j := by
  intro j hj
  match j, hj with
  | 0, _ => rfl
  | 1, _ => rfl
  | 2, _ => rfl
  | 3, _ => rfl
  | 4, _ => rfl
  | 5, _ => rfl
  | 6, _ => rfl
  | _ + 7, w => exact absurd w (by omega)
theorem n9_fs_Model : ∀ j, j < 11 → defaultValue (ty_Model j) = vp_V [.int 0, .null, .int 0, .int 0, .int 0, .int 0, .null, .null, .null, .int 0, .null] j := by
  intro j hj
  match j, hj with
  | 0, _ => rfl
  | 1, _ => rfl
  | 2, _ => rfl
  | 3, _ => rfl
  | 4, _ => rfl
  | 5, _ => rfl
  | 6, _ => rfl
  | 7, _ => rfl
  | 8, _ => rfl
  | 9, _ => rfl
  | 10, _ => rfl
  | _ + 11, w => exact absurd w (by omega)
set_option maxRecDepth 100000 in
set_option maxHeartbeats 800000 in
theorem law_start {R : RelT} {Γ : G9} {sg tx wd ms : Nat → Nat} {sw sa wa sn b L : Nat} {xs : Nat → Int32} {c k : Nat} {Q : QT} {h : AH} (hst : ST Γ sg tx wd ms sw sa wa sn b L xs) (hp : PureOK R) (hL : L ≤ 3072) (hk : 6 * k ≤ L ∧ L < 6 * k + 6) (hQ : ∀ h z, Q (some (.int 1)) h z) (h0 : R 0 new_ta new_gl new_tm new_fm (-1) mo0 sh0 sx0) : Go Γ M_law 200 (40 * k + 114) (2000 * k + 12899) 0 [some (.ref b), none, none, none, none, none, none, none, none] [] h c Q noX := by
  refine Go.new (ci := 8) (C1 := 40 * k + 113) (S1 := 2000 * k + 12892) (fs := [.null, .null, .null, .null, .null, .null, .int 0]) ty_Camp d_law_0 rfl rfl cw_Camp ty_Camp_ok (gm_1 (List.mem_of_getElem? (i := 29) rfl) rfl) (gm_1 (List.mem_of_getElem? (i := 30) rfl) rfl) (gm_1 (List.mem_of_getElem? (i := 1) rfl) rfl) n9_fs_Camp (by omega) (by omega) ?_
  refine Go.dup d_law_3 rfl rfl ?_
  refine Go.callI (C1 := 40 * k + 69) (S1 := 2000 * k + 4120) (as := []) d_law_4 rfl (Or.inl l_Law_77) k_Camp_init_n rfl rfl (c_Camp_init (sg := sg) (t := c) hst.hs hst.hao hup_at) (by decide) (by decide) (by omega) (by omega) (Nat.le_of_ble_eq_true rfl) (fun E h2 z2 hx _ => hx.elim) (fun v h2 z2 hx _ => ?_)
  obtain ⟨rfl, rfl, rfl⟩ := hx
  refine Go.astore_1 d_law_7 rfl (by rfl) ?_
  refine Go.new (ci := 11) (C1 := 40 * k + 68) (S1 := 2000 * k + 4109) (fs := [.int 0, .null, .int 0, .int 0, .int 0, .int 0, .null, .null, .null, .int 0, .null]) ty_Model d_law_8 rfl rfl cw_Model ty_Model_ok (gm_5 (List.mem_of_getElem? (i := 191) rfl) rfl) (gm_5 (List.mem_of_getElem? (i := 192) rfl) rfl) (gm_1 (List.mem_of_getElem? (i := 10) rfl) rfl) n9_fs_Model (by omega) (by omega) ?_
  refine Go.dup d_law_11 rfl rfl ?_
  refine Go.callI (C1 := 40 * k + 1) (S1 := 2000 * k + 1) (as := []) d_law_12 rfl (Or.inl l_Law_80) k_Model_init_n rfl rfl (c_Model_init (t := c + 45) hup_at) (by decide) (by decide) (by omega) (by omega) (Nat.le_of_ble_eq_true rfl) (fun E h2 z2 hx _ => hx.elim) (fun v h2 z2 hx _ => ?_)
  obtain ⟨rfl, rfl, rfl⟩ := hx
  refine Go.astore_2 d_law_15 rfl (by rfl) ?_
  refine Go.iconst (v := 1) d_law_16 rfl (by decide) ?_
  refine Go.newJ (C1 := 40 * k + 0) (S1 := 2000 * k + 0) (N := 1) d_law_17 rfl rfl (by decide) (by omega) (by omega) ?_
  refine Go.astore_3 d_law_19 rfl (by rfl) ?_
  refine Go.iconst (v := 0) d_law_20 rfl (by decide) ?_
  refine Go.istore_4 d_law_21 rfl (by rfl) ?_
  have hloop := law_loop (R := R) (Γ := Γ) (c := c) (m := c + 45) (r := c + 45 + 26) (r2 := c + 45 + 47) (w := c + 45 + 68) (Q := Q) hst hp hL hQ k 0 0 rfl (by omega) (by omega)
  generalize hX : blk (hup h c (.inr (8, [.null, .null, .null, .null, .null, .null, .int 0]))) c 45 (fun j => if j = 0 then some (.inr (8, [.ref (c + 1), .ref (c + 3), .ref (c + 7), .ref (c + 19), .ref (c + 31), .ref (c + 38), .int (-1)])) else if j - 1 < 37 then (if j - 1 < 30 then (if j - 1 < 18 then (if j - 1 < 6 then (if j - 1 < 2 then taC Γ (c + 1) new_ta (j - 1) else tkC Γ sg (c + 3) new_tk (j - 1 - 2)) else glC Γ (c + 7) new_gl (j - 1 - 6)) else glC Γ (c + 19) new_gl (j - 1 - 18)) else newOr Γ sg (c + 31) (j - 1 - 30)) else newOr Γ sg (c + 38) (j - 1 - 37)) = X
  generalize hHH : hup (blk (hup X (c + 45) (.inr (11, [.int 0, .null, .int 0, .int 0, .int 0, .int 0, .null, .null, .null, .int 0, .null]))) (c + 45) 68 (fun j => if j < 2 then moC Γ ((c + 45) + 2) ((c + 45) + 26) ((c + 45) + 47) ((c + 45) + 26) (c + 45) mo0 j else if j - 2 < 24 then shC Γ ((c + 45) + 2) sh0 (j - 2) else if j - 2 - 24 < 21 then sxC Γ ((c + 45) + 26) sx0 (j - 2 - 24) else sxC Γ ((c + 45) + 47) sx0 (j - 2 - 24 - 21))) (c + 45 + 68) (aJ Γ 1 (fun _ => 0)) = HH
  have eM : ∀ a, c + 45 ≤ a → a < c + 45 + 68 → HH a = mf_ Γ X (c + 45) (c + 45 + 2) (c + 45 + 26) (c + 45 + 47) mo0 sh0 sx0 sx0 0 a := fun a h1 h2 => by
    rw [← hHH, hup_ne (by omega), blk_hupin (by decide), mf_new]
  have eC : ∀ j, j < 45 → HH (c + j) = (fun j => if j = 0 then some (.inr (8, [.ref (c + 1), .ref (c + 3), .ref (c + 7), .ref (c + 19), .ref (c + 31), .ref (c + 38), .int (-1)])) else if j - 1 < 37 then (if j - 1 < 30 then (if j - 1 < 18 then (if j - 1 < 6 then (if j - 1 < 2 then taC Γ (c + 1) new_ta (j - 1) else tkC Γ sg (c + 3) new_tk (j - 1 - 2)) else glC Γ (c + 7) new_gl (j - 1 - 6)) else glC Γ (c + 19) new_gl (j - 1 - 18)) else newOr Γ sg (c + 31) (j - 1 - 30)) else newOr Γ sg (c + 38) (j - 1 - 37)) j := fun j hj => by
    rw [← hHH, hup_ne (by omega), blk_out (by omega), hup_ne (by omega), ← hX, blk_at hj]
  have e1 : mf_ Γ HH (c + 45) (c + 45 + 2) (c + 45 + 26) (c + 45 + 47) mo0 sh0 sx0 sx0 0 = HH := mf_abs0 (z := c + 45 + 68) (by omega) eM
  have e2 : cw_ Γ sg (mf_ Γ HH (c + 45) (c + 45 + 2) (c + 45 + 26) (c + 45 + 47) mo0 sh0 sx0 sx0 0) c (c + 7) (c + 19) (c + 31) (c + 38) new_ta new_tk new_gl new_gl new_tm new_fm new_tm new_fm (-1) = HH := by
    rw [e1]
    exact cw_new eC
  refine Go.heq e2.symm ?_
  exact hloop _ HH (fun _ => 0) _ _ _ _ _ _ _ _ _ _ _ _ _ _ _ _ _ _ _ ⟨by omega, by omega, by rw [← hHH]; exact hup_at, eC 31 (by decide), eC 38 (by decide), h0, wf_begin, Nat.zero_le _⟩
