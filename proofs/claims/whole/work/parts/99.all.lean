/-! the checksum, and what else there is to say of each call -/
theorem cell_count {A : TA} {K : TK} {σ τ : GL} {T : TM} {F : FM} {U : TM} {G : FM} {P : CP} {M : MO} {H : SH} {Y : SX} {c : Nat} (hG : RG σ H Y) (hC : RC H) (hR : RR H Y) (hT : RT A P M) (ho : T.2 = sh_or H) (hd : sx_dy Y < 1000000) (hc : c < 15) : s_Camp_counted A K σ τ T F U G P (nI c) = s_Model_counted (mo_th' M 0) H Y (nI c) := by
  have q := (q_count (A := A) (K := K) (σ := σ) (τ := τ) (T := T) (F := F) (U := U) (G := G) (P := P) (M := M) (H := H) (Y := Y) (x1 := nI c) hG hC hR hT ho hd).2.1
  unfold s_Camp_count s_Model_count at q
  have hw : (0 : Int32) ≤ nI c ∧ nI c < 15 := ⟨nI_pos' (by omega), nI_lt (b := 15) hc (by decide)⟩
  have hw2 : (0 : Int32) ≤ nI c ∧ nI c ≤ 14 := ⟨nI_pos' (by omega), nI_le (b := 14) (by omega) (by decide)⟩
  rw [what_iff, if_pos hw, isIn_iff, if_pos hw2] at q
  simp only [if00, if10, if_true] at q
  exact q trivial
theorem cell_band {σ : GL} {M : MO} {H : SH} {Y : SX} {r c : Nat} (hG : RG σ H Y) (hC : RC H) (hR : RR H Y) (hr : r < sh_ha H 0) (hc : c < 6) : s_Glacier_bandFact σ (nI r) c = s_Model_bandTold (mo_th' M 0) H Y r (nI c) := by
  have hM : sh_ha H 0 ≤ 6 := by have := hC; unfold RC at this; omega
  have q := (q_band (A := new_ta) (K := (fun _ => none, fun _ => 0, fun _ => 0, 0, 0, 0, 0, 0, 0)) (σ := σ) (τ := σ) (T := new_tm) (F := new_fm) (U := new_tm) (G := new_fm) (P := 0) (M := M) (H := H) (Y := Y) (x1 := nI r) (x2 := nI c) hG hC hR).2.1
  unfold s_Camp_band s_Model_band at q
  have hx : (0 : Int32) ≤ nI r ∧ nI r < nI (sh_ha H 0) := ⟨nI_pos' (by omega), nI_lt hr (by omega)⟩
  have hw : (0 : Int32) ≤ nI c ∧ nI c < 6 := ⟨nI_pos' (by omega), nI_lt (b := 6) hc (by decide)⟩
  have hw2 : (0 : Int32) ≤ nI c ∧ nI c ≤ 5 := ⟨nI_pos' (by omega), nI_le (b := 5) (by omega) (by decide)⟩
  rw [need_in (show (σ.1 0).2 = sh_ha H 0 from hG.n0) hx, is_in hx (by omega), what_iff, if_pos hw, isIn_iff, if_pos hw2, nI_clamp (by omega), nI_clamp (by omega)] at q
  simp only [if00, if10, if_true] at q
  exact q trivial
theorem cell_stake {σ : GL} {M : MO} {H : SH} {Y : SX} {r c : Nat} (hG : RG σ H Y) (hC : RC H) (hr : r < sh_ha H 3) (hc : c < 6) : gG σ 1 (nI r) c = s_Model_stakeTold (mo_th' M 0) H Y r (nI c) := by
  have hM : sh_ha H 3 ≤ 6 := by have := hC; unfold RC at this; omega
  have q := (q_stake (A := new_ta) (K := (fun _ => none, fun _ => 0, fun _ => 0, 0, 0, 0, 0, 0, 0)) (σ := σ) (τ := σ) (T := new_tm) (F := new_fm) (U := new_tm) (G := new_fm) (P := 0) (M := M) (H := H) (Y := Y) (x1 := nI r) (x2 := nI c) hG hC).2.1
  unfold s_Camp_stake s_Model_stake at q
  have hx : (0 : Int32) ≤ nI r ∧ nI r < nI (sh_ha H 3) := ⟨nI_pos' (by omega), nI_lt hr (by omega)⟩
  have hw : (0 : Int32) ≤ nI c ∧ nI c < 6 := ⟨nI_pos' (by omega), nI_lt (b := 6) hc (by decide)⟩
  have hw2 : (0 : Int32) ≤ nI c ∧ nI c ≤ 5 := ⟨nI_pos' (by omega), nI_le (b := 5) (by omega) (by decide)⟩
  rw [need_in (show (σ.1 1).2 = sh_ha H 3 from hG.n1) hx, is_in hx (by omega), what_iff, if_pos hw, isIn_iff, if_pos hw2, nI_clamp (by omega), nI_clamp (by omega)] at q
  simp only [if00, if10, if_true] at q
  exact q trivial
theorem cell_crevasse {σ : GL} {M : MO} {H : SH} {Y : SX} {r c : Nat} (hG : RG σ H Y) (hC : RC H) (hR : RR H Y) (hr : r < sh_ha H 6) (hc : c < 6) : s_Glacier_crevasseFact σ (nI r) c = s_Model_crevasseTold (mo_th' M 0) H Y r (nI c) := by
  have hM : sh_ha H 6 ≤ 6 := by have := hC; unfold RC at this; omega
  have q := (q_crevasse (A := new_ta) (K := (fun _ => none, fun _ => 0, fun _ => 0, 0, 0, 0, 0, 0, 0)) (σ := σ) (τ := σ) (T := new_tm) (F := new_fm) (U := new_tm) (G := new_fm) (P := 0) (M := M) (H := H) (Y := Y) (x1 := nI r) (x2 := nI c) hG hC hR).2.1
  unfold s_Camp_crevasse s_Model_crevasse at q
  have hx : (0 : Int32) ≤ nI r ∧ nI r < nI (sh_ha H 6) := ⟨nI_pos' (by omega), nI_lt hr (by omega)⟩
  have hw : (0 : Int32) ≤ nI c ∧ nI c < 6 := ⟨nI_pos' (by omega), nI_lt (b := 6) hc (by decide)⟩
  have hw2 : (0 : Int32) ≤ nI c ∧ nI c ≤ 5 := ⟨nI_pos' (by omega), nI_le (b := 5) (by omega) (by decide)⟩
  rw [need_in (show (σ.1 2).2 = sh_ha H 6 from hG.n2) hx, is_in hx (by omega), what_iff, if_pos hw, isIn_iff, if_pos hw2, nI_clamp (by omega), nI_clamp (by omega)] at q
  simp only [if00, if10, if_true] at q
  exact q trivial
theorem cell_depot {σ : GL} {M : MO} {H : SH} {Y : SX} {r c : Nat} (hG : RG σ H Y) (hC : RC H) (hr : r < sh_ha H 9) (hc : c < 2) : gG σ 3 (nI r) c = s_Model_depotTold (mo_th' M 0) H Y r (nI c) := by
  have hM : sh_ha H 9 ≤ 6 := by have := hC; unfold RC at this; omega
  have q := (q_depot (A := new_ta) (K := (fun _ => none, fun _ => 0, fun _ => 0, 0, 0, 0, 0, 0, 0)) (σ := σ) (τ := σ) (T := new_tm) (F := new_fm) (U := new_tm) (G := new_fm) (P := 0) (M := M) (H := H) (Y := Y) (x1 := nI r) (x2 := nI c) hG hC).2.1
  unfold s_Camp_depot s_Model_depot at q
  have hx : (0 : Int32) ≤ nI r ∧ nI r < nI (sh_ha H 9) := ⟨nI_pos' (by omega), nI_lt hr (by omega)⟩
  have hw : (0 : Int32) ≤ nI c ∧ nI c < 2 := ⟨nI_pos' (by omega), nI_lt (b := 2) hc (by decide)⟩
  have hw2 : (0 : Int32) ≤ nI c ∧ nI c ≤ 1 := ⟨nI_pos' (by omega), nI_le (b := 1) (by omega) (by decide)⟩
  rw [need_in (show (σ.1 3).2 = sh_ha H 9 from hG.n3) hx, is_in hx (by omega), what_iff, if_pos hw, isIn_iff, if_pos hw2, nI_clamp (by omega), nI_clamp (by omega)] at q
  simp only [if00, if10, if_true] at q
  exact q trivial
theorem cell_team {σ : GL} {M : MO} {H : SH} {Y : SX} {r c : Nat} (hG : RG σ H Y) (hC : RC H) (hr : r < sh_ha H 11) (hc : c < 8) : gG σ 4 (nI r) c = s_Model_teamTold (mo_th' M 0) H Y r (nI c) := by
  have hM : sh_ha H 11 ≤ 6 := by have := hC; unfold RC at this; omega
  have q := (q_team (A := new_ta) (K := (fun _ => none, fun _ => 0, fun _ => 0, 0, 0, 0, 0, 0, 0)) (σ := σ) (τ := σ) (T := new_tm) (F := new_fm) (U := new_tm) (G := new_fm) (P := 0) (M := M) (H := H) (Y := Y) (x1 := nI r) (x2 := nI c) hG hC).2.1
  unfold s_Camp_team s_Model_team at q
  have hx : (0 : Int32) ≤ nI r ∧ nI r < nI (sh_ha H 11) := ⟨nI_pos' (by omega), nI_lt hr (by omega)⟩
  have hw : (0 : Int32) ≤ nI c ∧ nI c < 8 := ⟨nI_pos' (by omega), nI_lt (b := 8) hc (by decide)⟩
  have hw2 : (0 : Int32) ≤ nI c ∧ nI c ≤ 7 := ⟨nI_pos' (by omega), nI_le (b := 7) (by omega) (by decide)⟩
  rw [need_in (show (σ.1 4).2 = sh_ha H 11 from hG.n4) hx, is_in hx (by omega), what_iff, if_pos hw, isIn_iff, if_pos hw2, nI_clamp (by omega), nI_clamp (by omega)] at q
  simp only [if00, if10, if_true] at q
  exact q trivial
theorem p_digest_ok : PK_p_digest RALL := by
  intro n A K σ τ T F U G P M H Y hn hR
  obtain ⟨rT, rG, rC, rR, rD, rB, rO⟩ := hR
  refine ⟨?_, rT, rG, rC, rR, by omega, rB, rO⟩
  have a1 : ∀ k i d, i + k ≤ 15 → l_Camp_digest_6 A K σ τ T F U G P k i d = l_Model_digest_11 (mo_th' M 0) H Y k i d := by
    intro k
    induction k with
    | zero => intro i d _; rfl
    | succ k ih =>
      intro i d h
      rw [l_Camp_digest_6, l_Model_digest_11, cell_count rG rC rR rT rO.1 (by omega) (by omega)]
      exact ih _ _ (by omega)
  have b1 : ∀ r, r < sh_ha H 0 → ∀ k i d, i + k ≤ 6 → l_Camp_digest_50 A K σ τ T F U G P (nI r) k i d = l_Model_digest_58 (mo_th' M 0) H Y r k i d := by
    intro r hr k
    induction k with
    | zero => intro i d _; rfl
    | succ k ih =>
      intro i d h
      rw [l_Camp_digest_50, l_Model_digest_58, cell_band (M := M) rG rC rR hr (by omega)]
      exact ih _ _ (by omega)
  have b2 : ∀ k i d, i + k ≤ sh_ha H 0 → l_Camp_digest_33 A K σ τ T F U G P k i d = l_Model_digest_42 (mo_th' M 0) H Y k i d := by
    intro k
    induction k with
    | zero => intro i d _; rfl
    | succ k ih =>
      intro i d h
      rw [l_Camp_digest_33, l_Model_digest_42, b1 i (by omega) 6 0 d (by omega)]
      exact ih _ _ (by omega)
  have d1 : ∀ r, r < sh_ha H 6 → ∀ k i d, i + k ≤ 6 → l_Camp_digest_120 A K σ τ T F U G P (nI r) k i d = l_Model_digest_161 (mo_th' M 0) H Y r k i d := by
    intro r hr k
    induction k with
    | zero => intro i d _; rfl
    | succ k ih =>
      intro i d h
      rw [l_Camp_digest_120, l_Model_digest_161, cell_crevasse (M := M) rG rC rR hr (by omega)]
      exact ih _ _ (by omega)
  have d2 : ∀ k i d, i + k ≤ sh_ha H 6 → l_Camp_digest_103 A K σ τ T F U G P k i d = l_Model_digest_144 (mo_th' M 0) H Y k i d := by
    intro k
    induction k with
    | zero => intro i d _; rfl
    | succ k ih =>
      intro i d h
      rw [l_Camp_digest_103, l_Model_digest_144, d1 i (by omega) 6 0 d (by omega)]
      exact ih _ _ (by omega)
  have s1 : ∀ r, r < sh_ha H 3 → ∀ x k i d, i + k ≤ 6 → l_Camp_digestOf_in (σ.1 1) 6 x (nI r) k i d = l_Model_digest_109 (mo_th' M 0) H Y r k i d := by
    intro r hr x k
    induction k with
    | zero => intro i d _; rfl
    | succ k ih =>
      intro i d h
      rw [l_Camp_digestOf_in, l_Model_digest_109, show tgI (σ.1 1) (nI r) i = s_Model_stakeTold (mo_th' M 0) H Y r (nI i) from cell_stake (M := M) rG rC hr (by omega)]
      exact ih _ _ (by omega)
  have s2 : ∀ x k i d, i + k ≤ sh_ha H 3 → l_Camp_digestOf_6 (σ.1 1) 6 x k i d = l_Model_digest_93 (mo_th' M 0) H Y k i d := by
    intro x k
    induction k with
    | zero => intro i d _; rfl
    | succ k ih =>
      intro i d h
      rw [l_Camp_digestOf_6, l_Model_digest_93, s1 i (by omega) x 6 0 d (by omega)]
      exact ih _ _ (by omega)
  have p1 : ∀ r, r < sh_ha H 9 → ∀ x k i d, i + k ≤ 2 → l_Camp_digestOf_in (σ.1 3) 2 x (nI r) k i d = l_Model_digest_213 (mo_th' M 0) H Y r k i d := by
    intro r hr x k
    induction k with
    | zero => intro i d _; rfl
    | succ k ih =>
      intro i d h
      rw [l_Camp_digestOf_in, l_Model_digest_213, show tgI (σ.1 3) (nI r) i = s_Model_depotTold (mo_th' M 0) H Y r (nI i) from cell_depot (M := M) rG rC hr (by omega)]
      exact ih _ _ (by omega)
  have p2 : ∀ x k i d, i + k ≤ sh_ha H 9 → l_Camp_digestOf_6 (σ.1 3) 2 x k i d = l_Model_digest_196 (mo_th' M 0) H Y k i d := by
    intro x k
    induction k with
    | zero => intro i d _; rfl
    | succ k ih =>
      intro i d h
      rw [l_Camp_digestOf_6, l_Model_digest_196, p1 i (by omega) x 2 0 d (by omega)]
      exact ih _ _ (by omega)
  have t1 : ∀ r, r < sh_ha H 11 → ∀ x k i d, i + k ≤ 8 → l_Camp_digestOf_in (σ.1 4) 8 x (nI r) k i d = l_Model_digest_265 (mo_th' M 0) H Y r k i d := by
    intro r hr x k
    induction k with
    | zero => intro i d _; rfl
    | succ k ih =>
      intro i d h
      rw [l_Camp_digestOf_in, l_Model_digest_265, show tgI (σ.1 4) (nI r) i = s_Model_teamTold (mo_th' M 0) H Y r (nI i) from cell_team (M := M) rG rC hr (by omega)]
      exact ih _ _ (by omega)
  have t2 : ∀ x k i d, i + k ≤ sh_ha H 11 → l_Camp_digestOf_6 (σ.1 4) 8 x k i d = l_Model_digest_248 (mo_th' M 0) H Y k i d := by
    intro x k
    induction k with
    | zero => intro i d _; rfl
    | succ k ih =>
      intro i d h
      rw [l_Camp_digestOf_6, l_Model_digest_248, t1 i (by omega) x 8 0 d (by omega)]
      exact ih _ _ (by omega)
  unfold s_Camp_digest s_Model_digest s_Camp_digestOf
  rw [show (σ.1 4).2 = sh_ha H 11 from rG.n4, show (σ.1 3).2 = sh_ha H 9 from rG.n3, show gN σ 2 = sh_ha H 6 from rG.n2, show (σ.1 1).2 = sh_ha H 3 from rG.n1, show gN σ 0 = sh_ha H 0 from rG.n0]
  rw [t2 _ _ _ _ (by omega), p2 _ _ _ _ (by omega), d2 _ _ _ (by omega), s2 _ _ _ _ (by omega), b2 _ _ _ (by omega), a1 _ _ _ (by omega)]
theorem p_feed_ok : PK_p_feed RALL := by
  intro n A K σ τ T F U G P M H Y x1 x2 x3 x4 x5 hn hR hW hU
  obtain ⟨rT, rG, rC, rR, rD, rB, rO⟩ := hR
  obtain ⟨a, b, c⟩ := q_feed (K := K) (σ := σ) (τ := τ) (T := T) (F := F) (U := U) (G := G) (H := H) (Y := Y) (x1 := x1) (x2 := x2) (x3 := x3) (x4 := x4) (x5 := x5) rT
  exact ⟨a, b, c, rG, rC, rR, by omega, rB, rO⟩
theorem p_trim_ok : PK_p_trim RALL := by
  intro n A K σ τ T F U G P M H Y x1 hn hR hW hU hx
  obtain ⟨rT, rG, rC, rR, rD, rB, rO⟩ := hR
  obtain ⟨a, b, c⟩ := q_trim (K := K) (σ := σ) (τ := τ) (T := T) (F := F) (U := U) (G := G) (H := H) (Y := Y) (x1 := x1) rT hx
  exact ⟨a, b, c, rG, rC, rR, by omega, rB, rO⟩
theorem p_trimN_ok : PK_p_trimN RALL := by
  intro n A K σ τ T F U G P M H Y x1 hn hR hW hU hx
  obtain ⟨rT, rG, rC, rR, rD, rB, rO⟩ := hR
  obtain ⟨a, b, c⟩ := q_trimN (K := K) (σ := σ) (τ := τ) (T := T) (F := F) (U := U) (G := G) (H := H) (Y := Y) (x1 := x1) rT
  exact ⟨a, b, c, rG, rC, rR, by omega, rB, rO⟩
theorem p_count_ok : PK_p_count RALL := by
  intro n A K σ τ T F U G P M H Y x1 hn hR hW hU
  obtain ⟨rT, rG, rC, rR, rD, rB, rO⟩ := hR
  obtain ⟨a, b, c⟩ := q_count (K := K) (τ := τ) (F := F) (U := U) (G := G) (x1 := x1) rG rC rR rT rO.1 (by omega)
  exact ⟨a, b, c, rG, rC, rR, by omega, rB, rO⟩
theorem p_band_ok : PK_p_band RALL := by
  intro n A K σ τ T F U G P M H Y x1 x2 hn hR hW hU
  obtain ⟨rT, rG, rC, rR, rD, rB, rO⟩ := hR
  obtain ⟨a, b, c⟩ := q_band (A := A) (K := K) (τ := τ) (T := T) (F := F) (U := U) (G := G) (P := P) (M := M) (x1 := x1) (x2 := x2) rG rC rR
  exact ⟨a, b, c rT, rG, rC, rR, by omega, rB, rO⟩
theorem p_stake_ok : PK_p_stake RALL := by
  intro n A K σ τ T F U G P M H Y x1 x2 hn hR hW hU
  obtain ⟨rT, rG, rC, rR, rD, rB, rO⟩ := hR
  obtain ⟨a, b, c⟩ := q_stake (A := A) (K := K) (τ := τ) (T := T) (F := F) (U := U) (G := G) (P := P) (M := M) (x1 := x1) (x2 := x2) rG rC
  exact ⟨a, b, c rT, rG, rC, rR, by omega, rB, rO⟩
theorem p_crevasse_ok : PK_p_crevasse RALL := by
  intro n A K σ τ T F U G P M H Y x1 x2 hn hR hW hU
  obtain ⟨rT, rG, rC, rR, rD, rB, rO⟩ := hR
  obtain ⟨a, b, c⟩ := q_crevasse (A := A) (K := K) (τ := τ) (T := T) (F := F) (U := U) (G := G) (P := P) (M := M) (x1 := x1) (x2 := x2) rG rC rR
  exact ⟨a, b, c rT, rG, rC, rR, by omega, rB, rO⟩
theorem p_depot_ok : PK_p_depot RALL := by
  intro n A K σ τ T F U G P M H Y x1 x2 hn hR hW hU
  obtain ⟨rT, rG, rC, rR, rD, rB, rO⟩ := hR
  obtain ⟨a, b, c⟩ := q_depot (A := A) (K := K) (τ := τ) (T := T) (F := F) (U := U) (G := G) (P := P) (M := M) (x1 := x1) (x2 := x2) rG rC
  exact ⟨a, b, c rT, rG, rC, rR, by omega, rB, rO⟩
theorem p_team_ok : PK_p_team RALL := by
  intro n A K σ τ T F U G P M H Y x1 x2 hn hR hW hU
  obtain ⟨rT, rG, rC, rR, rD, rB, rO⟩ := hR
  obtain ⟨a, b, c⟩ := q_team (A := A) (K := K) (τ := τ) (T := T) (F := F) (U := U) (G := G) (P := P) (M := M) (x1 := x1) (x2 := x2) rG rC
  exact ⟨a, b, c rT, rG, rC, rR, by omega, rB, rO⟩
theorem p_safe_ok : PK_p_safe RALL := by
  intro n A K σ τ T F U G P M H Y x1 x2 hn hR hW hU
  obtain ⟨rT, rG, rC, rR, rD, rB, rO⟩ := hR
  obtain ⟨a, b, c⟩ := q_safe (A := A) (K := K) (τ := τ) (T := T) (F := F) (U := U) (G := G) (P := P) (M := M) (x1 := x1) (x2 := x2) rG rC rR
  exact ⟨a, b, c rT, rG, rC, rR, by omega, rB, rO⟩
theorem p_melt_ok : PK_p_melt RALL := by
  intro n A K σ τ T F U G P M H Y x1 x2 hn hR hW hU
  obtain ⟨rT, rG, rC, rR, rD, rB, rO⟩ := hR
  obtain ⟨a, b, c⟩ := q_melt (A := A) (K := K) (τ := τ) (T := T) (F := F) (U := U) (G := G) (P := P) (M := M) (x1 := x1) (x2 := x2) rG rC rR (by omega)
  exact ⟨a, b, c rT, rG, rC, rR, by omega, rB, rO⟩
theorem made_go {M : MO} {H : SH} {Y : SX} {x1 x2 : Int32} : sx_ma (s_Model_go M H Y x1 x2).2.2 = sx_ma Y := by
  unfold s_Model_go
  split
  · rfl
  · split
    · exact moved_ca.2
    · exact moved_ca.2
theorem made_probe {M : MO} {H : SH} {Y : SX} {x1 x2 : Int32} : sx_ma (s_Model_probe M H Y x1 x2).2.2 = sx_ma Y := by
  unfold s_Model_probe
  split
  · rfl
  · split
    · rfl
    · split
      · exact probed_ca.2
      · exact probed_ca.2
theorem made_fill {M : MO} {H : SH} {Y : SX} {x1 x2 : Int32} : sx_ma (s_Model_fill_0 M H Y x1 x2).2.2 = sx_ma Y := by
  unfold s_Model_fill_0
  split
  · rfl
  · split
    · rfl
    · split
      · exact filled_ca.2
      · exact filled_ca.2
theorem made_stock {M : MO} {H : SH} {Y : SX} {x1 x2 : Int32} : sx_ma (s_Model_stock M H Y x1 x2).2.2 = sx_ma Y := by
  unfold s_Model_stock
  split
  · rfl
  · split <;> rfl
theorem made_setWarm {M : MO} {H : SH} {Y : SX} {x1 x2 : Int32} : sx_ma (s_Model_setWarm M H Y x1 x2).2.2 = sx_ma Y := by
  unfold s_Model_setWarm
  split
  · rfl
  · split <;> rfl
theorem p_go_ok : PK_p_go RALL := by
  intro n A K σ τ T F U G P M H Y x1 x2 hn hR hW hU
  obtain ⟨rT, rG, rC, rR, rD, rB, rO⟩ := hR
  obtain ⟨a, b, c, d, e, f⟩ := q_go (A := A) (K := K) (τ := τ) (T := T) (F := F) (U := U) (G := G) (P := P) (M := M) (x1 := x1) (x2 := x2) rG rC rR
  exact ⟨a, b, f rT, c, rC, d, by rw [e]; omega, fun j hj => by rw [made_go, e]; exact rB j hj, rO⟩
theorem p_probe_ok : PK_p_probe RALL := by
  intro n A K σ τ T F U G P M H Y x1 x2 hn hR hW hU
  obtain ⟨rT, rG, rC, rR, rD, rB, rO⟩ := hR
  obtain ⟨a, b, c, d, e, f⟩ := q_probe (A := A) (K := K) (τ := τ) (T := T) (F := F) (U := U) (G := G) (P := P) (M := M) (x1 := x1) (x2 := x2) rG rC rR
  exact ⟨a, b, f rT, c, rC, d, by rw [e]; omega, fun j hj => by rw [made_probe, e]; exact rB j hj, rO⟩
theorem p_fill_ok : PK_p_fill RALL := by
  intro n A K σ τ T F U G P M H Y x1 x2 hn hR hW hU
  obtain ⟨rT, rG, rC, rR, rD, rB, rO⟩ := hR
  obtain ⟨a, b, c, d, e, f⟩ := q_fill (A := A) (K := K) (τ := τ) (T := T) (F := F) (U := U) (G := G) (P := P) (M := M) (x1 := x1) (x2 := x2) rG rC rR
  exact ⟨a, b, f rT, c, rC, d, by rw [e]; omega, fun j hj => by rw [made_fill, e]; exact rB j hj, rO⟩
theorem p_stock_ok : PK_p_stock RALL := by
  intro n A K σ τ T F U G P M H Y x1 x2 hn hR hW hU
  obtain ⟨rT, rG, rC, rR, rD, rB, rO⟩ := hR
  obtain ⟨a, b, c, d, e, f⟩ := q_stock (A := A) (K := K) (τ := τ) (T := T) (F := F) (U := U) (G := G) (P := P) (M := M) (x1 := x1) (x2 := x2) rG rC rR
  exact ⟨a, b, f rT, c, rC, d, by rw [e]; omega, fun j hj => by rw [made_stock, e]; exact rB j hj, rO⟩
theorem p_setWarm_ok : PK_p_setWarm RALL := by
  intro n A K σ τ T F U G P M H Y x1 x2 hn hR hW hU
  obtain ⟨rT, rG, rC, rR, rD, rB, rO⟩ := hR
  obtain ⟨a, b, c, d, e, f⟩ := q_setWarm (A := A) (K := K) (τ := τ) (T := T) (F := F) (U := U) (G := G) (P := P) (M := M) (x1 := x1) (x2 := x2) rG rR
  exact ⟨a, b, f rT, c, rC, d, by rw [e]; omega, fun j hj => by rw [made_setWarm, e]; exact rB j hj, rO⟩
theorem p_pass_ok : PK_p_pass RALL := by
  intro n A K σ τ T F U G P M H Y Ah ow x1 hn hR hW hU
  obtain ⟨rT, rG, rC, rR, rD, rB, rO⟩ := hR
  obtain ⟨p, a1, a2, a3, a4, a5, a6, a7, a8, a9⟩ := q_pass (A := A) (K := K) (σ := σ) (τ := τ) (U := U) (G := G) (P := P) (M := M) (Ah := Ah) (ow := ow) (x1 := x1) rG rC rR (by omega) rO
  exact ⟨p, a1, a2, a3, a9 rT, a4, rC, a5, by omega, a7 rB, rO.fk a8⟩
theorem p_foresee_ok : PK_p_foresee RALL := by
  intro n A K σ τ T F U G P M H Y Ah ow x1 x2 hn hR hW hU
  obtain ⟨rT, rG, rC, rR, rD, rB, rO⟩ := hR
  obtain ⟨p, a1, a2, a3, a4, a5, a6⟩ := q_foresee (A := A) (K := K) (σ := σ) (τ := τ) (U := U) (G := G) (P := P) (M := M) (Ah := Ah) (ow := ow) (x1 := x1) (x2 := x2) rG rC rR (by omega) rO hW
  exact ⟨p, a1, a2, a3, ⟨a5 rT, rG, rC, rR, by omega, rB, rO.fk a4⟩, a6⟩
theorem p_until_ok : PK_p_until RALL := by
  intro n A K σ τ T F U G P M H Y Ah ow x1 hn hR hW hU
  obtain ⟨rT, rG, rC, rR, rD, rB, rO⟩ := hR
  obtain ⟨p, a1, a2, a3, a4, a5, a6⟩ := q_until (A := A) (K := K) (σ := σ) (τ := τ) (U := U) (G := G) (P := P) (M := M) (Ah := Ah) (ow := ow) (x1 := x1) rG rC rR (by omega) rO hW
  exact ⟨p, a1, a2, a3, ⟨a5 rT, rG, rC, rR, by omega, rB, rO.fk a4⟩, a6⟩
theorem p_advise_ok : PK_p_advise RALL := by
  intro n A K σ τ T F U G P M H Y Ah ow x1 x2 hn hR hW hU
  obtain ⟨rT, rG, rC, rR, rD, rB, rO⟩ := hR
  obtain ⟨p, a1, a2, a3, a4, a5, a6⟩ := q_advise (A := A) (K := K) (σ := σ) (τ := τ) (U := U) (G := G) (P := P) (M := M) (Ah := Ah) (ow := ow) (x1 := x1) (x2 := x2) rG rC rR (by omega) rO (fun j hj => by
    obtain ⟨k, k1, k2⟩ := rB j hj
    exact ⟨k, k1, by omega⟩) hW
  exact ⟨p, a1, a2, a3, ⟨a5 rT, rG, rC, rR, by omega, rB, rO.fk a4⟩, a6⟩
theorem p_errorAt_ok : PK_p_errorAt RALL := by
  intro n A K σ τ T F U G P M H Y hn hR
  obtain ⟨rT, rG, rC, rR, rD, rB, rO⟩ := hR
  obtain ⟨a, b⟩ := q_errorAt (K := K) (σ := σ) (τ := τ) (T := T) (F := F) (U := U) (G := G) (H := H) (Y := Y) rT
  exact ⟨a, b, rG, rC, rR, by omega, rB, rO⟩
theorem p_none_ok : PK_p_none RALL := by
  intro n A σ T F P M H Y hn hR
  obtain ⟨rT, rG, rC, rR, rD, rB, rO⟩ := hR
  exact ⟨rT, rG, rC, rR, by omega, rB, rO⟩
theorem r_zero : RALL 0 new_ta new_gl new_tm new_fm (-1) mo0 sh0 sx0 := by
  obtain ⟨g1, g2, g3, g4⟩ := beg_f (τ := new_glz) (x := 0)
  have z0 : ∀ k, sh_ha sh0 k = 0 := fun _ => rfl
  refine ⟨⟨rfl, by show (0 : Nat) ≤ 2000; omega, rfl, fun i hi => absurd hi (by show ¬ i < 0; omega)⟩, ⟨⟨g1 0 (by omega), g1 1 (by omega), g1 2 (by omega), g1 3 (by omega), g1 4 (by omega)⟩, fun r hr => absurd hr (by rw [z0]; omega), fun r hr => absurd hr (by rw [z0]; omega), fun r hr => absurd hr (by rw [z0]; omega), fun r hr => absurd hr (by rw [z0]; omega), fun r hr => absurd hr (by rw [z0]; omega), ⟨fun i hi => g2 i hi, g3, g4, rfl, rfl⟩⟩, ?_, ⟨⟨fun r hr => absurd hr (by rw [z0]; omega), fun i hi => ⟨10, rfl, by omega, by omega⟩⟩, fun r hr => absurd hr (by rw [z0]; omega), fun r hr => absurd hr (by rw [z0]; omega), fun r hr => absurd hr (by rw [z0]; omega), fun r hr => absurd hr (by rw [z0]; omega)⟩, ⟨by show (0 : Nat) ≤ 60 * 0; omega, by omega⟩, fun j hj => absurd hj (by rw [z0]; omega), rfl, fun i hi => absurd hi (by show ¬ i < 0; omega)⟩
  unfold RC
  rw [z0, z0, z0, z0, z0, show sh_or sh0 = 0 from rfl]
  omega
theorem p_bnd_ok : PK_bnd RALL := by
  intro n A σ T F P M H Y hR
  obtain ⟨rT, rG, rC, rR, rD, rB, rO⟩ := hR
  have hw := rC.wf rG
  have h1 := rT.1
  have h2 := rT.2.1
  have h3 := rO.1
  obtain ⟨c0, c3, c6, c9, c11, c20⟩ := rC
  exact ⟨by omega, by omega, hw, h2, c0, c3, c6, c9, c11, c20, by omega⟩
theorem pure_all : PureAll :=
  ⟨RALL, ⟨p_bnd_ok, p_feed_ok, p_trim_ok, p_trimN_ok, p_count_ok, p_band_ok, p_stake_ok, p_crevasse_ok, p_depot_ok, p_team_ok, p_go_ok, p_probe_ok, p_fill_ok, p_stock_ok, p_setWarm_ok, p_pass_ok, p_melt_ok, p_until_ok, p_foresee_ok, p_safe_ok, p_advise_ok, p_teach_ok, p_errorAt_ok, p_mean_ok, p_digest_ok, p_none_ok⟩, r_zero⟩
theorem i_vc : Claimed_1_1 ∧ Claimed_1_2 := i_vc_of pure_all
