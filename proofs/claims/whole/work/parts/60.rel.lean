/-! the pure part: what ties the camp's state to the reference's -/
def sumR (f : Nat → Int32) : Nat → Int32
  | 0 => 0
  | k + 1 => sumR f k + f k
/-- the glacier's tables against the reference's arrays -/
def RG (σ : GL) (H : SH) (Y : SX) : Prop :=
  (gN σ 0 = sh_ha H 0 ∧ gN σ 1 = sh_ha H 3 ∧ gN σ 2 = sh_ha H 6 ∧ gN σ 3 = sh_ha H 9 ∧ gN σ 4 = sh_ha H 11) ∧
  (∀ r, r < sh_ha H 0 → (σ.1 0).1 (8 * r + 0) = sh_hg H r ∧ (σ.1 0).1 (8 * r + 1) = sx_sn Y r ∧ (σ.1 0).1 (8 * r + 2) = sx_ic Y r) ∧
  (∀ r, r < sh_ha H 3 → (σ.1 1).1 (8 * r + 0) = sh_si H r ∧ (σ.1 1).1 (8 * r + 1) = sh_dp H r ∧ (σ.1 1).1 (8 * r + 2) = sx_ou Y r ∧ (σ.1 1).1 (8 * r + 3) = sx_sd Y r ∧ (σ.1 1).1 (8 * r + 4) = sx_la Y r ∧ (σ.1 1).1 (8 * r + 5) = sx_re Y r) ∧
  (∀ r, r < sh_ha H 6 → (σ.1 2).1 (8 * r + 0) = sh_ab H r ∧ (σ.1 2).1 (8 * r + 1) = sx_br Y r ∧ (σ.1 2).1 (8 * r + 2) = sx_kn Y r ∧ (σ.1 2).1 (8 * r + 3) = sx_pr Y r ∧ (σ.1 2).1 (8 * r + 4) = sx_cr Y r ∧ (σ.1 2).1 (8 * r + 5) = sx_fe Y r) ∧
  (∀ r, r < sh_ha H 9 → (σ.1 3).1 (8 * r + 0) = sh_di H r ∧ (σ.1 3).1 (8 * r + 1) = sx_fo Y r) ∧
  (∀ r, r < sh_ha H 11 → (σ.1 4).1 (8 * r + 0) = sh_sz H r ∧ (σ.1 4).1 (8 * r + 1) = sx_sk Y r ∧ (σ.1 4).1 (8 * r + 2) = sx_pl Y r ∧ (σ.1 4).1 (8 * r + 3) = sx_hu Y r ∧ (σ.1 4).1 (8 * r + 4) = sx_he Y r ∧ (σ.1 4).1 (8 * r + 5) = sx_ma Y r ∧ (σ.1 4).1 (8 * r + 6) = sx_fn Y r ∧ (σ.1 4).1 (8 * r + 7) = sx_do Y r) ∧
  ((∀ i, i < 8 → gW σ i = sx_wa Y i) ∧ gD σ = nI (sx_dy Y) ∧ gC σ = sx_ca Y ∧ sx_rd Y = sumR (sx_ma Y) (sh_ha H 11) ∧ sx_fa Y = sumR (sx_fn Y) (sh_ha H 11))
/-- the reference's counts -/
def RC (H : SH) : Prop := sh_ha H 0 ≤ 5 ∧ sh_ha H 3 ≤ 6 ∧ sh_ha H 6 ≤ 4 ∧ sh_ha H 9 ≤ 4 ∧ sh_ha H 11 ≤ 4 ∧ sh_or H ≤ 20
/-- between: as whole numbers -/
def btw (a : Nat) (x : Int32) (b : Nat) : Prop := ∃ k : Nat, x = nI k ∧ a ≤ k ∧ k ≤ b
/-- a stake: how deep it was drilled; while it stands, it stands out less -/
def SK (dp ou sd : Int32) : Prop := ∃ d : Nat, dp = nI d ∧ 1 ≤ d ∧ d ≤ 200 ∧ (sd = 1 → ∃ k : Nat, ou = nI k ∧ k < d)
/-- what the reference's sheet and state keep: places within their rows, amounts within their bounds -/
def RR (H : SH) (Y : SX) : Prop :=
  ((∀ r, r < sh_ha H 0 → btw 0 (sx_sn Y r) 300 ∧ btw 0 (sh_hg H r) 20) ∧ ∀ i, i < 8 → btw 0 (sx_wa Y i) 30) ∧
  (∀ r, r < sh_ha H 3 → (∃ b, b < sh_ha H 0 ∧ sh_si H r = nI b) ∧ btw 0 (sx_sd Y r) 1 ∧ SK (sh_dp H r) (sx_ou Y r) (sx_sd Y r)) ∧
  (∀ r, r < sh_ha H 6 → (∃ b, b < sh_ha H 0 ∧ sh_ab H r = nI b) ∧ btw 0 (sx_br Y r) 99 ∧ btw 0 (sx_kn Y r) 3) ∧
  (∀ r, r < sh_ha H 9 → (∃ b, b < sh_ha H 0 ∧ sh_di H r = nI b) ∧ btw 0 (sx_fo Y r) 999) ∧
  (∀ r, r < sh_ha H 11 → (∃ b, b < sh_ha H 0 ∧ sx_pl Y r = nI b) ∧ btw 2 (sh_sz H r) 6 ∧ btw 0 (sx_sk Y r) 40 ∧ btw 0 (sx_he Y r) 1 ∧ btw 0 (sx_do Y r) 1 ∧ btw 0 (sx_hu Y r) 3 ∧ (sx_he Y r = 1 → btw 0 (sx_hu Y r) 2))
/-- the tape -/
def RT (A : TA) (P : CP) (M : MO) : Prop := ta_sz A = mo_sz M ∧ mo_sz M ≤ 2000 ∧ P = mo_ea M ∧ ∀ i, i < mo_sz M → btw 0 (mo_ta M i) 255 ∧ ta_by A i = (mo_ta M i).toInt8.toInt32
theorem RG.n0 {σ : GL} {H : SH} {Y : SX} (h : RG σ H Y) : gN σ 0 = sh_ha H 0 := h.1.1
theorem RG.n1 {σ : GL} {H : SH} {Y : SX} (h : RG σ H Y) : gN σ 1 = sh_ha H 3 := h.1.2.1
theorem RG.n2 {σ : GL} {H : SH} {Y : SX} (h : RG σ H Y) : gN σ 2 = sh_ha H 6 := h.1.2.2.1
theorem RG.n3 {σ : GL} {H : SH} {Y : SX} (h : RG σ H Y) : gN σ 3 = sh_ha H 9 := h.1.2.2.2.1
theorem RG.n4 {σ : GL} {H : SH} {Y : SX} (h : RG σ H Y) : gN σ 4 = sh_ha H 11 := h.1.2.2.2.2
abbrev RG.bands {σ : GL} {H : SH} {Y : SX} (h : RG σ H Y) {r : Nat} (hr : r < sh_ha H 0) := h.2.1 r hr
abbrev RG.stakes {σ : GL} {H : SH} {Y : SX} (h : RG σ H Y) {r : Nat} (hr : r < sh_ha H 3) := h.2.2.1 r hr
abbrev RG.crev {σ : GL} {H : SH} {Y : SX} (h : RG σ H Y) {r : Nat} (hr : r < sh_ha H 6) := h.2.2.2.1 r hr
abbrev RG.depots {σ : GL} {H : SH} {Y : SX} (h : RG σ H Y) {r : Nat} (hr : r < sh_ha H 9) := h.2.2.2.2.1 r hr
abbrev RG.teams {σ : GL} {H : SH} {Y : SX} (h : RG σ H Y) {r : Nat} (hr : r < sh_ha H 11) := h.2.2.2.2.2.1 r hr
abbrev RG.rest {σ : GL} {H : SH} {Y : SX} (h : RG σ H Y) := h.2.2.2.2.2.2
theorem RC.wf {σ : GL} {H : SH} {Y : SX} (hc : RC H) (h : RG σ H Y) : WFG σ := by
  obtain ⟨c0, c1, c2, c3, c4, -⟩ := hc
  intro k hk
  have n0 := h.n0; have n1 := h.n1; have n2 := h.n2; have n3 := h.n3; have n4 := h.n4
  match k, hk with
  | 0, _ => rw [n0]; exact c0
  | 1, _ => rw [n1]; exact c1
  | 2, _ => rw [n2]; exact c2
  | 3, _ => rw [n3]; exact c3
  | 4, _ => rw [n4]; exact c4
  | _ + 5, w => exact absurd w (by omega)
/-- a number within a row count -/
theorem row_of {x : Int32} {n : Nat} (hn : n ≤ 1000) (h0 : ¬ x < 0) (h1 : x < nI n) : ∃ r, r < n ∧ x = nI r := by
  obtain ⟨j, hj, rfl⟩ := nI_of h0
  exact ⟨j, (nI_ltI hj (by omega)).mp h1, rfl⟩
theorem j_nlt {x y : Int32} : ¬ x < y ↔ y ≤ x := by rw [Int32.lt_iff_toInt_lt, Int32.le_iff_toInt_le]; omega
theorem j_nle {x y : Int32} : ¬ x ≤ y ↔ y < x := by rw [Int32.lt_iff_toInt_lt, Int32.le_iff_toInt_le]; omega
/-- the class's test of a row, the reference's -/
theorem is_row (M : MO) {H : SH} (Y : SX) {k : Nat} (x : Int32) (hn : sh_ha H k ≤ 1000) : s_Model_is M H Y k x = (if 0 ≤ x ∧ x < nI (sh_ha H k) then 1 else 0) := by
  unfold s_Model_is s_Model_isIn
  by_cases h0 : x < 0
  · rw [if_pos h0, if_neg (fun w => j_nlt.mpr w.1 h0)]
  · rw [if_neg h0]
    obtain ⟨j, hj, rfl⟩ := nI_of h0
    by_cases hlt : j < sh_ha H k
    · rw [if_neg, if_pos ⟨nI_pos' hj, (nI_ltI hj (by omega)).mpr hlt⟩]
      rw [nI_pred1 (by omega), nI_ltI (by omega) hj]
      omega
    · rw [if_neg (c := 0 ≤ nI j ∧ nI j < nI (sh_ha H k)) (fun w => hlt ((nI_ltI hj (by omega)).mp w.2)), if_pos]
      by_cases hz : sh_ha H k = 0
      · rw [hz, Int32.lt_iff_toInt_lt, nI_toInt hj, show (nI 0 - 1 : Int32).toInt = -1 from by decide]
        omega
      · rw [nI_pred1 (by omega), nI_ltI (by omega) hj]
        omega
theorem need_row {T : TM} {x : Int32} : s_Camp_needRow T x = (if 0 ≤ x ∧ x < nI T.2 then 0 else 1) := by
  unfold s_Camp_needRow
  by_cases h : 0 ≤ x ∧ x < nI T.2
  · rw [if_pos h, if_pos h]; rfl
  · rw [if_neg h, if_neg h]; rfl
theorem isIn_iff {x a b : Int32} : s_Model_isIn x a b = (if a ≤ x ∧ x ≤ b then 1 else 0) := by
  unfold s_Model_isIn
  by_cases h : x < a
  · rw [if_pos h, if_neg (fun w => j_nlt.mpr w.1 h)]
  · rw [if_neg h]
    by_cases h2 : b < x
    · rw [if_pos h2, if_neg (fun w => j_nlt.mpr w.2 h2)]
    · rw [if_neg h2, if_pos ⟨j_nlt.mp h, j_nlt.mp h2⟩]
theorem what_iff {x b : Int32} : s_Camp_needWhat x b = (if 0 ≤ x ∧ x < b then 0 else 1) := by
  unfold s_Camp_needWhat
  by_cases h : x < 0
  · rw [if_pos h, if_neg (fun w => j_nlt.mpr w.1 h)]
  · rw [if_neg h]
    by_cases h2 : x < b
    · rw [if_pos h2, if_pos ⟨j_nlt.mp h, h2⟩]
    · rw [if_neg h2, if_neg (fun w => h2 w.2)]
theorem range_iff {x a b : Int32} : s_Camp_needRange x a b = (if a ≤ x ∧ x ≤ b then 0 else 2) := by
  unfold s_Camp_needRange
  by_cases h : x < a
  · rw [if_pos h, if_neg (fun w => j_nlt.mpr w.1 h)]
  · rw [if_neg h]
    by_cases h2 : x ≤ b
    · rw [if_pos h2, if_pos ⟨j_nlt.mp h, h2⟩]
    · rw [if_neg h2, if_neg (fun w => h2 w.2)]
theorem tsum_s {T : TM} {c : Nat} {f : Nat → Int32} : ∀ (k i : Nat), (∀ r, r < i + k → T.1 (8 * r + c) = f r) → tsumF T c k i (sumR f i) = sumR f (i + k) := by
  intro k
  induction k with
  | zero => intro i _; rfl
  | succ k ih =>
    intro i h
    show tsumF T c k (i + 1) (sumR f i + T.1 (8 * i + c)) = _
    rw [h i (by omega), show i + (k + 1) = i + 1 + k by omega]
    exact ih (i + 1) (fun r hr => h r (by omega))
theorem gSum_s {σ : GL} {k c n : Nat} {f : Nat → Int32} (hn : gN σ k = n) (h : ∀ r, r < n → (σ.1 k).1 (8 * r + c) = f r) : gSum σ k c = sumR f n := by
  unfold gSum
  rw [hn]
  have := tsum_s (T := σ.1 k) (c := c) (f := f) n 0 (fun r hr => h r (by omega))
  rw [Nat.zero_add] at this
  exact this
