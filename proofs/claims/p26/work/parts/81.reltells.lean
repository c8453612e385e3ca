/-! what the camp tells, by the law's own glacier -/
theorem in_what {c b : Nat} {vb : Int32} (eb : vb = nI b) (h : c < b) (hb : b < 2 ^ 31) : s_Camp_needWhat (nI c) vb = 0 := by
  subst eb
  unfold s_Camp_needWhat
  rw [if_neg (nI_pos (by omega)), if_pos ((nI_ltI (by omega) hb).mpr h)]
theorem in_row {T : TM} {r n : Nat} (e : T.2 = n) (h : r < n) (hn : n < 2 ^ 31) : s_Camp_needRow T (nI r) = 0 := by
  unfold s_Camp_needRow
  rw [show (if 0 ≤ nI r ∧ nI r < nI T.2 then (1 : Int32) else 0) = 1 from if_pos ⟨nI_pos' (by omega), by rw [e]; exact (nI_ltI (by omega) hn).mpr h⟩]
  rfl
section Tl
variable {A : AD} {σ τ : GL} {Y : SM} {N : Nat} {T U : TM} {F G : FM} {Ta : TA} {K : TK} {P : CP}
theorem team_tell (hP : PM A σ Y) (hA : AOk A) {r c : Nat} (hr : r < cn A 4) (hc : c < 8) : s_Camp_team Ta K σ τ T F U G P (nI r) (nI c) = (0, sm_v Y 4 r c) := by
  have h8 := hA.2.2 4 (by decide)
  unfold s_Camp_team
  rw [if_pos (in_row (hP.1 4 (by decide)) hr (by omega)), if_pos (in_what (vb := 8) (b := 8) rfl hc (by decide)), nI_clamp (by omega), hP.get hA (k := 4) (by decide) hr hc (fun w => absurd w.1 (by decide))]
theorem stake_tell (hP : PM A σ Y) (hA : AOk A) {r c : Nat} (hr : r < cn A 1) (hc : c < 6) : s_Camp_stake Ta K σ τ T F U G P (nI r) (nI c) = (0, sm_v Y 1 r c) := by
  have h8 := hA.2.2 1 (by decide)
  unfold s_Camp_stake
  rw [if_pos (in_row (hP.1 1 (by decide)) hr (by omega)), if_pos (in_what (vb := 6) (b := 6) rfl hc (by decide)), nI_clamp (by omega), hP.get hA (k := 1) (by decide) hr hc (fun w => absurd w.1 (by decide))]
theorem depot_tell (hP : PM A σ Y) (hA : AOk A) {r c : Nat} (hr : r < cn A 3) (hc : c < 2) : s_Camp_depot Ta K σ τ T F U G P (nI r) (nI c) = (0, sm_v Y 3 r c) := by
  have h8 := hA.2.2 3 (by decide)
  unfold s_Camp_depot
  rw [if_pos (in_row (hP.1 3 (by decide)) hr (by omega)), if_pos (in_what (vb := 2) (b := 2) rfl hc (by decide)), nI_clamp (by omega), hP.get hA (k := 3) (by decide) hr hc (fun w => absurd w.1 (by decide))]
theorem crev_tell (hP : PM A σ Y) (hA : AOk A) {r c : Nat} (hr : r < cn A 2) (hc : c < 6) : s_Camp_crevasse Ta K σ τ T F U G P (nI r) (nI c) = (0, if c = 2 then s_Sim_isKnown Y r else sm_v Y 2 r c) := by
  have h8 := hA.2.2 2 (by decide)
  unfold s_Camp_crevasse
  rw [if_pos (in_row (hP.1 2 (by decide)) hr (by omega)), if_pos (in_what (vb := 6) (b := 6) rfl hc (by decide)), nI_clamp (by omega)]
  by_cases e : c = 2
  · rw [if_pos e, e, known_v hP hA hr]
  · rw [if_neg e]
    unfold s_Glacier_crevasseFact
    rw [if_neg (show ¬ nI c = 2 from fun w => e (nI_eqn (a := c) (c := 2) (by omega) (by decide) w)), hP.get hA (k := 2) (by decide) hr hc (fun w => e w.2)]
theorem band_tell (hP : PM A σ Y) (hA : AOk A) {r c : Nat} (hr : r < cn A 0) (hc : c < 3) : s_Camp_band Ta K σ τ T F U G P (nI r) (nI c) = (0, sm_v Y 0 r c) := by
  have h8 := hA.2.2 0 (by decide)
  unfold s_Camp_band s_Glacier_bandFact
  rw [if_pos (in_row (hP.1 0 (by decide)) hr (by omega)), if_pos (in_what (c := c) (vb := 6) (b := 6) rfl (by omega) (by decide)), nI_clamp (by omega), if_neg (show ¬ nI c = 3 from fun w => by have := nI_eqn (a := c) (c := 3) (by omega) (by decide) w; omega), if_neg (show ¬ nI c = 4 from fun w => by have := nI_eqn (a := c) (c := 4) (by omega) (by decide) w; omega), if_neg (show ¬ nI c = 5 from fun w => by have := nI_eqn (a := c) (c := 5) (by omega) (by decide) w; omega), hP.get hA (k := 0) (by decide) hr hc (fun w => absurd w.1 (by decide))]
/-- so many rows with two columns as told -/
def cnt (f g : Nat → Int32) (x y : Int32) : Nat → Int32
  | 0 => 0
  | n + 1 => if f n = x ∧ g n = y then cnt f g x y n + 1 else cnt f g x y n
theorem tmat_cntF {T : TM} {c1 c2 : Nat} {v1 v2 : Int32} {f g : Nat → Int32} : ∀ (k i : Nat), (∀ r, r < i + k → T.1 (8 * r + c1) = f r ∧ T.1 (8 * r + c2) = g r) → tmatF T c1 v1 c2 v2 k i (cnt f g v1 v2 i) = cnt f g v1 v2 (i + k)
  | 0, _, _ => rfl
  | k + 1, i, h => by
    unfold tmatF
    obtain ⟨e1, e2⟩ := h i (by omega)
    rw [e1, e2]
    have := tmat_cntF (T := T) (c1 := c1) (c2 := c2) (v1 := v1) (v2 := v2) (f := f) (g := g) k (i + 1) (fun r hr => h r (by omega))
    rw [show i + (k + 1) = i + 1 + k by omega]
    exact this
theorem PM.mat (hP : PM A σ Y) {k c1 c2 : Nat} {v1 v2 : Int32} (hk : k < 5) (h1 : c1 < wdt k) (h2 : c2 < wdt k) (n1 : ¬ (k = 2 ∧ c1 = 2)) (n2 : ¬ (k = 2 ∧ c2 = 2)) : gMat σ k c1 v1 c2 v2 = cnt (fun r => sm_v Y k r c1) (fun r => sm_v Y k r c2) v1 v2 (cn A k) := by
  unfold gMat
  rw [hP.1 k hk]
  have := tmat_cntF (T := σ.1 k) (c1 := c1) (c2 := c2) (v1 := v1) (v2 := v2) (f := fun r => sm_v Y k r c1) (g := fun r => sm_v Y k r c2) (cn A k) 0 (fun r hr => ⟨hP.2.1 k r c1 hk (by omega) h1 n1, hP.2.1 k r c2 hk (by omega) h2 n2⟩)
  rw [Nat.zero_add] at this
  exact this
theorem band_tell3 (hP : PM A σ Y) (hA : AOk A) {r : Nat} (hr : r < cn A 0) : s_Camp_band Ta K σ τ T F U G P (nI r) 3 = (0, cnt (fun t => sm_v Y 4 t 2) (fun t => sm_v Y 4 t 4) (nI r) 1 (cn A 4)) ∧ s_Camp_band Ta K σ τ T F U G P (nI r) 4 = (0, cnt (fun s => sm_v Y 1 s 0) (fun s => sm_v Y 1 s 3) (nI r) 1 (cn A 1)) ∧ s_Camp_band Ta K σ τ T F U G P (nI r) 5 = (0, cnt (fun c => sm_v Y 2 c 0) (fun c => sm_v Y 2 c 0) (nI r) (nI r) (cn A 2)) := by
  have h8 := hA.2.2 0 (by decide)
  have hrow := in_row (T := σ.1 0) (hP.1 0 (by decide)) hr (by omega)
  have m1 := hP.mat (k := 4) (c1 := 2) (c2 := 4) (v1 := nI r) (v2 := 1) (by decide) (by decide) (by decide) (by decide) (by decide)
  have m2 := hP.mat (k := 1) (c1 := 0) (c2 := 3) (v1 := nI r) (v2 := 1) (by decide) (by decide) (by decide) (by decide) (by decide)
  have m3 := hP.mat (k := 2) (c1 := 0) (c2 := 0) (v1 := nI r) (v2 := nI r) (by decide) (by decide) (by decide) (by decide) (by decide)
  unfold s_Camp_band
  refine ⟨?_, ?_, ?_⟩
  · rw [if_pos hrow, if_pos (show s_Camp_needWhat 3 6 = 0 by decide), ← m1]
    rfl
  · rw [if_pos hrow, if_pos (show s_Camp_needWhat 4 6 = 0 by decide), ← m2]
    rfl
  · rw [if_pos hrow, if_pos (show s_Camp_needWhat 5 6 = 0 by decide), ← m3]
    rfl
/-- the law's counts, as the camp tells them -/
def tells (A : AD) (Y : SM) (sz : Nat) : Nat → Int32
  | 0 => nI (sm_dy Y)
  | 1 => nI (cn A 0)
  | 2 => nI (cn A 1)
  | 3 => nI (cn A 2)
  | 4 => nI (cn A 3)
  | 5 => nI (cn A 4)
  | 6 => nI (cn A 5)
  | 7 => sumN (fun r => sm_v Y 3 r 1) (cn A 3)
  | 8 => sumN (fun r => sm_v Y 0 r 2) (cn A 0)
  | 9 => sm_rd Y
  | 10 => sm_fl Y
  | 11 => sm_ca Y
  | 12 => nI (cn A 4) - sumN (fun r => sm_v Y 4 r 4) (cn A 4)
  | 13 => sm_wa Y (sm_dy Y % 8)
  | _ => nI sz
theorem count_tell (hP : PM A σ Y) (ho : OR A Y T F) (hc : CT A Y) {c : Nat} (h : c < 15) : s_Camp_count Ta K σ τ T F U G P (nI c) = (0, tells A Y (ta_sz Ta) c) := by
  have s7 := hP.sum (k := 3) (c := 1) (by decide) (by decide) (by decide)
  have s8 := hP.sum (k := 0) (c := 2) (by decide) (by decide) (by decide)
  have s9 := hP.sum (k := 4) (c := 5) (by decide) (by decide) (by decide)
  have s10 := hP.sum (k := 4) (c := 6) (by decide) (by decide) (by decide)
  have s12 := hP.sum (k := 4) (c := 4) (by decide) (by decide) (by decide)
  have s13 := today_eq hP
  unfold s_Camp_count s_Camp_counted
  rw [if_pos (in_what (vb := 15) (b := 15) rfl h (by decide))]
  congr 1
  rw [hP.1 0 (by decide), hP.1 1 (by decide), hP.1 2 (by decide), hP.1 3 (by decide), hP.1 4 (by decide)]
  unfold s_Glacier_total s_Glacier_day s_Orders_size
  rw [s7, s8, s9, s10, s12, s13, hP.2.2.2.1, ho.1, hP.1 4 (by decide), hP.2.2.2.2.2.2, ← hc.1, ← hc.2.2]
  match c, h with
  | 0, _ => rfl
  | 1, _ => rfl
  | 2, _ => rfl
  | 3, _ => rfl
  | 4, _ => rfl
  | 5, _ => rfl
  | 6, _ => rfl
  | 7, _ => rfl
  | 8, _ => rfl
  | 9, _ => rfl
  | 10, _ => rfl
  | 11, _ => rfl
  | 12, _ => rfl
  | 13, _ => rfl
  | 14, _ => rfl
  | _ + 15, w => exact absurd w (by omega)
theorem safe_tell (hP : PM A σ Y) (hA : AOk A) (h : RI A Y N) {t : Nat} (ht : t < cn A 4) {x : Int32} : s_Camp_safe Ta K σ τ T F U G P (nI t) x = (0, if s_Sim_can A Y t x = 0 then 0 else if 0 ≤ fallN (fallF Y t (wayF Y (lowF Y t x) x (cn A 2) 0 [])) then 0 else 1) := by
  have h8 := hA.2.2 4 (by decide)
  unfold s_Camp_safe
  rw [if_pos (in_row (hP.1 4 (by decide)) ht (by omega)), canGo_eq hP hA ht (h.tok ht), fall_eq hP hA ht]
  by_cases c1 : s_Sim_can A Y t x = 0
  · rw [if_pos c1, if_pos c1]
  · rw [if_neg c1, if_neg c1]
    by_cases c2 : 0 ≤ fallN (fallF Y t (wayF Y (lowF Y t x) x (cn A 2) 0 []))
    · rw [if_pos c2, if_pos c2]
    · rw [if_neg c2, if_neg c2]
end Tl
