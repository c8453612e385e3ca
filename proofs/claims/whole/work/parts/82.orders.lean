/-! orders: what is done once the test holds -/
def doC (T : TM) (σ : GL) (F : FM) (x1 : Int32) : Int32 × GL × FM := (if (tgI T x1 0) = 0 then ((s_Glacier_tryGo σ (tgI T x1 1) 1).1, (s_Glacier_tryGo σ (tgI T x1 1) 1).2, F) else (if (tgI T x1 0) = 1 then ((s_Glacier_tryGo σ (tgI T x1 1) 0).1, (s_Glacier_tryGo σ (tgI T x1 1) 0).2, F) else (if (tgI T x1 0) = 2 then ((s_Glacier_tryProbe σ (tgI T x1 1) (tgI T x1 2)).1, (s_Glacier_tryProbe σ (tgI T x1 1) (tgI T x1 2)).2, F) else (if (tgI T x1 0) = 3 then (if (s_Glacier_takeFood σ (tgI T x1 1) (s_Formulas_worth σ F (tgI T x1 3) (tgI T x1 4)).1).1 ≤ 0 then (0, (s_Glacier_takeFood σ (tgI T x1 1) (s_Formulas_worth σ F (tgI T x1 3) (tgI T x1 4)).1).2, (s_Formulas_worth σ F (tgI T x1 3) (tgI T x1 4)).2) else (1, (s_Glacier_takeFood σ (tgI T x1 1) (s_Formulas_worth σ F (tgI T x1 3) (tgI T x1 4)).1).2, (s_Formulas_worth σ F (tgI T x1 3) (tgI T x1 4)).2)) else ((s_Glacier_tryDrill σ (tgI T x1 2)).1, (s_Glacier_tryDrill σ (tgI T x1 2)).2, F)))))
def doM (M : MO) (H : SH) (Y : SX) (x2 : Nat) : Option (Int32 × MO × SX) := (if ((sh_ds H) x2) = 15 then (if okI ((sh_on H) x2) 4 = true then (if b01 (s_Model_moved M H Y ((sh_on H) x2).toNatClampNeg 1).1 = true then some ((s_Model_moved M H Y ((sh_on H) x2).toNatClampNeg 1).1, M, (s_Model_moved M H Y ((sh_on H) x2).toNatClampNeg 1).2) else none) else none) else (if ((sh_ds H) x2) = 16 then (if okI ((sh_on H) x2) 4 = true then (if b01 (s_Model_moved M H Y ((sh_on H) x2).toNatClampNeg 0).1 = true then some ((s_Model_moved M H Y ((sh_on H) x2).toNatClampNeg 0).1, M, (s_Model_moved M H Y ((sh_on H) x2).toNatClampNeg 0).2) else none) else none) else (if ((sh_ds H) x2) = 17 then (if x2 < 20 then (if okI ((sh_ot H) x2) 4 = true then (if okI ((sh_on H) x2) 4 = true then (if b01 (s_Model_probed M H Y ((sh_ot H) x2).toNatClampNeg ((sh_on H) x2).toNatClampNeg).1 = true then some ((s_Model_probed M H Y ((sh_ot H) x2).toNatClampNeg ((sh_on H) x2).toNatClampNeg).1, M, (s_Model_probed M H Y ((sh_ot H) x2).toNatClampNeg ((sh_on H) x2).toNatClampNeg).2) else none) else none) else none) else none) else (if ((sh_ds H) x2) = 21 then (if okI ((sh_on H) x2) 6 = true then (if b01 (s_Model_drilled M H Y ((sh_on H) x2).toNatClampNeg).1 = true then some ((s_Model_drilled M H Y ((sh_on H) x2).toNatClampNeg).1, M, (s_Model_drilled M H Y ((sh_on H) x2).toNatClampNeg).2) else none) else none) else (if x2 < 20 then ((ev_ H Y 64 3 (mo_wk' M ((sh_su H) x2))).bind fun p148_20 => (if okI ((sh_on H) x2) 4 = true then (if (s_Model_filled p148_20.2 H Y ((sh_on H) x2).toNatClampNeg p148_20.1).1 ≤ 0 then some (0, p148_20.2, (s_Model_filled p148_20.2 H Y ((sh_on H) x2).toNatClampNeg p148_20.1).2) else some (1, p148_20.2, (s_Model_filled p148_20.2 H Y ((sh_on H) x2).toNatClampNeg p148_20.1).2)) else none)) else none)))))
theorem carry_c (T : TM) (σ : GL) (F : FM) (x1 : Int32) : s_Orders_carryOut T σ F x1 = (if (tgI T x1 6) ≤ (tgI T x1 5) then doC T σ F x1 else (if (s_Formulas_worth σ F (tgI T x1 5) (tgI T x1 6)).1 = 0 then (0, σ, (s_Formulas_worth σ F (tgI T x1 5) (tgI T x1 6)).2) else doC T σ (s_Formulas_worth σ F (tgI T x1 5) (tgI T x1 6)).2 x1)) := rfl
theorem carry_m (M : MO) (H : SH) (Y : SX) (x2 : Nat) (h : x2 < 20) : s_Model_isCarriedOut M H Y x2 = (if ((sh_wh H) x2) = (-1) then doM (mo_wk' M ((sh_wh H) x2)) H Y x2 else ((ev_ H Y 64 0 (mo_wk' M ((sh_wh H) x2))).bind fun p => (if p.1 = 0 then some (0, p.2, Y) else doM p.2 H Y x2))) := by
  unfold s_Model_isCarriedOut doM
  simp only [if_pos h]
theorem move_ca {M : MO} {H : SH} {t : Nat} {x w : Int32} (k i : Nat) (Y : SX) : sx_ca (l_Model_move_42 M H t x w k i Y) = sx_ca Y ∧ sx_ma (l_Model_move_42 M H t x w k i Y) = sx_ma Y := by
  obtain ⟨c, hc, -⟩ := move_cr (M := M) (H := H) (t := t) (x := x) (w := w) k i Y
  rw [hc]
  exact ⟨rfl, rfl⟩
theorem moved_ca {M : MO} {H : SH} {Y : SX} {t : Nat} {x : Int32} : sx_ca (s_Model_moved M H Y t x).2 = sx_ca Y ∧ sx_ma (s_Model_moved M H Y t x).2 = sx_ma Y := by
  unfold s_Model_moved
  split
  · exact ⟨rfl, rfl⟩
  · show sx_ca (s_Model_move M H Y t x) = sx_ca Y ∧ sx_ma (s_Model_move M H Y t x) = sx_ma Y
    unfold s_Model_move
    split
    · split
      · exact move_ca _ _ _
      · exact move_ca _ _ _
    · exact ⟨rfl, rfl⟩
theorem probed_ca {M : MO} {H : SH} {Y : SX} {t j : Nat} : sx_ca (s_Model_probed M H Y t j).2 = sx_ca Y ∧ sx_ma (s_Model_probed M H Y t j).2 = sx_ma Y := by
  unfold s_Model_probed
  split <;> exact ⟨rfl, rfl⟩
theorem drilled_ca {M : MO} {H : SH} {Y : SX} {t : Nat} : sx_ca (s_Model_drilled M H Y t).2 = sx_ca Y ∧ sx_ma (s_Model_drilled M H Y t).2 = sx_ma Y := by
  unfold s_Model_drilled
  split
  · exact ⟨rfl, rfl⟩
  · split <;> exact ⟨rfl, rfl⟩
theorem filled_ca {M : MO} {H : SH} {Y : SX} {t : Nat} {x : Int32} : sx_ca (s_Model_filled M H Y t x).2 = sx_ca Y ∧ sx_ma (s_Model_filled M H Y t x).2 = sx_ma Y := by
  unfold s_Model_filled
  split
  · exact ⟨rfl, rfl⟩
  · split <;> exact ⟨rfl, rfl⟩
/-- a stretch of signs against a sum (3) or a test (0) of the sheet, at its token -/
def FOK (w : Nat) (F : FM) (a b : Nat) (H : SH) (p : Nat) : Prop := a < b ∧ b ≤ 800 ∧ (∀ j, a ≤ j → j < b → ¬ fm_sg F j = none) ∧ ∀ (σ : GL) (Y : SX), RG σ H Y → RR H Y → sx_dy Y < 1000000 → ∃ v e, (∀ M, ev_ H Y 64 w (mo_wk' M (nI p)) = some (v, mo_wk' M e)) ∧ run σ F (b - a) a [] = [v]
theorem FOK.fk {w : Nat} {F F' : FM} {a b : Nat} {H : SH} {p : Nat} (h : FOK w F a b H p) (hk : FK F F') : FOK w F' a b H p :=
  ⟨h.1, h.2.1, fun j h1 h2 => by rw [hk.1]; exact h.2.2.1 j h1 h2, fun σ Y g r d => by
    obtain ⟨v, e, h1, h2⟩ := h.2.2.2 σ Y g r d
    exact ⟨v, e, h1, by rw [run_fk hk]; exact h2⟩⟩
/-- an order: what it does -/
def KO (T : TM) (F : FM) (H : SH) (i : Nat) : Prop :=
  (T.1 (8 * i + 0) = 0 ∧ sh_ds H i = 15 ∧ ∃ t, t < sh_ha H 11 ∧ T.1 (8 * i + 1) = nI t ∧ sh_on H i = nI t) ∨
  (T.1 (8 * i + 0) = 1 ∧ sh_ds H i = 16 ∧ ∃ t, t < sh_ha H 11 ∧ T.1 (8 * i + 1) = nI t ∧ sh_on H i = nI t) ∨
  (T.1 (8 * i + 0) = 2 ∧ sh_ds H i = 17 ∧ ∃ t c, t < sh_ha H 11 ∧ c < sh_ha H 6 ∧ T.1 (8 * i + 1) = nI t ∧ T.1 (8 * i + 2) = nI c ∧ sh_ot H i = nI t ∧ sh_on H i = nI c) ∨
  (T.1 (8 * i + 0) = 3 ∧ sh_ds H i = 19 ∧ ∃ t a b p, t < sh_ha H 11 ∧ T.1 (8 * i + 1) = nI t ∧ sh_on H i = nI t ∧ T.1 (8 * i + 3) = nI a ∧ T.1 (8 * i + 4) = nI b ∧ sh_su H i = nI p ∧ FOK 3 F a b H p) ∨
  (T.1 (8 * i + 0) = 4 ∧ sh_ds H i = 21 ∧ ∃ r, r < sh_ha H 3 ∧ T.1 (8 * i + 2) = nI r ∧ sh_on H i = nI r)
/-- an order: its test -/
def WO (T : TM) (F : FM) (H : SH) (i : Nat) : Prop := (T.1 (8 * i + 5) = 0 ∧ T.1 (8 * i + 6) = 0 ∧ sh_wh H i = -1) ∨ ∃ a b p, T.1 (8 * i + 5) = nI a ∧ T.1 (8 * i + 6) = nI b ∧ sh_wh H i = nI p ∧ p < 401 ∧ FOK 0 F a b H p
def RO (T : TM) (F : FM) (H : SH) : Prop := T.2 = sh_or H ∧ ∀ i, i < sh_or H → KO T F H i ∧ WO T F H i
theorem RO.fk {T : TM} {F F' : FM} {H : SH} (h : RO T F H) (hk : FK F F') : RO T F' H := by
  refine ⟨h.1, fun i hi => ?_⟩
  obtain ⟨k, w⟩ := h.2 i hi
  constructor
  · rcases k with k | k | k | ⟨k1, k2, t, a, b, p, k3, k4, k5, k6, k7, k8, k9⟩ | k
    · exact .inl k
    · exact .inr (.inl k)
    · exact .inr (.inr (.inl k))
    · exact .inr (.inr (.inr (.inl ⟨k1, k2, t, a, b, p, k3, k4, k5, k6, k7, k8, k9.fk hk⟩)))
    · exact .inr (.inr (.inr (.inr k)))
  · rcases w with w | ⟨a, b, p, w1, w2, w3, w4, w5⟩
    · exact .inl w
    · exact .inr ⟨a, b, p, w1, w2, w3, w4, w5.fk hk⟩
theorem ok_nI {t n : Nat} (h : t < n) (hn : n ≤ 1000) : okI (nI t) n = true := by
  unfold okI
  rw [Bool.and_eq_true, Bool.not_eq_true', decide_eq_false_iff_not, decide_eq_true_eq, nI_clamp (by omega)]
  exact ⟨nI_pos (by omega), h⟩
theorem b01_of {x : Int32} (h : x = 0 ∨ x = 1) : b01 x = true := by
  rcases h with rfl | rfl <;> decide
/-- what an order leaves behind -/
def DK (σ' : GL) (F F' : FM) (H : SH) (Y : SX) (Y' : SX) : Prop := RG σ' H Y' ∧ RR H Y' ∧ sx_dy Y' = sx_dy Y ∧ sx_ca Y' = sx_ca Y ∧ sx_ma Y' = sx_ma Y ∧ FK F F'
theorem do_eq {T : TM} {σ : GL} {F : FM} {M : MO} {H : SH} {Y : SX} {i : Nat} (hG : RG σ H Y) (hC : RC H) (hR : RR H Y) (hd : sx_dy Y < 1000000) (hT : T.2 = sh_or H) (hi : i < sh_or H) (hK : KO T F H i) : ∃ p, doM M H Y i = some p ∧ (doC T σ F (nI i)).1 = p.1 ∧ DK (doC T σ F (nI i)).2.1 F (doC T σ F (nI i)).2.2 H Y p.2.2 ∧ ∃ x, p.2.1 = mo_wk' M x := by
  obtain ⟨c0, c3, c6, c9, c11, c20⟩ := hC
  have hC : RC H := ⟨c0, c3, c6, c9, c11, c20⟩
  have at_ : ∀ c, tgI T (nI i) c = T.1 (8 * i + c) := fun c => tgI_at (by omega) (by omega)
  have hi20 : i < 20 := by omega
  unfold doM doC
  simp only [at_, if_pos hi20]
  rcases hK with ⟨k1, k2, t, k3, k4, k5⟩ | ⟨k1, k2, t, k3, k4, k5⟩ | ⟨k1, k2, t, c, k3, k4, k5, k6, k7, k8⟩ | ⟨k1, k2, t, a, b, p, k3, k4, k5, k6, k7, k8, k9⟩ | ⟨k1, k2, r, k3, k4, k5⟩
  · simp only [k1, k2, if_pos (show (0 : Int32) = 0 from rfl), if_pos (show (15 : Int32) = 15 from rfl)]
    rw [k4, k5, if_pos (ok_nI (by omega) (by omega)), nI_clamp (by omega)]
    obtain ⟨e1, e2, e3, e4, e5⟩ := tryGo_eq (M := M) (x := 1) hG hC hR k3
    rw [if_pos (b01_of e5)]
    exact ⟨_, rfl, e1, ⟨e2, e3, e4, moved_ca.1, moved_ca.2, FK.refl F⟩, mo_wk M, rfl⟩
  · simp only [k1, k2, if_neg (show ¬ (1 : Int32) = 0 by decide), if_pos (show (1 : Int32) = 1 from rfl), if_neg (show ¬ (16 : Int32) = 15 by decide), if_pos (show (16 : Int32) = 16 from rfl)]
    rw [k4, k5, if_pos (ok_nI (by omega) (by omega)), nI_clamp (by omega)]
    obtain ⟨e1, e2, e3, e4, e5⟩ := tryGo_eq (M := M) (x := 0) hG hC hR k3
    rw [if_pos (b01_of e5)]
    exact ⟨_, rfl, e1, ⟨e2, e3, e4, moved_ca.1, moved_ca.2, FK.refl F⟩, mo_wk M, rfl⟩
  · simp only [k1, k2, if_neg (show ¬ (2 : Int32) = 0 by decide), if_neg (show ¬ (2 : Int32) = 1 by decide), if_pos (show (2 : Int32) = 2 from rfl), if_neg (show ¬ (17 : Int32) = 15 by decide), if_neg (show ¬ (17 : Int32) = 16 by decide), if_pos (show (17 : Int32) = 17 from rfl)]
    rw [k5, k6, k7, k8, if_pos (ok_nI (by omega) (by omega)), if_pos (ok_nI (by omega) (by omega)), nI_clamp (by omega), nI_clamp (by omega)]
    obtain ⟨e1, e2, e3, e4, e5⟩ := tryProbe_eq (M := M) hG hC hR k3 k4
    rw [if_pos (b01_of e5)]
    exact ⟨_, rfl, e1, ⟨e2, e3, e4, probed_ca.1, probed_ca.2, FK.refl F⟩, mo_wk M, rfl⟩
  · obtain ⟨s1, s2, s3, s4⟩ := k9
    obtain ⟨w1, w2⟩ := worth_eq (σ := σ) (show a < 800 by omega) s2 s3
    obtain ⟨v, e, m1, m2⟩ := s4 σ Y hG hR hd
    rw [m2] at w1
    simp only [k1, k2, if_neg (show ¬ (3 : Int32) = 0 by decide), if_neg (show ¬ (3 : Int32) = 1 by decide), if_neg (show ¬ (3 : Int32) = 2 by decide), if_pos (show (3 : Int32) = 3 from rfl), if_neg (show ¬ (19 : Int32) = 15 by decide), if_neg (show ¬ (19 : Int32) = 16 by decide), if_neg (show ¬ (19 : Int32) = 17 by decide), if_neg (show ¬ (19 : Int32) = 21 by decide)]
    rw [k4, k5, k6, k7, k8, m1 M]
    rw [show (s_Formulas_worth σ F (nI a) (nI b)).1 = v from w1]
    obtain ⟨e1, e2, e3, e4, u, e5, e6, e7⟩ := takeFood_eq (M := mo_wk' M e) (x := v) hG hC hR k3
    show ∃ p, (if okI (nI t) 4 = true then _ else none) = some p ∧ _
    rw [if_pos (ok_nI (by omega) (by omega)), nI_clamp (by omega)]
    rw [show (s_Glacier_takeFood σ (nI t) v).1 = _ from e1]
    by_cases hz : (s_Model_filled (mo_wk' M e) H Y t v).1 ≤ 0
    · rw [if_pos hz, if_pos hz]
      exact ⟨_, rfl, rfl, ⟨e2, e3, e4, filled_ca.1, filled_ca.2, w2⟩, e, rfl⟩
    · rw [if_neg hz, if_neg hz]
      exact ⟨_, rfl, rfl, ⟨e2, e3, e4, filled_ca.1, filled_ca.2, w2⟩, e, rfl⟩
  · simp only [k1, k2, if_neg (show ¬ (4 : Int32) = 0 by decide), if_neg (show ¬ (4 : Int32) = 1 by decide), if_neg (show ¬ (4 : Int32) = 2 by decide), if_neg (show ¬ (4 : Int32) = 3 by decide), if_neg (show ¬ (21 : Int32) = 15 by decide), if_neg (show ¬ (21 : Int32) = 16 by decide), if_neg (show ¬ (21 : Int32) = 17 by decide), if_pos (show (21 : Int32) = 21 from rfl)]
    rw [k4, k5, if_pos (ok_nI (by omega) (by omega)), nI_clamp (by omega)]
    obtain ⟨e1, e2, e3, e4, e5⟩ := tryDrill_eq (M := M) hG hC hR k3
    rw [if_pos (b01_of e5)]
    exact ⟨_, rfl, e1, ⟨e2, e3, e4, drilled_ca.1, drilled_ca.2, FK.refl F⟩, mo_wk M, rfl⟩
theorem carry_eq {T : TM} {σ : GL} {F : FM} {M : MO} {H : SH} {Y : SX} {i : Nat} (hG : RG σ H Y) (hC : RC H) (hR : RR H Y) (hd : sx_dy Y < 1000000) (hO : RO T F H) (hi : i < sh_or H) : ∃ p, s_Model_isCarriedOut M H Y i = some p ∧ (s_Orders_carryOut T σ F (nI i)).1 = p.1 ∧ DK (s_Orders_carryOut T σ F (nI i)).2.1 F (s_Orders_carryOut T σ F (nI i)).2.2 H Y p.2.2 ∧ ∃ x, p.2.1 = mo_wk' M x := by
  have c20 : sh_or H ≤ 20 := hC.2.2.2.2.2
  have hT := hO.1
  obtain ⟨hK, hW⟩ := hO.2 i hi
  rw [carry_c, carry_m _ _ _ _ (by omega), tgI_at (by omega) (by omega), tgI_at (by omega) (by omega)]
  rcases hW with ⟨w1, w2, w3⟩ | ⟨a, b, q, w1, w2, w3, w4, w5⟩
  · rw [w1, w2, if_pos (show (0 : Int32) ≤ 0 by decide), if_pos w3]
    obtain ⟨p, d1, d2, d3, x, d4⟩ := do_eq (M := mo_wk' M (sh_wh H i)) hG hC hR hd hT hi hK
    exact ⟨p, d1, d2, d3, x, by rw [d4]⟩
  · obtain ⟨s1, s2, s3, s4⟩ := w5
    obtain ⟨u1, u2⟩ := worth_eq (σ := σ) (show a < 800 by omega) s2 s3
    obtain ⟨v, e, m1, m2⟩ := s4 σ Y hG hR hd
    rw [m2] at u1
    rw [w1, w2, w3, if_neg (fun w => absurd ((nI_leI (by omega) (by omega)).mp w) (by omega)), if_neg (fun w => nI_pos (n := q) (by omega) (by rw [w]; decide)), m1 M, show (s_Formulas_worth σ F (nI a) (nI b)).1 = v from u1]
    show ∃ p, (if v = 0 then some (0, mo_wk' M e, Y) else doM (mo_wk' M e) H Y i) = some p ∧ _
    by_cases hv : v = 0
    · rw [if_pos hv, if_pos hv]
      exact ⟨_, rfl, rfl, ⟨hG, hR, rfl, rfl, rfl, u2⟩, e, rfl⟩
    · rw [if_neg hv, if_neg hv]
      obtain ⟨p, d1, d2, ⟨d3, d4, d5, d6, d6b, d7⟩, x, d8⟩ := do_eq (M := mo_wk' M e) hG hC hR hd hT hi ((hO.fk u2).2 i hi).1
      exact ⟨p, d1, d2, ⟨d3, d4, d5, d6, d6b, u2.trans d7⟩, x, by rw [d8]⟩
theorem ca_self {Y : SX} {v : Int32} (h : v = sx_ca Y) : sx_ca' Y v = Y := by subst h; rfl
theorem RG.ca {σ : GL} {H : SH} {Y : SX} {v : Int32} (hG : RG σ H Y) : RG (gSC σ v) H (sx_ca' Y v) :=
  ⟨hG.1, hG.2.1, hG.2.2.1, hG.2.2.2.1, hG.2.2.2.2.1, hG.2.2.2.2.2.1, ⟨hG.rest.1, hG.rest.2.1, rfl, hG.rest.2.2.2.1, hG.rest.2.2.2.2⟩⟩
theorem orders_eq {T : TM} {H : SH} (hC : RC H) : ∀ k i (σ : GL) (F : FM) (M : MO) (Y : SX), i + k ≤ sh_or H → RG σ H Y → RR H Y → sx_dy Y < 1000000 → RO T F H → ∃ p, l_Model_orders H k i M Y = some p ∧ RG (l_Glacier_passDay_2 T k i σ F).1 H p.2 ∧ RR H p.2 ∧ sx_dy p.2 = sx_dy Y ∧ sx_ma p.2 = sx_ma Y ∧ FK F (l_Glacier_passDay_2 T k i σ F).2 ∧ ∃ x, p.1 = mo_wk' M x := by
  intro k
  induction k with
  | zero => intro i σ F M Y _ hG hR _ _; exact ⟨(M, Y), rfl, hG, hR, rfl, rfl, FK.refl F, mo_wk M, rfl⟩
  | succ k ih =>
    intro i σ F M Y hi hG hR hd hO
    unfold l_Model_orders l_Glacier_passDay_2
    obtain ⟨p, c1, c2, ⟨c3, c4, c5, c6, c6b, c7⟩, x, c8⟩ := carry_eq (M := M) hG hC hR hd hO (show i < sh_or H by omega)
    rw [c1, c2]
    show ∃ q, (if p.1 = 0 then _ else _) = some q ∧ _
    by_cases hz : p.1 = 0
    · rw [if_pos hz, if_pos hz, if_pos (show sx_dy (sx_ca' p.2.2 (sx_ca Y + 0)) < 1000000 by show sx_dy p.2.2 < _; omega), ca_self (by rw [c6]; exact Int32.add_zero _)]
      obtain ⟨q, d1, d2, d3, d4, d4b, d5, y, d6⟩ := ih (i + 1) _ _ p.2.1 p.2.2 (by omega) c3 c4 (by omega) (hO.fk c7)
      exact ⟨q, d1, d2, d3, d4.trans c5, d4b.trans c6b, c7.trans d5, y, by rw [d6, c8]⟩
    · rw [if_neg hz, if_neg hz, if_pos (show sx_dy (sx_ca' p.2.2 (sx_ca Y + 1)) < 1000000 by show sx_dy p.2.2 < _; omega)]
      have g1 : gC (s_Orders_carryOut T σ F (nI i)).2.1 = sx_ca Y := c3.rest.2.2.1.trans c6
      rw [g1]
      obtain ⟨q, d1, d2, d3, d4, d4b, d5, y, d6⟩ := ih (i + 1) _ _ p.2.1 (sx_ca' p.2.2 (sx_ca Y + 1)) (by omega) (c3.ca (v := sx_ca Y + 1)) c4 (by show sx_dy p.2.2 < _; omega) (hO.fk c7)
      exact ⟨q, d1, d2, d3, d4.trans c5, d4b.trans c6b, c7.trans d5, y, by rw [d6, c8]⟩
/-- what was read in all: so much at most -/
def MB (H : SH) (Y : SX) (B : Nat) : Prop := ∀ j, j < sh_ha H 11 → ∃ k, sx_ma Y j = nI k ∧ k ≤ B
theorem readAll_ma {M : MO} {H : SH} {t : Nat} : ∀ k i (Y : SX), (∀ j, j ≠ t → sx_ma (l_Model_readAll_2 M H t k i Y) j = sx_ma Y j) ∧ ∃ c, c ≤ k ∧ sx_ma (l_Model_readAll_2 M H t k i Y) t = sx_ma Y t + nI c := by
  intro k
  induction k with
  | zero => intro i Y; exact ⟨fun _ _ => rfl, 0, Nat.le_refl _, (Int32.add_zero _).symm⟩
  | succ k ih =>
    intro i Y
    rw [l_Model_readAll_2]
    have skip : (∀ j, j ≠ t → sx_ma (l_Model_readAll_2 M H t k (i + 1) Y) j = sx_ma Y j) ∧ ∃ c, c ≤ k + 1 ∧ sx_ma (l_Model_readAll_2 M H t k (i + 1) Y) t = sx_ma Y t + nI c := by
      obtain ⟨h1, c, h2, h3⟩ := ih (i + 1) Y
      exact ⟨h1, c, by omega, h3⟩
    split
    · split
      · exact skip
      · generalize hz : (sx_rd' (sx_ma' (sx_re' (sx_la' Y (upd (sx_la Y) i ((sx_ou Y) i))) (upd (sx_re Y) i (((sx_re Y) i) + 1))) (upd (sx_ma Y) t (((sx_ma Y) t) + 1))) ((sx_rd Y) + 1)) = Z
        have e : sx_ma Z = upd (sx_ma Y) t (sx_ma Y t + 1) := by rw [← hz]
        obtain ⟨h1, c, h2, h3⟩ := ih (i + 1) Z
        refine ⟨fun j hj => (h1 j hj).trans (by rw [e]; exact upd_ne _ _ hj), c + 1, by omega, ?_⟩
        rw [h3, e, upd_at, Int32.add_assoc, show (1 : Int32) + nI c = nI (c + 1) from by rw [Int32.add_comm]; exact nI_1 c]
    · exact skip
theorem reads_ma {M : MO} {H : SH} (hC : RC H) : ∀ k i (Y : SX), (∀ j, j < i → sx_ma (l_Model_dayRest_148 M H k i Y) j = sx_ma Y j) ∧ ∀ j, ∃ c, c ≤ 6 ∧ sx_ma (l_Model_dayRest_148 M H k i Y) j = sx_ma Y j + nI c := by
  intro k
  induction k with
  | zero => intro i Y; exact ⟨fun _ _ => rfl, fun j => ⟨0, by omega, (Int32.add_zero _).symm⟩⟩
  | succ k ih =>
    intro i Y
    rw [l_Model_dayRest_148]
    have h6 : sh_ha H 3 ≤ 6 := hC.2.1
    obtain ⟨a1, c, a2, a3⟩ := readAll_ma (M := M) (H := H) (t := i) (sh_ha H 3) 0 Y
    split
    · obtain ⟨h1, h2⟩ := ih (i + 1) (s_Model_readAll M H Y i)
      refine ⟨fun j hj => (h1 j (by omega)).trans (a1 j (by omega)), fun j => ?_⟩
      by_cases e : j = i
      · subst e; exact ⟨c, by omega, (h1 j (by omega)).trans a3⟩
      · obtain ⟨c', b1, b2⟩ := h2 j
        exact ⟨c', b1, b2.trans (by rw [show sx_ma (s_Model_readAll M H Y i) j = sx_ma Y j from a1 j e])⟩
    · obtain ⟨h1, h2⟩ := ih (i + 1) Y
      exact ⟨fun j hj => h1 j (by omega), h2⟩
theorem ma196 {M : MO} {H : SH} : ∀ k i (Y : SX), sx_ma (l_Model_dayRest_196 M H k i Y) = sx_ma Y
  | 0, _, _ => rfl
  | k + 1, i, Y => by rw [l_Model_dayRest_196, ma196 k]
theorem ma216 {M : MO} {H : SH} : ∀ k i (Y : SX), sx_ma (l_Model_dayRest_216 M H k i Y) = sx_ma Y
  | 0, _, _ => rfl
  | k + 1, i, Y => by rw [l_Model_dayRest_216, ma216 k]
theorem rest_ma {σ : GL} {H : SH} {Y : SX} {M : MO} {B : Nat} (hG : RG σ H Y) (hC : RC H) (hR : RR H Y) (hd : sx_dy Y < 1000000) (hB : MB H Y B) : MB H (s_Model_dayRest M H Y) (B + 6) := by
  unfold s_Model_dayRest
  obtain ⟨b1, r1, f1⟩ := day_w (T := (fun _ => 0, 0)) (F := new_fm) (M := M) hC (sh_ha H 0) 0 σ Y (by omega) hd hG.rb hR
  obtain ⟨b2, r2, f2⟩ := day_e (T := (fun _ => 0, 0)) (F := new_fm) (M := M) hC (sh_ha H 11) 0 _ _ (by omega) b1 r1
  have e2 := (f1.tr f2).2.2.2.2.2.1
  generalize l_Model_dayRest_110 M H (sh_ha H 11) 0 (l_Model_dayRest_49 M H (sh_ha H 0) 0 Y) = Y2 at e2 ⊢
  intro j hj
  rw [ma216, ma196]
  show ∃ k, sx_ma (l_Model_dayRest_148 M H (sh_ha H 11) 0 Y2) j = nI k ∧ k ≤ B + 6
  obtain ⟨c, h1, h2⟩ := (reads_ma (M := M) hC (sh_ha H 11) 0 Y2).2 j
  obtain ⟨k, k1, k2⟩ := hB j hj
  exact ⟨k + c, by rw [h2, e2, k1, nI_add], by omega⟩
/-- a day -/
theorem day_eq {T : TM} {σ : GL} {F : FM} {M : MO} {H : SH} {Y : SX} (hG : RG σ H Y) (hC : RC H) (hR : RR H Y) (hd : sx_dy Y < 1000000) (hO : RO T F H) : ∃ p, s_Model_dayOn M H Y = some p ∧ RG (s_Glacier_passDay T σ F).1 H p.2 ∧ RR H p.2 ∧ sx_dy p.2 = sx_dy Y + 1 ∧ (∀ B, MB H Y B → MB H p.2 (B + 6)) ∧ FK F (s_Glacier_passDay T σ F).2 ∧ ∃ x, p.1 = mo_wk' M x := by
  unfold s_Model_dayOn s_Glacier_passDay
  obtain ⟨q, d1, d2, d3, d4, d4b, d5, y, d6⟩ := orders_eq hC (sh_or H) 0 σ F M Y (by omega) hG hR hd hO
  rw [hO.1, d1]
  show ∃ p, (if sx_dy q.2 < 1000000 then some (q.1, s_Model_dayRest q.1 H q.2) else none) = some p ∧ _
  rw [if_pos (by omega)]
  obtain ⟨r1, r2, r3⟩ := rest_eq (T := T) (F := (l_Glacier_passDay_2 T (sh_or H) 0 σ F).2) (M := q.1) d2 hC d3 (by omega)
  exact ⟨_, rfl, r1, r2, by rw [r3, d4], fun B hB => rest_ma d2 hC d3 (by omega) (fun j hj => by rw [d4b]; exact hB j hj), d5, y, d6⟩
