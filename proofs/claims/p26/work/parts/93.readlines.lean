/-! the lines of a list, as the class reads them: its tables' rows -/
theorem getD_sn {α : Type} {L : List α} {f d : α} {r : Nat} : (L ++ [f]).getD r d = if r = L.length then f else L.getD r d := by
  rw [List.getD_eq_getElem?_getD, List.getD_eq_getElem?_getD]
  by_cases e : r = L.length
  · rw [if_pos e, e, List.getElem?_append_right (Nat.le_refl _), Nat.sub_self]
    rfl
  · rw [if_neg e, List.getElem?_append]
    by_cases h : r < L.length
    · rw [if_pos h]
    · rw [if_neg h, List.getElem?_eq_none (show [f].length ≤ r - L.length by rw [List.length_singleton]; omega), List.getElem?_eq_none (show L.length ≤ r by omega)]
def RWt (U : TM) (L : List (Nat → Int32)) : Prop := U.2 = L.length ∧ ∀ r, r < L.length → ∀ c, c < 8 → U.1 (8 * r + c) = (L.getD r (fun _ => 0)) c
theorem RWt.add {U : TM} {L : List (Nat → Int32)} (h : RWt U L) {cap : Nat} (hc : L.length < cap) : RWt (taddT cap U) (L ++ [fun _ => 0]) ∧ taddR cap U = nI L.length := by
  unfold taddT taddR
  rw [h.1, if_pos hc, if_pos hc]
  refine ⟨⟨by rw [List.length_append, List.length_singleton], fun r hr c hc => ?_⟩, rfl⟩
  rw [List.length_append, List.length_singleton] at hr
  show zeroF U.1 (L.length * 8) (L.length * 8 + 8) (8 * r + c) = _
  unfold zeroF
  rw [getD_sn]
  by_cases e : r = L.length
  · rw [if_pos (by omega), if_pos e]
  · rw [if_neg (by omega), if_neg e]
    exact h.2 r (by omega) c hc
theorem RWt.set {U : TM} {L : List (Nat → Int32)} {g : Nat → Int32} (h : RWt U (L ++ [g])) (hl : L.length < 1000) {j : Nat} {v : Int32} (hj : j < 8) : RWt (tsI U (nI L.length) j v) (L ++ [upd g j v]) := by
  obtain ⟨h1, h2⟩ := h
  rw [List.length_append, List.length_singleton] at h1 h2
  rw [tsI_at (by omega) (by omega)]
  refine ⟨by rw [List.length_append, List.length_singleton]; exact h1, fun r hr c hc => ?_⟩
  rw [List.length_append, List.length_singleton] at hr
  have := h2 r hr c hc
  rw [getD_sn] at this ⊢
  show upd U.1 (8 * L.length + j) v (8 * r + c) = _
  rw [cellu hj hc]
  by_cases e : r = L.length
  · rw [if_pos e] at this ⊢
    unfold upd
    by_cases e2 : c = j
    · rw [if_pos ⟨e, e2⟩, if_pos e2]
    · rw [if_neg (fun w => e2 w.2), if_neg e2]
      exact this
  · rw [if_neg e] at this ⊢
    rw [if_neg (fun w => e w.1)]
    exact this
theorem RWt.ext {U : TM} {L : List (Nat → Int32)} {g f : Nat → Int32} (h : RWt U (L ++ [g])) (e : ∀ c, c < 8 → g c = f c) : RWt U (L ++ [f]) := by
  refine ⟨by rw [h.1, List.length_append, List.length_append]; rfl, fun r hr c hc => ?_⟩
  have := h.2 r (by rw [List.length_append, List.length_singleton] at hr ⊢; exact hr) c hc
  rw [getD_sn] at this ⊢
  by_cases e2 : r = L.length
  · rw [if_pos e2] at this ⊢
    rw [this]
    exact e c hc
  · rw [if_neg e2] at this ⊢
    exact this
abbrev RW (σ : GL) (k : Nat) (L : List (Nat → Int32)) : Prop := RWt (σ.1 k) L
/-- only table k changes -/
def ON (k : Nat) (σ2 σ : GL) : Prop := (∀ k', k' ≠ k → σ2.1 k' = σ.1 k') ∧ σ2.2 = σ.2
theorem ON.tr {k : Nat} {a b c : GL} (h1 : ON k a b) (h2 : ON k b c) : ON k a c := ⟨fun k' hk => (h1.1 k' hk).trans (h2.1 k' hk), h1.2.trans h2.2⟩
theorem on_gP {σ : GL} {k : Nat} {U : TM} : ON k (gP σ k U) σ := ⟨fun k' hk => if_neg hk, rfl⟩
theorem gP_k {σ : GL} {k : Nat} {U : TM} : (gP σ k U).1 k = U := if_pos rfl
theorem rw_add {σ : GL} {k : Nat} {L : List (Nat → Int32)} (h : RW σ k L) (hc : L.length < capG k) : RW (gP σ k (taddT (capG k) (σ.1 k))) k (L ++ [fun _ => 0]) ∧ taddR (capG k) (σ.1 k) = nI L.length := by
  unfold RW
  rw [gP_k]
  exact h.add hc
theorem rw_set {σ : GL} {k : Nat} {L : List (Nat → Int32)} {g : Nat → Int32} (h : RW σ k (L ++ [g])) (hl : L.length < 1000) {j : Nat} {v : Int32} (hj : j < 8) : RW (gS σ k (nI L.length) j v) k (L ++ [upd g j v]) := by
  unfold RW gS
  rw [gP_k]
  exact h.set hl hj
theorem on_gS {σ : GL} {k : Nat} {r : Int32} {j : Nat} {v : Int32} : ON k (gS σ k r j v) σ := on_gP

theorem add_Band {σ : GL} {L : List (Nat → Int32)} (h : RW σ 0 L) (hl : L.length < 5) (x0 : Int32) (x1 : Int32) : RW (s_Glacier_addBand σ x0 x1) 0 (L ++ [rL [x0, x1, 0]]) ∧ ON 0 (s_Glacier_addBand σ x0 x1) σ := by
  obtain ⟨a1, a2⟩ := rw_add h (show L.length < capG 0 from hl)
  unfold s_Glacier_addBand
  rw [a2]
  refine ⟨RWt.ext (rw_set (rw_set (a1) (by omega) (j := 0) (v := x0) (by decide)) (by omega) (j := 1) (v := x1) (by decide)) (fun c hc => ?_), on_gS.tr (on_gS.tr (on_gP))⟩
  match c, hc with
  | 0, _ => rfl
  | 1, _ => rfl
  | 2, _ => rfl
  | 3, _ => rfl
  | 4, _ => rfl
  | 5, _ => rfl
  | 6, _ => rfl
  | 7, _ => rfl
  | _ + 8, w => exact absurd w (by omega)
theorem add_Stake {σ : GL} {L : List (Nat → Int32)} (h : RW σ 1 L) (hl : L.length < 6) (x0 : Int32) (x1 : Int32) : RW (s_Glacier_addStake σ x0 x1) 1 (L ++ [rL [x0, x1, 0, 1, -1, 0]]) ∧ ON 1 (s_Glacier_addStake σ x0 x1) σ := by
  obtain ⟨a1, a2⟩ := rw_add h (show L.length < capG 1 from hl)
  unfold s_Glacier_addStake
  rw [a2]
  refine ⟨RWt.ext (rw_set (rw_set (rw_set (rw_set (a1) (by omega) (j := 0) (v := x0) (by decide)) (by omega) (j := 1) (v := x1) (by decide)) (by omega) (j := 3) (v := 1) (by decide)) (by omega) (j := 4) (v := (-1)) (by decide)) (fun c hc => ?_), on_gS.tr (on_gS.tr (on_gS.tr (on_gS.tr (on_gP))))⟩
  match c, hc with
  | 0, _ => rfl
  | 1, _ => rfl
  | 2, _ => rfl
  | 3, _ => rfl
  | 4, _ => rfl
  | 5, _ => rfl
  | 6, _ => rfl
  | 7, _ => rfl
  | _ + 8, w => exact absurd w (by omega)
theorem add_Crevasse {σ : GL} {L : List (Nat → Int32)} (h : RW σ 2 L) (hl : L.length < 4) (x0 : Int32) (x1 : Int32) : RW (s_Glacier_addCrevasse σ x0 x1) 2 (L ++ [rL [x0, x1, 0, -1, 0, 0]]) ∧ ON 2 (s_Glacier_addCrevasse σ x0 x1) σ := by
  obtain ⟨a1, a2⟩ := rw_add h (show L.length < capG 2 from hl)
  unfold s_Glacier_addCrevasse
  rw [a2]
  refine ⟨RWt.ext (rw_set (rw_set (rw_set (a1) (by omega) (j := 0) (v := x0) (by decide)) (by omega) (j := 1) (v := x1) (by decide)) (by omega) (j := 3) (v := (-1)) (by decide)) (fun c hc => ?_), on_gS.tr (on_gS.tr (on_gS.tr (on_gP)))⟩
  match c, hc with
  | 0, _ => rfl
  | 1, _ => rfl
  | 2, _ => rfl
  | 3, _ => rfl
  | 4, _ => rfl
  | 5, _ => rfl
  | 6, _ => rfl
  | 7, _ => rfl
  | _ + 8, w => exact absurd w (by omega)
theorem add_Depot {σ : GL} {L : List (Nat → Int32)} (h : RW σ 3 L) (hl : L.length < 4) (x0 : Int32) (x1 : Int32) : RW (s_Glacier_addDepot σ x0 x1) 3 (L ++ [rL [x0, x1]]) ∧ ON 3 (s_Glacier_addDepot σ x0 x1) σ := by
  obtain ⟨a1, a2⟩ := rw_add h (show L.length < capG 3 from hl)
  unfold s_Glacier_addDepot
  rw [a2]
  refine ⟨RWt.ext (rw_set (rw_set (a1) (by omega) (j := 0) (v := x0) (by decide)) (by omega) (j := 1) (v := x1) (by decide)) (fun c hc => ?_), on_gS.tr (on_gS.tr (on_gP))⟩
  match c, hc with
  | 0, _ => rfl
  | 1, _ => rfl
  | 2, _ => rfl
  | 3, _ => rfl
  | 4, _ => rfl
  | 5, _ => rfl
  | 6, _ => rfl
  | 7, _ => rfl
  | _ + 8, w => exact absurd w (by omega)
theorem add_Team {σ : GL} {L : List (Nat → Int32)} (h : RW σ 4 L) (hl : L.length < 4) (x0 : Int32) (x1 : Int32) (x2 : Int32) : RW (s_Glacier_addTeam σ x0 x1 x2) 4 (L ++ [rL [x1, x2, x0, 0, 1, 0, 0, 0]]) ∧ ON 4 (s_Glacier_addTeam σ x0 x1 x2) σ := by
  obtain ⟨a1, a2⟩ := rw_add h (show L.length < capG 4 from hl)
  unfold s_Glacier_addTeam
  rw [a2]
  refine ⟨RWt.ext (rw_set (rw_set (rw_set (rw_set (a1) (by omega) (j := 2) (v := x0) (by decide)) (by omega) (j := 0) (v := x1) (by decide)) (by omega) (j := 1) (v := x2) (by decide)) (by omega) (j := 4) (v := 1) (by decide)) (fun c hc => ?_), on_gS.tr (on_gS.tr (on_gS.tr (on_gS.tr (on_gP))))⟩
  match c, hc with
  | 0, _ => rfl
  | 1, _ => rfl
  | 2, _ => rfl
  | 3, _ => rfl
  | 4, _ => rfl
  | 5, _ => rfl
  | 6, _ => rfl
  | 7, _ => rfl
  | _ + 8, w => exact absurd w (by omega)
/-- names of one letter -/
def NK (c : Int32) (n : Nat) (N : NM) : Prop := nm_sz N = n ∧ ∀ k, k < n → nm_na N k = nmv c k
abbrev lets : List Int32 := [98, 99, 100, 115, 116]
theorem nk_loop {c : Int32} {n j : Nat} {N : NM} (h : NK c n N) (hc : c ∈ lets) (hn : n ≤ 10) (hj : j < 10) : ∀ k i, i + k = n → l_Names_find_2 N (nmv c j) k i = if i ≤ j ∧ j < n then nI j else -1
  | 0, i, hi => by
    unfold l_Names_find_2
    rw [if_neg (by omega)]
  | k + 1, i, hi => by
    unfold l_Names_find_2
    rw [h.2 i (by omega), nk_loop h hc hn hj k (i + 1) (by omega)]
    by_cases e : i = j
    · rw [e, if_pos ((lg_cmp_eq _ _).mpr rfl), if_pos (by omega)]
    · rw [if_neg (fun w => e (nmv_ne c hc i (by omega) j hj ((lg_cmp_eq _ _).mp w)))]
      by_cases e2 : i + 1 ≤ j ∧ j < n
      · rw [if_pos e2, if_pos (by omega)]
      · rw [if_neg e2, if_neg (by omega)]
theorem NK.find {c : Int32} {n j : Nat} {N : NM} (h : NK c n N) (hc : c ∈ lets) (hn : n ≤ 10) (hj : j < n) : s_Names_find N (nmv c j) = nI j := by
  unfold s_Names_find
  rw [h.1, nk_loop h hc hn (by omega) n 0 (by omega), if_pos (by omega)]
theorem NK.none {c : Int32} {n : Nat} {N : NM} (h : NK c n N) (hc : c ∈ lets) (hn : n < 10) : s_Names_find N (nmv c n) = -1 := by
  unfold s_Names_find
  rw [h.1, nk_loop h hc (by omega) hn n 0 (by omega), if_neg (by omega)]
theorem NK.add {c : Int32} {n : Nat} {N : NM} (h : NK c n N) (hn : n < 6) : NK c (n + 1) (s_Names_add N (nmv c n)) := by
  unfold s_Names_add
  rw [h.1, if_neg (nI_ge (show n < 6 by omega) (by omega))]
  refine ⟨rfl, fun k hk => ?_⟩
  show vp_updL (nm_na N) n (nmv c n) k = _
  unfold vp_updL
  by_cases e : k = n
  · rw [if_pos e, e]
  · rw [if_neg e]
    exact h.2 k (by omega)
section Ln
variable {N0 N1 N2 N3 N4 : NM} {k i j : Nat} {K : TK} {F : FM} {T : TM} {σ : GL} {p : TKN} {t : List TKN}
abbrev RL9 (k i : Nat) (K : TK) (F : FM) (N0 N1 N2 N3 N4 : NM) (T : TM) (σ : GL) : TK × FM × TE × NM × NM × NM × NM × NM × TM × GL := l_Teacher_readList_2 k i K F (0, -1) N0 N1 N2 N3 N4 T σ

set_option maxRecDepth 100000 in
set_option maxHeartbeats 2000000 in
theorem ln_Band {a : R2} (hK : KR (kBand j a ++ p :: t) K) (hN : NK 98 j N0) (hj : j < 5) (h1 : a.1 ≤ 20) (h2 : a.2 ≤ 300) {low : Nat} {vl : Int32} (hv : vl = nI low) (hl : low ≤ a.1) (hlow : (nI (gN σ 0) - 1 = -1 ∧ vl = 0) ∨ ∃ (q : Nat) (h : Int32), nI (gN σ 0) - 1 = nI q ∧ q < 2 ^ 31 ∧ gG σ 0 (nI q) 0 = h ∧ vl = h + 1) : ∃ K9, KR (p :: t) K9 ∧ RL9 (k + 1) i K F N0 N1 N2 N3 N4 T σ = RL9 k (i + 1) K9 F (s_Names_add N0 (nmv 98 j)) N1 N2 N3 N4 T (s_Glacier_addBand σ (nI a.1) (nI a.2)) := by
  have hK : KR ((0, 0) :: (50, nmv 98 j) :: (1, 0) :: (51, lJ a.1) :: (2, 0) :: (51, lJ a.2) :: (39, 0) :: p :: t) K := hK
  have hs : s_Tokens_sign K = 0 := hK.sn.1
  have hb : s_Tokens_brokenAt K = -1 := hK.sn.2.2
  obtain ⟨K1, e1, k1⟩ := hK.newE (N := N0) (E := (0, -1)) (m := 5) (vm := 5) rfl (by rw [hN.1]; exact hj) (by decide) (hN.none (by decide) (by omega))
  obtain ⟨K2, e2, k2⟩ := k1.numE (E := (0, -1)) (s := 1) (a := vl) (b := 20) (va := low) (vb := 20) (n := a.1) rfl (lJ_v _ (by omega)) hv rfl hl h1 (by decide)
  obtain ⟨K3, e3, k3⟩ := k2.numE (E := (0, -1)) (s := 2) (a := 0) (b := 300) (va := 0) (vb := 300) (n := a.2) rfl (lJ_v _ (by omega)) rfl rfl (Nat.zero_le _) h2 (by decide)
  have hR : s_Teacher_readBand K F (0, -1) N0 N1 N2 N3 N4 T σ = (K3, (0, -1), s_Names_add N0 (nmv 98 j), s_Glacier_addBand σ (nI a.1) (nI a.2)) := by
    unfold s_Teacher_readBand
    rcases hlow with ⟨q1, q2⟩ | ⟨q, h, q1, q0, q2, q3⟩
    · rw [q2] at e2
      rw [q1, if_neg (by decide)]
      simp only [e1, e2, e3]
    · rw [q3] at e2
      rw [q1, if_pos (nI_pos' q0), q2]
      simp only [e1, e2, e3]
  refine ⟨s_Tokens_expect K3 39, k3.exp rfl, ?_⟩
  show l_Teacher_readList_2 (k + 1) i K F (0, -1) N0 N1 N2 N3 N4 T σ = _
  rw [l_Teacher_readList_2, hs, hb, if_neg (by decide), if_neg (by decide), if_pos (by decide), hR]
set_option maxRecDepth 100000 in
set_option maxHeartbeats 2000000 in
theorem ln_Stake {a : R2} (hK : KR (kStake j a ++ p :: t) K) (hN : NK 115 j N1) (hj : j < 6) {nb : Nat} (hB : NK 98 nb N0) (hb1 : a.1 < nb) (hnb : nb ≤ 5) (h1 : 1 ≤ a.2) (h2 : a.2 ≤ 200) : ∃ K9, KR (p :: t) K9 ∧ RL9 (k + 1) i K F N0 N1 N2 N3 N4 T σ = RL9 k (i + 1) K9 F N0 (s_Names_add N1 (nmv 115 j)) N2 N3 N4 T (s_Glacier_addStake σ (nI a.1) (nI a.2)) := by
  have hK : KR ((3, 0) :: (50, nmv 115 j) :: (4, 0) :: (50, nmv 98 a.1) :: (5, 0) :: (51, lJ a.2) :: (39, 0) :: p :: t) K := hK
  have hs : s_Tokens_sign K = 3 := hK.sn.1
  have hb : s_Tokens_brokenAt K = -1 := hK.sn.2.2
  obtain ⟨K1, e1, k1⟩ := hK.newE (N := N1) (E := (0, -1)) (m := 6) (vm := 6) rfl (by rw [hN.1]; exact hj) (by decide) (hN.none (by decide) (by omega))
  obtain ⟨K2, e2, k2⟩ := k1.oldE (N := N0) (E := (0, -1)) (s := 4) (j := a.1) rfl (by omega) (hB.find (by decide) (by omega) hb1)
  obtain ⟨K3, e3, k3⟩ := k2.numE (E := (0, -1)) (s := 5) (a := 1) (b := 200) (va := 1) (vb := 200) (n := a.2) rfl (lJ_v _ (by omega)) rfl rfl h1 h2 (by decide)
  have hR : s_Teacher_readStake K F (0, -1) N0 N1 N2 N3 N4 T σ = (K3, (0, -1), s_Names_add N1 (nmv 115 j), s_Glacier_addStake σ (nI a.1) (nI a.2)) := by
    unfold s_Teacher_readStake
    simp only [e1, e2, e3]
  refine ⟨s_Tokens_expect K3 39, k3.exp rfl, ?_⟩
  show l_Teacher_readList_2 (k + 1) i K F (0, -1) N0 N1 N2 N3 N4 T σ = _
  rw [l_Teacher_readList_2, hs, hb, if_neg (by decide), if_neg (by decide), if_neg (by decide), if_pos (by decide), hR]
set_option maxRecDepth 100000 in
set_option maxHeartbeats 2000000 in
theorem ln_Crevasse {a : R2} (hK : KR (kCrev j a ++ p :: t) K) (hN : NK 99 j N2) (hj : j < 4) {nb : Nat} (hB : NK 98 nb N0) (hb1 : a.1 < nb) (hnb : nb ≤ 5) (h1 : 0 ≤ a.2) (h2 : a.2 ≤ 99) : ∃ K9, KR (p :: t) K9 ∧ RL9 (k + 1) i K F N0 N1 N2 N3 N4 T σ = RL9 k (i + 1) K9 F N0 N1 (s_Names_add N2 (nmv 99 j)) N3 N4 T (s_Glacier_addCrevasse σ (nI a.1) (nI a.2)) := by
  have hK : KR ((6, 0) :: (50, nmv 99 j) :: (7, 0) :: (50, nmv 98 a.1) :: (8, 0) :: (51, lJ a.2) :: (39, 0) :: p :: t) K := hK
  have hs : s_Tokens_sign K = 6 := hK.sn.1
  have hb : s_Tokens_brokenAt K = -1 := hK.sn.2.2
  obtain ⟨K1, e1, k1⟩ := hK.newE (N := N2) (E := (0, -1)) (m := 4) (vm := 4) rfl (by rw [hN.1]; exact hj) (by decide) (hN.none (by decide) (by omega))
  obtain ⟨K2, e2, k2⟩ := k1.oldE (N := N0) (E := (0, -1)) (s := 7) (j := a.1) rfl (by omega) (hB.find (by decide) (by omega) hb1)
  obtain ⟨K3, e3, k3⟩ := k2.numE (E := (0, -1)) (s := 8) (a := 0) (b := 99) (va := 0) (vb := 99) (n := a.2) rfl (lJ_v _ (by omega)) rfl rfl h1 h2 (by decide)
  have hR : s_Teacher_readCrevasse K F (0, -1) N0 N1 N2 N3 N4 T σ = (K3, (0, -1), s_Names_add N2 (nmv 99 j), s_Glacier_addCrevasse σ (nI a.1) (nI a.2)) := by
    unfold s_Teacher_readCrevasse
    simp only [e1, e2, e3]
  refine ⟨s_Tokens_expect K3 39, k3.exp rfl, ?_⟩
  show l_Teacher_readList_2 (k + 1) i K F (0, -1) N0 N1 N2 N3 N4 T σ = _
  rw [l_Teacher_readList_2, hs, hb, if_neg (by decide), if_neg (by decide), if_neg (by decide), if_neg (by decide), if_pos (by decide), hR]
set_option maxRecDepth 100000 in
set_option maxHeartbeats 2000000 in
theorem ln_Depot {a : R2} (hK : KR (kDepot j a ++ p :: t) K) (hN : NK 100 j N3) (hj : j < 4) {nb : Nat} (hB : NK 98 nb N0) (hb1 : a.1 < nb) (hnb : nb ≤ 5) (h1 : 0 ≤ a.2) (h2 : a.2 ≤ 99) : ∃ K9, KR (p :: t) K9 ∧ RL9 (k + 1) i K F N0 N1 N2 N3 N4 T σ = RL9 k (i + 1) K9 F N0 N1 N2 (s_Names_add N3 (nmv 100 j)) N4 T (s_Glacier_addDepot σ (nI a.1) (nI a.2)) := by
  have hK : KR ((9, 0) :: (50, nmv 100 j) :: (4, 0) :: (50, nmv 98 a.1) :: (10, 0) :: (51, lJ a.2) :: (39, 0) :: p :: t) K := hK
  have hs : s_Tokens_sign K = 9 := hK.sn.1
  have hb : s_Tokens_brokenAt K = -1 := hK.sn.2.2
  obtain ⟨K1, e1, k1⟩ := hK.newE (N := N3) (E := (0, -1)) (m := 4) (vm := 4) rfl (by rw [hN.1]; exact hj) (by decide) (hN.none (by decide) (by omega))
  obtain ⟨K2, e2, k2⟩ := k1.oldE (N := N0) (E := (0, -1)) (s := 4) (j := a.1) rfl (by omega) (hB.find (by decide) (by omega) hb1)
  obtain ⟨K3, e3, k3⟩ := k2.numE (E := (0, -1)) (s := 10) (a := 0) (b := 99) (va := 0) (vb := 99) (n := a.2) rfl (lJ_v _ (by omega)) rfl rfl h1 h2 (by decide)
  have hR : s_Teacher_readDepot K F (0, -1) N0 N1 N2 N3 N4 T σ = (K3, (0, -1), s_Names_add N3 (nmv 100 j), s_Glacier_addDepot σ (nI a.1) (nI a.2)) := by
    unfold s_Teacher_readDepot
    simp only [e1, e2, e3]
  refine ⟨s_Tokens_expect K3 39, k3.exp rfl, ?_⟩
  show l_Teacher_readList_2 (k + 1) i K F (0, -1) N0 N1 N2 N3 N4 T σ = _
  rw [l_Teacher_readList_2, hs, hb, if_neg (by decide), if_neg (by decide), if_neg (by decide), if_neg (by decide), if_neg (by decide), if_pos (by decide), hR]
set_option maxRecDepth 100000 in
set_option maxHeartbeats 2000000 in
theorem ln_Team {a : R3} (hK : KR (kTeam j a ++ p :: t) K) (hN : NK 116 j N4) (hj : j < 4) {nb : Nat} (hB : NK 98 nb N0) (hb1 : a.2.2 < nb) (hnb : nb ≤ 5) (h1 : 2 ≤ a.1) (h2 : a.1 ≤ 6) (h3 : a.2.1 ≤ 40) : ∃ K9, KR (p :: t) K9 ∧ RL9 (k + 1) i K F N0 N1 N2 N3 N4 T σ = RL9 k (i + 1) K9 F N0 N1 N2 N3 (s_Names_add N4 (nmv 116 j)) T (s_Glacier_addTeam σ (nI a.2.2) (nI a.1) (nI a.2.1)) := by
  have hK : KR ((11, 0) :: (50, nmv 116 j) :: (4, 0) :: (50, nmv 98 a.2.2) :: (12, 0) :: (51, lJ a.1) :: (10, 0) :: (51, lJ a.2.1) :: (39, 0) :: p :: t) K := hK
  have hs : s_Tokens_sign K = 11 := hK.sn.1
  have hb : s_Tokens_brokenAt K = -1 := hK.sn.2.2
  obtain ⟨K1, e1, k1⟩ := hK.newE (N := N4) (E := (0, -1)) (m := 4) (vm := 4) rfl (by rw [hN.1]; exact hj) (by decide) (hN.none (by decide) (by omega))
  obtain ⟨K2, e2, k2⟩ := k1.oldE (N := N0) (E := (0, -1)) (s := 4) (j := a.2.2) rfl (by omega) (hB.find (by decide) (by omega) hb1)
  obtain ⟨K3, e3, k3⟩ := k2.numE (E := (0, -1)) (s := 12) (a := 2) (b := 6) (va := 2) (vb := 6) (n := a.1) rfl (lJ_v _ (by omega)) rfl rfl h1 h2 (by decide)
  obtain ⟨K4, e4, k4⟩ := k3.numE (E := (0, -1)) (s := 10) (a := 0) (b := 40) (va := 0) (vb := 40) (n := a.2.1) rfl (lJ_v _ (by omega)) rfl rfl (Nat.zero_le _) h3 (by decide)
  have hR : s_Teacher_readTeam K F (0, -1) N0 N1 N2 N3 N4 T σ = (K4, (0, -1), s_Names_add N4 (nmv 116 j), s_Glacier_addTeam σ (nI a.2.2) (nI a.1) (nI a.2.1)) := by
    unfold s_Teacher_readTeam
    simp only [e1, e2, e3, e4]
  refine ⟨s_Tokens_expect K4 39, k4.exp rfl, ?_⟩
  show l_Teacher_readList_2 (k + 1) i K F (0, -1) N0 N1 N2 N3 N4 T σ = _
  rw [l_Teacher_readList_2, hs, hb, if_neg (by decide), if_neg (by decide), if_neg (by decide), if_neg (by decide), if_neg (by decide), if_neg (by decide), if_pos (by decide), hR]
set_option maxRecDepth 100000 in
set_option maxHeartbeats 2000000 in
theorem ln_Day {a : R2} (hK : KR (kDay j a ++ p :: t) K) (h1 : a.1 ≤ 7) (h2 : a.2 ≤ 30) : ∃ K9, KR (p :: t) K9 ∧ RL9 (k + 1) i K F N0 N1 N2 N3 N4 T σ = RL9 k (i + 1) K9 F N0 N1 N2 N3 N4 T (s_Glacier_changeWarmth σ (nI a.1) (nI a.2)) := by
  have hK : KR ((13, 0) :: (51, lJ a.1) :: (14, 0) :: (51, lJ a.2) :: (39, 0) :: p :: t) K := hK
  have hs : s_Tokens_sign K = 13 := hK.sn.1
  have hb : s_Tokens_brokenAt K = -1 := hK.sn.2.2
  obtain ⟨K1, e1, k1⟩ := hK.numE (E := (0, -1)) (s := 13) (a := 0) (b := 7) (va := 0) (vb := 7) (n := a.1) rfl (lJ_v _ (by omega)) rfl rfl (Nat.zero_le _) h1 (by decide)
  obtain ⟨K2, e2, k2⟩ := k1.numE (E := (0, -1)) (s := 14) (a := 0) (b := 30) (va := 0) (vb := 30) (n := a.2) rfl (lJ_v _ (by omega)) rfl rfl (Nat.zero_le _) h2 (by decide)
  have hR : s_Teacher_readDay K F (0, -1) N0 N1 N2 N3 N4 T σ = (K2, (0, -1), s_Glacier_changeWarmth σ (nI a.1) (nI a.2)) := by
    unfold s_Teacher_readDay
    simp only [e1, e2]
  refine ⟨s_Tokens_expect K2 39, k2.exp rfl, ?_⟩
  show l_Teacher_readList_2 (k + 1) i K F (0, -1) N0 N1 N2 N3 N4 T σ = _
  rw [l_Teacher_readList_2, hs, hb, if_neg (by decide), if_neg (by decide), if_neg (by decide), if_neg (by decide), if_neg (by decide), if_neg (by decide), if_neg (by decide), if_pos (by decide), hR]
end Ln
