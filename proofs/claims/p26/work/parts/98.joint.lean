/-! the camp and the law's own glacier in one heap -/
/-- what holds of the law's glacier at all times -/
def IV (A : AD) (Y : SM) (N : Nat) : Prop := RI A Y N ∧ CT A Y ∧ (∀ r, r < cn A 5 → ∃ a, OAt A Y r a) ∧ (∃ c, sm_ca Y = nI c ∧ c ≤ N) ∧ sm_dy Y ≤ N
section Iv
variable {A : AD} {σ : GL} {Y : SM} {N : Nat} {T : TM} {F : FM}
theorem IV.o5 {Y' : SM} (h : IV A Y N) (e : sm_v Y' 5 = sm_v Y 5) : ∀ r, r < cn A 5 → ∃ a, OAt A Y' r a := fun r hr => by
  obtain ⟨a, a1, a2⟩ := h.2.2.1 r hr
  exact ⟨a, by rw [e]; exact a1, a2⟩
theorem IV.ca {Y' : SM} (h : IV A Y N) (e : sm_ca Y' = sm_ca Y) {N' : Nat} (hN : N ≤ N') : ∃ c, sm_ca Y' = nI c ∧ c ≤ N' := by
  obtain ⟨c, c1, c2⟩ := h.2.2.2.1
  exact ⟨c, e.trans c1, by omega⟩
theorem IV.up (h : IV A Y N) {N' : Nat} (hN : N ≤ N') : IV A Y N' := ⟨h.1.up hN, h.2.1, h.2.2.1, h.ca rfl hN, Nat.le_trans h.2.2.2.2 hN⟩
theorem IV.goes (h : IV A Y N) (hA : AOk A) {t : Nat} (ht : t < cn A 4) {x : Int32} : IV A (s_Sim_goes A Y t x).2 (N + 1) := ⟨h.1.goes hA ht, h.2.1.goes ht, h.o5 v5_goes, h.ca ca_goes (by omega), by rw [sm_dy_goes]; exact Nat.le_trans h.2.2.2.2 (by omega)⟩
theorem ca_probes {t c : Nat} : sm_ca (s_Sim_probes Y t c).2 = sm_ca Y := by
  unfold s_Sim_probes
  (repeat' split) <;> rfl
theorem IV.probes (h : IV A Y N) {t c : Nat} (ht : t < cn A 4) (hc : c < cn A 2) : IV A (s_Sim_probes Y t c).2 (N + 1) := ⟨(h.1.probes ht hc).up (by omega), h.2.1.of scP, h.o5 v5_Sim_probes, h.ca ca_probes (by omega), by rw [sm_dy_Sim_probes]; exact Nat.le_trans h.2.2.2.2 (by omega)⟩
theorem ca_sfills {t : Nat} {w : Int32} : sm_ca (s_Sim_fills A Y t w).2 = sm_ca Y := by
  unfold s_Sim_fills
  by_cases c : sm_v Y 4 t 4 = 0
  · rw [if_pos c]
  · rw [if_neg c]
    exact ca_fills _ _
theorem IV.fills (h : IV A Y N) (hP : PM A σ Y) (hA : AOk A) {t : Nat} (ht : t < cn A 4) {w : Int32} : IV A (s_Sim_fills A Y t w).2 (N + 1) := ⟨(h.1.fills hP hA ht).1.up (by omega), h.2.1.of scF, h.o5 v5_Sim_fills, h.ca ca_sfills (by omega), by rw [sm_dy_Sim_fills]; exact Nat.le_trans h.2.2.2.2 (by omega)⟩
theorem IV.stock (h : IV A Y N) {j m : Nat} (hj : j < cn A 3) (hm : m ≤ 200) : IV A (sm_set Y 3 j 1 (iMin 999 (sm_v Y 3 j 1 + nI m))) (N + 1) := ⟨(h.1.stock hj hm).up (by omega), h.2.1.of (SC.set (by decide)), h.o5 v5_set3, h.ca rfl (by omega), Nat.le_trans h.2.2.2.2 (by omega)⟩
theorem IV.warm (h : IV A Y N) {j w : Nat} {x : Int32} (hx : x = nI w) (hw : w ≤ 30) : IV A (sm_wa' Y (upd (sm_wa Y) j x)) (N + 1) := ⟨(h.1.warm hx hw).up (by omega), h.2.1.of ⟨fun _ => ⟨rfl, rfl⟩, fun _ => rfl, rfl, rfl⟩, h.o5 rfl, h.ca rfl (by omega), Nat.le_trans h.2.2.2.2 (by omega)⟩
theorem IV.day (h : IV A Y N) (hP : PM A σ Y) (hA : AOk A) (ho : OR A Y T F) (hd : sm_dy Y + 1 < 1000000) : IV A (dayF A Y) (N + 80) := by
  have h85 := hA.2.2 5 (by decide)
  obtain ⟨-, q2, -, q4⟩ := passDay_eq hP hA h.1 ho hd
  obtain ⟨d, d1, d2⟩ := day_ca hP hA h.1 ho
  obtain ⟨c, c1, c2⟩ := h.2.2.2.1
  have h5 := h.2.2.2.2
  exact ⟨q2, h.2.1.day h.2.2.1, h.o5 v5_day, ⟨c + d, by rw [d2, c1, nI_ad], by omega⟩, by rw [q4]; omega⟩
theorem IV.pass (hA : AOk A) : ∀ (n : Nat) (σ : GL) (Y : SM) (F : FM) (N : Nat), IV A Y N → PM A σ Y → OR A Y T F → sm_dy Y + n < 1000000 → IV A (passF A n Y) (N + 80 * n)
  | 0, _, _, _, _, h, _, _, _ => h
  | n + 1, σ, Y, F, N, h, hP, ho, hd => by
    obtain ⟨q1, -, q3, q4⟩ := passDay_eq hP hA h.1 ho (by omega)
    exact (IV.pass hA n _ _ _ _ (h.day hP hA ho (by omega)) q1 q3 (by rw [q4]; omega)).up (by omega)
theorem IV.ords (h : IV A Y N) (hA : AOk A) (h5 : ∀ k, k < 5 → cn A k ≤ 8) : OrdsOk A Y := by
  intro r hr
  obtain ⟨a, a1, a2⟩ := h.2.2.1 r hr
  rw [a1]
  obtain ⟨hob, q0, q1, q2, q3, q4, q5, q6, q7, q8, q9, q10, q11, q12, q13, q14, q15⟩ := a2
  have rj : ∀ j, j ≠ 5 → rOrd a j = nI (oF a j) := fun j hj => if_neg hj
  have n0 := h5 0 (by decide)
  have n1 := h5 1 (by decide)
  have n2 := h5 2 (by decide)
  have n3 := h5 3 (by decide)
  have n4 := h5 4 (by decide)
  unfold OrdOk
  rw [rj 7 (by decide), rj 8 (by decide), rj 9 (by decide), rj 10 (by decide), rj 11 (by decide), rj 0 (by decide), rj 1 (by decide), rj 2 (by decide)]
  refine ⟨oki_n q11 n1, oki_n q12 n2, oki_n q13 n4, oki_n q14 n3, oki_n q15 n0, fun w => oki_n (q3 ?_ ?_) n4, fun w => ⟨oki_n (q1 (nI_eqn (by omega) (by decide) w)) n2, oki_n q5 n4⟩, fun w => oki_n (q2 (nI_eqn (by omega) (by decide) w)) n1, ?_⟩
  · intro e
    rw [e] at w
    revert w
    decide
  · intro e
    rw [e] at w
    revert w
    decide
  · rcases (show oF a 0 = 0 ∨ oF a 0 = 1 ∨ oF a 0 = 2 ∨ oF a 0 = 3 ∨ oF a 0 = 4 by omega) with e | e | e | e | e <;> rw [e] <;> decide
end Iv

section Dg9
variable {a : TA} {K : TK} {σ τ τ' : GL} {T : TM} {F F' : FM} {U : TM} {G : FM} {P : CP}
theorem dg6 : ∀ (k i : Nat) (d : Int64), l_Camp_digest_6 a K σ τ T F U G P k i d = l_Camp_digest_6 a K σ τ' T F' U G P k i d
  | 0, _, _ => rfl
  | k + 1, i, d => dg6 k (i + 1) _
theorem dg50 {b : Int32} : ∀ (k i : Nat) (d : Int64), l_Camp_digest_50 a K σ τ T F U G P b k i d = l_Camp_digest_50 a K σ τ' T F' U G P b k i d
  | 0, _, _ => rfl
  | k + 1, i, d => dg50 k (i + 1) _
theorem dg120 {b : Int32} : ∀ (k i : Nat) (d : Int64), l_Camp_digest_120 a K σ τ T F U G P b k i d = l_Camp_digest_120 a K σ τ' T F' U G P b k i d
  | 0, _, _ => rfl
  | k + 1, i, d => dg120 k (i + 1) _
theorem dg33 : ∀ (k i : Nat) (d : Int64), l_Camp_digest_33 a K σ τ T F U G P k i d = l_Camp_digest_33 a K σ τ' T F' U G P k i d
  | 0, _, _ => rfl
  | k + 1, i, d => by
    unfold l_Camp_digest_33
    rw [dg50 (τ := τ) (τ' := τ') (F := F) (F' := F')]
    exact dg33 k (i + 1) _
theorem dg103 : ∀ (k i : Nat) (d : Int64), l_Camp_digest_103 a K σ τ T F U G P k i d = l_Camp_digest_103 a K σ τ' T F' U G P k i d
  | 0, _, _ => rfl
  | k + 1, i, d => by
    unfold l_Camp_digest_103
    rw [dg120 (τ := τ) (τ' := τ') (F := F) (F' := F')]
    exact dg103 k (i + 1) _
theorem dg_same : s_Camp_digest a K σ τ T F U G P = s_Camp_digest a K σ τ' T F' U G P := by
  unfold s_Camp_digest
  rw [dg6 (τ := τ) (τ' := τ') (F := F) (F' := F'), dg33 (τ := τ) (τ' := τ') (F := F) (F' := F'), dg103 (τ := τ) (τ' := τ') (F := F) (F' := F')]
end Dg9
abbrev GEO (c g g2 o o2 : Nat) : Prop := c + 7 ≤ g ∧ c + 7 ≤ g2 ∧ (g + 12 ≤ g2 ∨ g2 + 12 ≤ g) ∧ g + 12 ≤ o ∧ g + 12 ≤ o2 ∧ g2 + 12 ≤ o ∧ g2 + 12 ≤ o2 ∧ (o + 7 ≤ o2 ∨ o2 + 7 ≤ o)
abbrev BND (c g g2 o o2 : Nat) : Prop := g + 12 ≤ c + 45 ∧ g2 + 12 ≤ c + 45 ∧ o + 7 ≤ c + 45 ∧ o2 + 7 ≤ c + 45
/-- where the camp stands (at c) and where the law's glacier (below z0) -/
def AJ (A : AD) (c z0 : Nat) : Prop := AOk A ∧ (∀ x, c ≤ x → x < c + 45 → tg A x = none) ∧ (∀ x k r, tg A x = some (k, r) → x < z0) ∧ c + 45 ≤ z0 ∧ ∀ k, k < 5 → 1 ≤ cn A k ∧ cn A k ≤ 4
/-- the heap h': the camp, which holds what Yc tells, and the law's glacier Ys, over h -/
def JW (Γ : G9) (A : AD) (c : Nat) (Yc Ys : SM) (N : Nat) (dg : Int64) (h h' : AH) : Prop := ∃ (sg : Nat → Nat) (sw g g2 o o2 : Nat) (a : TA) (K : TK) (σ τ : GL) (T : TM) (F : FM) (U : TM) (G : FM) (P : CP), (SgOk Γ sg ∧ SgNe sg ∧ SwOk Γ sw) ∧ GEO c g g2 o o2 ∧ BND c g g2 o o2 ∧ ta_sz a = 0 ∧ h o = some (.inr (3, [.ref (o + 1), .ref (o + 3)])) ∧ h o2 = some (.inr (3, [.ref (o2 + 1), .ref (o2 + 3)])) ∧ T.2 ≤ 20 ∧ U.2 ≤ 20 ∧ WFG τ ∧ PM A σ Yc ∧ IV A Yc N ∧ OR A Yc T F ∧ s_Camp_digest a K σ τ T F U G P = dg ∧ h' = smC Γ A (cw_ Γ sg h c g g2 o o2 a K σ τ T F U G P) Ys
theorem aj_wf {A : AD} {c z0 : Nat} (hj : AJ A c z0) {σ : GL} {Y : SM} (hP : PM A σ Y) : WFG σ := fun k hk => by
  have h1 := hP.1 k hk
  have h2 := (hj.2.2.2.2 k hk).2
  have h3 : 4 ≤ capG k := by
    unfold capG
    (repeat' split) <;> omega
  omega
theorem blk_cg {h1 h2 : AH} {b n : Nat} {f : Nat → Option va_E} {y : Nat} (e : h1 y = h2 y) : blk h1 b n f y = blk h2 b n f y := by
  unfold blk
  by_cases q : b ≤ y ∧ y < b + n
  · rw [if_pos q, if_pos q]
  · rw [if_neg q, if_neg q]
    exact e
theorem blk_ex {h1 h2 : AH} {b n : Nat} {f : Nat → Option va_E} (e : Ext h1 h2) : Ext (blk h1 b n f) (blk h2 b n f) := by
  intro x v hx
  unfold blk at hx ⊢
  by_cases q : b ≤ x ∧ x < b + n
  · rw [if_pos q] at hx ⊢
    exact hx
  · rw [if_neg q] at hx ⊢
    exact e x v hx
section Cw9
variable {Γ : G9} {sg : Nat → Nat} {h h1 h2 : AH} {c g g2 o o2 : Nat} {a : TA} {K : TK} {σ τ : GL} {T : TM} {F : FM} {U : TM} {G : FM} {P : CP} {A : AD} {Y : SM}
theorem cw_cg {y : Nat} (e : h1 y = h2 y) : cw_ Γ sg h1 c g g2 o o2 a K σ τ T F U G P y = cw_ Γ sg h2 c g g2 o o2 a K σ τ T F U G P y := by
  unfold cw_
  exact blk_cg (blk_cg (blk_cg (blk_cg (blk_cg (blk_cg (blk_cg (blk_cg (blk_cg e))))))))
theorem cw_ex (e : Ext h1 h2) : Ext (cw_ Γ sg h1 c g g2 o o2 a K σ τ T F U G P) (cw_ Γ sg h2 c g g2 o o2 a K σ τ T F U G P) := by
  unfold cw_
  exact blk_ex (blk_ex (blk_ex (blk_ex (blk_ex (blk_ex (blk_ex (blk_ex (blk_ex e))))))))
theorem cw_rd (geo : GEO c g g2 o o2) (bd : BND c g g2 o o2) {x : Nat} (hx : x < c ∨ c + 45 ≤ x) : cw_ Γ sg h c g g2 o o2 a K σ τ T F U G P x = h x := by
  unfold cw_
  rw [blk_out (by omega), blk_out (by omega), blk_out (by omega), blk_out (by omega), blk_out (by omega), blk_out (by omega), blk_out (by omega), blk_out (by omega), blk_out (by omega)]
theorem cw_hup9 (geo : GEO c g g2 o o2) (bd : BND c g g2 o o2) {x : Nat} {e : va_E} (hx : x < c ∨ c + 45 ≤ x) : hup (cw_ Γ sg h c g g2 o o2 a K σ τ T F U G P) x e = cw_ Γ sg (hup h x e) c g g2 o o2 a K σ τ T F U G P := by
  funext y
  by_cases q : y = x
  · rw [q, hup_at, cw_rd geo bd hx, hup_at]
  · rw [hup_ne q]
    exact cw_cg (hup_ne q).symm
theorem smC_hup {x : Nat} {e : va_E} (hx : tg A x = none) : hup (smC Γ A h Y) x e = smC Γ A (hup h x e) Y := by
  funext y
  by_cases q : y = x
  · rw [q, hup_at, sm_no hx, hup_at]
  · rw [hup_ne q]
    unfold smC
    cases tg A y with
    | none => exact (hup_ne q).symm
    | some p => rfl
theorem smC_ex (e : Ext h1 h2) : Ext (smC Γ A h1 Y) (smC Γ A h2 Y) := by
  intro x v hx
  unfold smC at hx ⊢
  cases ht : tg A x with
  | none =>
    rw [ht] at hx
    exact e x v hx
  | some p =>
    rw [ht] at hx
    exact hx
theorem sm_cw9 {z0 : Nat} (hj : AJ A c z0) (geo : GEO c g g2 o o2) (bd : BND c g g2 o o2) : smC Γ A (cw_ Γ sg h c g g2 o o2 a K σ τ T F U G P) Y = cw_ Γ sg (smC Γ A h Y) c g g2 o o2 a K σ τ T F U G P := sm_cw (t := c) hj.2.1 ⟨by omega, by omega⟩ ⟨by omega, by omega⟩ ⟨by omega, by omega⟩ ⟨by omega, by omega⟩ ⟨by omega, by omega⟩
end Cw9
section Jw
variable {Γ : G9} {A : AD} {c z0 z : Nat} {Yc Ys : SM} {N : Nat} {dg : Int64} {h h' : AH} {ms : Nat → Nat}
theorem JW.tgN (hj : AJ A c z0) {x : Nat} (hx : z0 ≤ x) : tg A x = none := by
  cases e : tg A x with
  | none => rfl
  | some p => exact absurd (hj.2.2.1 x p.1 p.2 e) (by omega)
theorem JW.rd (hj : AJ A c z0) (hJ : JW Γ A c Yc Ys N dg h h') {x : Nat} (hx : z0 ≤ x) : h' x = h x := by
  obtain ⟨sg, sw, g, g2, o, o2, a, K, σ, τ, T, F, U, G, P, hss, geo, bd, hsz, ho, ho2, hT, hU, hV, hP, hI, hO, hd, e⟩ := hJ
  have h4 := hj.2.2.2.1
  rw [e, sm_no (JW.tgN hj hx), cw_rd geo bd (Or.inr (by omega))]
theorem JW.up (hj : AJ A c z0) (hJ : JW Γ A c Yc Ys N dg h h') {x : Nat} {e : va_E} (hx : z0 ≤ x) : JW Γ A c Yc Ys N dg (hup h x e) (hup h' x e) := by
  obtain ⟨sg, sw, g, g2, o, o2, a, K, σ, τ, T, F, U, G, P, hss, geo, bd, hsz, ho, ho2, hT, hU, hV, hP, hI, hO, hd, e9⟩ := hJ
  have h4 := hj.2.2.2.1
  refine ⟨sg, sw, g, g2, o, o2, a, K, σ, τ, T, F, U, G, P, hss, geo, bd, hsz, (hup_ne (by omega)).trans ho, (hup_ne (by omega)).trans ho2, hT, hU, hV, hP, hI, hO, hd, ?_⟩
  rw [e9, smC_hup (JW.tgN hj hx), cw_hup9 geo bd (Or.inr (by omega))]
theorem JW.less (hj : AJ A c z0) (hJ : JW Γ A c Yc Ys N dg h h') {h0 : AH} (he : ∀ x, x < z0 → h0 x = h x) (hx : Ext h0 h) : ∃ h0', JW Γ A c Yc Ys N dg h0 h0' ∧ Ext h0' h' := by
  obtain ⟨sg, sw, g, g2, o, o2, a, K, σ, τ, T, F, U, G, P, hss, geo, bd, hsz, ho, ho2, hT, hU, hV, hP, hI, hO, hd, e9⟩ := hJ
  have h4 := hj.2.2.2.1
  refine ⟨_, ⟨sg, sw, g, g2, o, o2, a, K, σ, τ, T, F, U, G, P, hss, geo, bd, hsz, (he o (by omega)).trans ho, (he o2 (by omega)).trans ho2, hT, hU, hV, hP, hI, hO, hd, rfl⟩, ?_⟩
  rw [e9]
  exact smC_ex (cw_ex hx)
theorem JW.iv (hJ : JW Γ A c Yc Ys N dg h h') : IV A Yc N := by
  obtain ⟨sg, sw, g, g2, o, o2, a, K, σ, τ, T, F, U, G, P, hss, geo, bd, hsz, ho, ho2, hT, hU, hV, hP, hI, hO, hd, e9⟩ := hJ
  exact hI
theorem JW.po (hJ : JW Γ A c Yc Ys N dg h h') : ∃ (σ : GL) (T : TM) (F : FM), PM A σ Yc ∧ OR A Yc T F := by
  obtain ⟨sg, sw, g, g2, o, o2, a, K, σ, τ, T, F, U, G, P, hss, geo, bd, hsz, ho, ho2, hT, hU, hV, hP, hI, hO, hd, e9⟩ := hJ
  exact ⟨σ, T, F, hP, hO⟩
theorem JW.obj (hj : AJ A c z0) (hJ : JW Γ A c Yc Ys N dg h h') : h' (ad A 6 0) = some (smO A Ys) := by
  obtain ⟨sg, sw, g, g2, o, o2, a, K, σ, τ, T, F, U, G, P, hss, geo, bd, hsz, ho, ho2, hT, hU, hV, hP, hI, hO, hd, e9⟩ := hJ
  rw [e9]
  exact sm_obj hj.1
theorem JW.war (hj : AJ A c z0) (hJ : JW Γ A c Yc Ys N dg h h') : h' (ad A 7 0) = some (aI Γ 8 (sm_wa Ys)) := by
  obtain ⟨sg, sw, g, g2, o, o2, a, K, σ, τ, T, F, U, G, P, hss, geo, bd, hsz, ho, ho2, hT, hU, hV, hP, hI, hO, hd, e9⟩ := hJ
  rw [e9]
  exact sm_war hj.1
theorem JW.out (hj : AJ A c z0) (hJ : JW Γ A c Yc Ys N dg h h') {k : Nat} (hk : k < 6) : h' (ad A 8 k) = some (aA Γ (cn A k) (fun j => some (ad A k j))) := by
  obtain ⟨sg, sw, g, g2, o, o2, a, K, σ, τ, T, F, U, G, P, hss, geo, bd, hsz, ho, ho2, hT, hU, hV, hP, hI, hO, hd, e9⟩ := hJ
  rw [e9]
  exact sm_out hj.1 hk
theorem JW.row (hj : AJ A c z0) (hJ : JW Γ A c Yc Ys N dg h h') {k r : Nat} (hk : k < 6) (hr : r < cn A k) : h' (ad A k r) = some (aI Γ (wdt k) (sm_v Ys k r)) := by
  obtain ⟨sg, sw, g, g2, o, o2, a, K, σ, τ, T, F, U, G, P, hss, geo, bd, hsz, ho, ho2, hT, hU, hV, hP, hI, hO, hd, e9⟩ := hJ
  rw [e9]
  exact sm_row hj.1 hk hr
theorem JW.set (hj : AJ A c z0) (hJ : JW Γ A c Yc Ys N dg h h') {k r j : Nat} {x : Int32} (hk : k < 6) (hr : r < cn A k) : JW Γ A c Yc (sm_set Ys k r j x) N dg h (hup h' (ad A k r) (aI Γ (wdt k) (upd (sm_v Ys k r) j x))) := by
  obtain ⟨sg, sw, g, g2, o, o2, a, K, σ, τ, T, F, U, G, P, hss, geo, bd, hsz, ho, ho2, hT, hU, hV, hP, hI, hO, hd, e9⟩ := hJ
  refine ⟨sg, sw, g, g2, o, o2, a, K, σ, τ, T, F, U, G, P, hss, geo, bd, hsz, ho, ho2, hT, hU, hV, hP, hI, hO, hd, ?_⟩
  rw [e9]
  exact sm_setup hj.1 hk hr
theorem JW.wset (hj : AJ A c z0) (hJ : JW Γ A c Yc Ys N dg h h') {f : Nat → Int32} : JW Γ A c Yc (sm_wa' Ys f) N dg h (hup h' (ad A 7 0) (aI Γ 8 f)) := by
  obtain ⟨sg, sw, g, g2, o, o2, a, K, σ, τ, T, F, U, G, P, hss, geo, bd, hsz, ho, ho2, hT, hU, hV, hP, hI, hO, hd, e9⟩ := hJ
  refine ⟨sg, sw, g, g2, o, o2, a, K, σ, τ, T, F, U, G, P, hss, geo, bd, hsz, ho, ho2, hT, hU, hV, hP, hI, hO, hd, ?_⟩
  rw [e9]
  exact sm_warup hj.1
theorem JW.cam (hj : AJ A c z0) (hJ : JW Γ A c Yc Ys N dg h h') : ∃ fs : List Value, h' c = some (.inr (8, fs)) := by
  obtain ⟨sg, sw, g, g2, o, o2, a, K, σ, τ, T, F, U, G, P, ⟨hs, hsn, hw⟩, geo, bd, hsz, ho, ho2, hT, hU, hV, hP, hI, hO, hd, e9⟩ := hJ
  rw [e9, sm_no (hj.2.1 c (Nat.le_refl _) (by omega))]
  exact ⟨_, cw_at_c hs hsn hw geo (by omega) ho ho2 hT hU (aj_wf hj hP) hV⟩
/-- the tellings of a band -/
def tellB (A : AD) (Y : SM) (r : Nat) : Nat → Int32
  | 3 => cnt (fun t => sm_v Y 4 t 2) (fun t => sm_v Y 4 t 4) (nI r) 1 (cn A 4)
  | 4 => cnt (fun s => sm_v Y 1 s 0) (fun s => sm_v Y 1 s 3) (nI r) 1 (cn A 1)
  | 5 => cnt (fun c => sm_v Y 2 c 0) (fun c => sm_v Y 2 c 0) (nI r) (nI r) (cn A 2)
  | k => sm_v Y 0 r k

theorem j_count (hj : AJ A c z0) (hJ : JW Γ A c Yc Ys N dg h h') (hms : MsOk Γ ms) (hth : ThOk Γ) {k : Nat} {v : Int32} (hv : v = nI k) (hk : k < 15) : CallT Γ M_Camp_count 7 4 24 [.ref c, .int v] h' z 0 (some (.int (tells A Yc 0 k))) h' := by
  subst hv
  obtain ⟨sg, sw, g, g2, o, o2, a, K, σ, τ, T, F, U, G, P, ⟨hs, hsn, hw⟩, geo, bd, hsz, ho, ho2, hT, hU, hV, hP, hI, hO, hd, e9⟩ := hJ
  have hW := aj_wf hj hP
  have ho' : smC Γ A h Ys o = some (.inr (3, [.ref (o + 1), .ref (o + 3)])) := (sm_no (hj.2.1 o (by omega) (by omega))).trans ho
  have ho2' : smC Γ A h Ys o2 = some (.inr (3, [.ref (o2 + 1), .ref (o2 + 3)])) := (sm_no (hj.2.1 o2 (by omega) (by omega))).trans ho2
  rw [sm_cw9 hj geo bd] at e9
  have hc := c_Camp_count (Γ := Γ) (sg := sg) (sw := sw) (h := smC Γ A h Ys) (c := c) (g := g) (g2 := g2) (o := o) (o2 := o2) (z := z) (A := a) (K := K) (σ := σ) (τ := τ) (T := T) (F := F) (U := U) (G := G) (P := P) (ms := ms) (x1 := nI k) hs hsn hw geo (by omega) ho' ho2' hT hU hW hV hms hth
  rw [count_tell (Ta := a) (K := K) (σ := σ) (τ := τ) (T := T) (U := U) (F := F) (G := G) (P := P) hP hO hI.2.1 hk, hsz] at hc
  rw [e9]
  exact hc
theorem j_stake (hj : AJ A c z0) (hJ : JW Γ A c Yc Ys N dg h h') (hms : MsOk Γ ms) (hth : ThOk Γ) {r k : Nat} {v w : Int32} (hv : v = nI r) (hw : w = nI k) (hr : r < cn A 1) (hk : k < 6) : CallT Γ M_Camp_stake 7 4 24 [.ref c, .int v, .int w] h' z 0 (some (.int (sm_v Yc 1 r k))) h' := by
  subst hv hw
  obtain ⟨sg, sw, g, g2, o, o2, a, K, σ, τ, T, F, U, G, P, ⟨hs, hsn, hw⟩, geo, bd, hsz, ho, ho2, hT, hU, hV, hP, hI, hO, hd, e9⟩ := hJ
  have hW := aj_wf hj hP
  have ho' : smC Γ A h Ys o = some (.inr (3, [.ref (o + 1), .ref (o + 3)])) := (sm_no (hj.2.1 o (by omega) (by omega))).trans ho
  have ho2' : smC Γ A h Ys o2 = some (.inr (3, [.ref (o2 + 1), .ref (o2 + 3)])) := (sm_no (hj.2.1 o2 (by omega) (by omega))).trans ho2
  rw [sm_cw9 hj geo bd] at e9
  have hc := c_Camp_stake (Γ := Γ) (sg := sg) (sw := sw) (h := smC Γ A h Ys) (c := c) (g := g) (g2 := g2) (o := o) (o2 := o2) (z := z) (A := a) (K := K) (σ := σ) (τ := τ) (T := T) (F := F) (U := U) (G := G) (P := P) (ms := ms) (x1 := nI r) (x2 := nI k) hs hsn hw geo (by omega) ho' ho2' hT hU hW hV hms hth
  rw [stake_tell (Ta := a) (K := K) (σ := σ) (τ := τ) (T := T) (U := U) (F := F) (G := G) (P := P) hP hj.1 hr hk] at hc
  rw [e9]
  exact hc
theorem j_depot (hj : AJ A c z0) (hJ : JW Γ A c Yc Ys N dg h h') (hms : MsOk Γ ms) (hth : ThOk Γ) {r k : Nat} {v w : Int32} (hv : v = nI r) (hw : w = nI k) (hr : r < cn A 3) (hk : k < 2) : CallT Γ M_Camp_depot 7 4 24 [.ref c, .int v, .int w] h' z 0 (some (.int (sm_v Yc 3 r k))) h' := by
  subst hv hw
  obtain ⟨sg, sw, g, g2, o, o2, a, K, σ, τ, T, F, U, G, P, ⟨hs, hsn, hw⟩, geo, bd, hsz, ho, ho2, hT, hU, hV, hP, hI, hO, hd, e9⟩ := hJ
  have hW := aj_wf hj hP
  have ho' : smC Γ A h Ys o = some (.inr (3, [.ref (o + 1), .ref (o + 3)])) := (sm_no (hj.2.1 o (by omega) (by omega))).trans ho
  have ho2' : smC Γ A h Ys o2 = some (.inr (3, [.ref (o2 + 1), .ref (o2 + 3)])) := (sm_no (hj.2.1 o2 (by omega) (by omega))).trans ho2
  rw [sm_cw9 hj geo bd] at e9
  have hc := c_Camp_depot (Γ := Γ) (sg := sg) (sw := sw) (h := smC Γ A h Ys) (c := c) (g := g) (g2 := g2) (o := o) (o2 := o2) (z := z) (A := a) (K := K) (σ := σ) (τ := τ) (T := T) (F := F) (U := U) (G := G) (P := P) (ms := ms) (x1 := nI r) (x2 := nI k) hs hsn hw geo (by omega) ho' ho2' hT hU hW hV hms hth
  rw [depot_tell (Ta := a) (K := K) (σ := σ) (τ := τ) (T := T) (U := U) (F := F) (G := G) (P := P) hP hj.1 hr hk] at hc
  rw [e9]
  exact hc
theorem j_team (hj : AJ A c z0) (hJ : JW Γ A c Yc Ys N dg h h') (hms : MsOk Γ ms) (hth : ThOk Γ) {r k : Nat} {v w : Int32} (hv : v = nI r) (hw : w = nI k) (hr : r < cn A 4) (hk : k < 8) : CallT Γ M_Camp_team 7 4 24 [.ref c, .int v, .int w] h' z 0 (some (.int (sm_v Yc 4 r k))) h' := by
  subst hv hw
  obtain ⟨sg, sw, g, g2, o, o2, a, K, σ, τ, T, F, U, G, P, ⟨hs, hsn, hw⟩, geo, bd, hsz, ho, ho2, hT, hU, hV, hP, hI, hO, hd, e9⟩ := hJ
  have hW := aj_wf hj hP
  have ho' : smC Γ A h Ys o = some (.inr (3, [.ref (o + 1), .ref (o + 3)])) := (sm_no (hj.2.1 o (by omega) (by omega))).trans ho
  have ho2' : smC Γ A h Ys o2 = some (.inr (3, [.ref (o2 + 1), .ref (o2 + 3)])) := (sm_no (hj.2.1 o2 (by omega) (by omega))).trans ho2
  rw [sm_cw9 hj geo bd] at e9
  have hc := c_Camp_team (Γ := Γ) (sg := sg) (sw := sw) (h := smC Γ A h Ys) (c := c) (g := g) (g2 := g2) (o := o) (o2 := o2) (z := z) (A := a) (K := K) (σ := σ) (τ := τ) (T := T) (F := F) (U := U) (G := G) (P := P) (ms := ms) (x1 := nI r) (x2 := nI k) hs hsn hw geo (by omega) ho' ho2' hT hU hW hV hms hth
  rw [team_tell (Ta := a) (K := K) (σ := σ) (τ := τ) (T := T) (U := U) (F := F) (G := G) (P := P) hP hj.1 hr hk] at hc
  rw [e9]
  exact hc
theorem j_crevasse (hj : AJ A c z0) (hJ : JW Γ A c Yc Ys N dg h h') (hms : MsOk Γ ms) (hth : ThOk Γ) {r k : Nat} {v w : Int32} (hv : v = nI r) (hw : w = nI k) (hr : r < cn A 2) (hk : k < 6) : CallT Γ M_Camp_crevasse 7 4 24 [.ref c, .int v, .int w] h' z 0 (some (.int (if k = 2 then s_Sim_isKnown Yc r else sm_v Yc 2 r k))) h' := by
  subst hv hw
  obtain ⟨sg, sw, g, g2, o, o2, a, K, σ, τ, T, F, U, G, P, ⟨hs, hsn, hw⟩, geo, bd, hsz, ho, ho2, hT, hU, hV, hP, hI, hO, hd, e9⟩ := hJ
  have hW := aj_wf hj hP
  have ho' : smC Γ A h Ys o = some (.inr (3, [.ref (o + 1), .ref (o + 3)])) := (sm_no (hj.2.1 o (by omega) (by omega))).trans ho
  have ho2' : smC Γ A h Ys o2 = some (.inr (3, [.ref (o2 + 1), .ref (o2 + 3)])) := (sm_no (hj.2.1 o2 (by omega) (by omega))).trans ho2
  rw [sm_cw9 hj geo bd] at e9
  have hc := c_Camp_crevasse (Γ := Γ) (sg := sg) (sw := sw) (h := smC Γ A h Ys) (c := c) (g := g) (g2 := g2) (o := o) (o2 := o2) (z := z) (A := a) (K := K) (σ := σ) (τ := τ) (T := T) (F := F) (U := U) (G := G) (P := P) (ms := ms) (x1 := nI r) (x2 := nI k) hs hsn hw geo (by omega) ho' ho2' hT hU hW hV hms hth
  rw [crev_tell (Ta := a) (K := K) (σ := σ) (τ := τ) (T := T) (U := U) (F := F) (G := G) (P := P) hP hj.1 hr hk] at hc
  rw [e9]
  exact hc
theorem j_melt (hj : AJ A c z0) (hJ : JW Γ A c Yc Ys N dg h h') (hms : MsOk Γ ms) (hth : ThOk Γ) {r : Nat} {v w : Int32} (hv : v = nI r) (hw : w = 1) (hr : r < cn A 0) : CallT Γ M_Camp_melt 7 4 24 [.ref c, .int v, .int w] h' z 0 (some (.int (3 * iMax 0 (sm_wa Yc (sm_dy Yc % 8) - sm_v Yc 0 r 0)))) h' := by
  subst hv hw
  obtain ⟨sg, sw, g, g2, o, o2, a, K, σ, τ, T, F, U, G, P, ⟨hs, hsn, hw⟩, geo, bd, hsz, ho, ho2, hT, hU, hV, hP, hI, hO, hd, e9⟩ := hJ
  have hW := aj_wf hj hP
  have ho' : smC Γ A h Ys o = some (.inr (3, [.ref (o + 1), .ref (o + 3)])) := (sm_no (hj.2.1 o (by omega) (by omega))).trans ho
  have ho2' : smC Γ A h Ys o2 = some (.inr (3, [.ref (o2 + 1), .ref (o2 + 3)])) := (sm_no (hj.2.1 o2 (by omega) (by omega))).trans ho2
  rw [sm_cw9 hj geo bd] at e9
  have hc := c_Camp_melt (Γ := Γ) (sg := sg) (sw := sw) (h := smC Γ A h Ys) (c := c) (g := g) (g2 := g2) (o := o) (o2 := o2) (z := z) (A := a) (K := K) (σ := σ) (τ := τ) (T := T) (F := F) (U := U) (G := G) (P := P) (ms := ms) (x1 := nI r) (x2 := 1) hs hsn hw geo (by omega) ho' ho2' hT hU hW hV hms hth
  rw [melt_tell (Ta := a) (K := K) (σ := σ) (τ := τ) (T := T) (U := U) (F := F) (G := G) (P := P) hP hj.1 hr] at hc
  rw [e9]
  exact hc
theorem j_safe (hj : AJ A c z0) (hJ : JW Γ A c Yc Ys N dg h h') (hms : MsOk Γ ms) (hth : ThOk Γ) {r : Nat} {v x : Int32} (hv : v = nI r) (hr : r < cn A 4) : CallT Γ M_Camp_safe 7 4 24 [.ref c, .int v, .int x] h' z 0 (some (.int (if s_Sim_can A Yc r x = 0 then 0 else if 0 ≤ fallN (fallF Yc r (wayF Yc (lowF Yc r x) x (cn A 2) 0 [])) then 0 else 1))) h' := by
  subst hv
  obtain ⟨sg, sw, g, g2, o, o2, a, K, σ, τ, T, F, U, G, P, ⟨hs, hsn, hw⟩, geo, bd, hsz, ho, ho2, hT, hU, hV, hP, hI, hO, hd, e9⟩ := hJ
  have hW := aj_wf hj hP
  have ho' : smC Γ A h Ys o = some (.inr (3, [.ref (o + 1), .ref (o + 3)])) := (sm_no (hj.2.1 o (by omega) (by omega))).trans ho
  have ho2' : smC Γ A h Ys o2 = some (.inr (3, [.ref (o2 + 1), .ref (o2 + 3)])) := (sm_no (hj.2.1 o2 (by omega) (by omega))).trans ho2
  rw [sm_cw9 hj geo bd] at e9
  have hc := c_Camp_safe (Γ := Γ) (sg := sg) (sw := sw) (h := smC Γ A h Ys) (c := c) (g := g) (g2 := g2) (o := o) (o2 := o2) (z := z) (A := a) (K := K) (σ := σ) (τ := τ) (T := T) (F := F) (U := U) (G := G) (P := P) (ms := ms) (x1 := nI r) (x2 := x) hs hsn hw geo (by omega) ho' ho2' hT hU hW hV hms hth
  rw [safe_tell (Ta := a) (K := K) (σ := σ) (τ := τ) (T := T) (U := U) (F := F) (G := G) (P := P) hP hj.1 hI.1 hr] at hc
  rw [e9]
  exact hc
theorem j_band (hj : AJ A c z0) (hJ : JW Γ A c Yc Ys N dg h h') (hms : MsOk Γ ms) (hth : ThOk Γ) {r k : Nat} {v w : Int32} (hv : v = nI r) (hw : w = nI k) (hr : r < cn A 0) (hk : k < 6) : CallT Γ M_Camp_band 7 4 24 [.ref c, .int v, .int w] h' z 0 (some (.int (tellB A Yc r k))) h' := by
  subst hv hw
  obtain ⟨sg, sw, g, g2, o, o2, a, K, σ, τ, T, F, U, G, P, ⟨hs, hsn, hw⟩, geo, bd, hsz, ho, ho2, hT, hU, hV, hP, hI, hO, hd, e9⟩ := hJ
  have hW := aj_wf hj hP
  have ho' : smC Γ A h Ys o = some (.inr (3, [.ref (o + 1), .ref (o + 3)])) := (sm_no (hj.2.1 o (by omega) (by omega))).trans ho
  have ho2' : smC Γ A h Ys o2 = some (.inr (3, [.ref (o2 + 1), .ref (o2 + 3)])) := (sm_no (hj.2.1 o2 (by omega) (by omega))).trans ho2
  rw [sm_cw9 hj geo bd] at e9
  have hc := c_Camp_band (Γ := Γ) (sg := sg) (sw := sw) (h := smC Γ A h Ys) (c := c) (g := g) (g2 := g2) (o := o) (o2 := o2) (z := z) (A := a) (K := K) (σ := σ) (τ := τ) (T := T) (F := F) (U := U) (G := G) (P := P) (ms := ms) (x1 := nI r) (x2 := nI k) hs hsn hw geo (by omega) ho' ho2' hT hU hW hV hms hth
  have ht : s_Camp_band a K σ τ T F U G P (nI r) (nI k) = (0, tellB A Yc r k) := by
    obtain ⟨t3, t4, t5⟩ := band_tell3 (Ta := a) (K := K) (σ := σ) (τ := τ) (T := T) (U := U) (F := F) (G := G) (P := P) hP hj.1 hr
    rcases (show k = 0 ∨ k = 1 ∨ k = 2 ∨ k = 3 ∨ k = 4 ∨ k = 5 by omega) with e | e | e | e | e | e <;> rw [e]
    · exact band_tell hP hj.1 hr (by decide)
    · exact band_tell hP hj.1 hr (by decide)
    · exact band_tell hP hj.1 hr (by decide)
    · exact t3
    · exact t4
    · exact t5
  rw [ht] at hc
  rw [e9]
  exact hc
theorem j_digest (hj : AJ A c z0) (hJ : JW Γ A c Yc Ys N dg h h') : CallR Γ M_Camp_digest 4 [.ref c] h' z (some (.long dg)) h' := by
  obtain ⟨sg, sw, g, g2, o, o2, a, K, σ, τ, T, F, U, G, P, ⟨hs, hsn, hw⟩, geo, bd, hsz, ho, ho2, hT, hU, hV, hP, hI, hO, hd, e9⟩ := hJ
  have hW := aj_wf hj hP
  have ho' : smC Γ A h Ys o = some (.inr (3, [.ref (o + 1), .ref (o + 3)])) := (sm_no (hj.2.1 o (by omega) (by omega))).trans ho
  have ho2' : smC Γ A h Ys o2 = some (.inr (3, [.ref (o2 + 1), .ref (o2 + 3)])) := (sm_no (hj.2.1 o2 (by omega) (by omega))).trans ho2
  rw [sm_cw9 hj geo bd] at e9
  have hc := c_Camp_digest (Γ := Γ) (sg := sg) (sw := sw) (h := smC Γ A h Ys) (c := c) (g := g) (g2 := g2) (o := o) (o2 := o2) (z := z) (A := a) (K := K) (σ := σ) (τ := τ) (T := T) (F := F) (U := U) (G := G) (P := P) hs hsn hw geo (by omega) ho' ho2' hT hU hW hV
  rw [hd] at hc
  rw [e9]
  exact hc
theorem pm_until {A : AD} {σ τ : GL} {Y : SM} {N : Nat} {T U : TM} {F G : FM} {Ta : TA} {K : TK} {P : CP} (hP : PM A σ Y) (hA : AOk A) (h : RI A Y N) (ho : OR A Y T F) {s : Nat} (hs : s < cn A 1) (hd : sm_dy Y + 99 < 1000000) : ∃ Z, PM A (s_Camp_until Ta K σ τ T F U G P (nI s)).2.2.1 Z := by
  have h8 := hA.2.2 1 (by decide)
  have hloop : ∀ (k i : Nat) (ρ : GL) (Z : SM) (F : FM) (N : Nat), PM A ρ Z → RI A Z N → OR A Z T F → sm_dy Z + k < 1000000 → ∃ Z2, PM A (l_Camp_until_24 Ta K σ T U G P (nI s) k i ρ F).2.2.1 Z2 := by
    intro k
    induction k with
    | zero =>
      intro i ρ Z F N hp hz hor hdz
      unfold l_Camp_until_24
      by_cases c : gG ρ 1 (nI s) 3 = 0
      · rw [if_pos c]
        exact ⟨Z, hp⟩
      · rw [if_neg c]
        exact ⟨Z, hp⟩
    | succ k ih =>
      intro i ρ Z F N hp hz hor hdz
      unfold l_Camp_until_24
      by_cases c : gG ρ 1 (nI s) 3 = 0
      · rw [if_pos c]
        exact ⟨Z, hp⟩
      · rw [if_neg c]
        obtain ⟨q1, q2, q3, q4⟩ := passDay_eq hp hA hz hor (by omega)
        exact ih (i + 1) _ _ _ _ q1 q2 q3 (by rw [q4]; omega)
  unfold s_Camp_until
  rw [if_pos (in_row (hP.1 1 (by decide)) hs (by omega))]
  exact hloop 99 0 _ _ _ _ (become_ok hP) h ho hd
theorem pm_foresee {A : AD} {σ τ : GL} {Y : SM} {N : Nat} {T U : TM} {F G : FM} {Ta : TA} {K : TK} {P : CP} (hP : PM A σ Y) (hA : AOk A) (h : RI A Y N) (ho : OR A Y T F) (hd : sm_dy Y + 1 < 1000000) : PM A (s_Camp_foresee Ta K σ τ T F U G P 1 9).2.2.1 (dayF A Y) ∧ PM A (s_Camp_foresee Ta K σ τ T F U G P 1 11).2.2.1 (dayF A Y) := by
  have hr : s_Camp_needRange 1 1 60 = 0 := by decide
  obtain ⟨q1, q2, q3, q4⟩ := passDay_eq (become_ok (τ := τ) hP) hA h ho hd
  have e1 : (1 : Int32).toNatClampNeg = 1 := by decide
  unfold s_Camp_foresee
  rw [if_pos hr, if_pos hr, if_neg (show ¬ (9 : Int32) < 7 by decide), if_pos (show (9 : Int32) ≤ 12 by decide), if_neg (show ¬ (11 : Int32) < 7 by decide), if_pos (show (11 : Int32) ≤ 12 by decide), e1]
  exact ⟨q1, q1⟩
theorem j_until (hj : AJ A c z0) (hJ : JW Γ A c Yc Ys N dg h h') (hms : MsOk Γ ms) (hth : ThOk Γ) (hN : N ≤ 900000) {s : Nat} {v : Int32} (hv : v = nI s) (hr : s < cn A 1) : ∃ h2 w, JW Γ A c Yc Ys N dg h h2 ∧ (w = 0 ↔ sm_v Yc 1 s 3 = 0) ∧ CallT Γ M_Camp_until 7 4 24 [.ref c, .int v] h' z 0 (some (.int w)) h2 := by
  subst hv
  obtain ⟨sg, sw, g, g2, o, o2, a, K, σ, τ, T, F, U, G, P, ⟨hs, hsn, hw⟩, geo, bd, hsz, ho, ho2, hT, hU, hV, hP, hI, hO, hd, e9⟩ := hJ
  have hW := aj_wf hj hP
  have ho' : smC Γ A h Ys o = some (.inr (3, [.ref (o + 1), .ref (o + 3)])) := (sm_no (hj.2.1 o (by omega) (by omega))).trans ho
  have ho2' : smC Γ A h Ys o2 = some (.inr (3, [.ref (o2 + 1), .ref (o2 + 3)])) := (sm_no (hj.2.1 o2 (by omega) (by omega))).trans ho2
  rw [sm_cw9 hj geo bd] at e9
  have hdy := hI.2.2.2.2
  have hc := c_Camp_until (Γ := Γ) (sg := sg) (sw := sw) (h := smC Γ A h Ys) (c := c) (g := g) (g2 := g2) (o := o) (o2 := o2) (z := z) (A := a) (K := K) (σ := σ) (τ := τ) (T := T) (F := F) (U := U) (G := G) (P := P) (ms := ms) (x1 := nI s) hs hsn hw geo (by omega) ho' ho2' hT hU hW hV hms hth
  obtain ⟨u1, u2, u3⟩ := until_tell (Ta := a) (K := K) (σ := σ) (τ := τ) (T := T) (U := U) (F := F) (G := G) (P := P) hP hj.1 hI.1 hO hr (by omega)
  obtain ⟨Z, hZ⟩ := pm_until (Ta := a) (K := K) (σ := σ) (τ := τ) (T := T) (U := U) (F := F) (G := G) (P := P) hP hj.1 hI.1 hO hr (by omega)
  rw [u1] at hc
  exact ⟨_, _, ⟨sg, sw, g, g2, o, o2, a, K, σ, _, T, _, U, G, P, ⟨hs, hsn, hw⟩, geo, bd, hsz, ho, ho2, hT, hU, aj_wf hj hZ, hP, hI, u3, dg_same.symm.trans hd, (sm_cw9 hj geo bd).symm⟩, u2, by rw [e9]; exact hc⟩
theorem j_foresee9 (hj : AJ A c z0) (hJ : JW Γ A c Yc Ys N dg h h') (hms : MsOk Γ ms) (hth : ThOk Γ) (hN : N ≤ 900000) {v w : Int32} (hv : v = 1) (hw9 : w = 9) : ∃ h2, JW Γ A c Yc Ys N dg h h2 ∧ CallT Γ M_Camp_foresee 7 4 24 [.ref c, .int v, .int w] h' z 0 (some (.int (sm_rd (dayF A Yc)))) h2 := by
  subst hv hw9
  obtain ⟨sg, sw, g, g2, o, o2, a, K, σ, τ, T, F, U, G, P, ⟨hs, hsn, hw⟩, geo, bd, hsz, ho, ho2, hT, hU, hV, hP, hI, hO, hd, e9⟩ := hJ
  have hW := aj_wf hj hP
  have ho' : smC Γ A h Ys o = some (.inr (3, [.ref (o + 1), .ref (o + 3)])) := (sm_no (hj.2.1 o (by omega) (by omega))).trans ho
  have ho2' : smC Γ A h Ys o2 = some (.inr (3, [.ref (o2 + 1), .ref (o2 + 3)])) := (sm_no (hj.2.1 o2 (by omega) (by omega))).trans ho2
  rw [sm_cw9 hj geo bd] at e9
  have hdy := hI.2.2.2.2
  have hc := c_Camp_foresee (Γ := Γ) (sg := sg) (sw := sw) (h := smC Γ A h Ys) (c := c) (g := g) (g2 := g2) (o := o) (o2 := o2) (z := z) (A := a) (K := K) (σ := σ) (τ := τ) (T := T) (F := F) (U := U) (G := G) (P := P) (ms := ms) (x1 := 1) (x2 := 9) hs hsn hw geo (by omega) ho' ho2' hT hU hW hV hms hth
  obtain ⟨f1, f2, f3, -, -, -⟩ := foresee_tell (Ta := a) (K := K) (σ := σ) (τ := τ) (T := T) (U := U) (F := F) (G := G) (P := P) hP hj.1 hI.1 hO hI.2.1 (by omega)
  have hZ := (pm_foresee (Ta := a) (K := K) (σ := σ) (τ := τ) (T := T) (U := U) (F := F) (G := G) (P := P) hP hj.1 hI.1 hO (by omega)).1
  rw [f1, f2] at hc
  exact ⟨_, ⟨sg, sw, g, g2, o, o2, a, K, σ, _, T, _, U, G, P, ⟨hs, hsn, hw⟩, geo, bd, hsz, ho, ho2, hT, hU, aj_wf hj hZ, hP, hI, f3, dg_same.symm.trans hd, (sm_cw9 hj geo bd).symm⟩, by rw [e9]; exact hc⟩
theorem j_foresee11 (hj : AJ A c z0) (hJ : JW Γ A c Yc Ys N dg h h') (hms : MsOk Γ ms) (hth : ThOk Γ) (hN : N ≤ 900000) {v w : Int32} (hv : v = 1) (hw9 : w = 11) : ∃ h2, JW Γ A c Yc Ys N dg h h2 ∧ CallT Γ M_Camp_foresee 7 4 24 [.ref c, .int v, .int w] h' z 0 (some (.int (sm_ca (dayF A Yc)))) h2 := by
  subst hv hw9
  obtain ⟨sg, sw, g, g2, o, o2, a, K, σ, τ, T, F, U, G, P, ⟨hs, hsn, hw⟩, geo, bd, hsz, ho, ho2, hT, hU, hV, hP, hI, hO, hd, e9⟩ := hJ
  have hW := aj_wf hj hP
  have ho' : smC Γ A h Ys o = some (.inr (3, [.ref (o + 1), .ref (o + 3)])) := (sm_no (hj.2.1 o (by omega) (by omega))).trans ho
  have ho2' : smC Γ A h Ys o2 = some (.inr (3, [.ref (o2 + 1), .ref (o2 + 3)])) := (sm_no (hj.2.1 o2 (by omega) (by omega))).trans ho2
  rw [sm_cw9 hj geo bd] at e9
  have hdy := hI.2.2.2.2
  have hc := c_Camp_foresee (Γ := Γ) (sg := sg) (sw := sw) (h := smC Γ A h Ys) (c := c) (g := g) (g2 := g2) (o := o) (o2 := o2) (z := z) (A := a) (K := K) (σ := σ) (τ := τ) (T := T) (F := F) (U := U) (G := G) (P := P) (ms := ms) (x1 := 1) (x2 := 11) hs hsn hw geo (by omega) ho' ho2' hT hU hW hV hms hth
  obtain ⟨-, -, -, f1, f2, f3⟩ := foresee_tell (Ta := a) (K := K) (σ := σ) (τ := τ) (T := T) (U := U) (F := F) (G := G) (P := P) hP hj.1 hI.1 hO hI.2.1 (by omega)
  have hZ := (pm_foresee (Ta := a) (K := K) (σ := σ) (τ := τ) (T := T) (U := U) (F := F) (G := G) (P := P) hP hj.1 hI.1 hO (by omega)).2
  rw [f1, f2] at hc
  exact ⟨_, ⟨sg, sw, g, g2, o, o2, a, K, σ, _, T, _, U, G, P, ⟨hs, hsn, hw⟩, geo, bd, hsz, ho, ho2, hT, hU, aj_wf hj hZ, hP, hI, f3, dg_same.symm.trans hd, (sm_cw9 hj geo bd).symm⟩, by rw [e9]; exact hc⟩
theorem j_cgo (hj : AJ A c z0) (hJ : JW Γ A c Yc Ys N dg h h') (hms : MsOk Γ ms) (hth : ThOk Γ) {t : Nat} {v x : Int32} (hv : v = nI t) (ht : t < cn A 4) : ∃ h2 dg2, JW Γ A c (s_Sim_goes A Yc t x).2 Ys (N + 1) dg2 h h2 ∧ ∃ w, (¬ (s_Sim_goes A Yc t x).1 = 0 → w = sm_v (s_Sim_goes A Yc t x).2 4 t 2) ∧ CallT Γ M_Camp_go 7 4 24 [.ref c, .int v, .int x] h' z (if (s_Sim_goes A Yc t x).1 = 0 then 3 else 0) (some (.int w)) h2 := by
  subst hv
  obtain ⟨sg, sw, g, g2, o, o2, a, K, σ, τ, T, F, U, G, P, ⟨hs, hsn, hw⟩, geo, bd, hsz, ho, ho2, hT, hU, hV, hP, hI, hO, hd, e9⟩ := hJ
  have hW := aj_wf hj hP
  have ho' : smC Γ A h Ys o = some (.inr (3, [.ref (o + 1), .ref (o + 3)])) := (sm_no (hj.2.1 o (by omega) (by omega))).trans ho
  have ho2' : smC Γ A h Ys o2 = some (.inr (3, [.ref (o2 + 1), .ref (o2 + 3)])) := (sm_no (hj.2.1 o2 (by omega) (by omega))).trans ho2
  rw [sm_cw9 hj geo bd] at e9
  have h8 := hj.1.2.2 4 (by decide)
  have hc := c_Camp_go (Γ := Γ) (sg := sg) (sw := sw) (h := smC Γ A h Ys) (c := c) (g := g) (g2 := g2) (o := o) (o2 := o2) (z := z) (A := a) (K := K) (σ := σ) (τ := τ) (T := T) (F := F) (U := U) (G := G) (P := P) (ms := ms) (x1 := nI t) (x2 := x) hs hsn hw geo (by omega) ho' ho2' hT hU hW hV hms hth
  obtain ⟨e1, e2⟩ := go_eq hP hj.1 ht (x := x) (hI.1.tok ht)
  have hr := in_row (hP.1 4 (by decide)) ht (by omega)
  have hv5 : OR A (s_Sim_goes A Yc t x).2 T F := hO.keep (FK.refl _) v5_goes
  unfold s_Camp_go at hc
  rw [if_pos hr, e1] at hc
  by_cases q : (s_Sim_goes A Yc t x).1 = 0
  · rw [if_pos q] at hc ⊢
    exact ⟨_, _, ⟨sg, sw, g, g2, o, o2, a, K, _, τ, T, F, U, G, P, ⟨hs, hsn, hw⟩, geo, bd, hsz, ho, ho2, hT, hU, hV, e2, hI.goes hj.1 ht, hv5, rfl, (sm_cw9 hj geo bd).symm⟩, _, fun w => absurd q w, by rw [e9]; exact hc⟩
  · rw [if_neg q] at hc ⊢
    refine ⟨_, _, ⟨sg, sw, g, g2, o, o2, a, K, _, τ, T, F, U, G, P, ⟨hs, hsn, hw⟩, geo, bd, hsz, ho, ho2, hT, hU, hV, e2, hI.goes hj.1 ht, hv5, rfl, (sm_cw9 hj geo bd).symm⟩, _, fun _ => ?_, by rw [e9]; exact hc⟩
    exact e2.get hj.1 (k := 4) (c := 2) (by decide) ht (by decide) (by decide)
theorem j_cprobe (hj : AJ A c z0) (hJ : JW Γ A c Yc Ys N dg h h') (hms : MsOk Γ ms) (hth : ThOk Γ) {t r : Nat} {v x : Int32} (hv : v = nI t) (hx : x = nI r) (ht : t < cn A 4) (hr2 : r < cn A 2) : ∃ h2 dg2, JW Γ A c (s_Sim_probes Yc t r).2 Ys (N + 1) dg2 h h2 ∧ ∃ w, (¬ (s_Sim_probes Yc t r).1 = 0 → w = sm_v (s_Sim_probes Yc t r).2 2 r 1) ∧ CallT Γ M_Camp_probe 7 4 24 [.ref c, .int v, .int x] h' z (if (s_Sim_probes Yc t r).1 = 0 then 3 else 0) (some (.int w)) h2 := by
  subst hv hx
  obtain ⟨sg, sw, g, g2, o, o2, a, K, σ, τ, T, F, U, G, P, ⟨hs, hsn, hw⟩, geo, bd, hsz, ho, ho2, hT, hU, hV, hP, hI, hO, hd, e9⟩ := hJ
  have hW := aj_wf hj hP
  have ho' : smC Γ A h Ys o = some (.inr (3, [.ref (o + 1), .ref (o + 3)])) := (sm_no (hj.2.1 o (by omega) (by omega))).trans ho
  have ho2' : smC Γ A h Ys o2 = some (.inr (3, [.ref (o2 + 1), .ref (o2 + 3)])) := (sm_no (hj.2.1 o2 (by omega) (by omega))).trans ho2
  rw [sm_cw9 hj geo bd] at e9
  have h8 := hj.1.2.2 4 (by decide)
  have h82 := hj.1.2.2 2 (by decide)
  have hc := c_Camp_probe (Γ := Γ) (sg := sg) (sw := sw) (h := smC Γ A h Ys) (c := c) (g := g) (g2 := g2) (o := o) (o2 := o2) (z := z) (A := a) (K := K) (σ := σ) (τ := τ) (T := T) (F := F) (U := U) (G := G) (P := P) (ms := ms) (x1 := nI t) (x2 := nI r) hs hsn hw geo (by omega) ho' ho2' hT hU hW hV hms hth
  obtain ⟨e1, e2⟩ := probe_eq hP hj.1 ht hr2 (hI.1.tok ht) (hI.1.2 2 _ (by decide) hr2).1
  have hr := in_row (hP.1 4 (by decide)) ht (by omega)
  have hr3 := in_row (hP.1 2 (by decide)) hr2 (by omega)
  have hv5 : OR A (s_Sim_probes Yc t r).2 T F := hO.keep (FK.refl _) v5_Sim_probes
  unfold s_Camp_probe at hc
  rw [if_pos hr, if_pos hr3, e1] at hc
  by_cases q : (s_Sim_probes Yc t r).1 = 0
  · rw [if_pos q] at hc ⊢
    exact ⟨_, _, ⟨sg, sw, g, g2, o, o2, a, K, _, τ, T, F, U, G, P, ⟨hs, hsn, hw⟩, geo, bd, hsz, ho, ho2, hT, hU, hV, e2, hI.probes ht hr2, hv5, rfl, (sm_cw9 hj geo bd).symm⟩, _, fun w => absurd q w, by rw [e9]; exact hc⟩
  · rw [if_neg q] at hc ⊢
    refine ⟨_, _, ⟨sg, sw, g, g2, o, o2, a, K, _, τ, T, F, U, G, P, ⟨hs, hsn, hw⟩, geo, bd, hsz, ho, ho2, hT, hU, hV, e2, hI.probes ht hr2, hv5, rfl, (sm_cw9 hj geo bd).symm⟩, _, fun _ => ?_, by rw [e9]; exact hc⟩
    exact e2.get hj.1 (k := 2) (c := 1) (by decide) hr2 (by decide) (by decide)
theorem j_cfill (hj : AJ A c z0) (hJ : JW Γ A c Yc Ys N dg h h') (hms : MsOk Γ ms) (hth : ThOk Γ) {t m : Nat} {v x : Int32} (hv : v = nI t) (hx : x = nI m) (ht : t < cn A 4) (hm : 1 ≤ m ∧ m ≤ 40) : ∃ h2 dg2, JW Γ A c (s_Sim_fills A Yc t (nI m)).2 Ys (N + 1) dg2 h h2 ∧ ∃ w, (¬ (s_Sim_fills A Yc t (nI m)).1 = 0 → w = (s_Sim_fills A Yc t (nI m)).1) ∧ CallT Γ M_Camp_fill 7 4 24 [.ref c, .int v, .int x] h' z (if (s_Sim_fills A Yc t (nI m)).1 = 0 then 3 else 0) (some (.int w)) h2 := by
  subst hv hx
  obtain ⟨sg, sw, g, g2, o, o2, a, K, σ, τ, T, F, U, G, P, ⟨hs, hsn, hw⟩, geo, bd, hsz, ho, ho2, hT, hU, hV, hP, hI, hO, hd, e9⟩ := hJ
  have hW := aj_wf hj hP
  have ho' : smC Γ A h Ys o = some (.inr (3, [.ref (o + 1), .ref (o + 3)])) := (sm_no (hj.2.1 o (by omega) (by omega))).trans ho
  have ho2' : smC Γ A h Ys o2 = some (.inr (3, [.ref (o2 + 1), .ref (o2 + 3)])) := (sm_no (hj.2.1 o2 (by omega) (by omega))).trans ho2
  rw [sm_cw9 hj geo bd] at e9
  have h8 := hj.1.2.2 4 (by decide)
  have hc := c_Camp_fill (Γ := Γ) (sg := sg) (sw := sw) (h := smC Γ A h Ys) (c := c) (g := g) (g2 := g2) (o := o) (o2 := o2) (z := z) (A := a) (K := K) (σ := σ) (τ := τ) (T := T) (F := F) (U := U) (G := G) (P := P) (ms := ms) (x1 := nI t) (x2 := nI m) hs hsn hw geo (by omega) ho' ho2' hT hU hW hV hms hth
  obtain ⟨-, ⟨s, hss, hs4⟩, -⟩ := hI.1.2 4 t (by decide) ht
  obtain ⟨e1, e2⟩ := fill_eq hP hj.1 hI.1.fok ht (w := nI m) (hI.1.h01 t ht) hss hs4
  have hr := in_row (hP.1 4 (by decide)) ht (by omega)
  have hr3 : s_Camp_needRange (nI m) 1 40 = 0 := in_range (a := 1) (b := 40) hm.1 hm.2 (by decide)
  have hv5 : OR A (s_Sim_fills A Yc t (nI m)).2 T F := hO.keep (FK.refl _) v5_Sim_fills
  unfold s_Camp_fill at hc
  rw [if_pos hr, if_pos hr3, e1] at hc
  by_cases q : (s_Sim_fills A Yc t (nI m)).1 = 0
  · rw [if_pos q] at hc ⊢
    exact ⟨_, _, ⟨sg, sw, g, g2, o, o2, a, K, _, τ, T, F, U, G, P, ⟨hs, hsn, hw⟩, geo, bd, hsz, ho, ho2, hT, hU, hV, e2, hI.fills hP hj.1 ht, hv5, rfl, (sm_cw9 hj geo bd).symm⟩, _, fun w => absurd q w, by rw [e9]; exact hc⟩
  · rw [if_neg q] at hc ⊢
    exact ⟨_, _, ⟨sg, sw, g, g2, o, o2, a, K, _, τ, T, F, U, G, P, ⟨hs, hsn, hw⟩, geo, bd, hsz, ho, ho2, hT, hU, hV, e2, hI.fills hP hj.1 ht, hv5, rfl, (sm_cw9 hj geo bd).symm⟩, _, fun _ => rfl, by rw [e9]; exact hc⟩
theorem j_cstock (hj : AJ A c z0) (hJ : JW Γ A c Yc Ys N dg h h') (hms : MsOk Γ ms) (hth : ThOk Γ) {r m : Nat} {v x : Int32} (hv : v = nI r) (hx : x = nI m) (hr2 : r < cn A 3) (hm : 1 ≤ m ∧ m ≤ 200) : ∃ h2 dg2, JW Γ A c (sm_set Yc 3 r 1 (iMin 999 (sm_v Yc 3 r 1 + nI m))) Ys (N + 1) dg2 h h2 ∧ CallT Γ M_Camp_stock 7 4 24 [.ref c, .int v, .int x] h' z 0 (some (.int (iMin 999 (sm_v Yc 3 r 1 + nI m)))) h2 := by
  subst hv hx
  obtain ⟨sg, sw, g, g2, o, o2, a, K, σ, τ, T, F, U, G, P, ⟨hs, hsn, hw⟩, geo, bd, hsz, ho, ho2, hT, hU, hV, hP, hI, hO, hd, e9⟩ := hJ
  have hW := aj_wf hj hP
  have ho' : smC Γ A h Ys o = some (.inr (3, [.ref (o + 1), .ref (o + 3)])) := (sm_no (hj.2.1 o (by omega) (by omega))).trans ho
  have ho2' : smC Γ A h Ys o2 = some (.inr (3, [.ref (o2 + 1), .ref (o2 + 3)])) := (sm_no (hj.2.1 o2 (by omega) (by omega))).trans ho2
  rw [sm_cw9 hj geo bd] at e9
  have h8 := hj.1.2.2 3 (by decide)
  have hc := c_Camp_stock (Γ := Γ) (sg := sg) (sw := sw) (h := smC Γ A h Ys) (c := c) (g := g) (g2 := g2) (o := o) (o2 := o2) (z := z) (A := a) (K := K) (σ := σ) (τ := τ) (T := T) (F := F) (U := U) (G := G) (P := P) (ms := ms) (x1 := nI r) (x2 := nI m) hs hsn hw geo (by omega) ho' ho2' hT hU hW hV hms hth
  have hr := in_row (hP.1 3 (by decide)) hr2 (by omega)
  have hr3 : s_Camp_needRange (nI m) 1 200 = 0 := in_range (a := 1) (b := 200) hm.1 hm.2 (by decide)
  have hg := hP.get hj.1 (k := 3) (c := 1) (by decide) hr2 (by decide) (by decide)
  have e2 := hP.set hj.1 (k := 3) (r := r) (c := 1) (v := iMin 999 (sm_v Yc 3 r 1 + nI m)) (by decide) hr2 (by decide) (by decide)
  have hv5 : OR A (sm_set Yc 3 r 1 (iMin 999 (sm_v Yc 3 r 1 + nI m))) T F := hO.keep (FK.refl _) v5_set3
  unfold s_Camp_stock at hc
  rw [if_pos hr, if_pos hr3, hg] at hc
  exact ⟨_, _, ⟨sg, sw, g, g2, o, o2, a, K, _, τ, T, F, U, G, P, ⟨hs, hsn, hw⟩, geo, bd, hsz, ho, ho2, hT, hU, hV, e2, hI.stock hr2 hm.2, hv5, rfl, (sm_cw9 hj geo bd).symm⟩, by rw [e9]; exact hc⟩
theorem j_cwarm (hj : AJ A c z0) (hJ : JW Γ A c Yc Ys N dg h h') (hms : MsOk Γ ms) (hth : ThOk Γ) {r m : Nat} {v x : Int32} (hv : v = nI r) (hx : x = nI m) (hr2 : r < 8) (hm : m ≤ 30) : ∃ h2 dg2, JW Γ A c (sm_wa' Yc (upd (sm_wa Yc) r (nI m))) Ys (N + 1) dg2 h h2 ∧ CallT Γ M_Camp_setWarm 7 4 24 [.ref c, .int v, .int x] h' z 0 (some (.int (sm_wa Yc r))) h2 := by
  subst hv hx
  obtain ⟨sg, sw, g, g2, o, o2, a, K, σ, τ, T, F, U, G, P, ⟨hs, hsn, hw⟩, geo, bd, hsz, ho, ho2, hT, hU, hV, hP, hI, hO, hd, e9⟩ := hJ
  have hW := aj_wf hj hP
  have ho' : smC Γ A h Ys o = some (.inr (3, [.ref (o + 1), .ref (o + 3)])) := (sm_no (hj.2.1 o (by omega) (by omega))).trans ho
  have ho2' : smC Γ A h Ys o2 = some (.inr (3, [.ref (o2 + 1), .ref (o2 + 3)])) := (sm_no (hj.2.1 o2 (by omega) (by omega))).trans ho2
  rw [sm_cw9 hj geo bd] at e9
  have hc := c_Camp_setWarm (Γ := Γ) (sg := sg) (sw := sw) (h := smC Γ A h Ys) (c := c) (g := g) (g2 := g2) (o := o) (o2 := o2) (z := z) (A := a) (K := K) (σ := σ) (τ := τ) (T := T) (F := F) (U := U) (G := G) (P := P) (ms := ms) (x1 := nI r) (x2 := nI m) hs hsn hw geo (by omega) ho' ho2' hT hU hW hV hms hth
  have hr : s_Camp_needWhat (nI r) 8 = 0 := in_what (b := 8) rfl hr2 (by decide)
  have hr3 : s_Camp_needRange (nI m) 0 30 = 0 := in_range (a := 0) (b := 30) (Nat.zero_le _) hm (by decide)
  obtain ⟨e1, e2⟩ := warm_eq hP (v := nI m) hr2
  have hv5 : OR A (sm_wa' Yc (upd (sm_wa Yc) r (nI m))) T F := hO.keep (FK.refl _) rfl
  unfold s_Camp_setWarm at hc
  rw [if_pos hr, if_pos hr3, e1] at hc
  exact ⟨_, _, ⟨sg, sw, g, g2, o, o2, a, K, _, τ, T, F, U, G, P, ⟨hs, hsn, hw⟩, geo, bd, hsz, ho, ho2, hT, hU, hV, e2, hI.warm rfl hm, hv5, rfl, (sm_cw9 hj geo bd).symm⟩, by rw [e9]; exact hc⟩
theorem j_cpass (hj : AJ A c z0) (hJ : JW Γ A c Yc Ys N dg h h') (hms : MsOk Γ ms) (hth : ThOk Γ) (hN : N ≤ 900000) {n : Nat} {v : Int32} (hv : v = nI n) (hn : 1 ≤ n ∧ n ≤ 60) : ∃ h2 dg2, JW Γ A c (s_Sim_pass A Yc n).2 Ys (N + 80 * n) dg2 h h2 ∧ CallT Γ M_Camp_pass 7 4 24 [.ref c, .int v] h' z 0 (some (.int (s_Sim_pass A Yc n).1)) h2 := by
  subst hv
  obtain ⟨sg, sw, g, g2, o, o2, a, K, σ, τ, T, F, U, G, P, ⟨hs, hsn, hw⟩, geo, bd, hsz, ho, ho2, hT, hU, hV, hP, hI, hO, hd, e9⟩ := hJ
  have hW := aj_wf hj hP
  have ho' : smC Γ A h Ys o = some (.inr (3, [.ref (o + 1), .ref (o + 3)])) := (sm_no (hj.2.1 o (by omega) (by omega))).trans ho
  have ho2' : smC Γ A h Ys o2 = some (.inr (3, [.ref (o2 + 1), .ref (o2 + 3)])) := (sm_no (hj.2.1 o2 (by omega) (by omega))).trans ho2
  rw [sm_cw9 hj geo bd] at e9
  have hdy := hI.2.2.2.2
  have hc := c_Camp_pass (Γ := Γ) (sg := sg) (sw := sw) (h := smC Γ A h Ys) (c := c) (g := g) (g2 := g2) (o := o) (o2 := o2) (z := z) (A := a) (K := K) (σ := σ) (τ := τ) (T := T) (F := F) (U := U) (G := G) (P := P) (ms := ms) (x1 := nI n) hs hsn hw geo (by omega) ho' ho2' hT hU hW hV hms hth
  obtain ⟨e1, e2, e3, e4, e5, e6⟩ := pass_eq (Ta := a) (K := K) (τ := τ) (U := U) (G := G) (P := P) hP hj.1 hI.1 hO hI.2.1 hn (by omega)
  rw [e1, e2] at hc
  exact ⟨_, _, ⟨sg, sw, g, g2, o, o2, a, K, _, τ, T, _, U, G, P, ⟨hs, hsn, hw⟩, geo, bd, hsz, ho, ho2, hT, hU, hV, e3, IV.pass hj.1 n _ _ _ _ hI hP hO (by omega), e4, rfl, (sm_cw9 hj geo bd).symm⟩, by rw [e9]; exact hc⟩
theorem j_sgoes (hj : AJ A c z0) (hJ : JW Γ A c Yc Ys N dg h h') {t : Nat} {v x : Int32} (hv : v = nI t) (ht : t < cn A 4) : ∃ h2, JW Γ A c Yc (s_Sim_goes A Ys t x).2 N dg h h2 ∧ CallG Γ M_Sim_goes 2 18 128 [.ref (ad A 6 0), .int v, .int x] h' z (some (.int (s_Sim_goes A Ys t x).1)) h2 := by
  obtain ⟨sg, sw, g, g2, o, o2, a, K, σ, τ, T, F, U, G, P, hss, geo, bd, hsz, ho, ho2, hT, hU, hV, hP, hI, hO, hd, e9⟩ := hJ
  rw [e9]
  exact ⟨_, ⟨sg, sw, g, g2, o, o2, a, K, σ, τ, T, F, U, G, P, hss, geo, bd, hsz, ho, ho2, hT, hU, hV, hP, hI, hO, hd, rfl⟩, c_Sim_goes hv ht hj.1⟩
theorem j_sprobes (hj : AJ A c z0) (hJ : JW Γ A c Yc Ys N dg h h') {t r : Nat} {v x : Int32} (hv : v = nI t) (hx : x = nI r) (ht : t < cn A 4) (hr : r < cn A 2) : ∃ h2, JW Γ A c Yc (s_Sim_probes Ys t r).2 N dg h h2 ∧ CallR Γ M_Sim_probes 0 [.ref (ad A 6 0), .int v, .int x] h' z (some (.int (s_Sim_probes Ys t r).1)) h2 := by
  obtain ⟨sg, sw, g, g2, o, o2, a, K, σ, τ, T, F, U, G, P, hss, geo, bd, hsz, ho, ho2, hT, hU, hV, hP, hI, hO, hd, e9⟩ := hJ
  rw [e9]
  exact ⟨_, ⟨sg, sw, g, g2, o, o2, a, K, σ, τ, T, F, U, G, P, hss, geo, bd, hsz, ho, ho2, hT, hU, hV, hP, hI, hO, hd, rfl⟩, c_Sim_probes hv ht hx hr hj.1⟩
theorem j_sfills (hj : AJ A c z0) (hJ : JW Γ A c Yc Ys N dg h h') {t : Nat} {v x : Int32} (hv : v = nI t) (ht : t < cn A 4) : ∃ h2, JW Γ A c Yc (s_Sim_fills A Ys t x).2 N dg h h2 ∧ CallR Γ M_Sim_fills 0 [.ref (ad A 6 0), .int v, .int x] h' z (some (.int (s_Sim_fills A Ys t x).1)) h2 := by
  obtain ⟨sg, sw, g, g2, o, o2, a, K, σ, τ, T, F, U, G, P, hss, geo, bd, hsz, ho, ho2, hT, hU, hV, hP, hI, hO, hd, e9⟩ := hJ
  rw [e9]
  exact ⟨_, ⟨sg, sw, g, g2, o, o2, a, K, σ, τ, T, F, U, G, P, hss, geo, bd, hsz, ho, ho2, hT, hU, hV, hP, hI, hO, hd, rfl⟩, c_Sim_fills hv ht hj.1⟩
theorem j_spass (hj : AJ A c z0) (hJ : JW Γ A c Yc Ys N dg h h') {n : Nat} {v : Int32} (hv : v = nI n) (hn : n ≤ 100) (hord : OrdsOk A Ys) (hdy : sm_dy Ys + n < 1000000) : ∃ h2, JW Γ A c Yc (s_Sim_pass A Ys n).2 N dg h h2 ∧ CallG Γ M_Sim_pass 4 (n * 144) (n * 1024) [.ref (ad A 6 0), .int v] h' z (some (.int (s_Sim_pass A Ys n).1)) h2 := by
  obtain ⟨sg, sw, g, g2, o, o2, a, K, σ, τ, T, F, U, G, P, hss, geo, bd, hsz, ho, ho2, hT, hU, hV, hP, hI, hO, hd, e9⟩ := hJ
  rw [e9]
  exact ⟨_, ⟨sg, sw, g, g2, o, o2, a, K, σ, τ, T, F, U, G, P, hss, geo, bd, hsz, ho, ho2, hT, hU, hV, hP, hI, hO, hd, rfl⟩, c_Sim_pass hv hn hj.1 hord hdy⟩
theorem j_sknown (hj : AJ A c z0) (hJ : JW Γ A c Yc Ys N dg h h') {r : Nat} {v : Int32} (hv : v = nI r) (hr : r < cn A 2) : CallR Γ M_Sim_isKnown 0 [.ref (ad A 6 0), .int v] h' z (some (.int (s_Sim_isKnown Ys r))) h' := by
  obtain ⟨sg, sw, g, g2, o, o2, a, K, σ, τ, T, F, U, G, P, hss, geo, bd, hsz, ho, ho2, hT, hU, hV, hP, hI, hO, hd, e9⟩ := hJ
  rw [e9]
  exact c_Sim_isKnown hv hr hj.1
end Jw
