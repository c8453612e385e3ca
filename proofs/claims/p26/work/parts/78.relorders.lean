/-! the orders of both carried out -/
def doC (T : TM) (σ : GL) (F : FM) (x1 : Int32) : Int32 × GL × FM := (if (tgI T x1 0) = 0 then ((s_Glacier_tryGo σ (tgI T x1 1) 1).1, (s_Glacier_tryGo σ (tgI T x1 1) 1).2, F) else (if (tgI T x1 0) = 1 then ((s_Glacier_tryGo σ (tgI T x1 1) 0).1, (s_Glacier_tryGo σ (tgI T x1 1) 0).2, F) else (if (tgI T x1 0) = 2 then ((s_Glacier_tryProbe σ (tgI T x1 1) (tgI T x1 2)).1, (s_Glacier_tryProbe σ (tgI T x1 1) (tgI T x1 2)).2, F) else (if (tgI T x1 0) = 3 then (if (s_Glacier_takeFood σ (tgI T x1 1) (s_Formulas_worth σ F (tgI T x1 3) (tgI T x1 4)).1).1 ≤ 0 then (0, (s_Glacier_takeFood σ (tgI T x1 1) (s_Formulas_worth σ F (tgI T x1 3) (tgI T x1 4)).1).2, (s_Formulas_worth σ F (tgI T x1 3) (tgI T x1 4)).2) else (1, (s_Glacier_takeFood σ (tgI T x1 1) (s_Formulas_worth σ F (tgI T x1 3) (tgI T x1 4)).1).2, (s_Formulas_worth σ F (tgI T x1 3) (tgI T x1 4)).2)) else ((s_Glacier_tryDrill σ (tgI T x1 2)).1, (s_Glacier_tryDrill σ (tgI T x1 2)).2, F)))))
theorem carry_c (T : TM) (σ : GL) (F : FM) (x1 : Int32) : s_Orders_carryOut T σ F x1 = (if (tgI T x1 6) ≤ (tgI T x1 5) then doC T σ F x1 else (if (s_Formulas_worth σ F (tgI T x1 5) (tgI T x1 6)).1 = 0 then (0, σ, (s_Formulas_worth σ F (tgI T x1 5) (tgI T x1 6)).2) else doC T σ (s_Formulas_worth σ F (tgI T x1 5) (tgI T x1 6)).2 x1)) := rfl
def FHas (F : FM) (s : Nat) (c : List (Fin 54 × Int32)) : Prop := ∀ j p, c[j]? = some p → fm_sg F (s + j) = some p.1 ∧ fm_op F (s + j) = p.2
theorem FHas.keep {F F' : FM} {s : Nat} {c : List (Fin 54 × Int32)} (h : FHas F s c) (hk : FK F F') : FHas F' s c := fun j p hj => by rw [hk.1, hk.2.1]; exact h j p hj
theorem run_code {σ : GL} {F : FM} : ∀ (c : List (Fin 54 × Int32)) (s : Nat) (l : List Int32), FHas F s c → run σ F c.length s l = runL σ c l
  | [], _, _, _ => rfl
  | p :: c, s, l, h => by
    obtain ⟨e1, e2⟩ := h 0 p rfl
    rw [Nat.add_zero] at e1 e2
    show run σ F c.length (s + 1) (stp σ ((fm_sg F s).getD 0) (fm_op F s) l) = runL σ c (stp σ p.1 p.2 l)
    rw [e1, e2]
    refine run_code c (s + 1) _ (fun j q hj => ?_)
    rw [show s + 1 + j = s + (j + 1) by omega]
    exact h (j + 1) q hj
theorem worth_code {σ : GL} {F : FM} {s : Nat} {c : List (Fin 54 × Int32)} (h : FHas F s c) (h1 : 1 ≤ c.length) (h8 : s + c.length ≤ 800) : (s_Formulas_worth σ F (nI s) (nI (s + c.length))).1 = (runL σ c []).headD 0 ∧ FK F (s_Formulas_worth σ F (nI s) (nI (s + c.length))).2 := by
  have := worth_eq (σ := σ) (F := F) (a := s) (b := s + c.length) (by omega) h8 (fun j q1 q2 => by
    have hj : c[j - s]? = some (c[j - s]'(by omega)) := List.getElem?_eq_getElem (by omega)
    have := (h (j - s) _ hj).1
    rw [show s + (j - s) = j by omega] at this
    rw [this]
    exact fun w => by cases w)
  rw [Nat.add_sub_cancel_left, run_code c s [] h] at this
  exact this
theorem codeS_len (o : Nat → Nat) : 1 ≤ (codeS o).length := by
  unfold codeS
  repeat' split
  all_goals exact Nat.le_of_ble_eq_true rfl
theorem codeW_len (o : Nat → Nat) {x : Int32} (h : ¬ x = -1) : 1 ≤ (codeW o x).length := by
  unfold codeW
  rw [if_neg h]
  repeat' split
  all_goals exact Nat.le_of_ble_eq_true rfl
/-- an order as the class keeps it -/
def OC (T : TM) (F : FM) (r : Nat) (a : RO) : Prop := T.1 (8 * r + 0) = nI (oF a 0) ∧ (oF a 0 ≠ 2 → oF a 0 ≠ 4 → T.1 (8 * r + 1) = nI (oF a 1)) ∧ (oF a 0 = 2 → T.1 (8 * r + 1) = nI (oF a 2) ∧ T.1 (8 * r + 2) = nI (oF a 1)) ∧ (oF a 0 = 4 → T.1 (8 * r + 2) = nI (oF a 1)) ∧
  (oF a 0 = 3 → ∃ s, T.1 (8 * r + 3) = nI s ∧ T.1 (8 * r + 4) = nI (s + (codeS (oF a)).length) ∧ s + (codeS (oF a)).length ≤ 800 ∧ FHas F s (codeS (oF a))) ∧
  (a.2 = -1 → T.1 (8 * r + 6) ≤ T.1 (8 * r + 5)) ∧ (¬ a.2 = -1 → ∃ s, T.1 (8 * r + 5) = nI s ∧ T.1 (8 * r + 6) = nI (s + (codeW (oF a) a.2).length) ∧ s + (codeW (oF a) a.2).length ≤ 800 ∧ FHas F s (codeW (oF a) a.2))
theorem OC.keep {T : TM} {F F' : FM} {r : Nat} {a : RO} (h : OC T F r a) (hk : FK F F') : OC T F' r a := by
  obtain ⟨h0, h1, h2, h3, h4, h5, h6⟩ := h
  refine ⟨h0, h1, h2, h3, fun w => ?_, h5, fun w => ?_⟩
  · obtain ⟨s, e1, e2, e3, e4⟩ := h4 w
    exact ⟨s, e1, e2, e3, e4.keep hk⟩
  · obtain ⟨s, e1, e2, e3, e4⟩ := h6 w
    exact ⟨s, e1, e2, e3, e4.keep hk⟩
section Od
variable {A : AD} {σ : GL} {Y : SM} {N : Nat} {T : TM} {F : FM}
theorem do_eq (hP : PM A σ Y) (hA : AOk A) (h : RI A Y N) {r : Nat} {a : RO} (ho : OAt A Y r a) (hc : OC T F r a) (hr : r < T.2) (hT : T.2 ≤ 20) (hh : ¬ s_Sim_holds A Y r = 0) : (doC T σ F (nI r)).1 = (s_Sim_carries A Y r).1 ∧ PM A (doC T σ F (nI r)).2.1 (s_Sim_carries A Y r).2 ∧ FK F (doC T σ F (nI r)).2.2 ∧ RI A (s_Sim_carries A Y r).2 (N + 1) := by
  obtain ⟨hob, q0, q1, q2, q3, q4, q5, q6, q7, q8, q9, q10, q11, q12, q13, q14, q15⟩ := ho.2
  obtain ⟨c0, c1, c2, c3, c4, -, -⟩ := hc
  have tg := fun c => tgI_at (T := T) (c := c) (j := r) hr (by omega)
  unfold doC s_Sim_carries
  rw [if_neg hh, tg 0, tg 1, tg 2, tg 3, tg 4, c0, ho.j (j := 0) (by decide), ho.c (j := 1) (by decide), ho.c (j := 2) (by decide)]
  rcases (show oF a 0 = 0 ∨ oF a 0 = 1 ∨ oF a 0 = 2 ∨ oF a 0 = 3 ∨ oF a 0 = 4 by omega) with e | e | e | e | e
  · have ht := q3 (by omega) (by omega)
    rw [e, c1 (by omega) (by omega)]
    obtain ⟨g1, g2⟩ := go_eq hP hA ht (x := 1) (h.tok ht)
    exact ⟨g1, g2, FK.refl F, h.goes hA ht⟩
  · have ht := q3 (by omega) (by omega)
    rw [e, c1 (by omega) (by omega)]
    obtain ⟨g1, g2⟩ := go_eq hP hA ht (x := 0) (h.tok ht)
    exact ⟨g1, g2, FK.refl F, h.goes hA ht⟩
  · have hcr := q1 e
    obtain ⟨e1, e2⟩ := c2 e
    rw [e, e1, e2]
    obtain ⟨g1, g2⟩ := probe_eq hP hA q5 hcr (h.tok q5) (h.2 2 _ (by decide) hcr).1
    exact ⟨g1, g2, FK.refl F, (h.probes q5 hcr).up (by omega)⟩
  · have ht := q3 (by omega) (by omega)
    obtain ⟨s, e1, e2, e3, e4⟩ := c4 e
    rw [e, c1 (by omega) (by omega), e1, e2]
    obtain ⟨w1, w2⟩ := worth_code (σ := σ) e4 (codeS_len _) e3
    rw [sum_val hP hA ho] at w1
    have w1 : (s_Formulas_worth σ F (nI s) (nI (s + (codeS (oF a)).length))).1 = s_Sim_sum A Y r := w1
    obtain ⟨-, ⟨k, hk, hk4⟩, -⟩ := h.2 4 _ (by decide) ht
    obtain ⟨g1, g2⟩ := fill_eq hP hA h.fok ht (w := s_Sim_sum A Y r) (h.h01 _ ht) hk hk4
    simp only [if_neg (show ¬ nI 3 = 0 by decide), if_neg (show ¬ nI 3 = 1 by decide), if_neg (show ¬ nI 3 = 2 by decide), if_pos (show nI 3 = 3 from rfl)]
    simp only [w1, g1]
    have hR := (h.fills hP hA ht (w := s_Sim_sum A Y r)).1.up (N' := N + 1) (by omega)
    by_cases q : (s_Sim_fills A Y (oF a 1) (s_Sim_sum A Y r)).1 ≤ 0
    · simp only [if_pos q]
      exact ⟨trivial, g2, w2, hR⟩
    · simp only [if_neg q]
      exact ⟨trivial, g2, w2, hR⟩
  · have hs := q2 e
    rw [e, c3 e]
    obtain ⟨g1, g2⟩ := drill_eq hP hA hs (h.s01 _ hs) h.h01
    exact ⟨g1, g2, FK.refl F, (h.drills hs).up (by omega)⟩
theorem carry_eq (hP : PM A σ Y) (hA : AOk A) (h : RI A Y N) {r : Nat} {a : RO} (ho : OAt A Y r a) (hc : OC T F r a) (hr : r < T.2) (hT : T.2 ≤ 20) : (s_Orders_carryOut T σ F (nI r)).1 = (s_Sim_carries A Y r).1 ∧ PM A (s_Orders_carryOut T σ F (nI r)).2.1 (s_Sim_carries A Y r).2 ∧ FK F (s_Orders_carryOut T σ F (nI r)).2.2 ∧ RI A (s_Sim_carries A Y r).2 (N + 1) := by
  have tg := fun c => tgI_at (T := T) (c := c) (j := r) hr (by omega)
  have e5 : sm_v Y 5 r 5 = a.2 := by
    rw [ho.1]
    exact if_pos rfl
  rw [carry_c, tg 5, tg 6]
  by_cases hn : a.2 = -1
  · rw [if_pos (hc.2.2.2.2.2.1 hn)]
    refine do_eq hP hA h ho hc hr hT ?_
    unfold s_Sim_holds
    rw [e5, if_pos hn]
    decide
  · obtain ⟨s, e1, e2, e3, e4⟩ := hc.2.2.2.2.2.2 hn
    have hl := codeW_len (oF a) hn
    rw [e1, e2, if_neg (nI_ge (by omega) (by omega))]
    obtain ⟨w1, w2⟩ := worth_code (σ := σ) e4 hl e3
    rw [test_val hP hA h ho hn] at w1
    have w1 : (s_Formulas_worth σ F (nI s) (nI (s + (codeW (oF a) a.2).length))).1 = s_Sim_holds A Y r := w1
    rw [w1]
    by_cases hh : s_Sim_holds A Y r = 0
    · rw [if_pos hh]
      have e : s_Sim_carries A Y r = (0, Y) := by
        unfold s_Sim_carries
        rw [if_pos hh]
      rw [e]
      exact ⟨rfl, hP, w2, h.up (by omega)⟩
    · rw [if_neg hh]
      obtain ⟨d1, d2, d3, d4⟩ := do_eq hP hA h ho (hc.keep w2) hr hT hh
      exact ⟨d1, d2, w2.trans d3, d4⟩
/-- what is carried does not count itself -/
theorem ca_cross : ∀ (l : List Nat) (Y : SM), sm_ca (crossF Y l) = sm_ca Y
  | [], _ => rfl
  | _ :: l, _ => ca_cross l _
theorem ca_goes {t : Nat} {x : Int32} : sm_ca (s_Sim_goes A Y t x).2 = sm_ca Y := by
  unfold s_Sim_goes
  by_cases h0 : s_Sim_can A Y t x = 0
  · rw [if_pos h0]
  rw [if_neg h0]
  cases wayO A Y t x with
  | none => rfl
  | some l =>
    show sm_ca (goesL (sm_set Y 4 t 7 1) t x l) = _
    unfold goesL
    cases fallF (sm_set Y 4 t 7 1) t l with
    | some f => rfl
    | none => exact ca_cross l _
theorem ca_fills {t : Nat} {w : Int32} : ∀ (k i : Nat), sm_ca (l_Sim_fills_29 A Y t w k i).2 = sm_ca Y
  | 0, _ => rfl
  | k + 1, i => by
    rw [fills_step]
    by_cases c0 : sm_v Y 3 i 0 = sm_v Y 4 t 2
    · rw [if_pos c0]
      by_cases c1 : sm_v Y 3 i 1 = 0
      · rw [if_pos c1]
        exact ca_fills k (i + 1)
      · rw [if_neg c1]
        rfl
    · rw [if_neg c0]
      exact ca_fills k (i + 1)
theorem ca_carries {r : Nat} : sm_ca (s_Sim_carries A Y r).2 = sm_ca Y := by
  unfold s_Sim_carries
  by_cases h0 : s_Sim_holds A Y r = 0
  · rw [if_pos h0]
  rw [if_neg h0]
  by_cases e0 : sm_v Y 5 r 0 = 0
  · rw [if_pos e0]
    exact ca_goes
  rw [if_neg e0]
  by_cases e1 : sm_v Y 5 r 0 = 1
  · rw [if_pos e1]
    exact ca_goes
  rw [if_neg e1]
  by_cases e2 : sm_v Y 5 r 0 = 2
  · rw [if_pos e2]
    unfold s_Sim_probes
    (repeat' split) <;> rfl
  rw [if_neg e2]
  by_cases e3 : sm_v Y 5 r 0 = 3
  · rw [if_pos e3]
    show sm_ca (s_Sim_fills A Y (sm_v Y 5 r 1).toNatClampNeg (s_Sim_sum A Y r)).2 = _
    unfold s_Sim_fills
    by_cases c : sm_v Y 4 (sm_v Y 5 r 1).toNatClampNeg 4 = 0
    · rw [if_pos c]
    · rw [if_neg c]
      exact ca_fills _ _
  rw [if_neg e3]
  unfold s_Sim_drills
  by_cases c : sm_v Y 1 (sm_v Y 5 r 1).toNatClampNeg 3 = 1
  · rw [if_pos c]
  · rw [if_neg c]
    rcases drill_loop (A := A) (Y := Y) (k0 := (sm_v Y 5 r 1).toNatClampNeg) (cn A 4) 0 with ⟨-, q⟩ | ⟨-, q⟩ <;> rw [q] <;> rfl
/-- all orders of both -/
def OR (A : AD) (Y : SM) (T : TM) (F : FM) : Prop := T.2 = cn A 5 ∧ ∀ r, r < cn A 5 → ∃ a, OAt A Y r a ∧ OC T F r a
theorem OR.keep {F' : FM} {Y' : SM} (h : OR A Y T F) (hk : FK F F') (hv : sm_v Y' 5 = sm_v Y 5) : OR A Y' T F' := ⟨h.1, fun r hr => by
  obtain ⟨a, h1, h2⟩ := h.2 r hr
  exact ⟨a, ⟨by rw [hv]; exact h1.1, h1.2⟩, h2.keep hk⟩⟩
theorem ord_loop (hA : AOk A) : ∀ (k i : Nat) (σ : GL) (Y : SM) (F : FM) (N : Nat), PM A σ Y → RI A Y N → OR A Y T F → i + k ≤ cn A 5 → PM A (l_Glacier_passDay_2 T k i σ F).1 (ordF A k i Y) ∧ RI A (ordF A k i Y) (N + k) ∧ OR A (ordF A k i Y) T (l_Glacier_passDay_2 T k i σ F).2
  | 0, _, _, _, _, _, hP, h, ho, _ => ⟨hP, h, ho⟩
  | k + 1, i, σ, Y, F, N, hP, h, ho, hi => by
    have h8 := hA.2.2 5 (by decide)
    obtain ⟨a, h1, h2⟩ := ho.2 i (by omega)
    obtain ⟨c1, c2, c3, c4⟩ := carry_eq hP hA h h1 h2 (by rw [ho.1]; omega) (by rw [ho.1]; omega)
    have hv : sm_v (s_Sim_carries A Y i).2 5 = sm_v Y 5 := v5_carries
    have hca := ca_carries (A := A) (Y := Y) (r := i)
    unfold l_Glacier_passDay_2 ordF
    rw [c1]
    have hR : RI A (sm_ca' (s_Sim_carries A Y i).2 (sm_ca Y + (if (s_Sim_carries A Y i).1 = 0 then 0 else 1))) (N + 1) := c4.of rfl (Nat.le_refl _) (fun _ _ _ _ => Or.inl rfl)
    have hO : OR A (sm_ca' (s_Sim_carries A Y i).2 (sm_ca Y + (if (s_Sim_carries A Y i).1 = 0 then 0 else 1))) T (s_Orders_carryOut T σ F (nI i)).2.2 := ho.keep c3 hv
    by_cases q : (s_Sim_carries A Y i).1 = 0
    · rw [if_pos q] at hR hO ⊢
      rw [if_pos q]
      have hP2 : PM A (s_Orders_carryOut T σ F (nI i)).2.1 (sm_ca' (s_Sim_carries A Y i).2 (sm_ca Y + 0)) := PM.of c2 (fun _ _ _ _ _ _ => rfl) rfl rfl (by rw [← hca]; exact Int32.add_zero _)
      obtain ⟨r1, r2, r3⟩ := ord_loop hA k (i + 1) _ _ _ _ hP2 hR hO (by omega)
      exact ⟨r1, r2.up (by omega), r3⟩
    · rw [if_neg q] at hR hO ⊢
      rw [if_neg q]
      have hP2 : PM A (gSC (s_Orders_carryOut T σ F (nI i)).2.1 (gC (s_Orders_carryOut T σ F (nI i)).2.1 + 1)) (sm_ca' (s_Sim_carries A Y i).2 (sm_ca Y + 1)) := ⟨c2.1, c2.2.1, c2.2.2.1, c2.2.2.2.1, c2.2.2.2.2.1, c2.2.2.2.2.2.1, by
        show gC (s_Orders_carryOut T σ F (nI i)).2.1 + 1 = sm_ca Y + 1
        rw [c2.2.2.2.2.2.2, hca]⟩
      obtain ⟨r1, r2, r3⟩ := ord_loop hA k (i + 1) _ _ _ _ hP2 hR hO (by omega)
      exact ⟨r1, r2.up (by omega), r3⟩
end Od
