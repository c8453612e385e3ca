/-! Glacier: what each method answers, over a block of twelve cells -/
def iMax (x y : Int32) : Int32 := if x < y then y else x
def iMin (x y : Int32) : Int32 := if y < x then y else x
theorem i32_eq {x v : Int32} {n : Int} (w : x.toInt = n) (e : v.toInt = n := by decide) : x = v := Int32.toInt_inj.mp (w.trans e.symm)
theorem tsw_out {pc : Nat} {dflt lo hi : Int} {offs : Array Int} {x : Int32} {t : Int} (h : ∀ n : Nat, n < (hi - lo + 1).toNat → ¬ x.toInt = lo + n) (e : (pc : Int) + dflt = t := by decide) : tswitch pc dflt lo hi offs x.toInt = some t := by
  unfold tswitch
  rw [if_pos, e]
  rcases Int.lt_or_le x.toInt lo with h1 | h1
  · exact Or.inl h1
  · rcases Int.lt_or_le hi x.toInt with h2 | h2
    · exact Or.inr h2
    · exact absurd (show x.toInt = lo + ((x.toInt - lo).toNat : Int) by omega) (h _ (by omega))
theorem nb {x : Int32} (h : x = 0 ∨ x = 1) : narrow .boolean (.int x) = .int x := by
  rcases h with rfl | rfl <;> rfl
def lle : List (Option Value) → List (Option Value) → Prop
  | [], [] => True
  | none :: t, _ :: u => lle t u
  | some v :: t, some w :: u => v = w ∧ lle t u
  | _, _ => False
theorem lle_len : ∀ (a b : List (Option Value)), lle a b → a.length = b.length
  | [], [], _ => rfl
  | [], _ :: _, h => h.elim
  | none :: t, [], h => h.elim
  | some _ :: t, [], h => h.elim
  | none :: t, _ :: u, h => by simpa using lle_len t u h
  | some _ :: t, some _ :: u, h => by simpa using lle_len t u h.2
  | some _ :: t, none :: u, h => h.elim
theorem lle_sub : ∀ (a b : List (Option Value)) (i : Nat), lle a b → ∀ q ∈ lvp i a, q ∈ lvp i b
  | [], _, _, _, q, hq => by cases hq
  | none :: t, [], _, h, _, _ => h.elim
  | some _ :: t, [], _, h, _, _ => h.elim
  | none :: t, none :: u, i, h, q, hq => lle_sub t u (i + 1) h q hq
  | none :: t, some _ :: u, i, h, q, hq => List.mem_cons_of_mem _ (lle_sub t u (i + 1) h q hq)
  | some v :: t, some w :: u, i, h, q, hq => by
    obtain ⟨rfl, h⟩ := h
    rcases List.mem_cons.mp (show q ∈ (i, v) :: lvp (i + 1) t from hq) with e | e
    · exact List.mem_cons.mpr (Or.inl e)
    · exact List.mem_cons_of_mem _ (lle_sub t u (i + 1) h q e)
  | some _ :: t, none :: u, _, h, _, _ => h.elim
/-- locals are forgotten -/
theorem Go.fgt {Γ : G9} {M : MI} {d C S pc : Nat} {L : List (Option Value)} {st : List Value} {h : AH} {z : Nat} {Q : QT} {X : XT} (L' : List (Option Value)) (hl : lle L' L) (k : Go Γ M d C S pc L' st h z Q X) : Go Γ M d C S pc L st h z Q X := Go.loc k (lle_len _ _ hl) (lle_sub _ _ 0 hl)
def capG (k : Nat) : Nat := if k = 0 then 5 else if k = 1 then 6 else 4
abbrev GL : Type := (Nat → TM) × (Nat → Int32) × Int32 × Int32
def gN (σ : GL) (k : Nat) : Nat := (σ.1 k).2
abbrev gW (σ : GL) : Nat → Int32 := σ.2.1
abbrev gD (σ : GL) : Int32 := σ.2.2.1
abbrev gC (σ : GL) : Int32 := σ.2.2.2
abbrev glF (g : Nat) (σ : GL) : List Value := [.ref (g + 1), .ref (g + 3), .ref (g + 5), .ref (g + 7), .ref (g + 9), .ref (g + 11), .int (gD σ), .int (gC σ)]
def glC (Γ : G9) (g : Nat) (σ : GL) (j : Nat) : Option va_E := if j = 0 then some (.inr (1, glF g σ)) else if j = 11 then some (aI Γ 8 (gW σ)) else if j % 2 = 1 then some (tabO (g + j) (σ.1 (j / 2))) else some (aI Γ (capG (j / 2 - 1) * 8) (σ.1 (j / 2 - 1)).1)
def gP (σ : GL) (k : Nat) (U : TM) : GL := (fun j => if j = k then U else σ.1 j, σ.2)
def gSW (σ : GL) (w : Nat → Int32) : GL := (σ.1, w, σ.2.2)
def gSD (σ : GL) (v : Int32) : GL := (σ.1, σ.2.1, v, σ.2.2.2)
def gSC (σ : GL) (v : Int32) : GL := (σ.1, σ.2.1, σ.2.2.1, v)
def gG (σ : GL) (k : Nat) (row : Int32) (c : Nat) : Int32 := tgI (σ.1 k) row c
def gS (σ : GL) (k : Nat) (row : Int32) (c : Nat) (v : Int32) : GL := gP σ k (tsI (σ.1 k) row c v)
def gA (σ : GL) (k : Nat) (row : Int32) (c : Nat) (v : Int32) : GL := gS σ k row c (gG σ k row c + v)
def gH (σ : GL) (k : Nat) (row : Int32) : Int32 := if 0 ≤ row ∧ row < nI (gN σ k) then 1 else 0
def gSum (σ : GL) (k c : Nat) : Int32 := tsumF (σ.1 k) c (gN σ k) 0 0
def gMat (σ : GL) (k c : Nat) (v : Int32) (c2 : Nat) (v2 : Int32) : Int32 := tmatF (σ.1 k) c v c2 v2 (gN σ k) 0 0
def WFG (σ : GL) : Prop := ∀ k, k < 5 → gN σ k ≤ capG k
theorem gN_gP {σ : GL} {k : Nat} {U : TM} (j : Nat) (hU : U.2 = gN σ k) : gN (gP σ k U) j = gN σ j := by
  show (if j = k then U else σ.1 j).2 = _
  by_cases h : j = k
  · rw [if_pos h, h, hU]
  · rw [if_neg h]; rfl
theorem gN_gS {σ : GL} {k : Nat} {row : Int32} {c : Nat} {v : Int32} (j : Nat) : gN (gS σ k row c v) j = gN σ j := gN_gP j tsI_rows
theorem gN_gA {σ : GL} {k : Nat} {row : Int32} {c : Nat} {v : Int32} (j : Nat) : gN (gA σ k row c v) j = gN σ j := gN_gS j
theorem gN_gSW {σ : GL} {w : Nat → Int32} (j : Nat) : gN (gSW σ w) j = gN σ j := rfl
theorem gN_gSD {σ : GL} {v : Int32} (j : Nat) : gN (gSD σ v) j = gN σ j := rfl
theorem gN_gSC {σ : GL} {v : Int32} (j : Nat) : gN (gSC σ v) j = gN σ j := rfl
theorem capG_le {k : Nat} : capG k ≤ 6 := by unfold capG; split <;> (try split) <;> omega
theorem WFG.le {σ : GL} (h : WFG σ) {k : Nat} (hk : k < 5) : gN σ k ≤ 6 := Nat.le_trans (h k hk) capG_le
theorem WFG.of {σ τ : GL} (h : WFG σ) (e : ∀ j, gN τ j = gN σ j) : WFG τ := fun k hk => by rw [e]; exact h k hk
section GlBlk
variable {Γ : G9} {h : AH} {g z : Nat} {σ : GL}
theorem gl_obj : blk h g 12 (glC Γ g σ) g = some (.inr (1, glF g σ)) := blk_at0 (by decide)
theorem glC_tab {k : Nat} (hk : k < 5) : glC Γ g σ (2 * k + 1) = some (tabO (g + (2 * k + 1)) (σ.1 k)) := by
  unfold glC
  rw [if_neg (by omega), if_neg (by omega), if_pos (by omega), show (2 * k + 1) / 2 = k by omega]
theorem glC_cel {k : Nat} (hk : k < 5) : glC Γ g σ (2 * k + 1 + 1) = some (aI Γ (capG k * 8) (σ.1 k).1) := by
  unfold glC
  rw [if_neg (by omega), if_neg (by omega), if_neg (by omega), show (2 * k + 1 + 1) / 2 - 1 = k by omega]
theorem gl_tab {k : Nat} (hk : k < 5) : blk h g 12 (glC Γ g σ) (g + (2 * k + 1)) = some (tabO (g + (2 * k + 1)) (σ.1 k)) := by
  rw [blk_at (by omega), glC_tab hk]
theorem gl_cel {k : Nat} (hk : k < 5) : blk h g 12 (glC Γ g σ) (g + (2 * k + 1) + 1) = some (aI Γ (capG k * 8) (σ.1 k).1) := by
  rw [show g + (2 * k + 1) + 1 = g + (2 * k + 1 + 1) from rfl, blk_at (by omega), glC_cel hk]
theorem gl_war : blk h g 12 (glC Γ g σ) (g + 11) = some (aI Γ 8 (gW σ)) := blk_at (by decide)
theorem glC_ne {k : Nat} {U : TM} {j : Nat} (h1 : j ≠ 2 * k + 1) (h2 : j ≠ 2 * k + 1 + 1) : glC Γ g (gP σ k U) j = glC Γ g σ j := by
  unfold glC
  by_cases a1 : j = 0
  · rw [if_pos a1, if_pos a1]; rfl
  · rw [if_neg a1, if_neg a1]
    by_cases a2 : j = 11
    · rw [if_pos a2, if_pos a2]; rfl
    · rw [if_neg a2, if_neg a2]
      unfold gP
      dsimp only
      by_cases a3 : j % 2 = 1
      · rw [if_pos a3, if_pos a3, if_neg (show ¬ j / 2 = k by omega)]
      · rw [if_neg a3, if_neg a3, if_neg (show ¬ j / 2 - 1 = k by omega)]
theorem gP_at {k : Nat} {U : TM} : (gP σ k U).1 k = U := if_pos rfl
theorem gl_put {k : Nat} (hk : k < 5) (U : TM) : hup (hup (blk h g 12 (glC Γ g σ)) (g + (2 * k + 1) + 1) (aI Γ (capG k * 8) U.1)) (g + (2 * k + 1)) (tabO (g + (2 * k + 1)) U) = blk h g 12 (glC Γ g (gP σ k U)) := by
  rw [show g + (2 * k + 1) + 1 = g + (2 * k + 1 + 1) from rfl, blk_hup (by omega), blk_hup (by omega)]
  refine blk_ext fun j hj => ?_
  by_cases h1 : j = 2 * k + 1
  · rw [if_pos h1, h1, glC_tab hk, gP_at]
  · rw [if_neg h1]
    by_cases h2 : j = 2 * k + 1 + 1
    · rw [if_pos h2, h2, glC_cel hk, gP_at]
    · rw [if_neg h2, glC_ne h1 h2]
theorem gl_putA {k : Nat} (hk : k < 5) (U : TM) (hU : U.2 = gN σ k) : hup (blk h g 12 (glC Γ g σ)) (g + (2 * k + 1) + 1) (aI Γ (capG k * 8) U.1) = blk h g 12 (glC Γ g (gP σ k U)) := by
  rw [← gl_put hk U]
  refine (hup_self ?_).symm
  rw [hup_ne (by omega), gl_tab hk]
  unfold tabO
  rw [hU]
  rfl
theorem gl_putR {k : Nat} (hk : k < 5) (U : TM) (hU : U.1 = (σ.1 k).1) : hup (blk h g 12 (glC Γ g σ)) (g + (2 * k + 1)) (tabO (g + (2 * k + 1)) U) = blk h g 12 (glC Γ g (gP σ k U)) := by
  rw [← gl_put hk U, hU, hup_self (gl_cel hk)]
theorem gl_putW {w : Nat → Int32} : hup (blk h g 12 (glC Γ g σ)) (g + 11) (aI Γ 8 w) = blk h g 12 (glC Γ g (gSW σ w)) := by
  rw [blk_hup (by decide)]
  refine blk_ext fun j hj => ?_
  by_cases h1 : j = 11
  · subst h1; rfl
  · rw [if_neg h1]
    unfold glC gSW
    rw [if_neg h1, if_neg h1]
theorem gl_putO {τ : GL} (h1 : τ.1 = σ.1) (h2 : τ.2.1 = σ.2.1) : hup (blk h g 12 (glC Γ g σ)) g (.inr (1, glF g τ)) = blk h g 12 (glC Γ g τ) := by
  rw [blk_hup0 (by decide)]
  refine blk_ext fun j hj => ?_
  by_cases h3 : j = 0
  · subst h3; rfl
  · rw [if_neg h3]
    unfold glC
    rw [if_neg h3, if_neg h3, show gW τ = gW σ from h2, h1]
theorem gl_putD {v : Int32} : hup (blk h g 12 (glC Γ g σ)) g (.inr (1, (glF g σ).set 6 (.int v))) = blk h g 12 (glC Γ g (gSD σ v)) := gl_putO (τ := gSD σ v) rfl rfl
theorem gl_putC {v : Int32} : hup (blk h g 12 (glC Γ g σ)) g (.inr (1, (glF g σ).set 7 (.int v))) = blk h g 12 (glC Γ g (gSC σ v)) := gl_putO (τ := gSC σ v) rfl rfl
theorem cG_get {k : Nat} (hk : k < 5) {row ci : Int32} {c : Nat} (hci : ci = nI c) (hc : c < 8) (hW : WFG σ) : CallR Γ M_Table_get 0 [.ref (g + (2 * k + 1)), .int row, .int ci] (blk h g 12 (glC Γ g σ)) z (some (.int (gG σ k row c))) (blk h g 12 (glC Γ g σ)) := by
  subst hci
  exact c_Table_get (gl_tab hk) (gl_cel hk) (hW k hk) (Nat.le_trans capG_le (by decide)) hc
theorem cG_set {k : Nat} (hk : k < 5) {row ci v : Int32} {c : Nat} (hci : ci = nI c) (hc : c < 8) (hW : WFG σ) : CallR Γ M_Table_set 0 [.ref (g + (2 * k + 1)), .int row, .int ci, .int v] (blk h g 12 (glC Γ g σ)) z none (blk h g 12 (glC Γ g (gS σ k row c v))) := by
  subst hci
  have h0 := c_Table_set (z := z) (row := row) (v := v) (gl_tab (Γ := Γ) (h := h) (g := g) (σ := σ) hk) (gl_cel hk) (hW k hk) (Nat.le_trans capG_le (by decide)) hc
  rw [gl_putA hk _ tsI_rows] at h0
  exact h0
theorem cG_add {k : Nat} (hk : k < 5) {row ci v : Int32} {c : Nat} (hci : ci = nI c) (hc : c < 8) (hW : WFG σ) : CallR Γ M_Table_add 0 [.ref (g + (2 * k + 1)), .int row, .int ci, .int v] (blk h g 12 (glC Γ g σ)) z none (blk h g 12 (glC Γ g (gA σ k row c v))) := by
  subst hci
  have h0 := c_Table_add (z := z) (row := row) (v := v) (gl_tab (Γ := Γ) (h := h) (g := g) (σ := σ) hk) (gl_cel hk) (hW k hk) (Nat.le_trans capG_le (by decide)) hc
  rw [gl_putA hk _ tsI_rows] at h0
  exact h0
theorem cG_rows {k : Nat} (hk : k < 5) : CallR Γ M_Table_rows 0 [.ref (g + (2 * k + 1))] (blk h g 12 (glC Γ g σ)) z (some (.int (nI (gN σ k)))) (blk h g 12 (glC Γ g σ)) := c_Table_rows (gl_tab hk)
theorem cG_has {k : Nat} (hk : k < 5) {row : Int32} : CallR Γ M_Table_has 0 [.ref (g + (2 * k + 1)), .int row] (blk h g 12 (glC Γ g σ)) z (some (.int (gH σ k row))) (blk h g 12 (glC Γ g σ)) := c_Table_has (gl_tab hk)
theorem cG_sum {k : Nat} (hk : k < 5) {ci : Int32} {c : Nat} (hci : ci = nI c) (hc : c < 8) (hW : WFG σ) : CallR Γ M_Table_sum 1 [.ref (g + (2 * k + 1)), .int ci] (blk h g 12 (glC Γ g σ)) z (some (.int (gSum σ k c))) (blk h g 12 (glC Γ g σ)) := by
  subst hci
  exact c_Table_sum (gl_tab hk) (gl_cel hk) (hW k hk) (Nat.le_trans capG_le (by decide)) hc
theorem cG_mat {k : Nat} (hk : k < 5) {ci ci2 v v2 : Int32} {c c2 : Nat} (hci : ci = nI c) (hc : c < 8) (hci2 : ci2 = nI c2) (hc2 : c2 < 8) (hW : WFG σ) : CallR Γ M_Table_matches 1 [.ref (g + (2 * k + 1)), .int ci, .int v, .int ci2, .int v2] (blk h g 12 (glC Γ g σ)) z (some (.int (gMat σ k c v c2 v2))) (blk h g 12 (glC Γ g σ)) := by
  subst hci
  subst hci2
  exact c_Table_matches (gl_tab hk) (gl_cel hk) (hW k hk) (Nat.le_trans capG_le (by decide)) hc hc2
theorem cG_clear {k : Nat} (hk : k < 5) : CallR Γ M_Table_clear 0 [.ref (g + (2 * k + 1))] (blk h g 12 (glC Γ g σ)) z none (blk h g 12 (glC Γ g (gP σ k ((σ.1 k).1, 0)))) := by
  have h0 := c_Table_clear (Γ := Γ) (z := z) (gl_tab (Γ := Γ) (h := h) (g := g) (σ := σ) hk)
  rw [gl_putR hk ((σ.1 k).1, 0) rfl] at h0
  exact h0
theorem capG_ge {k : Nat} : 1 ≤ capG k := by unfold capG; split <;> (try split) <;> omega
theorem cG_addRow {k : Nat} (hk : k < 5) (hW : WFG σ) : CallR Γ M_Table_addRow 0 [.ref (g + (2 * k + 1))] (blk h g 12 (glC Γ g σ)) z (some (.int (taddR (capG k) (σ.1 k)))) (blk h g 12 (glC Γ g (gP σ k (taddT (capG k) (σ.1 k))))) := by
  have h0 := c_Table_addRow (z := z) (gl_tab (Γ := Γ) (h := h) (g := g) (σ := σ) hk) (gl_cel hk) (hW k hk) (Nat.le_trans capG_le (by decide)) capG_ge
  rw [gl_put hk] at h0
  exact h0
end GlBlk
section GlMath
variable {Γ : G9} {M : MI} {d C S pc q : Nat} {L : List (Option Value)} {st : List Value} {h : AH} {z : Nat} {Q : QT} {X : XT}
theorem Go.imax {idx : Nat} {x y : Int32} (hd : decode M.2.1 pc = .ok (.invokestatic idx, 3)) (hq : pc + 3 = q) (lk : Cond.methodLink M.1.cls idx M_Math_max.1 ∈ gw) (hd' : 1 ≤ d) (hw : Nat.ble (st.map fun v => v.category).sum 8 = true) (kk : Go Γ M d C S q L (.int (iMax x y) :: st) h z Q X) : Go Γ M d C S pc L (.int y :: .int x :: st) h z Q X := Go.mmax hd hq lk hd' hw kk
theorem Go.imin {idx : Nat} {x y : Int32} (hd : decode M.2.1 pc = .ok (.invokestatic idx, 3)) (hq : pc + 3 = q) (lk : Cond.methodLink M.1.cls idx M_Math_min.1 ∈ gw) (hd' : 1 ≤ d) (hw : Nat.ble (st.map fun v => v.category).sum 8 = true) (kk : Go Γ M d C S q L (.int (iMin x y) :: st) h z Q X) : Go Γ M d C S pc L (.int y :: .int x :: st) h z Q X := Go.mmin hd hq lk hd' hw kk
end GlMath
theorem vp_of {x : Int32} {n : Nat} (h0 : ¬ x < 0) (h1 : ¬ nI n ≤ x) (hn : n < 2 ^ 31) : vp_in x n := by
  obtain ⟨j, hj, rfl⟩ := nI_of h0
  have hjr : j < n := by
    rcases Nat.lt_or_ge j n with h | h
    · exact h
    · exact absurd ((nI_leI hn hj).mpr h) h1
  exact vp_in_nI hjr hn
theorem fp_out {n : Nat} (h : n ≤ 20) : nI n - 1 < nI n := by
  have : ∀ m : Fin 21, nI m.val - 1 < nI m.val := by decide +kernel
  exact this ⟨n, by omega⟩
theorem fp_in {n i : Nat} (h : n ≤ 20) (hi : i < n) : ¬ nI n - 1 < nI i := by
  have : ∀ m : Fin 21, ∀ j : Fin 21, j.val < m.val → ¬ nI m.val - 1 < nI j.val := by decide +kernel
  exact this ⟨n, by omega⟩ ⟨i, by omega⟩ hi
theorem d_Glacier_day_0 : decode M_Glacier_day.2.1 0 = .ok (.aload_n 0, 1) := by decide +kernel
theorem d_Glacier_day_1 : decode M_Glacier_day.2.1 1 = .ok (.getfield 42, 3) := by decide +kernel
theorem d_Glacier_day_4 : decode M_Glacier_day.2.1 4 = .ok (.ireturn, 1) := by decide +kernel
def s_Glacier_day (σ : GL) : Int32 := (gD σ)
set_option maxRecDepth 100000 in
set_option maxHeartbeats 4000000 in
theorem c_Glacier_day {Γ : G9} {h : AH} {g z : Nat} {σ : GL} : CallR Γ M_Glacier_day 0 [.ref g] (blk h g 12 (glC Γ g σ)) z (some (.int (s_Glacier_day σ))) (blk h g 12 (glC Γ g σ)) := by
  refine Call.of_go (L := [some (.ref g)]) (by decide +kernel) rfl (by exact Nat.le_of_ble_eq_true rfl) ?_
  unfold s_Glacier_day
  refine Go.aload_0 d_Glacier_day_0 rfl ?_
  refine Go.getfield d_Glacier_day_1 rfl f_Glacier_42 gl_obj (by rfl) ?_
  exact Go.iret d_Glacier_day_4 rfl rfl ⟨rfl, rfl, rfl⟩
theorem d_Glacier_warmthOf_0 : decode M_Glacier_warmthOf.2.1 0 = .ok (.iload_n 1, 1) := by decide +kernel
theorem d_Glacier_warmthOf_1 : decode M_Glacier_warmthOf.2.1 1 = .ok (.ifCond .lt 21, 3) := by decide +kernel
theorem d_Glacier_warmthOf_4 : decode M_Glacier_warmthOf.2.1 4 = .ok (.iload_n 1, 1) := by decide +kernel
theorem d_Glacier_warmthOf_5 : decode M_Glacier_warmthOf.2.1 5 = .ok (.aload_n 0, 1) := by decide +kernel
theorem d_Glacier_warmthOf_6 : decode M_Glacier_warmthOf.2.1 6 = .ok (.getfield 32, 3) := by decide +kernel
theorem d_Glacier_warmthOf_9 : decode M_Glacier_warmthOf.2.1 9 = .ok (.arraylength, 1) := by decide +kernel
theorem d_Glacier_warmthOf_10 : decode M_Glacier_warmthOf.2.1 10 = .ok (.if_icmp .ge 12, 3) := by decide +kernel
theorem d_Glacier_warmthOf_13 : decode M_Glacier_warmthOf.2.1 13 = .ok (.aload_n 0, 1) := by decide +kernel
theorem d_Glacier_warmthOf_14 : decode M_Glacier_warmthOf.2.1 14 = .ok (.getfield 32, 3) := by decide +kernel
theorem d_Glacier_warmthOf_17 : decode M_Glacier_warmthOf.2.1 17 = .ok (.iload_n 1, 1) := by decide +kernel
theorem d_Glacier_warmthOf_18 : decode M_Glacier_warmthOf.2.1 18 = .ok (.iaload, 1) := by decide +kernel
theorem d_Glacier_warmthOf_19 : decode M_Glacier_warmthOf.2.1 19 = .ok (.goto 5, 3) := by decide +kernel
theorem d_Glacier_warmthOf_22 : decode M_Glacier_warmthOf.2.1 22 = .ok (.bipush 10, 2) := by decide +kernel
theorem d_Glacier_warmthOf_24 : decode M_Glacier_warmthOf.2.1 24 = .ok (.ireturn, 1) := by decide +kernel
def s_Glacier_warmthOf (σ : GL) (x1 : Int32) : Int32 := (if x1 < 0 then 10 else (if (nI 8) ≤ x1 then 10 else (gW σ x1.toNatClampNeg)))
set_option maxRecDepth 100000 in
set_option maxHeartbeats 4000000 in
theorem c_Glacier_warmthOf {Γ : G9} {h : AH} {g z : Nat} {σ : GL} {x1 : Int32} : CallR Γ M_Glacier_warmthOf 0 [.ref g, .int x1] (blk h g 12 (glC Γ g σ)) z (some (.int (s_Glacier_warmthOf σ x1))) (blk h g 12 (glC Γ g σ)) := by
  refine Call.of_go (L := [some (.ref g), some (.int x1)]) (by decide +kernel) rfl (by exact Nat.le_of_ble_eq_true rfl) ?_
  unfold s_Glacier_warmthOf
  refine Go.iload_1 d_Glacier_warmthOf_0 rfl ?_
  refine Go.if_lt (t := 22) d_Glacier_warmthOf_1 (by decide) rfl (fun c1_1 => ?_) (fun c1_1 => ?_)
  · refine Go.bipush (v := 10) d_Glacier_warmthOf_22 rfl (by decide) ?_
    rw [if_pos c1_1]
    exact Go.iret d_Glacier_warmthOf_24 rfl rfl ⟨rfl, rfl, rfl⟩
  · refine Go.iload_1 d_Glacier_warmthOf_4 rfl ?_
    refine Go.aload_0 d_Glacier_warmthOf_5 rfl ?_
    refine Go.getfield d_Glacier_warmthOf_6 rfl f_Glacier_32 gl_obj (by rfl) ?_
    refine Go.alen (n := (nI 8)) d_Glacier_warmthOf_9 rfl gl_war (by rfl) rfl ?_
    refine Go.icmp_ge (t := 22) d_Glacier_warmthOf_10 (by decide) rfl (fun c10_2 => ?_) (fun c10_2 => ?_)
    · refine Go.bipush (v := 10) d_Glacier_warmthOf_22 rfl (by decide) ?_
      rw [if_neg c1_1, if_pos c10_2]
      exact Go.iret d_Glacier_warmthOf_24 rfl rfl ⟨rfl, rfl, rfl⟩
    · refine Go.aload_0 d_Glacier_warmthOf_13 rfl ?_
      refine Go.getfield d_Glacier_warmthOf_14 rfl f_Glacier_32 gl_obj (by rfl) ?_
      refine Go.iload_1 d_Glacier_warmthOf_17 rfl ?_
      refine Go.iaload d_Glacier_warmthOf_18 rfl gl_war (vp_of c1_1 c10_2 (by decide)) ?_
      refine Go.goto (t := 24) d_Glacier_warmthOf_19 (by decide) ?_
      rw [if_neg c1_1, if_neg c10_2]
      exact Go.iret d_Glacier_warmthOf_24 rfl rfl ⟨rfl, rfl, rfl⟩
theorem d_Glacier_warmthToday_0 : decode M_Glacier_warmthToday.2.1 0 = .ok (.aload_n 0, 1) := by decide +kernel
theorem d_Glacier_warmthToday_1 : decode M_Glacier_warmthToday.2.1 1 = .ok (.aload_n 0, 1) := by decide +kernel
theorem d_Glacier_warmthToday_2 : decode M_Glacier_warmthToday.2.1 2 = .ok (.getfield 42, 3) := by decide +kernel
theorem d_Glacier_warmthToday_5 : decode M_Glacier_warmthToday.2.1 5 = .ok (.bipush 8, 2) := by decide +kernel
theorem d_Glacier_warmthToday_7 : decode M_Glacier_warmthToday.2.1 7 = .ok (.irem, 1) := by decide +kernel
theorem d_Glacier_warmthToday_8 : decode M_Glacier_warmthToday.2.1 8 = .ok (.invokevirtual 61, 3) := by decide +kernel
theorem d_Glacier_warmthToday_11 : decode M_Glacier_warmthToday.2.1 11 = .ok (.ireturn, 1) := by decide +kernel
def s_Glacier_warmthToday (σ : GL) : Int32 := (s_Glacier_warmthOf σ ((gD σ) - (gD σ) / 8 * 8))
set_option maxRecDepth 100000 in
set_option maxHeartbeats 4000000 in
theorem c_Glacier_warmthToday {Γ : G9} {h : AH} {g z : Nat} {σ : GL} : CallR Γ M_Glacier_warmthToday 1 [.ref g] (blk h g 12 (glC Γ g σ)) z (some (.int (s_Glacier_warmthToday σ))) (blk h g 12 (glC Γ g σ)) := by
  refine Call.of_go (L := [some (.ref g)]) (by decide +kernel) rfl (by exact Nat.le_of_ble_eq_true rfl) ?_
  unfold s_Glacier_warmthToday
  refine Go.aload_0 d_Glacier_warmthToday_0 rfl ?_
  refine Go.aload_0 d_Glacier_warmthToday_1 rfl ?_
  refine Go.getfield d_Glacier_warmthToday_2 rfl f_Glacier_42 gl_obj (by rfl) ?_
  refine Go.bipush (v := 8) d_Glacier_warmthToday_5 rfl (by decide) ?_
  refine Go.irem d_Glacier_warmthToday_7 rfl (by decide) ?_
  refine Go.cv1r d_Glacier_warmthToday_8 rfl l_Glacier_61 k_Glacier_warmthOf_v gl_obj rfl (c_Glacier_warmthOf) rfl rfl rfl ?_
  exact Go.iret d_Glacier_warmthToday_11 rfl rfl ⟨rfl, rfl, rfl⟩
theorem d_Glacier_changeWarmth_0 : decode M_Glacier_changeWarmth.2.1 0 = .ok (.iload_n 1, 1) := by decide +kernel
theorem d_Glacier_changeWarmth_1 : decode M_Glacier_changeWarmth.2.1 1 = .ok (.ifCond .lt 19, 3) := by decide +kernel
theorem d_Glacier_changeWarmth_4 : decode M_Glacier_changeWarmth.2.1 4 = .ok (.iload_n 1, 1) := by decide +kernel
theorem d_Glacier_changeWarmth_5 : decode M_Glacier_changeWarmth.2.1 5 = .ok (.aload_n 0, 1) := by decide +kernel
theorem d_Glacier_changeWarmth_6 : decode M_Glacier_changeWarmth.2.1 6 = .ok (.getfield 32, 3) := by decide +kernel
theorem d_Glacier_changeWarmth_9 : decode M_Glacier_changeWarmth.2.1 9 = .ok (.arraylength, 1) := by decide +kernel
theorem d_Glacier_changeWarmth_10 : decode M_Glacier_changeWarmth.2.1 10 = .ok (.if_icmp .ge 10, 3) := by decide +kernel
theorem d_Glacier_changeWarmth_13 : decode M_Glacier_changeWarmth.2.1 13 = .ok (.aload_n 0, 1) := by decide +kernel
theorem d_Glacier_changeWarmth_14 : decode M_Glacier_changeWarmth.2.1 14 = .ok (.getfield 32, 3) := by decide +kernel
theorem d_Glacier_changeWarmth_17 : decode M_Glacier_changeWarmth.2.1 17 = .ok (.iload_n 1, 1) := by decide +kernel
theorem d_Glacier_changeWarmth_18 : decode M_Glacier_changeWarmth.2.1 18 = .ok (.iload_n 2, 1) := by decide +kernel
theorem d_Glacier_changeWarmth_19 : decode M_Glacier_changeWarmth.2.1 19 = .ok (.iastore, 1) := by decide +kernel
theorem d_Glacier_changeWarmth_20 : decode M_Glacier_changeWarmth.2.1 20 = .ok (.return_, 1) := by decide +kernel
def s_Glacier_changeWarmth (σ : GL) (x1 : Int32) (x2 : Int32) : GL := (if x1 < 0 then σ else (if (nI 8) ≤ x1 then σ else (gSW σ (upd (gW σ) x1.toNatClampNeg x2))))
set_option maxRecDepth 100000 in
set_option maxHeartbeats 4000000 in
theorem c_Glacier_changeWarmth {Γ : G9} {h : AH} {g z : Nat} {σ : GL} {x1 : Int32} {x2 : Int32} : CallR Γ M_Glacier_changeWarmth 0 [.ref g, .int x1, .int x2] (blk h g 12 (glC Γ g σ)) z none (blk h g 12 (glC Γ g (s_Glacier_changeWarmth σ x1 x2))) := by
  refine Call.of_go (L := [some (.ref g), some (.int x1), some (.int x2)]) (by decide +kernel) rfl (by exact Nat.le_of_ble_eq_true rfl) ?_
  unfold s_Glacier_changeWarmth
  refine Go.iload_1 d_Glacier_changeWarmth_0 rfl ?_
  refine Go.if_lt (t := 20) d_Glacier_changeWarmth_1 (by decide) rfl (fun c1_1 => ?_) (fun c1_1 => ?_)
  · rw [if_pos c1_1]
    exact Go.vret d_Glacier_changeWarmth_20 rfl ⟨rfl, rfl, rfl⟩
  · refine Go.iload_1 d_Glacier_changeWarmth_4 rfl ?_
    refine Go.aload_0 d_Glacier_changeWarmth_5 rfl ?_
    refine Go.getfield d_Glacier_changeWarmth_6 rfl f_Glacier_32 gl_obj (by rfl) ?_
    refine Go.alen (n := (nI 8)) d_Glacier_changeWarmth_9 rfl gl_war (by rfl) rfl ?_
    refine Go.icmp_ge (t := 20) d_Glacier_changeWarmth_10 (by decide) rfl (fun c10_2 => ?_) (fun c10_2 => ?_)
    · rw [if_neg c1_1, if_pos c10_2]
      exact Go.vret d_Glacier_changeWarmth_20 rfl ⟨rfl, rfl, rfl⟩
    · refine Go.aload_0 d_Glacier_changeWarmth_13 rfl ?_
      refine Go.getfield d_Glacier_changeWarmth_14 rfl f_Glacier_32 gl_obj (by rfl) ?_
      refine Go.iload_1 d_Glacier_changeWarmth_17 rfl ?_
      refine Go.iload_2 d_Glacier_changeWarmth_18 rfl ?_
      refine Go.iastore d_Glacier_changeWarmth_19 rfl gl_war (vp_of c1_1 c10_2 (by decide)) ?_
      refine Go.heq gl_putW ?_
      rw [if_neg c1_1, if_neg c10_2]
      exact Go.vret d_Glacier_changeWarmth_20 rfl ⟨rfl, rfl, rfl⟩
set_option maxRecDepth 100000 in
set_option maxHeartbeats 4000000 in
theorem gN_Glacier_changeWarmth {σ : GL} {x1 : Int32} {x2 : Int32} (j : Nat) : gN (s_Glacier_changeWarmth σ x1 x2) j = gN σ j := by
  unfold s_Glacier_changeWarmth
  (repeat' split) <;> simp only [gN_gS, gN_gA, gN_gSW, gN_gSD, gN_gSC]
theorem d_Glacier_total_0 : decode M_Glacier_total.2.1 0 = .ok (.iload_n 1, 1) := by decide +kernel
theorem d_Glacier_total_1 : decode M_Glacier_total.2.1 1 = .ok (.tableswitch 77 7 11 #[35, 44, 53, 62, 72], 35) := by decide +kernel
theorem d_Glacier_total_36 : decode M_Glacier_total.2.1 36 = .ok (.aload_n 0, 1) := by decide +kernel
theorem d_Glacier_total_37 : decode M_Glacier_total.2.1 37 = .ok (.getfield 26, 3) := by decide +kernel
theorem d_Glacier_total_40 : decode M_Glacier_total.2.1 40 = .ok (.iconst 1, 1) := by decide +kernel
theorem d_Glacier_total_41 : decode M_Glacier_total.2.1 41 = .ok (.invokevirtual 65, 3) := by decide +kernel
theorem d_Glacier_total_44 : decode M_Glacier_total.2.1 44 = .ok (.ireturn, 1) := by decide +kernel
theorem d_Glacier_total_45 : decode M_Glacier_total.2.1 45 = .ok (.aload_n 0, 1) := by decide +kernel
theorem d_Glacier_total_46 : decode M_Glacier_total.2.1 46 = .ok (.getfield 14, 3) := by decide +kernel
theorem d_Glacier_total_49 : decode M_Glacier_total.2.1 49 = .ok (.iconst 2, 1) := by decide +kernel
theorem d_Glacier_total_50 : decode M_Glacier_total.2.1 50 = .ok (.invokevirtual 65, 3) := by decide +kernel
theorem d_Glacier_total_53 : decode M_Glacier_total.2.1 53 = .ok (.ireturn, 1) := by decide +kernel
theorem d_Glacier_total_54 : decode M_Glacier_total.2.1 54 = .ok (.aload_n 0, 1) := by decide +kernel
theorem d_Glacier_total_55 : decode M_Glacier_total.2.1 55 = .ok (.getfield 29, 3) := by decide +kernel
theorem d_Glacier_total_58 : decode M_Glacier_total.2.1 58 = .ok (.iconst 5, 1) := by decide +kernel
theorem d_Glacier_total_59 : decode M_Glacier_total.2.1 59 = .ok (.invokevirtual 65, 3) := by decide +kernel
theorem d_Glacier_total_62 : decode M_Glacier_total.2.1 62 = .ok (.ireturn, 1) := by decide +kernel
theorem d_Glacier_total_63 : decode M_Glacier_total.2.1 63 = .ok (.aload_n 0, 1) := by decide +kernel
theorem d_Glacier_total_64 : decode M_Glacier_total.2.1 64 = .ok (.getfield 29, 3) := by decide +kernel
theorem d_Glacier_total_67 : decode M_Glacier_total.2.1 67 = .ok (.bipush 6, 2) := by decide +kernel
theorem d_Glacier_total_69 : decode M_Glacier_total.2.1 69 = .ok (.invokevirtual 65, 3) := by decide +kernel
theorem d_Glacier_total_72 : decode M_Glacier_total.2.1 72 = .ok (.ireturn, 1) := by decide +kernel
theorem d_Glacier_total_73 : decode M_Glacier_total.2.1 73 = .ok (.aload_n 0, 1) := by decide +kernel
theorem d_Glacier_total_74 : decode M_Glacier_total.2.1 74 = .ok (.getfield 46, 3) := by decide +kernel
theorem d_Glacier_total_77 : decode M_Glacier_total.2.1 77 = .ok (.ireturn, 1) := by decide +kernel
theorem d_Glacier_total_78 : decode M_Glacier_total.2.1 78 = .ok (.aload_n 0, 1) := by decide +kernel
theorem d_Glacier_total_79 : decode M_Glacier_total.2.1 79 = .ok (.getfield 29, 3) := by decide +kernel
theorem d_Glacier_total_82 : decode M_Glacier_total.2.1 82 = .ok (.invokevirtual 68, 3) := by decide +kernel
theorem d_Glacier_total_85 : decode M_Glacier_total.2.1 85 = .ok (.aload_n 0, 1) := by decide +kernel
theorem d_Glacier_total_86 : decode M_Glacier_total.2.1 86 = .ok (.getfield 29, 3) := by decide +kernel
theorem d_Glacier_total_89 : decode M_Glacier_total.2.1 89 = .ok (.iconst 4, 1) := by decide +kernel
theorem d_Glacier_total_90 : decode M_Glacier_total.2.1 90 = .ok (.invokevirtual 65, 3) := by decide +kernel
theorem d_Glacier_total_93 : decode M_Glacier_total.2.1 93 = .ok (.isub, 1) := by decide +kernel
theorem d_Glacier_total_94 : decode M_Glacier_total.2.1 94 = .ok (.ireturn, 1) := by decide +kernel
def s_Glacier_total (σ : GL) (x1 : Int32) : Int32 := (if x1 = 7 then (gSum σ 3 1) else (if x1 = 8 then (gSum σ 0 2) else (if x1 = 9 then (gSum σ 4 5) else (if x1 = 10 then (gSum σ 4 6) else (if x1 = 11 then (gC σ) else ((nI (gN σ 4)) - (gSum σ 4 4)))))))
set_option maxRecDepth 100000 in
set_option maxHeartbeats 4000000 in
theorem c_Glacier_total {Γ : G9} {h : AH} {g z : Nat} {σ : GL} {x1 : Int32} (hW : WFG σ) : CallR Γ M_Glacier_total 2 [.ref g, .int x1] (blk h g 12 (glC Γ g σ)) z (some (.int (s_Glacier_total σ x1))) (blk h g 12 (glC Γ g σ)) := by
  refine Call.of_go (L := [some (.ref g), some (.int x1)]) (by decide +kernel) rfl (by exact Nat.le_of_ble_eq_true rfl) ?_
  unfold s_Glacier_total
  refine Go.iload_1 d_Glacier_total_0 rfl ?_
  by_cases w1_1 : x1 = 7
  · refine Go.tsw (t := 36) d_Glacier_total_1 (by rw [w1_1]; rfl) ?_
    refine Go.aload_0 d_Glacier_total_36 rfl ?_
    refine Go.getfield d_Glacier_total_37 rfl f_Glacier_26 gl_obj (by rfl) ?_
    refine Go.iconst (v := 1) d_Glacier_total_40 rfl (by decide) ?_
    refine Go.cv1r d_Glacier_total_41 rfl l_Glacier_65 k_Table_sum_v (gl_tab (k := 3) (by decide)) rfl (cG_sum (k := 3) (by decide) (c := 1) rfl (by omega) hW) rfl rfl rfl ?_
    rw [if_pos w1_1]
    exact Go.iret d_Glacier_total_44 rfl rfl ⟨rfl, rfl, rfl⟩
  by_cases w1_2 : x1 = 8
  · refine Go.tsw (t := 45) d_Glacier_total_1 (by rw [w1_2]; rfl) ?_
    refine Go.aload_0 d_Glacier_total_45 rfl ?_
    refine Go.getfield d_Glacier_total_46 rfl f_Glacier_14 gl_obj (by rfl) ?_
    refine Go.iconst (v := 2) d_Glacier_total_49 rfl (by decide) ?_
    refine Go.cv1r d_Glacier_total_50 rfl l_Glacier_65 k_Table_sum_v (gl_tab (k := 0) (by decide)) rfl (cG_sum (k := 0) (by decide) (c := 2) rfl (by omega) hW) rfl rfl rfl ?_
    rw [if_neg w1_1, if_pos w1_2]
    exact Go.iret d_Glacier_total_53 rfl rfl ⟨rfl, rfl, rfl⟩
  by_cases w1_3 : x1 = 9
  · refine Go.tsw (t := 54) d_Glacier_total_1 (by rw [w1_3]; rfl) ?_
    refine Go.aload_0 d_Glacier_total_54 rfl ?_
    refine Go.getfield d_Glacier_total_55 rfl f_Glacier_29 gl_obj (by rfl) ?_
    refine Go.iconst (v := 5) d_Glacier_total_58 rfl (by decide) ?_
    refine Go.cv1r d_Glacier_total_59 rfl l_Glacier_65 k_Table_sum_v (gl_tab (k := 4) (by decide)) rfl (cG_sum (k := 4) (by decide) (c := 5) rfl (by omega) hW) rfl rfl rfl ?_
    rw [if_neg w1_1, if_neg w1_2, if_pos w1_3]
    exact Go.iret d_Glacier_total_62 rfl rfl ⟨rfl, rfl, rfl⟩
  by_cases w1_4 : x1 = 10
  · refine Go.tsw (t := 63) d_Glacier_total_1 (by rw [w1_4]; rfl) ?_
    refine Go.aload_0 d_Glacier_total_63 rfl ?_
    refine Go.getfield d_Glacier_total_64 rfl f_Glacier_29 gl_obj (by rfl) ?_
    refine Go.bipush (v := 6) d_Glacier_total_67 rfl (by decide) ?_
    refine Go.cv1r d_Glacier_total_69 rfl l_Glacier_65 k_Table_sum_v (gl_tab (k := 4) (by decide)) rfl (cG_sum (k := 4) (by decide) (c := 6) rfl (by omega) hW) rfl rfl rfl ?_
    rw [if_neg w1_1, if_neg w1_2, if_neg w1_3, if_pos w1_4]
    exact Go.iret d_Glacier_total_72 rfl rfl ⟨rfl, rfl, rfl⟩
  by_cases w1_5 : x1 = 11
  · refine Go.tsw (t := 73) d_Glacier_total_1 (by rw [w1_5]; rfl) ?_
    refine Go.aload_0 d_Glacier_total_73 rfl ?_
    refine Go.getfield d_Glacier_total_74 rfl f_Glacier_46 gl_obj (by rfl) ?_
    rw [if_neg w1_1, if_neg w1_2, if_neg w1_3, if_neg w1_4, if_pos w1_5]
    exact Go.iret d_Glacier_total_77 rfl rfl ⟨rfl, rfl, rfl⟩
  refine Go.tsw (t := 78) d_Glacier_total_1 (tsw_out fun n hn => by
      match n, hn with
      | 0, _ => exact fun w => w1_1 (i32_eq w)
      | 1, _ => exact fun w => w1_2 (i32_eq w)
      | 2, _ => exact fun w => w1_3 (i32_eq w)
      | 3, _ => exact fun w => w1_4 (i32_eq w)
      | 4, _ => exact fun w => w1_5 (i32_eq w)
      | _ + 5, w => exact absurd w (by simp)) ?_
  refine Go.aload_0 d_Glacier_total_78 rfl ?_
  refine Go.getfield d_Glacier_total_79 rfl f_Glacier_29 gl_obj (by rfl) ?_
  refine Go.cv0r d_Glacier_total_82 rfl l_Glacier_68 k_Table_rows_v (gl_tab (k := 4) (by decide)) rfl (cG_rows (k := 4) (by decide)) rfl rfl rfl ?_
  refine Go.aload_0 d_Glacier_total_85 rfl ?_
  refine Go.getfield d_Glacier_total_86 rfl f_Glacier_29 gl_obj (by rfl) ?_
  refine Go.iconst (v := 4) d_Glacier_total_89 rfl (by decide) ?_
  refine Go.cv1r d_Glacier_total_90 rfl l_Glacier_65 k_Table_sum_v (gl_tab (k := 4) (by decide)) rfl (cG_sum (k := 4) (by decide) (c := 4) rfl (by omega) hW) rfl rfl rfl ?_
  refine Go.isub d_Glacier_total_93 rfl ?_
  rw [if_neg w1_1, if_neg w1_2, if_neg w1_3, if_neg w1_4, if_neg w1_5]
  exact Go.iret d_Glacier_total_94 rfl rfl ⟨rfl, rfl, rfl⟩
theorem d_Glacier_bandFact_0 : decode M_Glacier_bandFact.2.1 0 = .ok (.iload_n 2, 1) := by decide +kernel
theorem d_Glacier_bandFact_1 : decode M_Glacier_bandFact.2.1 1 = .ok (.tableswitch 63 3 5 #[27, 39, 51], 27) := by decide +kernel
theorem d_Glacier_bandFact_28 : decode M_Glacier_bandFact.2.1 28 = .ok (.aload_n 0, 1) := by decide +kernel
theorem d_Glacier_bandFact_29 : decode M_Glacier_bandFact.2.1 29 = .ok (.getfield 29, 3) := by decide +kernel
theorem d_Glacier_bandFact_32 : decode M_Glacier_bandFact.2.1 32 = .ok (.iconst 2, 1) := by decide +kernel
theorem d_Glacier_bandFact_33 : decode M_Glacier_bandFact.2.1 33 = .ok (.iload_n 1, 1) := by decide +kernel
theorem d_Glacier_bandFact_34 : decode M_Glacier_bandFact.2.1 34 = .ok (.iconst 4, 1) := by decide +kernel
theorem d_Glacier_bandFact_35 : decode M_Glacier_bandFact.2.1 35 = .ok (.iconst 1, 1) := by decide +kernel
theorem d_Glacier_bandFact_36 : decode M_Glacier_bandFact.2.1 36 = .ok (.invokevirtual 71, 3) := by decide +kernel
theorem d_Glacier_bandFact_39 : decode M_Glacier_bandFact.2.1 39 = .ok (.ireturn, 1) := by decide +kernel
theorem d_Glacier_bandFact_40 : decode M_Glacier_bandFact.2.1 40 = .ok (.aload_n 0, 1) := by decide +kernel
theorem d_Glacier_bandFact_41 : decode M_Glacier_bandFact.2.1 41 = .ok (.getfield 20, 3) := by decide +kernel
theorem d_Glacier_bandFact_44 : decode M_Glacier_bandFact.2.1 44 = .ok (.iconst 0, 1) := by decide +kernel
theorem d_Glacier_bandFact_45 : decode M_Glacier_bandFact.2.1 45 = .ok (.iload_n 1, 1) := by decide +kernel
theorem d_Glacier_bandFact_46 : decode M_Glacier_bandFact.2.1 46 = .ok (.iconst 3, 1) := by decide +kernel
theorem d_Glacier_bandFact_47 : decode M_Glacier_bandFact.2.1 47 = .ok (.iconst 1, 1) := by decide +kernel
theorem d_Glacier_bandFact_48 : decode M_Glacier_bandFact.2.1 48 = .ok (.invokevirtual 71, 3) := by decide +kernel
theorem d_Glacier_bandFact_51 : decode M_Glacier_bandFact.2.1 51 = .ok (.ireturn, 1) := by decide +kernel
theorem d_Glacier_bandFact_52 : decode M_Glacier_bandFact.2.1 52 = .ok (.aload_n 0, 1) := by decide +kernel
theorem d_Glacier_bandFact_53 : decode M_Glacier_bandFact.2.1 53 = .ok (.getfield 23, 3) := by decide +kernel
theorem d_Glacier_bandFact_56 : decode M_Glacier_bandFact.2.1 56 = .ok (.iconst 0, 1) := by decide +kernel
theorem d_Glacier_bandFact_57 : decode M_Glacier_bandFact.2.1 57 = .ok (.iload_n 1, 1) := by decide +kernel
theorem d_Glacier_bandFact_58 : decode M_Glacier_bandFact.2.1 58 = .ok (.iconst 0, 1) := by decide +kernel
theorem d_Glacier_bandFact_59 : decode M_Glacier_bandFact.2.1 59 = .ok (.iload_n 1, 1) := by decide +kernel
theorem d_Glacier_bandFact_60 : decode M_Glacier_bandFact.2.1 60 = .ok (.invokevirtual 71, 3) := by decide +kernel
theorem d_Glacier_bandFact_63 : decode M_Glacier_bandFact.2.1 63 = .ok (.ireturn, 1) := by decide +kernel
theorem d_Glacier_bandFact_64 : decode M_Glacier_bandFact.2.1 64 = .ok (.aload_n 0, 1) := by decide +kernel
theorem d_Glacier_bandFact_65 : decode M_Glacier_bandFact.2.1 65 = .ok (.getfield 14, 3) := by decide +kernel
theorem d_Glacier_bandFact_68 : decode M_Glacier_bandFact.2.1 68 = .ok (.iload_n 1, 1) := by decide +kernel
theorem d_Glacier_bandFact_69 : decode M_Glacier_bandFact.2.1 69 = .ok (.iload_n 2, 1) := by decide +kernel
theorem d_Glacier_bandFact_70 : decode M_Glacier_bandFact.2.1 70 = .ok (.invokevirtual 75, 3) := by decide +kernel
theorem d_Glacier_bandFact_73 : decode M_Glacier_bandFact.2.1 73 = .ok (.ireturn, 1) := by decide +kernel
def s_Glacier_bandFact (σ : GL) (x1 : Int32) (x2 : Nat) : Int32 := (if (nI x2) = 3 then (gMat σ 4 2 x1 4 1) else (if (nI x2) = 4 then (gMat σ 1 0 x1 3 1) else (if (nI x2) = 5 then (gMat σ 2 0 x1 0 x1) else (gG σ 0 x1 x2))))
set_option maxRecDepth 100000 in
set_option maxHeartbeats 4000000 in
theorem c_Glacier_bandFact {Γ : G9} {h : AH} {g z : Nat} {σ : GL} {x1 : Int32} {x2 : Nat} {v2 : Int32} (e2 : v2 = nI x2) (b2 : x2 < 8) (hW : WFG σ) : CallR Γ M_Glacier_bandFact 2 [.ref g, .int x1, .int v2] (blk h g 12 (glC Γ g σ)) z (some (.int (s_Glacier_bandFact σ x1 x2))) (blk h g 12 (glC Γ g σ)) := by
  subst e2
  refine Call.of_go (L := [some (.ref g), some (.int x1), some (.int (nI x2))]) (by decide +kernel) rfl (by exact Nat.le_of_ble_eq_true rfl) ?_
  unfold s_Glacier_bandFact
  refine Go.iload_2 d_Glacier_bandFact_0 rfl ?_
  by_cases w1_1 : (nI x2) = 3
  · refine Go.tsw (t := 28) d_Glacier_bandFact_1 (by rw [w1_1]; rfl) ?_
    refine Go.aload_0 d_Glacier_bandFact_28 rfl ?_
    refine Go.getfield d_Glacier_bandFact_29 rfl f_Glacier_29 gl_obj (by rfl) ?_
    refine Go.iconst (v := 2) d_Glacier_bandFact_32 rfl (by decide) ?_
    refine Go.iload_1 d_Glacier_bandFact_33 rfl ?_
    refine Go.iconst (v := 4) d_Glacier_bandFact_34 rfl (by decide) ?_
    refine Go.iconst (v := 1) d_Glacier_bandFact_35 rfl (by decide) ?_
    refine Go.cv4r d_Glacier_bandFact_36 rfl l_Glacier_71 k_Table_matches_v (gl_tab (k := 4) (by decide)) rfl (cG_mat (k := 4) (by decide) (c := 2) rfl (by omega) (c2 := 4) rfl (by omega) hW) rfl rfl rfl ?_
    rw [if_pos w1_1]
    exact Go.iret d_Glacier_bandFact_39 rfl rfl ⟨rfl, rfl, rfl⟩
  by_cases w1_2 : (nI x2) = 4
  · refine Go.tsw (t := 40) d_Glacier_bandFact_1 (by rw [w1_2]; rfl) ?_
    refine Go.aload_0 d_Glacier_bandFact_40 rfl ?_
    refine Go.getfield d_Glacier_bandFact_41 rfl f_Glacier_20 gl_obj (by rfl) ?_
    refine Go.iconst (v := 0) d_Glacier_bandFact_44 rfl (by decide) ?_
    refine Go.iload_1 d_Glacier_bandFact_45 rfl ?_
    refine Go.iconst (v := 3) d_Glacier_bandFact_46 rfl (by decide) ?_
    refine Go.iconst (v := 1) d_Glacier_bandFact_47 rfl (by decide) ?_
    refine Go.cv4r d_Glacier_bandFact_48 rfl l_Glacier_71 k_Table_matches_v (gl_tab (k := 1) (by decide)) rfl (cG_mat (k := 1) (by decide) (c := 0) rfl (by omega) (c2 := 3) rfl (by omega) hW) rfl rfl rfl ?_
    rw [if_neg w1_1, if_pos w1_2]
    exact Go.iret d_Glacier_bandFact_51 rfl rfl ⟨rfl, rfl, rfl⟩
  by_cases w1_3 : (nI x2) = 5
  · refine Go.tsw (t := 52) d_Glacier_bandFact_1 (by rw [w1_3]; rfl) ?_
    refine Go.aload_0 d_Glacier_bandFact_52 rfl ?_
    refine Go.getfield d_Glacier_bandFact_53 rfl f_Glacier_23 gl_obj (by rfl) ?_
    refine Go.iconst (v := 0) d_Glacier_bandFact_56 rfl (by decide) ?_
    refine Go.iload_1 d_Glacier_bandFact_57 rfl ?_
    refine Go.iconst (v := 0) d_Glacier_bandFact_58 rfl (by decide) ?_
    refine Go.iload_1 d_Glacier_bandFact_59 rfl ?_
    refine Go.cv4r d_Glacier_bandFact_60 rfl l_Glacier_71 k_Table_matches_v (gl_tab (k := 2) (by decide)) rfl (cG_mat (k := 2) (by decide) (c := 0) rfl (by omega) (c2 := 0) rfl (by omega) hW) rfl rfl rfl ?_
    rw [if_neg w1_1, if_neg w1_2, if_pos w1_3]
    exact Go.iret d_Glacier_bandFact_63 rfl rfl ⟨rfl, rfl, rfl⟩
  refine Go.tsw (t := 64) d_Glacier_bandFact_1 (tsw_out fun n hn => by
      match n, hn with
      | 0, _ => exact fun w => w1_1 (i32_eq w)
      | 1, _ => exact fun w => w1_2 (i32_eq w)
      | 2, _ => exact fun w => w1_3 (i32_eq w)
      | _ + 3, w => exact absurd w (by simp)) ?_
  refine Go.aload_0 d_Glacier_bandFact_64 rfl ?_
  refine Go.getfield d_Glacier_bandFact_65 rfl f_Glacier_14 gl_obj (by rfl) ?_
  refine Go.iload_1 d_Glacier_bandFact_68 rfl ?_
  refine Go.iload_2 d_Glacier_bandFact_69 rfl ?_
  refine Go.cv2r d_Glacier_bandFact_70 rfl l_Glacier_75 k_Table_get_v (gl_tab (k := 0) (by decide)) rfl (cG_get (k := 0) (by decide) (c := x2) rfl (by omega) hW) rfl rfl rfl ?_
  rw [if_neg w1_1, if_neg w1_2, if_neg w1_3]
  exact Go.iret d_Glacier_bandFact_73 rfl rfl ⟨rfl, rfl, rfl⟩
theorem d_Glacier_crevasseFact_0 : decode M_Glacier_crevasseFact.2.1 0 = .ok (.aload_n 0, 1) := by decide +kernel
theorem d_Glacier_crevasseFact_1 : decode M_Glacier_crevasseFact.2.1 1 = .ok (.getfield 23, 3) := by decide +kernel
theorem d_Glacier_crevasseFact_4 : decode M_Glacier_crevasseFact.2.1 4 = .ok (.iload_n 1, 1) := by decide +kernel
theorem d_Glacier_crevasseFact_5 : decode M_Glacier_crevasseFact.2.1 5 = .ok (.iload_n 2, 1) := by decide +kernel
theorem d_Glacier_crevasseFact_6 : decode M_Glacier_crevasseFact.2.1 6 = .ok (.invokevirtual 75, 3) := by decide +kernel
theorem d_Glacier_crevasseFact_9 : decode M_Glacier_crevasseFact.2.1 9 = .ok (.istore_n 3, 1) := by decide +kernel
theorem d_Glacier_crevasseFact_10 : decode M_Glacier_crevasseFact.2.1 10 = .ok (.iload_n 2, 1) := by decide +kernel
theorem d_Glacier_crevasseFact_11 : decode M_Glacier_crevasseFact.2.1 11 = .ok (.iconst 2, 1) := by decide +kernel
theorem d_Glacier_crevasseFact_12 : decode M_Glacier_crevasseFact.2.1 12 = .ok (.if_icmp .ne 11, 3) := by decide +kernel
theorem d_Glacier_crevasseFact_15 : decode M_Glacier_crevasseFact.2.1 15 = .ok (.iconst 1, 1) := by decide +kernel
theorem d_Glacier_crevasseFact_16 : decode M_Glacier_crevasseFact.2.1 16 = .ok (.iload_n 3, 1) := by decide +kernel
theorem d_Glacier_crevasseFact_17 : decode M_Glacier_crevasseFact.2.1 17 = .ok (.invokestatic 79, 3) := by decide +kernel
theorem d_Glacier_crevasseFact_20 : decode M_Glacier_crevasseFact.2.1 20 = .ok (.goto 4, 3) := by decide +kernel
theorem d_Glacier_crevasseFact_23 : decode M_Glacier_crevasseFact.2.1 23 = .ok (.iload_n 3, 1) := by decide +kernel
theorem d_Glacier_crevasseFact_24 : decode M_Glacier_crevasseFact.2.1 24 = .ok (.ireturn, 1) := by decide +kernel
def s_Glacier_crevasseFact (σ : GL) (x1 : Int32) (x2 : Nat) : Int32 := (if (nI x2) = 2 then (iMin 1 (gG σ 2 x1 x2)) else (gG σ 2 x1 x2))
set_option maxRecDepth 100000 in
set_option maxHeartbeats 4000000 in
theorem c_Glacier_crevasseFact {Γ : G9} {h : AH} {g z : Nat} {σ : GL} {x1 : Int32} {x2 : Nat} {v2 : Int32} (e2 : v2 = nI x2) (b2 : x2 < 8) (hW : WFG σ) : CallR Γ M_Glacier_crevasseFact 1 [.ref g, .int x1, .int v2] (blk h g 12 (glC Γ g σ)) z (some (.int (s_Glacier_crevasseFact σ x1 x2))) (blk h g 12 (glC Γ g σ)) := by
  subst e2
  refine Call.of_go (L := [some (.ref g), some (.int x1), some (.int (nI x2)), none]) (by decide +kernel) rfl (by exact Nat.le_of_ble_eq_true rfl) ?_
  unfold s_Glacier_crevasseFact
  refine Go.aload_0 d_Glacier_crevasseFact_0 rfl ?_
  refine Go.getfield d_Glacier_crevasseFact_1 rfl f_Glacier_23 gl_obj (by rfl) ?_
  refine Go.iload_1 d_Glacier_crevasseFact_4 rfl ?_
  refine Go.iload_2 d_Glacier_crevasseFact_5 rfl ?_
  refine Go.cv2r d_Glacier_crevasseFact_6 rfl l_Glacier_75 k_Table_get_v (gl_tab (k := 2) (by decide)) rfl (cG_get (k := 2) (by decide) (c := x2) rfl (by omega) hW) rfl rfl rfl ?_
  refine Go.istore_3 d_Glacier_crevasseFact_9 rfl (by rfl) ?_
  refine Go.iload_2 d_Glacier_crevasseFact_10 rfl ?_
  refine Go.iconst (v := 2) d_Glacier_crevasseFact_11 rfl (by decide) ?_
  refine Go.icmp_ne (t := 23) d_Glacier_crevasseFact_12 (by decide) rfl (fun c12_1 => ?_) (fun c12_1 => ?_)
  · refine Go.iload_3 d_Glacier_crevasseFact_23 rfl ?_
    rw [if_neg c12_1]
    exact Go.iret d_Glacier_crevasseFact_24 rfl rfl ⟨rfl, rfl, rfl⟩
  · refine Go.iconst (v := 1) d_Glacier_crevasseFact_15 rfl (by decide) ?_
    refine Go.iload_3 d_Glacier_crevasseFact_16 rfl ?_
    refine Go.imin d_Glacier_crevasseFact_17 rfl l_Glacier_79 (by decide) rfl ?_
    refine Go.goto (t := 24) d_Glacier_crevasseFact_20 (by decide) ?_
    rw [if_pos c12_1]
    exact Go.iret d_Glacier_crevasseFact_24 rfl rfl ⟨rfl, rfl, rfl⟩
theorem d_Glacier_isHere_0 : decode M_Glacier_isHere.2.1 0 = .ok (.aload_n 0, 1) := by decide +kernel
theorem d_Glacier_isHere_1 : decode M_Glacier_isHere.2.1 1 = .ok (.getfield 29, 3) := by decide +kernel
theorem d_Glacier_isHere_4 : decode M_Glacier_isHere.2.1 4 = .ok (.iload_n 1, 1) := by decide +kernel
theorem d_Glacier_isHere_5 : decode M_Glacier_isHere.2.1 5 = .ok (.iconst 4, 1) := by decide +kernel
theorem d_Glacier_isHere_6 : decode M_Glacier_isHere.2.1 6 = .ok (.invokevirtual 75, 3) := by decide +kernel
theorem d_Glacier_isHere_9 : decode M_Glacier_isHere.2.1 9 = .ok (.iconst 1, 1) := by decide +kernel
theorem d_Glacier_isHere_10 : decode M_Glacier_isHere.2.1 10 = .ok (.if_icmp .ne 7, 3) := by decide +kernel
theorem d_Glacier_isHere_13 : decode M_Glacier_isHere.2.1 13 = .ok (.iconst 1, 1) := by decide +kernel
theorem d_Glacier_isHere_14 : decode M_Glacier_isHere.2.1 14 = .ok (.goto 4, 3) := by decide +kernel
theorem d_Glacier_isHere_17 : decode M_Glacier_isHere.2.1 17 = .ok (.iconst 0, 1) := by decide +kernel
theorem d_Glacier_isHere_18 : decode M_Glacier_isHere.2.1 18 = .ok (.ireturn, 1) := by decide +kernel
def s_Glacier_isHere (σ : GL) (x1 : Int32) : Int32 := (if (gG σ 4 x1 4) = 1 then 1 else 0)
set_option maxRecDepth 100000 in
set_option maxHeartbeats 4000000 in
theorem c_Glacier_isHere {Γ : G9} {h : AH} {g z : Nat} {σ : GL} {x1 : Int32} (hW : WFG σ) : CallR Γ M_Glacier_isHere 1 [.ref g, .int x1] (blk h g 12 (glC Γ g σ)) z (some (.int (s_Glacier_isHere σ x1))) (blk h g 12 (glC Γ g σ)) := by
  refine Call.of_go (L := [some (.ref g), some (.int x1)]) (by decide +kernel) rfl (by exact Nat.le_of_ble_eq_true rfl) ?_
  unfold s_Glacier_isHere
  refine Go.aload_0 d_Glacier_isHere_0 rfl ?_
  refine Go.getfield d_Glacier_isHere_1 rfl f_Glacier_29 gl_obj (by rfl) ?_
  refine Go.iload_1 d_Glacier_isHere_4 rfl ?_
  refine Go.iconst (v := 4) d_Glacier_isHere_5 rfl (by decide) ?_
  refine Go.cv2r d_Glacier_isHere_6 rfl l_Glacier_75 k_Table_get_v (gl_tab (k := 4) (by decide)) rfl (cG_get (k := 4) (by decide) (c := 4) rfl (by omega) hW) rfl rfl rfl ?_
  refine Go.iconst (v := 1) d_Glacier_isHere_9 rfl (by decide) ?_
  refine Go.icmp_ne (t := 17) d_Glacier_isHere_10 (by decide) rfl (fun c10_1 => ?_) (fun c10_1 => ?_)
  · refine Go.iconst (v := 0) d_Glacier_isHere_17 rfl (by decide) ?_
    rw [if_neg c10_1]
    exact Go.iret d_Glacier_isHere_18 rfl rfl ⟨rfl, rfl, rfl⟩
  · refine Go.iconst (v := 1) d_Glacier_isHere_13 rfl (by decide) ?_
    refine Go.goto (t := 18) d_Glacier_isHere_14 (by decide) ?_
    rw [if_pos c10_1]
    exact Go.iret d_Glacier_isHere_18 rfl rfl ⟨rfl, rfl, rfl⟩
set_option maxRecDepth 100000 in
set_option maxHeartbeats 4000000 in
theorem s_Glacier_isHere_01 (σ : GL) (x1 : Int32) : (s_Glacier_isHere σ x1) = 0 ∨ (s_Glacier_isHere σ x1) = 1 := by
  unfold s_Glacier_isHere
  (repeat' split) <;> first | exact Or.inl rfl | exact Or.inr rfl
theorem d_Glacier_canDo_0 : decode M_Glacier_canDo.2.1 0 = .ok (.aload_n 0, 1) := by decide +kernel
theorem d_Glacier_canDo_1 : decode M_Glacier_canDo.2.1 1 = .ok (.getfield 29, 3) := by decide +kernel
theorem d_Glacier_canDo_4 : decode M_Glacier_canDo.2.1 4 = .ok (.iload_n 1, 1) := by decide +kernel
theorem d_Glacier_canDo_5 : decode M_Glacier_canDo.2.1 5 = .ok (.iconst 4, 1) := by decide +kernel
theorem d_Glacier_canDo_6 : decode M_Glacier_canDo.2.1 6 = .ok (.invokevirtual 75, 3) := by decide +kernel
theorem d_Glacier_canDo_9 : decode M_Glacier_canDo.2.1 9 = .ok (.iconst 1, 1) := by decide +kernel
theorem d_Glacier_canDo_10 : decode M_Glacier_canDo.2.1 10 = .ok (.if_icmp .ne 20, 3) := by decide +kernel
theorem d_Glacier_canDo_13 : decode M_Glacier_canDo.2.1 13 = .ok (.aload_n 0, 1) := by decide +kernel
theorem d_Glacier_canDo_14 : decode M_Glacier_canDo.2.1 14 = .ok (.getfield 29, 3) := by decide +kernel
theorem d_Glacier_canDo_17 : decode M_Glacier_canDo.2.1 17 = .ok (.iload_n 1, 1) := by decide +kernel
theorem d_Glacier_canDo_18 : decode M_Glacier_canDo.2.1 18 = .ok (.bipush 7, 2) := by decide +kernel
theorem d_Glacier_canDo_20 : decode M_Glacier_canDo.2.1 20 = .ok (.invokevirtual 75, 3) := by decide +kernel
theorem d_Glacier_canDo_23 : decode M_Glacier_canDo.2.1 23 = .ok (.ifCond .ne 7, 3) := by decide +kernel
theorem d_Glacier_canDo_26 : decode M_Glacier_canDo.2.1 26 = .ok (.iconst 1, 1) := by decide +kernel
theorem d_Glacier_canDo_27 : decode M_Glacier_canDo.2.1 27 = .ok (.goto 4, 3) := by decide +kernel
theorem d_Glacier_canDo_30 : decode M_Glacier_canDo.2.1 30 = .ok (.iconst 0, 1) := by decide +kernel
theorem d_Glacier_canDo_31 : decode M_Glacier_canDo.2.1 31 = .ok (.ireturn, 1) := by decide +kernel
def s_Glacier_canDo (σ : GL) (x1 : Int32) : Int32 := (if (gG σ 4 x1 4) = 1 then (if (gG σ 4 x1 7) = 0 then 1 else 0) else 0)
set_option maxRecDepth 100000 in
set_option maxHeartbeats 4000000 in
theorem c_Glacier_canDo {Γ : G9} {h : AH} {g z : Nat} {σ : GL} {x1 : Int32} (hW : WFG σ) : CallR Γ M_Glacier_canDo 1 [.ref g, .int x1] (blk h g 12 (glC Γ g σ)) z (some (.int (s_Glacier_canDo σ x1))) (blk h g 12 (glC Γ g σ)) := by
  refine Call.of_go (L := [some (.ref g), some (.int x1)]) (by decide +kernel) rfl (by exact Nat.le_of_ble_eq_true rfl) ?_
  unfold s_Glacier_canDo
  refine Go.aload_0 d_Glacier_canDo_0 rfl ?_
  refine Go.getfield d_Glacier_canDo_1 rfl f_Glacier_29 gl_obj (by rfl) ?_
  refine Go.iload_1 d_Glacier_canDo_4 rfl ?_
  refine Go.iconst (v := 4) d_Glacier_canDo_5 rfl (by decide) ?_
  refine Go.cv2r d_Glacier_canDo_6 rfl l_Glacier_75 k_Table_get_v (gl_tab (k := 4) (by decide)) rfl (cG_get (k := 4) (by decide) (c := 4) rfl (by omega) hW) rfl rfl rfl ?_
  refine Go.iconst (v := 1) d_Glacier_canDo_9 rfl (by decide) ?_
  refine Go.icmp_ne (t := 30) d_Glacier_canDo_10 (by decide) rfl (fun c10_1 => ?_) (fun c10_1 => ?_)
  · refine Go.iconst (v := 0) d_Glacier_canDo_30 rfl (by decide) ?_
    rw [if_neg c10_1]
    exact Go.iret d_Glacier_canDo_31 rfl rfl ⟨rfl, rfl, rfl⟩
  · refine Go.aload_0 d_Glacier_canDo_13 rfl ?_
    refine Go.getfield d_Glacier_canDo_14 rfl f_Glacier_29 gl_obj (by rfl) ?_
    refine Go.iload_1 d_Glacier_canDo_17 rfl ?_
    refine Go.bipush (v := 7) d_Glacier_canDo_18 rfl (by decide) ?_
    refine Go.cv2r d_Glacier_canDo_20 rfl l_Glacier_75 k_Table_get_v (gl_tab (k := 4) (by decide)) rfl (cG_get (k := 4) (by decide) (c := 7) rfl (by omega) hW) rfl rfl rfl ?_
    refine Go.if_ne (t := 30) d_Glacier_canDo_23 (by decide) rfl (fun c23_2 => ?_) (fun c23_2 => ?_)
    · refine Go.iconst (v := 0) d_Glacier_canDo_30 rfl (by decide) ?_
      rw [if_pos c10_1, if_neg c23_2]
      exact Go.iret d_Glacier_canDo_31 rfl rfl ⟨rfl, rfl, rfl⟩
    · refine Go.iconst (v := 1) d_Glacier_canDo_26 rfl (by decide) ?_
      refine Go.goto (t := 31) d_Glacier_canDo_27 (by decide) ?_
      rw [if_pos c10_1, if_pos c23_2]
      exact Go.iret d_Glacier_canDo_31 rfl rfl ⟨rfl, rfl, rfl⟩
set_option maxRecDepth 100000 in
set_option maxHeartbeats 4000000 in
theorem s_Glacier_canDo_01 (σ : GL) (x1 : Int32) : (s_Glacier_canDo σ x1) = 0 ∨ (s_Glacier_canDo σ x1) = 1 := by
  unfold s_Glacier_canDo
  (repeat' split) <;> first | exact Or.inl rfl | exact Or.inr rfl
theorem d_Glacier_isTooWeak_0 : decode M_Glacier_isTooWeak.2.1 0 = .ok (.aload_n 0, 1) := by decide +kernel
theorem d_Glacier_isTooWeak_1 : decode M_Glacier_isTooWeak.2.1 1 = .ok (.getfield 29, 3) := by decide +kernel
theorem d_Glacier_isTooWeak_4 : decode M_Glacier_isTooWeak.2.1 4 = .ok (.iload_n 2, 1) := by decide +kernel
theorem d_Glacier_isTooWeak_5 : decode M_Glacier_isTooWeak.2.1 5 = .ok (.iconst 2, 1) := by decide +kernel
theorem d_Glacier_isTooWeak_6 : decode M_Glacier_isTooWeak.2.1 6 = .ok (.invokevirtual 75, 3) := by decide +kernel
theorem d_Glacier_isTooWeak_9 : decode M_Glacier_isTooWeak.2.1 9 = .ok (.iload_n 3, 1) := by decide +kernel
theorem d_Glacier_isTooWeak_10 : decode M_Glacier_isTooWeak.2.1 10 = .ok (.ifCond .eq 7, 3) := by decide +kernel
theorem d_Glacier_isTooWeak_13 : decode M_Glacier_isTooWeak.2.1 13 = .ok (.iconst 0, 1) := by decide +kernel
theorem d_Glacier_isTooWeak_14 : decode M_Glacier_isTooWeak.2.1 14 = .ok (.goto 4, 3) := by decide +kernel
theorem d_Glacier_isTooWeak_17 : decode M_Glacier_isTooWeak.2.1 17 = .ok (.iconst 1, 1) := by decide +kernel
theorem d_Glacier_isTooWeak_18 : decode M_Glacier_isTooWeak.2.1 18 = .ok (.isub, 1) := by decide +kernel
theorem d_Glacier_isTooWeak_19 : decode M_Glacier_isTooWeak.2.1 19 = .ok (.istore 4, 2) := by decide +kernel
theorem d_Glacier_isTooWeak_21 : decode M_Glacier_isTooWeak.2.1 21 = .ok (.aload_n 0, 1) := by decide +kernel
theorem d_Glacier_isTooWeak_22 : decode M_Glacier_isTooWeak.2.1 22 = .ok (.getfield 23, 3) := by decide +kernel
theorem d_Glacier_isTooWeak_25 : decode M_Glacier_isTooWeak.2.1 25 = .ok (.iload_n 1, 1) := by decide +kernel
theorem d_Glacier_isTooWeak_26 : decode M_Glacier_isTooWeak.2.1 26 = .ok (.iconst 0, 1) := by decide +kernel
theorem d_Glacier_isTooWeak_27 : decode M_Glacier_isTooWeak.2.1 27 = .ok (.invokevirtual 75, 3) := by decide +kernel
theorem d_Glacier_isTooWeak_30 : decode M_Glacier_isTooWeak.2.1 30 = .ok (.iload 4, 2) := by decide +kernel
theorem d_Glacier_isTooWeak_32 : decode M_Glacier_isTooWeak.2.1 32 = .ok (.if_icmp .ne 31, 3) := by decide +kernel
theorem d_Glacier_isTooWeak_35 : decode M_Glacier_isTooWeak.2.1 35 = .ok (.aload_n 0, 1) := by decide +kernel
theorem d_Glacier_isTooWeak_36 : decode M_Glacier_isTooWeak.2.1 36 = .ok (.getfield 23, 3) := by decide +kernel
theorem d_Glacier_isTooWeak_39 : decode M_Glacier_isTooWeak.2.1 39 = .ok (.iload_n 1, 1) := by decide +kernel
theorem d_Glacier_isTooWeak_40 : decode M_Glacier_isTooWeak.2.1 40 = .ok (.iconst 1, 1) := by decide +kernel
theorem d_Glacier_isTooWeak_41 : decode M_Glacier_isTooWeak.2.1 41 = .ok (.invokevirtual 75, 3) := by decide +kernel
theorem d_Glacier_isTooWeak_44 : decode M_Glacier_isTooWeak.2.1 44 = .ok (.bipush 8, 2) := by decide +kernel
theorem d_Glacier_isTooWeak_46 : decode M_Glacier_isTooWeak.2.1 46 = .ok (.aload_n 0, 1) := by decide +kernel
theorem d_Glacier_isTooWeak_47 : decode M_Glacier_isTooWeak.2.1 47 = .ok (.getfield 29, 3) := by decide +kernel
theorem d_Glacier_isTooWeak_50 : decode M_Glacier_isTooWeak.2.1 50 = .ok (.iload_n 2, 1) := by decide +kernel
theorem d_Glacier_isTooWeak_51 : decode M_Glacier_isTooWeak.2.1 51 = .ok (.iconst 0, 1) := by decide +kernel
theorem d_Glacier_isTooWeak_52 : decode M_Glacier_isTooWeak.2.1 52 = .ok (.invokevirtual 75, 3) := by decide +kernel
theorem d_Glacier_isTooWeak_55 : decode M_Glacier_isTooWeak.2.1 55 = .ok (.imul, 1) := by decide +kernel
theorem d_Glacier_isTooWeak_56 : decode M_Glacier_isTooWeak.2.1 56 = .ok (.if_icmp .ge 7, 3) := by decide +kernel
theorem d_Glacier_isTooWeak_59 : decode M_Glacier_isTooWeak.2.1 59 = .ok (.iconst 1, 1) := by decide +kernel
theorem d_Glacier_isTooWeak_60 : decode M_Glacier_isTooWeak.2.1 60 = .ok (.goto 4, 3) := by decide +kernel
theorem d_Glacier_isTooWeak_63 : decode M_Glacier_isTooWeak.2.1 63 = .ok (.iconst 0, 1) := by decide +kernel
theorem d_Glacier_isTooWeak_64 : decode M_Glacier_isTooWeak.2.1 64 = .ok (.ireturn, 1) := by decide +kernel
def s_Glacier_isTooWeak (σ : GL) (x1 : Int32) (x2 : Int32) (x3 : Int32) : Int32 := (if x3 = 0 then (if (gG σ 2 x1 0) = ((gG σ 4 x2 2) - 1) then (if (8 * (gG σ 4 x2 0)) ≤ (gG σ 2 x1 1) then 0 else 1) else 0) else (if (gG σ 2 x1 0) = ((gG σ 4 x2 2) - 0) then (if (8 * (gG σ 4 x2 0)) ≤ (gG σ 2 x1 1) then 0 else 1) else 0))
set_option maxRecDepth 100000 in
set_option maxHeartbeats 4000000 in
theorem c_Glacier_isTooWeak {Γ : G9} {h : AH} {g z : Nat} {σ : GL} {x1 : Int32} {x2 : Int32} {x3 : Int32} (hW : WFG σ) : CallR Γ M_Glacier_isTooWeak 1 [.ref g, .int x1, .int x2, .int x3] (blk h g 12 (glC Γ g σ)) z (some (.int (s_Glacier_isTooWeak σ x1 x2 x3))) (blk h g 12 (glC Γ g σ)) := by
  refine Call.of_go (L := [some (.ref g), some (.int x1), some (.int x2), some (.int x3), none]) (by decide +kernel) rfl (by exact Nat.le_of_ble_eq_true rfl) ?_
  unfold s_Glacier_isTooWeak
  refine Go.aload_0 d_Glacier_isTooWeak_0 rfl ?_
  refine Go.getfield d_Glacier_isTooWeak_1 rfl f_Glacier_29 gl_obj (by rfl) ?_
  refine Go.iload_2 d_Glacier_isTooWeak_4 rfl ?_
  refine Go.iconst (v := 2) d_Glacier_isTooWeak_5 rfl (by decide) ?_
  refine Go.cv2r d_Glacier_isTooWeak_6 rfl l_Glacier_75 k_Table_get_v (gl_tab (k := 4) (by decide)) rfl (cG_get (k := 4) (by decide) (c := 2) rfl (by omega) hW) rfl rfl rfl ?_
  refine Go.iload_3 d_Glacier_isTooWeak_9 rfl ?_
  refine Go.if_eq (t := 17) d_Glacier_isTooWeak_10 (by decide) rfl (fun c10_1 => ?_) (fun c10_1 => ?_)
  · refine Go.iconst (v := 1) d_Glacier_isTooWeak_17 rfl (by decide) ?_
    refine Go.isub d_Glacier_isTooWeak_18 rfl ?_
    refine Go.istore_4 d_Glacier_isTooWeak_19 rfl (by rfl) ?_
    refine Go.aload_0 d_Glacier_isTooWeak_21 rfl ?_
    refine Go.getfield d_Glacier_isTooWeak_22 rfl f_Glacier_23 gl_obj (by rfl) ?_
    refine Go.iload_1 d_Glacier_isTooWeak_25 rfl ?_
    refine Go.iconst (v := 0) d_Glacier_isTooWeak_26 rfl (by decide) ?_
    refine Go.cv2r d_Glacier_isTooWeak_27 rfl l_Glacier_75 k_Table_get_v (gl_tab (k := 2) (by decide)) rfl (cG_get (k := 2) (by decide) (c := 0) rfl (by omega) hW) rfl rfl rfl ?_
    refine Go.iload_4 d_Glacier_isTooWeak_30 rfl ?_
    refine Go.icmp_ne (t := 63) d_Glacier_isTooWeak_32 (by decide) rfl (fun c32_2 => ?_) (fun c32_2 => ?_)
    · refine Go.iconst (v := 0) d_Glacier_isTooWeak_63 rfl (by decide) ?_
      rw [if_pos c10_1, if_neg c32_2]
      exact Go.iret d_Glacier_isTooWeak_64 rfl rfl ⟨rfl, rfl, rfl⟩
    · refine Go.aload_0 d_Glacier_isTooWeak_35 rfl ?_
      refine Go.getfield d_Glacier_isTooWeak_36 rfl f_Glacier_23 gl_obj (by rfl) ?_
      refine Go.iload_1 d_Glacier_isTooWeak_39 rfl ?_
      refine Go.iconst (v := 1) d_Glacier_isTooWeak_40 rfl (by decide) ?_
      refine Go.cv2r d_Glacier_isTooWeak_41 rfl l_Glacier_75 k_Table_get_v (gl_tab (k := 2) (by decide)) rfl (cG_get (k := 2) (by decide) (c := 1) rfl (by omega) hW) rfl rfl rfl ?_
      refine Go.bipush (v := 8) d_Glacier_isTooWeak_44 rfl (by decide) ?_
      refine Go.aload_0 d_Glacier_isTooWeak_46 rfl ?_
      refine Go.getfield d_Glacier_isTooWeak_47 rfl f_Glacier_29 gl_obj (by rfl) ?_
      refine Go.iload_2 d_Glacier_isTooWeak_50 rfl ?_
      refine Go.iconst (v := 0) d_Glacier_isTooWeak_51 rfl (by decide) ?_
      refine Go.cv2r d_Glacier_isTooWeak_52 rfl l_Glacier_75 k_Table_get_v (gl_tab (k := 4) (by decide)) rfl (cG_get (k := 4) (by decide) (c := 0) rfl (by omega) hW) rfl rfl rfl ?_
      refine Go.imul d_Glacier_isTooWeak_55 rfl ?_
      refine Go.icmp_ge (t := 63) d_Glacier_isTooWeak_56 (by decide) rfl (fun c56_3 => ?_) (fun c56_3 => ?_)
      · refine Go.iconst (v := 0) d_Glacier_isTooWeak_63 rfl (by decide) ?_
        rw [if_pos c10_1, if_pos c32_2, if_pos c56_3]
        exact Go.iret d_Glacier_isTooWeak_64 rfl rfl ⟨rfl, rfl, rfl⟩
      · refine Go.iconst (v := 1) d_Glacier_isTooWeak_59 rfl (by decide) ?_
        refine Go.goto (t := 64) d_Glacier_isTooWeak_60 (by decide) ?_
        rw [if_pos c10_1, if_pos c32_2, if_neg c56_3]
        exact Go.iret d_Glacier_isTooWeak_64 rfl rfl ⟨rfl, rfl, rfl⟩
  · refine Go.iconst (v := 0) d_Glacier_isTooWeak_13 rfl (by decide) ?_
    refine Go.goto (t := 18) d_Glacier_isTooWeak_14 (by decide) ?_
    refine Go.isub d_Glacier_isTooWeak_18 rfl ?_
    refine Go.istore_4 d_Glacier_isTooWeak_19 rfl (by rfl) ?_
    refine Go.aload_0 d_Glacier_isTooWeak_21 rfl ?_
    refine Go.getfield d_Glacier_isTooWeak_22 rfl f_Glacier_23 gl_obj (by rfl) ?_
    refine Go.iload_1 d_Glacier_isTooWeak_25 rfl ?_
    refine Go.iconst (v := 0) d_Glacier_isTooWeak_26 rfl (by decide) ?_
    refine Go.cv2r d_Glacier_isTooWeak_27 rfl l_Glacier_75 k_Table_get_v (gl_tab (k := 2) (by decide)) rfl (cG_get (k := 2) (by decide) (c := 0) rfl (by omega) hW) rfl rfl rfl ?_
    refine Go.iload_4 d_Glacier_isTooWeak_30 rfl ?_
    refine Go.icmp_ne (t := 63) d_Glacier_isTooWeak_32 (by decide) rfl (fun c32_4 => ?_) (fun c32_4 => ?_)
    · refine Go.iconst (v := 0) d_Glacier_isTooWeak_63 rfl (by decide) ?_
      rw [if_neg c10_1, if_neg c32_4]
      exact Go.iret d_Glacier_isTooWeak_64 rfl rfl ⟨rfl, rfl, rfl⟩
    · refine Go.aload_0 d_Glacier_isTooWeak_35 rfl ?_
      refine Go.getfield d_Glacier_isTooWeak_36 rfl f_Glacier_23 gl_obj (by rfl) ?_
      refine Go.iload_1 d_Glacier_isTooWeak_39 rfl ?_
      refine Go.iconst (v := 1) d_Glacier_isTooWeak_40 rfl (by decide) ?_
      refine Go.cv2r d_Glacier_isTooWeak_41 rfl l_Glacier_75 k_Table_get_v (gl_tab (k := 2) (by decide)) rfl (cG_get (k := 2) (by decide) (c := 1) rfl (by omega) hW) rfl rfl rfl ?_
      refine Go.bipush (v := 8) d_Glacier_isTooWeak_44 rfl (by decide) ?_
      refine Go.aload_0 d_Glacier_isTooWeak_46 rfl ?_
      refine Go.getfield d_Glacier_isTooWeak_47 rfl f_Glacier_29 gl_obj (by rfl) ?_
      refine Go.iload_2 d_Glacier_isTooWeak_50 rfl ?_
      refine Go.iconst (v := 0) d_Glacier_isTooWeak_51 rfl (by decide) ?_
      refine Go.cv2r d_Glacier_isTooWeak_52 rfl l_Glacier_75 k_Table_get_v (gl_tab (k := 4) (by decide)) rfl (cG_get (k := 4) (by decide) (c := 0) rfl (by omega) hW) rfl rfl rfl ?_
      refine Go.imul d_Glacier_isTooWeak_55 rfl ?_
      refine Go.icmp_ge (t := 63) d_Glacier_isTooWeak_56 (by decide) rfl (fun c56_5 => ?_) (fun c56_5 => ?_)
      · refine Go.iconst (v := 0) d_Glacier_isTooWeak_63 rfl (by decide) ?_
        rw [if_neg c10_1, if_pos c32_4, if_pos c56_5]
        exact Go.iret d_Glacier_isTooWeak_64 rfl rfl ⟨rfl, rfl, rfl⟩
      · refine Go.iconst (v := 1) d_Glacier_isTooWeak_59 rfl (by decide) ?_
        refine Go.goto (t := 64) d_Glacier_isTooWeak_60 (by decide) ?_
        rw [if_neg c10_1, if_pos c32_4, if_neg c56_5]
        exact Go.iret d_Glacier_isTooWeak_64 rfl rfl ⟨rfl, rfl, rfl⟩
set_option maxRecDepth 100000 in
set_option maxHeartbeats 4000000 in
theorem s_Glacier_isTooWeak_01 (σ : GL) (x1 : Int32) (x2 : Int32) (x3 : Int32) : (s_Glacier_isTooWeak σ x1 x2 x3) = 0 ∨ (s_Glacier_isTooWeak σ x1 x2 x3) = 1 := by
  unfold s_Glacier_isTooWeak
  (repeat' split) <;> first | exact Or.inl rfl | exact Or.inr rfl
theorem d_Glacier_canGo_44 : decode M_Glacier_canGo.2.1 44 = .ok (.iload 4, 2) := by decide +kernel
theorem d_Glacier_canGo_46 : decode M_Glacier_canGo.2.1 46 = .ok (.aload_n 0, 1) := by decide +kernel
theorem d_Glacier_canGo_47 : decode M_Glacier_canGo.2.1 47 = .ok (.getfield 23, 3) := by decide +kernel
theorem d_Glacier_canGo_50 : decode M_Glacier_canGo.2.1 50 = .ok (.invokevirtual 68, 3) := by decide +kernel
theorem d_Glacier_canGo_53 : decode M_Glacier_canGo.2.1 53 = .ok (.if_icmp .ge 35, 3) := by decide +kernel
theorem d_Glacier_canGo_88 : decode M_Glacier_canGo.2.1 88 = .ok (.iconst 1, 1) := by decide +kernel
theorem d_Glacier_canGo_89 : decode M_Glacier_canGo.2.1 89 = .ok (.ireturn, 1) := by decide +kernel
theorem d_Glacier_canGo_56 : decode M_Glacier_canGo.2.1 56 = .ok (.aload_n 0, 1) := by decide +kernel
theorem d_Glacier_canGo_57 : decode M_Glacier_canGo.2.1 57 = .ok (.iload 4, 2) := by decide +kernel
theorem d_Glacier_canGo_59 : decode M_Glacier_canGo.2.1 59 = .ok (.iload_n 1, 1) := by decide +kernel
theorem d_Glacier_canGo_60 : decode M_Glacier_canGo.2.1 60 = .ok (.iload_n 2, 1) := by decide +kernel
theorem d_Glacier_canGo_61 : decode M_Glacier_canGo.2.1 61 = .ok (.invokevirtual 107, 3) := by decide +kernel
theorem d_Glacier_canGo_64 : decode M_Glacier_canGo.2.1 64 = .ok (.ifCond .eq 18, 3) := by decide +kernel
theorem d_Glacier_canGo_67 : decode M_Glacier_canGo.2.1 67 = .ok (.aload_n 0, 1) := by decide +kernel
theorem d_Glacier_canGo_68 : decode M_Glacier_canGo.2.1 68 = .ok (.getfield 23, 3) := by decide +kernel
theorem d_Glacier_canGo_71 : decode M_Glacier_canGo.2.1 71 = .ok (.iload 4, 2) := by decide +kernel
theorem d_Glacier_canGo_73 : decode M_Glacier_canGo.2.1 73 = .ok (.iconst 2, 1) := by decide +kernel
theorem d_Glacier_canGo_74 : decode M_Glacier_canGo.2.1 74 = .ok (.invokevirtual 75, 3) := by decide +kernel
theorem d_Glacier_canGo_77 : decode M_Glacier_canGo.2.1 77 = .ok (.ifCond .le 5, 3) := by decide +kernel
theorem d_Glacier_canGo_80 : decode M_Glacier_canGo.2.1 80 = .ok (.iconst 0, 1) := by decide +kernel
theorem d_Glacier_canGo_81 : decode M_Glacier_canGo.2.1 81 = .ok (.ireturn, 1) := by decide +kernel
theorem d_Glacier_canGo_82 : decode M_Glacier_canGo.2.1 82 = .ok (.iinc 4 1, 3) := by decide +kernel
theorem d_Glacier_canGo_85 : decode M_Glacier_canGo.2.1 85 = .ok (.goto (-41), 3) := by decide +kernel
def l_Glacier_canGo_44 (x1 : Int32) (x2 : Int32) (σ : GL) : Nat → Nat → Int32
  | 0, i => 1
  | k + 1, i => (if (s_Glacier_isTooWeak σ (nI i) x1 x2) = 0 then (l_Glacier_canGo_44 x1 x2 σ k (i + 1)) else (if (gG σ 2 (nI i) 2) ≤ 0 then (l_Glacier_canGo_44 x1 x2 σ k (i + 1)) else 0))
set_option maxRecDepth 100000 in
set_option maxHeartbeats 4000000 in
theorem l_Glacier_canGo_44_go {Γ : G9} {h : AH} {g z n : Nat} {σ : GL} {x1 : Int32} {x2 : Int32} (hn20 : n ≤ 20) (hn : gN σ 2 = n) (hW : WFG σ) : ∀ (k i : Nat), i + k = n → Go Γ M_Glacier_canGo 2 0 0 44 [some (.ref g), some (.int x1), some (.int x2), none, some (.int (nI i))] [] (blk h g 12 (glC Γ g σ)) z (RQ (some (.int (l_Glacier_canGo_44 x1 x2 σ k i))) (blk h g 12 (glC Γ g σ)) z) noX := by
  intro k
  induction k with
  | zero =>
    intro i hi
    unfold l_Glacier_canGo_44
    refine Go.iload_4 d_Glacier_canGo_44 rfl ?_
    refine Go.aload_0 d_Glacier_canGo_46 rfl ?_
    refine Go.getfield d_Glacier_canGo_47 rfl f_Glacier_23 gl_obj (by rfl) ?_
    refine Go.cv0r d_Glacier_canGo_50 rfl l_Glacier_68 k_Table_rows_v (gl_tab (k := 2) (by decide)) rfl (cG_rows (k := 2) (by decide)) rfl rfl rfl ?_
    refine Go.icmp_ge (t := 88) d_Glacier_canGo_53 (by decide) rfl (fun c53_1 => ?_) (fun c53_1 => ?_)
    · refine Go.iconst (v := 1) d_Glacier_canGo_88 rfl (by decide) ?_
      exact Go.iret d_Glacier_canGo_89 rfl rfl ⟨rfl, rfl, rfl⟩
    · exact absurd (nI_le (by omega) (by omega)) c53_1
  | succ k ih =>
    intro i hi
    unfold l_Glacier_canGo_44
    refine Go.iload_4 d_Glacier_canGo_44 rfl ?_
    refine Go.aload_0 d_Glacier_canGo_46 rfl ?_
    refine Go.getfield d_Glacier_canGo_47 rfl f_Glacier_23 gl_obj (by rfl) ?_
    refine Go.cv0r d_Glacier_canGo_50 rfl l_Glacier_68 k_Table_rows_v (gl_tab (k := 2) (by decide)) rfl (cG_rows (k := 2) (by decide)) rfl rfl rfl ?_
    refine Go.icmp_ge (t := 88) d_Glacier_canGo_53 (by decide) rfl (fun c53_1 => ?_) (fun c53_1 => ?_)
    · exact absurd c53_1 (nI_ge (by omega) (by omega))
    · refine Go.aload_0 d_Glacier_canGo_56 rfl ?_
      refine Go.iload_4 d_Glacier_canGo_57 rfl ?_
      refine Go.iload_1 d_Glacier_canGo_59 rfl ?_
      refine Go.iload_2 d_Glacier_canGo_60 rfl ?_
      refine Go.cv3r d_Glacier_canGo_61 rfl l_Glacier_107 k_Glacier_isTooWeak_v gl_obj rfl (c_Glacier_isTooWeak hW) rfl rfl rfl ?_
      refine Go.if_eq (t := 82) d_Glacier_canGo_64 (by decide) rfl (fun c64_2 => ?_) (fun c64_2 => ?_)
      · refine Go.iinc_4 d_Glacier_canGo_82 rfl (by rfl) (nI_inc _) ?_
        refine Go.goto (t := 44) d_Glacier_canGo_85 (by decide) ?_
        rw [if_pos c64_2]
        exact ih (i + 1) (by omega)
      · refine Go.aload_0 d_Glacier_canGo_67 rfl ?_
        refine Go.getfield d_Glacier_canGo_68 rfl f_Glacier_23 gl_obj (by rfl) ?_
        refine Go.iload_4 d_Glacier_canGo_71 rfl ?_
        refine Go.iconst (v := 2) d_Glacier_canGo_73 rfl (by decide) ?_
        refine Go.cv2r d_Glacier_canGo_74 rfl l_Glacier_75 k_Table_get_v (gl_tab (k := 2) (by decide)) rfl (cG_get (k := 2) (by decide) (c := 2) rfl (by omega) hW) rfl rfl rfl ?_
        refine Go.if_le (t := 82) d_Glacier_canGo_77 (by decide) rfl (fun c77_3 => ?_) (fun c77_3 => ?_)
        · refine Go.iinc_4 d_Glacier_canGo_82 rfl (by rfl) (nI_inc _) ?_
          refine Go.goto (t := 44) d_Glacier_canGo_85 (by decide) ?_
          rw [if_neg c64_2, if_pos c77_3]
          exact ih (i + 1) (by omega)
        · refine Go.iconst (v := 0) d_Glacier_canGo_80 rfl (by decide) ?_
          rw [if_neg c64_2, if_neg c77_3]
          exact Go.iret d_Glacier_canGo_81 rfl rfl ⟨rfl, rfl, rfl⟩
theorem d_Glacier_canGo_0 : decode M_Glacier_canGo.2.1 0 = .ok (.aload_n 0, 1) := by decide +kernel
theorem d_Glacier_canGo_1 : decode M_Glacier_canGo.2.1 1 = .ok (.getfield 29, 3) := by decide +kernel
theorem d_Glacier_canGo_4 : decode M_Glacier_canGo.2.1 4 = .ok (.iload_n 1, 1) := by decide +kernel
theorem d_Glacier_canGo_5 : decode M_Glacier_canGo.2.1 5 = .ok (.iconst 2, 1) := by decide +kernel
theorem d_Glacier_canGo_6 : decode M_Glacier_canGo.2.1 6 = .ok (.invokevirtual 75, 3) := by decide +kernel
theorem d_Glacier_canGo_9 : decode M_Glacier_canGo.2.1 9 = .ok (.iload_n 2, 1) := by decide +kernel
theorem d_Glacier_canGo_10 : decode M_Glacier_canGo.2.1 10 = .ok (.ifCond .eq 7, 3) := by decide +kernel
theorem d_Glacier_canGo_13 : decode M_Glacier_canGo.2.1 13 = .ok (.iconst 1, 1) := by decide +kernel
theorem d_Glacier_canGo_14 : decode M_Glacier_canGo.2.1 14 = .ok (.goto 4, 3) := by decide +kernel
theorem d_Glacier_canGo_17 : decode M_Glacier_canGo.2.1 17 = .ok (.iconst (-1), 1) := by decide +kernel
theorem d_Glacier_canGo_18 : decode M_Glacier_canGo.2.1 18 = .ok (.iadd, 1) := by decide +kernel
theorem d_Glacier_canGo_19 : decode M_Glacier_canGo.2.1 19 = .ok (.istore_n 3, 1) := by decide +kernel
theorem d_Glacier_canGo_20 : decode M_Glacier_canGo.2.1 20 = .ok (.aload_n 0, 1) := by decide +kernel
theorem d_Glacier_canGo_21 : decode M_Glacier_canGo.2.1 21 = .ok (.iload_n 1, 1) := by decide +kernel
theorem d_Glacier_canGo_22 : decode M_Glacier_canGo.2.1 22 = .ok (.invokevirtual 100, 3) := by decide +kernel
theorem d_Glacier_canGo_25 : decode M_Glacier_canGo.2.1 25 = .ok (.ifCond .eq 14, 3) := by decide +kernel
theorem d_Glacier_canGo_28 : decode M_Glacier_canGo.2.1 28 = .ok (.aload_n 0, 1) := by decide +kernel
theorem d_Glacier_canGo_29 : decode M_Glacier_canGo.2.1 29 = .ok (.getfield 14, 3) := by decide +kernel
theorem d_Glacier_canGo_32 : decode M_Glacier_canGo.2.1 32 = .ok (.iload_n 3, 1) := by decide +kernel
theorem d_Glacier_canGo_33 : decode M_Glacier_canGo.2.1 33 = .ok (.invokevirtual 104, 3) := by decide +kernel
theorem d_Glacier_canGo_36 : decode M_Glacier_canGo.2.1 36 = .ok (.ifCond .ne 5, 3) := by decide +kernel
theorem d_Glacier_canGo_39 : decode M_Glacier_canGo.2.1 39 = .ok (.iconst 0, 1) := by decide +kernel
theorem d_Glacier_canGo_40 : decode M_Glacier_canGo.2.1 40 = .ok (.ireturn, 1) := by decide +kernel
theorem d_Glacier_canGo_41 : decode M_Glacier_canGo.2.1 41 = .ok (.iconst 0, 1) := by decide +kernel
theorem d_Glacier_canGo_42 : decode M_Glacier_canGo.2.1 42 = .ok (.istore 4, 2) := by decide +kernel
def s_Glacier_canGo (σ : GL) (x1 : Int32) (x2 : Int32) : Int32 := (if x2 = 0 then (if (s_Glacier_canDo σ x1) = 0 then 0 else (if (gH σ 0 ((gG σ 4 x1 2) + (-1))) = 0 then 0 else (l_Glacier_canGo_44 x1 x2  σ (gN σ 2) 0))) else (if (s_Glacier_canDo σ x1) = 0 then 0 else (if (gH σ 0 ((gG σ 4 x1 2) + 1)) = 0 then 0 else (l_Glacier_canGo_44 x1 x2  σ (gN σ 2) 0))))
set_option maxRecDepth 100000 in
set_option maxHeartbeats 4000000 in
theorem c_Glacier_canGo {Γ : G9} {h : AH} {g z : Nat} {σ : GL} {x1 : Int32} {x2 : Int32} (hW : WFG σ) : CallR Γ M_Glacier_canGo 2 [.ref g, .int x1, .int x2] (blk h g 12 (glC Γ g σ)) z (some (.int (s_Glacier_canGo σ x1 x2))) (blk h g 12 (glC Γ g σ)) := by
  refine Call.of_go (L := [some (.ref g), some (.int x1), some (.int x2), none, none]) (by decide +kernel) rfl (by exact Nat.le_of_ble_eq_true rfl) ?_
  unfold s_Glacier_canGo
  refine Go.aload_0 d_Glacier_canGo_0 rfl ?_
  refine Go.getfield d_Glacier_canGo_1 rfl f_Glacier_29 gl_obj (by rfl) ?_
  refine Go.iload_1 d_Glacier_canGo_4 rfl ?_
  refine Go.iconst (v := 2) d_Glacier_canGo_5 rfl (by decide) ?_
  refine Go.cv2r d_Glacier_canGo_6 rfl l_Glacier_75 k_Table_get_v (gl_tab (k := 4) (by decide)) rfl (cG_get (k := 4) (by decide) (c := 2) rfl (by omega) hW) rfl rfl rfl ?_
  refine Go.iload_2 d_Glacier_canGo_9 rfl ?_
  refine Go.if_eq (t := 17) d_Glacier_canGo_10 (by decide) rfl (fun c10_1 => ?_) (fun c10_1 => ?_)
  · refine Go.iconst (v := (-1)) d_Glacier_canGo_17 rfl (by decide) ?_
    refine Go.iadd d_Glacier_canGo_18 rfl ?_
    refine Go.istore_3 d_Glacier_canGo_19 rfl (by rfl) ?_
    refine Go.aload_0 d_Glacier_canGo_20 rfl ?_
    refine Go.iload_1 d_Glacier_canGo_21 rfl ?_
    refine Go.cv1r d_Glacier_canGo_22 rfl l_Glacier_100 k_Glacier_canDo_v gl_obj rfl (c_Glacier_canDo hW) rfl rfl rfl ?_
    refine Go.if_eq (t := 39) d_Glacier_canGo_25 (by decide) rfl (fun c25_2 => ?_) (fun c25_2 => ?_)
    · refine Go.iconst (v := 0) d_Glacier_canGo_39 rfl (by decide) ?_
      rw [if_pos c10_1, if_pos c25_2]
      exact Go.iret d_Glacier_canGo_40 rfl rfl ⟨rfl, rfl, rfl⟩
    · refine Go.aload_0 d_Glacier_canGo_28 rfl ?_
      refine Go.getfield d_Glacier_canGo_29 rfl f_Glacier_14 gl_obj (by rfl) ?_
      refine Go.iload_3 d_Glacier_canGo_32 rfl ?_
      refine Go.cv1r d_Glacier_canGo_33 rfl l_Glacier_104 k_Table_has_v (gl_tab (k := 0) (by decide)) rfl (cG_has (k := 0) (by decide)) rfl rfl rfl ?_
      refine Go.if_ne (t := 41) d_Glacier_canGo_36 (by decide) rfl (fun c36_3 => ?_) (fun c36_3 => ?_)
      · refine Go.iconst (v := 0) d_Glacier_canGo_41 rfl (by decide) ?_
        refine Go.istore_4 d_Glacier_canGo_42 rfl (by rfl) ?_
        rw [if_pos c10_1, if_neg c25_2, if_neg c36_3]
        refine Go.fgt [some (.ref g), some (.int x1), some (.int x2), none, some (.int 0)] (by repeat' (first | exact trivial | refine ⟨rfl, ?_⟩)) ?_
        exact l_Glacier_canGo_44_go (n := (gN σ 2)) (by have := WFG.le (σ := σ) hW (k := 2) (by decide); omega) rfl hW (gN σ 2) 0 (by omega)
      · refine Go.iconst (v := 0) d_Glacier_canGo_39 rfl (by decide) ?_
        rw [if_pos c10_1, if_neg c25_2, if_pos c36_3]
        exact Go.iret d_Glacier_canGo_40 rfl rfl ⟨rfl, rfl, rfl⟩
  · refine Go.iconst (v := 1) d_Glacier_canGo_13 rfl (by decide) ?_
    refine Go.goto (t := 18) d_Glacier_canGo_14 (by decide) ?_
    refine Go.iadd d_Glacier_canGo_18 rfl ?_
    refine Go.istore_3 d_Glacier_canGo_19 rfl (by rfl) ?_
    refine Go.aload_0 d_Glacier_canGo_20 rfl ?_
    refine Go.iload_1 d_Glacier_canGo_21 rfl ?_
    refine Go.cv1r d_Glacier_canGo_22 rfl l_Glacier_100 k_Glacier_canDo_v gl_obj rfl (c_Glacier_canDo hW) rfl rfl rfl ?_
    refine Go.if_eq (t := 39) d_Glacier_canGo_25 (by decide) rfl (fun c25_4 => ?_) (fun c25_4 => ?_)
    · refine Go.iconst (v := 0) d_Glacier_canGo_39 rfl (by decide) ?_
      rw [if_neg c10_1, if_pos c25_4]
      exact Go.iret d_Glacier_canGo_40 rfl rfl ⟨rfl, rfl, rfl⟩
    · refine Go.aload_0 d_Glacier_canGo_28 rfl ?_
      refine Go.getfield d_Glacier_canGo_29 rfl f_Glacier_14 gl_obj (by rfl) ?_
      refine Go.iload_3 d_Glacier_canGo_32 rfl ?_
      refine Go.cv1r d_Glacier_canGo_33 rfl l_Glacier_104 k_Table_has_v (gl_tab (k := 0) (by decide)) rfl (cG_has (k := 0) (by decide)) rfl rfl rfl ?_
      refine Go.if_ne (t := 41) d_Glacier_canGo_36 (by decide) rfl (fun c36_5 => ?_) (fun c36_5 => ?_)
      · refine Go.iconst (v := 0) d_Glacier_canGo_41 rfl (by decide) ?_
        refine Go.istore_4 d_Glacier_canGo_42 rfl (by rfl) ?_
        rw [if_neg c10_1, if_neg c25_4, if_neg c36_5]
        refine Go.fgt [some (.ref g), some (.int x1), some (.int x2), none, some (.int 0)] (by repeat' (first | exact trivial | refine ⟨rfl, ?_⟩)) ?_
        exact l_Glacier_canGo_44_go (n := (gN σ 2)) (by have := WFG.le (σ := σ) hW (k := 2) (by decide); omega) rfl hW (gN σ 2) 0 (by omega)
      · refine Go.iconst (v := 0) d_Glacier_canGo_39 rfl (by decide) ?_
        rw [if_neg c10_1, if_neg c25_4, if_pos c36_5]
        exact Go.iret d_Glacier_canGo_40 rfl rfl ⟨rfl, rfl, rfl⟩
set_option maxRecDepth 100000 in
set_option maxHeartbeats 4000000 in
theorem l_Glacier_canGo_44_01 (σ : GL) (x1 x2 : Int32) : ∀ (k i : Nat), l_Glacier_canGo_44 x1 x2 σ k i = 0 ∨ l_Glacier_canGo_44 x1 x2 σ k i = 1 := by
  intro k
  induction k with
  | zero => intro i; exact Or.inr rfl
  | succ k ih =>
    intro i
    unfold l_Glacier_canGo_44
    (repeat' split) <;> first | exact Or.inl rfl | exact ih _
theorem s_Glacier_canGo_01 (σ : GL) (x1 x2 : Int32) : s_Glacier_canGo σ x1 x2 = 0 ∨ s_Glacier_canGo σ x1 x2 = 1 := by
  unfold s_Glacier_canGo
  (repeat' split) <;> first | exact Or.inl rfl | exact l_Glacier_canGo_44_01 ..
theorem d_Glacier_fallingPlace_13 : decode M_Glacier_fallingPlace.2.1 13 = .ok (.iload 4, 2) := by decide +kernel
theorem d_Glacier_fallingPlace_15 : decode M_Glacier_fallingPlace.2.1 15 = .ok (.iload_n 3, 1) := by decide +kernel
theorem d_Glacier_fallingPlace_16 : decode M_Glacier_fallingPlace.2.1 16 = .ok (.if_icmp .gt 38, 3) := by decide +kernel
theorem d_Glacier_fallingPlace_54 : decode M_Glacier_fallingPlace.2.1 54 = .ok (.iconst (-1), 1) := by decide +kernel
theorem d_Glacier_fallingPlace_55 : decode M_Glacier_fallingPlace.2.1 55 = .ok (.ireturn, 1) := by decide +kernel
theorem d_Glacier_fallingPlace_19 : decode M_Glacier_fallingPlace.2.1 19 = .ok (.iload_n 2, 1) := by decide +kernel
theorem d_Glacier_fallingPlace_20 : decode M_Glacier_fallingPlace.2.1 20 = .ok (.ifCond .eq 8, 3) := by decide +kernel
theorem d_Glacier_fallingPlace_23 : decode M_Glacier_fallingPlace.2.1 23 = .ok (.iload 4, 2) := by decide +kernel
theorem d_Glacier_fallingPlace_25 : decode M_Glacier_fallingPlace.2.1 25 = .ok (.goto 7, 3) := by decide +kernel
theorem d_Glacier_fallingPlace_28 : decode M_Glacier_fallingPlace.2.1 28 = .ok (.iload_n 3, 1) := by decide +kernel
theorem d_Glacier_fallingPlace_29 : decode M_Glacier_fallingPlace.2.1 29 = .ok (.iload 4, 2) := by decide +kernel
theorem d_Glacier_fallingPlace_31 : decode M_Glacier_fallingPlace.2.1 31 = .ok (.isub, 1) := by decide +kernel
theorem d_Glacier_fallingPlace_32 : decode M_Glacier_fallingPlace.2.1 32 = .ok (.istore 5, 2) := by decide +kernel
theorem d_Glacier_fallingPlace_34 : decode M_Glacier_fallingPlace.2.1 34 = .ok (.aload_n 0, 1) := by decide +kernel
theorem d_Glacier_fallingPlace_35 : decode M_Glacier_fallingPlace.2.1 35 = .ok (.iload 5, 2) := by decide +kernel
theorem d_Glacier_fallingPlace_37 : decode M_Glacier_fallingPlace.2.1 37 = .ok (.iload_n 1, 1) := by decide +kernel
theorem d_Glacier_fallingPlace_38 : decode M_Glacier_fallingPlace.2.1 38 = .ok (.iload_n 2, 1) := by decide +kernel
theorem d_Glacier_fallingPlace_39 : decode M_Glacier_fallingPlace.2.1 39 = .ok (.invokevirtual 107, 3) := by decide +kernel
theorem d_Glacier_fallingPlace_42 : decode M_Glacier_fallingPlace.2.1 42 = .ok (.ifCond .eq 6, 3) := by decide +kernel
theorem d_Glacier_fallingPlace_45 : decode M_Glacier_fallingPlace.2.1 45 = .ok (.iload 5, 2) := by decide +kernel
theorem d_Glacier_fallingPlace_47 : decode M_Glacier_fallingPlace.2.1 47 = .ok (.ireturn, 1) := by decide +kernel
theorem d_Glacier_fallingPlace_48 : decode M_Glacier_fallingPlace.2.1 48 = .ok (.iinc 4 1, 3) := by decide +kernel
theorem d_Glacier_fallingPlace_51 : decode M_Glacier_fallingPlace.2.1 51 = .ok (.goto (-38), 3) := by decide +kernel
def l_Glacier_fallingPlace_13 (x1 : Int32) (x2 : Int32) (σ : GL) : Nat → Nat → Int32
  | 0, i => (-1)
  | k + 1, i => (if x2 = 0 then (if (s_Glacier_isTooWeak σ ((nI (gN σ 2) - 1) - (nI i)) x1 x2) = 0 then (l_Glacier_fallingPlace_13 x1 x2 σ k (i + 1)) else ((nI (gN σ 2) - 1) - (nI i))) else (if (s_Glacier_isTooWeak σ (nI i) x1 x2) = 0 then (l_Glacier_fallingPlace_13 x1 x2 σ k (i + 1)) else (nI i)))
set_option maxRecDepth 100000 in
set_option maxHeartbeats 4000000 in
theorem l_Glacier_fallingPlace_13_go {Γ : G9} {h : AH} {g z n : Nat} {σ : GL} {x1 : Int32} {x2 : Int32} (hn20 : n ≤ 20) (hn : gN σ 2 = n) (hW : WFG σ) : ∀ (k i : Nat), i + k = n → Go Γ M_Glacier_fallingPlace 2 0 0 13 [some (.ref g), some (.int x1), some (.int x2), some (.int (nI (gN σ 2) - 1)), some (.int (nI i)), none] [] (blk h g 12 (glC Γ g σ)) z (RQ (some (.int (l_Glacier_fallingPlace_13 x1 x2 σ k i))) (blk h g 12 (glC Γ g σ)) z) noX := by
  intro k
  induction k with
  | zero =>
    intro i hi
    unfold l_Glacier_fallingPlace_13
    refine Go.iload_4 d_Glacier_fallingPlace_13 rfl ?_
    refine Go.iload_3 d_Glacier_fallingPlace_15 rfl ?_
    refine Go.icmp_gt (t := 54) d_Glacier_fallingPlace_16 (by decide) rfl (fun c16_1 => ?_) (fun c16_1 => ?_)
    · refine Go.iconst (v := (-1)) d_Glacier_fallingPlace_54 rfl (by decide) ?_
      exact Go.iret d_Glacier_fallingPlace_55 rfl rfl ⟨rfl, rfl, rfl⟩
    · exact absurd (by have e0 := fp_out hn20; rw [← hn] at e0 hi; rw [show i = gN σ 2 from hi]; exact e0) c16_1
  | succ k ih =>
    intro i hi
    unfold l_Glacier_fallingPlace_13
    refine Go.iload_4 d_Glacier_fallingPlace_13 rfl ?_
    refine Go.iload_3 d_Glacier_fallingPlace_15 rfl ?_
    refine Go.icmp_gt (t := 54) d_Glacier_fallingPlace_16 (by decide) rfl (fun c16_1 => ?_) (fun c16_1 => ?_)
    · exact absurd c16_1 (by rw [hn]; exact fp_in hn20 (by omega))
    · refine Go.iload_2 d_Glacier_fallingPlace_19 rfl ?_
      refine Go.if_eq (t := 28) d_Glacier_fallingPlace_20 (by decide) rfl (fun c20_2 => ?_) (fun c20_2 => ?_)
      · refine Go.iload_3 d_Glacier_fallingPlace_28 rfl ?_
        refine Go.iload_4 d_Glacier_fallingPlace_29 rfl ?_
        refine Go.isub d_Glacier_fallingPlace_31 rfl ?_
        refine Go.istore_5 d_Glacier_fallingPlace_32 rfl (by rfl) ?_
        refine Go.aload_0 d_Glacier_fallingPlace_34 rfl ?_
        refine Go.iload_5 d_Glacier_fallingPlace_35 rfl ?_
        refine Go.iload_1 d_Glacier_fallingPlace_37 rfl ?_
        refine Go.iload_2 d_Glacier_fallingPlace_38 rfl ?_
        refine Go.cv3r d_Glacier_fallingPlace_39 rfl l_Glacier_107 k_Glacier_isTooWeak_v gl_obj rfl (c_Glacier_isTooWeak hW) rfl rfl rfl ?_
        refine Go.if_eq (t := 48) d_Glacier_fallingPlace_42 (by decide) rfl (fun c42_3 => ?_) (fun c42_3 => ?_)
        · refine Go.iinc_4 d_Glacier_fallingPlace_48 rfl (by rfl) (nI_inc _) ?_
          refine Go.goto (t := 13) d_Glacier_fallingPlace_51 (by decide) ?_
          rw [if_pos c20_2, if_pos c42_3]
          refine Go.fgt [some (.ref g), some (.int x1), some (.int x2), some (.int (nI (gN σ 2) - 1)), some (.int (nI (i + 1))), none] (by repeat' (first | exact trivial | refine ⟨rfl, ?_⟩)) ?_
          exact ih (i + 1) (by omega)
        · refine Go.iload_5 d_Glacier_fallingPlace_45 rfl ?_
          rw [if_pos c20_2, if_neg c42_3]
          exact Go.iret d_Glacier_fallingPlace_47 rfl rfl ⟨rfl, rfl, rfl⟩
      · refine Go.iload_4 d_Glacier_fallingPlace_23 rfl ?_
        refine Go.goto (t := 32) d_Glacier_fallingPlace_25 (by decide) ?_
        refine Go.istore_5 d_Glacier_fallingPlace_32 rfl (by rfl) ?_
        refine Go.aload_0 d_Glacier_fallingPlace_34 rfl ?_
        refine Go.iload_5 d_Glacier_fallingPlace_35 rfl ?_
        refine Go.iload_1 d_Glacier_fallingPlace_37 rfl ?_
        refine Go.iload_2 d_Glacier_fallingPlace_38 rfl ?_
        refine Go.cv3r d_Glacier_fallingPlace_39 rfl l_Glacier_107 k_Glacier_isTooWeak_v gl_obj rfl (c_Glacier_isTooWeak hW) rfl rfl rfl ?_
        refine Go.if_eq (t := 48) d_Glacier_fallingPlace_42 (by decide) rfl (fun c42_4 => ?_) (fun c42_4 => ?_)
        · refine Go.iinc_4 d_Glacier_fallingPlace_48 rfl (by rfl) (nI_inc _) ?_
          refine Go.goto (t := 13) d_Glacier_fallingPlace_51 (by decide) ?_
          rw [if_neg c20_2, if_pos c42_4]
          refine Go.fgt [some (.ref g), some (.int x1), some (.int x2), some (.int (nI (gN σ 2) - 1)), some (.int (nI (i + 1))), none] (by repeat' (first | exact trivial | refine ⟨rfl, ?_⟩)) ?_
          exact ih (i + 1) (by omega)
        · refine Go.iload_5 d_Glacier_fallingPlace_45 rfl ?_
          rw [if_neg c20_2, if_neg c42_4]
          exact Go.iret d_Glacier_fallingPlace_47 rfl rfl ⟨rfl, rfl, rfl⟩
theorem d_Glacier_fallingPlace_0 : decode M_Glacier_fallingPlace.2.1 0 = .ok (.aload_n 0, 1) := by decide +kernel
theorem d_Glacier_fallingPlace_1 : decode M_Glacier_fallingPlace.2.1 1 = .ok (.getfield 23, 3) := by decide +kernel
theorem d_Glacier_fallingPlace_4 : decode M_Glacier_fallingPlace.2.1 4 = .ok (.invokevirtual 68, 3) := by decide +kernel
theorem d_Glacier_fallingPlace_7 : decode M_Glacier_fallingPlace.2.1 7 = .ok (.iconst 1, 1) := by decide +kernel
theorem d_Glacier_fallingPlace_8 : decode M_Glacier_fallingPlace.2.1 8 = .ok (.isub, 1) := by decide +kernel
theorem d_Glacier_fallingPlace_9 : decode M_Glacier_fallingPlace.2.1 9 = .ok (.istore_n 3, 1) := by decide +kernel
theorem d_Glacier_fallingPlace_10 : decode M_Glacier_fallingPlace.2.1 10 = .ok (.iconst 0, 1) := by decide +kernel
theorem d_Glacier_fallingPlace_11 : decode M_Glacier_fallingPlace.2.1 11 = .ok (.istore 4, 2) := by decide +kernel
def s_Glacier_fallingPlace (σ : GL) (x1 : Int32) (x2 : Int32) : Int32 := (l_Glacier_fallingPlace_13 x1 x2  σ (gN σ 2) 0)
set_option maxRecDepth 100000 in
set_option maxHeartbeats 4000000 in
theorem c_Glacier_fallingPlace {Γ : G9} {h : AH} {g z : Nat} {σ : GL} {x1 : Int32} {x2 : Int32} (hW : WFG σ) : CallR Γ M_Glacier_fallingPlace 2 [.ref g, .int x1, .int x2] (blk h g 12 (glC Γ g σ)) z (some (.int (s_Glacier_fallingPlace σ x1 x2))) (blk h g 12 (glC Γ g σ)) := by
  refine Call.of_go (L := [some (.ref g), some (.int x1), some (.int x2), none, none, none]) (by decide +kernel) rfl (by exact Nat.le_of_ble_eq_true rfl) ?_
  unfold s_Glacier_fallingPlace
  refine Go.aload_0 d_Glacier_fallingPlace_0 rfl ?_
  refine Go.getfield d_Glacier_fallingPlace_1 rfl f_Glacier_23 gl_obj (by rfl) ?_
  refine Go.cv0r d_Glacier_fallingPlace_4 rfl l_Glacier_68 k_Table_rows_v (gl_tab (k := 2) (by decide)) rfl (cG_rows (k := 2) (by decide)) rfl rfl rfl ?_
  refine Go.iconst (v := 1) d_Glacier_fallingPlace_7 rfl (by decide) ?_
  refine Go.isub d_Glacier_fallingPlace_8 rfl ?_
  refine Go.istore_3 d_Glacier_fallingPlace_9 rfl (by rfl) ?_
  refine Go.iconst (v := 0) d_Glacier_fallingPlace_10 rfl (by decide) ?_
  refine Go.istore_4 d_Glacier_fallingPlace_11 rfl (by rfl) ?_
  exact l_Glacier_fallingPlace_13_go (n := (gN σ 2)) (by have := WFG.le (σ := σ) hW (k := 2) (by decide); omega) rfl hW (gN σ 2) 0 (by omega)
theorem d_Glacier_letFall_0 : decode M_Glacier_letFall.2.1 0 = .ok (.aload_n 0, 1) := by decide +kernel
theorem d_Glacier_letFall_1 : decode M_Glacier_letFall.2.1 1 = .ok (.getfield 23, 3) := by decide +kernel
theorem d_Glacier_letFall_4 : decode M_Glacier_letFall.2.1 4 = .ok (.iload_n 2, 1) := by decide +kernel
theorem d_Glacier_letFall_5 : decode M_Glacier_letFall.2.1 5 = .ok (.iconst 1, 1) := by decide +kernel
theorem d_Glacier_letFall_6 : decode M_Glacier_letFall.2.1 6 = .ok (.iconst 0, 1) := by decide +kernel
theorem d_Glacier_letFall_7 : decode M_Glacier_letFall.2.1 7 = .ok (.invokevirtual 57, 3) := by decide +kernel
theorem d_Glacier_letFall_10 : decode M_Glacier_letFall.2.1 10 = .ok (.aload_n 0, 1) := by decide +kernel
theorem d_Glacier_letFall_11 : decode M_Glacier_letFall.2.1 11 = .ok (.getfield 23, 3) := by decide +kernel
theorem d_Glacier_letFall_14 : decode M_Glacier_letFall.2.1 14 = .ok (.iload_n 2, 1) := by decide +kernel
theorem d_Glacier_letFall_15 : decode M_Glacier_letFall.2.1 15 = .ok (.iconst 5, 1) := by decide +kernel
theorem d_Glacier_letFall_16 : decode M_Glacier_letFall.2.1 16 = .ok (.iconst 1, 1) := by decide +kernel
theorem d_Glacier_letFall_17 : decode M_Glacier_letFall.2.1 17 = .ok (.invokevirtual 127, 3) := by decide +kernel
theorem d_Glacier_letFall_20 : decode M_Glacier_letFall.2.1 20 = .ok (.aload_n 0, 1) := by decide +kernel
theorem d_Glacier_letFall_21 : decode M_Glacier_letFall.2.1 21 = .ok (.getfield 29, 3) := by decide +kernel
theorem d_Glacier_letFall_24 : decode M_Glacier_letFall.2.1 24 = .ok (.iload_n 1, 1) := by decide +kernel
theorem d_Glacier_letFall_25 : decode M_Glacier_letFall.2.1 25 = .ok (.iconst 1, 1) := by decide +kernel
theorem d_Glacier_letFall_26 : decode M_Glacier_letFall.2.1 26 = .ok (.aload_n 0, 1) := by decide +kernel
theorem d_Glacier_letFall_27 : decode M_Glacier_letFall.2.1 27 = .ok (.getfield 29, 3) := by decide +kernel
theorem d_Glacier_letFall_30 : decode M_Glacier_letFall.2.1 30 = .ok (.iload_n 1, 1) := by decide +kernel
theorem d_Glacier_letFall_31 : decode M_Glacier_letFall.2.1 31 = .ok (.iconst 1, 1) := by decide +kernel
theorem d_Glacier_letFall_32 : decode M_Glacier_letFall.2.1 32 = .ok (.invokevirtual 75, 3) := by decide +kernel
theorem d_Glacier_letFall_35 : decode M_Glacier_letFall.2.1 35 = .ok (.iconst 2, 1) := by decide +kernel
theorem d_Glacier_letFall_36 : decode M_Glacier_letFall.2.1 36 = .ok (.idiv, 1) := by decide +kernel
theorem d_Glacier_letFall_37 : decode M_Glacier_letFall.2.1 37 = .ok (.invokevirtual 57, 3) := by decide +kernel
theorem d_Glacier_letFall_40 : decode M_Glacier_letFall.2.1 40 = .ok (.aload_n 0, 1) := by decide +kernel
theorem d_Glacier_letFall_41 : decode M_Glacier_letFall.2.1 41 = .ok (.getfield 29, 3) := by decide +kernel
theorem d_Glacier_letFall_44 : decode M_Glacier_letFall.2.1 44 = .ok (.iload_n 1, 1) := by decide +kernel
theorem d_Glacier_letFall_45 : decode M_Glacier_letFall.2.1 45 = .ok (.bipush 6, 2) := by decide +kernel
theorem d_Glacier_letFall_47 : decode M_Glacier_letFall.2.1 47 = .ok (.iconst 1, 1) := by decide +kernel
theorem d_Glacier_letFall_48 : decode M_Glacier_letFall.2.1 48 = .ok (.invokevirtual 127, 3) := by decide +kernel
theorem d_Glacier_letFall_51 : decode M_Glacier_letFall.2.1 51 = .ok (.return_, 1) := by decide +kernel
def s_Glacier_letFall (σ : GL) (x1 : Int32) (x2 : Int32) : GL := (gA (gS (gA (gS σ 2 x2 1 0) 2 x2 5 1) 4 x1 1 ((gG (gA (gS σ 2 x2 1 0) 2 x2 5 1) 4 x1 1) / 2)) 4 x1 6 1)
set_option maxRecDepth 100000 in
set_option maxHeartbeats 4000000 in
theorem c_Glacier_letFall {Γ : G9} {h : AH} {g z : Nat} {σ : GL} {x1 : Int32} {x2 : Int32} (hW : WFG σ) : CallR Γ M_Glacier_letFall 1 [.ref g, .int x1, .int x2] (blk h g 12 (glC Γ g σ)) z none (blk h g 12 (glC Γ g (s_Glacier_letFall σ x1 x2))) := by
  refine Call.of_go (L := [some (.ref g), some (.int x1), some (.int x2)]) (by decide +kernel) rfl (by exact Nat.le_of_ble_eq_true rfl) ?_
  unfold s_Glacier_letFall
  refine Go.aload_0 d_Glacier_letFall_0 rfl ?_
  refine Go.getfield d_Glacier_letFall_1 rfl f_Glacier_23 gl_obj (by rfl) ?_
  refine Go.iload_2 d_Glacier_letFall_4 rfl ?_
  refine Go.iconst (v := 1) d_Glacier_letFall_5 rfl (by decide) ?_
  refine Go.iconst (v := 0) d_Glacier_letFall_6 rfl (by decide) ?_
  refine Go.cv3v d_Glacier_letFall_7 rfl l_Glacier_57 k_Table_set_v (gl_tab (k := 2) (by decide)) rfl (cG_set (k := 2) (by decide) (c := 1) rfl (by omega) hW) rfl rfl rfl ?_
  refine Go.aload_0 d_Glacier_letFall_10 rfl ?_
  refine Go.getfield d_Glacier_letFall_11 rfl f_Glacier_23 gl_obj (by rfl) ?_
  refine Go.iload_2 d_Glacier_letFall_14 rfl ?_
  refine Go.iconst (v := 5) d_Glacier_letFall_15 rfl (by decide) ?_
  refine Go.iconst (v := 1) d_Glacier_letFall_16 rfl (by decide) ?_
  refine Go.cv3v d_Glacier_letFall_17 rfl l_Glacier_127 k_Table_add_v (gl_tab (k := 2) (by decide)) rfl (cG_add (k := 2) (by decide) (c := 5) rfl (by omega) (hW.of fun j => by simp only [gN_gS, gN_gA, gN_gSW, gN_gSD, gN_gSC, gN_Glacier_changeWarmth])) rfl rfl rfl ?_
  refine Go.aload_0 d_Glacier_letFall_20 rfl ?_
  refine Go.getfield d_Glacier_letFall_21 rfl f_Glacier_29 gl_obj (by rfl) ?_
  refine Go.iload_1 d_Glacier_letFall_24 rfl ?_
  refine Go.iconst (v := 1) d_Glacier_letFall_25 rfl (by decide) ?_
  refine Go.aload_0 d_Glacier_letFall_26 rfl ?_
  refine Go.getfield d_Glacier_letFall_27 rfl f_Glacier_29 gl_obj (by rfl) ?_
  refine Go.iload_1 d_Glacier_letFall_30 rfl ?_
  refine Go.iconst (v := 1) d_Glacier_letFall_31 rfl (by decide) ?_
  refine Go.cv2r d_Glacier_letFall_32 rfl l_Glacier_75 k_Table_get_v (gl_tab (k := 4) (by decide)) rfl (cG_get (k := 4) (by decide) (c := 1) rfl (by omega) (hW.of fun j => by simp only [gN_gS, gN_gA, gN_gSW, gN_gSD, gN_gSC, gN_Glacier_changeWarmth])) rfl rfl rfl ?_
  refine Go.iconst (v := 2) d_Glacier_letFall_35 rfl (by decide) ?_
  refine Go.idiv d_Glacier_letFall_36 rfl (by decide) ?_
  refine Go.cv3v d_Glacier_letFall_37 rfl l_Glacier_57 k_Table_set_v (gl_tab (k := 4) (by decide)) rfl (cG_set (k := 4) (by decide) (c := 1) rfl (by omega) (hW.of fun j => by simp only [gN_gS, gN_gA, gN_gSW, gN_gSD, gN_gSC, gN_Glacier_changeWarmth])) rfl rfl rfl ?_
  refine Go.aload_0 d_Glacier_letFall_40 rfl ?_
  refine Go.getfield d_Glacier_letFall_41 rfl f_Glacier_29 gl_obj (by rfl) ?_
  refine Go.iload_1 d_Glacier_letFall_44 rfl ?_
  refine Go.bipush (v := 6) d_Glacier_letFall_45 rfl (by decide) ?_
  refine Go.iconst (v := 1) d_Glacier_letFall_47 rfl (by decide) ?_
  refine Go.cv3v d_Glacier_letFall_48 rfl l_Glacier_127 k_Table_add_v (gl_tab (k := 4) (by decide)) rfl (cG_add (k := 4) (by decide) (c := 6) rfl (by omega) (hW.of fun j => by simp only [gN_gS, gN_gA, gN_gSW, gN_gSD, gN_gSC, gN_Glacier_changeWarmth])) rfl rfl rfl ?_
  exact Go.vret d_Glacier_letFall_51 rfl ⟨rfl, rfl, rfl⟩
set_option maxRecDepth 100000 in
set_option maxHeartbeats 4000000 in
theorem gN_Glacier_letFall {σ : GL} {x1 : Int32} {x2 : Int32} (j : Nat) : gN (s_Glacier_letFall σ x1 x2) j = gN σ j := by
  unfold s_Glacier_letFall
  (repeat' split) <;> simp only [gN_gS, gN_gA, gN_gSW, gN_gSD, gN_gSC, gN_Glacier_changeWarmth]
theorem d_Glacier_letCross_23 : decode M_Glacier_letCross.2.1 23 = .ok (.iload 4, 2) := by decide +kernel
theorem d_Glacier_letCross_25 : decode M_Glacier_letCross.2.1 25 = .ok (.aload_n 0, 1) := by decide +kernel
theorem d_Glacier_letCross_26 : decode M_Glacier_letCross.2.1 26 = .ok (.getfield 23, 3) := by decide +kernel
theorem d_Glacier_letCross_29 : decode M_Glacier_letCross.2.1 29 = .ok (.invokevirtual 68, 3) := by decide +kernel
theorem d_Glacier_letCross_32 : decode M_Glacier_letCross.2.1 32 = .ok (.if_icmp .ge 34, 3) := by decide +kernel
theorem d_Glacier_letCross_35 : decode M_Glacier_letCross.2.1 35 = .ok (.aload_n 0, 1) := by decide +kernel
theorem d_Glacier_letCross_36 : decode M_Glacier_letCross.2.1 36 = .ok (.getfield 23, 3) := by decide +kernel
theorem d_Glacier_letCross_39 : decode M_Glacier_letCross.2.1 39 = .ok (.iload 4, 2) := by decide +kernel
theorem d_Glacier_letCross_41 : decode M_Glacier_letCross.2.1 41 = .ok (.iconst 0, 1) := by decide +kernel
theorem d_Glacier_letCross_42 : decode M_Glacier_letCross.2.1 42 = .ok (.invokevirtual 75, 3) := by decide +kernel
theorem d_Glacier_letCross_45 : decode M_Glacier_letCross.2.1 45 = .ok (.iload_n 3, 1) := by decide +kernel
theorem d_Glacier_letCross_46 : decode M_Glacier_letCross.2.1 46 = .ok (.if_icmp .ne 14, 3) := by decide +kernel
theorem d_Glacier_letCross_49 : decode M_Glacier_letCross.2.1 49 = .ok (.aload_n 0, 1) := by decide +kernel
theorem d_Glacier_letCross_50 : decode M_Glacier_letCross.2.1 50 = .ok (.getfield 23, 3) := by decide +kernel
theorem d_Glacier_letCross_53 : decode M_Glacier_letCross.2.1 53 = .ok (.iload 4, 2) := by decide +kernel
theorem d_Glacier_letCross_55 : decode M_Glacier_letCross.2.1 55 = .ok (.iconst 4, 1) := by decide +kernel
theorem d_Glacier_letCross_56 : decode M_Glacier_letCross.2.1 56 = .ok (.iconst 1, 1) := by decide +kernel
theorem d_Glacier_letCross_57 : decode M_Glacier_letCross.2.1 57 = .ok (.invokevirtual 127, 3) := by decide +kernel
theorem d_Glacier_letCross_60 : decode M_Glacier_letCross.2.1 60 = .ok (.iinc 4 1, 3) := by decide +kernel
theorem d_Glacier_letCross_63 : decode M_Glacier_letCross.2.1 63 = .ok (.goto (-40), 3) := by decide +kernel
def l_Glacier_letCross_23 (x1 : Int32) (x2 : Int32) (lo : Int32) : Nat → Nat → GL → GL
  | 0, _, σ => σ
  | k + 1, i, σ => (if (gG σ 2 (nI i) 0) = lo then (l_Glacier_letCross_23 x1 x2 lo k (i + 1) (gA σ 2 (nI i) 4 1)) else (l_Glacier_letCross_23 x1 x2 lo k (i + 1) σ))
set_option maxRecDepth 100000 in
set_option maxHeartbeats 4000000 in
theorem l_Glacier_letCross_23_go {Γ : G9} {h : AH} {g z n : Nat} {Q : QT} {X : XT} {x1 : Int32} {x2 : Int32} {lo : Int32} (hn20 : n ≤ 20) : ∀ (k i : Nat) (σ : GL), i + k = n → gN σ 2 = n → WFG σ → Go Γ M_Glacier_letCross 1 0 0 66 [some (.ref g), some (.int x1), some (.int x2), some (.int lo), some (.int (nI (i + k)))] [] (blk h g 12 (glC Γ g (l_Glacier_letCross_23 x1 x2 lo k i σ))) z Q X → Go Γ M_Glacier_letCross 1 0 0 23 [some (.ref g), some (.int x1), some (.int x2), some (.int lo), some (.int (nI i))] [] (blk h g 12 (glC Γ g σ)) z Q X := by
  intro k
  induction k with
  | zero =>
    intro i σ hi hn hW hk
    refine Go.iload_4 d_Glacier_letCross_23 rfl ?_
    refine Go.aload_0 d_Glacier_letCross_25 rfl ?_
    refine Go.getfield d_Glacier_letCross_26 rfl f_Glacier_23 gl_obj (by rfl) ?_
    refine Go.cv0r d_Glacier_letCross_29 rfl l_Glacier_68 k_Table_rows_v (gl_tab (k := 2) (by decide)) rfl (cG_rows (k := 2) (by decide)) rfl rfl rfl ?_
    refine Go.icmp_ge (t := 66) d_Glacier_letCross_32 (by decide) rfl (fun c32_1 => ?_) (fun c32_1 => ?_)
    · exact hk
    · exact absurd (nI_le (by omega) (by omega)) c32_1
  | succ k ih =>
    intro i σ hi hn hW hk
    unfold l_Glacier_letCross_23 at hk
    rw [show i + (k + 1) = i + 1 + k by omega] at hk
    refine Go.iload_4 d_Glacier_letCross_23 rfl ?_
    refine Go.aload_0 d_Glacier_letCross_25 rfl ?_
    refine Go.getfield d_Glacier_letCross_26 rfl f_Glacier_23 gl_obj (by rfl) ?_
    refine Go.cv0r d_Glacier_letCross_29 rfl l_Glacier_68 k_Table_rows_v (gl_tab (k := 2) (by decide)) rfl (cG_rows (k := 2) (by decide)) rfl rfl rfl ?_
    refine Go.icmp_ge (t := 66) d_Glacier_letCross_32 (by decide) rfl (fun c32_1 => ?_) (fun c32_1 => ?_)
    · exact absurd c32_1 (nI_ge (by omega) (by omega))
    · refine Go.aload_0 d_Glacier_letCross_35 rfl ?_
      refine Go.getfield d_Glacier_letCross_36 rfl f_Glacier_23 gl_obj (by rfl) ?_
      refine Go.iload_4 d_Glacier_letCross_39 rfl ?_
      refine Go.iconst (v := 0) d_Glacier_letCross_41 rfl (by decide) ?_
      refine Go.cv2r d_Glacier_letCross_42 rfl l_Glacier_75 k_Table_get_v (gl_tab (k := 2) (by decide)) rfl (cG_get (k := 2) (by decide) (c := 0) rfl (by omega) hW) rfl rfl rfl ?_
      refine Go.iload_3 d_Glacier_letCross_45 rfl ?_
      refine Go.icmp_ne (t := 60) d_Glacier_letCross_46 (by decide) rfl (fun c46_2 => ?_) (fun c46_2 => ?_)
      · refine Go.iinc_4 d_Glacier_letCross_60 rfl (by rfl) (nI_inc _) ?_
        refine Go.goto (t := 23) d_Glacier_letCross_63 (by decide) ?_
        rw [if_neg c46_2] at hk
        exact ih (i + 1) _ (by omega) (by first | exact hn | (simp only [gN_gS, gN_gA, gN_gSW, gN_gSD, gN_gSC, gN_Glacier_changeWarmth, gN_Glacier_letFall]; exact hn)) hW hk
      · refine Go.aload_0 d_Glacier_letCross_49 rfl ?_
        refine Go.getfield d_Glacier_letCross_50 rfl f_Glacier_23 gl_obj (by rfl) ?_
        refine Go.iload_4 d_Glacier_letCross_53 rfl ?_
        refine Go.iconst (v := 4) d_Glacier_letCross_55 rfl (by decide) ?_
        refine Go.iconst (v := 1) d_Glacier_letCross_56 rfl (by decide) ?_
        refine Go.cv3v d_Glacier_letCross_57 rfl l_Glacier_127 k_Table_add_v (gl_tab (k := 2) (by decide)) rfl (cG_add (k := 2) (by decide) (c := 4) rfl (by omega) hW) rfl rfl rfl ?_
        refine Go.iinc_4 d_Glacier_letCross_60 rfl (by rfl) (nI_inc _) ?_
        refine Go.goto (t := 23) d_Glacier_letCross_63 (by decide) ?_
        rw [if_pos c46_2] at hk
        exact ih (i + 1) _ (by omega) (by first | exact hn | (simp only [gN_gS, gN_gA, gN_gSW, gN_gSD, gN_gSC, gN_Glacier_changeWarmth, gN_Glacier_letFall]; exact hn)) (hW.of fun j => by simp only [gN_gS, gN_gA, gN_gSW, gN_gSD, gN_gSC, gN_Glacier_changeWarmth, gN_Glacier_letFall]) hk
set_option maxRecDepth 100000 in
set_option maxHeartbeats 4000000 in
theorem gN_l_Glacier_letCross_23 {x1 : Int32} {x2 : Int32} {lo : Int32} (j : Nat) : ∀ (k i : Nat) (σ : GL), gN (l_Glacier_letCross_23 x1 x2 lo k i σ) j = gN σ j := by
  intro k
  induction k with
  | zero => intros; rfl
  | succ k ih =>
    intros
    unfold l_Glacier_letCross_23
    (repeat' split) <;> simp only [gN_gS, gN_gA, gN_gSW, gN_gSD, gN_gSC, gN_Glacier_changeWarmth, gN_Glacier_letFall, ih]
theorem d_Glacier_letCross_0 : decode M_Glacier_letCross.2.1 0 = .ok (.aload_n 0, 1) := by decide +kernel
theorem d_Glacier_letCross_1 : decode M_Glacier_letCross.2.1 1 = .ok (.getfield 29, 3) := by decide +kernel
theorem d_Glacier_letCross_4 : decode M_Glacier_letCross.2.1 4 = .ok (.iload_n 1, 1) := by decide +kernel
theorem d_Glacier_letCross_5 : decode M_Glacier_letCross.2.1 5 = .ok (.iconst 2, 1) := by decide +kernel
theorem d_Glacier_letCross_6 : decode M_Glacier_letCross.2.1 6 = .ok (.invokevirtual 75, 3) := by decide +kernel
theorem d_Glacier_letCross_9 : decode M_Glacier_letCross.2.1 9 = .ok (.iload_n 2, 1) := by decide +kernel
theorem d_Glacier_letCross_10 : decode M_Glacier_letCross.2.1 10 = .ok (.ifCond .eq 7, 3) := by decide +kernel
theorem d_Glacier_letCross_13 : decode M_Glacier_letCross.2.1 13 = .ok (.iconst 0, 1) := by decide +kernel
theorem d_Glacier_letCross_14 : decode M_Glacier_letCross.2.1 14 = .ok (.goto 4, 3) := by decide +kernel
theorem d_Glacier_letCross_17 : decode M_Glacier_letCross.2.1 17 = .ok (.iconst 1, 1) := by decide +kernel
theorem d_Glacier_letCross_18 : decode M_Glacier_letCross.2.1 18 = .ok (.isub, 1) := by decide +kernel
theorem d_Glacier_letCross_19 : decode M_Glacier_letCross.2.1 19 = .ok (.istore_n 3, 1) := by decide +kernel
theorem d_Glacier_letCross_20 : decode M_Glacier_letCross.2.1 20 = .ok (.iconst 0, 1) := by decide +kernel
theorem d_Glacier_letCross_21 : decode M_Glacier_letCross.2.1 21 = .ok (.istore 4, 2) := by decide +kernel
theorem d_Glacier_letCross_66 : decode M_Glacier_letCross.2.1 66 = .ok (.aload_n 0, 1) := by decide +kernel
theorem d_Glacier_letCross_67 : decode M_Glacier_letCross.2.1 67 = .ok (.getfield 29, 3) := by decide +kernel
theorem d_Glacier_letCross_70 : decode M_Glacier_letCross.2.1 70 = .ok (.iload_n 1, 1) := by decide +kernel
theorem d_Glacier_letCross_71 : decode M_Glacier_letCross.2.1 71 = .ok (.iconst 2, 1) := by decide +kernel
theorem d_Glacier_letCross_72 : decode M_Glacier_letCross.2.1 72 = .ok (.iload_n 2, 1) := by decide +kernel
theorem d_Glacier_letCross_73 : decode M_Glacier_letCross.2.1 73 = .ok (.ifCond .eq 7, 3) := by decide +kernel
theorem d_Glacier_letCross_76 : decode M_Glacier_letCross.2.1 76 = .ok (.iconst 1, 1) := by decide +kernel
theorem d_Glacier_letCross_77 : decode M_Glacier_letCross.2.1 77 = .ok (.goto 4, 3) := by decide +kernel
theorem d_Glacier_letCross_80 : decode M_Glacier_letCross.2.1 80 = .ok (.iconst (-1), 1) := by decide +kernel
theorem d_Glacier_letCross_81 : decode M_Glacier_letCross.2.1 81 = .ok (.invokevirtual 127, 3) := by decide +kernel
theorem d_Glacier_letCross_84 : decode M_Glacier_letCross.2.1 84 = .ok (.return_, 1) := by decide +kernel
def s_Glacier_letCross (σ : GL) (x1 : Int32) (x2 : Int32) : GL := (if x2 = 0 then (if x2 = 0 then (gA (l_Glacier_letCross_23 x1 x2 ((gG σ 4 x1 2) - 1) (gN σ 2) 0 σ) 4 x1 2 (-1)) else (gA (l_Glacier_letCross_23 x1 x2 ((gG σ 4 x1 2) - 1) (gN σ 2) 0 σ) 4 x1 2 1)) else (if x2 = 0 then (gA (l_Glacier_letCross_23 x1 x2 ((gG σ 4 x1 2) - 0) (gN σ 2) 0 σ) 4 x1 2 (-1)) else (gA (l_Glacier_letCross_23 x1 x2 ((gG σ 4 x1 2) - 0) (gN σ 2) 0 σ) 4 x1 2 1)))
set_option maxRecDepth 100000 in
set_option maxHeartbeats 4000000 in
theorem c_Glacier_letCross {Γ : G9} {h : AH} {g z : Nat} {σ : GL} {x1 : Int32} {x2 : Int32} (hW : WFG σ) : CallR Γ M_Glacier_letCross 1 [.ref g, .int x1, .int x2] (blk h g 12 (glC Γ g σ)) z none (blk h g 12 (glC Γ g (s_Glacier_letCross σ x1 x2))) := by
  refine Call.of_go (L := [some (.ref g), some (.int x1), some (.int x2), none, none]) (by decide +kernel) rfl (by exact Nat.le_of_ble_eq_true rfl) ?_
  unfold s_Glacier_letCross
  refine Go.aload_0 d_Glacier_letCross_0 rfl ?_
  refine Go.getfield d_Glacier_letCross_1 rfl f_Glacier_29 gl_obj (by rfl) ?_
  refine Go.iload_1 d_Glacier_letCross_4 rfl ?_
  refine Go.iconst (v := 2) d_Glacier_letCross_5 rfl (by decide) ?_
  refine Go.cv2r d_Glacier_letCross_6 rfl l_Glacier_75 k_Table_get_v (gl_tab (k := 4) (by decide)) rfl (cG_get (k := 4) (by decide) (c := 2) rfl (by omega) hW) rfl rfl rfl ?_
  refine Go.iload_2 d_Glacier_letCross_9 rfl ?_
  refine Go.if_eq (t := 17) d_Glacier_letCross_10 (by decide) rfl (fun c10_1 => ?_) (fun c10_1 => ?_)
  · refine Go.iconst (v := 1) d_Glacier_letCross_17 rfl (by decide) ?_
    refine Go.isub d_Glacier_letCross_18 rfl ?_
    refine Go.istore_3 d_Glacier_letCross_19 rfl (by rfl) ?_
    refine Go.iconst (v := 0) d_Glacier_letCross_20 rfl (by decide) ?_
    refine Go.istore_4 d_Glacier_letCross_21 rfl (by rfl) ?_
    refine l_Glacier_letCross_23_go (n := (gN σ 2)) (by have := WFG.le (σ := σ) hW (k := 2) (by decide); omega) (gN σ 2) 0 σ (by omega) rfl hW ?_
    refine Go.aload_0 d_Glacier_letCross_66 rfl ?_
    refine Go.getfield d_Glacier_letCross_67 rfl f_Glacier_29 gl_obj (by rfl) ?_
    refine Go.iload_1 d_Glacier_letCross_70 rfl ?_
    refine Go.iconst (v := 2) d_Glacier_letCross_71 rfl (by decide) ?_
    refine Go.iload_2 d_Glacier_letCross_72 rfl ?_
    refine Go.if_eq (t := 80) d_Glacier_letCross_73 (by decide) rfl (fun c73_2 => ?_) (fun c73_2 => ?_)
    · refine Go.iconst (v := (-1)) d_Glacier_letCross_80 rfl (by decide) ?_
      refine Go.cv3v d_Glacier_letCross_81 rfl l_Glacier_127 k_Table_add_v (gl_tab (k := 4) (by decide)) rfl (cG_add (k := 4) (by decide) (c := 2) rfl (by omega) (hW.of fun j => by simp only [gN_gS, gN_gA, gN_gSW, gN_gSD, gN_gSC, gN_Glacier_changeWarmth, gN_Glacier_letFall, gN_l_Glacier_letCross_23])) rfl rfl rfl ?_
      rw [if_pos c10_1, if_pos c73_2]
      exact Go.vret d_Glacier_letCross_84 rfl ⟨rfl, rfl, rfl⟩
    · refine Go.iconst (v := 1) d_Glacier_letCross_76 rfl (by decide) ?_
      refine Go.goto (t := 81) d_Glacier_letCross_77 (by decide) ?_
      refine Go.cv3v d_Glacier_letCross_81 rfl l_Glacier_127 k_Table_add_v (gl_tab (k := 4) (by decide)) rfl (cG_add (k := 4) (by decide) (c := 2) rfl (by omega) (hW.of fun j => by simp only [gN_gS, gN_gA, gN_gSW, gN_gSD, gN_gSC, gN_Glacier_changeWarmth, gN_Glacier_letFall, gN_l_Glacier_letCross_23])) rfl rfl rfl ?_
      rw [if_pos c10_1, if_neg c73_2]
      exact Go.vret d_Glacier_letCross_84 rfl ⟨rfl, rfl, rfl⟩
  · refine Go.iconst (v := 0) d_Glacier_letCross_13 rfl (by decide) ?_
    refine Go.goto (t := 18) d_Glacier_letCross_14 (by decide) ?_
    refine Go.isub d_Glacier_letCross_18 rfl ?_
    refine Go.istore_3 d_Glacier_letCross_19 rfl (by rfl) ?_
    refine Go.iconst (v := 0) d_Glacier_letCross_20 rfl (by decide) ?_
    refine Go.istore_4 d_Glacier_letCross_21 rfl (by rfl) ?_
    refine l_Glacier_letCross_23_go (n := (gN σ 2)) (by have := WFG.le (σ := σ) hW (k := 2) (by decide); omega) (gN σ 2) 0 σ (by omega) rfl hW ?_
    refine Go.aload_0 d_Glacier_letCross_66 rfl ?_
    refine Go.getfield d_Glacier_letCross_67 rfl f_Glacier_29 gl_obj (by rfl) ?_
    refine Go.iload_1 d_Glacier_letCross_70 rfl ?_
    refine Go.iconst (v := 2) d_Glacier_letCross_71 rfl (by decide) ?_
    refine Go.iload_2 d_Glacier_letCross_72 rfl ?_
    refine Go.if_eq (t := 80) d_Glacier_letCross_73 (by decide) rfl (fun c73_3 => ?_) (fun c73_3 => ?_)
    · refine Go.iconst (v := (-1)) d_Glacier_letCross_80 rfl (by decide) ?_
      refine Go.cv3v d_Glacier_letCross_81 rfl l_Glacier_127 k_Table_add_v (gl_tab (k := 4) (by decide)) rfl (cG_add (k := 4) (by decide) (c := 2) rfl (by omega) (hW.of fun j => by simp only [gN_gS, gN_gA, gN_gSW, gN_gSD, gN_gSC, gN_Glacier_changeWarmth, gN_Glacier_letFall, gN_l_Glacier_letCross_23])) rfl rfl rfl ?_
      rw [if_neg c10_1, if_pos c73_3]
      exact Go.vret d_Glacier_letCross_84 rfl ⟨rfl, rfl, rfl⟩
    · refine Go.iconst (v := 1) d_Glacier_letCross_76 rfl (by decide) ?_
      refine Go.goto (t := 81) d_Glacier_letCross_77 (by decide) ?_
      refine Go.cv3v d_Glacier_letCross_81 rfl l_Glacier_127 k_Table_add_v (gl_tab (k := 4) (by decide)) rfl (cG_add (k := 4) (by decide) (c := 2) rfl (by omega) (hW.of fun j => by simp only [gN_gS, gN_gA, gN_gSW, gN_gSD, gN_gSC, gN_Glacier_changeWarmth, gN_Glacier_letFall, gN_l_Glacier_letCross_23])) rfl rfl rfl ?_
      rw [if_neg c10_1, if_neg c73_3]
      exact Go.vret d_Glacier_letCross_84 rfl ⟨rfl, rfl, rfl⟩
set_option maxRecDepth 100000 in
set_option maxHeartbeats 4000000 in
theorem gN_Glacier_letCross {σ : GL} {x1 : Int32} {x2 : Int32} (j : Nat) : gN (s_Glacier_letCross σ x1 x2) j = gN σ j := by
  unfold s_Glacier_letCross
  (repeat' split) <;> simp only [gN_gS, gN_gA, gN_gSW, gN_gSD, gN_gSC, gN_Glacier_changeWarmth, gN_Glacier_letFall, gN_l_Glacier_letCross_23]
theorem d_Glacier_tryGo_0 : decode M_Glacier_tryGo.2.1 0 = .ok (.aload_n 0, 1) := by decide +kernel
theorem d_Glacier_tryGo_1 : decode M_Glacier_tryGo.2.1 1 = .ok (.iload_n 1, 1) := by decide +kernel
theorem d_Glacier_tryGo_2 : decode M_Glacier_tryGo.2.1 2 = .ok (.iload_n 2, 1) := by decide +kernel
theorem d_Glacier_tryGo_3 : decode M_Glacier_tryGo.2.1 3 = .ok (.invokevirtual 111, 3) := by decide +kernel
theorem d_Glacier_tryGo_6 : decode M_Glacier_tryGo.2.1 6 = .ok (.ifCond .ne 5, 3) := by decide +kernel
theorem d_Glacier_tryGo_9 : decode M_Glacier_tryGo.2.1 9 = .ok (.iconst 0, 1) := by decide +kernel
theorem d_Glacier_tryGo_10 : decode M_Glacier_tryGo.2.1 10 = .ok (.ireturn, 1) := by decide +kernel
theorem d_Glacier_tryGo_11 : decode M_Glacier_tryGo.2.1 11 = .ok (.aload_n 0, 1) := by decide +kernel
theorem d_Glacier_tryGo_12 : decode M_Glacier_tryGo.2.1 12 = .ok (.iload_n 1, 1) := by decide +kernel
theorem d_Glacier_tryGo_13 : decode M_Glacier_tryGo.2.1 13 = .ok (.iload_n 2, 1) := by decide +kernel
theorem d_Glacier_tryGo_14 : decode M_Glacier_tryGo.2.1 14 = .ok (.invokevirtual 115, 3) := by decide +kernel
theorem d_Glacier_tryGo_17 : decode M_Glacier_tryGo.2.1 17 = .ok (.istore_n 3, 1) := by decide +kernel
theorem d_Glacier_tryGo_18 : decode M_Glacier_tryGo.2.1 18 = .ok (.iload_n 3, 1) := by decide +kernel
theorem d_Glacier_tryGo_19 : decode M_Glacier_tryGo.2.1 19 = .ok (.ifCond .lt 12, 3) := by decide +kernel
theorem d_Glacier_tryGo_22 : decode M_Glacier_tryGo.2.1 22 = .ok (.aload_n 0, 1) := by decide +kernel
theorem d_Glacier_tryGo_23 : decode M_Glacier_tryGo.2.1 23 = .ok (.iload_n 1, 1) := by decide +kernel
theorem d_Glacier_tryGo_24 : decode M_Glacier_tryGo.2.1 24 = .ok (.iload_n 3, 1) := by decide +kernel
theorem d_Glacier_tryGo_25 : decode M_Glacier_tryGo.2.1 25 = .ok (.invokevirtual 119, 3) := by decide +kernel
theorem d_Glacier_tryGo_28 : decode M_Glacier_tryGo.2.1 28 = .ok (.goto 9, 3) := by decide +kernel
theorem d_Glacier_tryGo_31 : decode M_Glacier_tryGo.2.1 31 = .ok (.aload_n 0, 1) := by decide +kernel
theorem d_Glacier_tryGo_32 : decode M_Glacier_tryGo.2.1 32 = .ok (.iload_n 1, 1) := by decide +kernel
theorem d_Glacier_tryGo_33 : decode M_Glacier_tryGo.2.1 33 = .ok (.iload_n 2, 1) := by decide +kernel
theorem d_Glacier_tryGo_34 : decode M_Glacier_tryGo.2.1 34 = .ok (.invokevirtual 123, 3) := by decide +kernel
theorem d_Glacier_tryGo_37 : decode M_Glacier_tryGo.2.1 37 = .ok (.aload_n 0, 1) := by decide +kernel
theorem d_Glacier_tryGo_38 : decode M_Glacier_tryGo.2.1 38 = .ok (.getfield 29, 3) := by decide +kernel
theorem d_Glacier_tryGo_41 : decode M_Glacier_tryGo.2.1 41 = .ok (.iload_n 1, 1) := by decide +kernel
theorem d_Glacier_tryGo_42 : decode M_Glacier_tryGo.2.1 42 = .ok (.bipush 7, 2) := by decide +kernel
theorem d_Glacier_tryGo_44 : decode M_Glacier_tryGo.2.1 44 = .ok (.iconst 1, 1) := by decide +kernel
theorem d_Glacier_tryGo_45 : decode M_Glacier_tryGo.2.1 45 = .ok (.invokevirtual 57, 3) := by decide +kernel
theorem d_Glacier_tryGo_48 : decode M_Glacier_tryGo.2.1 48 = .ok (.iconst 1, 1) := by decide +kernel
theorem d_Glacier_tryGo_49 : decode M_Glacier_tryGo.2.1 49 = .ok (.ireturn, 1) := by decide +kernel
def s_Glacier_tryGo (σ : GL) (x1 : Int32) (x2 : Int32) : Int32 × GL := (if (s_Glacier_canGo σ x1 x2) = 0 then (0, σ) else (if (s_Glacier_fallingPlace σ x1 x2) < 0 then (1, (gS (s_Glacier_letCross σ x1 x2) 4 x1 7 1)) else (1, (gS (s_Glacier_letFall σ x1 (s_Glacier_fallingPlace σ x1 x2)) 4 x1 7 1))))
set_option maxRecDepth 100000 in
set_option maxHeartbeats 4000000 in
theorem c_Glacier_tryGo {Γ : G9} {h : AH} {g z : Nat} {σ : GL} {x1 : Int32} {x2 : Int32} (hW : WFG σ) : CallR Γ M_Glacier_tryGo 3 [.ref g, .int x1, .int x2] (blk h g 12 (glC Γ g σ)) z (some (.int (s_Glacier_tryGo σ x1 x2).1)) (blk h g 12 (glC Γ g (s_Glacier_tryGo σ x1 x2).2)) := by
  refine Call.of_go (L := [some (.ref g), some (.int x1), some (.int x2), none]) (by decide +kernel) rfl (by exact Nat.le_of_ble_eq_true rfl) ?_
  unfold s_Glacier_tryGo
  refine Go.aload_0 d_Glacier_tryGo_0 rfl ?_
  refine Go.iload_1 d_Glacier_tryGo_1 rfl ?_
  refine Go.iload_2 d_Glacier_tryGo_2 rfl ?_
  refine Go.cv2r d_Glacier_tryGo_3 rfl l_Glacier_111 k_Glacier_canGo_v gl_obj rfl (c_Glacier_canGo hW) rfl rfl rfl ?_
  refine Go.if_ne (t := 11) d_Glacier_tryGo_6 (by decide) rfl (fun c6_1 => ?_) (fun c6_1 => ?_)
  · refine Go.aload_0 d_Glacier_tryGo_11 rfl ?_
    refine Go.iload_1 d_Glacier_tryGo_12 rfl ?_
    refine Go.iload_2 d_Glacier_tryGo_13 rfl ?_
    refine Go.cv2r d_Glacier_tryGo_14 rfl l_Glacier_115 k_Glacier_fallingPlace_v gl_obj rfl (c_Glacier_fallingPlace hW) rfl rfl rfl ?_
    refine Go.istore_3 d_Glacier_tryGo_17 rfl (by rfl) ?_
    refine Go.iload_3 d_Glacier_tryGo_18 rfl ?_
    refine Go.if_lt (t := 31) d_Glacier_tryGo_19 (by decide) rfl (fun c19_2 => ?_) (fun c19_2 => ?_)
    · refine Go.aload_0 d_Glacier_tryGo_31 rfl ?_
      refine Go.iload_1 d_Glacier_tryGo_32 rfl ?_
      refine Go.iload_2 d_Glacier_tryGo_33 rfl ?_
      refine Go.cv2v d_Glacier_tryGo_34 rfl l_Glacier_123 k_Glacier_letCross_v gl_obj rfl (c_Glacier_letCross hW) rfl rfl rfl ?_
      refine Go.aload_0 d_Glacier_tryGo_37 rfl ?_
      refine Go.getfield d_Glacier_tryGo_38 rfl f_Glacier_29 gl_obj (by rfl) ?_
      refine Go.iload_1 d_Glacier_tryGo_41 rfl ?_
      refine Go.bipush (v := 7) d_Glacier_tryGo_42 rfl (by decide) ?_
      refine Go.iconst (v := 1) d_Glacier_tryGo_44 rfl (by decide) ?_
      refine Go.cv3v d_Glacier_tryGo_45 rfl l_Glacier_57 k_Table_set_v (gl_tab (k := 4) (by decide)) rfl (cG_set (k := 4) (by decide) (c := 7) rfl (by omega) (hW.of fun j => by simp only [gN_gS, gN_gA, gN_gSW, gN_gSD, gN_gSC, gN_Glacier_changeWarmth, gN_Glacier_letFall, gN_l_Glacier_letCross_23, gN_Glacier_letCross])) rfl rfl rfl ?_
      refine Go.iconst (v := 1) d_Glacier_tryGo_48 rfl (by decide) ?_
      rw [if_neg c6_1, if_pos c19_2]
      exact Go.iret d_Glacier_tryGo_49 rfl rfl ⟨rfl, rfl, rfl⟩
    · refine Go.aload_0 d_Glacier_tryGo_22 rfl ?_
      refine Go.iload_1 d_Glacier_tryGo_23 rfl ?_
      refine Go.iload_3 d_Glacier_tryGo_24 rfl ?_
      refine Go.cv2v d_Glacier_tryGo_25 rfl l_Glacier_119 k_Glacier_letFall_v gl_obj rfl (c_Glacier_letFall hW) rfl rfl rfl ?_
      refine Go.goto (t := 37) d_Glacier_tryGo_28 (by decide) ?_
      refine Go.aload_0 d_Glacier_tryGo_37 rfl ?_
      refine Go.getfield d_Glacier_tryGo_38 rfl f_Glacier_29 gl_obj (by rfl) ?_
      refine Go.iload_1 d_Glacier_tryGo_41 rfl ?_
      refine Go.bipush (v := 7) d_Glacier_tryGo_42 rfl (by decide) ?_
      refine Go.iconst (v := 1) d_Glacier_tryGo_44 rfl (by decide) ?_
      refine Go.cv3v d_Glacier_tryGo_45 rfl l_Glacier_57 k_Table_set_v (gl_tab (k := 4) (by decide)) rfl (cG_set (k := 4) (by decide) (c := 7) rfl (by omega) (hW.of fun j => by simp only [gN_gS, gN_gA, gN_gSW, gN_gSD, gN_gSC, gN_Glacier_changeWarmth, gN_Glacier_letFall, gN_l_Glacier_letCross_23, gN_Glacier_letCross])) rfl rfl rfl ?_
      refine Go.iconst (v := 1) d_Glacier_tryGo_48 rfl (by decide) ?_
      rw [if_neg c6_1, if_neg c19_2]
      exact Go.iret d_Glacier_tryGo_49 rfl rfl ⟨rfl, rfl, rfl⟩
  · refine Go.iconst (v := 0) d_Glacier_tryGo_9 rfl (by decide) ?_
    rw [if_pos c6_1]
    exact Go.iret d_Glacier_tryGo_10 rfl rfl ⟨rfl, rfl, rfl⟩
set_option maxRecDepth 100000 in
set_option maxHeartbeats 4000000 in
theorem gN_Glacier_tryGo {σ : GL} {x1 : Int32} {x2 : Int32} (j : Nat) : gN (s_Glacier_tryGo σ x1 x2).2 j = gN σ j := by
  unfold s_Glacier_tryGo
  (repeat' split) <;> simp only [gN_gS, gN_gA, gN_gSW, gN_gSD, gN_gSC, gN_Glacier_changeWarmth, gN_Glacier_letFall, gN_l_Glacier_letCross_23, gN_Glacier_letCross]
set_option maxRecDepth 100000 in
set_option maxHeartbeats 4000000 in
theorem s_Glacier_tryGo_01 (σ : GL) (x1 : Int32) (x2 : Int32) : (s_Glacier_tryGo σ x1 x2).1 = 0 ∨ (s_Glacier_tryGo σ x1 x2).1 = 1 := by
  unfold s_Glacier_tryGo
  (repeat' split) <;> first | exact Or.inl rfl | exact Or.inr rfl
theorem d_Glacier_tryProbe_0 : decode M_Glacier_tryProbe.2.1 0 = .ok (.aload_n 0, 1) := by decide +kernel
theorem d_Glacier_tryProbe_1 : decode M_Glacier_tryProbe.2.1 1 = .ok (.getfield 29, 3) := by decide +kernel
theorem d_Glacier_tryProbe_4 : decode M_Glacier_tryProbe.2.1 4 = .ok (.iload_n 1, 1) := by decide +kernel
theorem d_Glacier_tryProbe_5 : decode M_Glacier_tryProbe.2.1 5 = .ok (.iconst 2, 1) := by decide +kernel
theorem d_Glacier_tryProbe_6 : decode M_Glacier_tryProbe.2.1 6 = .ok (.invokevirtual 75, 3) := by decide +kernel
theorem d_Glacier_tryProbe_9 : decode M_Glacier_tryProbe.2.1 9 = .ok (.aload_n 0, 1) := by decide +kernel
theorem d_Glacier_tryProbe_10 : decode M_Glacier_tryProbe.2.1 10 = .ok (.getfield 23, 3) := by decide +kernel
theorem d_Glacier_tryProbe_13 : decode M_Glacier_tryProbe.2.1 13 = .ok (.iload_n 2, 1) := by decide +kernel
theorem d_Glacier_tryProbe_14 : decode M_Glacier_tryProbe.2.1 14 = .ok (.iconst 0, 1) := by decide +kernel
theorem d_Glacier_tryProbe_15 : decode M_Glacier_tryProbe.2.1 15 = .ok (.invokevirtual 75, 3) := by decide +kernel
theorem d_Glacier_tryProbe_18 : decode M_Glacier_tryProbe.2.1 18 = .ok (.isub, 1) := by decide +kernel
theorem d_Glacier_tryProbe_19 : decode M_Glacier_tryProbe.2.1 19 = .ok (.istore_n 3, 1) := by decide +kernel
theorem d_Glacier_tryProbe_20 : decode M_Glacier_tryProbe.2.1 20 = .ok (.aload_n 0, 1) := by decide +kernel
theorem d_Glacier_tryProbe_21 : decode M_Glacier_tryProbe.2.1 21 = .ok (.iload_n 1, 1) := by decide +kernel
theorem d_Glacier_tryProbe_22 : decode M_Glacier_tryProbe.2.1 22 = .ok (.invokevirtual 100, 3) := by decide +kernel
theorem d_Glacier_tryProbe_25 : decode M_Glacier_tryProbe.2.1 25 = .ok (.ifCond .eq 23, 3) := by decide +kernel
theorem d_Glacier_tryProbe_28 : decode M_Glacier_tryProbe.2.1 28 = .ok (.aload_n 0, 1) := by decide +kernel
theorem d_Glacier_tryProbe_29 : decode M_Glacier_tryProbe.2.1 29 = .ok (.getfield 23, 3) := by decide +kernel
theorem d_Glacier_tryProbe_32 : decode M_Glacier_tryProbe.2.1 32 = .ok (.iload_n 2, 1) := by decide +kernel
theorem d_Glacier_tryProbe_33 : decode M_Glacier_tryProbe.2.1 33 = .ok (.invokevirtual 104, 3) := by decide +kernel
theorem d_Glacier_tryProbe_36 : decode M_Glacier_tryProbe.2.1 36 = .ok (.ifCond .eq 12, 3) := by decide +kernel
theorem d_Glacier_tryProbe_39 : decode M_Glacier_tryProbe.2.1 39 = .ok (.iload_n 3, 1) := by decide +kernel
theorem d_Glacier_tryProbe_40 : decode M_Glacier_tryProbe.2.1 40 = .ok (.ifCond .lt 8, 3) := by decide +kernel
theorem d_Glacier_tryProbe_43 : decode M_Glacier_tryProbe.2.1 43 = .ok (.iload_n 3, 1) := by decide +kernel
theorem d_Glacier_tryProbe_44 : decode M_Glacier_tryProbe.2.1 44 = .ok (.iconst 1, 1) := by decide +kernel
theorem d_Glacier_tryProbe_45 : decode M_Glacier_tryProbe.2.1 45 = .ok (.if_icmp .le 5, 3) := by decide +kernel
theorem d_Glacier_tryProbe_48 : decode M_Glacier_tryProbe.2.1 48 = .ok (.iconst 0, 1) := by decide +kernel
theorem d_Glacier_tryProbe_49 : decode M_Glacier_tryProbe.2.1 49 = .ok (.ireturn, 1) := by decide +kernel
theorem d_Glacier_tryProbe_50 : decode M_Glacier_tryProbe.2.1 50 = .ok (.aload_n 0, 1) := by decide +kernel
theorem d_Glacier_tryProbe_51 : decode M_Glacier_tryProbe.2.1 51 = .ok (.getfield 23, 3) := by decide +kernel
theorem d_Glacier_tryProbe_54 : decode M_Glacier_tryProbe.2.1 54 = .ok (.iload_n 2, 1) := by decide +kernel
theorem d_Glacier_tryProbe_55 : decode M_Glacier_tryProbe.2.1 55 = .ok (.iconst 2, 1) := by decide +kernel
theorem d_Glacier_tryProbe_56 : decode M_Glacier_tryProbe.2.1 56 = .ok (.iconst 3, 1) := by decide +kernel
theorem d_Glacier_tryProbe_57 : decode M_Glacier_tryProbe.2.1 57 = .ok (.invokevirtual 57, 3) := by decide +kernel
theorem d_Glacier_tryProbe_60 : decode M_Glacier_tryProbe.2.1 60 = .ok (.aload_n 0, 1) := by decide +kernel
theorem d_Glacier_tryProbe_61 : decode M_Glacier_tryProbe.2.1 61 = .ok (.getfield 23, 3) := by decide +kernel
theorem d_Glacier_tryProbe_64 : decode M_Glacier_tryProbe.2.1 64 = .ok (.iload_n 2, 1) := by decide +kernel
theorem d_Glacier_tryProbe_65 : decode M_Glacier_tryProbe.2.1 65 = .ok (.iconst 3, 1) := by decide +kernel
theorem d_Glacier_tryProbe_66 : decode M_Glacier_tryProbe.2.1 66 = .ok (.aload_n 0, 1) := by decide +kernel
theorem d_Glacier_tryProbe_67 : decode M_Glacier_tryProbe.2.1 67 = .ok (.getfield 23, 3) := by decide +kernel
theorem d_Glacier_tryProbe_70 : decode M_Glacier_tryProbe.2.1 70 = .ok (.iload_n 2, 1) := by decide +kernel
theorem d_Glacier_tryProbe_71 : decode M_Glacier_tryProbe.2.1 71 = .ok (.iconst 1, 1) := by decide +kernel
theorem d_Glacier_tryProbe_72 : decode M_Glacier_tryProbe.2.1 72 = .ok (.invokevirtual 75, 3) := by decide +kernel
theorem d_Glacier_tryProbe_75 : decode M_Glacier_tryProbe.2.1 75 = .ok (.invokevirtual 57, 3) := by decide +kernel
theorem d_Glacier_tryProbe_78 : decode M_Glacier_tryProbe.2.1 78 = .ok (.aload_n 0, 1) := by decide +kernel
theorem d_Glacier_tryProbe_79 : decode M_Glacier_tryProbe.2.1 79 = .ok (.getfield 29, 3) := by decide +kernel
theorem d_Glacier_tryProbe_82 : decode M_Glacier_tryProbe.2.1 82 = .ok (.iload_n 1, 1) := by decide +kernel
theorem d_Glacier_tryProbe_83 : decode M_Glacier_tryProbe.2.1 83 = .ok (.bipush 7, 2) := by decide +kernel
theorem d_Glacier_tryProbe_85 : decode M_Glacier_tryProbe.2.1 85 = .ok (.iconst 1, 1) := by decide +kernel
theorem d_Glacier_tryProbe_86 : decode M_Glacier_tryProbe.2.1 86 = .ok (.invokevirtual 57, 3) := by decide +kernel
theorem d_Glacier_tryProbe_89 : decode M_Glacier_tryProbe.2.1 89 = .ok (.iconst 1, 1) := by decide +kernel
theorem d_Glacier_tryProbe_90 : decode M_Glacier_tryProbe.2.1 90 = .ok (.ireturn, 1) := by decide +kernel
def s_Glacier_tryProbe (σ : GL) (x1 : Int32) (x2 : Int32) : Int32 × GL := (if (s_Glacier_canDo σ x1) = 0 then (0, σ) else (if (gH σ 2 x2) = 0 then (0, σ) else (if ((gG σ 4 x1 2) - (gG σ 2 x2 0)) < 0 then (0, σ) else (if ((gG σ 4 x1 2) - (gG σ 2 x2 0)) ≤ 1 then (1, (gS (gS (gS σ 2 x2 2 3) 2 x2 3 (gG (gS σ 2 x2 2 3) 2 x2 1)) 4 x1 7 1)) else (0, σ)))))
set_option maxRecDepth 100000 in
set_option maxHeartbeats 4000000 in
theorem c_Glacier_tryProbe {Γ : G9} {h : AH} {g z : Nat} {σ : GL} {x1 : Int32} {x2 : Int32} (hW : WFG σ) : CallR Γ M_Glacier_tryProbe 2 [.ref g, .int x1, .int x2] (blk h g 12 (glC Γ g σ)) z (some (.int (s_Glacier_tryProbe σ x1 x2).1)) (blk h g 12 (glC Γ g (s_Glacier_tryProbe σ x1 x2).2)) := by
  refine Call.of_go (L := [some (.ref g), some (.int x1), some (.int x2), none]) (by decide +kernel) rfl (by exact Nat.le_of_ble_eq_true rfl) ?_
  unfold s_Glacier_tryProbe
  refine Go.aload_0 d_Glacier_tryProbe_0 rfl ?_
  refine Go.getfield d_Glacier_tryProbe_1 rfl f_Glacier_29 gl_obj (by rfl) ?_
  refine Go.iload_1 d_Glacier_tryProbe_4 rfl ?_
  refine Go.iconst (v := 2) d_Glacier_tryProbe_5 rfl (by decide) ?_
  refine Go.cv2r d_Glacier_tryProbe_6 rfl l_Glacier_75 k_Table_get_v (gl_tab (k := 4) (by decide)) rfl (cG_get (k := 4) (by decide) (c := 2) rfl (by omega) hW) rfl rfl rfl ?_
  refine Go.aload_0 d_Glacier_tryProbe_9 rfl ?_
  refine Go.getfield d_Glacier_tryProbe_10 rfl f_Glacier_23 gl_obj (by rfl) ?_
  refine Go.iload_2 d_Glacier_tryProbe_13 rfl ?_
  refine Go.iconst (v := 0) d_Glacier_tryProbe_14 rfl (by decide) ?_
  refine Go.cv2r d_Glacier_tryProbe_15 rfl l_Glacier_75 k_Table_get_v (gl_tab (k := 2) (by decide)) rfl (cG_get (k := 2) (by decide) (c := 0) rfl (by omega) hW) rfl rfl rfl ?_
  refine Go.isub d_Glacier_tryProbe_18 rfl ?_
  refine Go.istore_3 d_Glacier_tryProbe_19 rfl (by rfl) ?_
  refine Go.aload_0 d_Glacier_tryProbe_20 rfl ?_
  refine Go.iload_1 d_Glacier_tryProbe_21 rfl ?_
  refine Go.cv1r d_Glacier_tryProbe_22 rfl l_Glacier_100 k_Glacier_canDo_v gl_obj rfl (c_Glacier_canDo hW) rfl rfl rfl ?_
  refine Go.if_eq (t := 48) d_Glacier_tryProbe_25 (by decide) rfl (fun c25_1 => ?_) (fun c25_1 => ?_)
  · refine Go.iconst (v := 0) d_Glacier_tryProbe_48 rfl (by decide) ?_
    rw [if_pos c25_1]
    exact Go.iret d_Glacier_tryProbe_49 rfl rfl ⟨rfl, rfl, rfl⟩
  · refine Go.aload_0 d_Glacier_tryProbe_28 rfl ?_
    refine Go.getfield d_Glacier_tryProbe_29 rfl f_Glacier_23 gl_obj (by rfl) ?_
    refine Go.iload_2 d_Glacier_tryProbe_32 rfl ?_
    refine Go.cv1r d_Glacier_tryProbe_33 rfl l_Glacier_104 k_Table_has_v (gl_tab (k := 2) (by decide)) rfl (cG_has (k := 2) (by decide)) rfl rfl rfl ?_
    refine Go.if_eq (t := 48) d_Glacier_tryProbe_36 (by decide) rfl (fun c36_2 => ?_) (fun c36_2 => ?_)
    · refine Go.iconst (v := 0) d_Glacier_tryProbe_48 rfl (by decide) ?_
      rw [if_neg c25_1, if_pos c36_2]
      exact Go.iret d_Glacier_tryProbe_49 rfl rfl ⟨rfl, rfl, rfl⟩
    · refine Go.iload_3 d_Glacier_tryProbe_39 rfl ?_
      refine Go.if_lt (t := 48) d_Glacier_tryProbe_40 (by decide) rfl (fun c40_3 => ?_) (fun c40_3 => ?_)
      · refine Go.iconst (v := 0) d_Glacier_tryProbe_48 rfl (by decide) ?_
        rw [if_neg c25_1, if_neg c36_2, if_pos c40_3]
        exact Go.iret d_Glacier_tryProbe_49 rfl rfl ⟨rfl, rfl, rfl⟩
      · refine Go.iload_3 d_Glacier_tryProbe_43 rfl ?_
        refine Go.iconst (v := 1) d_Glacier_tryProbe_44 rfl (by decide) ?_
        refine Go.icmp_le (t := 50) d_Glacier_tryProbe_45 (by decide) rfl (fun c45_4 => ?_) (fun c45_4 => ?_)
        · refine Go.aload_0 d_Glacier_tryProbe_50 rfl ?_
          refine Go.getfield d_Glacier_tryProbe_51 rfl f_Glacier_23 gl_obj (by rfl) ?_
          refine Go.iload_2 d_Glacier_tryProbe_54 rfl ?_
          refine Go.iconst (v := 2) d_Glacier_tryProbe_55 rfl (by decide) ?_
          refine Go.iconst (v := 3) d_Glacier_tryProbe_56 rfl (by decide) ?_
          refine Go.cv3v d_Glacier_tryProbe_57 rfl l_Glacier_57 k_Table_set_v (gl_tab (k := 2) (by decide)) rfl (cG_set (k := 2) (by decide) (c := 2) rfl (by omega) hW) rfl rfl rfl ?_
          refine Go.aload_0 d_Glacier_tryProbe_60 rfl ?_
          refine Go.getfield d_Glacier_tryProbe_61 rfl f_Glacier_23 gl_obj (by rfl) ?_
          refine Go.iload_2 d_Glacier_tryProbe_64 rfl ?_
          refine Go.iconst (v := 3) d_Glacier_tryProbe_65 rfl (by decide) ?_
          refine Go.aload_0 d_Glacier_tryProbe_66 rfl ?_
          refine Go.getfield d_Glacier_tryProbe_67 rfl f_Glacier_23 gl_obj (by rfl) ?_
          refine Go.iload_2 d_Glacier_tryProbe_70 rfl ?_
          refine Go.iconst (v := 1) d_Glacier_tryProbe_71 rfl (by decide) ?_
          refine Go.cv2r d_Glacier_tryProbe_72 rfl l_Glacier_75 k_Table_get_v (gl_tab (k := 2) (by decide)) rfl (cG_get (k := 2) (by decide) (c := 1) rfl (by omega) (hW.of fun j => by simp only [gN_gS, gN_gA, gN_gSW, gN_gSD, gN_gSC, gN_Glacier_changeWarmth, gN_Glacier_letFall, gN_l_Glacier_letCross_23, gN_Glacier_letCross, gN_Glacier_tryGo])) rfl rfl rfl ?_
          refine Go.cv3v d_Glacier_tryProbe_75 rfl l_Glacier_57 k_Table_set_v (gl_tab (k := 2) (by decide)) rfl (cG_set (k := 2) (by decide) (c := 3) rfl (by omega) (hW.of fun j => by simp only [gN_gS, gN_gA, gN_gSW, gN_gSD, gN_gSC, gN_Glacier_changeWarmth, gN_Glacier_letFall, gN_l_Glacier_letCross_23, gN_Glacier_letCross, gN_Glacier_tryGo])) rfl rfl rfl ?_
          refine Go.aload_0 d_Glacier_tryProbe_78 rfl ?_
          refine Go.getfield d_Glacier_tryProbe_79 rfl f_Glacier_29 gl_obj (by rfl) ?_
          refine Go.iload_1 d_Glacier_tryProbe_82 rfl ?_
          refine Go.bipush (v := 7) d_Glacier_tryProbe_83 rfl (by decide) ?_
          refine Go.iconst (v := 1) d_Glacier_tryProbe_85 rfl (by decide) ?_
          refine Go.cv3v d_Glacier_tryProbe_86 rfl l_Glacier_57 k_Table_set_v (gl_tab (k := 4) (by decide)) rfl (cG_set (k := 4) (by decide) (c := 7) rfl (by omega) (hW.of fun j => by simp only [gN_gS, gN_gA, gN_gSW, gN_gSD, gN_gSC, gN_Glacier_changeWarmth, gN_Glacier_letFall, gN_l_Glacier_letCross_23, gN_Glacier_letCross, gN_Glacier_tryGo])) rfl rfl rfl ?_
          refine Go.iconst (v := 1) d_Glacier_tryProbe_89 rfl (by decide) ?_
          rw [if_neg c25_1, if_neg c36_2, if_neg c40_3, if_pos c45_4]
          exact Go.iret d_Glacier_tryProbe_90 rfl rfl ⟨rfl, rfl, rfl⟩
        · refine Go.iconst (v := 0) d_Glacier_tryProbe_48 rfl (by decide) ?_
          rw [if_neg c25_1, if_neg c36_2, if_neg c40_3, if_neg c45_4]
          exact Go.iret d_Glacier_tryProbe_49 rfl rfl ⟨rfl, rfl, rfl⟩
set_option maxRecDepth 100000 in
set_option maxHeartbeats 4000000 in
theorem gN_Glacier_tryProbe {σ : GL} {x1 : Int32} {x2 : Int32} (j : Nat) : gN (s_Glacier_tryProbe σ x1 x2).2 j = gN σ j := by
  unfold s_Glacier_tryProbe
  (repeat' split) <;> simp only [gN_gS, gN_gA, gN_gSW, gN_gSD, gN_gSC, gN_Glacier_changeWarmth, gN_Glacier_letFall, gN_l_Glacier_letCross_23, gN_Glacier_letCross, gN_Glacier_tryGo]
set_option maxRecDepth 100000 in
set_option maxHeartbeats 4000000 in
theorem s_Glacier_tryProbe_01 (σ : GL) (x1 : Int32) (x2 : Int32) : (s_Glacier_tryProbe σ x1 x2).1 = 0 ∨ (s_Glacier_tryProbe σ x1 x2).1 = 1 := by
  unfold s_Glacier_tryProbe
  (repeat' split) <;> first | exact Or.inl rfl | exact Or.inr rfl
theorem d_Glacier_firstStore_2 : decode M_Glacier_firstStore.2.1 2 = .ok (.iload_n 2, 1) := by decide +kernel
theorem d_Glacier_firstStore_3 : decode M_Glacier_firstStore.2.1 3 = .ok (.aload_n 0, 1) := by decide +kernel
theorem d_Glacier_firstStore_4 : decode M_Glacier_firstStore.2.1 4 = .ok (.getfield 26, 3) := by decide +kernel
theorem d_Glacier_firstStore_7 : decode M_Glacier_firstStore.2.1 7 = .ok (.invokevirtual 68, 3) := by decide +kernel
theorem d_Glacier_firstStore_10 : decode M_Glacier_firstStore.2.1 10 = .ok (.if_icmp .ge 36, 3) := by decide +kernel
theorem d_Glacier_firstStore_46 : decode M_Glacier_firstStore.2.1 46 = .ok (.iconst (-1), 1) := by decide +kernel
theorem d_Glacier_firstStore_47 : decode M_Glacier_firstStore.2.1 47 = .ok (.ireturn, 1) := by decide +kernel
theorem d_Glacier_firstStore_13 : decode M_Glacier_firstStore.2.1 13 = .ok (.aload_n 0, 1) := by decide +kernel
theorem d_Glacier_firstStore_14 : decode M_Glacier_firstStore.2.1 14 = .ok (.getfield 26, 3) := by decide +kernel
theorem d_Glacier_firstStore_17 : decode M_Glacier_firstStore.2.1 17 = .ok (.iload_n 2, 1) := by decide +kernel
theorem d_Glacier_firstStore_18 : decode M_Glacier_firstStore.2.1 18 = .ok (.iconst 0, 1) := by decide +kernel
theorem d_Glacier_firstStore_19 : decode M_Glacier_firstStore.2.1 19 = .ok (.invokevirtual 75, 3) := by decide +kernel
theorem d_Glacier_firstStore_22 : decode M_Glacier_firstStore.2.1 22 = .ok (.iload_n 1, 1) := by decide +kernel
theorem d_Glacier_firstStore_23 : decode M_Glacier_firstStore.2.1 23 = .ok (.if_icmp .ne 17, 3) := by decide +kernel
theorem d_Glacier_firstStore_26 : decode M_Glacier_firstStore.2.1 26 = .ok (.aload_n 0, 1) := by decide +kernel
theorem d_Glacier_firstStore_27 : decode M_Glacier_firstStore.2.1 27 = .ok (.getfield 26, 3) := by decide +kernel
theorem d_Glacier_firstStore_30 : decode M_Glacier_firstStore.2.1 30 = .ok (.iload_n 2, 1) := by decide +kernel
theorem d_Glacier_firstStore_31 : decode M_Glacier_firstStore.2.1 31 = .ok (.iconst 1, 1) := by decide +kernel
theorem d_Glacier_firstStore_32 : decode M_Glacier_firstStore.2.1 32 = .ok (.invokevirtual 75, 3) := by decide +kernel
theorem d_Glacier_firstStore_35 : decode M_Glacier_firstStore.2.1 35 = .ok (.ifCond .le 5, 3) := by decide +kernel
theorem d_Glacier_firstStore_38 : decode M_Glacier_firstStore.2.1 38 = .ok (.iload_n 2, 1) := by decide +kernel
theorem d_Glacier_firstStore_39 : decode M_Glacier_firstStore.2.1 39 = .ok (.ireturn, 1) := by decide +kernel
theorem d_Glacier_firstStore_40 : decode M_Glacier_firstStore.2.1 40 = .ok (.iinc 2 1, 3) := by decide +kernel
theorem d_Glacier_firstStore_43 : decode M_Glacier_firstStore.2.1 43 = .ok (.goto (-41), 3) := by decide +kernel
def l_Glacier_firstStore_2 (x1 : Int32) (σ : GL) : Nat → Nat → Int32
  | 0, i => (-1)
  | k + 1, i => (if (gG σ 3 (nI i) 0) = x1 then (if (gG σ 3 (nI i) 1) ≤ 0 then (l_Glacier_firstStore_2 x1 σ k (i + 1)) else (nI i)) else (l_Glacier_firstStore_2 x1 σ k (i + 1)))
set_option maxRecDepth 100000 in
set_option maxHeartbeats 4000000 in
theorem l_Glacier_firstStore_2_go {Γ : G9} {h : AH} {g z n : Nat} {σ : GL} {x1 : Int32} (hn20 : n ≤ 20) (hn : gN σ 3 = n) (hW : WFG σ) : ∀ (k i : Nat), i + k = n → Go Γ M_Glacier_firstStore 1 0 0 2 [some (.ref g), some (.int x1), some (.int (nI i))] [] (blk h g 12 (glC Γ g σ)) z (RQ (some (.int (l_Glacier_firstStore_2 x1 σ k i))) (blk h g 12 (glC Γ g σ)) z) noX := by
  intro k
  induction k with
  | zero =>
    intro i hi
    unfold l_Glacier_firstStore_2
    refine Go.iload_2 d_Glacier_firstStore_2 rfl ?_
    refine Go.aload_0 d_Glacier_firstStore_3 rfl ?_
    refine Go.getfield d_Glacier_firstStore_4 rfl f_Glacier_26 gl_obj (by rfl) ?_
    refine Go.cv0r d_Glacier_firstStore_7 rfl l_Glacier_68 k_Table_rows_v (gl_tab (k := 3) (by decide)) rfl (cG_rows (k := 3) (by decide)) rfl rfl rfl ?_
    refine Go.icmp_ge (t := 46) d_Glacier_firstStore_10 (by decide) rfl (fun c10_1 => ?_) (fun c10_1 => ?_)
    · refine Go.iconst (v := (-1)) d_Glacier_firstStore_46 rfl (by decide) ?_
      exact Go.iret d_Glacier_firstStore_47 rfl rfl ⟨rfl, rfl, rfl⟩
    · exact absurd (nI_le (by omega) (by omega)) c10_1
  | succ k ih =>
    intro i hi
    unfold l_Glacier_firstStore_2
    refine Go.iload_2 d_Glacier_firstStore_2 rfl ?_
    refine Go.aload_0 d_Glacier_firstStore_3 rfl ?_
    refine Go.getfield d_Glacier_firstStore_4 rfl f_Glacier_26 gl_obj (by rfl) ?_
    refine Go.cv0r d_Glacier_firstStore_7 rfl l_Glacier_68 k_Table_rows_v (gl_tab (k := 3) (by decide)) rfl (cG_rows (k := 3) (by decide)) rfl rfl rfl ?_
    refine Go.icmp_ge (t := 46) d_Glacier_firstStore_10 (by decide) rfl (fun c10_1 => ?_) (fun c10_1 => ?_)
    · exact absurd c10_1 (nI_ge (by omega) (by omega))
    · refine Go.aload_0 d_Glacier_firstStore_13 rfl ?_
      refine Go.getfield d_Glacier_firstStore_14 rfl f_Glacier_26 gl_obj (by rfl) ?_
      refine Go.iload_2 d_Glacier_firstStore_17 rfl ?_
      refine Go.iconst (v := 0) d_Glacier_firstStore_18 rfl (by decide) ?_
      refine Go.cv2r d_Glacier_firstStore_19 rfl l_Glacier_75 k_Table_get_v (gl_tab (k := 3) (by decide)) rfl (cG_get (k := 3) (by decide) (c := 0) rfl (by omega) hW) rfl rfl rfl ?_
      refine Go.iload_1 d_Glacier_firstStore_22 rfl ?_
      refine Go.icmp_ne (t := 40) d_Glacier_firstStore_23 (by decide) rfl (fun c23_2 => ?_) (fun c23_2 => ?_)
      · refine Go.iinc_2 d_Glacier_firstStore_40 rfl (by rfl) (nI_inc _) ?_
        refine Go.goto (t := 2) d_Glacier_firstStore_43 (by decide) ?_
        rw [if_neg c23_2]
        exact ih (i + 1) (by omega)
      · refine Go.aload_0 d_Glacier_firstStore_26 rfl ?_
        refine Go.getfield d_Glacier_firstStore_27 rfl f_Glacier_26 gl_obj (by rfl) ?_
        refine Go.iload_2 d_Glacier_firstStore_30 rfl ?_
        refine Go.iconst (v := 1) d_Glacier_firstStore_31 rfl (by decide) ?_
        refine Go.cv2r d_Glacier_firstStore_32 rfl l_Glacier_75 k_Table_get_v (gl_tab (k := 3) (by decide)) rfl (cG_get (k := 3) (by decide) (c := 1) rfl (by omega) hW) rfl rfl rfl ?_
        refine Go.if_le (t := 40) d_Glacier_firstStore_35 (by decide) rfl (fun c35_3 => ?_) (fun c35_3 => ?_)
        · refine Go.iinc_2 d_Glacier_firstStore_40 rfl (by rfl) (nI_inc _) ?_
          refine Go.goto (t := 2) d_Glacier_firstStore_43 (by decide) ?_
          rw [if_pos c23_2, if_pos c35_3]
          exact ih (i + 1) (by omega)
        · refine Go.iload_2 d_Glacier_firstStore_38 rfl ?_
          rw [if_pos c23_2, if_neg c35_3]
          exact Go.iret d_Glacier_firstStore_39 rfl rfl ⟨rfl, rfl, rfl⟩
theorem d_Glacier_firstStore_0 : decode M_Glacier_firstStore.2.1 0 = .ok (.iconst 0, 1) := by decide +kernel
theorem d_Glacier_firstStore_1 : decode M_Glacier_firstStore.2.1 1 = .ok (.istore_n 2, 1) := by decide +kernel
def s_Glacier_firstStore (σ : GL) (x1 : Int32) : Int32 := (l_Glacier_firstStore_2 x1  σ (gN σ 3) 0)
set_option maxRecDepth 100000 in
set_option maxHeartbeats 4000000 in
theorem c_Glacier_firstStore {Γ : G9} {h : AH} {g z : Nat} {σ : GL} {x1 : Int32} (hW : WFG σ) : CallR Γ M_Glacier_firstStore 1 [.ref g, .int x1] (blk h g 12 (glC Γ g σ)) z (some (.int (s_Glacier_firstStore σ x1))) (blk h g 12 (glC Γ g σ)) := by
  refine Call.of_go (L := [some (.ref g), some (.int x1), none]) (by decide +kernel) rfl (by exact Nat.le_of_ble_eq_true rfl) ?_
  unfold s_Glacier_firstStore
  refine Go.iconst (v := 0) d_Glacier_firstStore_0 rfl (by decide) ?_
  refine Go.istore_2 d_Glacier_firstStore_1 rfl (by rfl) ?_
  exact l_Glacier_firstStore_2_go (n := (gN σ 3)) (by have := WFG.le (σ := σ) hW (k := 3) (by decide); omega) rfl hW (gN σ 3) 0 (by omega)
theorem d_Glacier_takeFood_0 : decode M_Glacier_takeFood.2.1 0 = .ok (.aload_n 0, 1) := by decide +kernel
theorem d_Glacier_takeFood_1 : decode M_Glacier_takeFood.2.1 1 = .ok (.aload_n 0, 1) := by decide +kernel
theorem d_Glacier_takeFood_2 : decode M_Glacier_takeFood.2.1 2 = .ok (.getfield 29, 3) := by decide +kernel
theorem d_Glacier_takeFood_5 : decode M_Glacier_takeFood.2.1 5 = .ok (.iload_n 1, 1) := by decide +kernel
theorem d_Glacier_takeFood_6 : decode M_Glacier_takeFood.2.1 6 = .ok (.iconst 2, 1) := by decide +kernel
theorem d_Glacier_takeFood_7 : decode M_Glacier_takeFood.2.1 7 = .ok (.invokevirtual 75, 3) := by decide +kernel
theorem d_Glacier_takeFood_10 : decode M_Glacier_takeFood.2.1 10 = .ok (.invokevirtual 130, 3) := by decide +kernel
theorem d_Glacier_takeFood_13 : decode M_Glacier_takeFood.2.1 13 = .ok (.istore_n 3, 1) := by decide +kernel
theorem d_Glacier_takeFood_14 : decode M_Glacier_takeFood.2.1 14 = .ok (.aload_n 0, 1) := by decide +kernel
theorem d_Glacier_takeFood_15 : decode M_Glacier_takeFood.2.1 15 = .ok (.iload_n 1, 1) := by decide +kernel
theorem d_Glacier_takeFood_16 : decode M_Glacier_takeFood.2.1 16 = .ok (.invokevirtual 133, 3) := by decide +kernel
theorem d_Glacier_takeFood_19 : decode M_Glacier_takeFood.2.1 19 = .ok (.ifCond .eq 7, 3) := by decide +kernel
theorem d_Glacier_takeFood_22 : decode M_Glacier_takeFood.2.1 22 = .ok (.iload_n 3, 1) := by decide +kernel
theorem d_Glacier_takeFood_23 : decode M_Glacier_takeFood.2.1 23 = .ok (.ifCond .ge 5, 3) := by decide +kernel
theorem d_Glacier_takeFood_26 : decode M_Glacier_takeFood.2.1 26 = .ok (.iconst 0, 1) := by decide +kernel
theorem d_Glacier_takeFood_27 : decode M_Glacier_takeFood.2.1 27 = .ok (.ireturn, 1) := by decide +kernel
theorem d_Glacier_takeFood_28 : decode M_Glacier_takeFood.2.1 28 = .ok (.bipush 40, 2) := by decide +kernel
theorem d_Glacier_takeFood_30 : decode M_Glacier_takeFood.2.1 30 = .ok (.aload_n 0, 1) := by decide +kernel
theorem d_Glacier_takeFood_31 : decode M_Glacier_takeFood.2.1 31 = .ok (.getfield 29, 3) := by decide +kernel
theorem d_Glacier_takeFood_34 : decode M_Glacier_takeFood.2.1 34 = .ok (.iload_n 1, 1) := by decide +kernel
theorem d_Glacier_takeFood_35 : decode M_Glacier_takeFood.2.1 35 = .ok (.iconst 1, 1) := by decide +kernel
theorem d_Glacier_takeFood_36 : decode M_Glacier_takeFood.2.1 36 = .ok (.invokevirtual 75, 3) := by decide +kernel
theorem d_Glacier_takeFood_39 : decode M_Glacier_takeFood.2.1 39 = .ok (.isub, 1) := by decide +kernel
theorem d_Glacier_takeFood_40 : decode M_Glacier_takeFood.2.1 40 = .ok (.istore 4, 2) := by decide +kernel
theorem d_Glacier_takeFood_42 : decode M_Glacier_takeFood.2.1 42 = .ok (.iconst 0, 1) := by decide +kernel
theorem d_Glacier_takeFood_43 : decode M_Glacier_takeFood.2.1 43 = .ok (.iload_n 2, 1) := by decide +kernel
theorem d_Glacier_takeFood_44 : decode M_Glacier_takeFood.2.1 44 = .ok (.iload 4, 2) := by decide +kernel
theorem d_Glacier_takeFood_46 : decode M_Glacier_takeFood.2.1 46 = .ok (.invokestatic 79, 3) := by decide +kernel
theorem d_Glacier_takeFood_49 : decode M_Glacier_takeFood.2.1 49 = .ok (.invokestatic 136, 3) := by decide +kernel
theorem d_Glacier_takeFood_52 : decode M_Glacier_takeFood.2.1 52 = .ok (.aload_n 0, 1) := by decide +kernel
theorem d_Glacier_takeFood_53 : decode M_Glacier_takeFood.2.1 53 = .ok (.getfield 26, 3) := by decide +kernel
theorem d_Glacier_takeFood_56 : decode M_Glacier_takeFood.2.1 56 = .ok (.iload_n 3, 1) := by decide +kernel
theorem d_Glacier_takeFood_57 : decode M_Glacier_takeFood.2.1 57 = .ok (.iconst 1, 1) := by decide +kernel
theorem d_Glacier_takeFood_58 : decode M_Glacier_takeFood.2.1 58 = .ok (.invokevirtual 75, 3) := by decide +kernel
theorem d_Glacier_takeFood_61 : decode M_Glacier_takeFood.2.1 61 = .ok (.invokestatic 79, 3) := by decide +kernel
theorem d_Glacier_takeFood_64 : decode M_Glacier_takeFood.2.1 64 = .ok (.istore 5, 2) := by decide +kernel
theorem d_Glacier_takeFood_66 : decode M_Glacier_takeFood.2.1 66 = .ok (.aload_n 0, 1) := by decide +kernel
theorem d_Glacier_takeFood_67 : decode M_Glacier_takeFood.2.1 67 = .ok (.getfield 26, 3) := by decide +kernel
theorem d_Glacier_takeFood_70 : decode M_Glacier_takeFood.2.1 70 = .ok (.iload_n 3, 1) := by decide +kernel
theorem d_Glacier_takeFood_71 : decode M_Glacier_takeFood.2.1 71 = .ok (.iconst 1, 1) := by decide +kernel
theorem d_Glacier_takeFood_72 : decode M_Glacier_takeFood.2.1 72 = .ok (.iload 5, 2) := by decide +kernel
theorem d_Glacier_takeFood_74 : decode M_Glacier_takeFood.2.1 74 = .ok (.ineg, 1) := by decide +kernel
theorem d_Glacier_takeFood_75 : decode M_Glacier_takeFood.2.1 75 = .ok (.invokevirtual 127, 3) := by decide +kernel
theorem d_Glacier_takeFood_78 : decode M_Glacier_takeFood.2.1 78 = .ok (.aload_n 0, 1) := by decide +kernel
theorem d_Glacier_takeFood_79 : decode M_Glacier_takeFood.2.1 79 = .ok (.getfield 29, 3) := by decide +kernel
theorem d_Glacier_takeFood_82 : decode M_Glacier_takeFood.2.1 82 = .ok (.iload_n 1, 1) := by decide +kernel
theorem d_Glacier_takeFood_83 : decode M_Glacier_takeFood.2.1 83 = .ok (.iconst 1, 1) := by decide +kernel
theorem d_Glacier_takeFood_84 : decode M_Glacier_takeFood.2.1 84 = .ok (.iload 5, 2) := by decide +kernel
theorem d_Glacier_takeFood_86 : decode M_Glacier_takeFood.2.1 86 = .ok (.invokevirtual 127, 3) := by decide +kernel
theorem d_Glacier_takeFood_89 : decode M_Glacier_takeFood.2.1 89 = .ok (.iload 5, 2) := by decide +kernel
theorem d_Glacier_takeFood_91 : decode M_Glacier_takeFood.2.1 91 = .ok (.ireturn, 1) := by decide +kernel
def s_Glacier_takeFood (σ : GL) (x1 : Int32) (x2 : Int32) : Int32 × GL := (if (s_Glacier_isHere σ x1) = 0 then (0, σ) else (if 0 ≤ (s_Glacier_firstStore σ (gG σ 4 x1 2)) then ((iMin (iMax 0 (iMin x2 (40 - (gG σ 4 x1 1)))) (gG σ 3 (s_Glacier_firstStore σ (gG σ 4 x1 2)) 1)), (gA (gA σ 3 (s_Glacier_firstStore σ (gG σ 4 x1 2)) 1 (-(iMin (iMax 0 (iMin x2 (40 - (gG σ 4 x1 1)))) (gG σ 3 (s_Glacier_firstStore σ (gG σ 4 x1 2)) 1)))) 4 x1 1 (iMin (iMax 0 (iMin x2 (40 - (gG σ 4 x1 1)))) (gG σ 3 (s_Glacier_firstStore σ (gG σ 4 x1 2)) 1)))) else (0, σ)))
set_option maxRecDepth 100000 in
set_option maxHeartbeats 4000000 in
theorem c_Glacier_takeFood {Γ : G9} {h : AH} {g z : Nat} {σ : GL} {x1 : Int32} {x2 : Int32} (hW : WFG σ) : CallR Γ M_Glacier_takeFood 2 [.ref g, .int x1, .int x2] (blk h g 12 (glC Γ g σ)) z (some (.int (s_Glacier_takeFood σ x1 x2).1)) (blk h g 12 (glC Γ g (s_Glacier_takeFood σ x1 x2).2)) := by
  refine Call.of_go (L := [some (.ref g), some (.int x1), some (.int x2), none, none, none]) (by decide +kernel) rfl (by exact Nat.le_of_ble_eq_true rfl) ?_
  unfold s_Glacier_takeFood
  refine Go.aload_0 d_Glacier_takeFood_0 rfl ?_
  refine Go.aload_0 d_Glacier_takeFood_1 rfl ?_
  refine Go.getfield d_Glacier_takeFood_2 rfl f_Glacier_29 gl_obj (by rfl) ?_
  refine Go.iload_1 d_Glacier_takeFood_5 rfl ?_
  refine Go.iconst (v := 2) d_Glacier_takeFood_6 rfl (by decide) ?_
  refine Go.cv2r d_Glacier_takeFood_7 rfl l_Glacier_75 k_Table_get_v (gl_tab (k := 4) (by decide)) rfl (cG_get (k := 4) (by decide) (c := 2) rfl (by omega) hW) rfl rfl rfl ?_
  refine Go.cv1r d_Glacier_takeFood_10 rfl l_Glacier_130 k_Glacier_firstStore_v gl_obj rfl (c_Glacier_firstStore hW) rfl rfl rfl ?_
  refine Go.istore_3 d_Glacier_takeFood_13 rfl (by rfl) ?_
  refine Go.aload_0 d_Glacier_takeFood_14 rfl ?_
  refine Go.iload_1 d_Glacier_takeFood_15 rfl ?_
  refine Go.cv1r d_Glacier_takeFood_16 rfl l_Glacier_133 k_Glacier_isHere_v gl_obj rfl (c_Glacier_isHere hW) rfl rfl rfl ?_
  refine Go.if_eq (t := 26) d_Glacier_takeFood_19 (by decide) rfl (fun c19_1 => ?_) (fun c19_1 => ?_)
  · refine Go.iconst (v := 0) d_Glacier_takeFood_26 rfl (by decide) ?_
    rw [if_pos c19_1]
    exact Go.iret d_Glacier_takeFood_27 rfl rfl ⟨rfl, rfl, rfl⟩
  · refine Go.iload_3 d_Glacier_takeFood_22 rfl ?_
    refine Go.if_ge (t := 28) d_Glacier_takeFood_23 (by decide) rfl (fun c23_2 => ?_) (fun c23_2 => ?_)
    · refine Go.bipush (v := 40) d_Glacier_takeFood_28 rfl (by decide) ?_
      refine Go.aload_0 d_Glacier_takeFood_30 rfl ?_
      refine Go.getfield d_Glacier_takeFood_31 rfl f_Glacier_29 gl_obj (by rfl) ?_
      refine Go.iload_1 d_Glacier_takeFood_34 rfl ?_
      refine Go.iconst (v := 1) d_Glacier_takeFood_35 rfl (by decide) ?_
      refine Go.cv2r d_Glacier_takeFood_36 rfl l_Glacier_75 k_Table_get_v (gl_tab (k := 4) (by decide)) rfl (cG_get (k := 4) (by decide) (c := 1) rfl (by omega) hW) rfl rfl rfl ?_
      refine Go.isub d_Glacier_takeFood_39 rfl ?_
      refine Go.istore_4 d_Glacier_takeFood_40 rfl (by rfl) ?_
      refine Go.iconst (v := 0) d_Glacier_takeFood_42 rfl (by decide) ?_
      refine Go.iload_2 d_Glacier_takeFood_43 rfl ?_
      refine Go.iload_4 d_Glacier_takeFood_44 rfl ?_
      refine Go.imin d_Glacier_takeFood_46 rfl l_Glacier_79 (by decide) rfl ?_
      refine Go.imax d_Glacier_takeFood_49 rfl l_Glacier_136 (by decide) rfl ?_
      refine Go.aload_0 d_Glacier_takeFood_52 rfl ?_
      refine Go.getfield d_Glacier_takeFood_53 rfl f_Glacier_26 gl_obj (by rfl) ?_
      refine Go.iload_3 d_Glacier_takeFood_56 rfl ?_
      refine Go.iconst (v := 1) d_Glacier_takeFood_57 rfl (by decide) ?_
      refine Go.cv2r d_Glacier_takeFood_58 rfl l_Glacier_75 k_Table_get_v (gl_tab (k := 3) (by decide)) rfl (cG_get (k := 3) (by decide) (c := 1) rfl (by omega) hW) rfl rfl rfl ?_
      refine Go.imin d_Glacier_takeFood_61 rfl l_Glacier_79 (by decide) rfl ?_
      refine Go.istore_5 d_Glacier_takeFood_64 rfl (by rfl) ?_
      refine Go.aload_0 d_Glacier_takeFood_66 rfl ?_
      refine Go.getfield d_Glacier_takeFood_67 rfl f_Glacier_26 gl_obj (by rfl) ?_
      refine Go.iload_3 d_Glacier_takeFood_70 rfl ?_
      refine Go.iconst (v := 1) d_Glacier_takeFood_71 rfl (by decide) ?_
      refine Go.iload_5 d_Glacier_takeFood_72 rfl ?_
      refine Go.ineg d_Glacier_takeFood_74 rfl ?_
      refine Go.cv3v d_Glacier_takeFood_75 rfl l_Glacier_127 k_Table_add_v (gl_tab (k := 3) (by decide)) rfl (cG_add (k := 3) (by decide) (c := 1) rfl (by omega) hW) rfl rfl rfl ?_
      refine Go.aload_0 d_Glacier_takeFood_78 rfl ?_
      refine Go.getfield d_Glacier_takeFood_79 rfl f_Glacier_29 gl_obj (by rfl) ?_
      refine Go.iload_1 d_Glacier_takeFood_82 rfl ?_
      refine Go.iconst (v := 1) d_Glacier_takeFood_83 rfl (by decide) ?_
      refine Go.iload_5 d_Glacier_takeFood_84 rfl ?_
      refine Go.cv3v d_Glacier_takeFood_86 rfl l_Glacier_127 k_Table_add_v (gl_tab (k := 4) (by decide)) rfl (cG_add (k := 4) (by decide) (c := 1) rfl (by omega) (hW.of fun j => by simp only [gN_gS, gN_gA, gN_gSW, gN_gSD, gN_gSC, gN_Glacier_changeWarmth, gN_Glacier_letFall, gN_l_Glacier_letCross_23, gN_Glacier_letCross, gN_Glacier_tryGo, gN_Glacier_tryProbe])) rfl rfl rfl ?_
      refine Go.iload_5 d_Glacier_takeFood_89 rfl ?_
      rw [if_neg c19_1, if_pos c23_2]
      exact Go.iret d_Glacier_takeFood_91 rfl rfl ⟨rfl, rfl, rfl⟩
    · refine Go.iconst (v := 0) d_Glacier_takeFood_26 rfl (by decide) ?_
      rw [if_neg c19_1, if_neg c23_2]
      exact Go.iret d_Glacier_takeFood_27 rfl rfl ⟨rfl, rfl, rfl⟩
set_option maxRecDepth 100000 in
set_option maxHeartbeats 4000000 in
theorem gN_Glacier_takeFood {σ : GL} {x1 : Int32} {x2 : Int32} (j : Nat) : gN (s_Glacier_takeFood σ x1 x2).2 j = gN σ j := by
  unfold s_Glacier_takeFood
  (repeat' split) <;> simp only [gN_gS, gN_gA, gN_gSW, gN_gSD, gN_gSC, gN_Glacier_changeWarmth, gN_Glacier_letFall, gN_l_Glacier_letCross_23, gN_Glacier_letCross, gN_Glacier_tryGo, gN_Glacier_tryProbe]
theorem d_Glacier_tryDrill_0 : decode M_Glacier_tryDrill.2.1 0 = .ok (.aload_n 0, 1) := by decide +kernel
theorem d_Glacier_tryDrill_1 : decode M_Glacier_tryDrill.2.1 1 = .ok (.getfield 20, 3) := by decide +kernel
theorem d_Glacier_tryDrill_4 : decode M_Glacier_tryDrill.2.1 4 = .ok (.iload_n 1, 1) := by decide +kernel
theorem d_Glacier_tryDrill_5 : decode M_Glacier_tryDrill.2.1 5 = .ok (.iconst 0, 1) := by decide +kernel
theorem d_Glacier_tryDrill_6 : decode M_Glacier_tryDrill.2.1 6 = .ok (.invokevirtual 75, 3) := by decide +kernel
theorem d_Glacier_tryDrill_9 : decode M_Glacier_tryDrill.2.1 9 = .ok (.istore_n 2, 1) := by decide +kernel
theorem d_Glacier_tryDrill_10 : decode M_Glacier_tryDrill.2.1 10 = .ok (.aload_n 0, 1) := by decide +kernel
theorem d_Glacier_tryDrill_11 : decode M_Glacier_tryDrill.2.1 11 = .ok (.getfield 20, 3) := by decide +kernel
theorem d_Glacier_tryDrill_14 : decode M_Glacier_tryDrill.2.1 14 = .ok (.iload_n 1, 1) := by decide +kernel
theorem d_Glacier_tryDrill_15 : decode M_Glacier_tryDrill.2.1 15 = .ok (.invokevirtual 104, 3) := by decide +kernel
theorem d_Glacier_tryDrill_18 : decode M_Glacier_tryDrill.2.1 18 = .ok (.ifCond .eq 19, 3) := by decide +kernel
theorem d_Glacier_tryDrill_21 : decode M_Glacier_tryDrill.2.1 21 = .ok (.aload_n 0, 1) := by decide +kernel
theorem d_Glacier_tryDrill_22 : decode M_Glacier_tryDrill.2.1 22 = .ok (.getfield 20, 3) := by decide +kernel
theorem d_Glacier_tryDrill_25 : decode M_Glacier_tryDrill.2.1 25 = .ok (.iload_n 1, 1) := by decide +kernel
theorem d_Glacier_tryDrill_26 : decode M_Glacier_tryDrill.2.1 26 = .ok (.iconst 3, 1) := by decide +kernel
theorem d_Glacier_tryDrill_27 : decode M_Glacier_tryDrill.2.1 27 = .ok (.invokevirtual 75, 3) := by decide +kernel
theorem d_Glacier_tryDrill_30 : decode M_Glacier_tryDrill.2.1 30 = .ok (.ifCond .ne 7, 3) := by decide +kernel
theorem d_Glacier_tryDrill_33 : decode M_Glacier_tryDrill.2.1 33 = .ok (.iconst 1, 1) := by decide +kernel
theorem d_Glacier_tryDrill_34 : decode M_Glacier_tryDrill.2.1 34 = .ok (.goto 4, 3) := by decide +kernel
theorem d_Glacier_tryDrill_37 : decode M_Glacier_tryDrill.2.1 37 = .ok (.iconst 0, 1) := by decide +kernel
theorem d_Glacier_tryDrill_38 : decode M_Glacier_tryDrill.2.1 38 = .ok (.istore_n 3, 1) := by decide +kernel
theorem d_Glacier_tryDrill_39 : decode M_Glacier_tryDrill.2.1 39 = .ok (.iload_n 3, 1) := by decide +kernel
theorem d_Glacier_tryDrill_40 : decode M_Glacier_tryDrill.2.1 40 = .ok (.ifCond .eq 17, 3) := by decide +kernel
theorem d_Glacier_tryDrill_43 : decode M_Glacier_tryDrill.2.1 43 = .ok (.aload_n 0, 1) := by decide +kernel
theorem d_Glacier_tryDrill_44 : decode M_Glacier_tryDrill.2.1 44 = .ok (.getfield 29, 3) := by decide +kernel
theorem d_Glacier_tryDrill_47 : decode M_Glacier_tryDrill.2.1 47 = .ok (.iconst 2, 1) := by decide +kernel
theorem d_Glacier_tryDrill_48 : decode M_Glacier_tryDrill.2.1 48 = .ok (.iload_n 2, 1) := by decide +kernel
theorem d_Glacier_tryDrill_49 : decode M_Glacier_tryDrill.2.1 49 = .ok (.iconst 4, 1) := by decide +kernel
theorem d_Glacier_tryDrill_50 : decode M_Glacier_tryDrill.2.1 50 = .ok (.iconst 1, 1) := by decide +kernel
theorem d_Glacier_tryDrill_51 : decode M_Glacier_tryDrill.2.1 51 = .ok (.invokevirtual 71, 3) := by decide +kernel
theorem d_Glacier_tryDrill_54 : decode M_Glacier_tryDrill.2.1 54 = .ok (.ifCond .ne 5, 3) := by decide +kernel
theorem d_Glacier_tryDrill_57 : decode M_Glacier_tryDrill.2.1 57 = .ok (.iconst 0, 1) := by decide +kernel
theorem d_Glacier_tryDrill_58 : decode M_Glacier_tryDrill.2.1 58 = .ok (.ireturn, 1) := by decide +kernel
theorem d_Glacier_tryDrill_59 : decode M_Glacier_tryDrill.2.1 59 = .ok (.aload_n 0, 1) := by decide +kernel
theorem d_Glacier_tryDrill_60 : decode M_Glacier_tryDrill.2.1 60 = .ok (.getfield 20, 3) := by decide +kernel
theorem d_Glacier_tryDrill_63 : decode M_Glacier_tryDrill.2.1 63 = .ok (.iload_n 1, 1) := by decide +kernel
theorem d_Glacier_tryDrill_64 : decode M_Glacier_tryDrill.2.1 64 = .ok (.iconst 3, 1) := by decide +kernel
theorem d_Glacier_tryDrill_65 : decode M_Glacier_tryDrill.2.1 65 = .ok (.iconst 1, 1) := by decide +kernel
theorem d_Glacier_tryDrill_66 : decode M_Glacier_tryDrill.2.1 66 = .ok (.invokevirtual 57, 3) := by decide +kernel
theorem d_Glacier_tryDrill_69 : decode M_Glacier_tryDrill.2.1 69 = .ok (.aload_n 0, 1) := by decide +kernel
theorem d_Glacier_tryDrill_70 : decode M_Glacier_tryDrill.2.1 70 = .ok (.getfield 20, 3) := by decide +kernel
theorem d_Glacier_tryDrill_73 : decode M_Glacier_tryDrill.2.1 73 = .ok (.iload_n 1, 1) := by decide +kernel
theorem d_Glacier_tryDrill_74 : decode M_Glacier_tryDrill.2.1 74 = .ok (.iconst 2, 1) := by decide +kernel
theorem d_Glacier_tryDrill_75 : decode M_Glacier_tryDrill.2.1 75 = .ok (.iconst 0, 1) := by decide +kernel
theorem d_Glacier_tryDrill_76 : decode M_Glacier_tryDrill.2.1 76 = .ok (.invokevirtual 57, 3) := by decide +kernel
theorem d_Glacier_tryDrill_79 : decode M_Glacier_tryDrill.2.1 79 = .ok (.iconst 1, 1) := by decide +kernel
theorem d_Glacier_tryDrill_80 : decode M_Glacier_tryDrill.2.1 80 = .ok (.ireturn, 1) := by decide +kernel
def s_Glacier_tryDrill (σ : GL) (x1 : Int32) : Int32 × GL := (if (gH σ 1 x1) = 0 then (0, σ) else (if (gG σ 1 x1 3) = 0 then (if (gMat σ 4 2 (gG σ 1 x1 0) 4 1) = 0 then (0, σ) else (1, (gS (gS σ 1 x1 3 1) 1 x1 2 0))) else (0, σ)))
set_option maxRecDepth 100000 in
set_option maxHeartbeats 4000000 in
theorem c_Glacier_tryDrill {Γ : G9} {h : AH} {g z : Nat} {σ : GL} {x1 : Int32} (hW : WFG σ) : CallR Γ M_Glacier_tryDrill 2 [.ref g, .int x1] (blk h g 12 (glC Γ g σ)) z (some (.int (s_Glacier_tryDrill σ x1).1)) (blk h g 12 (glC Γ g (s_Glacier_tryDrill σ x1).2)) := by
  refine Call.of_go (L := [some (.ref g), some (.int x1), none, none]) (by decide +kernel) rfl (by exact Nat.le_of_ble_eq_true rfl) ?_
  unfold s_Glacier_tryDrill
  refine Go.aload_0 d_Glacier_tryDrill_0 rfl ?_
  refine Go.getfield d_Glacier_tryDrill_1 rfl f_Glacier_20 gl_obj (by rfl) ?_
  refine Go.iload_1 d_Glacier_tryDrill_4 rfl ?_
  refine Go.iconst (v := 0) d_Glacier_tryDrill_5 rfl (by decide) ?_
  refine Go.cv2r d_Glacier_tryDrill_6 rfl l_Glacier_75 k_Table_get_v (gl_tab (k := 1) (by decide)) rfl (cG_get (k := 1) (by decide) (c := 0) rfl (by omega) hW) rfl rfl rfl ?_
  refine Go.istore_2 d_Glacier_tryDrill_9 rfl (by rfl) ?_
  refine Go.aload_0 d_Glacier_tryDrill_10 rfl ?_
  refine Go.getfield d_Glacier_tryDrill_11 rfl f_Glacier_20 gl_obj (by rfl) ?_
  refine Go.iload_1 d_Glacier_tryDrill_14 rfl ?_
  refine Go.cv1r d_Glacier_tryDrill_15 rfl l_Glacier_104 k_Table_has_v (gl_tab (k := 1) (by decide)) rfl (cG_has (k := 1) (by decide)) rfl rfl rfl ?_
  refine Go.if_eq (t := 37) d_Glacier_tryDrill_18 (by decide) rfl (fun c18_1 => ?_) (fun c18_1 => ?_)
  · refine Go.iconst (v := 0) d_Glacier_tryDrill_37 rfl (by decide) ?_
    refine Go.istore_3 d_Glacier_tryDrill_38 rfl (by rfl) ?_
    refine Go.iload_3 d_Glacier_tryDrill_39 rfl ?_
    refine Go.if_eq (t := 57) d_Glacier_tryDrill_40 (by decide) rfl (fun c40_2 => ?_) (fun c40_2 => ?_)
    · refine Go.iconst (v := 0) d_Glacier_tryDrill_57 rfl (by decide) ?_
      rw [if_pos c18_1]
      exact Go.iret d_Glacier_tryDrill_58 rfl rfl ⟨rfl, rfl, rfl⟩
    · exact absurd rfl c40_2
  · refine Go.aload_0 d_Glacier_tryDrill_21 rfl ?_
    refine Go.getfield d_Glacier_tryDrill_22 rfl f_Glacier_20 gl_obj (by rfl) ?_
    refine Go.iload_1 d_Glacier_tryDrill_25 rfl ?_
    refine Go.iconst (v := 3) d_Glacier_tryDrill_26 rfl (by decide) ?_
    refine Go.cv2r d_Glacier_tryDrill_27 rfl l_Glacier_75 k_Table_get_v (gl_tab (k := 1) (by decide)) rfl (cG_get (k := 1) (by decide) (c := 3) rfl (by omega) hW) rfl rfl rfl ?_
    refine Go.if_ne (t := 37) d_Glacier_tryDrill_30 (by decide) rfl (fun c30_3 => ?_) (fun c30_3 => ?_)
    · refine Go.iconst (v := 0) d_Glacier_tryDrill_37 rfl (by decide) ?_
      refine Go.istore_3 d_Glacier_tryDrill_38 rfl (by rfl) ?_
      refine Go.iload_3 d_Glacier_tryDrill_39 rfl ?_
      refine Go.if_eq (t := 57) d_Glacier_tryDrill_40 (by decide) rfl (fun c40_4 => ?_) (fun c40_4 => ?_)
      · refine Go.iconst (v := 0) d_Glacier_tryDrill_57 rfl (by decide) ?_
        rw [if_neg c18_1, if_neg c30_3]
        exact Go.iret d_Glacier_tryDrill_58 rfl rfl ⟨rfl, rfl, rfl⟩
      · exact absurd rfl c40_4
    · refine Go.iconst (v := 1) d_Glacier_tryDrill_33 rfl (by decide) ?_
      refine Go.goto (t := 38) d_Glacier_tryDrill_34 (by decide) ?_
      refine Go.istore_3 d_Glacier_tryDrill_38 rfl (by rfl) ?_
      refine Go.iload_3 d_Glacier_tryDrill_39 rfl ?_
      refine Go.if_eq (t := 57) d_Glacier_tryDrill_40 (by decide) rfl (fun c40_5 => ?_) (fun c40_5 => ?_)
      · exact absurd c40_5 (by decide)
      · refine Go.aload_0 d_Glacier_tryDrill_43 rfl ?_
        refine Go.getfield d_Glacier_tryDrill_44 rfl f_Glacier_29 gl_obj (by rfl) ?_
        refine Go.iconst (v := 2) d_Glacier_tryDrill_47 rfl (by decide) ?_
        refine Go.iload_2 d_Glacier_tryDrill_48 rfl ?_
        refine Go.iconst (v := 4) d_Glacier_tryDrill_49 rfl (by decide) ?_
        refine Go.iconst (v := 1) d_Glacier_tryDrill_50 rfl (by decide) ?_
        refine Go.cv4r d_Glacier_tryDrill_51 rfl l_Glacier_71 k_Table_matches_v (gl_tab (k := 4) (by decide)) rfl (cG_mat (k := 4) (by decide) (c := 2) rfl (by omega) (c2 := 4) rfl (by omega) hW) rfl rfl rfl ?_
        refine Go.if_ne (t := 59) d_Glacier_tryDrill_54 (by decide) rfl (fun c54_6 => ?_) (fun c54_6 => ?_)
        · refine Go.aload_0 d_Glacier_tryDrill_59 rfl ?_
          refine Go.getfield d_Glacier_tryDrill_60 rfl f_Glacier_20 gl_obj (by rfl) ?_
          refine Go.iload_1 d_Glacier_tryDrill_63 rfl ?_
          refine Go.iconst (v := 3) d_Glacier_tryDrill_64 rfl (by decide) ?_
          refine Go.iconst (v := 1) d_Glacier_tryDrill_65 rfl (by decide) ?_
          refine Go.cv3v d_Glacier_tryDrill_66 rfl l_Glacier_57 k_Table_set_v (gl_tab (k := 1) (by decide)) rfl (cG_set (k := 1) (by decide) (c := 3) rfl (by omega) hW) rfl rfl rfl ?_
          refine Go.aload_0 d_Glacier_tryDrill_69 rfl ?_
          refine Go.getfield d_Glacier_tryDrill_70 rfl f_Glacier_20 gl_obj (by rfl) ?_
          refine Go.iload_1 d_Glacier_tryDrill_73 rfl ?_
          refine Go.iconst (v := 2) d_Glacier_tryDrill_74 rfl (by decide) ?_
          refine Go.iconst (v := 0) d_Glacier_tryDrill_75 rfl (by decide) ?_
          refine Go.cv3v d_Glacier_tryDrill_76 rfl l_Glacier_57 k_Table_set_v (gl_tab (k := 1) (by decide)) rfl (cG_set (k := 1) (by decide) (c := 2) rfl (by omega) (hW.of fun j => by simp only [gN_gS, gN_gA, gN_gSW, gN_gSD, gN_gSC, gN_Glacier_changeWarmth, gN_Glacier_letFall, gN_l_Glacier_letCross_23, gN_Glacier_letCross, gN_Glacier_tryGo, gN_Glacier_tryProbe, gN_Glacier_takeFood])) rfl rfl rfl ?_
          refine Go.iconst (v := 1) d_Glacier_tryDrill_79 rfl (by decide) ?_
          rw [if_neg c18_1, if_pos c30_3, if_neg c54_6]
          exact Go.iret d_Glacier_tryDrill_80 rfl rfl ⟨rfl, rfl, rfl⟩
        · refine Go.iconst (v := 0) d_Glacier_tryDrill_57 rfl (by decide) ?_
          rw [if_neg c18_1, if_pos c30_3, if_pos c54_6]
          exact Go.iret d_Glacier_tryDrill_58 rfl rfl ⟨rfl, rfl, rfl⟩
set_option maxRecDepth 100000 in
set_option maxHeartbeats 4000000 in
theorem gN_Glacier_tryDrill {σ : GL} {x1 : Int32} (j : Nat) : gN (s_Glacier_tryDrill σ x1).2 j = gN σ j := by
  unfold s_Glacier_tryDrill
  (repeat' split) <;> simp only [gN_gS, gN_gA, gN_gSW, gN_gSD, gN_gSC, gN_Glacier_changeWarmth, gN_Glacier_letFall, gN_l_Glacier_letCross_23, gN_Glacier_letCross, gN_Glacier_tryGo, gN_Glacier_tryProbe, gN_Glacier_takeFood]
set_option maxRecDepth 100000 in
set_option maxHeartbeats 4000000 in
theorem s_Glacier_tryDrill_01 (σ : GL) (x1 : Int32) : (s_Glacier_tryDrill σ x1).1 = 0 ∨ (s_Glacier_tryDrill σ x1).1 = 1 := by
  unfold s_Glacier_tryDrill
  (repeat' split) <;> first | exact Or.inl rfl | exact Or.inr rfl
theorem d_Glacier_moveStakes_2 : decode M_Glacier_moveStakes.2.1 2 = .ok (.iload_n 3, 1) := by decide +kernel
theorem d_Glacier_moveStakes_3 : decode M_Glacier_moveStakes.2.1 3 = .ok (.aload_n 0, 1) := by decide +kernel
theorem d_Glacier_moveStakes_4 : decode M_Glacier_moveStakes.2.1 4 = .ok (.getfield 20, 3) := by decide +kernel
theorem d_Glacier_moveStakes_7 : decode M_Glacier_moveStakes.2.1 7 = .ok (.invokevirtual 68, 3) := by decide +kernel
theorem d_Glacier_moveStakes_10 : decode M_Glacier_moveStakes.2.1 10 = .ok (.if_icmp .ge 91, 3) := by decide +kernel
theorem d_Glacier_moveStakes_13 : decode M_Glacier_moveStakes.2.1 13 = .ok (.aload_n 0, 1) := by decide +kernel
theorem d_Glacier_moveStakes_14 : decode M_Glacier_moveStakes.2.1 14 = .ok (.getfield 20, 3) := by decide +kernel
theorem d_Glacier_moveStakes_17 : decode M_Glacier_moveStakes.2.1 17 = .ok (.iload_n 3, 1) := by decide +kernel
theorem d_Glacier_moveStakes_18 : decode M_Glacier_moveStakes.2.1 18 = .ok (.iconst 0, 1) := by decide +kernel
theorem d_Glacier_moveStakes_19 : decode M_Glacier_moveStakes.2.1 19 = .ok (.invokevirtual 75, 3) := by decide +kernel
theorem d_Glacier_moveStakes_22 : decode M_Glacier_moveStakes.2.1 22 = .ok (.iload_n 1, 1) := by decide +kernel
theorem d_Glacier_moveStakes_23 : decode M_Glacier_moveStakes.2.1 23 = .ok (.if_icmp .ne 72, 3) := by decide +kernel
theorem d_Glacier_moveStakes_26 : decode M_Glacier_moveStakes.2.1 26 = .ok (.aload_n 0, 1) := by decide +kernel
theorem d_Glacier_moveStakes_27 : decode M_Glacier_moveStakes.2.1 27 = .ok (.getfield 20, 3) := by decide +kernel
theorem d_Glacier_moveStakes_30 : decode M_Glacier_moveStakes.2.1 30 = .ok (.iload_n 3, 1) := by decide +kernel
theorem d_Glacier_moveStakes_31 : decode M_Glacier_moveStakes.2.1 31 = .ok (.iconst 3, 1) := by decide +kernel
theorem d_Glacier_moveStakes_32 : decode M_Glacier_moveStakes.2.1 32 = .ok (.invokevirtual 75, 3) := by decide +kernel
theorem d_Glacier_moveStakes_35 : decode M_Glacier_moveStakes.2.1 35 = .ok (.iconst 1, 1) := by decide +kernel
theorem d_Glacier_moveStakes_36 : decode M_Glacier_moveStakes.2.1 36 = .ok (.if_icmp .ne 59, 3) := by decide +kernel
theorem d_Glacier_moveStakes_39 : decode M_Glacier_moveStakes.2.1 39 = .ok (.iconst 0, 1) := by decide +kernel
theorem d_Glacier_moveStakes_40 : decode M_Glacier_moveStakes.2.1 40 = .ok (.aload_n 0, 1) := by decide +kernel
theorem d_Glacier_moveStakes_41 : decode M_Glacier_moveStakes.2.1 41 = .ok (.getfield 20, 3) := by decide +kernel
theorem d_Glacier_moveStakes_44 : decode M_Glacier_moveStakes.2.1 44 = .ok (.iload_n 3, 1) := by decide +kernel
theorem d_Glacier_moveStakes_45 : decode M_Glacier_moveStakes.2.1 45 = .ok (.iconst 2, 1) := by decide +kernel
theorem d_Glacier_moveStakes_46 : decode M_Glacier_moveStakes.2.1 46 = .ok (.invokevirtual 75, 3) := by decide +kernel
theorem d_Glacier_moveStakes_49 : decode M_Glacier_moveStakes.2.1 49 = .ok (.iload_n 2, 1) := by decide +kernel
theorem d_Glacier_moveStakes_50 : decode M_Glacier_moveStakes.2.1 50 = .ok (.iadd, 1) := by decide +kernel
theorem d_Glacier_moveStakes_51 : decode M_Glacier_moveStakes.2.1 51 = .ok (.invokestatic 136, 3) := by decide +kernel
theorem d_Glacier_moveStakes_54 : decode M_Glacier_moveStakes.2.1 54 = .ok (.istore 4, 2) := by decide +kernel
theorem d_Glacier_moveStakes_56 : decode M_Glacier_moveStakes.2.1 56 = .ok (.aload_n 0, 1) := by decide +kernel
theorem d_Glacier_moveStakes_57 : decode M_Glacier_moveStakes.2.1 57 = .ok (.getfield 20, 3) := by decide +kernel
theorem d_Glacier_moveStakes_60 : decode M_Glacier_moveStakes.2.1 60 = .ok (.iload_n 3, 1) := by decide +kernel
theorem d_Glacier_moveStakes_61 : decode M_Glacier_moveStakes.2.1 61 = .ok (.iconst 2, 1) := by decide +kernel
theorem d_Glacier_moveStakes_62 : decode M_Glacier_moveStakes.2.1 62 = .ok (.iload 4, 2) := by decide +kernel
theorem d_Glacier_moveStakes_64 : decode M_Glacier_moveStakes.2.1 64 = .ok (.invokevirtual 57, 3) := by decide +kernel
theorem d_Glacier_moveStakes_67 : decode M_Glacier_moveStakes.2.1 67 = .ok (.aload_n 0, 1) := by decide +kernel
theorem d_Glacier_moveStakes_68 : decode M_Glacier_moveStakes.2.1 68 = .ok (.getfield 20, 3) := by decide +kernel
theorem d_Glacier_moveStakes_71 : decode M_Glacier_moveStakes.2.1 71 = .ok (.iload_n 3, 1) := by decide +kernel
theorem d_Glacier_moveStakes_72 : decode M_Glacier_moveStakes.2.1 72 = .ok (.iconst 3, 1) := by decide +kernel
theorem d_Glacier_moveStakes_73 : decode M_Glacier_moveStakes.2.1 73 = .ok (.iload 4, 2) := by decide +kernel
theorem d_Glacier_moveStakes_75 : decode M_Glacier_moveStakes.2.1 75 = .ok (.aload_n 0, 1) := by decide +kernel
theorem d_Glacier_moveStakes_76 : decode M_Glacier_moveStakes.2.1 76 = .ok (.getfield 20, 3) := by decide +kernel
theorem d_Glacier_moveStakes_79 : decode M_Glacier_moveStakes.2.1 79 = .ok (.iload_n 3, 1) := by decide +kernel
theorem d_Glacier_moveStakes_80 : decode M_Glacier_moveStakes.2.1 80 = .ok (.iconst 1, 1) := by decide +kernel
theorem d_Glacier_moveStakes_81 : decode M_Glacier_moveStakes.2.1 81 = .ok (.invokevirtual 75, 3) := by decide +kernel
theorem d_Glacier_moveStakes_84 : decode M_Glacier_moveStakes.2.1 84 = .ok (.if_icmp .ge 7, 3) := by decide +kernel
theorem d_Glacier_moveStakes_87 : decode M_Glacier_moveStakes.2.1 87 = .ok (.iconst 1, 1) := by decide +kernel
theorem d_Glacier_moveStakes_88 : decode M_Glacier_moveStakes.2.1 88 = .ok (.goto 4, 3) := by decide +kernel
theorem d_Glacier_moveStakes_91 : decode M_Glacier_moveStakes.2.1 91 = .ok (.iconst 0, 1) := by decide +kernel
theorem d_Glacier_moveStakes_92 : decode M_Glacier_moveStakes.2.1 92 = .ok (.invokevirtual 57, 3) := by decide +kernel
theorem d_Glacier_moveStakes_95 : decode M_Glacier_moveStakes.2.1 95 = .ok (.iinc 3 1, 3) := by decide +kernel
theorem d_Glacier_moveStakes_98 : decode M_Glacier_moveStakes.2.1 98 = .ok (.goto (-96), 3) := by decide +kernel
def l_Glacier_moveStakes_2 (x1 : Int32) (x2 : Int32) : Nat → Nat → GL → GL
  | 0, _, σ => σ
  | k + 1, i, σ => (if (gG σ 1 (nI i) 0) = x1 then (if (gG σ 1 (nI i) 3) = 1 then (if (gG (gS σ 1 (nI i) 2 (iMax 0 ((gG σ 1 (nI i) 2) + x2))) 1 (nI i) 1) ≤ (iMax 0 ((gG σ 1 (nI i) 2) + x2)) then (l_Glacier_moveStakes_2 x1 x2 k (i + 1) (gS (gS σ 1 (nI i) 2 (iMax 0 ((gG σ 1 (nI i) 2) + x2))) 1 (nI i) 3 0)) else (l_Glacier_moveStakes_2 x1 x2 k (i + 1) (gS (gS σ 1 (nI i) 2 (iMax 0 ((gG σ 1 (nI i) 2) + x2))) 1 (nI i) 3 1))) else (l_Glacier_moveStakes_2 x1 x2 k (i + 1) σ)) else (l_Glacier_moveStakes_2 x1 x2 k (i + 1) σ))
set_option maxRecDepth 100000 in
set_option maxHeartbeats 4000000 in
theorem l_Glacier_moveStakes_2_go {Γ : G9} {h : AH} {g z n : Nat} {Q : QT} {X : XT} {x1 : Int32} {x2 : Int32} (hn20 : n ≤ 20) : ∀ (k i : Nat) (σ : GL), i + k = n → gN σ 1 = n → WFG σ → Go Γ M_Glacier_moveStakes 1 0 0 101 [some (.ref g), some (.int x1), some (.int x2), some (.int (nI (i + k))), none] [] (blk h g 12 (glC Γ g (l_Glacier_moveStakes_2 x1 x2 k i σ))) z Q X → Go Γ M_Glacier_moveStakes 1 0 0 2 [some (.ref g), some (.int x1), some (.int x2), some (.int (nI i)), none] [] (blk h g 12 (glC Γ g σ)) z Q X := by
  intro k
  induction k with
  | zero =>
    intro i σ hi hn hW hk
    refine Go.iload_3 d_Glacier_moveStakes_2 rfl ?_
    refine Go.aload_0 d_Glacier_moveStakes_3 rfl ?_
    refine Go.getfield d_Glacier_moveStakes_4 rfl f_Glacier_20 gl_obj (by rfl) ?_
    refine Go.cv0r d_Glacier_moveStakes_7 rfl l_Glacier_68 k_Table_rows_v (gl_tab (k := 1) (by decide)) rfl (cG_rows (k := 1) (by decide)) rfl rfl rfl ?_
    refine Go.icmp_ge (t := 101) d_Glacier_moveStakes_10 (by decide) rfl (fun c10_1 => ?_) (fun c10_1 => ?_)
    · exact hk
    · exact absurd (nI_le (by omega) (by omega)) c10_1
  | succ k ih =>
    intro i σ hi hn hW hk
    unfold l_Glacier_moveStakes_2 at hk
    rw [show i + (k + 1) = i + 1 + k by omega] at hk
    refine Go.iload_3 d_Glacier_moveStakes_2 rfl ?_
    refine Go.aload_0 d_Glacier_moveStakes_3 rfl ?_
    refine Go.getfield d_Glacier_moveStakes_4 rfl f_Glacier_20 gl_obj (by rfl) ?_
    refine Go.cv0r d_Glacier_moveStakes_7 rfl l_Glacier_68 k_Table_rows_v (gl_tab (k := 1) (by decide)) rfl (cG_rows (k := 1) (by decide)) rfl rfl rfl ?_
    refine Go.icmp_ge (t := 101) d_Glacier_moveStakes_10 (by decide) rfl (fun c10_1 => ?_) (fun c10_1 => ?_)
    · exact absurd c10_1 (nI_ge (by omega) (by omega))
    · refine Go.aload_0 d_Glacier_moveStakes_13 rfl ?_
      refine Go.getfield d_Glacier_moveStakes_14 rfl f_Glacier_20 gl_obj (by rfl) ?_
      refine Go.iload_3 d_Glacier_moveStakes_17 rfl ?_
      refine Go.iconst (v := 0) d_Glacier_moveStakes_18 rfl (by decide) ?_
      refine Go.cv2r d_Glacier_moveStakes_19 rfl l_Glacier_75 k_Table_get_v (gl_tab (k := 1) (by decide)) rfl (cG_get (k := 1) (by decide) (c := 0) rfl (by omega) hW) rfl rfl rfl ?_
      refine Go.iload_1 d_Glacier_moveStakes_22 rfl ?_
      refine Go.icmp_ne (t := 95) d_Glacier_moveStakes_23 (by decide) rfl (fun c23_2 => ?_) (fun c23_2 => ?_)
      · refine Go.iinc_3 d_Glacier_moveStakes_95 rfl (by rfl) (nI_inc _) ?_
        refine Go.goto (t := 2) d_Glacier_moveStakes_98 (by decide) ?_
        rw [if_neg c23_2] at hk
        exact ih (i + 1) _ (by omega) (by first | exact hn | (simp only [gN_gS, gN_gA, gN_gSW, gN_gSD, gN_gSC, gN_Glacier_changeWarmth, gN_Glacier_letFall, gN_l_Glacier_letCross_23, gN_Glacier_letCross, gN_Glacier_tryGo, gN_Glacier_tryProbe, gN_Glacier_takeFood, gN_Glacier_tryDrill]; exact hn)) hW hk
      · refine Go.aload_0 d_Glacier_moveStakes_26 rfl ?_
        refine Go.getfield d_Glacier_moveStakes_27 rfl f_Glacier_20 gl_obj (by rfl) ?_
        refine Go.iload_3 d_Glacier_moveStakes_30 rfl ?_
        refine Go.iconst (v := 3) d_Glacier_moveStakes_31 rfl (by decide) ?_
        refine Go.cv2r d_Glacier_moveStakes_32 rfl l_Glacier_75 k_Table_get_v (gl_tab (k := 1) (by decide)) rfl (cG_get (k := 1) (by decide) (c := 3) rfl (by omega) hW) rfl rfl rfl ?_
        refine Go.iconst (v := 1) d_Glacier_moveStakes_35 rfl (by decide) ?_
        refine Go.icmp_ne (t := 95) d_Glacier_moveStakes_36 (by decide) rfl (fun c36_3 => ?_) (fun c36_3 => ?_)
        · refine Go.iinc_3 d_Glacier_moveStakes_95 rfl (by rfl) (nI_inc _) ?_
          refine Go.goto (t := 2) d_Glacier_moveStakes_98 (by decide) ?_
          rw [if_pos c23_2, if_neg c36_3] at hk
          exact ih (i + 1) _ (by omega) (by first | exact hn | (simp only [gN_gS, gN_gA, gN_gSW, gN_gSD, gN_gSC, gN_Glacier_changeWarmth, gN_Glacier_letFall, gN_l_Glacier_letCross_23, gN_Glacier_letCross, gN_Glacier_tryGo, gN_Glacier_tryProbe, gN_Glacier_takeFood, gN_Glacier_tryDrill]; exact hn)) hW hk
        · refine Go.iconst (v := 0) d_Glacier_moveStakes_39 rfl (by decide) ?_
          refine Go.aload_0 d_Glacier_moveStakes_40 rfl ?_
          refine Go.getfield d_Glacier_moveStakes_41 rfl f_Glacier_20 gl_obj (by rfl) ?_
          refine Go.iload_3 d_Glacier_moveStakes_44 rfl ?_
          refine Go.iconst (v := 2) d_Glacier_moveStakes_45 rfl (by decide) ?_
          refine Go.cv2r d_Glacier_moveStakes_46 rfl l_Glacier_75 k_Table_get_v (gl_tab (k := 1) (by decide)) rfl (cG_get (k := 1) (by decide) (c := 2) rfl (by omega) hW) rfl rfl rfl ?_
          refine Go.iload_2 d_Glacier_moveStakes_49 rfl ?_
          refine Go.iadd d_Glacier_moveStakes_50 rfl ?_
          refine Go.imax d_Glacier_moveStakes_51 rfl l_Glacier_136 (by decide) rfl ?_
          refine Go.istore_4 d_Glacier_moveStakes_54 rfl (by rfl) ?_
          refine Go.aload_0 d_Glacier_moveStakes_56 rfl ?_
          refine Go.getfield d_Glacier_moveStakes_57 rfl f_Glacier_20 gl_obj (by rfl) ?_
          refine Go.iload_3 d_Glacier_moveStakes_60 rfl ?_
          refine Go.iconst (v := 2) d_Glacier_moveStakes_61 rfl (by decide) ?_
          refine Go.iload_4 d_Glacier_moveStakes_62 rfl ?_
          refine Go.cv3v d_Glacier_moveStakes_64 rfl l_Glacier_57 k_Table_set_v (gl_tab (k := 1) (by decide)) rfl (cG_set (k := 1) (by decide) (c := 2) rfl (by omega) hW) rfl rfl rfl ?_
          refine Go.aload_0 d_Glacier_moveStakes_67 rfl ?_
          refine Go.getfield d_Glacier_moveStakes_68 rfl f_Glacier_20 gl_obj (by rfl) ?_
          refine Go.iload_3 d_Glacier_moveStakes_71 rfl ?_
          refine Go.iconst (v := 3) d_Glacier_moveStakes_72 rfl (by decide) ?_
          refine Go.iload_4 d_Glacier_moveStakes_73 rfl ?_
          refine Go.aload_0 d_Glacier_moveStakes_75 rfl ?_
          refine Go.getfield d_Glacier_moveStakes_76 rfl f_Glacier_20 gl_obj (by rfl) ?_
          refine Go.iload_3 d_Glacier_moveStakes_79 rfl ?_
          refine Go.iconst (v := 1) d_Glacier_moveStakes_80 rfl (by decide) ?_
          refine Go.cv2r d_Glacier_moveStakes_81 rfl l_Glacier_75 k_Table_get_v (gl_tab (k := 1) (by decide)) rfl (cG_get (k := 1) (by decide) (c := 1) rfl (by omega) (hW.of fun j => by simp only [gN_gS, gN_gA, gN_gSW, gN_gSD, gN_gSC, gN_Glacier_changeWarmth, gN_Glacier_letFall, gN_l_Glacier_letCross_23, gN_Glacier_letCross, gN_Glacier_tryGo, gN_Glacier_tryProbe, gN_Glacier_takeFood, gN_Glacier_tryDrill])) rfl rfl rfl ?_
          refine Go.icmp_ge (t := 91) d_Glacier_moveStakes_84 (by decide) rfl (fun c84_4 => ?_) (fun c84_4 => ?_)
          · refine Go.iconst (v := 0) d_Glacier_moveStakes_91 rfl (by decide) ?_
            refine Go.cv3v d_Glacier_moveStakes_92 rfl l_Glacier_57 k_Table_set_v (gl_tab (k := 1) (by decide)) rfl (cG_set (k := 1) (by decide) (c := 3) rfl (by omega) (hW.of fun j => by simp only [gN_gS, gN_gA, gN_gSW, gN_gSD, gN_gSC, gN_Glacier_changeWarmth, gN_Glacier_letFall, gN_l_Glacier_letCross_23, gN_Glacier_letCross, gN_Glacier_tryGo, gN_Glacier_tryProbe, gN_Glacier_takeFood, gN_Glacier_tryDrill])) rfl rfl rfl ?_
            refine Go.iinc_3 d_Glacier_moveStakes_95 rfl (by rfl) (nI_inc _) ?_
            refine Go.goto (t := 2) d_Glacier_moveStakes_98 (by decide) ?_
            rw [if_pos c23_2, if_pos c36_3, if_pos c84_4] at hk
            refine Go.fgt [some (.ref g), some (.int x1), some (.int x2), some (.int (nI (i + 1))), none] (by repeat' (first | exact trivial | refine ⟨rfl, ?_⟩)) ?_
            exact ih (i + 1) _ (by omega) (by first | exact hn | (simp only [gN_gS, gN_gA, gN_gSW, gN_gSD, gN_gSC, gN_Glacier_changeWarmth, gN_Glacier_letFall, gN_l_Glacier_letCross_23, gN_Glacier_letCross, gN_Glacier_tryGo, gN_Glacier_tryProbe, gN_Glacier_takeFood, gN_Glacier_tryDrill]; exact hn)) (hW.of fun j => by simp only [gN_gS, gN_gA, gN_gSW, gN_gSD, gN_gSC, gN_Glacier_changeWarmth, gN_Glacier_letFall, gN_l_Glacier_letCross_23, gN_Glacier_letCross, gN_Glacier_tryGo, gN_Glacier_tryProbe, gN_Glacier_takeFood, gN_Glacier_tryDrill]) hk
          · refine Go.iconst (v := 1) d_Glacier_moveStakes_87 rfl (by decide) ?_
            refine Go.goto (t := 92) d_Glacier_moveStakes_88 (by decide) ?_
            refine Go.cv3v d_Glacier_moveStakes_92 rfl l_Glacier_57 k_Table_set_v (gl_tab (k := 1) (by decide)) rfl (cG_set (k := 1) (by decide) (c := 3) rfl (by omega) (hW.of fun j => by simp only [gN_gS, gN_gA, gN_gSW, gN_gSD, gN_gSC, gN_Glacier_changeWarmth, gN_Glacier_letFall, gN_l_Glacier_letCross_23, gN_Glacier_letCross, gN_Glacier_tryGo, gN_Glacier_tryProbe, gN_Glacier_takeFood, gN_Glacier_tryDrill])) rfl rfl rfl ?_
            refine Go.iinc_3 d_Glacier_moveStakes_95 rfl (by rfl) (nI_inc _) ?_
            refine Go.goto (t := 2) d_Glacier_moveStakes_98 (by decide) ?_
            rw [if_pos c23_2, if_pos c36_3, if_neg c84_4] at hk
            refine Go.fgt [some (.ref g), some (.int x1), some (.int x2), some (.int (nI (i + 1))), none] (by repeat' (first | exact trivial | refine ⟨rfl, ?_⟩)) ?_
            exact ih (i + 1) _ (by omega) (by first | exact hn | (simp only [gN_gS, gN_gA, gN_gSW, gN_gSD, gN_gSC, gN_Glacier_changeWarmth, gN_Glacier_letFall, gN_l_Glacier_letCross_23, gN_Glacier_letCross, gN_Glacier_tryGo, gN_Glacier_tryProbe, gN_Glacier_takeFood, gN_Glacier_tryDrill]; exact hn)) (hW.of fun j => by simp only [gN_gS, gN_gA, gN_gSW, gN_gSD, gN_gSC, gN_Glacier_changeWarmth, gN_Glacier_letFall, gN_l_Glacier_letCross_23, gN_Glacier_letCross, gN_Glacier_tryGo, gN_Glacier_tryProbe, gN_Glacier_takeFood, gN_Glacier_tryDrill]) hk
set_option maxRecDepth 100000 in
set_option maxHeartbeats 4000000 in
theorem gN_l_Glacier_moveStakes_2 {x1 : Int32} {x2 : Int32} (j : Nat) : ∀ (k i : Nat) (σ : GL), gN (l_Glacier_moveStakes_2 x1 x2 k i σ) j = gN σ j := by
  intro k
  induction k with
  | zero => intros; rfl
  | succ k ih =>
    intros
    unfold l_Glacier_moveStakes_2
    (repeat' split) <;> simp only [gN_gS, gN_gA, gN_gSW, gN_gSD, gN_gSC, gN_Glacier_changeWarmth, gN_Glacier_letFall, gN_l_Glacier_letCross_23, gN_Glacier_letCross, gN_Glacier_tryGo, gN_Glacier_tryProbe, gN_Glacier_takeFood, gN_Glacier_tryDrill, ih]
theorem d_Glacier_moveStakes_0 : decode M_Glacier_moveStakes.2.1 0 = .ok (.iconst 0, 1) := by decide +kernel
theorem d_Glacier_moveStakes_1 : decode M_Glacier_moveStakes.2.1 1 = .ok (.istore_n 3, 1) := by decide +kernel
theorem d_Glacier_moveStakes_101 : decode M_Glacier_moveStakes.2.1 101 = .ok (.return_, 1) := by decide +kernel
def s_Glacier_moveStakes (σ : GL) (x1 : Int32) (x2 : Int32) : GL := (l_Glacier_moveStakes_2 x1 x2 (gN σ 1) 0 σ)
set_option maxRecDepth 100000 in
set_option maxHeartbeats 4000000 in
theorem c_Glacier_moveStakes {Γ : G9} {h : AH} {g z : Nat} {σ : GL} {x1 : Int32} {x2 : Int32} (hW : WFG σ) : CallR Γ M_Glacier_moveStakes 1 [.ref g, .int x1, .int x2] (blk h g 12 (glC Γ g σ)) z none (blk h g 12 (glC Γ g (s_Glacier_moveStakes σ x1 x2))) := by
  refine Call.of_go (L := [some (.ref g), some (.int x1), some (.int x2), none, none]) (by decide +kernel) rfl (by exact Nat.le_of_ble_eq_true rfl) ?_
  unfold s_Glacier_moveStakes
  refine Go.iconst (v := 0) d_Glacier_moveStakes_0 rfl (by decide) ?_
  refine Go.istore_3 d_Glacier_moveStakes_1 rfl (by rfl) ?_
  refine l_Glacier_moveStakes_2_go (n := (gN σ 1)) (by have := WFG.le (σ := σ) hW (k := 1) (by decide); omega) (gN σ 1) 0 σ (by omega) rfl hW ?_
  exact Go.vret d_Glacier_moveStakes_101 rfl ⟨rfl, rfl, rfl⟩
set_option maxRecDepth 100000 in
set_option maxHeartbeats 4000000 in
theorem gN_Glacier_moveStakes {σ : GL} {x1 : Int32} {x2 : Int32} (j : Nat) : gN (s_Glacier_moveStakes σ x1 x2) j = gN σ j := by
  unfold s_Glacier_moveStakes
  (repeat' split) <;> simp only [gN_gS, gN_gA, gN_gSW, gN_gSD, gN_gSC, gN_Glacier_changeWarmth, gN_Glacier_letFall, gN_l_Glacier_letCross_23, gN_Glacier_letCross, gN_Glacier_tryGo, gN_Glacier_tryProbe, gN_Glacier_takeFood, gN_Glacier_tryDrill, gN_l_Glacier_moveStakes_2]
theorem d_Glacier_moveBridges_2 : decode M_Glacier_moveBridges.2.1 2 = .ok (.iload_n 3, 1) := by decide +kernel
theorem d_Glacier_moveBridges_3 : decode M_Glacier_moveBridges.2.1 3 = .ok (.aload_n 0, 1) := by decide +kernel
theorem d_Glacier_moveBridges_4 : decode M_Glacier_moveBridges.2.1 4 = .ok (.getfield 23, 3) := by decide +kernel
theorem d_Glacier_moveBridges_7 : decode M_Glacier_moveBridges.2.1 7 = .ok (.invokevirtual 68, 3) := by decide +kernel
theorem d_Glacier_moveBridges_10 : decode M_Glacier_moveBridges.2.1 10 = .ok (.if_icmp .ge 55, 3) := by decide +kernel
theorem d_Glacier_moveBridges_13 : decode M_Glacier_moveBridges.2.1 13 = .ok (.aload_n 0, 1) := by decide +kernel
theorem d_Glacier_moveBridges_14 : decode M_Glacier_moveBridges.2.1 14 = .ok (.getfield 23, 3) := by decide +kernel
theorem d_Glacier_moveBridges_17 : decode M_Glacier_moveBridges.2.1 17 = .ok (.iload_n 3, 1) := by decide +kernel
theorem d_Glacier_moveBridges_18 : decode M_Glacier_moveBridges.2.1 18 = .ok (.iconst 0, 1) := by decide +kernel
theorem d_Glacier_moveBridges_19 : decode M_Glacier_moveBridges.2.1 19 = .ok (.invokevirtual 75, 3) := by decide +kernel
theorem d_Glacier_moveBridges_22 : decode M_Glacier_moveBridges.2.1 22 = .ok (.iload_n 1, 1) := by decide +kernel
theorem d_Glacier_moveBridges_23 : decode M_Glacier_moveBridges.2.1 23 = .ok (.if_icmp .ne 36, 3) := by decide +kernel
theorem d_Glacier_moveBridges_26 : decode M_Glacier_moveBridges.2.1 26 = .ok (.aload_n 0, 1) := by decide +kernel
theorem d_Glacier_moveBridges_27 : decode M_Glacier_moveBridges.2.1 27 = .ok (.getfield 23, 3) := by decide +kernel
theorem d_Glacier_moveBridges_30 : decode M_Glacier_moveBridges.2.1 30 = .ok (.iload_n 3, 1) := by decide +kernel
theorem d_Glacier_moveBridges_31 : decode M_Glacier_moveBridges.2.1 31 = .ok (.iconst 1, 1) := by decide +kernel
theorem d_Glacier_moveBridges_32 : decode M_Glacier_moveBridges.2.1 32 = .ok (.invokevirtual 75, 3) := by decide +kernel
theorem d_Glacier_moveBridges_35 : decode M_Glacier_moveBridges.2.1 35 = .ok (.iload_n 2, 1) := by decide +kernel
theorem d_Glacier_moveBridges_36 : decode M_Glacier_moveBridges.2.1 36 = .ok (.iadd, 1) := by decide +kernel
theorem d_Glacier_moveBridges_37 : decode M_Glacier_moveBridges.2.1 37 = .ok (.istore 4, 2) := by decide +kernel
theorem d_Glacier_moveBridges_39 : decode M_Glacier_moveBridges.2.1 39 = .ok (.aload_n 0, 1) := by decide +kernel
theorem d_Glacier_moveBridges_40 : decode M_Glacier_moveBridges.2.1 40 = .ok (.getfield 23, 3) := by decide +kernel
theorem d_Glacier_moveBridges_43 : decode M_Glacier_moveBridges.2.1 43 = .ok (.iload_n 3, 1) := by decide +kernel
theorem d_Glacier_moveBridges_44 : decode M_Glacier_moveBridges.2.1 44 = .ok (.iconst 1, 1) := by decide +kernel
theorem d_Glacier_moveBridges_45 : decode M_Glacier_moveBridges.2.1 45 = .ok (.iconst 0, 1) := by decide +kernel
theorem d_Glacier_moveBridges_46 : decode M_Glacier_moveBridges.2.1 46 = .ok (.iload 4, 2) := by decide +kernel
theorem d_Glacier_moveBridges_48 : decode M_Glacier_moveBridges.2.1 48 = .ok (.bipush 99, 2) := by decide +kernel
theorem d_Glacier_moveBridges_50 : decode M_Glacier_moveBridges.2.1 50 = .ok (.invokestatic 79, 3) := by decide +kernel
theorem d_Glacier_moveBridges_53 : decode M_Glacier_moveBridges.2.1 53 = .ok (.invokestatic 136, 3) := by decide +kernel
theorem d_Glacier_moveBridges_56 : decode M_Glacier_moveBridges.2.1 56 = .ok (.invokevirtual 57, 3) := by decide +kernel
theorem d_Glacier_moveBridges_59 : decode M_Glacier_moveBridges.2.1 59 = .ok (.iinc 3 1, 3) := by decide +kernel
theorem d_Glacier_moveBridges_62 : decode M_Glacier_moveBridges.2.1 62 = .ok (.goto (-60), 3) := by decide +kernel
def l_Glacier_moveBridges_2 (x1 : Int32) (x2 : Int32) : Nat → Nat → GL → GL
  | 0, _, σ => σ
  | k + 1, i, σ => (if (gG σ 2 (nI i) 0) = x1 then (l_Glacier_moveBridges_2 x1 x2 k (i + 1) (gS σ 2 (nI i) 1 (iMax 0 (iMin ((gG σ 2 (nI i) 1) + x2) 99)))) else (l_Glacier_moveBridges_2 x1 x2 k (i + 1) σ))
set_option maxRecDepth 100000 in
set_option maxHeartbeats 4000000 in
theorem l_Glacier_moveBridges_2_go {Γ : G9} {h : AH} {g z n : Nat} {Q : QT} {X : XT} {x1 : Int32} {x2 : Int32} (hn20 : n ≤ 20) : ∀ (k i : Nat) (σ : GL), i + k = n → gN σ 2 = n → WFG σ → Go Γ M_Glacier_moveBridges 1 0 0 65 [some (.ref g), some (.int x1), some (.int x2), some (.int (nI (i + k))), none] [] (blk h g 12 (glC Γ g (l_Glacier_moveBridges_2 x1 x2 k i σ))) z Q X → Go Γ M_Glacier_moveBridges 1 0 0 2 [some (.ref g), some (.int x1), some (.int x2), some (.int (nI i)), none] [] (blk h g 12 (glC Γ g σ)) z Q X := by
  intro k
  induction k with
  | zero =>
    intro i σ hi hn hW hk
    refine Go.iload_3 d_Glacier_moveBridges_2 rfl ?_
    refine Go.aload_0 d_Glacier_moveBridges_3 rfl ?_
    refine Go.getfield d_Glacier_moveBridges_4 rfl f_Glacier_23 gl_obj (by rfl) ?_
    refine Go.cv0r d_Glacier_moveBridges_7 rfl l_Glacier_68 k_Table_rows_v (gl_tab (k := 2) (by decide)) rfl (cG_rows (k := 2) (by decide)) rfl rfl rfl ?_
    refine Go.icmp_ge (t := 65) d_Glacier_moveBridges_10 (by decide) rfl (fun c10_1 => ?_) (fun c10_1 => ?_)
    · exact hk
    · exact absurd (nI_le (by omega) (by omega)) c10_1
  | succ k ih =>
    intro i σ hi hn hW hk
    unfold l_Glacier_moveBridges_2 at hk
    rw [show i + (k + 1) = i + 1 + k by omega] at hk
    refine Go.iload_3 d_Glacier_moveBridges_2 rfl ?_
    refine Go.aload_0 d_Glacier_moveBridges_3 rfl ?_
    refine Go.getfield d_Glacier_moveBridges_4 rfl f_Glacier_23 gl_obj (by rfl) ?_
    refine Go.cv0r d_Glacier_moveBridges_7 rfl l_Glacier_68 k_Table_rows_v (gl_tab (k := 2) (by decide)) rfl (cG_rows (k := 2) (by decide)) rfl rfl rfl ?_
    refine Go.icmp_ge (t := 65) d_Glacier_moveBridges_10 (by decide) rfl (fun c10_1 => ?_) (fun c10_1 => ?_)
    · exact absurd c10_1 (nI_ge (by omega) (by omega))
    · refine Go.aload_0 d_Glacier_moveBridges_13 rfl ?_
      refine Go.getfield d_Glacier_moveBridges_14 rfl f_Glacier_23 gl_obj (by rfl) ?_
      refine Go.iload_3 d_Glacier_moveBridges_17 rfl ?_
      refine Go.iconst (v := 0) d_Glacier_moveBridges_18 rfl (by decide) ?_
      refine Go.cv2r d_Glacier_moveBridges_19 rfl l_Glacier_75 k_Table_get_v (gl_tab (k := 2) (by decide)) rfl (cG_get (k := 2) (by decide) (c := 0) rfl (by omega) hW) rfl rfl rfl ?_
      refine Go.iload_1 d_Glacier_moveBridges_22 rfl ?_
      refine Go.icmp_ne (t := 59) d_Glacier_moveBridges_23 (by decide) rfl (fun c23_2 => ?_) (fun c23_2 => ?_)
      · refine Go.iinc_3 d_Glacier_moveBridges_59 rfl (by rfl) (nI_inc _) ?_
        refine Go.goto (t := 2) d_Glacier_moveBridges_62 (by decide) ?_
        rw [if_neg c23_2] at hk
        exact ih (i + 1) _ (by omega) (by first | exact hn | (simp only [gN_gS, gN_gA, gN_gSW, gN_gSD, gN_gSC, gN_Glacier_changeWarmth, gN_Glacier_letFall, gN_l_Glacier_letCross_23, gN_Glacier_letCross, gN_Glacier_tryGo, gN_Glacier_tryProbe, gN_Glacier_takeFood, gN_Glacier_tryDrill, gN_l_Glacier_moveStakes_2, gN_Glacier_moveStakes]; exact hn)) hW hk
      · refine Go.aload_0 d_Glacier_moveBridges_26 rfl ?_
        refine Go.getfield d_Glacier_moveBridges_27 rfl f_Glacier_23 gl_obj (by rfl) ?_
        refine Go.iload_3 d_Glacier_moveBridges_30 rfl ?_
        refine Go.iconst (v := 1) d_Glacier_moveBridges_31 rfl (by decide) ?_
        refine Go.cv2r d_Glacier_moveBridges_32 rfl l_Glacier_75 k_Table_get_v (gl_tab (k := 2) (by decide)) rfl (cG_get (k := 2) (by decide) (c := 1) rfl (by omega) hW) rfl rfl rfl ?_
        refine Go.iload_2 d_Glacier_moveBridges_35 rfl ?_
        refine Go.iadd d_Glacier_moveBridges_36 rfl ?_
        refine Go.istore_4 d_Glacier_moveBridges_37 rfl (by rfl) ?_
        refine Go.aload_0 d_Glacier_moveBridges_39 rfl ?_
        refine Go.getfield d_Glacier_moveBridges_40 rfl f_Glacier_23 gl_obj (by rfl) ?_
        refine Go.iload_3 d_Glacier_moveBridges_43 rfl ?_
        refine Go.iconst (v := 1) d_Glacier_moveBridges_44 rfl (by decide) ?_
        refine Go.iconst (v := 0) d_Glacier_moveBridges_45 rfl (by decide) ?_
        refine Go.iload_4 d_Glacier_moveBridges_46 rfl ?_
        refine Go.bipush (v := 99) d_Glacier_moveBridges_48 rfl (by decide) ?_
        refine Go.imin d_Glacier_moveBridges_50 rfl l_Glacier_79 (by decide) rfl ?_
        refine Go.imax d_Glacier_moveBridges_53 rfl l_Glacier_136 (by decide) rfl ?_
        refine Go.cv3v d_Glacier_moveBridges_56 rfl l_Glacier_57 k_Table_set_v (gl_tab (k := 2) (by decide)) rfl (cG_set (k := 2) (by decide) (c := 1) rfl (by omega) hW) rfl rfl rfl ?_
        refine Go.iinc_3 d_Glacier_moveBridges_59 rfl (by rfl) (nI_inc _) ?_
        refine Go.goto (t := 2) d_Glacier_moveBridges_62 (by decide) ?_
        rw [if_pos c23_2] at hk
        refine Go.fgt [some (.ref g), some (.int x1), some (.int x2), some (.int (nI (i + 1))), none] (by repeat' (first | exact trivial | refine ⟨rfl, ?_⟩)) ?_
        exact ih (i + 1) _ (by omega) (by first | exact hn | (simp only [gN_gS, gN_gA, gN_gSW, gN_gSD, gN_gSC, gN_Glacier_changeWarmth, gN_Glacier_letFall, gN_l_Glacier_letCross_23, gN_Glacier_letCross, gN_Glacier_tryGo, gN_Glacier_tryProbe, gN_Glacier_takeFood, gN_Glacier_tryDrill, gN_l_Glacier_moveStakes_2, gN_Glacier_moveStakes]; exact hn)) (hW.of fun j => by simp only [gN_gS, gN_gA, gN_gSW, gN_gSD, gN_gSC, gN_Glacier_changeWarmth, gN_Glacier_letFall, gN_l_Glacier_letCross_23, gN_Glacier_letCross, gN_Glacier_tryGo, gN_Glacier_tryProbe, gN_Glacier_takeFood, gN_Glacier_tryDrill, gN_l_Glacier_moveStakes_2, gN_Glacier_moveStakes]) hk
set_option maxRecDepth 100000 in
set_option maxHeartbeats 4000000 in
theorem gN_l_Glacier_moveBridges_2 {x1 : Int32} {x2 : Int32} (j : Nat) : ∀ (k i : Nat) (σ : GL), gN (l_Glacier_moveBridges_2 x1 x2 k i σ) j = gN σ j := by
  intro k
  induction k with
  | zero => intros; rfl
  | succ k ih =>
    intros
    unfold l_Glacier_moveBridges_2
    (repeat' split) <;> simp only [gN_gS, gN_gA, gN_gSW, gN_gSD, gN_gSC, gN_Glacier_changeWarmth, gN_Glacier_letFall, gN_l_Glacier_letCross_23, gN_Glacier_letCross, gN_Glacier_tryGo, gN_Glacier_tryProbe, gN_Glacier_takeFood, gN_Glacier_tryDrill, gN_l_Glacier_moveStakes_2, gN_Glacier_moveStakes, ih]
theorem d_Glacier_moveBridges_0 : decode M_Glacier_moveBridges.2.1 0 = .ok (.iconst 0, 1) := by decide +kernel
theorem d_Glacier_moveBridges_1 : decode M_Glacier_moveBridges.2.1 1 = .ok (.istore_n 3, 1) := by decide +kernel
theorem d_Glacier_moveBridges_65 : decode M_Glacier_moveBridges.2.1 65 = .ok (.return_, 1) := by decide +kernel
def s_Glacier_moveBridges (σ : GL) (x1 : Int32) (x2 : Int32) : GL := (l_Glacier_moveBridges_2 x1 x2 (gN σ 2) 0 σ)
set_option maxRecDepth 100000 in
set_option maxHeartbeats 4000000 in
theorem c_Glacier_moveBridges {Γ : G9} {h : AH} {g z : Nat} {σ : GL} {x1 : Int32} {x2 : Int32} (hW : WFG σ) : CallR Γ M_Glacier_moveBridges 1 [.ref g, .int x1, .int x2] (blk h g 12 (glC Γ g σ)) z none (blk h g 12 (glC Γ g (s_Glacier_moveBridges σ x1 x2))) := by
  refine Call.of_go (L := [some (.ref g), some (.int x1), some (.int x2), none, none]) (by decide +kernel) rfl (by exact Nat.le_of_ble_eq_true rfl) ?_
  unfold s_Glacier_moveBridges
  refine Go.iconst (v := 0) d_Glacier_moveBridges_0 rfl (by decide) ?_
  refine Go.istore_3 d_Glacier_moveBridges_1 rfl (by rfl) ?_
  refine l_Glacier_moveBridges_2_go (n := (gN σ 2)) (by have := WFG.le (σ := σ) hW (k := 2) (by decide); omega) (gN σ 2) 0 σ (by omega) rfl hW ?_
  exact Go.vret d_Glacier_moveBridges_65 rfl ⟨rfl, rfl, rfl⟩
set_option maxRecDepth 100000 in
set_option maxHeartbeats 4000000 in
theorem gN_Glacier_moveBridges {σ : GL} {x1 : Int32} {x2 : Int32} (j : Nat) : gN (s_Glacier_moveBridges σ x1 x2) j = gN σ j := by
  unfold s_Glacier_moveBridges
  (repeat' split) <;> simp only [gN_gS, gN_gA, gN_gSW, gN_gSD, gN_gSC, gN_Glacier_changeWarmth, gN_Glacier_letFall, gN_l_Glacier_letCross_23, gN_Glacier_letCross, gN_Glacier_tryGo, gN_Glacier_tryProbe, gN_Glacier_takeFood, gN_Glacier_tryDrill, gN_l_Glacier_moveStakes_2, gN_Glacier_moveStakes, gN_l_Glacier_moveBridges_2]
theorem d_Glacier_weather_0 : decode M_Glacier_weather.2.1 0 = .ok (.aload_n 0, 1) := by decide +kernel
theorem d_Glacier_weather_1 : decode M_Glacier_weather.2.1 1 = .ok (.invokevirtual 94, 3) := by decide +kernel
theorem d_Glacier_weather_4 : decode M_Glacier_weather.2.1 4 = .ok (.aload_n 0, 1) := by decide +kernel
theorem d_Glacier_weather_5 : decode M_Glacier_weather.2.1 5 = .ok (.getfield 14, 3) := by decide +kernel
theorem d_Glacier_weather_8 : decode M_Glacier_weather.2.1 8 = .ok (.iload_n 1, 1) := by decide +kernel
theorem d_Glacier_weather_9 : decode M_Glacier_weather.2.1 9 = .ok (.iconst 0, 1) := by decide +kernel
theorem d_Glacier_weather_10 : decode M_Glacier_weather.2.1 10 = .ok (.invokevirtual 75, 3) := by decide +kernel
theorem d_Glacier_weather_13 : decode M_Glacier_weather.2.1 13 = .ok (.isub, 1) := by decide +kernel
theorem d_Glacier_weather_14 : decode M_Glacier_weather.2.1 14 = .ok (.istore_n 2, 1) := by decide +kernel
theorem d_Glacier_weather_15 : decode M_Glacier_weather.2.1 15 = .ok (.aload_n 0, 1) := by decide +kernel
theorem d_Glacier_weather_16 : decode M_Glacier_weather.2.1 16 = .ok (.getfield 14, 3) := by decide +kernel
theorem d_Glacier_weather_19 : decode M_Glacier_weather.2.1 19 = .ok (.iload_n 1, 1) := by decide +kernel
theorem d_Glacier_weather_20 : decode M_Glacier_weather.2.1 20 = .ok (.iconst 1, 1) := by decide +kernel
theorem d_Glacier_weather_21 : decode M_Glacier_weather.2.1 21 = .ok (.invokevirtual 75, 3) := by decide +kernel
theorem d_Glacier_weather_24 : decode M_Glacier_weather.2.1 24 = .ok (.istore_n 3, 1) := by decide +kernel
theorem d_Glacier_weather_25 : decode M_Glacier_weather.2.1 25 = .ok (.iload_n 2, 1) := by decide +kernel
theorem d_Glacier_weather_26 : decode M_Glacier_weather.2.1 26 = .ok (.ifCond .le 59, 3) := by decide +kernel
theorem d_Glacier_weather_29 : decode M_Glacier_weather.2.1 29 = .ok (.iconst 3, 1) := by decide +kernel
theorem d_Glacier_weather_30 : decode M_Glacier_weather.2.1 30 = .ok (.iload_n 2, 1) := by decide +kernel
theorem d_Glacier_weather_31 : decode M_Glacier_weather.2.1 31 = .ok (.imul, 1) := by decide +kernel
theorem d_Glacier_weather_32 : decode M_Glacier_weather.2.1 32 = .ok (.istore 4, 2) := by decide +kernel
theorem d_Glacier_weather_34 : decode M_Glacier_weather.2.1 34 = .ok (.iload_n 3, 1) := by decide +kernel
theorem d_Glacier_weather_35 : decode M_Glacier_weather.2.1 35 = .ok (.iload 4, 2) := by decide +kernel
theorem d_Glacier_weather_37 : decode M_Glacier_weather.2.1 37 = .ok (.invokestatic 79, 3) := by decide +kernel
theorem d_Glacier_weather_40 : decode M_Glacier_weather.2.1 40 = .ok (.istore 5, 2) := by decide +kernel
theorem d_Glacier_weather_42 : decode M_Glacier_weather.2.1 42 = .ok (.aload_n 0, 1) := by decide +kernel
theorem d_Glacier_weather_43 : decode M_Glacier_weather.2.1 43 = .ok (.getfield 14, 3) := by decide +kernel
theorem d_Glacier_weather_46 : decode M_Glacier_weather.2.1 46 = .ok (.iload_n 1, 1) := by decide +kernel
theorem d_Glacier_weather_47 : decode M_Glacier_weather.2.1 47 = .ok (.iconst 1, 1) := by decide +kernel
theorem d_Glacier_weather_48 : decode M_Glacier_weather.2.1 48 = .ok (.iload 5, 2) := by decide +kernel
theorem d_Glacier_weather_50 : decode M_Glacier_weather.2.1 50 = .ok (.ineg, 1) := by decide +kernel
theorem d_Glacier_weather_51 : decode M_Glacier_weather.2.1 51 = .ok (.invokevirtual 127, 3) := by decide +kernel
theorem d_Glacier_weather_54 : decode M_Glacier_weather.2.1 54 = .ok (.aload_n 0, 1) := by decide +kernel
theorem d_Glacier_weather_55 : decode M_Glacier_weather.2.1 55 = .ok (.getfield 14, 3) := by decide +kernel
theorem d_Glacier_weather_58 : decode M_Glacier_weather.2.1 58 = .ok (.iload_n 1, 1) := by decide +kernel
theorem d_Glacier_weather_59 : decode M_Glacier_weather.2.1 59 = .ok (.iconst 2, 1) := by decide +kernel
theorem d_Glacier_weather_60 : decode M_Glacier_weather.2.1 60 = .ok (.iload 4, 2) := by decide +kernel
theorem d_Glacier_weather_62 : decode M_Glacier_weather.2.1 62 = .ok (.iload 5, 2) := by decide +kernel
theorem d_Glacier_weather_64 : decode M_Glacier_weather.2.1 64 = .ok (.isub, 1) := by decide +kernel
theorem d_Glacier_weather_65 : decode M_Glacier_weather.2.1 65 = .ok (.invokevirtual 127, 3) := by decide +kernel
theorem d_Glacier_weather_68 : decode M_Glacier_weather.2.1 68 = .ok (.aload_n 0, 1) := by decide +kernel
theorem d_Glacier_weather_69 : decode M_Glacier_weather.2.1 69 = .ok (.iload_n 1, 1) := by decide +kernel
theorem d_Glacier_weather_70 : decode M_Glacier_weather.2.1 70 = .ok (.iload 4, 2) := by decide +kernel
theorem d_Glacier_weather_72 : decode M_Glacier_weather.2.1 72 = .ok (.invokevirtual 160, 3) := by decide +kernel
theorem d_Glacier_weather_75 : decode M_Glacier_weather.2.1 75 = .ok (.aload_n 0, 1) := by decide +kernel
theorem d_Glacier_weather_76 : decode M_Glacier_weather.2.1 76 = .ok (.iload_n 1, 1) := by decide +kernel
theorem d_Glacier_weather_77 : decode M_Glacier_weather.2.1 77 = .ok (.iload_n 2, 1) := by decide +kernel
theorem d_Glacier_weather_78 : decode M_Glacier_weather.2.1 78 = .ok (.ineg, 1) := by decide +kernel
theorem d_Glacier_weather_79 : decode M_Glacier_weather.2.1 79 = .ok (.invokevirtual 163, 3) := by decide +kernel
theorem d_Glacier_weather_82 : decode M_Glacier_weather.2.1 82 = .ok (.goto 43, 3) := by decide +kernel
theorem d_Glacier_weather_85 : decode M_Glacier_weather.2.1 85 = .ok (.iload_n 2, 1) := by decide +kernel
theorem d_Glacier_weather_86 : decode M_Glacier_weather.2.1 86 = .ok (.ineg, 1) := by decide +kernel
theorem d_Glacier_weather_87 : decode M_Glacier_weather.2.1 87 = .ok (.iconst 2, 1) := by decide +kernel
theorem d_Glacier_weather_88 : decode M_Glacier_weather.2.1 88 = .ok (.idiv, 1) := by decide +kernel
theorem d_Glacier_weather_89 : decode M_Glacier_weather.2.1 89 = .ok (.sipush 300, 3) := by decide +kernel
theorem d_Glacier_weather_92 : decode M_Glacier_weather.2.1 92 = .ok (.iload_n 3, 1) := by decide +kernel
theorem d_Glacier_weather_93 : decode M_Glacier_weather.2.1 93 = .ok (.isub, 1) := by decide +kernel
theorem d_Glacier_weather_94 : decode M_Glacier_weather.2.1 94 = .ok (.invokestatic 79, 3) := by decide +kernel
theorem d_Glacier_weather_97 : decode M_Glacier_weather.2.1 97 = .ok (.istore 4, 2) := by decide +kernel
theorem d_Glacier_weather_99 : decode M_Glacier_weather.2.1 99 = .ok (.aload_n 0, 1) := by decide +kernel
theorem d_Glacier_weather_100 : decode M_Glacier_weather.2.1 100 = .ok (.getfield 14, 3) := by decide +kernel
theorem d_Glacier_weather_103 : decode M_Glacier_weather.2.1 103 = .ok (.iload_n 1, 1) := by decide +kernel
theorem d_Glacier_weather_104 : decode M_Glacier_weather.2.1 104 = .ok (.iconst 1, 1) := by decide +kernel
theorem d_Glacier_weather_105 : decode M_Glacier_weather.2.1 105 = .ok (.iload 4, 2) := by decide +kernel
theorem d_Glacier_weather_107 : decode M_Glacier_weather.2.1 107 = .ok (.invokevirtual 127, 3) := by decide +kernel
theorem d_Glacier_weather_110 : decode M_Glacier_weather.2.1 110 = .ok (.aload_n 0, 1) := by decide +kernel
theorem d_Glacier_weather_111 : decode M_Glacier_weather.2.1 111 = .ok (.iload_n 1, 1) := by decide +kernel
theorem d_Glacier_weather_112 : decode M_Glacier_weather.2.1 112 = .ok (.iload 4, 2) := by decide +kernel
theorem d_Glacier_weather_114 : decode M_Glacier_weather.2.1 114 = .ok (.ineg, 1) := by decide +kernel
theorem d_Glacier_weather_115 : decode M_Glacier_weather.2.1 115 = .ok (.invokevirtual 160, 3) := by decide +kernel
theorem d_Glacier_weather_118 : decode M_Glacier_weather.2.1 118 = .ok (.aload_n 0, 1) := by decide +kernel
theorem d_Glacier_weather_119 : decode M_Glacier_weather.2.1 119 = .ok (.iload_n 1, 1) := by decide +kernel
theorem d_Glacier_weather_120 : decode M_Glacier_weather.2.1 120 = .ok (.iload 4, 2) := by decide +kernel
theorem d_Glacier_weather_122 : decode M_Glacier_weather.2.1 122 = .ok (.invokevirtual 163, 3) := by decide +kernel
theorem d_Glacier_weather_125 : decode M_Glacier_weather.2.1 125 = .ok (.return_, 1) := by decide +kernel
def s_Glacier_weather (σ : GL) (x1 : Int32) : GL := (if ((s_Glacier_warmthToday σ) - (gG σ 0 x1 0)) ≤ 0 then (s_Glacier_moveBridges (s_Glacier_moveStakes (gA σ 0 x1 1 (iMin ((-((s_Glacier_warmthToday σ) - (gG σ 0 x1 0))) / 2) (300 - (gG σ 0 x1 1)))) x1 (-(iMin ((-((s_Glacier_warmthToday σ) - (gG σ 0 x1 0))) / 2) (300 - (gG σ 0 x1 1))))) x1 (iMin ((-((s_Glacier_warmthToday σ) - (gG σ 0 x1 0))) / 2) (300 - (gG σ 0 x1 1)))) else (s_Glacier_moveBridges (s_Glacier_moveStakes (gA (gA σ 0 x1 1 (-(iMin (gG σ 0 x1 1) (3 * ((s_Glacier_warmthToday σ) - (gG σ 0 x1 0)))))) 0 x1 2 ((3 * ((s_Glacier_warmthToday σ) - (gG σ 0 x1 0))) - (iMin (gG σ 0 x1 1) (3 * ((s_Glacier_warmthToday σ) - (gG σ 0 x1 0)))))) x1 (3 * ((s_Glacier_warmthToday σ) - (gG σ 0 x1 0)))) x1 (-((s_Glacier_warmthToday σ) - (gG σ 0 x1 0)))))
set_option maxRecDepth 100000 in
set_option maxHeartbeats 4000000 in
theorem c_Glacier_weather {Γ : G9} {h : AH} {g z : Nat} {σ : GL} {x1 : Int32} (hW : WFG σ) : CallR Γ M_Glacier_weather 2 [.ref g, .int x1] (blk h g 12 (glC Γ g σ)) z none (blk h g 12 (glC Γ g (s_Glacier_weather σ x1))) := by
  refine Call.of_go (L := [some (.ref g), some (.int x1), none, none, none, none]) (by decide +kernel) rfl (by exact Nat.le_of_ble_eq_true rfl) ?_
  unfold s_Glacier_weather
  refine Go.aload_0 d_Glacier_weather_0 rfl ?_
  refine Go.cv0r d_Glacier_weather_1 rfl l_Glacier_94 k_Glacier_warmthToday_v gl_obj rfl (c_Glacier_warmthToday) rfl rfl rfl ?_
  refine Go.aload_0 d_Glacier_weather_4 rfl ?_
  refine Go.getfield d_Glacier_weather_5 rfl f_Glacier_14 gl_obj (by rfl) ?_
  refine Go.iload_1 d_Glacier_weather_8 rfl ?_
  refine Go.iconst (v := 0) d_Glacier_weather_9 rfl (by decide) ?_
  refine Go.cv2r d_Glacier_weather_10 rfl l_Glacier_75 k_Table_get_v (gl_tab (k := 0) (by decide)) rfl (cG_get (k := 0) (by decide) (c := 0) rfl (by omega) hW) rfl rfl rfl ?_
  refine Go.isub d_Glacier_weather_13 rfl ?_
  refine Go.istore_2 d_Glacier_weather_14 rfl (by rfl) ?_
  refine Go.aload_0 d_Glacier_weather_15 rfl ?_
  refine Go.getfield d_Glacier_weather_16 rfl f_Glacier_14 gl_obj (by rfl) ?_
  refine Go.iload_1 d_Glacier_weather_19 rfl ?_
  refine Go.iconst (v := 1) d_Glacier_weather_20 rfl (by decide) ?_
  refine Go.cv2r d_Glacier_weather_21 rfl l_Glacier_75 k_Table_get_v (gl_tab (k := 0) (by decide)) rfl (cG_get (k := 0) (by decide) (c := 1) rfl (by omega) hW) rfl rfl rfl ?_
  refine Go.istore_3 d_Glacier_weather_24 rfl (by rfl) ?_
  refine Go.iload_2 d_Glacier_weather_25 rfl ?_
  refine Go.if_le (t := 85) d_Glacier_weather_26 (by decide) rfl (fun c26_1 => ?_) (fun c26_1 => ?_)
  · refine Go.iload_2 d_Glacier_weather_85 rfl ?_
    refine Go.ineg d_Glacier_weather_86 rfl ?_
    refine Go.iconst (v := 2) d_Glacier_weather_87 rfl (by decide) ?_
    refine Go.idiv d_Glacier_weather_88 rfl (by decide) ?_
    refine Go.sipush (v := 300) d_Glacier_weather_89 rfl (by decide) ?_
    refine Go.iload_3 d_Glacier_weather_92 rfl ?_
    refine Go.isub d_Glacier_weather_93 rfl ?_
    refine Go.imin d_Glacier_weather_94 rfl l_Glacier_79 (by decide) rfl ?_
    refine Go.istore_4 d_Glacier_weather_97 rfl (by rfl) ?_
    refine Go.aload_0 d_Glacier_weather_99 rfl ?_
    refine Go.getfield d_Glacier_weather_100 rfl f_Glacier_14 gl_obj (by rfl) ?_
    refine Go.iload_1 d_Glacier_weather_103 rfl ?_
    refine Go.iconst (v := 1) d_Glacier_weather_104 rfl (by decide) ?_
    refine Go.iload_4 d_Glacier_weather_105 rfl ?_
    refine Go.cv3v d_Glacier_weather_107 rfl l_Glacier_127 k_Table_add_v (gl_tab (k := 0) (by decide)) rfl (cG_add (k := 0) (by decide) (c := 1) rfl (by omega) hW) rfl rfl rfl ?_
    refine Go.aload_0 d_Glacier_weather_110 rfl ?_
    refine Go.iload_1 d_Glacier_weather_111 rfl ?_
    refine Go.iload_4 d_Glacier_weather_112 rfl ?_
    refine Go.ineg d_Glacier_weather_114 rfl ?_
    refine Go.cv2v d_Glacier_weather_115 rfl l_Glacier_160 k_Glacier_moveStakes_v gl_obj rfl (c_Glacier_moveStakes (hW.of fun j => by simp only [gN_gS, gN_gA, gN_gSW, gN_gSD, gN_gSC, gN_Glacier_changeWarmth, gN_Glacier_letFall, gN_l_Glacier_letCross_23, gN_Glacier_letCross, gN_Glacier_tryGo, gN_Glacier_tryProbe, gN_Glacier_takeFood, gN_Glacier_tryDrill, gN_l_Glacier_moveStakes_2, gN_Glacier_moveStakes, gN_l_Glacier_moveBridges_2, gN_Glacier_moveBridges])) rfl rfl rfl ?_
    refine Go.aload_0 d_Glacier_weather_118 rfl ?_
    refine Go.iload_1 d_Glacier_weather_119 rfl ?_
    refine Go.iload_4 d_Glacier_weather_120 rfl ?_
    refine Go.cv2v d_Glacier_weather_122 rfl l_Glacier_163 k_Glacier_moveBridges_v gl_obj rfl (c_Glacier_moveBridges (hW.of fun j => by simp only [gN_gS, gN_gA, gN_gSW, gN_gSD, gN_gSC, gN_Glacier_changeWarmth, gN_Glacier_letFall, gN_l_Glacier_letCross_23, gN_Glacier_letCross, gN_Glacier_tryGo, gN_Glacier_tryProbe, gN_Glacier_takeFood, gN_Glacier_tryDrill, gN_l_Glacier_moveStakes_2, gN_Glacier_moveStakes, gN_l_Glacier_moveBridges_2, gN_Glacier_moveBridges])) rfl rfl rfl ?_
    rw [if_pos c26_1]
    exact Go.vret d_Glacier_weather_125 rfl ⟨rfl, rfl, rfl⟩
  · refine Go.iconst (v := 3) d_Glacier_weather_29 rfl (by decide) ?_
    refine Go.iload_2 d_Glacier_weather_30 rfl ?_
    refine Go.imul d_Glacier_weather_31 rfl ?_
    refine Go.istore_4 d_Glacier_weather_32 rfl (by rfl) ?_
    refine Go.iload_3 d_Glacier_weather_34 rfl ?_
    refine Go.iload_4 d_Glacier_weather_35 rfl ?_
    refine Go.imin d_Glacier_weather_37 rfl l_Glacier_79 (by decide) rfl ?_
    refine Go.istore_5 d_Glacier_weather_40 rfl (by rfl) ?_
    refine Go.aload_0 d_Glacier_weather_42 rfl ?_
    refine Go.getfield d_Glacier_weather_43 rfl f_Glacier_14 gl_obj (by rfl) ?_
    refine Go.iload_1 d_Glacier_weather_46 rfl ?_
    refine Go.iconst (v := 1) d_Glacier_weather_47 rfl (by decide) ?_
    refine Go.iload_5 d_Glacier_weather_48 rfl ?_
    refine Go.ineg d_Glacier_weather_50 rfl ?_
    refine Go.cv3v d_Glacier_weather_51 rfl l_Glacier_127 k_Table_add_v (gl_tab (k := 0) (by decide)) rfl (cG_add (k := 0) (by decide) (c := 1) rfl (by omega) hW) rfl rfl rfl ?_
    refine Go.aload_0 d_Glacier_weather_54 rfl ?_
    refine Go.getfield d_Glacier_weather_55 rfl f_Glacier_14 gl_obj (by rfl) ?_
    refine Go.iload_1 d_Glacier_weather_58 rfl ?_
    refine Go.iconst (v := 2) d_Glacier_weather_59 rfl (by decide) ?_
    refine Go.iload_4 d_Glacier_weather_60 rfl ?_
    refine Go.iload_5 d_Glacier_weather_62 rfl ?_
    refine Go.isub d_Glacier_weather_64 rfl ?_
    refine Go.cv3v d_Glacier_weather_65 rfl l_Glacier_127 k_Table_add_v (gl_tab (k := 0) (by decide)) rfl (cG_add (k := 0) (by decide) (c := 2) rfl (by omega) (hW.of fun j => by simp only [gN_gS, gN_gA, gN_gSW, gN_gSD, gN_gSC, gN_Glacier_changeWarmth, gN_Glacier_letFall, gN_l_Glacier_letCross_23, gN_Glacier_letCross, gN_Glacier_tryGo, gN_Glacier_tryProbe, gN_Glacier_takeFood, gN_Glacier_tryDrill, gN_l_Glacier_moveStakes_2, gN_Glacier_moveStakes, gN_l_Glacier_moveBridges_2, gN_Glacier_moveBridges])) rfl rfl rfl ?_
    refine Go.aload_0 d_Glacier_weather_68 rfl ?_
    refine Go.iload_1 d_Glacier_weather_69 rfl ?_
    refine Go.iload_4 d_Glacier_weather_70 rfl ?_
    refine Go.cv2v d_Glacier_weather_72 rfl l_Glacier_160 k_Glacier_moveStakes_v gl_obj rfl (c_Glacier_moveStakes (hW.of fun j => by simp only [gN_gS, gN_gA, gN_gSW, gN_gSD, gN_gSC, gN_Glacier_changeWarmth, gN_Glacier_letFall, gN_l_Glacier_letCross_23, gN_Glacier_letCross, gN_Glacier_tryGo, gN_Glacier_tryProbe, gN_Glacier_takeFood, gN_Glacier_tryDrill, gN_l_Glacier_moveStakes_2, gN_Glacier_moveStakes, gN_l_Glacier_moveBridges_2, gN_Glacier_moveBridges])) rfl rfl rfl ?_
    refine Go.aload_0 d_Glacier_weather_75 rfl ?_
    refine Go.iload_1 d_Glacier_weather_76 rfl ?_
    refine Go.iload_2 d_Glacier_weather_77 rfl ?_
    refine Go.ineg d_Glacier_weather_78 rfl ?_
    refine Go.cv2v d_Glacier_weather_79 rfl l_Glacier_163 k_Glacier_moveBridges_v gl_obj rfl (c_Glacier_moveBridges (hW.of fun j => by simp only [gN_gS, gN_gA, gN_gSW, gN_gSD, gN_gSC, gN_Glacier_changeWarmth, gN_Glacier_letFall, gN_l_Glacier_letCross_23, gN_Glacier_letCross, gN_Glacier_tryGo, gN_Glacier_tryProbe, gN_Glacier_takeFood, gN_Glacier_tryDrill, gN_l_Glacier_moveStakes_2, gN_Glacier_moveStakes, gN_l_Glacier_moveBridges_2, gN_Glacier_moveBridges])) rfl rfl rfl ?_
    refine Go.goto (t := 125) d_Glacier_weather_82 (by decide) ?_
    rw [if_neg c26_1]
    exact Go.vret d_Glacier_weather_125 rfl ⟨rfl, rfl, rfl⟩
set_option maxRecDepth 100000 in
set_option maxHeartbeats 4000000 in
theorem gN_Glacier_weather {σ : GL} {x1 : Int32} (j : Nat) : gN (s_Glacier_weather σ x1) j = gN σ j := by
  unfold s_Glacier_weather
  (repeat' split) <;> simp only [gN_gS, gN_gA, gN_gSW, gN_gSD, gN_gSC, gN_Glacier_changeWarmth, gN_Glacier_letFall, gN_l_Glacier_letCross_23, gN_Glacier_letCross, gN_Glacier_tryGo, gN_Glacier_tryProbe, gN_Glacier_takeFood, gN_Glacier_tryDrill, gN_l_Glacier_moveStakes_2, gN_Glacier_moveStakes, gN_l_Glacier_moveBridges_2, gN_Glacier_moveBridges]
theorem d_Glacier_eat_46 : decode M_Glacier_eat.2.1 46 = .ok (.iload 4, 2) := by decide +kernel
theorem d_Glacier_eat_48 : decode M_Glacier_eat.2.1 48 = .ok (.aload_n 0, 1) := by decide +kernel
theorem d_Glacier_eat_49 : decode M_Glacier_eat.2.1 49 = .ok (.getfield 26, 3) := by decide +kernel
theorem d_Glacier_eat_52 : decode M_Glacier_eat.2.1 52 = .ok (.invokevirtual 68, 3) := by decide +kernel
theorem d_Glacier_eat_55 : decode M_Glacier_eat.2.1 55 = .ok (.if_icmp .ge 62, 3) := by decide +kernel
theorem d_Glacier_eat_58 : decode M_Glacier_eat.2.1 58 = .ok (.aload_n 0, 1) := by decide +kernel
theorem d_Glacier_eat_59 : decode M_Glacier_eat.2.1 59 = .ok (.getfield 26, 3) := by decide +kernel
theorem d_Glacier_eat_62 : decode M_Glacier_eat.2.1 62 = .ok (.iload 4, 2) := by decide +kernel
theorem d_Glacier_eat_64 : decode M_Glacier_eat.2.1 64 = .ok (.iconst 0, 1) := by decide +kernel
theorem d_Glacier_eat_65 : decode M_Glacier_eat.2.1 65 = .ok (.invokevirtual 75, 3) := by decide +kernel
theorem d_Glacier_eat_68 : decode M_Glacier_eat.2.1 68 = .ok (.aload_n 0, 1) := by decide +kernel
theorem d_Glacier_eat_69 : decode M_Glacier_eat.2.1 69 = .ok (.getfield 29, 3) := by decide +kernel
theorem d_Glacier_eat_72 : decode M_Glacier_eat.2.1 72 = .ok (.iload_n 1, 1) := by decide +kernel
theorem d_Glacier_eat_73 : decode M_Glacier_eat.2.1 73 = .ok (.iconst 2, 1) := by decide +kernel
theorem d_Glacier_eat_74 : decode M_Glacier_eat.2.1 74 = .ok (.invokevirtual 75, 3) := by decide +kernel
theorem d_Glacier_eat_77 : decode M_Glacier_eat.2.1 77 = .ok (.if_icmp .ne 34, 3) := by decide +kernel
theorem d_Glacier_eat_80 : decode M_Glacier_eat.2.1 80 = .ok (.iload_n 2, 1) := by decide +kernel
theorem d_Glacier_eat_81 : decode M_Glacier_eat.2.1 81 = .ok (.aload_n 0, 1) := by decide +kernel
theorem d_Glacier_eat_82 : decode M_Glacier_eat.2.1 82 = .ok (.getfield 26, 3) := by decide +kernel
theorem d_Glacier_eat_85 : decode M_Glacier_eat.2.1 85 = .ok (.iload 4, 2) := by decide +kernel
theorem d_Glacier_eat_87 : decode M_Glacier_eat.2.1 87 = .ok (.iconst 1, 1) := by decide +kernel
theorem d_Glacier_eat_88 : decode M_Glacier_eat.2.1 88 = .ok (.invokevirtual 75, 3) := by decide +kernel
theorem d_Glacier_eat_91 : decode M_Glacier_eat.2.1 91 = .ok (.invokestatic 79, 3) := by decide +kernel
theorem d_Glacier_eat_94 : decode M_Glacier_eat.2.1 94 = .ok (.istore_n 3, 1) := by decide +kernel
theorem d_Glacier_eat_95 : decode M_Glacier_eat.2.1 95 = .ok (.aload_n 0, 1) := by decide +kernel
theorem d_Glacier_eat_96 : decode M_Glacier_eat.2.1 96 = .ok (.getfield 26, 3) := by decide +kernel
theorem d_Glacier_eat_99 : decode M_Glacier_eat.2.1 99 = .ok (.iload 4, 2) := by decide +kernel
theorem d_Glacier_eat_101 : decode M_Glacier_eat.2.1 101 = .ok (.iconst 1, 1) := by decide +kernel
theorem d_Glacier_eat_102 : decode M_Glacier_eat.2.1 102 = .ok (.iload_n 3, 1) := by decide +kernel
theorem d_Glacier_eat_103 : decode M_Glacier_eat.2.1 103 = .ok (.ineg, 1) := by decide +kernel
theorem d_Glacier_eat_104 : decode M_Glacier_eat.2.1 104 = .ok (.invokevirtual 127, 3) := by decide +kernel
theorem d_Glacier_eat_107 : decode M_Glacier_eat.2.1 107 = .ok (.iload_n 2, 1) := by decide +kernel
theorem d_Glacier_eat_108 : decode M_Glacier_eat.2.1 108 = .ok (.iload_n 3, 1) := by decide +kernel
theorem d_Glacier_eat_109 : decode M_Glacier_eat.2.1 109 = .ok (.isub, 1) := by decide +kernel
theorem d_Glacier_eat_110 : decode M_Glacier_eat.2.1 110 = .ok (.istore_n 2, 1) := by decide +kernel
theorem d_Glacier_eat_111 : decode M_Glacier_eat.2.1 111 = .ok (.iinc 4 1, 3) := by decide +kernel
theorem d_Glacier_eat_114 : decode M_Glacier_eat.2.1 114 = .ok (.goto (-68), 3) := by decide +kernel
def l_Glacier_eat_46 (x1 : Int32) : Nat → Nat → Int32 → GL → Int32 × GL
  | 0, _, lack, σ => (lack, σ)
  | k + 1, i, lack, σ => (if (gG σ 3 (nI i) 0) = (gG σ 4 x1 2) then (l_Glacier_eat_46 x1 k (i + 1) (lack - (iMin lack (gG σ 3 (nI i) 1))) (gA σ 3 (nI i) 1 (-(iMin lack (gG σ 3 (nI i) 1))))) else (l_Glacier_eat_46 x1 k (i + 1) lack σ))
set_option maxRecDepth 100000 in
set_option maxHeartbeats 4000000 in
theorem l_Glacier_eat_46_go {Γ : G9} {h : AH} {g z n : Nat} {Q : QT} {X : XT} {x1 : Int32} (hn20 : n ≤ 20) : ∀ (k i : Nat) (lack : Int32) (σ : GL), i + k = n → gN σ 3 = n → WFG σ → Go Γ M_Glacier_eat 1 0 0 117 [some (.ref g), some (.int x1), some (.int (l_Glacier_eat_46 x1 k i lack σ).1), none, some (.int (nI (i + k)))] [] (blk h g 12 (glC Γ g (l_Glacier_eat_46 x1 k i lack σ).2)) z Q X → Go Γ M_Glacier_eat 1 0 0 46 [some (.ref g), some (.int x1), some (.int lack), none, some (.int (nI i))] [] (blk h g 12 (glC Γ g σ)) z Q X := by
  intro k
  induction k with
  | zero =>
    intro i lack σ hi hn hW hk
    refine Go.iload_4 d_Glacier_eat_46 rfl ?_
    refine Go.aload_0 d_Glacier_eat_48 rfl ?_
    refine Go.getfield d_Glacier_eat_49 rfl f_Glacier_26 gl_obj (by rfl) ?_
    refine Go.cv0r d_Glacier_eat_52 rfl l_Glacier_68 k_Table_rows_v (gl_tab (k := 3) (by decide)) rfl (cG_rows (k := 3) (by decide)) rfl rfl rfl ?_
    refine Go.icmp_ge (t := 117) d_Glacier_eat_55 (by decide) rfl (fun c55_1 => ?_) (fun c55_1 => ?_)
    · exact hk
    · exact absurd (nI_le (by omega) (by omega)) c55_1
  | succ k ih =>
    intro i lack σ hi hn hW hk
    unfold l_Glacier_eat_46 at hk
    rw [show i + (k + 1) = i + 1 + k by omega] at hk
    refine Go.iload_4 d_Glacier_eat_46 rfl ?_
    refine Go.aload_0 d_Glacier_eat_48 rfl ?_
    refine Go.getfield d_Glacier_eat_49 rfl f_Glacier_26 gl_obj (by rfl) ?_
    refine Go.cv0r d_Glacier_eat_52 rfl l_Glacier_68 k_Table_rows_v (gl_tab (k := 3) (by decide)) rfl (cG_rows (k := 3) (by decide)) rfl rfl rfl ?_
    refine Go.icmp_ge (t := 117) d_Glacier_eat_55 (by decide) rfl (fun c55_1 => ?_) (fun c55_1 => ?_)
    · exact absurd c55_1 (nI_ge (by omega) (by omega))
    · refine Go.aload_0 d_Glacier_eat_58 rfl ?_
      refine Go.getfield d_Glacier_eat_59 rfl f_Glacier_26 gl_obj (by rfl) ?_
      refine Go.iload_4 d_Glacier_eat_62 rfl ?_
      refine Go.iconst (v := 0) d_Glacier_eat_64 rfl (by decide) ?_
      refine Go.cv2r d_Glacier_eat_65 rfl l_Glacier_75 k_Table_get_v (gl_tab (k := 3) (by decide)) rfl (cG_get (k := 3) (by decide) (c := 0) rfl (by omega) hW) rfl rfl rfl ?_
      refine Go.aload_0 d_Glacier_eat_68 rfl ?_
      refine Go.getfield d_Glacier_eat_69 rfl f_Glacier_29 gl_obj (by rfl) ?_
      refine Go.iload_1 d_Glacier_eat_72 rfl ?_
      refine Go.iconst (v := 2) d_Glacier_eat_73 rfl (by decide) ?_
      refine Go.cv2r d_Glacier_eat_74 rfl l_Glacier_75 k_Table_get_v (gl_tab (k := 4) (by decide)) rfl (cG_get (k := 4) (by decide) (c := 2) rfl (by omega) hW) rfl rfl rfl ?_
      refine Go.icmp_ne (t := 111) d_Glacier_eat_77 (by decide) rfl (fun c77_2 => ?_) (fun c77_2 => ?_)
      · refine Go.iinc_4 d_Glacier_eat_111 rfl (by rfl) (nI_inc _) ?_
        refine Go.goto (t := 46) d_Glacier_eat_114 (by decide) ?_
        rw [if_neg c77_2] at hk
        exact ih (i + 1) _ _ (by omega) (by first | exact hn | (simp only [gN_gS, gN_gA, gN_gSW, gN_gSD, gN_gSC, gN_Glacier_changeWarmth, gN_Glacier_letFall, gN_l_Glacier_letCross_23, gN_Glacier_letCross, gN_Glacier_tryGo, gN_Glacier_tryProbe, gN_Glacier_takeFood, gN_Glacier_tryDrill, gN_l_Glacier_moveStakes_2, gN_Glacier_moveStakes, gN_l_Glacier_moveBridges_2, gN_Glacier_moveBridges, gN_Glacier_weather]; exact hn)) hW hk
      · refine Go.iload_2 d_Glacier_eat_80 rfl ?_
        refine Go.aload_0 d_Glacier_eat_81 rfl ?_
        refine Go.getfield d_Glacier_eat_82 rfl f_Glacier_26 gl_obj (by rfl) ?_
        refine Go.iload_4 d_Glacier_eat_85 rfl ?_
        refine Go.iconst (v := 1) d_Glacier_eat_87 rfl (by decide) ?_
        refine Go.cv2r d_Glacier_eat_88 rfl l_Glacier_75 k_Table_get_v (gl_tab (k := 3) (by decide)) rfl (cG_get (k := 3) (by decide) (c := 1) rfl (by omega) hW) rfl rfl rfl ?_
        refine Go.imin d_Glacier_eat_91 rfl l_Glacier_79 (by decide) rfl ?_
        refine Go.istore_3 d_Glacier_eat_94 rfl (by rfl) ?_
        refine Go.aload_0 d_Glacier_eat_95 rfl ?_
        refine Go.getfield d_Glacier_eat_96 rfl f_Glacier_26 gl_obj (by rfl) ?_
        refine Go.iload_4 d_Glacier_eat_99 rfl ?_
        refine Go.iconst (v := 1) d_Glacier_eat_101 rfl (by decide) ?_
        refine Go.iload_3 d_Glacier_eat_102 rfl ?_
        refine Go.ineg d_Glacier_eat_103 rfl ?_
        refine Go.cv3v d_Glacier_eat_104 rfl l_Glacier_127 k_Table_add_v (gl_tab (k := 3) (by decide)) rfl (cG_add (k := 3) (by decide) (c := 1) rfl (by omega) hW) rfl rfl rfl ?_
        refine Go.iload_2 d_Glacier_eat_107 rfl ?_
        refine Go.iload_3 d_Glacier_eat_108 rfl ?_
        refine Go.isub d_Glacier_eat_109 rfl ?_
        refine Go.istore_2 d_Glacier_eat_110 rfl (by rfl) ?_
        refine Go.iinc_4 d_Glacier_eat_111 rfl (by rfl) (nI_inc _) ?_
        refine Go.goto (t := 46) d_Glacier_eat_114 (by decide) ?_
        rw [if_pos c77_2] at hk
        refine Go.fgt [some (.ref g), some (.int x1), some (.int (lack - (iMin lack (gG σ 3 (nI i) 1)))), none, some (.int (nI (i + 1)))] (by repeat' (first | exact trivial | refine ⟨rfl, ?_⟩)) ?_
        exact ih (i + 1) _ _ (by omega) (by first | exact hn | (simp only [gN_gS, gN_gA, gN_gSW, gN_gSD, gN_gSC, gN_Glacier_changeWarmth, gN_Glacier_letFall, gN_l_Glacier_letCross_23, gN_Glacier_letCross, gN_Glacier_tryGo, gN_Glacier_tryProbe, gN_Glacier_takeFood, gN_Glacier_tryDrill, gN_l_Glacier_moveStakes_2, gN_Glacier_moveStakes, gN_l_Glacier_moveBridges_2, gN_Glacier_moveBridges, gN_Glacier_weather]; exact hn)) (hW.of fun j => by simp only [gN_gS, gN_gA, gN_gSW, gN_gSD, gN_gSC, gN_Glacier_changeWarmth, gN_Glacier_letFall, gN_l_Glacier_letCross_23, gN_Glacier_letCross, gN_Glacier_tryGo, gN_Glacier_tryProbe, gN_Glacier_takeFood, gN_Glacier_tryDrill, gN_l_Glacier_moveStakes_2, gN_Glacier_moveStakes, gN_l_Glacier_moveBridges_2, gN_Glacier_moveBridges, gN_Glacier_weather]) hk
set_option maxRecDepth 100000 in
set_option maxHeartbeats 4000000 in
theorem gN_l_Glacier_eat_46 {x1 : Int32} (j : Nat) : ∀ (k i : Nat) (lack : Int32) (σ : GL), gN (l_Glacier_eat_46 x1 k i lack σ).2 j = gN σ j := by
  intro k
  induction k with
  | zero => intros; rfl
  | succ k ih =>
    intros
    unfold l_Glacier_eat_46
    (repeat' split) <;> simp only [gN_gS, gN_gA, gN_gSW, gN_gSD, gN_gSC, gN_Glacier_changeWarmth, gN_Glacier_letFall, gN_l_Glacier_letCross_23, gN_Glacier_letCross, gN_Glacier_tryGo, gN_Glacier_tryProbe, gN_Glacier_takeFood, gN_Glacier_tryDrill, gN_l_Glacier_moveStakes_2, gN_Glacier_moveStakes, gN_l_Glacier_moveBridges_2, gN_Glacier_moveBridges, gN_Glacier_weather, ih]
theorem d_Glacier_eat_0 : decode M_Glacier_eat.2.1 0 = .ok (.aload_n 0, 1) := by decide +kernel
theorem d_Glacier_eat_1 : decode M_Glacier_eat.2.1 1 = .ok (.getfield 29, 3) := by decide +kernel
theorem d_Glacier_eat_4 : decode M_Glacier_eat.2.1 4 = .ok (.iload_n 1, 1) := by decide +kernel
theorem d_Glacier_eat_5 : decode M_Glacier_eat.2.1 5 = .ok (.iconst 0, 1) := by decide +kernel
theorem d_Glacier_eat_6 : decode M_Glacier_eat.2.1 6 = .ok (.invokevirtual 75, 3) := by decide +kernel
theorem d_Glacier_eat_9 : decode M_Glacier_eat.2.1 9 = .ok (.iconst 1, 1) := by decide +kernel
theorem d_Glacier_eat_10 : decode M_Glacier_eat.2.1 10 = .ok (.iadd, 1) := by decide +kernel
theorem d_Glacier_eat_11 : decode M_Glacier_eat.2.1 11 = .ok (.iconst 2, 1) := by decide +kernel
theorem d_Glacier_eat_12 : decode M_Glacier_eat.2.1 12 = .ok (.idiv, 1) := by decide +kernel
theorem d_Glacier_eat_13 : decode M_Glacier_eat.2.1 13 = .ok (.istore_n 2, 1) := by decide +kernel
theorem d_Glacier_eat_14 : decode M_Glacier_eat.2.1 14 = .ok (.iload_n 2, 1) := by decide +kernel
theorem d_Glacier_eat_15 : decode M_Glacier_eat.2.1 15 = .ok (.aload_n 0, 1) := by decide +kernel
theorem d_Glacier_eat_16 : decode M_Glacier_eat.2.1 16 = .ok (.getfield 29, 3) := by decide +kernel
theorem d_Glacier_eat_19 : decode M_Glacier_eat.2.1 19 = .ok (.iload_n 1, 1) := by decide +kernel
theorem d_Glacier_eat_20 : decode M_Glacier_eat.2.1 20 = .ok (.iconst 1, 1) := by decide +kernel
theorem d_Glacier_eat_21 : decode M_Glacier_eat.2.1 21 = .ok (.invokevirtual 75, 3) := by decide +kernel
theorem d_Glacier_eat_24 : decode M_Glacier_eat.2.1 24 = .ok (.invokestatic 79, 3) := by decide +kernel
theorem d_Glacier_eat_27 : decode M_Glacier_eat.2.1 27 = .ok (.istore_n 3, 1) := by decide +kernel
theorem d_Glacier_eat_28 : decode M_Glacier_eat.2.1 28 = .ok (.aload_n 0, 1) := by decide +kernel
theorem d_Glacier_eat_29 : decode M_Glacier_eat.2.1 29 = .ok (.getfield 29, 3) := by decide +kernel
theorem d_Glacier_eat_32 : decode M_Glacier_eat.2.1 32 = .ok (.iload_n 1, 1) := by decide +kernel
theorem d_Glacier_eat_33 : decode M_Glacier_eat.2.1 33 = .ok (.iconst 1, 1) := by decide +kernel
theorem d_Glacier_eat_34 : decode M_Glacier_eat.2.1 34 = .ok (.iload_n 3, 1) := by decide +kernel
theorem d_Glacier_eat_35 : decode M_Glacier_eat.2.1 35 = .ok (.ineg, 1) := by decide +kernel
theorem d_Glacier_eat_36 : decode M_Glacier_eat.2.1 36 = .ok (.invokevirtual 127, 3) := by decide +kernel
theorem d_Glacier_eat_39 : decode M_Glacier_eat.2.1 39 = .ok (.iload_n 2, 1) := by decide +kernel
theorem d_Glacier_eat_40 : decode M_Glacier_eat.2.1 40 = .ok (.iload_n 3, 1) := by decide +kernel
theorem d_Glacier_eat_41 : decode M_Glacier_eat.2.1 41 = .ok (.isub, 1) := by decide +kernel
theorem d_Glacier_eat_42 : decode M_Glacier_eat.2.1 42 = .ok (.istore_n 2, 1) := by decide +kernel
theorem d_Glacier_eat_43 : decode M_Glacier_eat.2.1 43 = .ok (.iconst 0, 1) := by decide +kernel
theorem d_Glacier_eat_44 : decode M_Glacier_eat.2.1 44 = .ok (.istore 4, 2) := by decide +kernel
theorem d_Glacier_eat_117 : decode M_Glacier_eat.2.1 117 = .ok (.iload_n 2, 1) := by decide +kernel
theorem d_Glacier_eat_118 : decode M_Glacier_eat.2.1 118 = .ok (.ifCond .le 17, 3) := by decide +kernel
theorem d_Glacier_eat_121 : decode M_Glacier_eat.2.1 121 = .ok (.aload_n 0, 1) := by decide +kernel
theorem d_Glacier_eat_122 : decode M_Glacier_eat.2.1 122 = .ok (.getfield 29, 3) := by decide +kernel
theorem d_Glacier_eat_125 : decode M_Glacier_eat.2.1 125 = .ok (.iload_n 1, 1) := by decide +kernel
theorem d_Glacier_eat_126 : decode M_Glacier_eat.2.1 126 = .ok (.iconst 3, 1) := by decide +kernel
theorem d_Glacier_eat_127 : decode M_Glacier_eat.2.1 127 = .ok (.invokevirtual 75, 3) := by decide +kernel
theorem d_Glacier_eat_130 : decode M_Glacier_eat.2.1 130 = .ok (.iconst 1, 1) := by decide +kernel
theorem d_Glacier_eat_131 : decode M_Glacier_eat.2.1 131 = .ok (.iadd, 1) := by decide +kernel
theorem d_Glacier_eat_132 : decode M_Glacier_eat.2.1 132 = .ok (.goto 4, 3) := by decide +kernel
theorem d_Glacier_eat_135 : decode M_Glacier_eat.2.1 135 = .ok (.iconst 0, 1) := by decide +kernel
theorem d_Glacier_eat_136 : decode M_Glacier_eat.2.1 136 = .ok (.istore 4, 2) := by decide +kernel
theorem d_Glacier_eat_138 : decode M_Glacier_eat.2.1 138 = .ok (.aload_n 0, 1) := by decide +kernel
theorem d_Glacier_eat_139 : decode M_Glacier_eat.2.1 139 = .ok (.getfield 29, 3) := by decide +kernel
theorem d_Glacier_eat_142 : decode M_Glacier_eat.2.1 142 = .ok (.iload_n 1, 1) := by decide +kernel
theorem d_Glacier_eat_143 : decode M_Glacier_eat.2.1 143 = .ok (.iconst 3, 1) := by decide +kernel
theorem d_Glacier_eat_144 : decode M_Glacier_eat.2.1 144 = .ok (.iload 4, 2) := by decide +kernel
theorem d_Glacier_eat_146 : decode M_Glacier_eat.2.1 146 = .ok (.invokevirtual 57, 3) := by decide +kernel
theorem d_Glacier_eat_149 : decode M_Glacier_eat.2.1 149 = .ok (.aload_n 0, 1) := by decide +kernel
theorem d_Glacier_eat_150 : decode M_Glacier_eat.2.1 150 = .ok (.getfield 29, 3) := by decide +kernel
theorem d_Glacier_eat_153 : decode M_Glacier_eat.2.1 153 = .ok (.iload_n 1, 1) := by decide +kernel
theorem d_Glacier_eat_154 : decode M_Glacier_eat.2.1 154 = .ok (.iconst 4, 1) := by decide +kernel
theorem d_Glacier_eat_155 : decode M_Glacier_eat.2.1 155 = .ok (.iload 4, 2) := by decide +kernel
theorem d_Glacier_eat_157 : decode M_Glacier_eat.2.1 157 = .ok (.iconst 3, 1) := by decide +kernel
theorem d_Glacier_eat_158 : decode M_Glacier_eat.2.1 158 = .ok (.if_icmp .ge 7, 3) := by decide +kernel
theorem d_Glacier_eat_161 : decode M_Glacier_eat.2.1 161 = .ok (.iconst 1, 1) := by decide +kernel
theorem d_Glacier_eat_162 : decode M_Glacier_eat.2.1 162 = .ok (.goto 4, 3) := by decide +kernel
theorem d_Glacier_eat_165 : decode M_Glacier_eat.2.1 165 = .ok (.iconst 0, 1) := by decide +kernel
theorem d_Glacier_eat_166 : decode M_Glacier_eat.2.1 166 = .ok (.invokevirtual 57, 3) := by decide +kernel
theorem d_Glacier_eat_169 : decode M_Glacier_eat.2.1 169 = .ok (.return_, 1) := by decide +kernel
def s_Glacier_eat (σ : GL) (x1 : Int32) : GL := (if (l_Glacier_eat_46 x1 (gN (gA σ 4 x1 1 (-(iMin (((gG σ 4 x1 0) + 1) / 2) (gG σ 4 x1 1)))) 3) 0 ((((gG σ 4 x1 0) + 1) / 2) - (iMin (((gG σ 4 x1 0) + 1) / 2) (gG σ 4 x1 1))) (gA σ 4 x1 1 (-(iMin (((gG σ 4 x1 0) + 1) / 2) (gG σ 4 x1 1))))).1 ≤ 0 then (gS (gS (l_Glacier_eat_46 x1 (gN (gA σ 4 x1 1 (-(iMin (((gG σ 4 x1 0) + 1) / 2) (gG σ 4 x1 1)))) 3) 0 ((((gG σ 4 x1 0) + 1) / 2) - (iMin (((gG σ 4 x1 0) + 1) / 2) (gG σ 4 x1 1))) (gA σ 4 x1 1 (-(iMin (((gG σ 4 x1 0) + 1) / 2) (gG σ 4 x1 1))))).2 4 x1 3 0) 4 x1 4 1) else (if 3 ≤ ((gG (l_Glacier_eat_46 x1 (gN (gA σ 4 x1 1 (-(iMin (((gG σ 4 x1 0) + 1) / 2) (gG σ 4 x1 1)))) 3) 0 ((((gG σ 4 x1 0) + 1) / 2) - (iMin (((gG σ 4 x1 0) + 1) / 2) (gG σ 4 x1 1))) (gA σ 4 x1 1 (-(iMin (((gG σ 4 x1 0) + 1) / 2) (gG σ 4 x1 1))))).2 4 x1 3) + 1) then (gS (gS (l_Glacier_eat_46 x1 (gN (gA σ 4 x1 1 (-(iMin (((gG σ 4 x1 0) + 1) / 2) (gG σ 4 x1 1)))) 3) 0 ((((gG σ 4 x1 0) + 1) / 2) - (iMin (((gG σ 4 x1 0) + 1) / 2) (gG σ 4 x1 1))) (gA σ 4 x1 1 (-(iMin (((gG σ 4 x1 0) + 1) / 2) (gG σ 4 x1 1))))).2 4 x1 3 ((gG (l_Glacier_eat_46 x1 (gN (gA σ 4 x1 1 (-(iMin (((gG σ 4 x1 0) + 1) / 2) (gG σ 4 x1 1)))) 3) 0 ((((gG σ 4 x1 0) + 1) / 2) - (iMin (((gG σ 4 x1 0) + 1) / 2) (gG σ 4 x1 1))) (gA σ 4 x1 1 (-(iMin (((gG σ 4 x1 0) + 1) / 2) (gG σ 4 x1 1))))).2 4 x1 3) + 1)) 4 x1 4 0) else (gS (gS (l_Glacier_eat_46 x1 (gN (gA σ 4 x1 1 (-(iMin (((gG σ 4 x1 0) + 1) / 2) (gG σ 4 x1 1)))) 3) 0 ((((gG σ 4 x1 0) + 1) / 2) - (iMin (((gG σ 4 x1 0) + 1) / 2) (gG σ 4 x1 1))) (gA σ 4 x1 1 (-(iMin (((gG σ 4 x1 0) + 1) / 2) (gG σ 4 x1 1))))).2 4 x1 3 ((gG (l_Glacier_eat_46 x1 (gN (gA σ 4 x1 1 (-(iMin (((gG σ 4 x1 0) + 1) / 2) (gG σ 4 x1 1)))) 3) 0 ((((gG σ 4 x1 0) + 1) / 2) - (iMin (((gG σ 4 x1 0) + 1) / 2) (gG σ 4 x1 1))) (gA σ 4 x1 1 (-(iMin (((gG σ 4 x1 0) + 1) / 2) (gG σ 4 x1 1))))).2 4 x1 3) + 1)) 4 x1 4 1)))
set_option maxRecDepth 100000 in
set_option maxHeartbeats 4000000 in
theorem c_Glacier_eat {Γ : G9} {h : AH} {g z : Nat} {σ : GL} {x1 : Int32} (hW : WFG σ) : CallR Γ M_Glacier_eat 1 [.ref g, .int x1] (blk h g 12 (glC Γ g σ)) z none (blk h g 12 (glC Γ g (s_Glacier_eat σ x1))) := by
  refine Call.of_go (L := [some (.ref g), some (.int x1), none, none, none]) (by decide +kernel) rfl (by exact Nat.le_of_ble_eq_true rfl) ?_
  unfold s_Glacier_eat
  refine Go.aload_0 d_Glacier_eat_0 rfl ?_
  refine Go.getfield d_Glacier_eat_1 rfl f_Glacier_29 gl_obj (by rfl) ?_
  refine Go.iload_1 d_Glacier_eat_4 rfl ?_
  refine Go.iconst (v := 0) d_Glacier_eat_5 rfl (by decide) ?_
  refine Go.cv2r d_Glacier_eat_6 rfl l_Glacier_75 k_Table_get_v (gl_tab (k := 4) (by decide)) rfl (cG_get (k := 4) (by decide) (c := 0) rfl (by omega) hW) rfl rfl rfl ?_
  refine Go.iconst (v := 1) d_Glacier_eat_9 rfl (by decide) ?_
  refine Go.iadd d_Glacier_eat_10 rfl ?_
  refine Go.iconst (v := 2) d_Glacier_eat_11 rfl (by decide) ?_
  refine Go.idiv d_Glacier_eat_12 rfl (by decide) ?_
  refine Go.istore_2 d_Glacier_eat_13 rfl (by rfl) ?_
  refine Go.iload_2 d_Glacier_eat_14 rfl ?_
  refine Go.aload_0 d_Glacier_eat_15 rfl ?_
  refine Go.getfield d_Glacier_eat_16 rfl f_Glacier_29 gl_obj (by rfl) ?_
  refine Go.iload_1 d_Glacier_eat_19 rfl ?_
  refine Go.iconst (v := 1) d_Glacier_eat_20 rfl (by decide) ?_
  refine Go.cv2r d_Glacier_eat_21 rfl l_Glacier_75 k_Table_get_v (gl_tab (k := 4) (by decide)) rfl (cG_get (k := 4) (by decide) (c := 1) rfl (by omega) hW) rfl rfl rfl ?_
  refine Go.imin d_Glacier_eat_24 rfl l_Glacier_79 (by decide) rfl ?_
  refine Go.istore_3 d_Glacier_eat_27 rfl (by rfl) ?_
  refine Go.aload_0 d_Glacier_eat_28 rfl ?_
  refine Go.getfield d_Glacier_eat_29 rfl f_Glacier_29 gl_obj (by rfl) ?_
  refine Go.iload_1 d_Glacier_eat_32 rfl ?_
  refine Go.iconst (v := 1) d_Glacier_eat_33 rfl (by decide) ?_
  refine Go.iload_3 d_Glacier_eat_34 rfl ?_
  refine Go.ineg d_Glacier_eat_35 rfl ?_
  refine Go.cv3v d_Glacier_eat_36 rfl l_Glacier_127 k_Table_add_v (gl_tab (k := 4) (by decide)) rfl (cG_add (k := 4) (by decide) (c := 1) rfl (by omega) hW) rfl rfl rfl ?_
  refine Go.iload_2 d_Glacier_eat_39 rfl ?_
  refine Go.iload_3 d_Glacier_eat_40 rfl ?_
  refine Go.isub d_Glacier_eat_41 rfl ?_
  refine Go.istore_2 d_Glacier_eat_42 rfl (by rfl) ?_
  refine Go.iconst (v := 0) d_Glacier_eat_43 rfl (by decide) ?_
  refine Go.istore_4 d_Glacier_eat_44 rfl (by rfl) ?_
  refine Go.fgt [some (.ref g), some (.int x1), some (.int ((((gG σ 4 x1 0) + 1) / 2) - (iMin (((gG σ 4 x1 0) + 1) / 2) (gG σ 4 x1 1)))), none, some (.int 0)] (by repeat' (first | exact trivial | refine ⟨rfl, ?_⟩)) ?_
  refine l_Glacier_eat_46_go (n := (gN (gA σ 4 x1 1 (-(iMin (((gG σ 4 x1 0) + 1) / 2) (gG σ 4 x1 1)))) 3)) (by have := WFG.le (σ := (gA σ 4 x1 1 (-(iMin (((gG σ 4 x1 0) + 1) / 2) (gG σ 4 x1 1))))) (hW.of fun j => by simp only [gN_gS, gN_gA, gN_gSW, gN_gSD, gN_gSC, gN_Glacier_changeWarmth, gN_Glacier_letFall, gN_l_Glacier_letCross_23, gN_Glacier_letCross, gN_Glacier_tryGo, gN_Glacier_tryProbe, gN_Glacier_takeFood, gN_Glacier_tryDrill, gN_l_Glacier_moveStakes_2, gN_Glacier_moveStakes, gN_l_Glacier_moveBridges_2, gN_Glacier_moveBridges, gN_Glacier_weather, gN_l_Glacier_eat_46]) (k := 3) (by decide); omega) (gN (gA σ 4 x1 1 (-(iMin (((gG σ 4 x1 0) + 1) / 2) (gG σ 4 x1 1)))) 3) 0 ((((gG σ 4 x1 0) + 1) / 2) - (iMin (((gG σ 4 x1 0) + 1) / 2) (gG σ 4 x1 1))) (gA σ 4 x1 1 (-(iMin (((gG σ 4 x1 0) + 1) / 2) (gG σ 4 x1 1)))) (by omega) rfl (hW.of fun j => by simp only [gN_gS, gN_gA, gN_gSW, gN_gSD, gN_gSC, gN_Glacier_changeWarmth, gN_Glacier_letFall, gN_l_Glacier_letCross_23, gN_Glacier_letCross, gN_Glacier_tryGo, gN_Glacier_tryProbe, gN_Glacier_takeFood, gN_Glacier_tryDrill, gN_l_Glacier_moveStakes_2, gN_Glacier_moveStakes, gN_l_Glacier_moveBridges_2, gN_Glacier_moveBridges, gN_Glacier_weather, gN_l_Glacier_eat_46]) ?_
  refine Go.iload_2 d_Glacier_eat_117 rfl ?_
  refine Go.if_le (t := 135) d_Glacier_eat_118 (by decide) rfl (fun c118_1 => ?_) (fun c118_1 => ?_)
  · refine Go.iconst (v := 0) d_Glacier_eat_135 rfl (by decide) ?_
    refine Go.istore_4 d_Glacier_eat_136 rfl (by rfl) ?_
    refine Go.aload_0 d_Glacier_eat_138 rfl ?_
    refine Go.getfield d_Glacier_eat_139 rfl f_Glacier_29 gl_obj (by rfl) ?_
    refine Go.iload_1 d_Glacier_eat_142 rfl ?_
    refine Go.iconst (v := 3) d_Glacier_eat_143 rfl (by decide) ?_
    refine Go.iload_4 d_Glacier_eat_144 rfl ?_
    refine Go.cv3v d_Glacier_eat_146 rfl l_Glacier_57 k_Table_set_v (gl_tab (k := 4) (by decide)) rfl (cG_set (k := 4) (by decide) (c := 3) rfl (by omega) (hW.of fun j => by simp only [gN_gS, gN_gA, gN_gSW, gN_gSD, gN_gSC, gN_Glacier_changeWarmth, gN_Glacier_letFall, gN_l_Glacier_letCross_23, gN_Glacier_letCross, gN_Glacier_tryGo, gN_Glacier_tryProbe, gN_Glacier_takeFood, gN_Glacier_tryDrill, gN_l_Glacier_moveStakes_2, gN_Glacier_moveStakes, gN_l_Glacier_moveBridges_2, gN_Glacier_moveBridges, gN_Glacier_weather, gN_l_Glacier_eat_46])) rfl rfl rfl ?_
    refine Go.aload_0 d_Glacier_eat_149 rfl ?_
    refine Go.getfield d_Glacier_eat_150 rfl f_Glacier_29 gl_obj (by rfl) ?_
    refine Go.iload_1 d_Glacier_eat_153 rfl ?_
    refine Go.iconst (v := 4) d_Glacier_eat_154 rfl (by decide) ?_
    refine Go.iload_4 d_Glacier_eat_155 rfl ?_
    refine Go.iconst (v := 3) d_Glacier_eat_157 rfl (by decide) ?_
    refine Go.icmp_ge (t := 165) d_Glacier_eat_158 (by decide) rfl (fun c158_2 => ?_) (fun c158_2 => ?_)
    · exact absurd c158_2 (by decide)
    · refine Go.iconst (v := 1) d_Glacier_eat_161 rfl (by decide) ?_
      refine Go.goto (t := 166) d_Glacier_eat_162 (by decide) ?_
      refine Go.cv3v d_Glacier_eat_166 rfl l_Glacier_57 k_Table_set_v (gl_tab (k := 4) (by decide)) rfl (cG_set (k := 4) (by decide) (c := 4) rfl (by omega) (hW.of fun j => by simp only [gN_gS, gN_gA, gN_gSW, gN_gSD, gN_gSC, gN_Glacier_changeWarmth, gN_Glacier_letFall, gN_l_Glacier_letCross_23, gN_Glacier_letCross, gN_Glacier_tryGo, gN_Glacier_tryProbe, gN_Glacier_takeFood, gN_Glacier_tryDrill, gN_l_Glacier_moveStakes_2, gN_Glacier_moveStakes, gN_l_Glacier_moveBridges_2, gN_Glacier_moveBridges, gN_Glacier_weather, gN_l_Glacier_eat_46])) rfl rfl rfl ?_
      rw [if_pos c118_1]
      exact Go.vret d_Glacier_eat_169 rfl ⟨rfl, rfl, rfl⟩
  · refine Go.aload_0 d_Glacier_eat_121 rfl ?_
    refine Go.getfield d_Glacier_eat_122 rfl f_Glacier_29 gl_obj (by rfl) ?_
    refine Go.iload_1 d_Glacier_eat_125 rfl ?_
    refine Go.iconst (v := 3) d_Glacier_eat_126 rfl (by decide) ?_
    refine Go.cv2r d_Glacier_eat_127 rfl l_Glacier_75 k_Table_get_v (gl_tab (k := 4) (by decide)) rfl (cG_get (k := 4) (by decide) (c := 3) rfl (by omega) (hW.of fun j => by simp only [gN_gS, gN_gA, gN_gSW, gN_gSD, gN_gSC, gN_Glacier_changeWarmth, gN_Glacier_letFall, gN_l_Glacier_letCross_23, gN_Glacier_letCross, gN_Glacier_tryGo, gN_Glacier_tryProbe, gN_Glacier_takeFood, gN_Glacier_tryDrill, gN_l_Glacier_moveStakes_2, gN_Glacier_moveStakes, gN_l_Glacier_moveBridges_2, gN_Glacier_moveBridges, gN_Glacier_weather, gN_l_Glacier_eat_46])) rfl rfl rfl ?_
    refine Go.iconst (v := 1) d_Glacier_eat_130 rfl (by decide) ?_
    refine Go.iadd d_Glacier_eat_131 rfl ?_
    refine Go.goto (t := 136) d_Glacier_eat_132 (by decide) ?_
    refine Go.istore_4 d_Glacier_eat_136 rfl (by rfl) ?_
    refine Go.aload_0 d_Glacier_eat_138 rfl ?_
    refine Go.getfield d_Glacier_eat_139 rfl f_Glacier_29 gl_obj (by rfl) ?_
    refine Go.iload_1 d_Glacier_eat_142 rfl ?_
    refine Go.iconst (v := 3) d_Glacier_eat_143 rfl (by decide) ?_
    refine Go.iload_4 d_Glacier_eat_144 rfl ?_
    refine Go.cv3v d_Glacier_eat_146 rfl l_Glacier_57 k_Table_set_v (gl_tab (k := 4) (by decide)) rfl (cG_set (k := 4) (by decide) (c := 3) rfl (by omega) (hW.of fun j => by simp only [gN_gS, gN_gA, gN_gSW, gN_gSD, gN_gSC, gN_Glacier_changeWarmth, gN_Glacier_letFall, gN_l_Glacier_letCross_23, gN_Glacier_letCross, gN_Glacier_tryGo, gN_Glacier_tryProbe, gN_Glacier_takeFood, gN_Glacier_tryDrill, gN_l_Glacier_moveStakes_2, gN_Glacier_moveStakes, gN_l_Glacier_moveBridges_2, gN_Glacier_moveBridges, gN_Glacier_weather, gN_l_Glacier_eat_46])) rfl rfl rfl ?_
    refine Go.aload_0 d_Glacier_eat_149 rfl ?_
    refine Go.getfield d_Glacier_eat_150 rfl f_Glacier_29 gl_obj (by rfl) ?_
    refine Go.iload_1 d_Glacier_eat_153 rfl ?_
    refine Go.iconst (v := 4) d_Glacier_eat_154 rfl (by decide) ?_
    refine Go.iload_4 d_Glacier_eat_155 rfl ?_
    refine Go.iconst (v := 3) d_Glacier_eat_157 rfl (by decide) ?_
    refine Go.icmp_ge (t := 165) d_Glacier_eat_158 (by decide) rfl (fun c158_3 => ?_) (fun c158_3 => ?_)
    · refine Go.iconst (v := 0) d_Glacier_eat_165 rfl (by decide) ?_
      refine Go.cv3v d_Glacier_eat_166 rfl l_Glacier_57 k_Table_set_v (gl_tab (k := 4) (by decide)) rfl (cG_set (k := 4) (by decide) (c := 4) rfl (by omega) (hW.of fun j => by simp only [gN_gS, gN_gA, gN_gSW, gN_gSD, gN_gSC, gN_Glacier_changeWarmth, gN_Glacier_letFall, gN_l_Glacier_letCross_23, gN_Glacier_letCross, gN_Glacier_tryGo, gN_Glacier_tryProbe, gN_Glacier_takeFood, gN_Glacier_tryDrill, gN_l_Glacier_moveStakes_2, gN_Glacier_moveStakes, gN_l_Glacier_moveBridges_2, gN_Glacier_moveBridges, gN_Glacier_weather, gN_l_Glacier_eat_46])) rfl rfl rfl ?_
      rw [if_neg c118_1, if_pos c158_3]
      exact Go.vret d_Glacier_eat_169 rfl ⟨rfl, rfl, rfl⟩
    · refine Go.iconst (v := 1) d_Glacier_eat_161 rfl (by decide) ?_
      refine Go.goto (t := 166) d_Glacier_eat_162 (by decide) ?_
      refine Go.cv3v d_Glacier_eat_166 rfl l_Glacier_57 k_Table_set_v (gl_tab (k := 4) (by decide)) rfl (cG_set (k := 4) (by decide) (c := 4) rfl (by omega) (hW.of fun j => by simp only [gN_gS, gN_gA, gN_gSW, gN_gSD, gN_gSC, gN_Glacier_changeWarmth, gN_Glacier_letFall, gN_l_Glacier_letCross_23, gN_Glacier_letCross, gN_Glacier_tryGo, gN_Glacier_tryProbe, gN_Glacier_takeFood, gN_Glacier_tryDrill, gN_l_Glacier_moveStakes_2, gN_Glacier_moveStakes, gN_l_Glacier_moveBridges_2, gN_Glacier_moveBridges, gN_Glacier_weather, gN_l_Glacier_eat_46])) rfl rfl rfl ?_
      rw [if_neg c118_1, if_neg c158_3]
      exact Go.vret d_Glacier_eat_169 rfl ⟨rfl, rfl, rfl⟩
set_option maxRecDepth 100000 in
set_option maxHeartbeats 4000000 in
theorem gN_Glacier_eat {σ : GL} {x1 : Int32} (j : Nat) : gN (s_Glacier_eat σ x1) j = gN σ j := by
  unfold s_Glacier_eat
  (repeat' split) <;> simp only [gN_gS, gN_gA, gN_gSW, gN_gSD, gN_gSC, gN_Glacier_changeWarmth, gN_Glacier_letFall, gN_l_Glacier_letCross_23, gN_Glacier_letCross, gN_Glacier_tryGo, gN_Glacier_tryProbe, gN_Glacier_takeFood, gN_Glacier_tryDrill, gN_l_Glacier_moveStakes_2, gN_Glacier_moveStakes, gN_l_Glacier_moveBridges_2, gN_Glacier_moveBridges, gN_Glacier_weather, gN_l_Glacier_eat_46]
theorem d_Glacier_readStakes_2 : decode M_Glacier_readStakes.2.1 2 = .ok (.iload_n 2, 1) := by decide +kernel
theorem d_Glacier_readStakes_3 : decode M_Glacier_readStakes.2.1 3 = .ok (.aload_n 0, 1) := by decide +kernel
theorem d_Glacier_readStakes_4 : decode M_Glacier_readStakes.2.1 4 = .ok (.getfield 20, 3) := by decide +kernel
theorem d_Glacier_readStakes_7 : decode M_Glacier_readStakes.2.1 7 = .ok (.invokevirtual 68, 3) := by decide +kernel
theorem d_Glacier_readStakes_10 : decode M_Glacier_readStakes.2.1 10 = .ok (.if_icmp .ge 91, 3) := by decide +kernel
theorem d_Glacier_readStakes_13 : decode M_Glacier_readStakes.2.1 13 = .ok (.aload_n 0, 1) := by decide +kernel
theorem d_Glacier_readStakes_14 : decode M_Glacier_readStakes.2.1 14 = .ok (.getfield 20, 3) := by decide +kernel
theorem d_Glacier_readStakes_17 : decode M_Glacier_readStakes.2.1 17 = .ok (.iload_n 2, 1) := by decide +kernel
theorem d_Glacier_readStakes_18 : decode M_Glacier_readStakes.2.1 18 = .ok (.iconst 0, 1) := by decide +kernel
theorem d_Glacier_readStakes_19 : decode M_Glacier_readStakes.2.1 19 = .ok (.invokevirtual 75, 3) := by decide +kernel
theorem d_Glacier_readStakes_22 : decode M_Glacier_readStakes.2.1 22 = .ok (.aload_n 0, 1) := by decide +kernel
theorem d_Glacier_readStakes_23 : decode M_Glacier_readStakes.2.1 23 = .ok (.getfield 29, 3) := by decide +kernel
theorem d_Glacier_readStakes_26 : decode M_Glacier_readStakes.2.1 26 = .ok (.iload_n 1, 1) := by decide +kernel
theorem d_Glacier_readStakes_27 : decode M_Glacier_readStakes.2.1 27 = .ok (.iconst 2, 1) := by decide +kernel
theorem d_Glacier_readStakes_28 : decode M_Glacier_readStakes.2.1 28 = .ok (.invokevirtual 75, 3) := by decide +kernel
theorem d_Glacier_readStakes_31 : decode M_Glacier_readStakes.2.1 31 = .ok (.if_icmp .ne 7, 3) := by decide +kernel
theorem d_Glacier_readStakes_34 : decode M_Glacier_readStakes.2.1 34 = .ok (.iconst 1, 1) := by decide +kernel
theorem d_Glacier_readStakes_35 : decode M_Glacier_readStakes.2.1 35 = .ok (.goto 4, 3) := by decide +kernel
theorem d_Glacier_readStakes_38 : decode M_Glacier_readStakes.2.1 38 = .ok (.iconst 0, 1) := by decide +kernel
theorem d_Glacier_readStakes_39 : decode M_Glacier_readStakes.2.1 39 = .ok (.istore_n 3, 1) := by decide +kernel
theorem d_Glacier_readStakes_40 : decode M_Glacier_readStakes.2.1 40 = .ok (.iload_n 3, 1) := by decide +kernel
theorem d_Glacier_readStakes_41 : decode M_Glacier_readStakes.2.1 41 = .ok (.ifCond .eq 54, 3) := by decide +kernel
theorem d_Glacier_readStakes_44 : decode M_Glacier_readStakes.2.1 44 = .ok (.aload_n 0, 1) := by decide +kernel
theorem d_Glacier_readStakes_45 : decode M_Glacier_readStakes.2.1 45 = .ok (.getfield 20, 3) := by decide +kernel
theorem d_Glacier_readStakes_48 : decode M_Glacier_readStakes.2.1 48 = .ok (.iload_n 2, 1) := by decide +kernel
theorem d_Glacier_readStakes_49 : decode M_Glacier_readStakes.2.1 49 = .ok (.iconst 3, 1) := by decide +kernel
theorem d_Glacier_readStakes_50 : decode M_Glacier_readStakes.2.1 50 = .ok (.invokevirtual 75, 3) := by decide +kernel
theorem d_Glacier_readStakes_53 : decode M_Glacier_readStakes.2.1 53 = .ok (.iconst 1, 1) := by decide +kernel
theorem d_Glacier_readStakes_54 : decode M_Glacier_readStakes.2.1 54 = .ok (.if_icmp .ne 41, 3) := by decide +kernel
theorem d_Glacier_readStakes_57 : decode M_Glacier_readStakes.2.1 57 = .ok (.aload_n 0, 1) := by decide +kernel
theorem d_Glacier_readStakes_58 : decode M_Glacier_readStakes.2.1 58 = .ok (.getfield 20, 3) := by decide +kernel
theorem d_Glacier_readStakes_61 : decode M_Glacier_readStakes.2.1 61 = .ok (.iload_n 2, 1) := by decide +kernel
theorem d_Glacier_readStakes_62 : decode M_Glacier_readStakes.2.1 62 = .ok (.iconst 4, 1) := by decide +kernel
theorem d_Glacier_readStakes_63 : decode M_Glacier_readStakes.2.1 63 = .ok (.aload_n 0, 1) := by decide +kernel
theorem d_Glacier_readStakes_64 : decode M_Glacier_readStakes.2.1 64 = .ok (.getfield 20, 3) := by decide +kernel
theorem d_Glacier_readStakes_67 : decode M_Glacier_readStakes.2.1 67 = .ok (.iload_n 2, 1) := by decide +kernel
theorem d_Glacier_readStakes_68 : decode M_Glacier_readStakes.2.1 68 = .ok (.iconst 2, 1) := by decide +kernel
theorem d_Glacier_readStakes_69 : decode M_Glacier_readStakes.2.1 69 = .ok (.invokevirtual 75, 3) := by decide +kernel
theorem d_Glacier_readStakes_72 : decode M_Glacier_readStakes.2.1 72 = .ok (.invokevirtual 57, 3) := by decide +kernel
theorem d_Glacier_readStakes_75 : decode M_Glacier_readStakes.2.1 75 = .ok (.aload_n 0, 1) := by decide +kernel
theorem d_Glacier_readStakes_76 : decode M_Glacier_readStakes.2.1 76 = .ok (.getfield 20, 3) := by decide +kernel
theorem d_Glacier_readStakes_79 : decode M_Glacier_readStakes.2.1 79 = .ok (.iload_n 2, 1) := by decide +kernel
theorem d_Glacier_readStakes_80 : decode M_Glacier_readStakes.2.1 80 = .ok (.iconst 5, 1) := by decide +kernel
theorem d_Glacier_readStakes_81 : decode M_Glacier_readStakes.2.1 81 = .ok (.iconst 1, 1) := by decide +kernel
theorem d_Glacier_readStakes_82 : decode M_Glacier_readStakes.2.1 82 = .ok (.invokevirtual 127, 3) := by decide +kernel
theorem d_Glacier_readStakes_85 : decode M_Glacier_readStakes.2.1 85 = .ok (.aload_n 0, 1) := by decide +kernel
theorem d_Glacier_readStakes_86 : decode M_Glacier_readStakes.2.1 86 = .ok (.getfield 29, 3) := by decide +kernel
theorem d_Glacier_readStakes_89 : decode M_Glacier_readStakes.2.1 89 = .ok (.iload_n 1, 1) := by decide +kernel
theorem d_Glacier_readStakes_90 : decode M_Glacier_readStakes.2.1 90 = .ok (.iconst 5, 1) := by decide +kernel
theorem d_Glacier_readStakes_91 : decode M_Glacier_readStakes.2.1 91 = .ok (.iconst 1, 1) := by decide +kernel
theorem d_Glacier_readStakes_92 : decode M_Glacier_readStakes.2.1 92 = .ok (.invokevirtual 127, 3) := by decide +kernel
theorem d_Glacier_readStakes_95 : decode M_Glacier_readStakes.2.1 95 = .ok (.iinc 2 1, 3) := by decide +kernel
theorem d_Glacier_readStakes_98 : decode M_Glacier_readStakes.2.1 98 = .ok (.goto (-96), 3) := by decide +kernel
def l_Glacier_readStakes_2 (x1 : Int32) : Nat → Nat → GL → GL
  | 0, _, σ => σ
  | k + 1, i, σ => (if (gG σ 1 (nI i) 0) = (gG σ 4 x1 2) then (if (gG σ 1 (nI i) 3) = 1 then (l_Glacier_readStakes_2 x1 k (i + 1) (gA (gA (gS σ 1 (nI i) 4 (gG σ 1 (nI i) 2)) 1 (nI i) 5 1) 4 x1 5 1)) else (l_Glacier_readStakes_2 x1 k (i + 1) σ)) else (l_Glacier_readStakes_2 x1 k (i + 1) σ))
set_option maxRecDepth 100000 in
set_option maxHeartbeats 4000000 in
theorem l_Glacier_readStakes_2_go {Γ : G9} {h : AH} {g z n : Nat} {Q : QT} {X : XT} {x1 : Int32} (hn20 : n ≤ 20) : ∀ (k i : Nat) (σ : GL), i + k = n → gN σ 1 = n → WFG σ → Go Γ M_Glacier_readStakes 1 0 0 101 [some (.ref g), some (.int x1), some (.int (nI (i + k))), none] [] (blk h g 12 (glC Γ g (l_Glacier_readStakes_2 x1 k i σ))) z Q X → Go Γ M_Glacier_readStakes 1 0 0 2 [some (.ref g), some (.int x1), some (.int (nI i)), none] [] (blk h g 12 (glC Γ g σ)) z Q X := by
  intro k
  induction k with
  | zero =>
    intro i σ hi hn hW hk
    refine Go.iload_2 d_Glacier_readStakes_2 rfl ?_
    refine Go.aload_0 d_Glacier_readStakes_3 rfl ?_
    refine Go.getfield d_Glacier_readStakes_4 rfl f_Glacier_20 gl_obj (by rfl) ?_
    refine Go.cv0r d_Glacier_readStakes_7 rfl l_Glacier_68 k_Table_rows_v (gl_tab (k := 1) (by decide)) rfl (cG_rows (k := 1) (by decide)) rfl rfl rfl ?_
    refine Go.icmp_ge (t := 101) d_Glacier_readStakes_10 (by decide) rfl (fun c10_1 => ?_) (fun c10_1 => ?_)
    · exact hk
    · exact absurd (nI_le (by omega) (by omega)) c10_1
  | succ k ih =>
    intro i σ hi hn hW hk
    unfold l_Glacier_readStakes_2 at hk
    rw [show i + (k + 1) = i + 1 + k by omega] at hk
    refine Go.iload_2 d_Glacier_readStakes_2 rfl ?_
    refine Go.aload_0 d_Glacier_readStakes_3 rfl ?_
    refine Go.getfield d_Glacier_readStakes_4 rfl f_Glacier_20 gl_obj (by rfl) ?_
    refine Go.cv0r d_Glacier_readStakes_7 rfl l_Glacier_68 k_Table_rows_v (gl_tab (k := 1) (by decide)) rfl (cG_rows (k := 1) (by decide)) rfl rfl rfl ?_
    refine Go.icmp_ge (t := 101) d_Glacier_readStakes_10 (by decide) rfl (fun c10_1 => ?_) (fun c10_1 => ?_)
    · exact absurd c10_1 (nI_ge (by omega) (by omega))
    · refine Go.aload_0 d_Glacier_readStakes_13 rfl ?_
      refine Go.getfield d_Glacier_readStakes_14 rfl f_Glacier_20 gl_obj (by rfl) ?_
      refine Go.iload_2 d_Glacier_readStakes_17 rfl ?_
      refine Go.iconst (v := 0) d_Glacier_readStakes_18 rfl (by decide) ?_
      refine Go.cv2r d_Glacier_readStakes_19 rfl l_Glacier_75 k_Table_get_v (gl_tab (k := 1) (by decide)) rfl (cG_get (k := 1) (by decide) (c := 0) rfl (by omega) hW) rfl rfl rfl ?_
      refine Go.aload_0 d_Glacier_readStakes_22 rfl ?_
      refine Go.getfield d_Glacier_readStakes_23 rfl f_Glacier_29 gl_obj (by rfl) ?_
      refine Go.iload_1 d_Glacier_readStakes_26 rfl ?_
      refine Go.iconst (v := 2) d_Glacier_readStakes_27 rfl (by decide) ?_
      refine Go.cv2r d_Glacier_readStakes_28 rfl l_Glacier_75 k_Table_get_v (gl_tab (k := 4) (by decide)) rfl (cG_get (k := 4) (by decide) (c := 2) rfl (by omega) hW) rfl rfl rfl ?_
      refine Go.icmp_ne (t := 38) d_Glacier_readStakes_31 (by decide) rfl (fun c31_2 => ?_) (fun c31_2 => ?_)
      · refine Go.iconst (v := 0) d_Glacier_readStakes_38 rfl (by decide) ?_
        refine Go.istore_3 d_Glacier_readStakes_39 rfl (by rfl) ?_
        refine Go.iload_3 d_Glacier_readStakes_40 rfl ?_
        refine Go.if_eq (t := 95) d_Glacier_readStakes_41 (by decide) rfl (fun c41_3 => ?_) (fun c41_3 => ?_)
        · refine Go.iinc_2 d_Glacier_readStakes_95 rfl (by rfl) (nI_inc _) ?_
          refine Go.goto (t := 2) d_Glacier_readStakes_98 (by decide) ?_
          rw [if_neg c31_2] at hk
          refine Go.fgt [some (.ref g), some (.int x1), some (.int (nI (i + 1))), none] (by repeat' (first | exact trivial | refine ⟨rfl, ?_⟩)) ?_
          exact ih (i + 1) _ (by omega) (by first | exact hn | (simp only [gN_gS, gN_gA, gN_gSW, gN_gSD, gN_gSC, gN_Glacier_changeWarmth, gN_Glacier_letFall, gN_l_Glacier_letCross_23, gN_Glacier_letCross, gN_Glacier_tryGo, gN_Glacier_tryProbe, gN_Glacier_takeFood, gN_Glacier_tryDrill, gN_l_Glacier_moveStakes_2, gN_Glacier_moveStakes, gN_l_Glacier_moveBridges_2, gN_Glacier_moveBridges, gN_Glacier_weather, gN_l_Glacier_eat_46, gN_Glacier_eat]; exact hn)) hW hk
        · exact absurd rfl c41_3
      · refine Go.iconst (v := 1) d_Glacier_readStakes_34 rfl (by decide) ?_
        refine Go.goto (t := 39) d_Glacier_readStakes_35 (by decide) ?_
        refine Go.istore_3 d_Glacier_readStakes_39 rfl (by rfl) ?_
        refine Go.iload_3 d_Glacier_readStakes_40 rfl ?_
        refine Go.if_eq (t := 95) d_Glacier_readStakes_41 (by decide) rfl (fun c41_4 => ?_) (fun c41_4 => ?_)
        · exact absurd c41_4 (by decide)
        · refine Go.aload_0 d_Glacier_readStakes_44 rfl ?_
          refine Go.getfield d_Glacier_readStakes_45 rfl f_Glacier_20 gl_obj (by rfl) ?_
          refine Go.iload_2 d_Glacier_readStakes_48 rfl ?_
          refine Go.iconst (v := 3) d_Glacier_readStakes_49 rfl (by decide) ?_
          refine Go.cv2r d_Glacier_readStakes_50 rfl l_Glacier_75 k_Table_get_v (gl_tab (k := 1) (by decide)) rfl (cG_get (k := 1) (by decide) (c := 3) rfl (by omega) hW) rfl rfl rfl ?_
          refine Go.iconst (v := 1) d_Glacier_readStakes_53 rfl (by decide) ?_
          refine Go.icmp_ne (t := 95) d_Glacier_readStakes_54 (by decide) rfl (fun c54_5 => ?_) (fun c54_5 => ?_)
          · refine Go.iinc_2 d_Glacier_readStakes_95 rfl (by rfl) (nI_inc _) ?_
            refine Go.goto (t := 2) d_Glacier_readStakes_98 (by decide) ?_
            rw [if_pos c31_2, if_neg c54_5] at hk
            refine Go.fgt [some (.ref g), some (.int x1), some (.int (nI (i + 1))), none] (by repeat' (first | exact trivial | refine ⟨rfl, ?_⟩)) ?_
            exact ih (i + 1) _ (by omega) (by first | exact hn | (simp only [gN_gS, gN_gA, gN_gSW, gN_gSD, gN_gSC, gN_Glacier_changeWarmth, gN_Glacier_letFall, gN_l_Glacier_letCross_23, gN_Glacier_letCross, gN_Glacier_tryGo, gN_Glacier_tryProbe, gN_Glacier_takeFood, gN_Glacier_tryDrill, gN_l_Glacier_moveStakes_2, gN_Glacier_moveStakes, gN_l_Glacier_moveBridges_2, gN_Glacier_moveBridges, gN_Glacier_weather, gN_l_Glacier_eat_46, gN_Glacier_eat]; exact hn)) hW hk
          · refine Go.aload_0 d_Glacier_readStakes_57 rfl ?_
            refine Go.getfield d_Glacier_readStakes_58 rfl f_Glacier_20 gl_obj (by rfl) ?_
            refine Go.iload_2 d_Glacier_readStakes_61 rfl ?_
            refine Go.iconst (v := 4) d_Glacier_readStakes_62 rfl (by decide) ?_
            refine Go.aload_0 d_Glacier_readStakes_63 rfl ?_
            refine Go.getfield d_Glacier_readStakes_64 rfl f_Glacier_20 gl_obj (by rfl) ?_
            refine Go.iload_2 d_Glacier_readStakes_67 rfl ?_
            refine Go.iconst (v := 2) d_Glacier_readStakes_68 rfl (by decide) ?_
            refine Go.cv2r d_Glacier_readStakes_69 rfl l_Glacier_75 k_Table_get_v (gl_tab (k := 1) (by decide)) rfl (cG_get (k := 1) (by decide) (c := 2) rfl (by omega) hW) rfl rfl rfl ?_
            refine Go.cv3v d_Glacier_readStakes_72 rfl l_Glacier_57 k_Table_set_v (gl_tab (k := 1) (by decide)) rfl (cG_set (k := 1) (by decide) (c := 4) rfl (by omega) hW) rfl rfl rfl ?_
            refine Go.aload_0 d_Glacier_readStakes_75 rfl ?_
            refine Go.getfield d_Glacier_readStakes_76 rfl f_Glacier_20 gl_obj (by rfl) ?_
            refine Go.iload_2 d_Glacier_readStakes_79 rfl ?_
            refine Go.iconst (v := 5) d_Glacier_readStakes_80 rfl (by decide) ?_
            refine Go.iconst (v := 1) d_Glacier_readStakes_81 rfl (by decide) ?_
            refine Go.cv3v d_Glacier_readStakes_82 rfl l_Glacier_127 k_Table_add_v (gl_tab (k := 1) (by decide)) rfl (cG_add (k := 1) (by decide) (c := 5) rfl (by omega) (hW.of fun j => by simp only [gN_gS, gN_gA, gN_gSW, gN_gSD, gN_gSC, gN_Glacier_changeWarmth, gN_Glacier_letFall, gN_l_Glacier_letCross_23, gN_Glacier_letCross, gN_Glacier_tryGo, gN_Glacier_tryProbe, gN_Glacier_takeFood, gN_Glacier_tryDrill, gN_l_Glacier_moveStakes_2, gN_Glacier_moveStakes, gN_l_Glacier_moveBridges_2, gN_Glacier_moveBridges, gN_Glacier_weather, gN_l_Glacier_eat_46, gN_Glacier_eat])) rfl rfl rfl ?_
            refine Go.aload_0 d_Glacier_readStakes_85 rfl ?_
            refine Go.getfield d_Glacier_readStakes_86 rfl f_Glacier_29 gl_obj (by rfl) ?_
            refine Go.iload_1 d_Glacier_readStakes_89 rfl ?_
            refine Go.iconst (v := 5) d_Glacier_readStakes_90 rfl (by decide) ?_
            refine Go.iconst (v := 1) d_Glacier_readStakes_91 rfl (by decide) ?_
            refine Go.cv3v d_Glacier_readStakes_92 rfl l_Glacier_127 k_Table_add_v (gl_tab (k := 4) (by decide)) rfl (cG_add (k := 4) (by decide) (c := 5) rfl (by omega) (hW.of fun j => by simp only [gN_gS, gN_gA, gN_gSW, gN_gSD, gN_gSC, gN_Glacier_changeWarmth, gN_Glacier_letFall, gN_l_Glacier_letCross_23, gN_Glacier_letCross, gN_Glacier_tryGo, gN_Glacier_tryProbe, gN_Glacier_takeFood, gN_Glacier_tryDrill, gN_l_Glacier_moveStakes_2, gN_Glacier_moveStakes, gN_l_Glacier_moveBridges_2, gN_Glacier_moveBridges, gN_Glacier_weather, gN_l_Glacier_eat_46, gN_Glacier_eat])) rfl rfl rfl ?_
            refine Go.iinc_2 d_Glacier_readStakes_95 rfl (by rfl) (nI_inc _) ?_
            refine Go.goto (t := 2) d_Glacier_readStakes_98 (by decide) ?_
            rw [if_pos c31_2, if_pos c54_5] at hk
            refine Go.fgt [some (.ref g), some (.int x1), some (.int (nI (i + 1))), none] (by repeat' (first | exact trivial | refine ⟨rfl, ?_⟩)) ?_
            exact ih (i + 1) _ (by omega) (by first | exact hn | (simp only [gN_gS, gN_gA, gN_gSW, gN_gSD, gN_gSC, gN_Glacier_changeWarmth, gN_Glacier_letFall, gN_l_Glacier_letCross_23, gN_Glacier_letCross, gN_Glacier_tryGo, gN_Glacier_tryProbe, gN_Glacier_takeFood, gN_Glacier_tryDrill, gN_l_Glacier_moveStakes_2, gN_Glacier_moveStakes, gN_l_Glacier_moveBridges_2, gN_Glacier_moveBridges, gN_Glacier_weather, gN_l_Glacier_eat_46, gN_Glacier_eat]; exact hn)) (hW.of fun j => by simp only [gN_gS, gN_gA, gN_gSW, gN_gSD, gN_gSC, gN_Glacier_changeWarmth, gN_Glacier_letFall, gN_l_Glacier_letCross_23, gN_Glacier_letCross, gN_Glacier_tryGo, gN_Glacier_tryProbe, gN_Glacier_takeFood, gN_Glacier_tryDrill, gN_l_Glacier_moveStakes_2, gN_Glacier_moveStakes, gN_l_Glacier_moveBridges_2, gN_Glacier_moveBridges, gN_Glacier_weather, gN_l_Glacier_eat_46, gN_Glacier_eat]) hk
set_option maxRecDepth 100000 in
set_option maxHeartbeats 4000000 in
theorem gN_l_Glacier_readStakes_2 {x1 : Int32} (j : Nat) : ∀ (k i : Nat) (σ : GL), gN (l_Glacier_readStakes_2 x1 k i σ) j = gN σ j := by
  intro k
  induction k with
  | zero => intros; rfl
  | succ k ih =>
    intros
    unfold l_Glacier_readStakes_2
    (repeat' split) <;> simp only [gN_gS, gN_gA, gN_gSW, gN_gSD, gN_gSC, gN_Glacier_changeWarmth, gN_Glacier_letFall, gN_l_Glacier_letCross_23, gN_Glacier_letCross, gN_Glacier_tryGo, gN_Glacier_tryProbe, gN_Glacier_takeFood, gN_Glacier_tryDrill, gN_l_Glacier_moveStakes_2, gN_Glacier_moveStakes, gN_l_Glacier_moveBridges_2, gN_Glacier_moveBridges, gN_Glacier_weather, gN_l_Glacier_eat_46, gN_Glacier_eat, ih]
theorem d_Glacier_readStakes_0 : decode M_Glacier_readStakes.2.1 0 = .ok (.iconst 0, 1) := by decide +kernel
theorem d_Glacier_readStakes_1 : decode M_Glacier_readStakes.2.1 1 = .ok (.istore_n 2, 1) := by decide +kernel
theorem d_Glacier_readStakes_101 : decode M_Glacier_readStakes.2.1 101 = .ok (.return_, 1) := by decide +kernel
def s_Glacier_readStakes (σ : GL) (x1 : Int32) : GL := (l_Glacier_readStakes_2 x1 (gN σ 1) 0 σ)
set_option maxRecDepth 100000 in
set_option maxHeartbeats 4000000 in
theorem c_Glacier_readStakes {Γ : G9} {h : AH} {g z : Nat} {σ : GL} {x1 : Int32} (hW : WFG σ) : CallR Γ M_Glacier_readStakes 1 [.ref g, .int x1] (blk h g 12 (glC Γ g σ)) z none (blk h g 12 (glC Γ g (s_Glacier_readStakes σ x1))) := by
  refine Call.of_go (L := [some (.ref g), some (.int x1), none, none]) (by decide +kernel) rfl (by exact Nat.le_of_ble_eq_true rfl) ?_
  unfold s_Glacier_readStakes
  refine Go.iconst (v := 0) d_Glacier_readStakes_0 rfl (by decide) ?_
  refine Go.istore_2 d_Glacier_readStakes_1 rfl (by rfl) ?_
  refine l_Glacier_readStakes_2_go (n := (gN σ 1)) (by have := WFG.le (σ := σ) hW (k := 1) (by decide); omega) (gN σ 1) 0 σ (by omega) rfl hW ?_
  exact Go.vret d_Glacier_readStakes_101 rfl ⟨rfl, rfl, rfl⟩
set_option maxRecDepth 100000 in
set_option maxHeartbeats 4000000 in
theorem gN_Glacier_readStakes {σ : GL} {x1 : Int32} (j : Nat) : gN (s_Glacier_readStakes σ x1) j = gN σ j := by
  unfold s_Glacier_readStakes
  (repeat' split) <;> simp only [gN_gS, gN_gA, gN_gSW, gN_gSD, gN_gSC, gN_Glacier_changeWarmth, gN_Glacier_letFall, gN_l_Glacier_letCross_23, gN_Glacier_letCross, gN_Glacier_tryGo, gN_Glacier_tryProbe, gN_Glacier_takeFood, gN_Glacier_tryDrill, gN_l_Glacier_moveStakes_2, gN_Glacier_moveStakes, gN_l_Glacier_moveBridges_2, gN_Glacier_moveBridges, gN_Glacier_weather, gN_l_Glacier_eat_46, gN_Glacier_eat, gN_l_Glacier_readStakes_2]
theorem d_Glacier_endDay_12 : decode M_Glacier_endDay.2.1 12 = .ok (.iload_n 1, 1) := by decide +kernel
theorem d_Glacier_endDay_13 : decode M_Glacier_endDay.2.1 13 = .ok (.aload_n 0, 1) := by decide +kernel
theorem d_Glacier_endDay_14 : decode M_Glacier_endDay.2.1 14 = .ok (.getfield 29, 3) := by decide +kernel
theorem d_Glacier_endDay_17 : decode M_Glacier_endDay.2.1 17 = .ok (.invokevirtual 68, 3) := by decide +kernel
theorem d_Glacier_endDay_20 : decode M_Glacier_endDay.2.1 20 = .ok (.if_icmp .ge 20, 3) := by decide +kernel
theorem d_Glacier_endDay_23 : decode M_Glacier_endDay.2.1 23 = .ok (.aload_n 0, 1) := by decide +kernel
theorem d_Glacier_endDay_24 : decode M_Glacier_endDay.2.1 24 = .ok (.getfield 29, 3) := by decide +kernel
theorem d_Glacier_endDay_27 : decode M_Glacier_endDay.2.1 27 = .ok (.iload_n 1, 1) := by decide +kernel
theorem d_Glacier_endDay_28 : decode M_Glacier_endDay.2.1 28 = .ok (.bipush 7, 2) := by decide +kernel
theorem d_Glacier_endDay_30 : decode M_Glacier_endDay.2.1 30 = .ok (.iconst 0, 1) := by decide +kernel
theorem d_Glacier_endDay_31 : decode M_Glacier_endDay.2.1 31 = .ok (.invokevirtual 57, 3) := by decide +kernel
theorem d_Glacier_endDay_34 : decode M_Glacier_endDay.2.1 34 = .ok (.iinc 1 1, 3) := by decide +kernel
theorem d_Glacier_endDay_37 : decode M_Glacier_endDay.2.1 37 = .ok (.goto (-25), 3) := by decide +kernel
def l_Glacier_endDay_12 : Nat → Nat → GL → GL
  | 0, _, σ => σ
  | k + 1, i, σ => (l_Glacier_endDay_12 k (i + 1) (gS σ 4 (nI i) 7 0))
set_option maxRecDepth 100000 in
set_option maxHeartbeats 4000000 in
theorem l_Glacier_endDay_12_go {Γ : G9} {h : AH} {g z n : Nat} {Q : QT} {X : XT} (hn20 : n ≤ 20) : ∀ (k i : Nat) (σ : GL), i + k = n → gN σ 4 = n → WFG σ → Go Γ M_Glacier_endDay 1 0 0 40 [some (.ref g), some (.int (nI (i + k)))] [] (blk h g 12 (glC Γ g (l_Glacier_endDay_12 k i σ))) z Q X → Go Γ M_Glacier_endDay 1 0 0 12 [some (.ref g), some (.int (nI i))] [] (blk h g 12 (glC Γ g σ)) z Q X := by
  intro k
  induction k with
  | zero =>
    intro i σ hi hn hW hk
    refine Go.iload_1 d_Glacier_endDay_12 rfl ?_
    refine Go.aload_0 d_Glacier_endDay_13 rfl ?_
    refine Go.getfield d_Glacier_endDay_14 rfl f_Glacier_29 gl_obj (by rfl) ?_
    refine Go.cv0r d_Glacier_endDay_17 rfl l_Glacier_68 k_Table_rows_v (gl_tab (k := 4) (by decide)) rfl (cG_rows (k := 4) (by decide)) rfl rfl rfl ?_
    refine Go.icmp_ge (t := 40) d_Glacier_endDay_20 (by decide) rfl (fun c20_1 => ?_) (fun c20_1 => ?_)
    · exact hk
    · exact absurd (nI_le (by omega) (by omega)) c20_1
  | succ k ih =>
    intro i σ hi hn hW hk
    unfold l_Glacier_endDay_12 at hk
    rw [show i + (k + 1) = i + 1 + k by omega] at hk
    refine Go.iload_1 d_Glacier_endDay_12 rfl ?_
    refine Go.aload_0 d_Glacier_endDay_13 rfl ?_
    refine Go.getfield d_Glacier_endDay_14 rfl f_Glacier_29 gl_obj (by rfl) ?_
    refine Go.cv0r d_Glacier_endDay_17 rfl l_Glacier_68 k_Table_rows_v (gl_tab (k := 4) (by decide)) rfl (cG_rows (k := 4) (by decide)) rfl rfl rfl ?_
    refine Go.icmp_ge (t := 40) d_Glacier_endDay_20 (by decide) rfl (fun c20_1 => ?_) (fun c20_1 => ?_)
    · exact absurd c20_1 (nI_ge (by omega) (by omega))
    · refine Go.aload_0 d_Glacier_endDay_23 rfl ?_
      refine Go.getfield d_Glacier_endDay_24 rfl f_Glacier_29 gl_obj (by rfl) ?_
      refine Go.iload_1 d_Glacier_endDay_27 rfl ?_
      refine Go.bipush (v := 7) d_Glacier_endDay_28 rfl (by decide) ?_
      refine Go.iconst (v := 0) d_Glacier_endDay_30 rfl (by decide) ?_
      refine Go.cv3v d_Glacier_endDay_31 rfl l_Glacier_57 k_Table_set_v (gl_tab (k := 4) (by decide)) rfl (cG_set (k := 4) (by decide) (c := 7) rfl (by omega) hW) rfl rfl rfl ?_
      refine Go.iinc_1 d_Glacier_endDay_34 rfl (by rfl) (nI_inc _) ?_
      refine Go.goto (t := 12) d_Glacier_endDay_37 (by decide) ?_
      exact ih (i + 1) _ (by omega) (by first | exact hn | (simp only [gN_gS, gN_gA, gN_gSW, gN_gSD, gN_gSC, gN_Glacier_changeWarmth, gN_Glacier_letFall, gN_l_Glacier_letCross_23, gN_Glacier_letCross, gN_Glacier_tryGo, gN_Glacier_tryProbe, gN_Glacier_takeFood, gN_Glacier_tryDrill, gN_l_Glacier_moveStakes_2, gN_Glacier_moveStakes, gN_l_Glacier_moveBridges_2, gN_Glacier_moveBridges, gN_Glacier_weather, gN_l_Glacier_eat_46, gN_Glacier_eat, gN_l_Glacier_readStakes_2, gN_Glacier_readStakes]; exact hn)) (hW.of fun j => by simp only [gN_gS, gN_gA, gN_gSW, gN_gSD, gN_gSC, gN_Glacier_changeWarmth, gN_Glacier_letFall, gN_l_Glacier_letCross_23, gN_Glacier_letCross, gN_Glacier_tryGo, gN_Glacier_tryProbe, gN_Glacier_takeFood, gN_Glacier_tryDrill, gN_l_Glacier_moveStakes_2, gN_Glacier_moveStakes, gN_l_Glacier_moveBridges_2, gN_Glacier_moveBridges, gN_Glacier_weather, gN_l_Glacier_eat_46, gN_Glacier_eat, gN_l_Glacier_readStakes_2, gN_Glacier_readStakes]) hk
set_option maxRecDepth 100000 in
set_option maxHeartbeats 4000000 in
theorem gN_l_Glacier_endDay_12 (j : Nat) : ∀ (k i : Nat) (σ : GL), gN (l_Glacier_endDay_12 k i σ) j = gN σ j := by
  intro k
  induction k with
  | zero => intros; rfl
  | succ k ih =>
    intros
    unfold l_Glacier_endDay_12
    (repeat' split) <;> simp only [gN_gS, gN_gA, gN_gSW, gN_gSD, gN_gSC, gN_Glacier_changeWarmth, gN_Glacier_letFall, gN_l_Glacier_letCross_23, gN_Glacier_letCross, gN_Glacier_tryGo, gN_Glacier_tryProbe, gN_Glacier_takeFood, gN_Glacier_tryDrill, gN_l_Glacier_moveStakes_2, gN_Glacier_moveStakes, gN_l_Glacier_moveBridges_2, gN_Glacier_moveBridges, gN_Glacier_weather, gN_l_Glacier_eat_46, gN_Glacier_eat, gN_l_Glacier_readStakes_2, gN_Glacier_readStakes, ih]
theorem d_Glacier_endDay_42 : decode M_Glacier_endDay.2.1 42 = .ok (.iload_n 1, 1) := by decide +kernel
theorem d_Glacier_endDay_43 : decode M_Glacier_endDay.2.1 43 = .ok (.aload_n 0, 1) := by decide +kernel
theorem d_Glacier_endDay_44 : decode M_Glacier_endDay.2.1 44 = .ok (.getfield 23, 3) := by decide +kernel
theorem d_Glacier_endDay_47 : decode M_Glacier_endDay.2.1 47 = .ok (.invokevirtual 68, 3) := by decide +kernel
theorem d_Glacier_endDay_50 : decode M_Glacier_endDay.2.1 50 = .ok (.if_icmp .ge 33, 3) := by decide +kernel
theorem d_Glacier_endDay_53 : decode M_Glacier_endDay.2.1 53 = .ok (.aload_n 0, 1) := by decide +kernel
theorem d_Glacier_endDay_54 : decode M_Glacier_endDay.2.1 54 = .ok (.getfield 23, 3) := by decide +kernel
theorem d_Glacier_endDay_57 : decode M_Glacier_endDay.2.1 57 = .ok (.iload_n 1, 1) := by decide +kernel
theorem d_Glacier_endDay_58 : decode M_Glacier_endDay.2.1 58 = .ok (.iconst 2, 1) := by decide +kernel
theorem d_Glacier_endDay_59 : decode M_Glacier_endDay.2.1 59 = .ok (.iconst 0, 1) := by decide +kernel
theorem d_Glacier_endDay_60 : decode M_Glacier_endDay.2.1 60 = .ok (.aload_n 0, 1) := by decide +kernel
theorem d_Glacier_endDay_61 : decode M_Glacier_endDay.2.1 61 = .ok (.getfield 23, 3) := by decide +kernel
theorem d_Glacier_endDay_64 : decode M_Glacier_endDay.2.1 64 = .ok (.iload_n 1, 1) := by decide +kernel
theorem d_Glacier_endDay_65 : decode M_Glacier_endDay.2.1 65 = .ok (.iconst 2, 1) := by decide +kernel
theorem d_Glacier_endDay_66 : decode M_Glacier_endDay.2.1 66 = .ok (.invokevirtual 75, 3) := by decide +kernel
theorem d_Glacier_endDay_69 : decode M_Glacier_endDay.2.1 69 = .ok (.iconst 1, 1) := by decide +kernel
theorem d_Glacier_endDay_70 : decode M_Glacier_endDay.2.1 70 = .ok (.isub, 1) := by decide +kernel
theorem d_Glacier_endDay_71 : decode M_Glacier_endDay.2.1 71 = .ok (.invokestatic 136, 3) := by decide +kernel
theorem d_Glacier_endDay_74 : decode M_Glacier_endDay.2.1 74 = .ok (.invokevirtual 57, 3) := by decide +kernel
theorem d_Glacier_endDay_77 : decode M_Glacier_endDay.2.1 77 = .ok (.iinc 1 1, 3) := by decide +kernel
theorem d_Glacier_endDay_80 : decode M_Glacier_endDay.2.1 80 = .ok (.goto (-38), 3) := by decide +kernel
def l_Glacier_endDay_42 : Nat → Nat → GL → GL
  | 0, _, σ => σ
  | k + 1, i, σ => (l_Glacier_endDay_42 k (i + 1) (gS σ 2 (nI i) 2 (iMax 0 ((gG σ 2 (nI i) 2) - 1))))
set_option maxRecDepth 100000 in
set_option maxHeartbeats 4000000 in
theorem l_Glacier_endDay_42_go {Γ : G9} {h : AH} {g z n : Nat} {Q : QT} {X : XT} (hn20 : n ≤ 20) : ∀ (k i : Nat) (σ : GL), i + k = n → gN σ 2 = n → WFG σ → Go Γ M_Glacier_endDay 1 0 0 83 [some (.ref g), some (.int (nI (i + k)))] [] (blk h g 12 (glC Γ g (l_Glacier_endDay_42 k i σ))) z Q X → Go Γ M_Glacier_endDay 1 0 0 42 [some (.ref g), some (.int (nI i))] [] (blk h g 12 (glC Γ g σ)) z Q X := by
  intro k
  induction k with
  | zero =>
    intro i σ hi hn hW hk
    refine Go.iload_1 d_Glacier_endDay_42 rfl ?_
    refine Go.aload_0 d_Glacier_endDay_43 rfl ?_
    refine Go.getfield d_Glacier_endDay_44 rfl f_Glacier_23 gl_obj (by rfl) ?_
    refine Go.cv0r d_Glacier_endDay_47 rfl l_Glacier_68 k_Table_rows_v (gl_tab (k := 2) (by decide)) rfl (cG_rows (k := 2) (by decide)) rfl rfl rfl ?_
    refine Go.icmp_ge (t := 83) d_Glacier_endDay_50 (by decide) rfl (fun c50_1 => ?_) (fun c50_1 => ?_)
    · exact hk
    · exact absurd (nI_le (by omega) (by omega)) c50_1
  | succ k ih =>
    intro i σ hi hn hW hk
    unfold l_Glacier_endDay_42 at hk
    rw [show i + (k + 1) = i + 1 + k by omega] at hk
    refine Go.iload_1 d_Glacier_endDay_42 rfl ?_
    refine Go.aload_0 d_Glacier_endDay_43 rfl ?_
    refine Go.getfield d_Glacier_endDay_44 rfl f_Glacier_23 gl_obj (by rfl) ?_
    refine Go.cv0r d_Glacier_endDay_47 rfl l_Glacier_68 k_Table_rows_v (gl_tab (k := 2) (by decide)) rfl (cG_rows (k := 2) (by decide)) rfl rfl rfl ?_
    refine Go.icmp_ge (t := 83) d_Glacier_endDay_50 (by decide) rfl (fun c50_1 => ?_) (fun c50_1 => ?_)
    · exact absurd c50_1 (nI_ge (by omega) (by omega))
    · refine Go.aload_0 d_Glacier_endDay_53 rfl ?_
      refine Go.getfield d_Glacier_endDay_54 rfl f_Glacier_23 gl_obj (by rfl) ?_
      refine Go.iload_1 d_Glacier_endDay_57 rfl ?_
      refine Go.iconst (v := 2) d_Glacier_endDay_58 rfl (by decide) ?_
      refine Go.iconst (v := 0) d_Glacier_endDay_59 rfl (by decide) ?_
      refine Go.aload_0 d_Glacier_endDay_60 rfl ?_
      refine Go.getfield d_Glacier_endDay_61 rfl f_Glacier_23 gl_obj (by rfl) ?_
      refine Go.iload_1 d_Glacier_endDay_64 rfl ?_
      refine Go.iconst (v := 2) d_Glacier_endDay_65 rfl (by decide) ?_
      refine Go.cv2r d_Glacier_endDay_66 rfl l_Glacier_75 k_Table_get_v (gl_tab (k := 2) (by decide)) rfl (cG_get (k := 2) (by decide) (c := 2) rfl (by omega) hW) rfl rfl rfl ?_
      refine Go.iconst (v := 1) d_Glacier_endDay_69 rfl (by decide) ?_
      refine Go.isub d_Glacier_endDay_70 rfl ?_
      refine Go.imax d_Glacier_endDay_71 rfl l_Glacier_136 (by decide) rfl ?_
      refine Go.cv3v d_Glacier_endDay_74 rfl l_Glacier_57 k_Table_set_v (gl_tab (k := 2) (by decide)) rfl (cG_set (k := 2) (by decide) (c := 2) rfl (by omega) hW) rfl rfl rfl ?_
      refine Go.iinc_1 d_Glacier_endDay_77 rfl (by rfl) (nI_inc _) ?_
      refine Go.goto (t := 42) d_Glacier_endDay_80 (by decide) ?_
      exact ih (i + 1) _ (by omega) (by first | exact hn | (simp only [gN_gS, gN_gA, gN_gSW, gN_gSD, gN_gSC, gN_Glacier_changeWarmth, gN_Glacier_letFall, gN_l_Glacier_letCross_23, gN_Glacier_letCross, gN_Glacier_tryGo, gN_Glacier_tryProbe, gN_Glacier_takeFood, gN_Glacier_tryDrill, gN_l_Glacier_moveStakes_2, gN_Glacier_moveStakes, gN_l_Glacier_moveBridges_2, gN_Glacier_moveBridges, gN_Glacier_weather, gN_l_Glacier_eat_46, gN_Glacier_eat, gN_l_Glacier_readStakes_2, gN_Glacier_readStakes, gN_l_Glacier_endDay_12]; exact hn)) (hW.of fun j => by simp only [gN_gS, gN_gA, gN_gSW, gN_gSD, gN_gSC, gN_Glacier_changeWarmth, gN_Glacier_letFall, gN_l_Glacier_letCross_23, gN_Glacier_letCross, gN_Glacier_tryGo, gN_Glacier_tryProbe, gN_Glacier_takeFood, gN_Glacier_tryDrill, gN_l_Glacier_moveStakes_2, gN_Glacier_moveStakes, gN_l_Glacier_moveBridges_2, gN_Glacier_moveBridges, gN_Glacier_weather, gN_l_Glacier_eat_46, gN_Glacier_eat, gN_l_Glacier_readStakes_2, gN_Glacier_readStakes, gN_l_Glacier_endDay_12]) hk
set_option maxRecDepth 100000 in
set_option maxHeartbeats 4000000 in
theorem gN_l_Glacier_endDay_42 (j : Nat) : ∀ (k i : Nat) (σ : GL), gN (l_Glacier_endDay_42 k i σ) j = gN σ j := by
  intro k
  induction k with
  | zero => intros; rfl
  | succ k ih =>
    intros
    unfold l_Glacier_endDay_42
    (repeat' split) <;> simp only [gN_gS, gN_gA, gN_gSW, gN_gSD, gN_gSC, gN_Glacier_changeWarmth, gN_Glacier_letFall, gN_l_Glacier_letCross_23, gN_Glacier_letCross, gN_Glacier_tryGo, gN_Glacier_tryProbe, gN_Glacier_takeFood, gN_Glacier_tryDrill, gN_l_Glacier_moveStakes_2, gN_Glacier_moveStakes, gN_l_Glacier_moveBridges_2, gN_Glacier_moveBridges, gN_Glacier_weather, gN_l_Glacier_eat_46, gN_Glacier_eat, gN_l_Glacier_readStakes_2, gN_Glacier_readStakes, gN_l_Glacier_endDay_12, ih]
theorem d_Glacier_endDay_0 : decode M_Glacier_endDay.2.1 0 = .ok (.aload_n 0, 1) := by decide +kernel
theorem d_Glacier_endDay_1 : decode M_Glacier_endDay.2.1 1 = .ok (.dup, 1) := by decide +kernel
theorem d_Glacier_endDay_2 : decode M_Glacier_endDay.2.1 2 = .ok (.getfield 42, 3) := by decide +kernel
theorem d_Glacier_endDay_5 : decode M_Glacier_endDay.2.1 5 = .ok (.iconst 1, 1) := by decide +kernel
theorem d_Glacier_endDay_6 : decode M_Glacier_endDay.2.1 6 = .ok (.iadd, 1) := by decide +kernel
theorem d_Glacier_endDay_7 : decode M_Glacier_endDay.2.1 7 = .ok (.putfield 42, 3) := by decide +kernel
theorem d_Glacier_endDay_10 : decode M_Glacier_endDay.2.1 10 = .ok (.iconst 0, 1) := by decide +kernel
theorem d_Glacier_endDay_11 : decode M_Glacier_endDay.2.1 11 = .ok (.istore_n 1, 1) := by decide +kernel
theorem d_Glacier_endDay_40 : decode M_Glacier_endDay.2.1 40 = .ok (.iconst 0, 1) := by decide +kernel
theorem d_Glacier_endDay_41 : decode M_Glacier_endDay.2.1 41 = .ok (.istore_n 1, 1) := by decide +kernel
theorem d_Glacier_endDay_83 : decode M_Glacier_endDay.2.1 83 = .ok (.return_, 1) := by decide +kernel
def s_Glacier_endDay (σ : GL) : GL := (l_Glacier_endDay_42 (gN (l_Glacier_endDay_12 (gN (gSD σ ((gD σ) + 1)) 4) 0 (gSD σ ((gD σ) + 1))) 2) 0 (l_Glacier_endDay_12 (gN (gSD σ ((gD σ) + 1)) 4) 0 (gSD σ ((gD σ) + 1))))
set_option maxRecDepth 100000 in
set_option maxHeartbeats 4000000 in
theorem c_Glacier_endDay {Γ : G9} {h : AH} {g z : Nat} {σ : GL} (hW : WFG σ) : CallR Γ M_Glacier_endDay 1 [.ref g] (blk h g 12 (glC Γ g σ)) z none (blk h g 12 (glC Γ g (s_Glacier_endDay σ))) := by
  refine Call.of_go (L := [some (.ref g), none]) (by decide +kernel) rfl (by exact Nat.le_of_ble_eq_true rfl) ?_
  unfold s_Glacier_endDay
  refine Go.aload_0 d_Glacier_endDay_0 rfl ?_
  refine Go.dup d_Glacier_endDay_1 rfl rfl ?_
  refine Go.getfield d_Glacier_endDay_2 rfl f_Glacier_42 gl_obj (by rfl) ?_
  refine Go.iconst (v := 1) d_Glacier_endDay_5 rfl (by decide) ?_
  refine Go.iadd d_Glacier_endDay_6 rfl ?_
  refine Go.putfield d_Glacier_endDay_7 rfl f_Glacier_42_p (Or.inl (fun C T N h => by cases h; rfl)) gl_obj (by exact Nat.le_of_ble_eq_true rfl) rfl rfl ?_
  refine Go.heq gl_putD ?_
  refine Go.iconst (v := 0) d_Glacier_endDay_10 rfl (by decide) ?_
  refine Go.istore_1 d_Glacier_endDay_11 rfl (by rfl) ?_
  refine l_Glacier_endDay_12_go (n := (gN (gSD σ ((gD σ) + 1)) 4)) (by have := WFG.le (σ := (gSD σ ((gD σ) + 1))) (hW.of fun j => by simp only [gN_gS, gN_gA, gN_gSW, gN_gSD, gN_gSC, gN_Glacier_changeWarmth, gN_Glacier_letFall, gN_l_Glacier_letCross_23, gN_Glacier_letCross, gN_Glacier_tryGo, gN_Glacier_tryProbe, gN_Glacier_takeFood, gN_Glacier_tryDrill, gN_l_Glacier_moveStakes_2, gN_Glacier_moveStakes, gN_l_Glacier_moveBridges_2, gN_Glacier_moveBridges, gN_Glacier_weather, gN_l_Glacier_eat_46, gN_Glacier_eat, gN_l_Glacier_readStakes_2, gN_Glacier_readStakes, gN_l_Glacier_endDay_12, gN_l_Glacier_endDay_42]) (k := 4) (by decide); omega) (gN (gSD σ ((gD σ) + 1)) 4) 0 (gSD σ ((gD σ) + 1)) (by omega) rfl (hW.of fun j => by simp only [gN_gS, gN_gA, gN_gSW, gN_gSD, gN_gSC, gN_Glacier_changeWarmth, gN_Glacier_letFall, gN_l_Glacier_letCross_23, gN_Glacier_letCross, gN_Glacier_tryGo, gN_Glacier_tryProbe, gN_Glacier_takeFood, gN_Glacier_tryDrill, gN_l_Glacier_moveStakes_2, gN_Glacier_moveStakes, gN_l_Glacier_moveBridges_2, gN_Glacier_moveBridges, gN_Glacier_weather, gN_l_Glacier_eat_46, gN_Glacier_eat, gN_l_Glacier_readStakes_2, gN_Glacier_readStakes, gN_l_Glacier_endDay_12, gN_l_Glacier_endDay_42]) ?_
  refine Go.iconst (v := 0) d_Glacier_endDay_40 rfl (by decide) ?_
  refine Go.istore_1 d_Glacier_endDay_41 rfl (by rfl) ?_
  refine l_Glacier_endDay_42_go (n := (gN (l_Glacier_endDay_12 (gN (gSD σ ((gD σ) + 1)) 4) 0 (gSD σ ((gD σ) + 1))) 2)) (by have := WFG.le (σ := (l_Glacier_endDay_12 (gN (gSD σ ((gD σ) + 1)) 4) 0 (gSD σ ((gD σ) + 1)))) (hW.of fun j => by simp only [gN_gS, gN_gA, gN_gSW, gN_gSD, gN_gSC, gN_Glacier_changeWarmth, gN_Glacier_letFall, gN_l_Glacier_letCross_23, gN_Glacier_letCross, gN_Glacier_tryGo, gN_Glacier_tryProbe, gN_Glacier_takeFood, gN_Glacier_tryDrill, gN_l_Glacier_moveStakes_2, gN_Glacier_moveStakes, gN_l_Glacier_moveBridges_2, gN_Glacier_moveBridges, gN_Glacier_weather, gN_l_Glacier_eat_46, gN_Glacier_eat, gN_l_Glacier_readStakes_2, gN_Glacier_readStakes, gN_l_Glacier_endDay_12, gN_l_Glacier_endDay_42]) (k := 2) (by decide); omega) (gN (l_Glacier_endDay_12 (gN (gSD σ ((gD σ) + 1)) 4) 0 (gSD σ ((gD σ) + 1))) 2) 0 (l_Glacier_endDay_12 (gN (gSD σ ((gD σ) + 1)) 4) 0 (gSD σ ((gD σ) + 1))) (by omega) rfl (hW.of fun j => by simp only [gN_gS, gN_gA, gN_gSW, gN_gSD, gN_gSC, gN_Glacier_changeWarmth, gN_Glacier_letFall, gN_l_Glacier_letCross_23, gN_Glacier_letCross, gN_Glacier_tryGo, gN_Glacier_tryProbe, gN_Glacier_takeFood, gN_Glacier_tryDrill, gN_l_Glacier_moveStakes_2, gN_Glacier_moveStakes, gN_l_Glacier_moveBridges_2, gN_Glacier_moveBridges, gN_Glacier_weather, gN_l_Glacier_eat_46, gN_Glacier_eat, gN_l_Glacier_readStakes_2, gN_Glacier_readStakes, gN_l_Glacier_endDay_12, gN_l_Glacier_endDay_42]) ?_
  exact Go.vret d_Glacier_endDay_83 rfl ⟨rfl, rfl, rfl⟩
set_option maxRecDepth 100000 in
set_option maxHeartbeats 4000000 in
theorem gN_Glacier_endDay {σ : GL} (j : Nat) : gN (s_Glacier_endDay σ) j = gN σ j := by
  unfold s_Glacier_endDay
  (repeat' split) <;> simp only [gN_gS, gN_gA, gN_gSW, gN_gSD, gN_gSC, gN_Glacier_changeWarmth, gN_Glacier_letFall, gN_l_Glacier_letCross_23, gN_Glacier_letCross, gN_Glacier_tryGo, gN_Glacier_tryProbe, gN_Glacier_takeFood, gN_Glacier_tryDrill, gN_l_Glacier_moveStakes_2, gN_Glacier_moveStakes, gN_l_Glacier_moveBridges_2, gN_Glacier_moveBridges, gN_Glacier_weather, gN_l_Glacier_eat_46, gN_Glacier_eat, gN_l_Glacier_readStakes_2, gN_Glacier_readStakes, gN_l_Glacier_endDay_12, gN_l_Glacier_endDay_42]
theorem taddT_le {cap : Nat} {T : TM} (h : T.2 ≤ cap) : (taddT cap T).2 ≤ cap := by
  unfold taddT
  split
  · show T.2 + 1 ≤ cap; omega
  · exact h
theorem WFG.add {σ : GL} (hW : WFG σ) {k : Nat} (hk : k < 5) : WFG (gP σ k (taddT (capG k) (σ.1 k))) := by
  intro j hj
  show (if j = k then _ else σ.1 j).2 ≤ _
  by_cases h : j = k
  · subst h; rw [if_pos rfl]; exact taddT_le (hW j hj)
  · rw [if_neg h]; exact hW j hj
theorem d_Glacier_addBand_0 : decode M_Glacier_addBand.2.1 0 = .ok (.aload_n 0, 1) := by decide +kernel
theorem d_Glacier_addBand_1 : decode M_Glacier_addBand.2.1 1 = .ok (.getfield 14, 3) := by decide +kernel
theorem d_Glacier_addBand_4 : decode M_Glacier_addBand.2.1 4 = .ok (.invokevirtual 53, 3) := by decide +kernel
theorem d_Glacier_addBand_7 : decode M_Glacier_addBand.2.1 7 = .ok (.istore_n 3, 1) := by decide +kernel
theorem d_Glacier_addBand_8 : decode M_Glacier_addBand.2.1 8 = .ok (.aload_n 0, 1) := by decide +kernel
theorem d_Glacier_addBand_9 : decode M_Glacier_addBand.2.1 9 = .ok (.getfield 14, 3) := by decide +kernel
theorem d_Glacier_addBand_12 : decode M_Glacier_addBand.2.1 12 = .ok (.iload_n 3, 1) := by decide +kernel
theorem d_Glacier_addBand_13 : decode M_Glacier_addBand.2.1 13 = .ok (.iconst 0, 1) := by decide +kernel
theorem d_Glacier_addBand_14 : decode M_Glacier_addBand.2.1 14 = .ok (.iload_n 1, 1) := by decide +kernel
theorem d_Glacier_addBand_15 : decode M_Glacier_addBand.2.1 15 = .ok (.invokevirtual 57, 3) := by decide +kernel
theorem d_Glacier_addBand_18 : decode M_Glacier_addBand.2.1 18 = .ok (.aload_n 0, 1) := by decide +kernel
theorem d_Glacier_addBand_19 : decode M_Glacier_addBand.2.1 19 = .ok (.getfield 14, 3) := by decide +kernel
theorem d_Glacier_addBand_22 : decode M_Glacier_addBand.2.1 22 = .ok (.iload_n 3, 1) := by decide +kernel
theorem d_Glacier_addBand_23 : decode M_Glacier_addBand.2.1 23 = .ok (.iconst 1, 1) := by decide +kernel
theorem d_Glacier_addBand_24 : decode M_Glacier_addBand.2.1 24 = .ok (.iload_n 2, 1) := by decide +kernel
theorem d_Glacier_addBand_25 : decode M_Glacier_addBand.2.1 25 = .ok (.invokevirtual 57, 3) := by decide +kernel
theorem d_Glacier_addBand_28 : decode M_Glacier_addBand.2.1 28 = .ok (.return_, 1) := by decide +kernel
def s_Glacier_addBand (σ : GL) (x1 : Int32) (x2 : Int32) : GL := (gS (gS (gP σ 0 (taddT (capG 0) (σ.1 0))) 0 (taddR (capG 0) (σ.1 0)) 0 x1) 0 (taddR (capG 0) (σ.1 0)) 1 x2)
set_option maxRecDepth 100000 in
set_option maxHeartbeats 4000000 in
theorem c_Glacier_addBand {Γ : G9} {h : AH} {g z : Nat} {σ : GL} {x1 : Int32} {x2 : Int32} (hW : WFG σ) : CallR Γ M_Glacier_addBand 1 [.ref g, .int x1, .int x2] (blk h g 12 (glC Γ g σ)) z none (blk h g 12 (glC Γ g (s_Glacier_addBand σ x1 x2))) := by
  refine Call.of_go (L := [some (.ref g), some (.int x1), some (.int x2), none]) (by decide +kernel) rfl (by exact Nat.le_of_ble_eq_true rfl) ?_
  unfold s_Glacier_addBand
  refine Go.aload_0 d_Glacier_addBand_0 rfl ?_
  refine Go.getfield d_Glacier_addBand_1 rfl f_Glacier_14 gl_obj (by rfl) ?_
  refine Go.cv0r d_Glacier_addBand_4 rfl l_Glacier_53 k_Table_addRow_v (gl_tab (k := 0) (by decide)) rfl (cG_addRow (k := 0) (by decide) hW) rfl rfl rfl ?_
  refine Go.istore_3 d_Glacier_addBand_7 rfl (by rfl) ?_
  refine Go.aload_0 d_Glacier_addBand_8 rfl ?_
  refine Go.getfield d_Glacier_addBand_9 rfl f_Glacier_14 gl_obj (by rfl) ?_
  refine Go.iload_3 d_Glacier_addBand_12 rfl ?_
  refine Go.iconst (v := 0) d_Glacier_addBand_13 rfl (by decide) ?_
  refine Go.iload_1 d_Glacier_addBand_14 rfl ?_
  refine Go.cv3v d_Glacier_addBand_15 rfl l_Glacier_57 k_Table_set_v (gl_tab (k := 0) (by decide)) rfl (cG_set (k := 0) (by decide) (c := 0) rfl (by omega) ((WFG.add (k := 0) hW (by decide)).of fun j => by first | rfl | simp only [gN_gS, gN_gA, gN_gSW, gN_gSD, gN_gSC, gN_Glacier_changeWarmth, gN_Glacier_letFall, gN_l_Glacier_letCross_23, gN_Glacier_letCross, gN_Glacier_tryGo, gN_Glacier_tryProbe, gN_Glacier_takeFood, gN_Glacier_tryDrill, gN_l_Glacier_moveStakes_2, gN_Glacier_moveStakes, gN_l_Glacier_moveBridges_2, gN_Glacier_moveBridges, gN_Glacier_weather, gN_l_Glacier_eat_46, gN_Glacier_eat, gN_l_Glacier_readStakes_2, gN_Glacier_readStakes, gN_l_Glacier_endDay_12, gN_l_Glacier_endDay_42, gN_Glacier_endDay])) rfl rfl rfl ?_
  refine Go.aload_0 d_Glacier_addBand_18 rfl ?_
  refine Go.getfield d_Glacier_addBand_19 rfl f_Glacier_14 gl_obj (by rfl) ?_
  refine Go.iload_3 d_Glacier_addBand_22 rfl ?_
  refine Go.iconst (v := 1) d_Glacier_addBand_23 rfl (by decide) ?_
  refine Go.iload_2 d_Glacier_addBand_24 rfl ?_
  refine Go.cv3v d_Glacier_addBand_25 rfl l_Glacier_57 k_Table_set_v (gl_tab (k := 0) (by decide)) rfl (cG_set (k := 0) (by decide) (c := 1) rfl (by omega) ((WFG.add (k := 0) hW (by decide)).of fun j => by first | rfl | simp only [gN_gS, gN_gA, gN_gSW, gN_gSD, gN_gSC, gN_Glacier_changeWarmth, gN_Glacier_letFall, gN_l_Glacier_letCross_23, gN_Glacier_letCross, gN_Glacier_tryGo, gN_Glacier_tryProbe, gN_Glacier_takeFood, gN_Glacier_tryDrill, gN_l_Glacier_moveStakes_2, gN_Glacier_moveStakes, gN_l_Glacier_moveBridges_2, gN_Glacier_moveBridges, gN_Glacier_weather, gN_l_Glacier_eat_46, gN_Glacier_eat, gN_l_Glacier_readStakes_2, gN_Glacier_readStakes, gN_l_Glacier_endDay_12, gN_l_Glacier_endDay_42, gN_Glacier_endDay])) rfl rfl rfl ?_
  exact Go.vret d_Glacier_addBand_28 rfl ⟨rfl, rfl, rfl⟩
set_option maxRecDepth 100000 in
set_option maxHeartbeats 4000000 in
theorem wf_Glacier_addBand {σ : GL} {x1 x2 : Int32} (hW : WFG σ) : WFG (s_Glacier_addBand σ x1 x2) := by
  unfold s_Glacier_addBand
  exact (WFG.add (k := 0) hW (by decide)).of fun j => by simp only [gN_gS, gN_gA, gN_gSW, gN_gSD, gN_gSC, gN_Glacier_changeWarmth, gN_Glacier_letFall, gN_l_Glacier_letCross_23, gN_Glacier_letCross, gN_Glacier_tryGo, gN_Glacier_tryProbe, gN_Glacier_takeFood, gN_Glacier_tryDrill, gN_l_Glacier_moveStakes_2, gN_Glacier_moveStakes, gN_l_Glacier_moveBridges_2, gN_Glacier_moveBridges, gN_Glacier_weather, gN_l_Glacier_eat_46, gN_Glacier_eat, gN_l_Glacier_readStakes_2, gN_Glacier_readStakes, gN_l_Glacier_endDay_12, gN_l_Glacier_endDay_42, gN_Glacier_endDay]
theorem d_Glacier_addStake_0 : decode M_Glacier_addStake.2.1 0 = .ok (.aload_n 0, 1) := by decide +kernel
theorem d_Glacier_addStake_1 : decode M_Glacier_addStake.2.1 1 = .ok (.getfield 20, 3) := by decide +kernel
theorem d_Glacier_addStake_4 : decode M_Glacier_addStake.2.1 4 = .ok (.invokevirtual 53, 3) := by decide +kernel
theorem d_Glacier_addStake_7 : decode M_Glacier_addStake.2.1 7 = .ok (.istore_n 3, 1) := by decide +kernel
theorem d_Glacier_addStake_8 : decode M_Glacier_addStake.2.1 8 = .ok (.aload_n 0, 1) := by decide +kernel
theorem d_Glacier_addStake_9 : decode M_Glacier_addStake.2.1 9 = .ok (.getfield 20, 3) := by decide +kernel
theorem d_Glacier_addStake_12 : decode M_Glacier_addStake.2.1 12 = .ok (.iload_n 3, 1) := by decide +kernel
theorem d_Glacier_addStake_13 : decode M_Glacier_addStake.2.1 13 = .ok (.iconst 0, 1) := by decide +kernel
theorem d_Glacier_addStake_14 : decode M_Glacier_addStake.2.1 14 = .ok (.iload_n 1, 1) := by decide +kernel
theorem d_Glacier_addStake_15 : decode M_Glacier_addStake.2.1 15 = .ok (.invokevirtual 57, 3) := by decide +kernel
theorem d_Glacier_addStake_18 : decode M_Glacier_addStake.2.1 18 = .ok (.aload_n 0, 1) := by decide +kernel
theorem d_Glacier_addStake_19 : decode M_Glacier_addStake.2.1 19 = .ok (.getfield 20, 3) := by decide +kernel
theorem d_Glacier_addStake_22 : decode M_Glacier_addStake.2.1 22 = .ok (.iload_n 3, 1) := by decide +kernel
theorem d_Glacier_addStake_23 : decode M_Glacier_addStake.2.1 23 = .ok (.iconst 1, 1) := by decide +kernel
theorem d_Glacier_addStake_24 : decode M_Glacier_addStake.2.1 24 = .ok (.iload_n 2, 1) := by decide +kernel
theorem d_Glacier_addStake_25 : decode M_Glacier_addStake.2.1 25 = .ok (.invokevirtual 57, 3) := by decide +kernel
theorem d_Glacier_addStake_28 : decode M_Glacier_addStake.2.1 28 = .ok (.aload_n 0, 1) := by decide +kernel
theorem d_Glacier_addStake_29 : decode M_Glacier_addStake.2.1 29 = .ok (.getfield 20, 3) := by decide +kernel
theorem d_Glacier_addStake_32 : decode M_Glacier_addStake.2.1 32 = .ok (.iload_n 3, 1) := by decide +kernel
theorem d_Glacier_addStake_33 : decode M_Glacier_addStake.2.1 33 = .ok (.iconst 3, 1) := by decide +kernel
theorem d_Glacier_addStake_34 : decode M_Glacier_addStake.2.1 34 = .ok (.iconst 1, 1) := by decide +kernel
theorem d_Glacier_addStake_35 : decode M_Glacier_addStake.2.1 35 = .ok (.invokevirtual 57, 3) := by decide +kernel
theorem d_Glacier_addStake_38 : decode M_Glacier_addStake.2.1 38 = .ok (.aload_n 0, 1) := by decide +kernel
theorem d_Glacier_addStake_39 : decode M_Glacier_addStake.2.1 39 = .ok (.getfield 20, 3) := by decide +kernel
theorem d_Glacier_addStake_42 : decode M_Glacier_addStake.2.1 42 = .ok (.iload_n 3, 1) := by decide +kernel
theorem d_Glacier_addStake_43 : decode M_Glacier_addStake.2.1 43 = .ok (.iconst 4, 1) := by decide +kernel
theorem d_Glacier_addStake_44 : decode M_Glacier_addStake.2.1 44 = .ok (.iconst (-1), 1) := by decide +kernel
theorem d_Glacier_addStake_45 : decode M_Glacier_addStake.2.1 45 = .ok (.invokevirtual 57, 3) := by decide +kernel
theorem d_Glacier_addStake_48 : decode M_Glacier_addStake.2.1 48 = .ok (.return_, 1) := by decide +kernel
def s_Glacier_addStake (σ : GL) (x1 : Int32) (x2 : Int32) : GL := (gS (gS (gS (gS (gP σ 1 (taddT (capG 1) (σ.1 1))) 1 (taddR (capG 1) (σ.1 1)) 0 x1) 1 (taddR (capG 1) (σ.1 1)) 1 x2) 1 (taddR (capG 1) (σ.1 1)) 3 1) 1 (taddR (capG 1) (σ.1 1)) 4 (-1))
set_option maxRecDepth 100000 in
set_option maxHeartbeats 4000000 in
theorem c_Glacier_addStake {Γ : G9} {h : AH} {g z : Nat} {σ : GL} {x1 : Int32} {x2 : Int32} (hW : WFG σ) : CallR Γ M_Glacier_addStake 1 [.ref g, .int x1, .int x2] (blk h g 12 (glC Γ g σ)) z none (blk h g 12 (glC Γ g (s_Glacier_addStake σ x1 x2))) := by
  refine Call.of_go (L := [some (.ref g), some (.int x1), some (.int x2), none]) (by decide +kernel) rfl (by exact Nat.le_of_ble_eq_true rfl) ?_
  unfold s_Glacier_addStake
  refine Go.aload_0 d_Glacier_addStake_0 rfl ?_
  refine Go.getfield d_Glacier_addStake_1 rfl f_Glacier_20 gl_obj (by rfl) ?_
  refine Go.cv0r d_Glacier_addStake_4 rfl l_Glacier_53 k_Table_addRow_v (gl_tab (k := 1) (by decide)) rfl (cG_addRow (k := 1) (by decide) hW) rfl rfl rfl ?_
  refine Go.istore_3 d_Glacier_addStake_7 rfl (by rfl) ?_
  refine Go.aload_0 d_Glacier_addStake_8 rfl ?_
  refine Go.getfield d_Glacier_addStake_9 rfl f_Glacier_20 gl_obj (by rfl) ?_
  refine Go.iload_3 d_Glacier_addStake_12 rfl ?_
  refine Go.iconst (v := 0) d_Glacier_addStake_13 rfl (by decide) ?_
  refine Go.iload_1 d_Glacier_addStake_14 rfl ?_
  refine Go.cv3v d_Glacier_addStake_15 rfl l_Glacier_57 k_Table_set_v (gl_tab (k := 1) (by decide)) rfl (cG_set (k := 1) (by decide) (c := 0) rfl (by omega) ((WFG.add (k := 1) hW (by decide)).of fun j => by first | rfl | simp only [gN_gS, gN_gA, gN_gSW, gN_gSD, gN_gSC, gN_Glacier_changeWarmth, gN_Glacier_letFall, gN_l_Glacier_letCross_23, gN_Glacier_letCross, gN_Glacier_tryGo, gN_Glacier_tryProbe, gN_Glacier_takeFood, gN_Glacier_tryDrill, gN_l_Glacier_moveStakes_2, gN_Glacier_moveStakes, gN_l_Glacier_moveBridges_2, gN_Glacier_moveBridges, gN_Glacier_weather, gN_l_Glacier_eat_46, gN_Glacier_eat, gN_l_Glacier_readStakes_2, gN_Glacier_readStakes, gN_l_Glacier_endDay_12, gN_l_Glacier_endDay_42, gN_Glacier_endDay])) rfl rfl rfl ?_
  refine Go.aload_0 d_Glacier_addStake_18 rfl ?_
  refine Go.getfield d_Glacier_addStake_19 rfl f_Glacier_20 gl_obj (by rfl) ?_
  refine Go.iload_3 d_Glacier_addStake_22 rfl ?_
  refine Go.iconst (v := 1) d_Glacier_addStake_23 rfl (by decide) ?_
  refine Go.iload_2 d_Glacier_addStake_24 rfl ?_
  refine Go.cv3v d_Glacier_addStake_25 rfl l_Glacier_57 k_Table_set_v (gl_tab (k := 1) (by decide)) rfl (cG_set (k := 1) (by decide) (c := 1) rfl (by omega) ((WFG.add (k := 1) hW (by decide)).of fun j => by first | rfl | simp only [gN_gS, gN_gA, gN_gSW, gN_gSD, gN_gSC, gN_Glacier_changeWarmth, gN_Glacier_letFall, gN_l_Glacier_letCross_23, gN_Glacier_letCross, gN_Glacier_tryGo, gN_Glacier_tryProbe, gN_Glacier_takeFood, gN_Glacier_tryDrill, gN_l_Glacier_moveStakes_2, gN_Glacier_moveStakes, gN_l_Glacier_moveBridges_2, gN_Glacier_moveBridges, gN_Glacier_weather, gN_l_Glacier_eat_46, gN_Glacier_eat, gN_l_Glacier_readStakes_2, gN_Glacier_readStakes, gN_l_Glacier_endDay_12, gN_l_Glacier_endDay_42, gN_Glacier_endDay])) rfl rfl rfl ?_
  refine Go.aload_0 d_Glacier_addStake_28 rfl ?_
  refine Go.getfield d_Glacier_addStake_29 rfl f_Glacier_20 gl_obj (by rfl) ?_
  refine Go.iload_3 d_Glacier_addStake_32 rfl ?_
  refine Go.iconst (v := 3) d_Glacier_addStake_33 rfl (by decide) ?_
  refine Go.iconst (v := 1) d_Glacier_addStake_34 rfl (by decide) ?_
  refine Go.cv3v d_Glacier_addStake_35 rfl l_Glacier_57 k_Table_set_v (gl_tab (k := 1) (by decide)) rfl (cG_set (k := 1) (by decide) (c := 3) rfl (by omega) ((WFG.add (k := 1) hW (by decide)).of fun j => by first | rfl | simp only [gN_gS, gN_gA, gN_gSW, gN_gSD, gN_gSC, gN_Glacier_changeWarmth, gN_Glacier_letFall, gN_l_Glacier_letCross_23, gN_Glacier_letCross, gN_Glacier_tryGo, gN_Glacier_tryProbe, gN_Glacier_takeFood, gN_Glacier_tryDrill, gN_l_Glacier_moveStakes_2, gN_Glacier_moveStakes, gN_l_Glacier_moveBridges_2, gN_Glacier_moveBridges, gN_Glacier_weather, gN_l_Glacier_eat_46, gN_Glacier_eat, gN_l_Glacier_readStakes_2, gN_Glacier_readStakes, gN_l_Glacier_endDay_12, gN_l_Glacier_endDay_42, gN_Glacier_endDay])) rfl rfl rfl ?_
  refine Go.aload_0 d_Glacier_addStake_38 rfl ?_
  refine Go.getfield d_Glacier_addStake_39 rfl f_Glacier_20 gl_obj (by rfl) ?_
  refine Go.iload_3 d_Glacier_addStake_42 rfl ?_
  refine Go.iconst (v := 4) d_Glacier_addStake_43 rfl (by decide) ?_
  refine Go.iconst (v := (-1)) d_Glacier_addStake_44 rfl (by decide) ?_
  refine Go.cv3v d_Glacier_addStake_45 rfl l_Glacier_57 k_Table_set_v (gl_tab (k := 1) (by decide)) rfl (cG_set (k := 1) (by decide) (c := 4) rfl (by omega) ((WFG.add (k := 1) hW (by decide)).of fun j => by first | rfl | simp only [gN_gS, gN_gA, gN_gSW, gN_gSD, gN_gSC, gN_Glacier_changeWarmth, gN_Glacier_letFall, gN_l_Glacier_letCross_23, gN_Glacier_letCross, gN_Glacier_tryGo, gN_Glacier_tryProbe, gN_Glacier_takeFood, gN_Glacier_tryDrill, gN_l_Glacier_moveStakes_2, gN_Glacier_moveStakes, gN_l_Glacier_moveBridges_2, gN_Glacier_moveBridges, gN_Glacier_weather, gN_l_Glacier_eat_46, gN_Glacier_eat, gN_l_Glacier_readStakes_2, gN_Glacier_readStakes, gN_l_Glacier_endDay_12, gN_l_Glacier_endDay_42, gN_Glacier_endDay])) rfl rfl rfl ?_
  exact Go.vret d_Glacier_addStake_48 rfl ⟨rfl, rfl, rfl⟩
set_option maxRecDepth 100000 in
set_option maxHeartbeats 4000000 in
theorem wf_Glacier_addStake {σ : GL} {x1 x2 : Int32} (hW : WFG σ) : WFG (s_Glacier_addStake σ x1 x2) := by
  unfold s_Glacier_addStake
  exact (WFG.add (k := 1) hW (by decide)).of fun j => by simp only [gN_gS, gN_gA, gN_gSW, gN_gSD, gN_gSC, gN_Glacier_changeWarmth, gN_Glacier_letFall, gN_l_Glacier_letCross_23, gN_Glacier_letCross, gN_Glacier_tryGo, gN_Glacier_tryProbe, gN_Glacier_takeFood, gN_Glacier_tryDrill, gN_l_Glacier_moveStakes_2, gN_Glacier_moveStakes, gN_l_Glacier_moveBridges_2, gN_Glacier_moveBridges, gN_Glacier_weather, gN_l_Glacier_eat_46, gN_Glacier_eat, gN_l_Glacier_readStakes_2, gN_Glacier_readStakes, gN_l_Glacier_endDay_12, gN_l_Glacier_endDay_42, gN_Glacier_endDay]
theorem d_Glacier_addCrevasse_0 : decode M_Glacier_addCrevasse.2.1 0 = .ok (.aload_n 0, 1) := by decide +kernel
theorem d_Glacier_addCrevasse_1 : decode M_Glacier_addCrevasse.2.1 1 = .ok (.getfield 23, 3) := by decide +kernel
theorem d_Glacier_addCrevasse_4 : decode M_Glacier_addCrevasse.2.1 4 = .ok (.invokevirtual 53, 3) := by decide +kernel
theorem d_Glacier_addCrevasse_7 : decode M_Glacier_addCrevasse.2.1 7 = .ok (.istore_n 3, 1) := by decide +kernel
theorem d_Glacier_addCrevasse_8 : decode M_Glacier_addCrevasse.2.1 8 = .ok (.aload_n 0, 1) := by decide +kernel
theorem d_Glacier_addCrevasse_9 : decode M_Glacier_addCrevasse.2.1 9 = .ok (.getfield 23, 3) := by decide +kernel
theorem d_Glacier_addCrevasse_12 : decode M_Glacier_addCrevasse.2.1 12 = .ok (.iload_n 3, 1) := by decide +kernel
theorem d_Glacier_addCrevasse_13 : decode M_Glacier_addCrevasse.2.1 13 = .ok (.iconst 0, 1) := by decide +kernel
theorem d_Glacier_addCrevasse_14 : decode M_Glacier_addCrevasse.2.1 14 = .ok (.iload_n 1, 1) := by decide +kernel
theorem d_Glacier_addCrevasse_15 : decode M_Glacier_addCrevasse.2.1 15 = .ok (.invokevirtual 57, 3) := by decide +kernel
theorem d_Glacier_addCrevasse_18 : decode M_Glacier_addCrevasse.2.1 18 = .ok (.aload_n 0, 1) := by decide +kernel
theorem d_Glacier_addCrevasse_19 : decode M_Glacier_addCrevasse.2.1 19 = .ok (.getfield 23, 3) := by decide +kernel
theorem d_Glacier_addCrevasse_22 : decode M_Glacier_addCrevasse.2.1 22 = .ok (.iload_n 3, 1) := by decide +kernel
theorem d_Glacier_addCrevasse_23 : decode M_Glacier_addCrevasse.2.1 23 = .ok (.iconst 1, 1) := by decide +kernel
theorem d_Glacier_addCrevasse_24 : decode M_Glacier_addCrevasse.2.1 24 = .ok (.iload_n 2, 1) := by decide +kernel
theorem d_Glacier_addCrevasse_25 : decode M_Glacier_addCrevasse.2.1 25 = .ok (.invokevirtual 57, 3) := by decide +kernel
theorem d_Glacier_addCrevasse_28 : decode M_Glacier_addCrevasse.2.1 28 = .ok (.aload_n 0, 1) := by decide +kernel
theorem d_Glacier_addCrevasse_29 : decode M_Glacier_addCrevasse.2.1 29 = .ok (.getfield 23, 3) := by decide +kernel
theorem d_Glacier_addCrevasse_32 : decode M_Glacier_addCrevasse.2.1 32 = .ok (.iload_n 3, 1) := by decide +kernel
theorem d_Glacier_addCrevasse_33 : decode M_Glacier_addCrevasse.2.1 33 = .ok (.iconst 3, 1) := by decide +kernel
theorem d_Glacier_addCrevasse_34 : decode M_Glacier_addCrevasse.2.1 34 = .ok (.iconst (-1), 1) := by decide +kernel
theorem d_Glacier_addCrevasse_35 : decode M_Glacier_addCrevasse.2.1 35 = .ok (.invokevirtual 57, 3) := by decide +kernel
theorem d_Glacier_addCrevasse_38 : decode M_Glacier_addCrevasse.2.1 38 = .ok (.return_, 1) := by decide +kernel
def s_Glacier_addCrevasse (σ : GL) (x1 : Int32) (x2 : Int32) : GL := (gS (gS (gS (gP σ 2 (taddT (capG 2) (σ.1 2))) 2 (taddR (capG 2) (σ.1 2)) 0 x1) 2 (taddR (capG 2) (σ.1 2)) 1 x2) 2 (taddR (capG 2) (σ.1 2)) 3 (-1))
set_option maxRecDepth 100000 in
set_option maxHeartbeats 4000000 in
theorem c_Glacier_addCrevasse {Γ : G9} {h : AH} {g z : Nat} {σ : GL} {x1 : Int32} {x2 : Int32} (hW : WFG σ) : CallR Γ M_Glacier_addCrevasse 1 [.ref g, .int x1, .int x2] (blk h g 12 (glC Γ g σ)) z none (blk h g 12 (glC Γ g (s_Glacier_addCrevasse σ x1 x2))) := by
  refine Call.of_go (L := [some (.ref g), some (.int x1), some (.int x2), none]) (by decide +kernel) rfl (by exact Nat.le_of_ble_eq_true rfl) ?_
  unfold s_Glacier_addCrevasse
  refine Go.aload_0 d_Glacier_addCrevasse_0 rfl ?_
  refine Go.getfield d_Glacier_addCrevasse_1 rfl f_Glacier_23 gl_obj (by rfl) ?_
  refine Go.cv0r d_Glacier_addCrevasse_4 rfl l_Glacier_53 k_Table_addRow_v (gl_tab (k := 2) (by decide)) rfl (cG_addRow (k := 2) (by decide) hW) rfl rfl rfl ?_
  refine Go.istore_3 d_Glacier_addCrevasse_7 rfl (by rfl) ?_
  refine Go.aload_0 d_Glacier_addCrevasse_8 rfl ?_
  refine Go.getfield d_Glacier_addCrevasse_9 rfl f_Glacier_23 gl_obj (by rfl) ?_
  refine Go.iload_3 d_Glacier_addCrevasse_12 rfl ?_
  refine Go.iconst (v := 0) d_Glacier_addCrevasse_13 rfl (by decide) ?_
  refine Go.iload_1 d_Glacier_addCrevasse_14 rfl ?_
  refine Go.cv3v d_Glacier_addCrevasse_15 rfl l_Glacier_57 k_Table_set_v (gl_tab (k := 2) (by decide)) rfl (cG_set (k := 2) (by decide) (c := 0) rfl (by omega) ((WFG.add (k := 2) hW (by decide)).of fun j => by first | rfl | simp only [gN_gS, gN_gA, gN_gSW, gN_gSD, gN_gSC, gN_Glacier_changeWarmth, gN_Glacier_letFall, gN_l_Glacier_letCross_23, gN_Glacier_letCross, gN_Glacier_tryGo, gN_Glacier_tryProbe, gN_Glacier_takeFood, gN_Glacier_tryDrill, gN_l_Glacier_moveStakes_2, gN_Glacier_moveStakes, gN_l_Glacier_moveBridges_2, gN_Glacier_moveBridges, gN_Glacier_weather, gN_l_Glacier_eat_46, gN_Glacier_eat, gN_l_Glacier_readStakes_2, gN_Glacier_readStakes, gN_l_Glacier_endDay_12, gN_l_Glacier_endDay_42, gN_Glacier_endDay])) rfl rfl rfl ?_
  refine Go.aload_0 d_Glacier_addCrevasse_18 rfl ?_
  refine Go.getfield d_Glacier_addCrevasse_19 rfl f_Glacier_23 gl_obj (by rfl) ?_
  refine Go.iload_3 d_Glacier_addCrevasse_22 rfl ?_
  refine Go.iconst (v := 1) d_Glacier_addCrevasse_23 rfl (by decide) ?_
  refine Go.iload_2 d_Glacier_addCrevasse_24 rfl ?_
  refine Go.cv3v d_Glacier_addCrevasse_25 rfl l_Glacier_57 k_Table_set_v (gl_tab (k := 2) (by decide)) rfl (cG_set (k := 2) (by decide) (c := 1) rfl (by omega) ((WFG.add (k := 2) hW (by decide)).of fun j => by first | rfl | simp only [gN_gS, gN_gA, gN_gSW, gN_gSD, gN_gSC, gN_Glacier_changeWarmth, gN_Glacier_letFall, gN_l_Glacier_letCross_23, gN_Glacier_letCross, gN_Glacier_tryGo, gN_Glacier_tryProbe, gN_Glacier_takeFood, gN_Glacier_tryDrill, gN_l_Glacier_moveStakes_2, gN_Glacier_moveStakes, gN_l_Glacier_moveBridges_2, gN_Glacier_moveBridges, gN_Glacier_weather, gN_l_Glacier_eat_46, gN_Glacier_eat, gN_l_Glacier_readStakes_2, gN_Glacier_readStakes, gN_l_Glacier_endDay_12, gN_l_Glacier_endDay_42, gN_Glacier_endDay])) rfl rfl rfl ?_
  refine Go.aload_0 d_Glacier_addCrevasse_28 rfl ?_
  refine Go.getfield d_Glacier_addCrevasse_29 rfl f_Glacier_23 gl_obj (by rfl) ?_
  refine Go.iload_3 d_Glacier_addCrevasse_32 rfl ?_
  refine Go.iconst (v := 3) d_Glacier_addCrevasse_33 rfl (by decide) ?_
  refine Go.iconst (v := (-1)) d_Glacier_addCrevasse_34 rfl (by decide) ?_
  refine Go.cv3v d_Glacier_addCrevasse_35 rfl l_Glacier_57 k_Table_set_v (gl_tab (k := 2) (by decide)) rfl (cG_set (k := 2) (by decide) (c := 3) rfl (by omega) ((WFG.add (k := 2) hW (by decide)).of fun j => by first | rfl | simp only [gN_gS, gN_gA, gN_gSW, gN_gSD, gN_gSC, gN_Glacier_changeWarmth, gN_Glacier_letFall, gN_l_Glacier_letCross_23, gN_Glacier_letCross, gN_Glacier_tryGo, gN_Glacier_tryProbe, gN_Glacier_takeFood, gN_Glacier_tryDrill, gN_l_Glacier_moveStakes_2, gN_Glacier_moveStakes, gN_l_Glacier_moveBridges_2, gN_Glacier_moveBridges, gN_Glacier_weather, gN_l_Glacier_eat_46, gN_Glacier_eat, gN_l_Glacier_readStakes_2, gN_Glacier_readStakes, gN_l_Glacier_endDay_12, gN_l_Glacier_endDay_42, gN_Glacier_endDay])) rfl rfl rfl ?_
  exact Go.vret d_Glacier_addCrevasse_38 rfl ⟨rfl, rfl, rfl⟩
set_option maxRecDepth 100000 in
set_option maxHeartbeats 4000000 in
theorem wf_Glacier_addCrevasse {σ : GL} {x1 x2 : Int32} (hW : WFG σ) : WFG (s_Glacier_addCrevasse σ x1 x2) := by
  unfold s_Glacier_addCrevasse
  exact (WFG.add (k := 2) hW (by decide)).of fun j => by simp only [gN_gS, gN_gA, gN_gSW, gN_gSD, gN_gSC, gN_Glacier_changeWarmth, gN_Glacier_letFall, gN_l_Glacier_letCross_23, gN_Glacier_letCross, gN_Glacier_tryGo, gN_Glacier_tryProbe, gN_Glacier_takeFood, gN_Glacier_tryDrill, gN_l_Glacier_moveStakes_2, gN_Glacier_moveStakes, gN_l_Glacier_moveBridges_2, gN_Glacier_moveBridges, gN_Glacier_weather, gN_l_Glacier_eat_46, gN_Glacier_eat, gN_l_Glacier_readStakes_2, gN_Glacier_readStakes, gN_l_Glacier_endDay_12, gN_l_Glacier_endDay_42, gN_Glacier_endDay]
theorem d_Glacier_addDepot_0 : decode M_Glacier_addDepot.2.1 0 = .ok (.aload_n 0, 1) := by decide +kernel
theorem d_Glacier_addDepot_1 : decode M_Glacier_addDepot.2.1 1 = .ok (.getfield 26, 3) := by decide +kernel
theorem d_Glacier_addDepot_4 : decode M_Glacier_addDepot.2.1 4 = .ok (.invokevirtual 53, 3) := by decide +kernel
theorem d_Glacier_addDepot_7 : decode M_Glacier_addDepot.2.1 7 = .ok (.istore_n 3, 1) := by decide +kernel
theorem d_Glacier_addDepot_8 : decode M_Glacier_addDepot.2.1 8 = .ok (.aload_n 0, 1) := by decide +kernel
theorem d_Glacier_addDepot_9 : decode M_Glacier_addDepot.2.1 9 = .ok (.getfield 26, 3) := by decide +kernel
theorem d_Glacier_addDepot_12 : decode M_Glacier_addDepot.2.1 12 = .ok (.iload_n 3, 1) := by decide +kernel
theorem d_Glacier_addDepot_13 : decode M_Glacier_addDepot.2.1 13 = .ok (.iconst 0, 1) := by decide +kernel
theorem d_Glacier_addDepot_14 : decode M_Glacier_addDepot.2.1 14 = .ok (.iload_n 1, 1) := by decide +kernel
theorem d_Glacier_addDepot_15 : decode M_Glacier_addDepot.2.1 15 = .ok (.invokevirtual 57, 3) := by decide +kernel
theorem d_Glacier_addDepot_18 : decode M_Glacier_addDepot.2.1 18 = .ok (.aload_n 0, 1) := by decide +kernel
theorem d_Glacier_addDepot_19 : decode M_Glacier_addDepot.2.1 19 = .ok (.getfield 26, 3) := by decide +kernel
theorem d_Glacier_addDepot_22 : decode M_Glacier_addDepot.2.1 22 = .ok (.iload_n 3, 1) := by decide +kernel
theorem d_Glacier_addDepot_23 : decode M_Glacier_addDepot.2.1 23 = .ok (.iconst 1, 1) := by decide +kernel
theorem d_Glacier_addDepot_24 : decode M_Glacier_addDepot.2.1 24 = .ok (.iload_n 2, 1) := by decide +kernel
theorem d_Glacier_addDepot_25 : decode M_Glacier_addDepot.2.1 25 = .ok (.invokevirtual 57, 3) := by decide +kernel
theorem d_Glacier_addDepot_28 : decode M_Glacier_addDepot.2.1 28 = .ok (.return_, 1) := by decide +kernel
def s_Glacier_addDepot (σ : GL) (x1 : Int32) (x2 : Int32) : GL := (gS (gS (gP σ 3 (taddT (capG 3) (σ.1 3))) 3 (taddR (capG 3) (σ.1 3)) 0 x1) 3 (taddR (capG 3) (σ.1 3)) 1 x2)
set_option maxRecDepth 100000 in
set_option maxHeartbeats 4000000 in
theorem c_Glacier_addDepot {Γ : G9} {h : AH} {g z : Nat} {σ : GL} {x1 : Int32} {x2 : Int32} (hW : WFG σ) : CallR Γ M_Glacier_addDepot 1 [.ref g, .int x1, .int x2] (blk h g 12 (glC Γ g σ)) z none (blk h g 12 (glC Γ g (s_Glacier_addDepot σ x1 x2))) := by
  refine Call.of_go (L := [some (.ref g), some (.int x1), some (.int x2), none]) (by decide +kernel) rfl (by exact Nat.le_of_ble_eq_true rfl) ?_
  unfold s_Glacier_addDepot
  refine Go.aload_0 d_Glacier_addDepot_0 rfl ?_
  refine Go.getfield d_Glacier_addDepot_1 rfl f_Glacier_26 gl_obj (by rfl) ?_
  refine Go.cv0r d_Glacier_addDepot_4 rfl l_Glacier_53 k_Table_addRow_v (gl_tab (k := 3) (by decide)) rfl (cG_addRow (k := 3) (by decide) hW) rfl rfl rfl ?_
  refine Go.istore_3 d_Glacier_addDepot_7 rfl (by rfl) ?_
  refine Go.aload_0 d_Glacier_addDepot_8 rfl ?_
  refine Go.getfield d_Glacier_addDepot_9 rfl f_Glacier_26 gl_obj (by rfl) ?_
  refine Go.iload_3 d_Glacier_addDepot_12 rfl ?_
  refine Go.iconst (v := 0) d_Glacier_addDepot_13 rfl (by decide) ?_
  refine Go.iload_1 d_Glacier_addDepot_14 rfl ?_
  refine Go.cv3v d_Glacier_addDepot_15 rfl l_Glacier_57 k_Table_set_v (gl_tab (k := 3) (by decide)) rfl (cG_set (k := 3) (by decide) (c := 0) rfl (by omega) ((WFG.add (k := 3) hW (by decide)).of fun j => by first | rfl | simp only [gN_gS, gN_gA, gN_gSW, gN_gSD, gN_gSC, gN_Glacier_changeWarmth, gN_Glacier_letFall, gN_l_Glacier_letCross_23, gN_Glacier_letCross, gN_Glacier_tryGo, gN_Glacier_tryProbe, gN_Glacier_takeFood, gN_Glacier_tryDrill, gN_l_Glacier_moveStakes_2, gN_Glacier_moveStakes, gN_l_Glacier_moveBridges_2, gN_Glacier_moveBridges, gN_Glacier_weather, gN_l_Glacier_eat_46, gN_Glacier_eat, gN_l_Glacier_readStakes_2, gN_Glacier_readStakes, gN_l_Glacier_endDay_12, gN_l_Glacier_endDay_42, gN_Glacier_endDay])) rfl rfl rfl ?_
  refine Go.aload_0 d_Glacier_addDepot_18 rfl ?_
  refine Go.getfield d_Glacier_addDepot_19 rfl f_Glacier_26 gl_obj (by rfl) ?_
  refine Go.iload_3 d_Glacier_addDepot_22 rfl ?_
  refine Go.iconst (v := 1) d_Glacier_addDepot_23 rfl (by decide) ?_
  refine Go.iload_2 d_Glacier_addDepot_24 rfl ?_
  refine Go.cv3v d_Glacier_addDepot_25 rfl l_Glacier_57 k_Table_set_v (gl_tab (k := 3) (by decide)) rfl (cG_set (k := 3) (by decide) (c := 1) rfl (by omega) ((WFG.add (k := 3) hW (by decide)).of fun j => by first | rfl | simp only [gN_gS, gN_gA, gN_gSW, gN_gSD, gN_gSC, gN_Glacier_changeWarmth, gN_Glacier_letFall, gN_l_Glacier_letCross_23, gN_Glacier_letCross, gN_Glacier_tryGo, gN_Glacier_tryProbe, gN_Glacier_takeFood, gN_Glacier_tryDrill, gN_l_Glacier_moveStakes_2, gN_Glacier_moveStakes, gN_l_Glacier_moveBridges_2, gN_Glacier_moveBridges, gN_Glacier_weather, gN_l_Glacier_eat_46, gN_Glacier_eat, gN_l_Glacier_readStakes_2, gN_Glacier_readStakes, gN_l_Glacier_endDay_12, gN_l_Glacier_endDay_42, gN_Glacier_endDay])) rfl rfl rfl ?_
  exact Go.vret d_Glacier_addDepot_28 rfl ⟨rfl, rfl, rfl⟩
set_option maxRecDepth 100000 in
set_option maxHeartbeats 4000000 in
theorem wf_Glacier_addDepot {σ : GL} {x1 x2 : Int32} (hW : WFG σ) : WFG (s_Glacier_addDepot σ x1 x2) := by
  unfold s_Glacier_addDepot
  exact (WFG.add (k := 3) hW (by decide)).of fun j => by simp only [gN_gS, gN_gA, gN_gSW, gN_gSD, gN_gSC, gN_Glacier_changeWarmth, gN_Glacier_letFall, gN_l_Glacier_letCross_23, gN_Glacier_letCross, gN_Glacier_tryGo, gN_Glacier_tryProbe, gN_Glacier_takeFood, gN_Glacier_tryDrill, gN_l_Glacier_moveStakes_2, gN_Glacier_moveStakes, gN_l_Glacier_moveBridges_2, gN_Glacier_moveBridges, gN_Glacier_weather, gN_l_Glacier_eat_46, gN_Glacier_eat, gN_l_Glacier_readStakes_2, gN_Glacier_readStakes, gN_l_Glacier_endDay_12, gN_l_Glacier_endDay_42, gN_Glacier_endDay]
theorem d_Glacier_addTeam_0 : decode M_Glacier_addTeam.2.1 0 = .ok (.aload_n 0, 1) := by decide +kernel
theorem d_Glacier_addTeam_1 : decode M_Glacier_addTeam.2.1 1 = .ok (.getfield 29, 3) := by decide +kernel
theorem d_Glacier_addTeam_4 : decode M_Glacier_addTeam.2.1 4 = .ok (.invokevirtual 53, 3) := by decide +kernel
theorem d_Glacier_addTeam_7 : decode M_Glacier_addTeam.2.1 7 = .ok (.istore 4, 2) := by decide +kernel
theorem d_Glacier_addTeam_9 : decode M_Glacier_addTeam.2.1 9 = .ok (.aload_n 0, 1) := by decide +kernel
theorem d_Glacier_addTeam_10 : decode M_Glacier_addTeam.2.1 10 = .ok (.getfield 29, 3) := by decide +kernel
theorem d_Glacier_addTeam_13 : decode M_Glacier_addTeam.2.1 13 = .ok (.iload 4, 2) := by decide +kernel
theorem d_Glacier_addTeam_15 : decode M_Glacier_addTeam.2.1 15 = .ok (.iconst 2, 1) := by decide +kernel
theorem d_Glacier_addTeam_16 : decode M_Glacier_addTeam.2.1 16 = .ok (.iload_n 1, 1) := by decide +kernel
theorem d_Glacier_addTeam_17 : decode M_Glacier_addTeam.2.1 17 = .ok (.invokevirtual 57, 3) := by decide +kernel
theorem d_Glacier_addTeam_20 : decode M_Glacier_addTeam.2.1 20 = .ok (.aload_n 0, 1) := by decide +kernel
theorem d_Glacier_addTeam_21 : decode M_Glacier_addTeam.2.1 21 = .ok (.getfield 29, 3) := by decide +kernel
theorem d_Glacier_addTeam_24 : decode M_Glacier_addTeam.2.1 24 = .ok (.iload 4, 2) := by decide +kernel
theorem d_Glacier_addTeam_26 : decode M_Glacier_addTeam.2.1 26 = .ok (.iconst 0, 1) := by decide +kernel
theorem d_Glacier_addTeam_27 : decode M_Glacier_addTeam.2.1 27 = .ok (.iload_n 2, 1) := by decide +kernel
theorem d_Glacier_addTeam_28 : decode M_Glacier_addTeam.2.1 28 = .ok (.invokevirtual 57, 3) := by decide +kernel
theorem d_Glacier_addTeam_31 : decode M_Glacier_addTeam.2.1 31 = .ok (.aload_n 0, 1) := by decide +kernel
theorem d_Glacier_addTeam_32 : decode M_Glacier_addTeam.2.1 32 = .ok (.getfield 29, 3) := by decide +kernel
theorem d_Glacier_addTeam_35 : decode M_Glacier_addTeam.2.1 35 = .ok (.iload 4, 2) := by decide +kernel
theorem d_Glacier_addTeam_37 : decode M_Glacier_addTeam.2.1 37 = .ok (.iconst 1, 1) := by decide +kernel
theorem d_Glacier_addTeam_38 : decode M_Glacier_addTeam.2.1 38 = .ok (.iload_n 3, 1) := by decide +kernel
theorem d_Glacier_addTeam_39 : decode M_Glacier_addTeam.2.1 39 = .ok (.invokevirtual 57, 3) := by decide +kernel
theorem d_Glacier_addTeam_42 : decode M_Glacier_addTeam.2.1 42 = .ok (.aload_n 0, 1) := by decide +kernel
theorem d_Glacier_addTeam_43 : decode M_Glacier_addTeam.2.1 43 = .ok (.getfield 29, 3) := by decide +kernel
theorem d_Glacier_addTeam_46 : decode M_Glacier_addTeam.2.1 46 = .ok (.iload 4, 2) := by decide +kernel
theorem d_Glacier_addTeam_48 : decode M_Glacier_addTeam.2.1 48 = .ok (.iconst 4, 1) := by decide +kernel
theorem d_Glacier_addTeam_49 : decode M_Glacier_addTeam.2.1 49 = .ok (.iconst 1, 1) := by decide +kernel
theorem d_Glacier_addTeam_50 : decode M_Glacier_addTeam.2.1 50 = .ok (.invokevirtual 57, 3) := by decide +kernel
theorem d_Glacier_addTeam_53 : decode M_Glacier_addTeam.2.1 53 = .ok (.return_, 1) := by decide +kernel
def s_Glacier_addTeam (σ : GL) (x1 : Int32) (x2 : Int32) (x3 : Int32) : GL := (gS (gS (gS (gS (gP σ 4 (taddT (capG 4) (σ.1 4))) 4 (taddR (capG 4) (σ.1 4)) 2 x1) 4 (taddR (capG 4) (σ.1 4)) 0 x2) 4 (taddR (capG 4) (σ.1 4)) 1 x3) 4 (taddR (capG 4) (σ.1 4)) 4 1)
set_option maxRecDepth 100000 in
set_option maxHeartbeats 4000000 in
theorem c_Glacier_addTeam {Γ : G9} {h : AH} {g z : Nat} {σ : GL} {x1 : Int32} {x2 : Int32} {x3 : Int32} (hW : WFG σ) : CallR Γ M_Glacier_addTeam 1 [.ref g, .int x1, .int x2, .int x3] (blk h g 12 (glC Γ g σ)) z none (blk h g 12 (glC Γ g (s_Glacier_addTeam σ x1 x2 x3))) := by
  refine Call.of_go (L := [some (.ref g), some (.int x1), some (.int x2), some (.int x3), none]) (by decide +kernel) rfl (by exact Nat.le_of_ble_eq_true rfl) ?_
  unfold s_Glacier_addTeam
  refine Go.aload_0 d_Glacier_addTeam_0 rfl ?_
  refine Go.getfield d_Glacier_addTeam_1 rfl f_Glacier_29 gl_obj (by rfl) ?_
  refine Go.cv0r d_Glacier_addTeam_4 rfl l_Glacier_53 k_Table_addRow_v (gl_tab (k := 4) (by decide)) rfl (cG_addRow (k := 4) (by decide) hW) rfl rfl rfl ?_
  refine Go.istore_4 d_Glacier_addTeam_7 rfl (by rfl) ?_
  refine Go.aload_0 d_Glacier_addTeam_9 rfl ?_
  refine Go.getfield d_Glacier_addTeam_10 rfl f_Glacier_29 gl_obj (by rfl) ?_
  refine Go.iload_4 d_Glacier_addTeam_13 rfl ?_
  refine Go.iconst (v := 2) d_Glacier_addTeam_15 rfl (by decide) ?_
  refine Go.iload_1 d_Glacier_addTeam_16 rfl ?_
  refine Go.cv3v d_Glacier_addTeam_17 rfl l_Glacier_57 k_Table_set_v (gl_tab (k := 4) (by decide)) rfl (cG_set (k := 4) (by decide) (c := 2) rfl (by omega) ((WFG.add (k := 4) hW (by decide)).of fun j => by first | rfl | simp only [gN_gS, gN_gA, gN_gSW, gN_gSD, gN_gSC, gN_Glacier_changeWarmth, gN_Glacier_letFall, gN_l_Glacier_letCross_23, gN_Glacier_letCross, gN_Glacier_tryGo, gN_Glacier_tryProbe, gN_Glacier_takeFood, gN_Glacier_tryDrill, gN_l_Glacier_moveStakes_2, gN_Glacier_moveStakes, gN_l_Glacier_moveBridges_2, gN_Glacier_moveBridges, gN_Glacier_weather, gN_l_Glacier_eat_46, gN_Glacier_eat, gN_l_Glacier_readStakes_2, gN_Glacier_readStakes, gN_l_Glacier_endDay_12, gN_l_Glacier_endDay_42, gN_Glacier_endDay])) rfl rfl rfl ?_
  refine Go.aload_0 d_Glacier_addTeam_20 rfl ?_
  refine Go.getfield d_Glacier_addTeam_21 rfl f_Glacier_29 gl_obj (by rfl) ?_
  refine Go.iload_4 d_Glacier_addTeam_24 rfl ?_
  refine Go.iconst (v := 0) d_Glacier_addTeam_26 rfl (by decide) ?_
  refine Go.iload_2 d_Glacier_addTeam_27 rfl ?_
  refine Go.cv3v d_Glacier_addTeam_28 rfl l_Glacier_57 k_Table_set_v (gl_tab (k := 4) (by decide)) rfl (cG_set (k := 4) (by decide) (c := 0) rfl (by omega) ((WFG.add (k := 4) hW (by decide)).of fun j => by first | rfl | simp only [gN_gS, gN_gA, gN_gSW, gN_gSD, gN_gSC, gN_Glacier_changeWarmth, gN_Glacier_letFall, gN_l_Glacier_letCross_23, gN_Glacier_letCross, gN_Glacier_tryGo, gN_Glacier_tryProbe, gN_Glacier_takeFood, gN_Glacier_tryDrill, gN_l_Glacier_moveStakes_2, gN_Glacier_moveStakes, gN_l_Glacier_moveBridges_2, gN_Glacier_moveBridges, gN_Glacier_weather, gN_l_Glacier_eat_46, gN_Glacier_eat, gN_l_Glacier_readStakes_2, gN_Glacier_readStakes, gN_l_Glacier_endDay_12, gN_l_Glacier_endDay_42, gN_Glacier_endDay])) rfl rfl rfl ?_
  refine Go.aload_0 d_Glacier_addTeam_31 rfl ?_
  refine Go.getfield d_Glacier_addTeam_32 rfl f_Glacier_29 gl_obj (by rfl) ?_
  refine Go.iload_4 d_Glacier_addTeam_35 rfl ?_
  refine Go.iconst (v := 1) d_Glacier_addTeam_37 rfl (by decide) ?_
  refine Go.iload_3 d_Glacier_addTeam_38 rfl ?_
  refine Go.cv3v d_Glacier_addTeam_39 rfl l_Glacier_57 k_Table_set_v (gl_tab (k := 4) (by decide)) rfl (cG_set (k := 4) (by decide) (c := 1) rfl (by omega) ((WFG.add (k := 4) hW (by decide)).of fun j => by first | rfl | simp only [gN_gS, gN_gA, gN_gSW, gN_gSD, gN_gSC, gN_Glacier_changeWarmth, gN_Glacier_letFall, gN_l_Glacier_letCross_23, gN_Glacier_letCross, gN_Glacier_tryGo, gN_Glacier_tryProbe, gN_Glacier_takeFood, gN_Glacier_tryDrill, gN_l_Glacier_moveStakes_2, gN_Glacier_moveStakes, gN_l_Glacier_moveBridges_2, gN_Glacier_moveBridges, gN_Glacier_weather, gN_l_Glacier_eat_46, gN_Glacier_eat, gN_l_Glacier_readStakes_2, gN_Glacier_readStakes, gN_l_Glacier_endDay_12, gN_l_Glacier_endDay_42, gN_Glacier_endDay])) rfl rfl rfl ?_
  refine Go.aload_0 d_Glacier_addTeam_42 rfl ?_
  refine Go.getfield d_Glacier_addTeam_43 rfl f_Glacier_29 gl_obj (by rfl) ?_
  refine Go.iload_4 d_Glacier_addTeam_46 rfl ?_
  refine Go.iconst (v := 4) d_Glacier_addTeam_48 rfl (by decide) ?_
  refine Go.iconst (v := 1) d_Glacier_addTeam_49 rfl (by decide) ?_
  refine Go.cv3v d_Glacier_addTeam_50 rfl l_Glacier_57 k_Table_set_v (gl_tab (k := 4) (by decide)) rfl (cG_set (k := 4) (by decide) (c := 4) rfl (by omega) ((WFG.add (k := 4) hW (by decide)).of fun j => by first | rfl | simp only [gN_gS, gN_gA, gN_gSW, gN_gSD, gN_gSC, gN_Glacier_changeWarmth, gN_Glacier_letFall, gN_l_Glacier_letCross_23, gN_Glacier_letCross, gN_Glacier_tryGo, gN_Glacier_tryProbe, gN_Glacier_takeFood, gN_Glacier_tryDrill, gN_l_Glacier_moveStakes_2, gN_Glacier_moveStakes, gN_l_Glacier_moveBridges_2, gN_Glacier_moveBridges, gN_Glacier_weather, gN_l_Glacier_eat_46, gN_Glacier_eat, gN_l_Glacier_readStakes_2, gN_Glacier_readStakes, gN_l_Glacier_endDay_12, gN_l_Glacier_endDay_42, gN_Glacier_endDay])) rfl rfl rfl ?_
  exact Go.vret d_Glacier_addTeam_53 rfl ⟨rfl, rfl, rfl⟩
set_option maxRecDepth 100000 in
set_option maxHeartbeats 4000000 in
theorem wf_Glacier_addTeam {σ : GL} {x1 x2 x3 : Int32} (hW : WFG σ) : WFG (s_Glacier_addTeam σ x1 x2 x3) := by
  unfold s_Glacier_addTeam
  exact (WFG.add (k := 4) hW (by decide)).of fun j => by simp only [gN_gS, gN_gA, gN_gSW, gN_gSD, gN_gSC, gN_Glacier_changeWarmth, gN_Glacier_letFall, gN_l_Glacier_letCross_23, gN_Glacier_letCross, gN_Glacier_tryGo, gN_Glacier_tryProbe, gN_Glacier_takeFood, gN_Glacier_tryDrill, gN_l_Glacier_moveStakes_2, gN_Glacier_moveStakes, gN_l_Glacier_moveBridges_2, gN_Glacier_moveBridges, gN_Glacier_weather, gN_l_Glacier_eat_46, gN_Glacier_eat, gN_l_Glacier_readStakes_2, gN_Glacier_readStakes, gN_l_Glacier_endDay_12, gN_l_Glacier_endDay_42, gN_Glacier_endDay]
theorem d_Glacier_beginAnew_37 : decode M_Glacier_beginAnew.2.1 37 = .ok (.iload_n 2, 1) := by decide +kernel
theorem d_Glacier_beginAnew_38 : decode M_Glacier_beginAnew.2.1 38 = .ok (.aload_n 0, 1) := by decide +kernel
theorem d_Glacier_beginAnew_39 : decode M_Glacier_beginAnew.2.1 39 = .ok (.getfield 32, 3) := by decide +kernel
theorem d_Glacier_beginAnew_42 : decode M_Glacier_beginAnew.2.1 42 = .ok (.arraylength, 1) := by decide +kernel
theorem d_Glacier_beginAnew_43 : decode M_Glacier_beginAnew.2.1 43 = .ok (.if_icmp .ge 17, 3) := by decide +kernel
theorem d_Glacier_beginAnew_46 : decode M_Glacier_beginAnew.2.1 46 = .ok (.aload_n 0, 1) := by decide +kernel
theorem d_Glacier_beginAnew_47 : decode M_Glacier_beginAnew.2.1 47 = .ok (.getfield 32, 3) := by decide +kernel
theorem d_Glacier_beginAnew_50 : decode M_Glacier_beginAnew.2.1 50 = .ok (.iload_n 2, 1) := by decide +kernel
theorem d_Glacier_beginAnew_51 : decode M_Glacier_beginAnew.2.1 51 = .ok (.bipush 10, 2) := by decide +kernel
theorem d_Glacier_beginAnew_53 : decode M_Glacier_beginAnew.2.1 53 = .ok (.iastore, 1) := by decide +kernel
theorem d_Glacier_beginAnew_54 : decode M_Glacier_beginAnew.2.1 54 = .ok (.iinc 2 1, 3) := by decide +kernel
theorem d_Glacier_beginAnew_57 : decode M_Glacier_beginAnew.2.1 57 = .ok (.goto (-20), 3) := by decide +kernel
def l_Glacier_beginAnew_37 (x1 : Int32) : Nat → Nat → GL → GL
  | 0, _, σ => σ
  | k + 1, i, σ => (l_Glacier_beginAnew_37 x1 k (i + 1) (gSW σ (upd (gW σ) i 10)))
set_option maxRecDepth 100000 in
set_option maxHeartbeats 4000000 in
theorem l_Glacier_beginAnew_37_go {Γ : G9} {h : AH} {g z n : Nat} {Q : QT} {X : XT} {x1 : Int32} (hn20 : n ≤ 20) : ∀ (k i : Nat) (σ : GL), i + k = n → 8 = n → Go Γ M_Glacier_beginAnew 1 0 0 60 [some (.ref g), some (.int x1), some (.int (nI (i + k)))] [] (blk h g 12 (glC Γ g (l_Glacier_beginAnew_37 x1 k i σ))) z Q X → Go Γ M_Glacier_beginAnew 1 0 0 37 [some (.ref g), some (.int x1), some (.int (nI i))] [] (blk h g 12 (glC Γ g σ)) z Q X := by
  intro k
  induction k with
  | zero =>
    intro i σ hi hn hk
    refine Go.iload_2 d_Glacier_beginAnew_37 rfl ?_
    refine Go.aload_0 d_Glacier_beginAnew_38 rfl ?_
    refine Go.getfield d_Glacier_beginAnew_39 rfl f_Glacier_32 gl_obj (by rfl) ?_
    refine Go.alen (n := (nI 8)) d_Glacier_beginAnew_42 rfl gl_war (by rfl) rfl ?_
    refine Go.icmp_ge (t := 60) d_Glacier_beginAnew_43 (by decide) rfl (fun c43_1 => ?_) (fun c43_1 => ?_)
    · exact hk
    · exact absurd (nI_le (by omega) (by omega)) c43_1
  | succ k ih =>
    intro i σ hi hn hk
    unfold l_Glacier_beginAnew_37 at hk
    rw [show i + (k + 1) = i + 1 + k by omega] at hk
    refine Go.iload_2 d_Glacier_beginAnew_37 rfl ?_
    refine Go.aload_0 d_Glacier_beginAnew_38 rfl ?_
    refine Go.getfield d_Glacier_beginAnew_39 rfl f_Glacier_32 gl_obj (by rfl) ?_
    refine Go.alen (n := (nI 8)) d_Glacier_beginAnew_42 rfl gl_war (by rfl) rfl ?_
    refine Go.icmp_ge (t := 60) d_Glacier_beginAnew_43 (by decide) rfl (fun c43_1 => ?_) (fun c43_1 => ?_)
    · exact absurd c43_1 (nI_ge (by omega) (by omega))
    · refine Go.aload_0 d_Glacier_beginAnew_46 rfl ?_
      refine Go.getfield d_Glacier_beginAnew_47 rfl f_Glacier_32 gl_obj (by rfl) ?_
      refine Go.iload_2 d_Glacier_beginAnew_50 rfl ?_
      refine Go.bipush (v := 10) d_Glacier_beginAnew_51 rfl (by decide) ?_
      refine Go.iastore d_Glacier_beginAnew_53 rfl gl_war (vp_in_nI (by omega) (by omega)) ?_
      rw [nI_clamp (show i < 2 ^ 31 by omega)]
      refine Go.heq gl_putW ?_
      refine Go.iinc_2 d_Glacier_beginAnew_54 rfl (by rfl) (nI_inc _) ?_
      refine Go.goto (t := 37) d_Glacier_beginAnew_57 (by decide) ?_
      exact ih (i + 1) _ (by omega) (by first | exact hn | (simp only [gN_gS, gN_gA, gN_gSW, gN_gSD, gN_gSC, gN_Glacier_changeWarmth, gN_Glacier_letFall, gN_l_Glacier_letCross_23, gN_Glacier_letCross, gN_Glacier_tryGo, gN_Glacier_tryProbe, gN_Glacier_takeFood, gN_Glacier_tryDrill, gN_l_Glacier_moveStakes_2, gN_Glacier_moveStakes, gN_l_Glacier_moveBridges_2, gN_Glacier_moveBridges, gN_Glacier_weather, gN_l_Glacier_eat_46, gN_Glacier_eat, gN_l_Glacier_readStakes_2, gN_Glacier_readStakes, gN_l_Glacier_endDay_12, gN_l_Glacier_endDay_42, gN_Glacier_endDay]; exact hn)) hk
set_option maxRecDepth 100000 in
set_option maxHeartbeats 4000000 in
theorem gN_l_Glacier_beginAnew_37 {x1 : Int32} (j : Nat) : ∀ (k i : Nat) (σ : GL), gN (l_Glacier_beginAnew_37 x1 k i σ) j = gN σ j := by
  intro k
  induction k with
  | zero => intros; rfl
  | succ k ih =>
    intros
    unfold l_Glacier_beginAnew_37
    (repeat' split) <;> simp only [gN_gS, gN_gA, gN_gSW, gN_gSD, gN_gSC, gN_Glacier_changeWarmth, gN_Glacier_letFall, gN_l_Glacier_letCross_23, gN_Glacier_letCross, gN_Glacier_tryGo, gN_Glacier_tryProbe, gN_Glacier_takeFood, gN_Glacier_tryDrill, gN_l_Glacier_moveStakes_2, gN_Glacier_moveStakes, gN_l_Glacier_moveBridges_2, gN_Glacier_moveBridges, gN_Glacier_weather, gN_l_Glacier_eat_46, gN_Glacier_eat, gN_l_Glacier_readStakes_2, gN_Glacier_readStakes, gN_l_Glacier_endDay_12, gN_l_Glacier_endDay_42, gN_Glacier_endDay, ih]
theorem d_Glacier_beginAnew_0 : decode M_Glacier_beginAnew.2.1 0 = .ok (.aload_n 0, 1) := by decide +kernel
theorem d_Glacier_beginAnew_1 : decode M_Glacier_beginAnew.2.1 1 = .ok (.getfield 14, 3) := by decide +kernel
theorem d_Glacier_beginAnew_4 : decode M_Glacier_beginAnew.2.1 4 = .ok (.invokevirtual 39, 3) := by decide +kernel
theorem d_Glacier_beginAnew_7 : decode M_Glacier_beginAnew.2.1 7 = .ok (.aload_n 0, 1) := by decide +kernel
theorem d_Glacier_beginAnew_8 : decode M_Glacier_beginAnew.2.1 8 = .ok (.getfield 20, 3) := by decide +kernel
theorem d_Glacier_beginAnew_11 : decode M_Glacier_beginAnew.2.1 11 = .ok (.invokevirtual 39, 3) := by decide +kernel
theorem d_Glacier_beginAnew_14 : decode M_Glacier_beginAnew.2.1 14 = .ok (.aload_n 0, 1) := by decide +kernel
theorem d_Glacier_beginAnew_15 : decode M_Glacier_beginAnew.2.1 15 = .ok (.getfield 23, 3) := by decide +kernel
theorem d_Glacier_beginAnew_18 : decode M_Glacier_beginAnew.2.1 18 = .ok (.invokevirtual 39, 3) := by decide +kernel
theorem d_Glacier_beginAnew_21 : decode M_Glacier_beginAnew.2.1 21 = .ok (.aload_n 0, 1) := by decide +kernel
theorem d_Glacier_beginAnew_22 : decode M_Glacier_beginAnew.2.1 22 = .ok (.getfield 26, 3) := by decide +kernel
theorem d_Glacier_beginAnew_25 : decode M_Glacier_beginAnew.2.1 25 = .ok (.invokevirtual 39, 3) := by decide +kernel
theorem d_Glacier_beginAnew_28 : decode M_Glacier_beginAnew.2.1 28 = .ok (.aload_n 0, 1) := by decide +kernel
theorem d_Glacier_beginAnew_29 : decode M_Glacier_beginAnew.2.1 29 = .ok (.getfield 29, 3) := by decide +kernel
theorem d_Glacier_beginAnew_32 : decode M_Glacier_beginAnew.2.1 32 = .ok (.invokevirtual 39, 3) := by decide +kernel
theorem d_Glacier_beginAnew_35 : decode M_Glacier_beginAnew.2.1 35 = .ok (.iconst 0, 1) := by decide +kernel
theorem d_Glacier_beginAnew_36 : decode M_Glacier_beginAnew.2.1 36 = .ok (.istore_n 2, 1) := by decide +kernel
theorem d_Glacier_beginAnew_60 : decode M_Glacier_beginAnew.2.1 60 = .ok (.aload_n 0, 1) := by decide +kernel
theorem d_Glacier_beginAnew_61 : decode M_Glacier_beginAnew.2.1 61 = .ok (.iload_n 1, 1) := by decide +kernel
theorem d_Glacier_beginAnew_62 : decode M_Glacier_beginAnew.2.1 62 = .ok (.putfield 42, 3) := by decide +kernel
theorem d_Glacier_beginAnew_65 : decode M_Glacier_beginAnew.2.1 65 = .ok (.aload_n 0, 1) := by decide +kernel
theorem d_Glacier_beginAnew_66 : decode M_Glacier_beginAnew.2.1 66 = .ok (.iconst 0, 1) := by decide +kernel
theorem d_Glacier_beginAnew_67 : decode M_Glacier_beginAnew.2.1 67 = .ok (.putfield 46, 3) := by decide +kernel
theorem d_Glacier_beginAnew_70 : decode M_Glacier_beginAnew.2.1 70 = .ok (.return_, 1) := by decide +kernel
def s_Glacier_beginAnew (σ : GL) (x1 : Int32) : GL := (gSC (gSD (l_Glacier_beginAnew_37 x1 (8) 0 (gP (gP (gP (gP (gP σ 0 ((σ.1 0).1, 0)) 1 (((gP σ 0 ((σ.1 0).1, 0)).1 1).1, 0)) 2 (((gP (gP σ 0 ((σ.1 0).1, 0)) 1 (((gP σ 0 ((σ.1 0).1, 0)).1 1).1, 0)).1 2).1, 0)) 3 (((gP (gP (gP σ 0 ((σ.1 0).1, 0)) 1 (((gP σ 0 ((σ.1 0).1, 0)).1 1).1, 0)) 2 (((gP (gP σ 0 ((σ.1 0).1, 0)) 1 (((gP σ 0 ((σ.1 0).1, 0)).1 1).1, 0)).1 2).1, 0)).1 3).1, 0)) 4 (((gP (gP (gP (gP σ 0 ((σ.1 0).1, 0)) 1 (((gP σ 0 ((σ.1 0).1, 0)).1 1).1, 0)) 2 (((gP (gP σ 0 ((σ.1 0).1, 0)) 1 (((gP σ 0 ((σ.1 0).1, 0)).1 1).1, 0)).1 2).1, 0)) 3 (((gP (gP (gP σ 0 ((σ.1 0).1, 0)) 1 (((gP σ 0 ((σ.1 0).1, 0)).1 1).1, 0)) 2 (((gP (gP σ 0 ((σ.1 0).1, 0)) 1 (((gP σ 0 ((σ.1 0).1, 0)).1 1).1, 0)).1 2).1, 0)).1 3).1, 0)).1 4).1, 0))) x1) 0)
set_option maxRecDepth 100000 in
set_option maxHeartbeats 4000000 in
theorem c_Glacier_beginAnew {Γ : G9} {h : AH} {g z : Nat} {σ : GL} {x1 : Int32} : CallR Γ M_Glacier_beginAnew 1 [.ref g, .int x1] (blk h g 12 (glC Γ g σ)) z none (blk h g 12 (glC Γ g (s_Glacier_beginAnew σ x1))) := by
  refine Call.of_go (L := [some (.ref g), some (.int x1), none]) (by decide +kernel) rfl (by exact Nat.le_of_ble_eq_true rfl) ?_
  unfold s_Glacier_beginAnew
  refine Go.aload_0 d_Glacier_beginAnew_0 rfl ?_
  refine Go.getfield d_Glacier_beginAnew_1 rfl f_Glacier_14 gl_obj (by rfl) ?_
  refine Go.cv0v d_Glacier_beginAnew_4 rfl l_Glacier_39 k_Table_clear_v (gl_tab (k := 0) (by decide)) rfl (cG_clear (k := 0) (by decide)) rfl rfl rfl ?_
  refine Go.aload_0 d_Glacier_beginAnew_7 rfl ?_
  refine Go.getfield d_Glacier_beginAnew_8 rfl f_Glacier_20 gl_obj (by rfl) ?_
  refine Go.cv0v d_Glacier_beginAnew_11 rfl l_Glacier_39 k_Table_clear_v (gl_tab (k := 1) (by decide)) rfl (cG_clear (k := 1) (by decide)) rfl rfl rfl ?_
  refine Go.aload_0 d_Glacier_beginAnew_14 rfl ?_
  refine Go.getfield d_Glacier_beginAnew_15 rfl f_Glacier_23 gl_obj (by rfl) ?_
  refine Go.cv0v d_Glacier_beginAnew_18 rfl l_Glacier_39 k_Table_clear_v (gl_tab (k := 2) (by decide)) rfl (cG_clear (k := 2) (by decide)) rfl rfl rfl ?_
  refine Go.aload_0 d_Glacier_beginAnew_21 rfl ?_
  refine Go.getfield d_Glacier_beginAnew_22 rfl f_Glacier_26 gl_obj (by rfl) ?_
  refine Go.cv0v d_Glacier_beginAnew_25 rfl l_Glacier_39 k_Table_clear_v (gl_tab (k := 3) (by decide)) rfl (cG_clear (k := 3) (by decide)) rfl rfl rfl ?_
  refine Go.aload_0 d_Glacier_beginAnew_28 rfl ?_
  refine Go.getfield d_Glacier_beginAnew_29 rfl f_Glacier_29 gl_obj (by rfl) ?_
  refine Go.cv0v d_Glacier_beginAnew_32 rfl l_Glacier_39 k_Table_clear_v (gl_tab (k := 4) (by decide)) rfl (cG_clear (k := 4) (by decide)) rfl rfl rfl ?_
  refine Go.iconst (v := 0) d_Glacier_beginAnew_35 rfl (by decide) ?_
  refine Go.istore_2 d_Glacier_beginAnew_36 rfl (by rfl) ?_
  refine l_Glacier_beginAnew_37_go (n := (8)) (by decide) (8) 0 (gP (gP (gP (gP (gP σ 0 ((σ.1 0).1, 0)) 1 (((gP σ 0 ((σ.1 0).1, 0)).1 1).1, 0)) 2 (((gP (gP σ 0 ((σ.1 0).1, 0)) 1 (((gP σ 0 ((σ.1 0).1, 0)).1 1).1, 0)).1 2).1, 0)) 3 (((gP (gP (gP σ 0 ((σ.1 0).1, 0)) 1 (((gP σ 0 ((σ.1 0).1, 0)).1 1).1, 0)) 2 (((gP (gP σ 0 ((σ.1 0).1, 0)) 1 (((gP σ 0 ((σ.1 0).1, 0)).1 1).1, 0)).1 2).1, 0)).1 3).1, 0)) 4 (((gP (gP (gP (gP σ 0 ((σ.1 0).1, 0)) 1 (((gP σ 0 ((σ.1 0).1, 0)).1 1).1, 0)) 2 (((gP (gP σ 0 ((σ.1 0).1, 0)) 1 (((gP σ 0 ((σ.1 0).1, 0)).1 1).1, 0)).1 2).1, 0)) 3 (((gP (gP (gP σ 0 ((σ.1 0).1, 0)) 1 (((gP σ 0 ((σ.1 0).1, 0)).1 1).1, 0)) 2 (((gP (gP σ 0 ((σ.1 0).1, 0)) 1 (((gP σ 0 ((σ.1 0).1, 0)).1 1).1, 0)).1 2).1, 0)).1 3).1, 0)).1 4).1, 0)) (by omega) rfl  ?_
  refine Go.aload_0 d_Glacier_beginAnew_60 rfl ?_
  refine Go.iload_1 d_Glacier_beginAnew_61 rfl ?_
  refine Go.putfield d_Glacier_beginAnew_62 rfl f_Glacier_42_p (Or.inl (fun C T N h => by cases h; rfl)) gl_obj (by exact Nat.le_of_ble_eq_true rfl) rfl rfl ?_
  refine Go.heq gl_putD ?_
  refine Go.aload_0 d_Glacier_beginAnew_65 rfl ?_
  refine Go.iconst (v := 0) d_Glacier_beginAnew_66 rfl (by decide) ?_
  refine Go.putfield d_Glacier_beginAnew_67 rfl f_Glacier_46_p (Or.inl (fun C T N h => by cases h; rfl)) gl_obj (by exact Nat.le_of_ble_eq_true rfl) rfl rfl ?_
  refine Go.heq gl_putC ?_
  exact Go.vret d_Glacier_beginAnew_70 rfl ⟨rfl, rfl, rfl⟩
