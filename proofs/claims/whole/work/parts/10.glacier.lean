/-! Glacier: what each method answers, over a block of twelve cells -/
def iMax (x y : Int32) : Int32 := if x < y then y else x
def iMin (x y : Int32) : Int32 := if y < x then y else x
theorem i32_eq {x v : Int32} {n : Int} (w : x.toInt = n) (e : v.toInt = n := by decide) : x = v := Int32.toInt_inj.mp (w.trans e.symm)
theorem tsw_out {pc : Nat} {dflt lo hi : Int} {offs : Array Int} {x : Int32} {t : Int} (h : ∀ n : Nat, n < (hi - lo + 1).toNat → ¬ x.toInt = lo + n) (e : (pc : Int) + dflt = t := by decide) : tswitch pc dflt lo hi offs x.toInt = some t := by
  unfold tswitch
  rw [if_pos, e]
  rcases Int.lt_or_le x.toInt lo with h1 | h1
  · exact Or.inl h1
  · rcases Int.lt_or_le hi x.toInt with h2 | h2
    · exact Or.inr h2
    · exact absurd (show x.toInt = lo + ((x.toInt - lo).toNat : Int) by omega) (h _ (by omega))
theorem nb {x : Int32} (h : x = 0 ∨ x = 1) : narrow .boolean (.int x) = .int x := by
  rcases h with rfl | rfl <;> rfl
def lle : List (Option Value) → List (Option Value) → Prop
  | [], [] => True
  | none :: t, _ :: u => lle t u
  | some v :: t, some w :: u => v = w ∧ lle t u
  | _, _ => False
theorem lle_len : ∀ (a b : List (Option Value)), lle a b → a.length = b.length
  | [], [], _ => rfl
  | [], _ :: _, h => h.elim
  | none :: t, [], h => h.elim
  | some _ :: t, [], h => h.elim
  | none :: t, _ :: u, h => by simpa using lle_len t u h
  | some _ :: t, some _ :: u, h => by simpa using lle_len t u h.2
  | some _ :: t, none :: u, h => h.elim
theorem lle_sub : ∀ (a b : List (Option Value)) (i : Nat), lle a b → ∀ q ∈ lvp i a, q ∈ lvp i b
  | [], _, _, _, q, hq => by cases hq
  | none :: t, [], _, h, _, _ => h.elim
  | some _ :: t, [], _, h, _, _ => h.elim
  | none :: t, none :: u, i, h, q, hq => lle_sub t u (i + 1) h q hq
  | none :: t, some _ :: u, i, h, q, hq => List.mem_cons_of_mem _ (lle_sub t u (i + 1) h q hq)
  | some v :: t, some w :: u, i, h, q, hq => by
    obtain ⟨rfl, h⟩ := h
    rcases List.mem_cons.mp (show q ∈ (i, v) :: lvp (i + 1) t from hq) with e | e
    · exact List.mem_cons.mpr (Or.inl e)
    · exact List.mem_cons_of_mem _ (lle_sub t u (i + 1) h q e)
  | some _ :: t, none :: u, _, h, _, _ => h.elim
/-- locals are forgotten -/
theorem Go.fgt {Γ : G9} {M : MI} {d C S pc : Nat} {L : List (Option Value)} {st : List Value} {h : AH} {z : Nat} {Q : QT} {X : XT} (L' : List (Option Value)) (hl : lle L' L) (k : Go Γ M d C S pc L' st h z Q X) : Go Γ M d C S pc L st h z Q X := Go.loc k (lle_len _ _ hl) (lle_sub _ _ 0 hl)
def capG (k : Nat) : Nat := if k = 0 then 5 else if k = 1 then 6 else 4
abbrev GL : Type := (Nat → TM) × (Nat → Int32) × Int32 × Int32
def gN (σ : GL) (k : Nat) : Nat := (σ.1 k).2
abbrev gW (σ : GL) : Nat → Int32 := σ.2.1
abbrev gD (σ : GL) : Int32 := σ.2.2.1
abbrev gC (σ : GL) : Int32 := σ.2.2.2
abbrev glF (g : Nat) (σ : GL) : List Value := [.ref (g + 1), .ref (g + 3), .ref (g + 5), .ref (g + 7), .ref (g + 9), .ref (g + 11), .int (gD σ), .int (gC σ)]
def glC (Γ : G9) (g : Nat) (σ : GL) (j : Nat) : Option va_E := if j = 0 then some (.inr (1, glF g σ)) else if j = 11 then some (aI Γ 8 (gW σ)) else if j % 2 = 1 then some (tabO (g + j) (σ.1 (j / 2))) else some (aI Γ (capG (j / 2 - 1) * 8) (σ.1 (j / 2 - 1)).1)
def gP (σ : GL) (k : Nat) (U : TM) : GL := (fun j => if j = k then U else σ.1 j, σ.2)
def gSW (σ : GL) (w : Nat → Int32) : GL := (σ.1, w, σ.2.2)
def gSD (σ : GL) (v : Int32) : GL := (σ.1, σ.2.1, v, σ.2.2.2)
def gSC (σ : GL) (v : Int32) : GL := (σ.1, σ.2.1, σ.2.2.1, v)
def gG (σ : GL) (k : Nat) (row : Int32) (c : Nat) : Int32 := tgI (σ.1 k) row c
def gS (σ : GL) (k : Nat) (row : Int32) (c : Nat) (v : Int32) : GL := gP σ k (tsI (σ.1 k) row c v)
def gA (σ : GL) (k : Nat) (row : Int32) (c : Nat) (v : Int32) : GL := gS σ k row c (gG σ k row c + v)
def gH (σ : GL) (k : Nat) (row : Int32) : Int32 := if 0 ≤ row ∧ row < nI (gN σ k) then 1 else 0
def gSum (σ : GL) (k c : Nat) : Int32 := tsumF (σ.1 k) c (gN σ k) 0 0
def gMat (σ : GL) (k c : Nat) (v : Int32) (c2 : Nat) (v2 : Int32) : Int32 := tmatF (σ.1 k) c v c2 v2 (gN σ k) 0 0
def WFG (σ : GL) : Prop := ∀ k, k < 5 → gN σ k ≤ capG k
theorem gN_gP {σ : GL} {k : Nat} {U : TM} (j : Nat) (hU : U.2 = gN σ k) : gN (gP σ k U) j = gN σ j := by
  show (if j = k then U else σ.1 j).2 = _
  by_cases h : j = k
  · rw [if_pos h, h, hU]
  · rw [if_neg h]; rfl
theorem gN_gS {σ : GL} {k : Nat} {row : Int32} {c : Nat} {v : Int32} (j : Nat) : gN (gS σ k row c v) j = gN σ j := gN_gP j tsI_rows
theorem gN_gA {σ : GL} {k : Nat} {row : Int32} {c : Nat} {v : Int32} (j : Nat) : gN (gA σ k row c v) j = gN σ j := gN_gS j
theorem gN_gSW {σ : GL} {w : Nat → Int32} (j : Nat) : gN (gSW σ w) j = gN σ j := rfl
theorem gN_gSD {σ : GL} {v : Int32} (j : Nat) : gN (gSD σ v) j = gN σ j := rfl
theorem gN_gSC {σ : GL} {v : Int32} (j : Nat) : gN (gSC σ v) j = gN σ j := rfl
theorem capG_le {k : Nat} : capG k ≤ 6 := by unfold capG; split <;> (try split) <;> omega
theorem WFG.le {σ : GL} (h : WFG σ) {k : Nat} (hk : k < 5) : gN σ k ≤ 6 := Nat.le_trans (h k hk) capG_le
theorem WFG.of {σ τ : GL} (h : WFG σ) (e : ∀ j, gN τ j = gN σ j) : WFG τ := fun k hk => by rw [e]; exact h k hk
section GlBlk
variable {Γ : G9} {h : AH} {g z : Nat} {σ : GL}
theorem gl_obj : blk h g 12 (glC Γ g σ) g = some (.inr (1, glF g σ)) := blk_at0 (by decide)
theorem glC_tab {k : Nat} (hk : k < 5) : glC Γ g σ (2 * k + 1) = some (tabO (g + (2 * k + 1)) (σ.1 k)) := by
  unfold glC
  rw [if_neg (by omega), if_neg (by omega), if_pos (by omega), show (2 * k + 1) / 2 = k by omega]
theorem glC_cel {k : Nat} (hk : k < 5) : glC Γ g σ (2 * k + 1 + 1) = some (aI Γ (capG k * 8) (σ.1 k).1) := by
  unfold glC
  rw [if_neg (by omega), if_neg (by omega), if_neg (by omega), show (2 * k + 1 + 1) / 2 - 1 = k by omega]
theorem gl_tab {k : Nat} (hk : k < 5) : blk h g 12 (glC Γ g σ) (g + (2 * k + 1)) = some (tabO (g + (2 * k + 1)) (σ.1 k)) := by
  rw [blk_at (by omega), glC_tab hk]
theorem gl_cel {k : Nat} (hk : k < 5) : blk h g 12 (glC Γ g σ) (g + (2 * k + 1) + 1) = some (aI Γ (capG k * 8) (σ.1 k).1) := by
  rw [show g + (2 * k + 1) + 1 = g + (2 * k + 1 + 1) from rfl, blk_at (by omega), glC_cel hk]
theorem gl_war : blk h g 12 (glC Γ g σ) (g + 11) = some (aI Γ 8 (gW σ)) := blk_at (by decide)
theorem glC_ne {k : Nat} {U : TM} {j : Nat} (h1 : j ≠ 2 * k + 1) (h2 : j ≠ 2 * k + 1 + 1) : glC Γ g (gP σ k U) j = glC Γ g σ j := by
  unfold glC
  by_cases a1 : j = 0
  · rw [if_pos a1, if_pos a1]; rfl
  · rw [if_neg a1, if_neg a1]
    by_cases a2 : j = 11
    · rw [if_pos a2, if_pos a2]; rfl
    · rw [if_neg a2, if_neg a2]
      unfold gP
      dsimp only
      by_cases a3 : j % 2 = 1
      · rw [if_pos a3, if_pos a3, if_neg (show ¬ j / 2 = k by omega)]
      · rw [if_neg a3, if_neg a3, if_neg (show ¬ j / 2 - 1 = k by omega)]
theorem gP_at {k : Nat} {U : TM} : (gP σ k U).1 k = U := if_pos rfl
theorem gl_put {k : Nat} (hk : k < 5) (U : TM) : hup (hup (blk h g 12 (glC Γ g σ)) (g + (2 * k + 1) + 1) (aI Γ (capG k * 8) U.1)) (g + (2 * k + 1)) (tabO (g + (2 * k + 1)) U) = blk h g 12 (glC Γ g (gP σ k U)) := by
  rw [show g + (2 * k + 1) + 1 = g + (2 * k + 1 + 1) from rfl, blk_hup (by omega), blk_hup (by omega)]
  refine blk_ext fun j hj => ?_
  by_cases h1 : j = 2 * k + 1
  · rw [if_pos h1, h1, glC_tab hk, gP_at]
  · rw [if_neg h1]
    by_cases h2 : j = 2 * k + 1 + 1
    · rw [if_pos h2, h2, glC_cel hk, gP_at]
    · rw [if_neg h2, glC_ne h1 h2]
theorem gl_putA {k : Nat} (hk : k < 5) (U : TM) (hU : U.2 = gN σ k) : hup (blk h g 12 (glC Γ g σ)) (g + (2 * k + 1) + 1) (aI Γ (capG k * 8) U.1) = blk h g 12 (glC Γ g (gP σ k U)) := by
  rw [← gl_put hk U]
  refine (hup_self ?_).symm
  rw [hup_ne (by omega), gl_tab hk]
  unfold tabO
  rw [hU]
  rfl
theorem gl_putR {k : Nat} (hk : k < 5) (U : TM) (hU : U.1 = (σ.1 k).1) : hup (blk h g 12 (glC Γ g σ)) (g + (2 * k + 1)) (tabO (g + (2 * k + 1)) U) = blk h g 12 (glC Γ g (gP σ k U)) := by
  rw [← gl_put hk U, hU, hup_self (gl_cel hk)]
theorem gl_putW {w : Nat → Int32} : hup (blk h g 12 (glC Γ g σ)) (g + 11) (aI Γ 8 w) = blk h g 12 (glC Γ g (gSW σ w)) := by
  rw [blk_hup (by decide)]
  refine blk_ext fun j hj => ?_
  by_cases h1 : j = 11
  · subst h1; rfl
  · rw [if_neg h1]
    unfold glC gSW
    rw [if_neg h1, if_neg h1]
theorem gl_putO {τ : GL} (h1 : τ.1 = σ.1) (h2 : τ.2.1 = σ.2.1) : hup (blk h g 12 (glC Γ g σ)) g (.inr (1, glF g τ)) = blk h g 12 (glC Γ g τ) := by
  rw [blk_hup0 (by decide)]
  refine blk_ext fun j hj => ?_
  by_cases h3 : j = 0
  · subst h3; rfl
  · rw [if_neg h3]
    unfold glC
    rw [if_neg h3, if_neg h3, show gW τ = gW σ from h2, h1]
theorem gl_putD {v : Int32} : hup (blk h g 12 (glC Γ g σ)) g (.inr (1, (glF g σ).set 6 (.int v))) = blk h g 12 (glC Γ g (gSD σ v)) := gl_putO (τ := gSD σ v) rfl rfl
theorem gl_putC {v : Int32} : hup (blk h g 12 (glC Γ g σ)) g (.inr (1, (glF g σ).set 7 (.int v))) = blk h g 12 (glC Γ g (gSC σ v)) := gl_putO (τ := gSC σ v) rfl rfl
theorem cG_get {k : Nat} (hk : k < 5) {row ci : Int32} {c : Nat} (hci : ci = nI c) (hc : c < 8) (hW : WFG σ) : CallR Γ M_Table_get 0 [.ref (g + (2 * k + 1)), .int row, .int ci] (blk h g 12 (glC Γ g σ)) z (some (.int (gG σ k row c))) (blk h g 12 (glC Γ g σ)) := by
  subst hci
  exact c_Table_get (gl_tab hk) (gl_cel hk) (hW k hk) (Nat.le_trans capG_le (by decide)) hc
theorem cG_set {k : Nat} (hk : k < 5) {row ci v : Int32} {c : Nat} (hci : ci = nI c) (hc : c < 8) (hW : WFG σ) : CallR Γ M_Table_set 0 [.ref (g + (2 * k + 1)), .int row, .int ci, .int v] (blk h g 12 (glC Γ g σ)) z none (blk h g 12 (glC Γ g (gS σ k row c v))) := by
  subst hci
  have h0 := c_Table_set (z := z) (row := row) (v := v) (gl_tab (Γ := Γ) (h := h) (g := g) (σ := σ) hk) (gl_cel hk) (hW k hk) (Nat.le_trans capG_le (by decide)) hc
  rw [gl_putA hk _ tsI_rows] at h0
  exact h0
theorem cG_add {k : Nat} (hk : k < 5) {row ci v : Int32} {c : Nat} (hci : ci = nI c) (hc : c < 8) (hW : WFG σ) : CallR Γ M_Table_add 0 [.ref (g + (2 * k + 1)), .int row, .int ci, .int v] (blk h g 12 (glC Γ g σ)) z none (blk h g 12 (glC Γ g (gA σ k row c v))) := by
  subst hci
  have h0 := c_Table_add (z := z) (row := row) (v := v) (gl_tab (Γ := Γ) (h := h) (g := g) (σ := σ) hk) (gl_cel hk) (hW k hk) (Nat.le_trans capG_le (by decide)) hc
  rw [gl_putA hk _ tsI_rows] at h0
  exact h0
theorem cG_rows {k : Nat} (hk : k < 5) : CallR Γ M_Table_rows 0 [.ref (g + (2 * k + 1))] (blk h g 12 (glC Γ g σ)) z (some (.int (nI (gN σ k)))) (blk h g 12 (glC Γ g σ)) := c_Table_rows (gl_tab hk)
theorem cG_has {k : Nat} (hk : k < 5) {row : Int32} : CallR Γ M_Table_has 0 [.ref (g + (2 * k + 1)), .int row] (blk h g 12 (glC Γ g σ)) z (some (.int (gH σ k row))) (blk h g 12 (glC Γ g σ)) := c_Table_has (gl_tab hk)
theorem cG_sum {k : Nat} (hk : k < 5) {ci : Int32} {c : Nat} (hci : ci = nI c) (hc : c < 8) (hW : WFG σ) : CallR Γ M_Table_sum 1 [.ref (g + (2 * k + 1)), .int ci] (blk h g 12 (glC Γ g σ)) z (some (.int (gSum σ k c))) (blk h g 12 (glC Γ g σ)) := by
  subst hci
  exact c_Table_sum (gl_tab hk) (gl_cel hk) (hW k hk) (Nat.le_trans capG_le (by decide)) hc
theorem cG_mat {k : Nat} (hk : k < 5) {ci ci2 v v2 : Int32} {c c2 : Nat} (hci : ci = nI c) (hc : c < 8) (hci2 : ci2 = nI c2) (hc2 : c2 < 8) (hW : WFG σ) : CallR Γ M_Table_matches 1 [.ref (g + (2 * k + 1)), .int ci, .int v, .int ci2, .int v2] (blk h g 12 (glC Γ g σ)) z (some (.int (gMat σ k c v c2 v2))) (blk h g 12 (glC Γ g σ)) := by
  subst hci
  subst hci2
  exact c_Table_matches (gl_tab hk) (gl_cel hk) (hW k hk) (Nat.le_trans capG_le (by decide)) hc hc2
theorem cG_clear {k : Nat} (hk : k < 5) : CallR Γ M_Table_clear 0 [.ref (g + (2 * k + 1))] (blk h g 12 (glC Γ g σ)) z none (blk h g 12 (glC Γ g (gP σ k ((σ.1 k).1, 0)))) := by
  have h0 := c_Table_clear (Γ := Γ) (z := z) (gl_tab (Γ := Γ) (h := h) (g := g) (σ := σ) hk)
  rw [gl_putR hk ((σ.1 k).1, 0) rfl] at h0
  exact h0
theorem capG_ge {k : Nat} : 1 ≤ capG k := by unfold capG; split <;> (try split) <;> omega
theorem cG_addRow {k : Nat} (hk : k < 5) (hW : WFG σ) : CallR Γ M_Table_addRow 0 [.ref (g + (2 * k + 1))] (blk h g 12 (glC Γ g σ)) z (some (.int (taddR (capG k) (σ.1 k)))) (blk h g 12 (glC Γ g (gP σ k (taddT (capG k) (σ.1 k))))) := by
  have h0 := c_Table_addRow (z := z) (gl_tab (Γ := Γ) (h := h) (g := g) (σ := σ) hk) (gl_cel hk) (hW k hk) (Nat.le_trans capG_le (by decide)) capG_ge
  rw [gl_put hk] at h0
  exact h0
end GlBlk
section GlMath
variable {Γ : G9} {M : MI} {d C S pc q : Nat} {L : List (Option Value)} {st : List Value} {h : AH} {z : Nat} {Q : QT} {X : XT}
theorem Go.imax {idx : Nat} {x y : Int32} (hd : decode M.2.1 pc = .ok (.invokestatic idx, 3)) (hq : pc + 3 = q) (lk : Cond.methodLink M.1.cls idx M_Math_max.1 ∈ gw) (hd' : 1 ≤ d) (hw : Nat.ble (st.map fun v => v.category).sum 8 = true) (kk : Go Γ M d C S q L (.int (iMax x y) :: st) h z Q X) : Go Γ M d C S pc L (.int y :: .int x :: st) h z Q X := Go.mmax hd hq lk hd' hw kk
theorem Go.imin {idx : Nat} {x y : Int32} (hd : decode M.2.1 pc = .ok (.invokestatic idx, 3)) (hq : pc + 3 = q) (lk : Cond.methodLink M.1.cls idx M_Math_min.1 ∈ gw) (hd' : 1 ≤ d) (hw : Nat.ble (st.map fun v => v.category).sum 8 = true) (kk : Go Γ M d C S q L (.int (iMin x y) :: st) h z Q X) : Go Γ M d C S pc L (.int y :: .int x :: st) h z Q X := Go.mmin hd hq lk hd' hw kk
end GlMath
theorem vp_of {x : Int32} {n : Nat} (h0 : ¬ x < 0) (h1 : ¬ nI n ≤ x) (hn : n < 2 ^ 31) : vp_in x n := by
  obtain ⟨j, hj, rfl⟩ := nI_of h0
  have hjr : j < n := by
    rcases Nat.lt_or_ge j n with h | h
    · exact h
    · exact absurd ((nI_leI hn hj).mpr h) h1
  exact vp_in_nI hjr hn
theorem fp_out {n : Nat} (h : n ≤ 20) : nI n - 1 < nI n := by
  have : ∀ m : Fin 21, nI m.val - 1 < nI m.val := by decide +kernel
  exact this ⟨n, by omega⟩
theorem fp_in {n i : Nat} (h : n ≤ 20) (hi : i < n) : ¬ nI n - 1 < nI i := by
  have : ∀ m : Fin 21, ∀ j : Fin 21, j.val < m.val → ¬ nI m.val - 1 < nI j.val := by decide +kernel
  exact this ⟨n, by omega⟩ ⟨i, by omega⟩ hi
theorem d_Glacier_day_0 : decode M_Glacier_day.2.1 0 = .ok (.aload_n 0, 1) := by decide +kernel
theorem d_Glacier_day_1 : decode M_Glacier_day.2.1 1 = .ok (.getfield 42, 3) := by decide +kernel
theorem d_Glacier_day_4 : decode M_Glacier_day.2.1 4 = .ok (.ireturn, 1) := by decide +kernel
def s_Glacier_day (σ : GL) : Int32 := (gD σ)
set_option maxRecDepth 100000 in
set_option maxHeartbeats 4000000 in
theorem c_Glacier_day {Γ : G9} {h : AH} {g z : Nat} {σ : GL} : CallR Γ M_Glacier_day 0 [.ref g] (blk h g 12 (glC Γ g σ)) z (some (.int (s_Glacier_day σ))) (blk h g 12 (glC Γ g σ)) := by
  refine Call.of_go (L := [some (.ref g)]) (by decide +kernel) rfl (by exact Nat.le_of_ble_eq_true rfl) ?_
  unfold s_Glacier_day
  refine Go.aload_0 d_Glacier_day_0 rfl ?_
  refine Go.getfield d_Glacier_day_1 rfl f_Glacier_42 gl_obj (by rfl) ?_
  exact Go.iret d_Glacier_day_4 rfl rfl ⟨rfl, rfl, rfl⟩
theorem d_Glacier_warmthOf_0 : decode M_Glacier_warmthOf.2.1 0 = .ok (.iload_n 1, 1) := by decide +kernel
theorem d_Glacier_warmthOf_1 : decode M_Glacier_warmthOf.2.1 1 = .ok (.ifCond .lt 21, 3) := by decide +kernel
theorem d_Glacier_warmthOf_4 : decode M_Glacier_warmthOf.2.1 4 = .ok (.iload_n 1, 1) := by decide +kernel
theorem d_Glacier_warmthOf_5 : decode M_Glacier_warmthOf.2.1 5 = .ok (.aload_n 0, 1) := by decide +kernel
theorem d_Glacier_warmthOf_6 : decode M_Glacier_warmthOf.2.1 6 = .ok (.getfield 32, 3) := by decide +kernel
theorem d_Glacier_warmthOf_9 : decode M_Glacier_warmthOf.2.1 9 = .ok (.arraylength, 1) := by decide +kernel
theorem d_Glacier_warmthOf_10 : decode M_Glacier_warmthOf.2.1 10 = .ok (.if_icmp .ge 12, 3) := by decide +kernel
theorem d_Glacier_warmthOf_13 : decode M_Glacier_warmthOf.2.1 13 = .ok (.aload_n 0, 1) := by decide +kernel
theorem d_Glacier_warmthOf_14 : decode M_Glacier_warmthOf.2.1 14 = .ok (.getfield 32, 3) := by decide +kernel
theorem d_Glacier_warmthOf_17 : decode M_Glacier_warmthOf.2.1 17 = .ok (.iload_n 1, 1) := by decide +kernel
theorem d_Glacier_warmthOf_18 : decode M_Glacier_warmthOf.2.1 18 = .ok (.iaload, 1) := by decide +kernel
theorem d_Glacier_warmthOf_19 : decode M_Glacier_warmthOf.2.1 19 = .ok (.goto 5, 3) := by decide +kernel
theorem d_Glacier_warmthOf_22 : decode M_Glacier_warmthOf.2.1 22 = .ok (.bipush 10, 2) := by decide +kernel
theorem d_Glacier_warmthOf_24 : decode M_Glacier_warmthOf.2.1 24 = .ok (.ireturn, 1) := by decide +kernel
def s_Glacier_warmthOf (σ : GL) (x1 : Int32) : Int32 := (if x1 < 0 then 10 else (if (nI 8) ≤ x1 then 10 else (gW σ x1.toNatClampNeg)))
set_option maxRecDepth 100000 in
set_option maxHeartbeats 4000000 in
theorem c_Glacier_warmthOf {Γ : G9} {h : AH} {g z : Nat} {σ : GL} {x1 : Int32} : CallR Γ M_Glacier_warmthOf 0 [.ref g, .int x1] (blk h g 12 (glC Γ g σ)) z (some (.int (s_Glacier_warmthOf σ x1))) (blk h g 12 (glC Γ g σ)) := by
  refine Call.of_go (L := [some (.ref g), some (.int x1)]) (by decide +kernel) rfl (by exact Nat.le_of_ble_eq_true rfl) ?_
  unfold s_Glacier_warmthOf
  refine Go.iload_1 d_Glacier_warmthOf_0 rfl ?_
  refine Go.if_lt (t := 22) d_Glacier_warmthOf_1 (by decide) rfl (fun c1_1 => ?_) (fun c1_1 => ?_)
  · refine Go.bipush (v := 10) d_Glacier_warmthOf_22 rfl (by decide) ?_
    rw [if_pos c1_1]
    exact Go.iret d_Glacier_warmthOf_24 rfl rfl ⟨rfl, rfl, rfl⟩
  · refine Go.iload_1 d_Glacier_warmthOf_4 rfl ?_
    refine Go.aload_0 d_Glacier_warmthOf_5 rfl ?_
    refine Go.getfield d_Glacier_warmthOf_6 rfl f_Glacier_32 gl_obj (by rfl) ?_
    refine Go.alen (n := (nI 8)) d_Glacier_warmthOf_9 rfl gl_war (by rfl) rfl ?_
    refine Go.icmp_ge (t := 22) d_Glacier_warmthOf_10 (by decide) rfl (fun c10_2 => ?_) (fun c10_2 => ?_)
    · refine Go.bipush (v := 10) d_Glacier_warmthOf_22 rfl (by decide) ?_
      rw [if_neg c1_1, if_pos c10_2]
      exact Go.iret d_Glacier_warmthOf_24 rfl rfl ⟨rfl, rfl, rfl⟩
    · refine Go.aload_0 d_Glacier_warmthOf_13 rfl ?_
      refine Go.getfield d_Glacier_warmthOf_14 rfl f_Glacier_32 gl_obj (by rfl) ?_
      refine Go.iload_1 d_Glacier_warmthOf_17 rfl ?_
      refine Go.iaload d_Glacier_warmthOf_18 rfl gl_war (vp_of c1_1 c10_2 (by decide)) ?_
      refine Go.goto (t := 24) d_Glacier_warmthOf_19 (by decide) ?_
      rw [if_neg c1_1, if_neg c10_2]
      exact Go.iret d_Glacier_warmthOf_24 rfl rfl ⟨rfl, rfl, rfl⟩
theorem d_Glacier_warmthToday_0 : decode M_Glacier_warmthToday.2.1 0 = .ok (.aload_n 0, 1) := by decide +kernel
theorem d_Glacier_warmthToday_1 : decode M_Glacier_warmthToday.2.1 1 = .ok (.aload_n 0, 1) := by decide +kernel
theorem d_Glacier_warmthToday_2 : decode M_Glacier_warmthToday.2.1 2 = .ok (.getfield 42, 3) := by decide +kernel
theorem d_Glacier_warmthToday_5 : decode M_Glacier_warmthToday.2.1 5 = .ok (.bipush 8, 2) := by decide +kernel
theorem d_Glacier_warmthToday_7 : decode M_Glacier_warmthToday.2.1 7 = .ok (.irem, 1) := by decide +kernel
theorem d_Glacier_warmthToday_8 : decode M_Glacier_warmthToday.2.1 8 = .ok (.invokevirtual 61, 3) := by decide +kernel
theorem d_Glacier_warmthToday_11 : decode M_Glacier_warmthToday.2.1 11 = .ok (.ireturn, 1) := by decide +kernel
def s_Glacier_warmthToday (σ : GL) : Int32 := (s_Glacier_warmthOf σ ((gD σ) - (gD σ) / 8 * 8))
set_option maxRecDepth 100000 in
set_option maxHeartbeats 4000000 in
theorem c_Glacier_warmthToday {Γ : G9} {h : AH} {g z : Nat} {σ : GL} : CallR Γ M_Glacier_warmthToday 1 [.ref g] (blk h g 12 (glC Γ g σ)) z (some (.int (s_Glacier_warmthToday σ))) (blk h g 12 (glC Γ g σ)) := by
  refine Call.of_go (L := [some (.ref g)]) (by decide +kernel) rfl (by exact Nat.le_of_ble_eq_true rfl) ?_
  unfold s_Glacier_warmthToday
  refine Go.aload_0 d_Glacier_warmthToday_0 rfl ?_
  refine Go.aload_0 d_Glacier_warmthToday_1 rfl ?_
  refine Go.getfield d_Glacier_warmthToday_2 rfl f_Glacier_42 gl_obj (by rfl) ?_
  refine Go.bipush (v := 8) d_Glacier_warmthToday_5 rfl (by decide) ?_
  refine Go.irem d_Glacier_warmthToday_7 rfl (by decide) ?_
  refine Go.cv1r d_Glacier_warmthToday_8 rfl l_Glacier_61 k_Glacier_warmthOf_v gl_obj rfl (c_Glacier_warmthOf) rfl rfl rfl ?_
  exact Go.iret d_Glacier_warmthToday_11 rfl rfl ⟨rfl, rfl, rfl⟩
theorem d_Glacier_changeWarmth_0 : decode M_Glacier_changeWarmth.2.1 0 = .ok (.iload_n 1, 1) := by decide +kernel
theorem d_Glacier_changeWarmth_1 : decode M_Glacier_changeWarmth.2.1 1 = .ok (.ifCond .lt 19, 3) := by decide +kernel
theorem d_Glacier_changeWarmth_4 : decode M_Glacier_changeWarmth.2.1 4 = .ok (.iload_n 1, 1) := by decide +kernel
theorem d_Glacier_changeWarmth_5 : decode M_Glacier_changeWarmth.2.1 5 = .ok (.aload_n 0, 1) := by decide +kernel
theorem d_Glacier_changeWarmth_6 : decode M_Glacier_changeWarmth.2.1 6 = .ok (.getfield 32, 3) := by decide +kernel
theorem d_Glacier_changeWarmth_9 : decode M_Glacier_changeWarmth.2.1 9 = .ok (.arraylength, 1) := by decide +kernel
theorem d_Glacier_changeWarmth_10 : decode M_Glacier_changeWarmth.2.1 10 = .ok (.if_icmp .ge 10, 3) := by decide +kernel
theorem d_Glacier_changeWarmth_13 : decode M_Glacier_changeWarmth.2.1 13 = .ok (.aload_n 0, 1) := by decide +kernel
theorem d_Glacier_changeWarmth_14 : decode M_Glacier_changeWarmth.2.1 14 = .ok (.getfield 32, 3) := by decide +kernel
theorem d_Glacier_changeWarmth_17 : decode M_Glacier_changeWarmth.2.1 17 = .ok (.iload_n 1, 1) := by decide +kernel
theorem d_Glacier_changeWarmth_18 : decode M_Glacier_changeWarmth.2.1 18 = .ok (.iload_n 2, 1) := by decide +kernel
theorem d_Glacier_changeWarmth_19 : decode M_Glacier_changeWarmth.2.1 19 = .ok (.iastore, 1) := by decide +kernel
theorem d_Glacier_changeWarmth_20 : decode M_Glacier_changeWarmth.2.1 20 = .ok (.return_, 1) := by decide +kernel
def s_Glacier_changeWarmth (σ : GL) (x1 : Int32) (x2 : Int32) : GL := (if x1 < 0 then σ else (if (nI 8) ≤ x1 then σ else (gSW σ (upd (gW σ) x1.toNatClampNeg x2))))
set_option maxRecDepth 100000 in
set_option maxHeartbeats 4000000 in
theorem c_Glacier_changeWarmth {Γ : G9} {h : AH} {g z : Nat} {σ : GL} {x1 : Int32} {x2 : Int32} : CallR Γ M_Glacier_changeWarmth 0 [.ref g, .int x1, .int x2] (blk h g 12 (glC Γ g σ)) z none (blk h g 12 (glC Γ g (s_Glacier_changeWarmth σ x1 x2))) := by
  refine Call.of_go (L := [some (.ref g), some (.int x1), some (.int x2)]) (by decide +kernel) rfl (by exact Nat.le_of_ble_eq_true rfl) ?_
  unfold s_Glacier_changeWarmth
  refine Go.iload_1 d_Glacier_changeWarmth_0 rfl ?_
  refine Go.if_lt (t := 20) d_Glacier_changeWarmth_1 (by decide) rfl (fun c1_1 => ?_) (fun c1_1 => ?_)
  · rw [if_pos c1_1]
    exact Go.vret d_Glacier_changeWarmth_20 rfl ⟨rfl, rfl, rfl⟩
  · refine Go.iload_1 d_Glacier_changeWarmth_4 rfl ?_
    refine Go.aload_0 d_Glacier_changeWarmth_5 rfl ?_
    refine Go.getfield d_Glacier_changeWarmth_6 rfl f_Glacier_32 gl_obj (by rfl) ?_
    refine Go.alen (n := (nI 8)) d_Glacier_changeWarmth_9 rfl gl_war (by rfl) rfl ?_
    refine Go.icmp_ge (t := 20) d_Glacier_changeWarmth_10 (by decide) rfl (fun c10_2 => ?_) (fun c10_2 => ?_)
    · rw [if_neg c1_1, if_pos c10_2]
      exact Go.vret d_Glacier_changeWarmth_20 rfl ⟨rfl, rfl, rfl⟩
    · refine Go.aload_0 d_Glacier_changeWarmth_13 rfl ?_
      refine Go.getfield d_Glacier_changeWarmth_14 rfl f_Glacier_32 gl_obj (by rfl) ?_
      refine Go.iload_1 d_Glacier_changeWarmth_17 rfl ?_
      refine Go.iload_2 d_Glacier_changeWarmth_18 rfl ?_
      refine Go.iastore d_Glacier_changeWarmth_19 rfl gl_war (vp_of c1_1 c10_2 (by decide)) ?_
      refine Go.heq gl_putW ?_
      rw [if_neg c1_1, if_neg c10_2]
      exact Go.vret d_Glacier_changeWarmth_20 rfl ⟨rfl, rfl, rfl⟩
set_option maxRecDepth 100000 in
set_option maxHeartbeats 4000000 in
theorem gN_Glacier_changeWarmth {σ : GL} {x1 : Int32} {x2 : Int32} (j : Nat) : gN (s_Glacier_changeWarmth σ x1 x2) j = gN σ j := by
  unfold s_Glacier_changeWarmth
  (repeat' split) <;> simp only [gN_gS, gN_gA, gN_gSW, gN_gSD, gN_gSC]
theorem d_Glacier_total_0 : decode M_Glacier_total.2.1 0 = .ok (.iload_n 1, 1) := by decide +kernel
theorem d_Glacier_total_1 : decode M_Glacier_total.2.1 1 = .ok (.tableswitch 77 7 11 #[35, 44, 53, 62, 72], 35) := by decide +kernel
theorem d_Glacier_total_36 : decode M_Glacier_total.2.1 36 = .ok (.aload_n 0, 1) := by decide +kernel
theorem d_Glacier_total_37 : decode M_Glacier_total.2.1 37 = .ok (.getfield 26, 3) := by decide +kernel
theorem d_Glacier_total_40 : decode M_Glacier_total.2.1 40 = .ok (.iconst 1, 1) := by decide +kernel
theorem d_Glacier_total_41 : decode M_Glacier_total.2.1 41 = .ok (.invokevirtual 65, 3) := by decide +kernel
theorem d_Glacier_total_44 : decode M_Glacier_total.2.1 44 = .ok (.ireturn, 1) := by decide +kernel
theorem d_Glacier_total_45 : decode M_Glacier_total.2.1 45 = .ok (.aload_n 0, 1) := by decide +kernel
theorem d_Glacier_total_46 : decode M_Glacier_total.2.1 46 = .ok (.getfield 14, 3) := by decide +kernel
theorem d_Glacier_total_49 : decode M_Glacier_total.2.1 49 = .ok (.iconst 2, 1) := by decide +kernel
theorem d_Glacier_total_50 : decode M_Glacier_total.2.1 50 = .ok (.invokevirtual 65, 3) := by decide +kernel
theorem d_Glacier_total_53 : decode M_Glacier_total.2.1 53 = .ok (.ireturn, 1) := by decide +kernel
theorem d_Glacier_total_54 : decode M_Glacier_total.2.1 54 = .ok (.aload_n 0, 1) := by decide +kernel
theorem d_Glacier_total_55 : decode M_Glacier_total.2.1 55 = .ok (.getfield 29, 3) := by decide +kernel
theorem d_Glacier_total_58 : decode M_Glacier_total.2.1 58 = .ok (.iconst 5, 1) := by decide +kernel
theorem d_Glacier_total_59 : decode M_Glacier_total.2.1 59 = .ok (.invokevirtual 65, 3) := by decide +kernel
theorem d_Glacier_total_62 : decode M_Glacier_total.2.1 62 = .ok (.ireturn, 1) := by decide +kernel
theorem d_Glacier_total_63 : decode M_Glacier_total.2.1 63 = .ok (.aload_n 0, 1) := by decide +kernel
theorem d_Glacier_total_64 : decode M_Glacier_total.2.1 64 = .ok (.getfield 29, 3) := by decide +kernel
theorem d_Glacier_total_67 : decode M_Glacier_total.2.1 67 = .ok (.bipush 6, 2) := by decide +kernel
theorem d_Glacier_total_69 : decode M_Glacier_total.2.1 69 = .ok (.invokevirtual 65, 3) := by decide +kernel
theorem d_Glacier_total_72 : decode M_Glacier_total.2.1 72 = .ok (.ireturn, 1) := by decide +kernel
theorem d_Glacier_total_73 : decode M_Glacier_total.2.1 73 = .ok (.aload_n 0, 1) := by decide +kernel
theorem d_Glacier_total_74 : decode M_Glacier_total.2.1 74 = .ok (.getfield 46, 3) := by decide +kernel
theorem d_Glacier_total_77 : decode M_Glacier_total.2.1 77 = .ok (.ireturn, 1) := by decide +kernel
theorem d_Glacier_total_78 : decode M_Glacier_total.2.1 78 = .ok (.aload_n 0, 1) := by decide +kernel
theorem d_Glacier_total_79 : decode M_Glacier_total.2.1 79 = .ok (.getfield 29, 3) := by decide +kernel
theorem d_Glacier_total_82 : decode M_Glacier_total.2.1 82 = .ok (.invokevirtual 68, 3) := by decide +kernel
theorem d_Glacier_total_85 : decode M_Glacier_total.2.1 85 = .ok (.aload_n 0, 1) := by decide +kernel
theorem d_Glacier_total_86 : decode M_Glacier_total.2.1 86 = .ok (.getfield 29, 3) := by decide +kernel
theorem d_Glacier_total_89 : decode M_Glacier_total.2.1 89 = .ok (.iconst 4, 1) := by decide +kernel
theorem d_Glacier_total_90 : decode M_Glacier_total.2.1 90 = .ok (.invokevirtual 65, 3) := by decide +kernel
theorem d_Glacier_total_93 : decode M_Glacier_total.2.1 93 = .ok (.isub, 1) := by decide +kernel
theorem d_Glacier_total_94 : decode M_Glacier_total.2.1 94 = .ok (.ireturn, 1) := by decide +kernel
def s_Glacier_total (σ : GL) (x1 : Int32) : Int32 := (if x1 = 7 then (gSum σ 3 1) else (if x1 = 8 then (gSum σ 0 2) else (if x1 = 9 then (gSum σ 4 5) else (if x1 = 10 then (gSum σ 4 6) else (if x1 = 11 then (gC σ) else ((nI (gN σ 4)) - (gSum σ 4 4)))))))
set_option maxRecDepth 100000 in
set_option maxHeartbeats 4000000 in
theorem c_Glacier_total {Γ : G9} {h : AH} {g z : Nat} {σ : GL} {x1 : Int32} (hW : WFG σ) : CallR Γ M_Glacier_total 2 [.ref g, .int x1] (blk h g 12 (glC Γ g σ)) z (some (.int (s_Glacier_total σ x1))) (blk h g 12 (glC Γ g σ)) := by
  refine Call.of_go (L := [some (.ref g), some (.int x1)]) (by decide +kernel) rfl (by exact Nat.le_of_ble_eq_true rfl) ?_
  unfold s_Glacier_total
  refine Go.iload_1 d_Glacier_total_0 rfl ?_
  by_cases w1_1 : x1 = 7
  · refine Go.tsw (t := 36) d_Glacier_total_1 (by rw [w1_1]; rfl) ?_
    refine Go.aload_0 d_Glacier_total_36 rfl ?_
    refine Go.getfield d_Glacier_total_37 rfl f_Glacier_26 gl_obj (by rfl) ?_
    refine Go.iconst (v := 1) d_Glacier_total_40 rfl (by decide) ?_
    refine Go.cv1r d_Glacier_total_41 rfl l_Glacier_65 k_Table_sum_v (gl_tab (k := 3) (by decide)) rfl (cG_sum (k := 3) (by decide) (c := 1) rfl (by omega) hW) rfl rfl rfl ?_
    rw [if_pos w1_1]
    exact Go.iret d_Glacier_total_44 rfl rfl ⟨rfl, rfl, rfl⟩
  by_cases w1_2 : x1 = 8
  · refine Go.tsw (t := 45) d_Glacier_total_1 (by rw [w1_2]; rfl) ?_
    refine Go.aload_0 d_Glacier_total_45 rfl ?_
    refine Go.getfield d_Glacier_total_46 rfl f_Glacier_14 gl_obj (by rfl) ?_
    refine Go.iconst (v := 2) d_Glacier_total_49 rfl (by decide) ?_
    refine Go.cv1r d_Glacier_total_50 rfl l_Glacier_65 k_Table_sum_v (gl_tab (k := 0) (by decide)) rfl (cG_sum (k := 0) (by decide) (c := 2) rfl (by omega) hW) rfl rfl rfl ?_
    rw [if_neg w1_1, if_pos w1_2]
    exact Go.iret d_Glacier_total_53 rfl rfl ⟨rfl, rfl, rfl⟩
  by_cases w1_3 : x1 = 9
  · refine Go.tsw (t := 54) d_Glacier_total_1 (by rw [w1_3]; rfl) ?_
    refine Go.aload_0 d_Glacier_total_54 rfl ?_
    refine Go.getfield d_Glacier_total_55 rfl f_Glacier_29 gl_obj (by rfl) ?_
    refine Go.iconst (v := 5) d_Glacier_total_58 rfl (by decide) ?_
    refine Go.cv1r d_Glacier_total_59 rfl l_Glacier_65 k_Table_sum_v (gl_tab (k := 4) (by decide)) rfl (cG_sum (k := 4) (by decide) (c := 5) rfl (by omega) hW) rfl rfl rfl ?_
    rw [if_neg w1_1, if_neg w1_2, if_pos w1_3]
    exact Go.iret d_Glacier_total_62 rfl rfl ⟨rfl, rfl, rfl⟩
  by_cases w1_4 : x1 = 10
  · refine Go.tsw (t := 63) d_Glacier_total_1 (by rw [w1_4]; rfl) ?_
    refine Go.aload_0 d_Glacier_total_63 rfl ?_
    refine Go.getfield d_Glacier_total_64 rfl f_Glacier_29 gl_obj (by rfl) ?_
    refine Go.bipush (v := 6) d_Glacier_total_67 rfl (by decide) ?_
    refine Go.cv1r d_Glacier_total_69 rfl l_Glacier_65 k_Table_sum_v (gl_tab (k := 4) (by decide)) rfl (cG_sum (k := 4) (by decide) (c := 6) rfl (by omega) hW) rfl rfl rfl ?_
    rw [if_neg w1_1, if_neg w1_2, if_neg w1_3, if_pos w1_4]
    exact Go.iret d_Glacier_total_72 rfl rfl ⟨rfl, rfl, rfl⟩
  by_cases w1_5 : x1 = 11
  · refine Go.tsw (t := 73) d_Glacier_total_1 (by rw [w1_5]; rfl) ?_
    refine Go.aload_0 d_Glacier_total_73 rfl ?_
    refine Go.getfield d_Glacier_total_74 rfl f_Glacier_46 gl_obj (by rfl) ?_
    rw [if_neg w1_1, if_neg w1_2, if_neg w1_3, if_neg w1_4, if_pos w1_5]
    exact Go.iret d_Glacier_total_77 rfl rfl ⟨rfl, rfl, rfl⟩
  refine Go.tsw (t := 78) d_Glacier_total_1 (tsw_out fun n hn => by
      match n, hn with
      | 0, _ => exact fun w => w1_1 (i32_eq w)
      | 1, _ => exact fun w => w1_2 (i32_eq w)
      | 2, _ => exact fun w => w1_3 (i32_eq w)
      | 3, _ => exact fun w => w1_4 (i32_eq w)
      | 4, _ => exact fun w => w1_5 (i32_eq w)
      | _ + 5, w => exact absurd w (by simp)) ?_
  refine Go.aload_0 d_Glacier_total_78 rfl ?_
  refine Go.getfield d_Glacier_total_79 rfl f_Glacier_29 gl_obj (by rfl) ?_
  refine Go.cv0r d_Glacier_total_82 rfl l_Glacier_68 k_Table_rows_v (gl_tab (k := 4) (by decide)) rfl (cG_rows (k := 4) (by decide)) rfl rfl rfl ?_
  refine Go.aload_0 d_Glacier_total_85 rfl ?_
  refine Go.getfield d_Glacier_total_86 rfl f_Glacier_29 gl_obj (by rfl) ?_
  refine Go.iconst (v := 4) d_Glacier_total_89 rfl (by decide) ?_
  refine Go.cv1r d_Glacier_total_90 rfl l_Glacier_65 k_Table_sum_v (gl_tab (k := 4) (by decide)) rfl (cG_sum (k := 4) (by decide) (c := 4) rfl (by omega) hW) rfl rfl rfl ?_
  refine Go.isub d_Glacier_total_93 rfl ?_
  rw [if_neg w1_1, if_neg w1_2, if_neg w1_3, if_neg w1_4, if_neg w1_5]
  exact Go.iret d_Glacier_total_94 rfl rfl ⟨rfl, rfl, rfl⟩
theorem d_Glacier_bandFact_0 : decode M_Glacier_bandFact.2.1 0 = .ok (.iload_n 2, 1) := by decide +kernel
theorem d_Glacier_bandFact_1 : decode M_Glacier_bandFact.2.1 1 = .ok (.tableswitch 63 3 5 #[27, 39, 51], 27) := by decide +kernel
theorem d_Glacier_bandFact_28 : decode M_Glacier_bandFact.2.1 28 = .ok (.aload_n 0, 1) := by decide +kernel
theorem d_Glacier_bandFact_29 : decode M_Glacier_bandFact.2.1 29 = .ok (.getfield 29, 3) := by decide +kernel
theorem d_Glacier_bandFact_32 : decode M_Glacier_bandFact.2.1 32 = .ok (.iconst 2, 1) := by decide +kernel
theorem d_Glacier_bandFact_33 : decode M_Glacier_bandFact.2.1 33 = .ok (.iload_n 1, 1) := by decide +kernel
theorem d_Glacier_bandFact_34 : decode M_Glacier_bandFact.2.1 34 = .ok (.iconst 4, 1) := by decide +kernel
theorem d_Glacier_bandFact_35 : decode M_Glacier_bandFact.2.1 35 = .ok (.iconst 1, 1) := by decide +kernel
theorem d_Glacier_bandFact_36 : decode M_Glacier_bandFact.2.1 36 = .ok (.invokevirtual 71, 3) := by decide +kernel
theorem d_Glacier_bandFact_39 : decode M_Glacier_bandFact.2.1 39 = .ok (.ireturn, 1) := by decide +kernel
theorem d_Glacier_bandFact_40 : decode M_Glacier_bandFact.2.1 40 = .ok (.aload_n 0, 1) := by decide +kernel
theorem d_Glacier_bandFact_41 : decode M_Glacier_bandFact.2.1 41 = .ok (.getfield 20, 3) := by decide +kernel
theorem d_Glacier_bandFact_44 : decode M_Glacier_bandFact.2.1 44 = .ok (.iconst 0, 1) := by decide +kernel
theorem d_Glacier_bandFact_45 : decode M_Glacier_bandFact.2.1 45 = .ok (.iload_n 1, 1) := by decide +kernel
theorem d_Glacier_bandFact_46 : decode M_Glacier_bandFact.2.1 46 = .ok (.iconst 3, 1) := by decide +kernel
theorem d_Glacier_bandFact_47 : decode M_Glacier_bandFact.2.1 47 = .ok (.iconst 1, 1) := by decide +kernel
theorem d_Glacier_bandFact_48 : decode M_Glacier_bandFact.2.1 48 = .ok (.invokevirtual 71, 3) := by decide +kernel
theorem d_Glacier_bandFact_51 : decode M_Glacier_bandFact.2.1 51 = .ok (.ireturn, 1) := by decide +kernel
theorem d_Glacier_bandFact_52 : decode M_Glacier_bandFact.2.1 52 = .ok (.aload_n 0, 1) := by decide +kernel
theorem d_Glacier_bandFact_53 : decode M_Glacier_bandFact.2.1 53 = .ok (.getfield 23, 3) := by decide +kernel
theorem d_Glacier_bandFact_56 : decode M_Glacier_bandFact.2.1 56 = .ok (.iconst 0, 1) := by decide +kernel
theorem d_Glacier_bandFact_57 : decode M_Glacier_bandFact.2.1 57 = .ok (.iload_n 1, 1) := by decide +kernel
theorem d_Glacier_bandFact_58 : decode M_Glacier_bandFact.2.1 58 = .ok (.iconst 0, 1) := by decide +kernel
theorem d_Glacier_bandFact_59 : decode M_Glacier_bandFact.2.1 59 = .ok (.iload_n 1, 1) := by decide +kernel
theorem d_Glacier_bandFact_60 : decode M_Glacier_bandFact.2.1 60 = .ok (.invokevirtual 71, 3) := by decide +kernel
theorem d_Glacier_bandFact_63 : decode M_Glacier_bandFact.2.1 63 = .ok (.ireturn, 1) := by decide +kernel
theorem d_Glacier_bandFact_64 : decode M_Glacier_bandFact.2.1 64 = .ok (.aload_n 0, 1) := by decide +kernel
theorem d_Glacier_bandFact_65 : decode M_Glacier_bandFact.2.1 65 = .ok (.getfield 14, 3) := by decide +kernel
theorem d_Glacier_bandFact_68 : decode M_Glacier_bandFact.2.1 68 = .ok (.iload_n 1, 1) := by decide +kernel
theorem d_Glacier_bandFact_69 : decode M_Glacier_bandFact.2.1 69 = .ok (.iload_n 2, 1) := by decide +kernel
theorem d_Glacier_bandFact_70 : decode M_Glacier_bandFact.2.1 70 = .ok (.invokevirtual 75, 3) := by decide +kernel
theorem d_Glacier_bandFact_73 : decode M_Glacier_bandFact.2.1 73 = .ok (.ireturn, 1) := by decide +kernel
def s_Glacier_bandFact (σ : GL) (x1 : Int32) (x2 : Nat) : Int32 := (if (nI x2) = 3 then (gMat σ 4 2 x1 4 1) else (if (nI x2) = 4 then (gMat σ 1 0 x1 3 1) else (if (nI x2) = 5 then (gMat σ 2 0 x1 0 x1) else (gG σ 0 x1 x2))))
set_option maxRecDepth 100000 in
set_option maxHeartbeats 4000000 in
theorem c_Glacier_bandFact {Γ : G9} {h : AH} {g z : Nat} {σ : GL} {x1 : Int32} {x2 : Nat} {v2 : Int32} (e2 : v2 = nI x2) (b2 : x2 < 8) (hW : WFG σ) : CallR Γ M_Glacier_bandFact 2 [.ref g, .int x1, .int v2] (blk h g 12 (glC Γ g σ)) z (some (.int (s_Glacier_bandFact σ x1 x2))) (blk h g 12 (glC Γ g σ)) := by
  subst e2
  refine Call.of_go (L := [some (.ref g), some (.int x1), some (.int (nI x2))]) (by decide +kernel) rfl (by exact Nat.le_of_ble_eq_true rfl) ?_
  unfold s_Glacier_bandFact
  refine Go.iload_2 d_Glacier_bandFact_0 rfl ?_
  by_cases w1_1 : (nI x2) = 3
  · refine Go.tsw (t := 28) d_Glacier_bandFact_1 (by rw [w1_1]; rfl) ?_
    refine Go.aload_0 d_Glacier_bandFact_28 rfl ?_
    refine Go.getfield d_Glacier_bandFact_29 rfl f_Glacier_29 gl_obj (by rfl) ?_
    refine Go.iconst (v := 2) d_Glacier_bandFact_32 rfl (by decide) ?_
    refine Go.iload_1 d_Glacier_bandFact_33 rfl ?_
    refine Go.iconst (v := 4) d_Glacier_bandFact_34 rfl (by decide) ?_
    refine Go.iconst (v := 1) d_Glacier_bandFact_35 rfl (by decide) ?_
    refine Go.cv4r d_Glacier_bandFact_36 rfl l_Glacier_71 k_Table_matches_v (gl_tab (k := 4) (by decide)) rfl (cG_mat (k := 4) (by decide) (c := 2) rfl (by omega) (c2 := 4) rfl (by omega) hW) rfl rfl rfl ?_
    rw [if_pos w1_1]
    exact Go.iret d_Glacier_bandFact_39 rfl rfl ⟨rfl, rfl, rfl⟩
  by_cases w1_2 : (nI x2) = 4
  · refine Go.tsw (t := 40) d_Glacier_bandFact_1 (by rw [w1_2]; rfl) ?_
    refine Go.aload_0 d_Glacier_bandFact_40 rfl ?_
    refine Go.getfield d_Glacier_bandFact_41 rfl f_Glacier_20 gl_obj (by rfl) ?_
    refine Go.iconst (v := 0) d_Glacier_bandFact_44 rfl (by decide) ?_
    refine Go.iload_1 d_Glacier_bandFact_45 rfl ?_
    refine Go.iconst (v := 3) d_Glacier_bandFact_46 rfl (by decide) ?_
    refine Go.iconst (v := 1) d_Glacier_bandFact_47 rfl (by decide) ?_
    refine Go.cv4r d_Glacier_bandFact_48 rfl l_Glacier_71 k_Table_matches_v (gl_tab (k := 1) (by decide)) rfl (cG_mat (k := 1) (by decide) (c := 0) rfl (by omega) (c2 := 3) rfl (by omega) hW) rfl rfl rfl ?_
    rw [if_neg w1_1, if_pos w1_2]
    exact Go.iret d_Glacier_bandFact_51 rfl rfl ⟨rfl, rfl, rfl⟩
  by_cases w1_3 : (nI x2) = 5
  · refine Go.tsw (t := 52) d_Glacier_bandFact_1 (by rw [w1_3]; rfl) ?_
    refine Go.aload_0 d_Glacier_bandFact_52 rfl ?_
    refine Go.getfield d_Glacier_bandFact_53 rfl f_Glacier_23 gl_obj (by rfl) ?_
    refine Go.iconst (v := 0) d_Glacier_bandFact_56 rfl (by decide) ?_
    refine Go.iload_1 d_Glacier_bandFact_57 rfl ?_
    refine Go.iconst (v := 0) d_Glacier_bandFact_58 rfl (by decide) ?_
    refine Go.iload_1 d_Glacier_bandFact_59 rfl ?_
    refine Go.cv4r d_Glacier_bandFact_60 rfl l_Glacier_71 k_Table_matches_v (gl_tab (k := 2) (by decide)) rfl (cG_mat (k := 2) (by decide) (c := 0) rfl (by omega) (c2 := 0) rfl (by omega) hW) rfl rfl rfl ?_
    rw [if_neg w1_1, if_neg w1_2, if_pos w1_3]
    exact Go.iret d_Glacier_bandFact_63 rfl rfl ⟨rfl, rfl, rfl⟩
  refine Go.tsw (t := 64) d_Glacier_bandFact_1 (tsw_out fun n hn => by
      match n, hn with
      | 0, _ => exact fun w => w1_1 (i32_eq w)
      | 1, _ => exact fun w => w1_2 (i32_eq w)
      | 2, _ => exact fun w => w1_3 (i32_eq w)
      | _ + 3, w => exact absurd w (by simp)) ?_
  refine Go.aload_0 d_Glacier_bandFact_64 rfl ?_
  refine Go.getfield d_Glacier_bandFact_65 rfl f_Glacier_14 gl_obj (by rfl) ?_
  refine Go.iload_1 d_Glacier_bandFact_68 rfl ?_
  refine Go.iload_2 d_Glacier_bandFact_69 rfl ?_
  refine Go.cv2r d_Glacier_bandFact_70 rfl l_Glacier_75 k_Table_get_v (gl_tab (k := 0) (by decide)) rfl (cG_get (k := 0) (by decide) (c := x2) rfl (by omega) hW) rfl rfl rfl ?_
  rw [if_neg w1_1, if_neg w1_2, if_neg w1_3]
  exact Go.iret d_Glacier_bandFact_73 rfl rfl ⟨rfl, rfl, rfl⟩
theorem d_Glacier_crevasseFact_0 : decode M_Glacier_crevasseFact.2.1 0 = .ok (.aload_n 0, 1) := by decide +kernel
theorem d_Glacier_crevasseFact_1 : decode M_Glacier_crevasseFact.2.1 1 = .ok (.getfield 23, 3) := by decide +kernel
theorem d_Glacier_crevasseFact_4 : decode M_Glacier_crevasseFact.2.1 4 = .ok (.iload_n 1, 1) := by decide +kernel
theorem d_Glacier_crevasseFact_5 : decode M_Glacier_crevasseFact.2.1 5 = .ok (.iload_n 2, 1) := by decide +kernel
theorem d_Glacier_crevasseFact_6 : decode M_Glacier_crevasseFact.2.1 6 = .ok (.invokevirtual 75, 3) := by decide +kernel
theorem d_Glacier_crevasseFact_9 : decode M_Glacier_crevasseFact.2.1 9 = .ok (.istore_n 3, 1) := by decide +kernel
theorem d_Glacier_crevasseFact_10 : decode M_Glacier_crevasseFact.2.1 10 = .ok (.iload_n 2, 1) := by decide +kernel
theorem d_Glacier_crevasseFact_11 : decode M_Glacier_crevasseFact.2.1 11 = .ok (.iconst 2, 1) := by decide +kernel
theorem d_Glacier_crevasseFact_12 : decode M_Glacier_crevasseFact.2.1 12 = .ok (.if_icmp .ne 11, 3) := by decide +kernel
theorem d_Glacier_crevasseFact_15 : decode M_Glacier_crevasseFact.2.1 15 = .ok (.iconst 1, 1) := by decide +kernel
theorem d_Glacier_crevasseFact_16 : decode M_Glacier_crevasseFact.2.1 16 = .ok (.iload_n 3, 1) := by decide +kernel
theorem d_Glacier_crevasseFact_17 : decode M_Glacier_crevasseFact.2.1 17 = .ok (.invokestatic 79, 3) := by decide +kernel
theorem d_Glacier_crevasseFact_20 : decode M_Glacier_crevasseFact.2.1 20 = .ok (.goto 4, 3) := by decide +kernel
theorem d_Glacier_crevasseFact_23 : decode M_Glacier_crevasseFact.2.1 23 = .ok (.iload_n 3, 1) := by decide +kernel
theorem d_Glacier_crevasseFact_24 : decode M_Glacier_crevasseFact.2.1 24 = .ok (.ireturn, 1) := by decide +kernel
def s_Glacier_crevasseFact (σ : GL) (x1 : Int32) (x2 : Nat) : Int32 := (if (nI x2) = 2 then (iMin 1 (gG σ 2 x1 x2)) else (gG σ 2 x1 x2))
set_option maxRecDepth 100000 in
set_option maxHeartbeats 4000000 in
theorem c_Glacier_crevasseFact {Γ : G9} {h : AH} {g z : Nat} {σ : GL} {x1 : Int32} {x2 : Nat} {v2 : Int32} (e2 : v2 = nI x2) (b2 : x2 < 8) (hW : WFG σ) : CallR Γ M_Glacier_crevasseFact 1 [.ref g, .int x1, .int v2] (blk h g 12 (glC Γ g σ)) z (some (.int (s_Glacier_crevasseFact σ x1 x2))) (blk h g 12 (glC Γ g σ)) := by
  subst e2
  refine Call.of_go (L := [some (.ref g), some (.int x1), some (.int (nI x2)), none]) (by decide +kernel) rfl (by exact Nat.le_of_ble_eq_true rfl) ?_
  unfold s_Glacier_crevasseFact
  refine Go.aload_0 d_Glacier_crevasseFact_0 rfl ?_
  refine Go.getfield d_Glacier_crevasseFact_1 rfl f_Glacier_23 gl_obj (by rfl) ?_
  refine Go.iload_1 d_Glacier_crevasseFact_4 rfl ?_
  refine Go.iload_2 d_Glacier_crevasseFact_5 rfl ?_
  refine Go.cv2r d_Glacier_crevasseFact_6 rfl l_Glacier_75 k_Table_get_v (gl_tab (k := 2) (by decide)) rfl (cG_get (k := 2) (by decide) (c := x2) rfl (by omega) hW) rfl rfl rfl ?_
  refine Go.istore_3 d_Glacier_crevasseFact_9 rfl (by rfl) ?_
  refine Go.iload_2 d_Glacier_crevasseFact_10 rfl ?_
  refine Go.iconst (v := 2) d_Glacier_crevasseFact_11 rfl (by decide) ?_
  refine Go.icmp_ne (t := 23) d_Glacier_crevasseFact_12 (by decide) rfl (fun c12_1 => ?_) (fun c12_1 => ?_)
  · refine Go.iload_3 d_Glacier_crevasseFact_23 rfl ?_
    rw [if_neg c12_1]
    exact Go.iret d_Glacier_crevasseFact_24 rfl rfl ⟨rfl, rfl, rfl⟩
  · refine Go.iconst (v := 1) d_Glacier_crevasseFact_15 rfl (by decide) ?_
    refine Go.iload_3 d_Glacier_crevasseFact_16 rfl ?_
    refine Go.imin d_Glacier_crevasseFact_17 rfl l_Glacier_79 (by decide) rfl ?_
    refine Go.goto (t := 24) d_Glacier_crevasseFact_20 (by decide) ?_
    rw [if_pos c12_1]
    exact Go.iret d_Glacier_crevasseFact_24 rfl rfl ⟨rfl, rfl, rfl⟩
theorem d_Glacier_isHere_0 : decode M_Glacier_isHere.2.1 0 = .ok (.aload_n 0, 1) := by decide +kernel
theorem d_Glacier_isHere_1 : decode M_Glacier_isHere.2.1 1 = .ok (.getfield 29, 3) := by decide +kernel
theorem d_Glacier_isHere_4 : decode M_Glacier_isHere.2.1 4 = .ok (.iload_n 1, 1) := by decide +kernel
theorem d_Glacier_isHere_5 : decode M_Glacier_isHere.2.1 5 = .ok (.iconst 4, 1) := by decide +kernel
theorem d_Glacier_isHere_6 : decode M_Glacier_isHere.2.1 6 = .ok (.invokevirtual 75, 3) := by decide +kernel
theorem d_Glacier_isHere_9 : decode M_Glacier_isHere.2.1 9 = .ok (.iconst 1, 1) := by decide +kernel
theorem d_Glacier_isHere_10 : decode M_Glacier_isHere.2.1 10 = .ok (.if_icmp .ne 7, 3) := by decide +kernel
theorem d_Glacier_isHere_13 : decode M_Glacier_isHere.2.1 13 = .ok (.iconst 1, 1) := by decide +kernel
theorem d_Glacier_isHere_14 : decode M_Glacier_isHere.2.1 14 = .ok (.goto 4, 3) := by decide +kernel
theorem d_Glacier_isHere_17 : decode M_Glacier_isHere.2.1 17 = .ok (.iconst 0, 1) := by decide +kernel
theorem d_Glacier_isHere_18 : decode M_Glacier_isHere.2.1 18 = .ok (.ireturn, 1) := by decide +kernel
def s_Glacier_isHere (σ : GL) (x1 : Int32) : Int32 := (if (gG σ 4 x1 4) = 1 then 1 else 0)
set_option maxRecDepth 100000 in
set_option maxHeartbeats 4000000 in
theorem c_Glacier_isHere {Γ : G9} {h : AH} {g z : Nat} {σ : GL} {x1 : Int32} (hW : WFG σ) : CallR Γ M_Glacier_isHere 1 [.ref g, .int x1] (blk h g 12 (glC Γ g σ)) z (some (.int (s_Glacier_isHere σ x1))) (blk h g 12 (glC Γ g σ)) := by
  refine Call.of_go (L := [some (.ref g), some (.int x1)]) (by decide +kernel) rfl (by exact Nat.le_of_ble_eq_true rfl) ?_
  unfold s_Glacier_isHere
  refine Go.aload_0 d_Glacier_isHere_0 rfl ?_
  refine Go.getfield d_Glacier_isHere_1 rfl f_Glacier_29 gl_obj (by rfl) ?_
  refine Go.iload_1 d_Glacier_isHere_4 rfl ?_
  refine Go.iconst (v := 4) d_Glacier_isHere_5 rfl (by decide) ?_
  refine Go.cv2r d_Glacier_isHere_6 rfl l_Glacier_75 k_Table_get_v (gl_tab (k := 4) (by decide)) rfl (cG_get (k := 4) (by decide) (c := 4) rfl (by omega) hW) rfl rfl rfl ?_
  refine Go.iconst (v := 1) d_Glacier_isHere_9 rfl (by decide) ?_
  refine Go.icmp_ne (t := 17) d_Glacier_isHere_10 (by decide) rfl (fun c10_1 => ?_) (fun c10_1 => ?_)
  · refine Go.iconst (v := 0) d_Glacier_isHere_17 rfl (by decide) ?_
    rw [if_neg c10_1]
    exact Go.iret d_Glacier_isHere_18 rfl rfl ⟨rfl, rfl, rfl⟩
  · refine Go.iconst (v := 1) d_Glacier_isHere_13 rfl (by decide) ?_
    refine Go.goto (t := 18) d_Glacier_isHere_14 (by decide) ?_
    rw [if_pos c10_1]
    exact Go.iret d_Glacier_isHere_18 rfl rfl ⟨rfl, rfl, rfl⟩
set_option maxRecDepth 100000 in
set_option maxHeartbeats 4000000 in
theorem s_Glacier_isHere_01 (σ : GL) (x1 : Int32) : (s_Glacier_isHere σ x1) = 0 ∨ (s_Glacier_isHere σ x1) = 1 := by
  unfold s_Glacier_isHere
  (repeat' split) <;> first | exact Or.inl rfl | exact Or.inr rfl
theorem d_Glacier_canDo_0 : decode M_Glacier_canDo.2.1 0 = .ok (.aload_n 0, 1) := by decide +kernel
theorem d_Glacier_canDo_1 : decode M_Glacier_canDo.2.1 1 = .ok (.getfield 29, 3) := by decide +kernel
theorem d_Glacier_canDo_4 : decode M_Glacier_canDo.2.1 4 = .ok (.iload_n 1, 1) := by decide +kernel
theorem d_Glacier_canDo_5 : decode M_Glacier_canDo.2.1 5 = .ok (.iconst 4, 1) := by decide +kernel
theorem d_Glacier_canDo_6 : decode M_Glacier_canDo.2.1 6 = .ok (.invokevirtual 75, 3) := by decide +kernel
theorem d_Glacier_canDo_9 : decode M_Glacier_canDo.2.1 9 = .ok (.iconst 1, 1) := by decide +kernel
theorem d_Glacier_canDo_10 : decode M_Glacier_canDo.2.1 10 = .ok (.if_icmp .ne 20, 3) := by decide +kernel
theorem d_Glacier_canDo_13 : decode M_Glacier_canDo.2.1 13 = .ok (.aload_n 0, 1) := by decide +kernel
theorem d_Glacier_canDo_14 : decode M_Glacier_canDo.2.1 14 = .ok (.getfield 29, 3) := by decide +kernel
theorem d_Glacier_canDo_17 : decode M_Glacier_canDo.2.1 17 = .ok (.iload_n 1, 1) := by decide +kernel
theorem d_Glacier_canDo_18 : decode M_Glacier_canDo.2.1 18 = .ok (.bipush 7, 2) := by decide +kernel
theorem d_Glacier_canDo_20 : decode M_Glacier_canDo.2.1 20 = .ok (.invokevirtual 75, 3) := by decide +kernel
theorem d_Glacier_canDo_23 : decode M_Glacier_canDo.2.1 23 = .ok (.ifCond .ne 7, 3) := by decide +kernel
theorem d_Glacier_canDo_26 : decode M_Glacier_canDo.2.1 26 = .ok (.iconst 1, 1) := by decide +kernel
theorem d_Glacier_canDo_27 : decode M_Glacier_canDo.2.1 27 = .ok (.goto 4, 3) := by decide +kernel
theorem d_Glacier_canDo_30 : decode M_Glacier_canDo.2.1 30 = .ok (.iconst 0, 1) := by decide +kernel
theorem d_Glacier_canDo_31 : decode M_Glacier_canDo.2.1 31 = .ok (.ireturn, 1) := by decide +kernel
def s_Glacier_canDo (σ : GL) (x1 : Int32) : Int32 := (if (gG σ 4 x1 4) = 1 then (if (gG σ 4 x1 7) = 0 then 1 else 0) else 0)
set_option maxRecDepth 100000 in
set_option maxHeartbeats 4000000 in
theorem c_Glacier_canDo {Γ : G9} {h : AH} {g z : Nat} {σ : GL} {x1 : Int32} (hW : WFG σ) : CallR Γ M_Glacier_canDo 1 [.ref g, .int x1] (blk h g 12 (glC Γ g σ)) z (some (.int (s_Glacier_canDo σ x1))) (blk h g 12 (glC Γ g σ)) := by
  refine Call.of_go (L := [some (.ref g), some (.int x1)]) (by decide +kernel) rfl (by exact Nat.le_of_ble_eq_true rfl) ?_
  unfold s_Glacier_canDo
  refine Go.aload_0 d_Glacier_canDo_0 rfl ?_
  refine Go.getfield d_Glacier_canDo_1 rfl f_Glacier_29 gl_obj (by rfl) ?_
  refine Go.iload_1 d_Glacier_canDo_4 rfl ?_
  refine Go.iconst (v := 4) d_Glacier_canDo_5 rfl (by decide) ?_
  refine Go.cv2r d_Glacier_canDo_6 rfl l_Glacier_75 k_Table_get_v (gl_tab (k := 4) (by decide)) rfl (cG_get (k := 4) (by decide) (c := 4) rfl (by omega) hW) rfl rfl rfl ?_
  refine Go.iconst (v := 1) d_Glacier_canDo_9 rfl (by decide) ?_
  refine Go.icmp_ne (t := 30) d_Glacier_canDo_10 (by decide) rfl (fun c10_1 => ?_) (fun c10_1 => ?_)
  · refine Go.iconst (v := 0) d_Glacier_canDo_30 rfl (by decide) ?_
    rw [if_neg c10_1]
    exact Go.iret d_Glacier_canDo_31 rfl rfl ⟨rfl, rfl, rfl⟩
  · refine Go.aload_0 d_Glacier_canDo_13 rfl ?_
    refine Go.getfield d_Glacier_canDo_14 rfl f_Glacier_29 gl_obj (by rfl) ?_
    refine Go.iload_1 d_Glacier_canDo_17 rfl ?_
    refine Go.bipush (v := 7) d_Glacier_canDo_18 rfl (by decide) ?_
    refine Go.cv2r d_Glacier_canDo_20 rfl l_Glacier_75 k_Table_get_v (gl_tab (k := 4) (by decide)) rfl (cG_get (k := 4) (by decide) (c := 7) rfl (by omega) hW) rfl rfl rfl ?_
    refine Go.if_ne (t := 30) d_Glacier_canDo_23 (by decide) rfl (fun c23_2 => ?_) (fun c23_2 => ?_)
    · refine Go.iconst (v := 0) d_Glacier_canDo_30 rfl (by decide) ?_
      rw [if_pos c10_1, if_neg c23_2]
      exact Go.iret d_Glacier_canDo_31 rfl rfl ⟨rfl, rfl, rfl⟩
    · refine Go.iconst (v := 1) d_Glacier_canDo_26 rfl (by decide) ?_
      refine Go.goto (t := 31) d_Glacier_canDo_27 (by decide) ?_
      rw [if_pos c10_1, if_pos c23_2]
      exact Go.iret d_Glacier_canDo_31 rfl rfl ⟨rfl, rfl, rfl⟩
set_option maxRecDepth 100000 in
set_option maxHeartbeats 4000000 in
theorem s_Glacier_canDo_01 (σ : GL) (x1 : Int32) : (s_Glacier_canDo σ x1) = 0 ∨ (s_Glacier_canDo σ x1) = 1 := by
  unfold s_Glacier_canDo
  (repeat' split) <;> first | exact Or.inl rfl | exact Or.inr rfl
theorem d_Glacier_isTooWeak_0 : decode M_Glacier_isTooWeak.2.1 0 = .ok (.aload_n 0, 1) := by decide +kernel
theorem d_Glacier_isTooWeak_1 : decode M_Glacier_isTooWeak.2.1 1 = .ok (.getfield 29, 3) := by decide +kernel
theorem d_Glacier_isTooWeak_4 : decode M_Glacier_isTooWeak.2.1 4 = .ok (.iload_n 2, 1) := by decide +kernel
theorem d_Glacier_isTooWeak_5 : decode M_Glacier_isTooWeak.2.1 5 = .ok (.iconst 2, 1) := by decide +kernel
theorem d_Glacier_isTooWeak_6 : decode M_Glacier_isTooWeak.2.1 6 = .ok (.invokevirtual 75, 3) := by decide +kernel
theorem d_Glacier_isTooWeak_9 : decode M_Glacier_isTooWeak.2.1 9 = .ok (.iload_n 3, 1) := by decide +kernel
theorem d_Glacier_isTooWeak_10 : decode M_Glacier_isTooWeak.2.1 10 = .ok (.ifCond .eq 7, 3) := by decide +kernel
theorem d_Glacier_isTooWeak_13 : decode M_Glacier_isTooWeak.2.1 13 = .ok (.iconst 0, 1) := by decide +kernel
theorem d_Glacier_isTooWeak_14 : decode M_Glacier_isTooWeak.2.1 14 = .ok (.goto 4, 3) := by decide +kernel
theorem d_Glacier_isTooWeak_17 : decode M_Glacier_isTooWeak.2.1 17 = .ok (.iconst 1, 1) := by decide +kernel
theorem d_Glacier_isTooWeak_18 : decode M_Glacier_isTooWeak.2.1 18 = .ok (.isub, 1) := by decide +kernel
theorem d_Glacier_isTooWeak_19 : decode M_Glacier_isTooWeak.2.1 19 = .ok (.istore 4, 2) := by decide +kernel
theorem d_Glacier_isTooWeak_21 : decode M_Glacier_isTooWeak.2.1 21 = .ok (.aload_n 0, 1) := by decide +kernel
theorem d_Glacier_isTooWeak_22 : decode M_Glacier_isTooWeak.2.1 22 = .ok (.getfield 23, 3) := by decide +kernel
theorem d_Glacier_isTooWeak_25 : decode M_Glacier_isTooWeak.2.1 25 = .ok (.iload_n 1, 1) := by decide +kernel
theorem d_Glacier_isTooWeak_26 : decode M_Glacier_isTooWeak.2.1 26 = .ok (.iconst 0, 1) := by decide +kernel
theorem d_Glacier_isTooWeak_27 : decode M_Glacier_isTooWeak.2.1 27 = .ok (.invokevirtual 75, 3) := by decide +kernel
theorem d_Glacier_isTooWeak_30 : decode M_Glacier_isTooWeak.2.1 30 = .ok (.iload 4, 2) := by decide +kernel
theorem d_Glacier_isTooWeak_32 : decode M_Glacier_isTooWeak.2.1 32 = .ok (.if_icmp .ne 31, 3) := by decide +kernel
theorem d_Glacier_isTooWeak_35 : decode M_Glacier_isTooWeak.2.1 35 = .ok (.aload_n 0, 1) := by decide +kernel
theorem d_Glacier_isTooWeak_36 : decode M_Glacier_isTooWeak.2.1 36 = .ok (.getfield 23, 3) := by decide +kernel
theorem d_Glacier_isTooWeak_39 : decode M_Glacier_isTooWeak.2.1 39 = .ok (.iload_n 1, 1) := by decide +kernel
theorem d_Glacier_isTooWeak_40 : decode M_Glacier_isTooWeak.2.1 40 = .ok (.iconst 1, 1) := by decide +kernel
theorem d_Glacier_isTooWeak_41 : decode M_Glacier_isTooWeak.2.1 41 = .ok (.invokevirtual 75, 3) := by decide +kernel
theorem d_Glacier_isTooWeak_44 : decode M_Glacier_isTooWeak.2.1 44 = .ok (.bipush 8, 2) := by decide +kernel
theorem d_Glacier_isTooWeak_46 : decode M_Glacier_isTooWeak.2.1 46 = .ok (.aload_n 0, 1) := by decide +kernel
theorem d_Glacier_isTooWeak_47 : decode M_Glacier_isTooWeak.2.1 47 = .ok (.getfield 29, 3) := by decide +kernel
theorem d_Glacier_isTooWeak_50 : decode M_Glacier_isTooWeak.2.1 50 = .ok (.iload_n 2, 1) := by decide +kernel
theorem d_Glacier_isTooWeak_51 : decode M_Glacier_isTooWeak.2.1 51 = .ok (.iconst 0, 1) := by decide +kernel
theorem d_Glacier_isTooWeak_52 : decode M_Glacier_isTooWeak.2.1 52 = .ok (.invokevirtual 75, 3) := by decide +kernel
theorem d_Glacier_isTooWeak_55 : decode M_Glacier_isTooWeak.2.1 55 = .ok (.imul, 1) := by decide +kernel
theorem d_Glacier_isTooWeak_56 : decode M_Glacier_isTooWeak.2.1 56 = .ok (.if_icmp .ge 7, 3) := by decide +kernel
theorem d_Glacier_isTooWeak_59 : decode M_Glacier_isTooWeak.2.1 59 = .ok (.iconst 1, 1) := by decide +kernel
theorem d_Glacier_isTooWeak_60 : decode M_Glacier_isTooWeak.2.1 60 = .ok (.goto 4, 3) := by decide +kernel
theorem d_Glacier_isTooWeak_63 : decode M_Glacier_isTooWeak.2.1 63 = .ok (.iconst 0, 1) := by decide +kernel
theorem d_Glacier_isTooWeak_64 : decode M_Glacier_isTooWeak.2.1 64 = .ok (.ireturn, 1) := by decide +kernel
def s_Glacier_isTooWeak (σ : GL) (x1 : Int32) (x2 : Int32) (x3 : Int32) : Int32 := (if x3 = 0 then (if (gG σ 2 x1 0) = ((gG σ 4 x2 2) - 1) then (if (8 * (gG σ 4 x2 0)) ≤ (gG σ 2 x1 1) then 0 else 1) else 0) else (if (gG σ 2 x1 0) = ((gG σ 4 x2 2) - 0) then (if (8 * (gG σ 4 x2 0)) ≤ (gG σ 2 x1 1) then 0 else 1) else 0))
set_option maxRecDepth 100000 in
set_option maxHeartbeats 4000000 in
theorem c_Glacier_isTooWeak {Γ : G9} {h : AH} {g z : Nat} {σ : GL} {x1 : Int32} {x2 : Int32} {x3 : Int32} (hW : WFG σ) : CallR Γ M_Glacier_isTooWeak 1 [.ref g, .int x1, .int x2, .int x3] (blk h g 12 (glC Γ g σ)) z (some (.int (s_Glacier_isTooWeak σ x1 x2 x3))) (blk h g 12 (glC Γ g σ)) := by
  refine Call.of_go (L := [some (.ref g), some (.int x1), some (.int x2), some (.int x3), none]) (by decide +kernel) rfl (by exact Nat.le_of_ble_eq_true rfl) ?_
  unfold s_Glacier_isTooWeak
  refine Go.aload_0 d_Glacier_isTooWeak_0 rfl ?_
  refine Go.getfield d_Glacier_isTooWeak_1 rfl f_Glacier_29 gl_obj (by rfl) ?_
  refine Go.iload_2 d_Glacier_isTooWeak_4 rfl ?_
  refine Go.iconst (v := 2) d_Glacier_isTooWeak_5 rfl (by decide) ?_
  refine Go.cv2r d_Glacier_isTooWeak_6 rfl l_Glacier_75 k_Table_get_v (gl_tab (k := 4) (by decide)) rfl (cG_get (k := 4) (by decide) (c := 2) rfl (by omega) hW) rfl rfl rfl ?_
  refine Go.iload_3 d_Glacier_isTooWeak_9 rfl ?_
  refine Go.if_eq (t := 17) d_Glacier_isTooWeak_10 (by decide) rfl (fun c10_1 => ?_) (fun c10_1 => ?_)
  · refine Go.iconst (v := 1) d_Glacier_isTooWeak_17 rfl (by decide) ?_
    refine Go.isub d_Glacier_isTooWeak_18 rfl ?_
    refine Go.istore_4 d_Glacier_isTooWeak_19 rfl (by rfl) ?_
    refine Go.aload_0 d_Glacier_isTooWeak_21 rfl ?_
    refine Go.getfield d_Glacier_isTooWeak_22 rfl f_Glacier_23 gl_obj (by rfl) ?_
    refine Go.iload_1 d_Glacier_isTooWeak_25 rfl ?_
    refine Go.iconst (v := 0) d_Glacier_isTooWeak_26 rfl (by decide) ?_
    refine Go.cv2r d_Glacier_isTooWeak_27 rfl l_Glacier_75 k_Table_get_v (gl_tab (k := 2) (by decide)) rfl (cG_get (k := 2) (by decide) (c := 0) rfl (by omega) hW) rfl rfl rfl ?_
    refine Go.iload_4 d_Glacier_isTooWeak_30 rfl ?_
    refine Go.icmp_ne (t := 63) d_Glacier_isTooWeak_32 (by decide) rfl (fun c32_2 => ?_) (fun c32_2 => ?_)
    · refine Go.iconst (v := 0) d_Glacier_isTooWeak_63 rfl (by decide) ?_
      rw [if_pos c10_1, if_neg c32_2]
      exact Go.iret d_Glacier_isTooWeak_64 rfl rfl ⟨rfl, rfl, rfl⟩
    · refine Go.aload_0 d_Glacier_isTooWeak_35 rfl ?_
      refine Go.getfield d_Glacier_isTooWeak_36 rfl f_Glacier_23 gl_obj (by rfl) ?_
      refine Go.iload_1 d_Glacier_isTooWeak_39 rfl ?_
      refine Go.iconst (v := 1) d_Glacier_isTooWeak_40 rfl (by decide) ?_
      refine Go.cv2r d_Glacier_isTooWeak_41 rfl l_Glacier_75 k_Table_get_v (gl_tab (k := 2) (by decide)) rfl (cG_get (k := 2) (by decide) (c := 1) rfl (by omega) hW) rfl rfl rfl ?_
      refine Go.bipush (v := 8) d_Glacier_isTooWeak_44 rfl (by decide) ?_
      refine Go.aload_0 d_Glacier_isTooWeak_46 rfl ?_
      refine Go.getfield d_Glacier_isTooWeak_47 rfl f_Glacier_29 gl_obj (by rfl) ?_
      refine Go.iload_2 d_Glacier_isTooWeak_50 rfl ?_
      refine Go.iconst (v := 0) d_Glacier_isTooWeak_51 rfl (by decide) ?_
      refine Go.cv2r d_Glacier_isTooWeak_52 rfl l_Glacier_75 k_Table_get_v (gl_tab (k := 4) (by decide)) rfl (cG_get (k := 4) (by decide) (c := 0) rfl (by omega) hW) rfl rfl rfl ?_
      refine Go.imul d_Glacier_isTooWeak_55 rfl ?_
      refine Go.icmp_ge (t := 63) d_Glacier_isTooWeak_56 (by decide) rfl (fun c56_3 => ?_) (fun c56_3 => ?_)
      · refine Go.iconst (v := 0) d_Glacier_isTooWeak_63 rfl (by decide) ?_
        rw [if_pos c10_1, if_pos c32_2, if_pos c56_3]
        exact Go.iret d_Glacier_isTooWeak_64 rfl rfl ⟨rfl, rfl, rfl⟩
      · refine Go.iconst (v := 1) d_Glacier_isTooWeak_59 rfl (by decide) ?_
        refine Go.goto (t := 64) d_Glacier_isTooWeak_60 (by decide) ?_
        rw [if_pos c10_1, if_pos c32_2, if_neg c56_3]
        exact Go.iret d_Glacier_isTooWeak_64 rfl rfl ⟨rfl, rfl, rfl⟩
  · refine Go.iconst (v := 0) d_Glacier_isTooWeak_13 rfl (by decide) ?_
    refine Go.goto (t := 18) d_Glacier_isTooWeak_14 (by decide) ?_
    refine Go.isub d_Glacier_isTooWeak_18 rfl ?_
    refine Go.istore_4 d_Glacier_isTooWeak_19 rfl (by rfl) ?_
    refine Go.aload_0 d_Glacier_isTooWeak_21 rfl ?_
    refine Go.getfield d_Glacier_isTooWeak_22 rfl f_Glacier_23 gl_obj (by rfl) ?_
    refine Go.iload_1 d_Glacier_isTooWeak_25 rfl ?_
    refine Go.iconst (v := 0) d_Glacier_isTooWeak_26 rfl (by decide) ?_
    refine Go.cv2r d_Glacier_isTooWeak_27 rfl l_Glacier_75 k_Table_get_v (gl_tab (k := 2) (by decide)) rfl (cG_get (k := 2) (by decide) (c := 0) rfl (by omega) hW) rfl rfl rfl ?_
    refine Go.iload_4 d_Glacier_isTooWeak_30 rfl ?_
    refine Go.icmp_ne (t := 63) d_Glacier_isTooWeak_32 (by decide) rfl (fun c32_4 => ?_) (fun c32_4 => ?_)
    · refine Go.iconst (v := 0) d_Glacier_isTooWeak_63 rfl (by decide) ?_
      rw [if_neg c10_1, if_neg c32_4]
      exact Go.iret d_Glacier_isTooWeak_64 rfl rfl ⟨rfl, rfl, rfl⟩
    · refine Go.aload_0 d_Glacier_isTooWeak_35 rfl ?_
      refine Go.getfield d_Glacier_isTooWeak_36 rfl f_Glacier_23 gl_obj (by rfl) ?_
      refine Go.iload_1 d_Glacier_isTooWeak_39 rfl ?_
      refine Go.iconst (v := 1) d_Glacier_isTooWeak_40 rfl (by decide) ?_
      refine Go.cv2r d_Glacier_isTooWeak_41 rfl l_Glacier_75 k_Table_get_v (gl_tab (k := 2) (by decide)) rfl (cG_get (k := 2) (by decide) (c := 1) rfl (by omega) hW) rfl rfl rfl ?_
      refine Go.bipush (v := 8) d_Glacier_isTooWeak_44 rfl (by decide) ?_
      refine Go.aload_0 d_Glacier_isTooWeak_46 rfl ?_
      refine Go.getfield d_Glacier_isTooWeak_47 rfl f_Glacier_29 gl_obj (by rfl) ?_
      refine Go.iload_2 d_Glacier_isTooWeak_50 rfl ?_
      refine Go.iconst (v := 0) d_Glacier_isTooWeak_51 rfl (by decide) ?_
      refine Go.cv2r d_Glacier_isTooWeak_52 rfl l_Glacier_75 k_Table_get_v (gl_tab (k := 4) (by decide)) rfl (cG_get (k := 4) (by decide) (c := 0) rfl (by omega) hW) rfl rfl rfl ?_
      refine Go.imul d_Glacier_isTooWeak_55 rfl ?_
      refine Go.icmp_ge (t := 63) d_Glacier_isTooWeak_56 (by decide) rfl (fun c56_5 => ?_) (fun c56_5 => ?_)
      · refine Go.iconst (v := 0) d_Glacier_isTooWeak_63 rfl (by decide) ?_
        rw [if_neg c10_1, if_pos c32_4, if_pos c56_5]
        exact Go.iret d_Glacier_isTooWeak_64 rfl rfl ⟨rfl, rfl, rfl⟩
      · refine Go.iconst (v := 1) d_Glacier_isTooWeak_59 rfl (by decide) ?_
        refine Go.goto (t := 64) d_Glacier_isTooWeak_60 (by decide) ?_
        rw [if_neg c10_1, if_pos c32_4, if_neg c56_5]
        exact Go.iret d_Glacier_isTooWeak_64 rfl rfl ⟨rfl, rfl, rfl⟩
set_option maxRecDepth 100000 in
set_option maxHeartbeats 4000000 in
theorem s_Glacier_isTooWeak_01 (σ : GL) (x1 : Int32) (x2 : Int32) (x3 : Int32) : (s_Glacier_isTooWeak σ x1 x2 x3) = 0 ∨ (s_Glacier_isTooWeak σ x1 x2 x3) = 1 := by
  unfold s_Glacier_isTooWeak
  (repeat' split) <;> first | exact Or.inl rfl | exact Or.inr rfl
theorem d_Glacier_canGo_44 : decode M_Glacier_canGo.2.1 44 = .ok (.iload 4, 2) := by decide +kernel
theorem d_Glacier_canGo_46 : decode M_Glacier_canGo.2.1 46 = .ok (.aload_n 0, 1) := by decide +kernel
theorem d_Glacier_canGo_47 : decode M_Glacier_canGo.2.1 47 = .ok (.getfield 23, 3) := by decide +kernel
theorem d_Glacier_canGo_50 : decode M_Glacier_canGo.2.1 50 = .ok (.invokevirtual 68, 3) := by decide +kernel
theorem d_Glacier_canGo_53 : decode M_Glacier_canGo.2.1 53 = .ok (.if_icmp .ge 35, 3) := by decide +kernel
theorem d_Glacier_canGo_88 : decode M_Glacier_canGo.2.1 88 = .ok (.iconst 1, 1) := by decide +kernel
theorem d_Glacier_canGo_89 : decode M_Glacier_canGo.2.1 89 = .ok (.ireturn, 1) := by decide +kernel
theorem d_Glacier_canGo_56 : decode M_Glacier_canGo.2.1 56 = .ok (.aload_n 0, 1) := by decide +kernel
theorem d_Glacier_canGo_57 : decode M_Glacier_canGo.2.1 57 = .ok (.iload 4, 2) := by decide +kernel
theorem d_Glacier_canGo_59 : decode M_Glacier_canGo.2.1 59 = .ok (.iload_n 1, 1) := by decide +kernel
theorem d_Glacier_canGo_60 : decode M_Glacier_canGo.2.1 60 = .ok (.iload_n 2, 1) := by decide +kernel
theorem d_Glacier_canGo_61 : decode M_Glacier_canGo.2.1 61 = .ok (.invokevirtual 107, 3) := by decide +kernel
theorem d_Glacier_canGo_64 : decode M_Glacier_canGo.2.1 64 = .ok (.ifCond .eq 18, 3) := by decide +kernel
theorem d_Glacier_canGo_67 : decode M_Glacier_canGo.2.1 67 = .ok (.aload_n 0, 1) := by decide +kernel
theorem d_Glacier_canGo_68 : decode M_Glacier_canGo.2.1 68 = .ok (.getfield 23, 3) := by decide +kernel
theorem d_Glacier_canGo_71 : decode M_Glacier_canGo.2.1 71 = .ok (.iload 4, 2) := by decide +kernel
theorem d_Glacier_canGo_73 : decode M_Glacier_canGo.2.1 73 = .ok (.iconst 2, 1) := by decide +kernel
theorem d_Glacier_canGo_74 : decode M_Glacier_canGo.2.1 74 = .ok (.invokevirtual 75, 3) := by decide +kernel
theorem d_Glacier_canGo_77 : decode M_Glacier_canGo.2.1 77 = .ok (.ifCond .le 5, 3) := by decide +kernel
theorem d_Glacier_canGo_80 : decode M_Glacier_canGo.2.1 80 = .ok (.iconst 0, 1) := by decide +kernel
theorem d_Glacier_canGo_81 : decode M_Glacier_canGo.2.1 81 = .ok (.ireturn, 1) := by decide +kernel
theorem d_Glacier_canGo_82 : decode M_Glacier_canGo.2.1 82 = .ok (.iinc 4 1, 3) := by decide +kernel
theorem d_Glacier_canGo_85 : decode M_Glacier_canGo.2.1 85 = .ok (.goto (-41), 3) := by decide +kernel
def l_Glacier_canGo_44 (x1 : Int32) (x2 : Int32) (σ : GL) : Nat → Nat → Int32
  | 0, i => 1
  | k + 1, i => (if (s_Glacier_isTooWeak σ (nI i) x1 x2) = 0 then (l_Glacier_canGo_44 x1 x2 σ k (i + 1)) else (if (gG σ 2 (nI i) 2) ≤ 0 then (l_Glacier_canGo_44 x1 x2 σ k (i + 1)) else 0))
set_option maxRecDepth 100000 in
set_option maxHeartbeats 4000000 in
theorem l_Glacier_canGo_44_go {Γ : G9} {h : AH} {g z n : Nat} {σ : GL} {x1 : Int32} {x2 : Int32} (hn20 : n ≤ 20) (hn : gN σ 2 = n) (hW : WFG σ) : ∀ (k i : Nat), i + k = n → Go Γ M_Glacier_canGo 2 0 0 44 [some (.ref g), some (.int x1), some (.int x2), none, some (.int (nI i))] [] (blk h g 12 (glC Γ g σ)) z (RQ (some (.int (l_Glacier_canGo_44 x1 x2 σ k i))) (blk h g 12 (glC Γ g σ)) z) noX := by
  intro k
  induction k with
  | zero =>
    intro i hi
    unfold l_Glacier_canGo_44
    refine Go.iload_4 d_Glacier_canGo_44 rfl ?_
    refine Go.aload_0 d_Glacier_canGo_46 rfl ?_
    refine Go.getfield d_Glacier_canGo_47 rfl f_Glacier_23 gl_obj (by rfl) ?_
    refine Go.cv0r d_Glacier_canGo_50 rfl l_Glacier_68 k_Table_rows_v (gl_tab (k := 2) (by decide)) rfl (cG_rows (k := 2) (by decide)) rfl rfl rfl ?_
    refine Go.icmp_ge (t := 88) d_Glacier_canGo_53 (by decide) rfl (fun c53_1 => ?_) (fun c53_1 => ?_)
    · refine Go.iconst (v := 1) d_Glacier_canGo_88 rfl (by decide) ?_
      exact Go.iret d_Glacier_canGo_89 rfl rfl ⟨rfl, rfl, rfl⟩
    · exact absurd (nI_le (by omega) (by omega)) c53_1
  | succ k ih =>
    intro i hi
    unfold l_Glacier_canGo_44
    refine Go.iload_4 d_Glacier_canGo_44 rfl ?_
    refine Go.aload_0 d_Glacier_canGo_46 rfl ?_
    refine Go.getfield d_Glacier_canGo_47 rfl f_Glacier_23 gl_obj (by rfl) ?_
    refine Go.cv0r d_Glacier_canGo_50 rfl l_Glacier_68 k_Table_rows_v (gl_tab (k := 2) (by decide)) rfl (cG_rows (k := 2) (by decide)) rfl rfl rfl ?_
    refine Go.icmp_ge (t := 88) d_Glacier_canGo_53 (by decide) rfl (fun c53_1 => ?_) (fun c53_1 => ?_)
    · exact absurd c53_1 (nI_ge (by omega) (by omega))
    · refine Go.aload_0 d_Glacier_canGo_56 rfl ?_
      refine Go.iload_4 d_Glacier_canGo_57 rfl ?_
      refine Go.iload_1 d_Glacier_canGo_59 rfl ?_
      refine Go.iload_2 d_Glacier_canGo_60 rfl ?_
      refine Go.cv3r d_Glacier_canGo_61 rfl l_Glacier_107 k_Glacier_isTooWeak_v gl_obj rfl (c_Glacier_isTooWeak hW) rfl rfl rfl ?_
      refine Go.if_eq (t := 82) d_Glacier_canGo_64 (by decide) rfl (fun c64_2 => ?_) (fun c64_2 => ?_)
      · refine Go.iinc_4 d_Glacier_canGo_82 rfl (by rfl) (nI_inc _) ?_
        refine Go.goto (t := 44) d_Glacier_canGo_85 (by decide) ?_
        rw [if_pos c64_2]
        exact ih (i + 1) (by omega)
      · refine Go.aload_0 d_Glacier_canGo_67 rfl ?_
        refine Go.getfield d_Glacier_canGo_68 rfl f_Glacier_23 gl_obj (by rfl) ?_
        refine Go.iload_4 d_Glacier_canGo_71 rfl ?_
        refine Go.iconst (v := 2) d_Glacier_canGo_73 rfl (by decide) ?_
        refine Go.cv2r d_Glacier_canGo_74 rfl l_Glacier_75 k_Table_get_v (gl_tab (k := 2) (by decide)) rfl (cG_get (k := 2) (by decide) (c := 2) rfl (by omega) hW) rfl rfl rfl ?_
        refine Go.if_le (t := 82) d_Glacier_canGo_77 (by decide) rfl (fun c77_3 => ?_) (fun c77_3 => ?_)
        · refine Go.iinc_4 d_Glacier_canGo_82 rfl (by rfl) (nI_inc _) ?_
          refine Go.goto (t := 44) d_Glacier_canGo_85 (by decide) ?_
          rw [if_neg c64_2, if_pos c77_3]
          exact ih (i + 1) (by omega)
        · refine Go.iconst (v := 0) d_Glacier_canGo_80 rfl (by decide) ?_
          rw [if_neg c64_2, if_neg c77_3]
          exact Go.iret d_Glacier_canGo_81 rfl rfl ⟨rfl, rfl, rfl⟩
theorem d_Glacier_canGo_0 : decode M_Glacier_canGo.2.1 0 = .ok (.aload_n 0, 1) := by decide +kernel
theorem d_Glacier_canGo_1 : decode M_Glacier_canGo.2.1 1 = .ok (.getfield 29, 3) := by decide +kernel
theorem d_Glacier_canGo_4 : decode M_Glacier_canGo.2.1 4 = .ok (.iload_n 1, 1) := by decide +kernel
theorem d_Glacier_canGo_5 : decode M_Glacier_canGo.2.1 5 = .ok (.iconst 2, 1) := by decide +kernel
theorem d_Glacier_canGo_6 : decode M_Glacier_canGo.2.1 6 = .ok (.invokevirtual 75, 3) := by decide +kernel
theorem d_Glacier_canGo_9 : decode M_Glacier_canGo.2.1 9 = .ok (.iload_n 2, 1) := by decide +kernel
theorem d_Glacier_canGo_10 : decode M_Glacier_canGo.2.1 10 = .ok (.ifCond .eq 7, 3) := by decide +kernel
theorem d_Glacier_canGo_13 : decode M_Glacier_canGo.2.1 13 = .ok (.iconst 1, 1) := by decide +kernel
theorem d_Glacier_canGo_14 : decode M_Glacier_canGo.2.1 14 = .ok (.goto 4, 3) := by decide +kernel
theorem d_Glacier_canGo_17 : decode M_Glacier_canGo.2.1 17 = .ok (.iconst (-1), 1) := by decide +kernel
theorem d_Glacier_canGo_18 : decode M_Glacier_canGo.2.1 18 = .ok (.iadd, 1) := by decide +kernel
theorem d_Glacier_canGo_19 : decode M_Glacier_canGo.2.1 19 = .ok (.istore_n 3, 1) := by decide +kernel
theorem d_Glacier_canGo_20 : decode M_Glacier_canGo.2.1 20 = .ok (.aload_n 0, 1) := by decide +kernel
theorem d_Glacier_canGo_21 : decode M_Glacier_canGo.2.1 21 = .ok (.iload_n 1, 1) := by decide +kernel
theorem d_Glacier_canGo_22 : decode M_Glacier_canGo.2.1 22 = .ok (.invokevirtual 100, 3) := by decide +kernel
theorem d_Glacier_canGo_25 : decode M_Glacier_canGo.2.1 25 = .ok (.ifCond .eq 14, 3) := by decide +kernel
theorem d_Glacier_canGo_28 : decode M_Glacier_canGo.2.1 28 = .ok (.aload_n 0, 1) := by decide +kernel
theorem d_Glacier_canGo_29 : decode M_Glacier_canGo.2.1 29 = .ok (.getfield 14, 3) := by decide +kernel
theorem d_Glacier_canGo_32 : decode M_Glacier_canGo.2.1 32 = .ok (.iload_n 3, 1) := by decide +kernel
theorem d_Glacier_canGo_33 : decode M_Glacier_canGo.2.1 33 = .ok (.invokevirtual 104, 3) := by decide +kernel
theorem d_Glacier_canGo_36 : decode M_Glacier_canGo.2.1 36 = .ok (.ifCond .ne 5, 3) := by decide +kernel
theorem d_Glacier_canGo_39 : decode M_Glacier_canGo.2.1 39 = .ok (.iconst 0, 1) := by decide +kernel
theorem d_Glacier_canGo_40 : decode M_Glacier_canGo.2.1 40 = .ok (.ireturn, 1) := by decide +kernel
theorem d_Glacier_canGo_41 : decode M_Glacier_canGo.2.1 41 = .ok (.iconst 0, 1) := by decide +kernel
theorem d_Glacier_canGo_42 : decode M_Glacier_canGo.2.1 42 = .ok (.istore 4, 2) := by decide +kernel
def s_Glacier_canGo (σ : GL) (x1 : Int32) (x2 : Int32) : Int32 := (if x2 = 0 then (if (s_Glacier_canDo σ x1) = 0 then 0 else (if (gH σ 0 ((gG σ 4 x1 2) + (-1))) = 0 then 0 else (l_Glacier_canGo_44 x1 x2  σ (gN σ 2) 0))) else (if (s_Glacier_canDo σ x1) = 0 then 0 else (if (gH σ 0 ((gG σ 4 x1 2) + 1)) = 0 then 0 else (l_Glacier_canGo_44 x1 x2  σ (gN σ 2) 0))))
set_option maxRecDepth 100000 in
set_option maxHeartbeats 4000000 in
theorem c_Glacier_canGo {Γ : G9} {h : AH} {g z : Nat} {σ : GL} {x1 : Int32} {x2 : Int32} (hW : WFG σ) : CallR Γ M_Glacier_canGo 2 [.ref g, .int x1, .int x2] (blk h g 12 (glC Γ g σ)) z (some (.int (s_Glacier_canGo σ x1 x2))) (blk h g 12 (glC Γ g σ)) := by
  refine Call.of_go (L := [some (.ref g), some (.int x1), some (.int x2), none, none]) (by decide +kernel) rfl (by exact Nat.le_of_ble_eq_true rfl) ?_
  unfold s_Glacier_canGo
  refine Go.aload_0 d_Glacier_canGo_0 rfl ?_
  refine Go.getfield d_Glacier_canGo_1 rfl f_Glacier_29 gl_obj (by rfl) ?_
  refine Go.iload_1 d_Glacier_canGo_4 rfl ?_
  refine Go.iconst (v := 2) d_Glacier_canGo_5 rfl (by decide) ?_
  refine Go.cv2r d_Glacier_canGo_6 rfl l_Glacier_75 k_Table_get_v (gl_tab (k := 4) (by decide)) rfl (cG_get (k := 4) (by decide) (c := 2) rfl (by omega) hW) rfl rfl rfl ?_
  refine Go.iload_2 d_Glacier_canGo_9 rfl ?_
  refine Go.if_eq (t := 17) d_Glacier_canGo_10 (by decide) rfl (fun c10_1 => ?_) (fun c10_1 => ?_)
  · refine Go.iconst (v := (-1)) d_Glacier_canGo_17 rfl (by decide) ?_
    refine Go.iadd d_Glacier_canGo_18 rfl ?_
    refine Go.istore_3 d_Glacier_canGo_19 rfl (by rfl) ?_
    refine Go.aload_0 d_Glacier_canGo_20 rfl ?_
    refine Go.iload_1 d_Glacier_canGo_21 rfl ?_
    refine Go.cv1r d_Glacier_canGo_22 rfl l_Glacier_100 k_Glacier_canDo_v gl_obj rfl (c_Glacier_canDo hW) rfl rfl rfl ?_
    refine Go.if_eq (t := 39) d_Glacier_canGo_25 (by decide) rfl (fun c25_2 => ?_) (fun c25_2 => ?_)
    · refine Go.iconst (v := 0) d_Glacier_canGo_39 rfl (by decide) ?_
      rw [if_pos c10_1, if_pos c25_2]
      exact Go.iret d_Glacier_canGo_40 rfl rfl ⟨rfl, rfl, rfl⟩
    · refine Go.aload_0 d_Glacier_canGo_28 rfl ?_
      refine Go.getfield d_Glacier_canGo_29 rfl f_Glacier_14 gl_obj (by rfl) ?_
      refine Go.iload_3 d_Glacier_canGo_32 rfl ?_
      refine Go.cv1r d_Glacier_canGo_33 rfl l_Glacier_104 k_Table_has_v (gl_tab (k := 0) (by decide)) rfl (cG_has (k := 0) (by decide)) rfl rfl rfl ?_
      refine Go.if_ne (t := 41) d_Glacier_canGo_36 (by decide) rfl (fun c36_3 => ?_) (fun c36_3 => ?_)
      · refine Go.iconst (v := 0) d_Glacier_canGo_41 rfl (by decide) ?_
        refine Go.istore_4 d_Glacier_canGo_42 rfl (by rfl) ?_
        rw [if_pos c10_1, if_neg c25_2, if_neg c36_3]
        refine Go.fgt [some (.ref g), some (.int x1), some (.int x2), none, some (.int 0)] (by repeat' (first | exact trivial | refine ⟨rfl, ?_⟩)) ?_
        exact l_Glacier_canGo_44_go (n := (gN σ 2)) (by have := WFG.le (σ := σ) hW (k := 2) (by decide); omega) rfl hW (gN σ 2) 0 (by omega)
      · refine Go.iconst (v := 0) d_Glacier_canGo_39 rfl (by decide) ?_
        rw [if_pos c10_1, if_neg c25_2, if_pos c36_3]
        exact Go.iret d_Glacier_canGo_40 rfl rfl ⟨rfl, rfl, rfl⟩
  · refine Go.iconst (v := 1) d_Glacier_canGo_13 rfl (by decide) ?_
    refine Go.goto (t := 18) d_Glacier_canGo_14 (by decide) ?_
    refine Go.iadd d_Glacier_canGo_18 rfl ?_
    refine Go.istore_3 d_Glacier_canGo_19 rfl (by rfl) ?_
    refine Go.aload_0 d_Glacier_canGo_20 rfl ?_
    refine Go.iload_1 d_Glacier_canGo_21 rfl ?_
    refine Go.cv1r d_Glacier_canGo_22 rfl l_Glacier_100 k_Glacier_canDo_v gl_obj rfl (c_Glacier_canDo hW) rfl rfl rfl ?_
    refine Go.if_eq (t := 39) d_Glacier_canGo_25 (by decide) rfl (fun c25_4 => ?_) (fun c25_4 => ?_)
    · refine Go.iconst (v := 0) d_Glacier_canGo_39 rfl (by decide) ?_
      rw [if_neg c10_1, if_pos c25_4]
      exact Go.iret d_Glacier_canGo_40 rfl rfl ⟨rfl, rfl, rfl⟩
    · refine Go.aload_0 d_Glacier_canGo_28 rfl ?_
      refine Go.getfield d_Glacier_canGo_29 rfl f_Glacier_14 gl_obj (by rfl) ?_
      refine Go.iload_3 d_Glacier_canGo_32 rfl ?_
      refine Go.cv1r d_Glacier_canGo_33 rfl l_Glacier_104 k_Table_has_v (gl_tab (k := 0) (by decide)) rfl (cG_has (k := 0) (by decide)) rfl rfl rfl ?_
      refine Go.if_ne (t := 41) d_Glacier_canGo_36 (by decide) rfl (fun c36_5 => ?_) (fun c36_5 => ?_)
      · refine Go.iconst (v := 0) d_Glacier_canGo_41 rfl (by decide) ?_
        refine Go.istore_4 d_Glacier_canGo_42 rfl (by rfl) ?_
        rw [if_neg c10_1, if_neg c25_4, if_neg c36_5]
        refine Go.fgt [some (.ref g), some (.int x1), some (.int x2), none, some (.int 0)] (by repeat' (first | exact trivial | refine ⟨rfl, ?_⟩)) ?_
        exact l_Glacier_canGo_44_go (n := (gN σ 2)) (by have := WFG.le (σ := σ) hW (k := 2) (by decide); omega) rfl hW (gN σ 2) 0 (by omega)
      · refine Go.iconst (v := 0) d_Glacier_canGo_39 rfl (by decide) ?_
        rw [if_neg c10_1, if_neg c25_4, if_pos c36_5]
        exact Go.iret d_Glacier_canGo_40 rfl rfl ⟨rfl, rfl, rfl⟩
set_option maxRecDepth 100000 in
set_option maxHeartbeats 4000000 in
theorem l_Glacier_canGo_44_01 (σ : GL) (x1 x2 : Int32) : ∀ (k i : Nat), l_Glacier_canGo_44 x1 x2 σ k i = 0 ∨ l_Glacier_canGo_44 x1 x2 σ k i = 1 := by
  intro k
  induction k with
  | zero => intro i; exact Or.inr rfl
  | succ k ih =>
    intro i
    unfold l_Glacier_canGo_44
    (repeat' split) <;> first | exact Or.inl rfl | exact ih _
theorem s_Glacier_canGo_01 (σ : GL) (x1 x2 : Int32) : s_Glacier_canGo σ x1 x2 = 0 ∨ s_Glacier_canGo σ x1 x2 = 1 := by
  unfold s_Glacier_canGo
  (repeat' split) <;> first | exact Or.inl rfl | exact l_Glacier_canGo_44_01 ..
theorem d_Glacier_fallingPlace_13 : decode M_Glacier_fallingPlace.2.1 13 = .ok (.iload 4, 2) := by decide +kernel
theorem d_Glacier_fallingPlace_15 : decode M_Glacier_fallingPlace.2.1 15 = .ok (.iload_n 3, 1) := by decide +kernel
theorem d_Glacier_fallingPlace_16 : decode M_Glacier_fallingPlace.2.1 16 = .ok (.if_icmp .gt 38, 3) := by decide +kernel
theorem d_Glacier_fallingPlace_54 : decode M_Glacier_fallingPlace.2.1 54 = .ok (.iconst (-1), 1) := by decide +kernel
theorem d_Glacier_fallingPlace_55 : decode M_Glacier_fallingPlace.2.1 55 = .ok (.ireturn, 1) := by decide +kernel
theorem d_Glacier_fallingPlace_19 : decode M_Glacier_fallingPlace.2.1 19 = .ok (.iload_n 2, 1) := by decide +kernel
theorem d_Glacier_fallingPlace_20 : decode M_Glacier_fallingPlace.2.1 20 = .ok (.ifCond .eq 8, 3) := by decide +kernel
theorem d_Glacier_fallingPlace_23 : decode M_Glacier_fallingPlace.2.1 23 = .ok (.iload 4, 2) := by decide +kernel
theorem d_Glacier_fallingPlace_25 : decode M_Glacier_fallingPlace.2.1 25 = .ok (.goto 7, 3) := by decide +kernel
theorem d_Glacier_fallingPlace_28 : decode M_Glacier_fallingPlace.2.1 28 = .ok (.iload_n 3, 1) := by decide +kernel
theorem d_Glacier_fallingPlace_29 : decode M_Glacier_fallingPlace.2.1 29 = .ok (.iload 4, 2) := by decide +kernel
theorem d_Glacier_fallingPlace_31 : decode M_Glacier_fallingPlace.2.1 31 = .ok (.isub, 1) := by decide +kernel
theorem d_Glacier_fallingPlace_32 : decode M_Glacier_fallingPlace.2.1 32 = .ok (.istore 5, 2) := by decide +kernel
theorem d_Glacier_fallingPlace_34 : decode M_Glacier_fallingPlace.2.1 34 = .ok (.aload_n 0, 1) := by decide +kernel
theorem d_Glacier_fallingPlace_35 : decode M_Glacier_fallingPlace.2.1 35 = .ok (.iload 5, 2) := by decide +kernel
theorem d_Glacier_fallingPlace_37 : decode M_Glacier_fallingPlace.2.1 37 = .ok (.iload_n 1, 1) := by decide +kernel
theorem d_Glacier_fallingPlace_38 : decode M_Glacier_fallingPlace.2.1 38 = .ok (.iload_n 2, 1) := by decide +kernel
theorem d_Glacier_fallingPlace_39 : decode M_Glacier_fallingPlace.2.1 39 = .ok (.invokevirtual 107, 3) := by decide +kernel
theorem d_Glacier_fallingPlace_42 : decode M_Glacier_fallingPlace.2.1 42 = .ok (.ifCond .eq 6, 3) := by decide +kernel
theorem d_Glacier_fallingPlace_45 : decode M_Glacier_fallingPlace.2.1 45 = .ok (.iload 5, 2) := by decide +kernel
theorem d_Glacier_fallingPlace_47 : decode M_Glacier_fallingPlace.2.1 47 = .ok (.ireturn, 1) := by decide +kernel
theorem d_Glacier_fallingPlace_48 : decode M_Glacier_fallingPlace.2.1 48 = .ok (.iinc 4 1, 3) := by decide +kernel
theorem d_Glacier_fallingPlace_51 : decode M_Glacier_fallingPlace.2.1 51 = .ok (.goto (-38), 3) := by decide +kernel
def l_Glacier_fallingPlace_13 (x1 : Int32) (x2 : Int32) (σ : GL) : Nat → Nat → Int32
  | 0, i => (-1)
  | k + 1, i => (if x2 = 0 then (if (s_Glacier_isTooWeak σ ((nI (gN σ 2) - 1) - (nI i)) x1 x2) = 0 then (l_Glacier_fallingPlace_13 x1 x2 σ k (i + 1)) else ((nI (gN σ 2) - 1) - (nI i))) else (if (s_Glacier_isTooWeak σ (nI i) x1 x2) = 0 then (l_Glacier_fallingPlace_13 x1 x2 σ k (i + 1)) else (nI i)))
set_option maxRecDepth 100000 in
set_option maxHeartbeats 4000000 in
theorem l_Glacier_fallingPlace_13_go {Γ : G9} {h : AH} {g z n : Nat} {σ : GL} {x1 : Int32} {x2 : Int32} (hn20 : n ≤ 20) (hn : gN σ 2 = n) (hW : WFG σ) : ∀ (k i : Nat), i + k = n → Go Γ M_Glacier_fallingPlace 2 0 0 13 [some (.ref g), some (.int x1), some (.int x2), some (.int (nI (gN σ 2) - 1)), some (.int (nI i)), none] [] (blk h g 12 (glC Γ g σ)) z (RQ (some (.int (l_Glacier_fallingPlace_13 x1 x2 σ k i))) (blk h g 12 (glC Γ g σ)) z) noX := by
  intro k
  induction k with
  | zero =>
    intro i hi
    unfold l_Glacier_fallingPlace_13
    refine Go.iload_4 d_Glacier_fallingPlace_13 rfl ?_
    refine Go.iload_3 d_Glacier_fallingPlace_15 rfl ?_
    refine Go.icmp_gt (t := 54) d_Glacier_fallingPlace_16 (by decide) rfl (fun c16_1 => ?_) (fun c16_1 => ?_)
    · refine Go.iconst (v := (-1)) d_Glacier_fallingPlace_54 rfl (by decide) ?_
      exact Go.iret d_Glacier_fallingPlace_55 rfl rfl ⟨rfl, rfl, rfl⟩
    · exact absurd (by have e0 := fp_out hn20; rw [← hn] at e0 hi; rw [show i = gN σ 2 from hi]; exact e0) c16_1
  | succ k ih =>
    intro i hi
    unfold l_Glacier_fallingPlace_13
    refine Go.iload_4 d_Glacier_fallingPlace_13 rfl ?_
    refine Go.iload_3 d_Glacier_fallingPlace_15 rfl ?_
    refine Go.icmp_gt (t := 54) d_Glacier_fallingPlace_16 (by decide) rfl (fun c16_1 => ?_) (fun c16_1 => ?_)
    · exact absurd c16_1 (by rw [hn]; exact fp_in hn20 (by omega))
    · refine Go.iload_2 d_Glacier_fallingPlace_19 rfl ?_
      refine Go.if_eq (t := 28) d_Glacier_fallingPlace_20 (by decide) rfl (fun c20_2 => ?_) (fun c20_2 => ?_)
      · refine Go.iload_3 d_Glacier_fallingPlace_28 rfl ?_
        refine Go.iload_4 d_Glacier_fallingPlace_29 rfl ?_
        refine Go.isub d_Glacier_fallingPlace_31 rfl ?_
        refine Go.istore_5 d_Glacier_fallingPlace_32 rfl (by rfl) ?_
        refine Go.aload_0 d_Glacier_fallingPlace_34 rfl ?_
        refine Go.iload_5 d_Glacier_fallingPlace_35 rfl ?_
        refine Go.iload_1 d_Glacier_fallingPlace_37 rfl ?_
        refine Go.iload_2 d_Glacier_fallingPlace_38 rfl ?_
        refine Go.cv3r d_Glacier_fallingPlace_39 rfl l_Glacier_107 k_Glacier_isTooWeak_v gl_obj rfl (c_Glacier_isTooWeak hW) rfl rfl rfl ?_
        refine Go.if_eq (t := 48) d_Glacier_fallingPlace_42 (by decide) rfl (fun c42_3 => ?_) (fun c42_3 => ?_)
        · refine Go.iinc_4 d_Glacier_fallingPlace_48 rfl (by rfl) (nI_inc _) ?_
          refine Go.goto (t := 13) d_Glacier_fallingPlace_51 (by decide) ?_
          rw [if_pos c20_2, if_pos c42_3]
          refine Go.fgt [some (.ref g), some (.int x1), some (.int x2), some (.int (nI (gN σ 2) - 1)), some (.int (nI (i + 1))), none] (by repeat' (first | exact trivial | refine ⟨rfl, ?_⟩)) ?_
          exact ih (i + 1) (by omega)
        · refine Go.iload_5 d_Glacier_fallingPlace_45 rfl ?_
          rw [if_pos c20_2, if_neg c42_3]
          exact Go.iret d_Glacier_fallingPlace_47 rfl rfl ⟨rfl, rfl, rfl⟩
      · refine Go.iload_4 d_Glacier_fallingPlace_23 rfl ?_
        refine Go.goto (t := 32) d_Glacier_fallingPlace_25 (by decide) ?_
        refine Go.istore_5 d_Glacier_fallingPlace_32 rfl (by rfl) ?_
        refine Go.aload_0 d_Glacier_fallingPlace_34 rfl ?_
        refine Go.iload_5 d_Glacier_fallingPlace_35 rfl ?_
        refine Go.iload_1 d_Glacier_fallingPlace_37 rfl ?_
        refine Go.iload_2 d_Glacier_fallingPlace_38 rfl ?_
        refine Go.cv3r d_Glacier_fallingPlace_39 rfl l_Glacier_107 k_Glacier_isTooWeak_v gl_obj rfl (c_Glacier_isTooWeak hW) rfl rfl rfl ?_
        refine Go.if_eq (t := 48) d_Glacier_fallingPlace_42 (by decide) rfl (fun c42_4 => ?_) (fun c42_4 => ?_)
        · refine Go.iinc_4 d_Glacier_fallingPlace_48 rfl (by rfl) (nI_inc _) ?_
          refine Go.goto (t := 13) d_Glacier_fallingPlace_51 (by decide) ?_
          rw [if_neg c20_2, if_pos c42_4]
          refine Go.fgt [some (.ref g), some (.int x1), some (.int x2), some (.int (nI (gN σ 2) - 1)), some (.int (nI (i + 1))), none] (by repeat' (first | exact trivial | refine ⟨rfl, ?_⟩)) ?_
          exact ih (i + 1) (by omega)
        · refine Go.iload_5 d_Glacier_fallingPlace_45 rfl ?_
          rw [if_neg c20_2, if_neg c42_4]
          exact Go.iret d_Glacier_fallingPlace_47 rfl rfl ⟨rfl, rfl, rfl⟩
theorem d_Glacier_fallingPlace_0 : decode M_Glacier_fallingPlace.2.1 0 = .ok (.aload_n 0, 1) := by decide +kernel
theorem d_Glacier_fallingPlace_1 : decode M_Glacier_fallingPlace.2.1 1 = .ok (.getfield 23, 3) := by decide +kernel
theorem d_Glacier_fallingPlace_4 : decode M_Glacier_fallingPlace.2.1 4 = .ok (.invokevirtual 68, 3) := by decide +kernel
theorem d_Glacier_fallingPlace_7 : decode M_Glacier_fallingPlace.2.1 7 = .ok (.iconst 1, 1) := by decide +kernel
theorem d_Glacier_fallingPlace_8 : decode M_Glacier_fallingPlace.2.1 8 = .ok (.isub, 1) := by decide +kernel
theorem d_Glacier_fallingPlace_9 : decode M_Glacier_fallingPlace.2.1 9 = .ok (.istore_n 3, 1) := by decide +kernel
theorem d_Glacier_fallingPlace_10 : decode M_Glacier_fallingPlace.2.1 10 = .ok (.iconst 0, 1) := by decide +kernel
theorem d_Glacier_fallingPlace_11 : decode M_Glacier_fallingPlace.2.1 11 = .ok (.istore 4, 2) := by decide +kernel
def s_Glacier_fallingPlace (σ : GL) (x1 : Int32) (x2 : Int32) : Int32 := (l_Glacier_fallingPlace_13 x1 x2  σ (gN σ 2) 0)
set_option maxRecDepth 100000 in
set_option maxHeartbeats 4000000 in
theorem c_Glacier_fallingPlace {Γ : G9} {h : AH} {g z : Nat} {σ : GL} {x1 : Int32} {x2 : Int32} (hW : WFG σ) : CallR Γ M_Glacier_fallingPlace 2 [.ref g, .int x1, .int x2] (blk h g 12 (glC Γ g σ)) z (some (.int (s_Glacier_fallingPlace σ x1 x2))) (blk h g 12 (glC Γ g σ)) := by
  refine Call.of_go (L := [some (.ref g), some (.int x1), some (.int x2), none, none, none]) (by decide +kernel) rfl (by exact Nat.le_of_ble_eq_true rfl) ?_
  unfold s_Glacier_fallingPlace
  refine Go.aload_0 d_Glacier_fallingPlace_0 rfl ?_
  refine Go.getfield d_Glacier_fallingPlace_1 rfl f_Glacier_23 gl_obj (by rfl) ?_
  refine Go.cv0r d_Glacier_fallingPlace_4 rfl l_Glacier_68 k_Table_rows_v (gl_tab (k := 2) (by decide)) rfl (cG_rows (k := 2) (by decide)) rfl rfl rfl ?_
  refine Go.iconst (v := 1) d_Glacier_fallingPlace_7 rfl (by decide) ?_
  refine Go.isub d_Glacier_fallingPlace_8 rfl ?_
  refine Go.istore_3 d_Glacier_fallingPlace_9 rfl (by rfl) ?_
  refine Go.iconst (v := 0) d_Glacier_fallingPlace_10 rfl (by decide) ?_
  refine Go.istore_4 d_Glacier_fallingPlace_11 rfl (by rfl) ?_
  exact l_Glacier_fallingPlace_13_go (n := (gN σ 2)) (by have := WFG.le (σ := σ) hW (k := 2) (by decide); omega) rfl hW (gN σ 2) 0 (by omega)
