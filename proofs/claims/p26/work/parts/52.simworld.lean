/-! the law's own glacier: its picture in the heap. Matrices: 0 bands, 1 stakes, 2 crevasses, 3 depots, 4 teams, 5 orders -/
/-- day, read, fell, carried; warm; the rows -/
abbrev SM : Type := Nat × Int32 × Int32 × Int32 × (Nat → Int32) × (Nat → Nat → Nat → Int32)
abbrev sm_dy (Y : SM) : Nat := Y.1
abbrev sm_rd (Y : SM) : Int32 := Y.2.1
abbrev sm_fl (Y : SM) : Int32 := Y.2.2.1
abbrev sm_ca (Y : SM) : Int32 := Y.2.2.2.1
abbrev sm_wa (Y : SM) : Nat → Int32 := Y.2.2.2.2.1
abbrev sm_v (Y : SM) : Nat → Nat → Nat → Int32 := Y.2.2.2.2.2
def sm_dy' (Y : SM) (v : Nat) : SM := (v, Y.2.1, Y.2.2.1, Y.2.2.2.1, Y.2.2.2.2.1, Y.2.2.2.2.2)
def sm_rd' (Y : SM) (v : Int32) : SM := (Y.1, v, Y.2.2.1, Y.2.2.2.1, Y.2.2.2.2.1, Y.2.2.2.2.2)
def sm_fl' (Y : SM) (v : Int32) : SM := (Y.1, Y.2.1, v, Y.2.2.2.1, Y.2.2.2.2.1, Y.2.2.2.2.2)
def sm_ca' (Y : SM) (v : Int32) : SM := (Y.1, Y.2.1, Y.2.2.1, v, Y.2.2.2.2.1, Y.2.2.2.2.2)
def sm_wa' (Y : SM) (v : Nat → Int32) : SM := (Y.1, Y.2.1, Y.2.2.1, Y.2.2.2.1, v, Y.2.2.2.2.2)
def sm_v' (Y : SM) (v : Nat → Nat → Nat → Int32) : SM := (Y.1, Y.2.1, Y.2.2.1, Y.2.2.2.1, Y.2.2.2.2.1, v)
/-- one row, one place of it -/
def updR (V : Nat → Nat → Nat → Int32) (k r : Nat) (f : Nat → Int32) : Nat → Nat → Nat → Int32 := fun k' r' => if k' = k ∧ r' = r then f else V k' r'
def sm_set (Y : SM) (k r j : Nat) (x : Int32) : SM := sm_v' Y (updR (sm_v Y) k r (upd (sm_v Y k r) j x))
/-- whose cell an address is; the addresses; how many rows -/
abbrev AD : Type := (Nat → Option (Nat × Nat)) × (Nat → Nat → Nat) × (Nat → Nat)
abbrev tg (A : AD) : Nat → Option (Nat × Nat) := A.1
abbrev ad (A : AD) : Nat → Nat → Nat := A.2.1
abbrev cn (A : AD) : Nat → Nat := A.2.2
/-- 6 the object, 7 its warmths, 8 the outer rows -/
def okA (A : AD) (k r : Nat) : Prop := (k < 6 ∧ r < cn A k) ∨ (k = 6 ∧ r = 0) ∨ (k = 7 ∧ r = 0) ∨ (k = 8 ∧ r < 6)
def AOk (A : AD) : Prop := (∀ k r, okA A k r → tg A (ad A k r) = some (k, r)) ∧ (∀ x k r, tg A x = some (k, r) → okA A k r ∧ x = ad A k r) ∧ ∀ k, k < 6 → cn A k ≤ 8
def wdt (k : Nat) : Nat := match k with
  | 0 => 3
  | 1 => 6
  | 2 => 6
  | 3 => 2
  | 4 => 8
  | _ => 12
abbrev smO (A : AD) (Y : SM) : va_E := .inr (9, [.int (nI (sm_dy Y)), .int (sm_rd Y), .int (sm_fl Y), .int (sm_ca Y), .ref (ad A 7 0), .ref (ad A 8 0), .ref (ad A 8 1), .ref (ad A 8 2), .ref (ad A 8 3), .ref (ad A 8 4), .ref (ad A 8 5)])
def smE (Γ : G9) (A : AD) (Y : SM) (k r : Nat) : va_E := if k < 6 then aI Γ (wdt k) (sm_v Y k r) else if k = 6 then smO A Y else if k = 7 then aI Γ 8 (sm_wa Y) else aA Γ (cn A r) (fun j => some (ad A r j))
def smC (Γ : G9) (A : AD) (h : AH) (Y : SM) : AH := fun x => match tg A x with
  | none => h x
  | some (k, r) => some (smE Γ A Y k r)
section SmC
variable {Γ : G9} {A : AD} {h : AH} {Y : SM}
theorem sm_at (hA : AOk A) {k r : Nat} (hk : okA A k r) : smC Γ A h Y (ad A k r) = some (smE Γ A Y k r) := by
  unfold smC
  rw [hA.1 k r hk]
theorem sm_no {x : Nat} (hx : tg A x = none) : smC Γ A h Y x = h x := by
  unfold smC
  rw [hx]
theorem sm_row (hA : AOk A) {k r : Nat} (hk : k < 6) (hr : r < cn A k) : smC Γ A h Y (ad A k r) = some (aI Γ (wdt k) (sm_v Y k r)) := by
  rw [sm_at hA (Or.inl ⟨hk, hr⟩)]
  unfold smE
  rw [if_pos hk]
theorem sm_obj (hA : AOk A) : smC Γ A h Y (ad A 6 0) = some (smO A Y) := by
  rw [sm_at hA (Or.inr (Or.inl ⟨rfl, rfl⟩))]
  rfl
theorem sm_war (hA : AOk A) : smC Γ A h Y (ad A 7 0) = some (aI Γ 8 (sm_wa Y)) := by
  rw [sm_at hA (Or.inr (Or.inr (Or.inl ⟨rfl, rfl⟩)))]
  rfl
theorem sm_out (hA : AOk A) {k : Nat} (hk : k < 6) : smC Γ A h Y (ad A 8 k) = some (aA Γ (cn A k) (fun j => some (ad A k j))) := by
  rw [sm_at hA (Or.inr (Or.inr (Or.inr ⟨rfl, hk⟩)))]
  rfl
/-- a change of one cell -/
theorem sm_up (hA : AOk A) {k r : Nat} {Y' : SM} {e : va_E} (hk : okA A k r) (he : smE Γ A Y' k r = e) (ho : ∀ k' r', okA A k' r' → ¬ (k' = k ∧ r' = r) → smE Γ A Y' k' r' = smE Γ A Y k' r') : hup (smC Γ A h Y) (ad A k r) e = smC Γ A h Y' := by
  funext x
  by_cases hx : x = ad A k r
  · subst hx
    rw [hup_at, sm_at hA hk, he]
  · rw [hup_ne hx]
    unfold smC
    cases ht : tg A x with
    | none => rfl
    | some kr =>
      obtain ⟨k', r'⟩ := kr
      obtain ⟨h1, h2⟩ := hA.2.1 x k' r' ht
      show some (smE Γ A Y k' r') = some (smE Γ A Y' k' r')
      rw [ho k' r' h1 (fun w => hx (by rw [h2, w.1, w.2]))]
theorem sm_rowup (hA : AOk A) {k r : Nat} {f : Nat → Int32} (hk : k < 6) (hr : r < cn A k) : hup (smC Γ A h Y) (ad A k r) (aI Γ (wdt k) f) = smC Γ A h (sm_v' Y (updR (sm_v Y) k r f)) := by
  refine sm_up hA (Or.inl ⟨hk, hr⟩) ?_ (fun k' r' ho hn => ?_)
  · unfold smE updR
    rw [if_pos hk]
    show aI Γ (wdt k) (if k = k ∧ r = r then f else _) = _
    rw [if_pos ⟨rfl, rfl⟩]
  · unfold smE
    show (if k' < 6 then aI Γ (wdt k') (updR (sm_v Y) k r f k' r') else _) = _
    unfold updR
    rw [if_neg hn]
    rfl
theorem sm_setup (hA : AOk A) {k r j : Nat} {x : Int32} (hk : k < 6) (hr : r < cn A k) : hup (smC Γ A h Y) (ad A k r) (aI Γ (wdt k) (upd (sm_v Y k r) j x)) = smC Γ A h (sm_set Y k r j x) := sm_rowup hA hk hr
theorem sm_warup (hA : AOk A) {f : Nat → Int32} : hup (smC Γ A h Y) (ad A 7 0) (aI Γ 8 f) = smC Γ A h (sm_wa' Y f) := by
  refine sm_up hA (Or.inr (Or.inr (Or.inl ⟨rfl, rfl⟩))) rfl (fun k' r' ho hn => ?_)
  have h7 : k' ≠ 7 := by rcases ho with ⟨h1, -⟩ | ⟨h1, -⟩ | ⟨h1, h2⟩ | ⟨h1, -⟩ <;> first | omega | exact fun w => hn ⟨w, h2⟩
  unfold smE
  simp only [if_neg h7]
  rfl
theorem sm_objup (hA : AOk A) {Y' : SM} (hw : sm_wa Y' = sm_wa Y) (hv : sm_v Y' = sm_v Y) : hup (smC Γ A h Y) (ad A 6 0) (smO A Y') = smC Γ A h Y' := by
  refine sm_up hA (Or.inr (Or.inl ⟨rfl, rfl⟩)) rfl (fun k' r' ho hn => ?_)
  have h6 : k' ≠ 6 := by rcases ho with ⟨h1, -⟩ | ⟨h1, h2⟩ | ⟨h1, -⟩ | ⟨h1, -⟩ <;> first | omega | exact fun w => hn ⟨w, h2⟩
  unfold smE
  rw [hw, hv]
  simp only [if_neg h6]
theorem sm_dyup (hA : AOk A) {v : Nat} : hup (smC Γ A h Y) (ad A 6 0) (.inr (9, ([.int (nI (sm_dy Y)), .int (sm_rd Y), .int (sm_fl Y), .int (sm_ca Y), .ref (ad A 7 0), .ref (ad A 8 0), .ref (ad A 8 1), .ref (ad A 8 2), .ref (ad A 8 3), .ref (ad A 8 4), .ref (ad A 8 5)] : List Value).set 0 (.int (nI v)))) = smC Γ A h (sm_dy' Y v) := sm_objup (Y' := sm_dy' Y v) hA rfl rfl
theorem sm_rdup (hA : AOk A) {v : Int32} : hup (smC Γ A h Y) (ad A 6 0) (.inr (9, ([.int (nI (sm_dy Y)), .int (sm_rd Y), .int (sm_fl Y), .int (sm_ca Y), .ref (ad A 7 0), .ref (ad A 8 0), .ref (ad A 8 1), .ref (ad A 8 2), .ref (ad A 8 3), .ref (ad A 8 4), .ref (ad A 8 5)] : List Value).set 1 (.int v))) = smC Γ A h (sm_rd' Y v) := sm_objup (Y' := sm_rd' Y v) hA rfl rfl
theorem sm_flup (hA : AOk A) {v : Int32} : hup (smC Γ A h Y) (ad A 6 0) (.inr (9, ([.int (nI (sm_dy Y)), .int (sm_rd Y), .int (sm_fl Y), .int (sm_ca Y), .ref (ad A 7 0), .ref (ad A 8 0), .ref (ad A 8 1), .ref (ad A 8 2), .ref (ad A 8 3), .ref (ad A 8 4), .ref (ad A 8 5)] : List Value).set 2 (.int v))) = smC Γ A h (sm_fl' Y v) := sm_objup (Y' := sm_fl' Y v) hA rfl rfl
theorem sm_caup (hA : AOk A) {v : Int32} : hup (smC Γ A h Y) (ad A 6 0) (.inr (9, ([.int (nI (sm_dy Y)), .int (sm_rd Y), .int (sm_fl Y), .int (sm_ca Y), .ref (ad A 7 0), .ref (ad A 8 0), .ref (ad A 8 1), .ref (ad A 8 2), .ref (ad A 8 3), .ref (ad A 8 4), .ref (ad A 8 5)] : List Value).set 3 (.int v))) = smC Γ A h (sm_ca' Y v) := sm_objup (Y' := sm_ca' Y v) hA rfl rfl
end SmC
/-- what stands behind a call that answers V over h2, however much was made -/
abbrev RG9 (V : Option Value) (h2 : AH) : QT := fun v h' _ => v = V ∧ h' = h2
abbrev CallG (Γ : G9) (M : MI) (d C S : Nat) (avs : List Value) (h : AH) (z : Nat) (V : Option Value) (h2 : AH) : Prop := Call Γ M d C S avs h z (RG9 V h2) noX
def okI (i : Int32) (n : Nat) : Bool := !decide (i < 0) && decide (i.toNatClampNeg < n)
theorem okI_in {i : Int32} {n : Nat} (h : okI i n = true) : vp_in i n := by
  unfold okI at h
  simp only [Bool.and_eq_true, Bool.not_eq_true', decide_eq_false_iff_not, decide_eq_true_eq] at h
  exact fun w => w.elim h.1 (fun w => absurd h.2 (Nat.not_lt.mpr w))
theorem okI_pos {i : Int32} {n : Nat} (h : okI i n = true) : ¬ i < 0 := fun w => (okI_in h) (Or.inl w)
theorem okI_lt {i : Int32} {n : Nat} (h : okI i n = true) : i.toNatClampNeg < n := Nat.not_le.mp fun w => (okI_in h) (Or.inr w)
theorem okI_n {i n : Nat} (h : i < n) (hn : n < 2 ^ 31) : okI (nI i) n = true := by
  unfold okI
  rw [nI_clamp (by omega)]
  simp only [Bool.and_eq_true, Bool.not_eq_true', decide_eq_false_iff_not, decide_eq_true_eq]
  exact ⟨nI_pos (by omega), h⟩
theorem nI_remm {d m : Nat} {y : Int32} (hd : d < 2 ^ 31) (hm : m < 2 ^ 31) (h0 : 0 < m) (hy : y = nI m) : nI d - nI d / y * y = nI (d % m) := by
  subst hy
  have e1 : nI d / nI m = nI (d / m) := by
    apply Int32.toInt_inj.mp
    rw [Int32.toInt_div_of_ne_left _ _ (fun w => by have := congrArg Int32.toInt w; rw [nI_toInt hd] at this; have e : (Int32.minValue).toInt = -2147483648 := by decide
                                                    omega), nI_toInt hd, nI_toInt hm, nI_toInt (Nat.lt_of_le_of_lt (Nat.div_le_self d m) hd)]
    exact (Int.ofNat_tdiv d m).symm
  have e2 : nI (d / m) * nI m = nI (d / m * m) := (Int32.ofNat_mul _ _).symm
  rw [e1, e2, nI_sub (Nat.div_mul_le_self d m)]
  congr 1
  have := Nat.div_add_mod d m
  rw [Nat.mul_comm] at this
  omega
/-- an order's places -/
def OrdOk (A : AD) (f : Nat → Int32) : Prop := okI (f 7) (cn A 1) = true ∧ okI (f 8) (cn A 2) = true ∧ okI (f 9) (cn A 4) = true ∧ okI (f 10) (cn A 3) = true ∧ okI (f 11) (cn A 0) = true ∧ ((f 0 = 0 ∨ f 0 = 1 ∨ f 0 = 3) → okI (f 1) (cn A 4) = true) ∧ (f 0 = 2 → okI (f 1) (cn A 2) = true ∧ okI (f 2) (cn A 4) = true) ∧ (f 0 = 4 → okI (f 1) (cn A 1) = true) ∧ (f 0 = 0 ∨ f 0 = 1 ∨ f 0 = 2 ∨ f 0 = 3 ∨ f 0 = 4)
theorem OrdOk.o7 {A : AD} {f : Nat → Int32} (h : OrdOk A f) : okI (f 7) (cn A 1) = true := h.1
theorem OrdOk.o8 {A : AD} {f : Nat → Int32} (h : OrdOk A f) : okI (f 8) (cn A 2) = true := h.2.1
theorem OrdOk.o9 {A : AD} {f : Nat → Int32} (h : OrdOk A f) : okI (f 9) (cn A 4) = true := h.2.2.1
theorem OrdOk.o10 {A : AD} {f : Nat → Int32} (h : OrdOk A f) : okI (f 10) (cn A 3) = true := h.2.2.2.1
theorem OrdOk.o11 {A : AD} {f : Nat → Int32} (h : OrdOk A f) : okI (f 11) (cn A 0) = true := h.2.2.2.2.1
def b01 (x : Int32) : Bool := decide (x = 0) || decide (x = 1)
theorem b01_or {x : Int32} (h : b01 x = true) : x = 0 ∨ x = 1 := by
  unfold b01 at h
  simp only [Bool.or_eq_true, decide_eq_true_eq] at h
  exact h
theorem b01_of {x : Int32} (h : x = 0 ∨ x = 1) : b01 x = true := by
  unfold b01
  simp only [Bool.or_eq_true, decide_eq_true_eq]
  exact h
section GoSm
variable {Γ : G9} {M : MI} {d C S pc q : Nat} {L : List (Option Value)} {st : List Value} {h : AH} {z : Nat} {Q : QT} {X : XT}
/-- an instance method whose room is told -/
theorem Go.cvG {M' : MI} {n d' C' S' C1 S1 idx b ci : Nat} {V : Option Value} {h2 : AH} {as rest fs : List Value} {T : u_T} {N : Nat} (hd : decode M.2.1 pc = .ok (.invokevirtual idx, 3)) (hq : pc + 3 = q) (lk : Cond.methodLink M.1.cls idx M'.1 ∈ gw) (ok : OkV M' n) (hn : as.length = n) (ho : h b = some (.inr (ci, fs))) (hci : vwCl[ci]? = some (M'.1.cls, T, N)) (hst : st = as.reverse ++ .ref b :: rest)
    (hc : CallG Γ M' d' C' S' (.ref b :: as) h z V h2) (hd' : Nat.ble (d' + 1) d = true) (hml : Nat.ble M'.2.2.1 21 = true) (hC : C' + C1 ≤ C) (hS : S' + S1 ≤ S) (hw : Nat.ble (rest.map fun v => v.category).sum 8 = true)
    (kk : ∀ z' : Nat, z ≤ z' → Go Γ M d C1 S1 q L (V.toList ++ rest) h2 z' Q X) : Go Γ M d C S pc L st h z Q X :=
  Go.callV (C1 := C1) (S1 := S1) hd hq lk ok hn ho hci hst hc (Nat.le_of_ble_eq_true hd') (Nat.le_of_ble_eq_true hml) hC hS (Nat.le_of_ble_eq_true hw) (fun _ _ _ w _ => w.elim) (fun v h' z' w hz => by obtain ⟨rfl, rfl⟩ := w; exact kk z' hz)
theorem Go.csG {M' : MI} {n d' C' S' C1 S1 idx : Nat} {V : Option Value} {h2 : AH} {as rest : List Value} (hd : decode M.2.1 pc = .ok (.invokestatic idx, 3)) (hq : pc + 3 = q) (lk : Cond.methodLink M.1.cls idx M'.1 ∈ gw) (ok : OkS M' n) (hh : M'.2.2.2.2 = []) (hn : as.length = n) (hst : st = as.reverse ++ rest)
    (hc : CallG Γ M' d' C' S' as h z V h2) (hd' : Nat.ble (d' + 1) d = true) (hml : Nat.ble M'.2.2.1 21 = true) (hC : C' + C1 ≤ C) (hS : S' + S1 ≤ S) (hw : Nat.ble (rest.map fun v => v.category).sum 8 = true)
    (kk : ∀ z' : Nat, z ≤ z' → Go Γ M d C1 S1 q L (V.toList ++ rest) h2 z' Q X) : Go Γ M d C S pc L st h z Q X :=
  Go.callS (C1 := C1) (S1 := S1) hd hq lk ok hh hn hst hc (Nat.le_of_ble_eq_true hd') (Nat.le_of_ble_eq_true hml) hC hS (Nat.le_of_ble_eq_true hw) (fun _ _ _ w _ => w.elim) (fun v h' z' w hz => by obtain ⟨rfl, rfl⟩ := w; exact kk z' hz)
end GoSm
