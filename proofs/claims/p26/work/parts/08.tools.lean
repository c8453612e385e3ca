/-! contracts with one answer, calls by the number of arguments, blocks of a heap -/
abbrev RQ (V : Option Value) (h2 : AH) (z : Nat) : QT := fun v h' z' => v = V ∧ h' = h2 ∧ z' = z
abbrev CallR (Γ : G9) (M : MI) (d : Nat) (avs : List Value) (h : AH) (z : Nat) (V : Option Value) (h2 : AH) : Prop := Call Γ M d 0 0 avs h z (RQ V h2 z) noX
section GoTools
variable {Γ : G9} {M : MI} {d C S pc q : Nat} {L : List (Option Value)} {st : List Value} {h : AH} {z : Nat} {Q : QT} {X : XT}
theorem Go.cv0v {M' : MI} {d' idx b ci : Nat} {fs : List Value} {T : u_T} {N : Nat} {h2 : AH} (hd : decode M.2.1 pc = .ok (.invokevirtual idx, 3)) (hq : pc + 3 = q) (lk : Cond.methodLink M.1.cls idx M'.1 ∈ gw) (ok : OkV M' 0) (ho : h b = some (.inr (ci, fs))) (hci : vwCl[ci]? = some (M'.1.cls, T, N)) (hc : CallR Γ M' d' (.ref b :: []) h z (none) h2) (hd' : Nat.ble (d' + 1) d = true) (hml : Nat.ble M'.2.2.1 21 = true) (hw : Nat.ble (st.map fun v => v.category).sum 8 = true) (kk : Go Γ M d C S q L st h2 z Q X) : Go Γ M d C S pc L (.ref b :: st) h z Q X :=
  Go.callV (C1 := C) (S1 := S) (as := []) hd hq lk ok rfl ho hci rfl hc (Nat.le_of_ble_eq_true hd') (Nat.le_of_ble_eq_true hml) (Nat.le_of_eq (Nat.zero_add C)) (Nat.le_of_eq (Nat.zero_add S)) (Nat.le_of_ble_eq_true hw) (fun E h' z' hx _ => hx.elim) (fun v h' z' hx _ => by obtain ⟨rfl, rfl, rfl⟩ := hx; exact kk)
theorem Go.cv0r {M' : MI} {d' idx b ci : Nat} {fs : List Value} {T : u_T} {N : Nat} {h2 : AH} {r : Value} (hd : decode M.2.1 pc = .ok (.invokevirtual idx, 3)) (hq : pc + 3 = q) (lk : Cond.methodLink M.1.cls idx M'.1 ∈ gw) (ok : OkV M' 0) (ho : h b = some (.inr (ci, fs))) (hci : vwCl[ci]? = some (M'.1.cls, T, N)) (hc : CallR Γ M' d' (.ref b :: []) h z (some r) h2) (hd' : Nat.ble (d' + 1) d = true) (hml : Nat.ble M'.2.2.1 21 = true) (hw : Nat.ble (st.map fun v => v.category).sum 8 = true) (kk : Go Γ M d C S q L (r :: st) h2 z Q X) : Go Γ M d C S pc L (.ref b :: st) h z Q X :=
  Go.callV (C1 := C) (S1 := S) (as := []) hd hq lk ok rfl ho hci rfl hc (Nat.le_of_ble_eq_true hd') (Nat.le_of_ble_eq_true hml) (Nat.le_of_eq (Nat.zero_add C)) (Nat.le_of_eq (Nat.zero_add S)) (Nat.le_of_ble_eq_true hw) (fun E h' z' hx _ => hx.elim) (fun v h' z' hx _ => by obtain ⟨rfl, rfl, rfl⟩ := hx; exact kk)
theorem Go.cs0v {M' : MI} {d' idx : Nat} {h2 : AH} (hd : decode M.2.1 pc = .ok (.invokestatic idx, 3)) (hq : pc + 3 = q) (lk : Cond.methodLink M.1.cls idx M'.1 ∈ gw) (ok : OkS M' 0) (hh : M'.2.2.2.2 = []) (hc : CallR Γ M' d' [] h z (none) h2) (hd' : Nat.ble (d' + 1) d = true) (hml : Nat.ble M'.2.2.1 21 = true) (hw : Nat.ble (st.map fun v => v.category).sum 8 = true) (kk : Go Γ M d C S q L st h2 z Q X) : Go Γ M d C S pc L (st) h z Q X :=
  Go.callS (C1 := C) (S1 := S) (as := []) hd hq lk ok hh rfl rfl hc (Nat.le_of_ble_eq_true hd') (Nat.le_of_ble_eq_true hml) (Nat.le_of_eq (Nat.zero_add C)) (Nat.le_of_eq (Nat.zero_add S)) (Nat.le_of_ble_eq_true hw) (fun E h' z' hx _ => hx.elim) (fun v h' z' hx _ => by obtain ⟨rfl, rfl, rfl⟩ := hx; exact kk)
theorem Go.cs0r {M' : MI} {d' idx : Nat} {h2 : AH} {r : Value} (hd : decode M.2.1 pc = .ok (.invokestatic idx, 3)) (hq : pc + 3 = q) (lk : Cond.methodLink M.1.cls idx M'.1 ∈ gw) (ok : OkS M' 0) (hh : M'.2.2.2.2 = []) (hc : CallR Γ M' d' [] h z (some r) h2) (hd' : Nat.ble (d' + 1) d = true) (hml : Nat.ble M'.2.2.1 21 = true) (hw : Nat.ble (st.map fun v => v.category).sum 8 = true) (kk : Go Γ M d C S q L (r :: st) h2 z Q X) : Go Γ M d C S pc L (st) h z Q X :=
  Go.callS (C1 := C) (S1 := S) (as := []) hd hq lk ok hh rfl rfl hc (Nat.le_of_ble_eq_true hd') (Nat.le_of_ble_eq_true hml) (Nat.le_of_eq (Nat.zero_add C)) (Nat.le_of_eq (Nat.zero_add S)) (Nat.le_of_ble_eq_true hw) (fun E h' z' hx _ => hx.elim) (fun v h' z' hx _ => by obtain ⟨rfl, rfl, rfl⟩ := hx; exact kk)
theorem Go.cv1v {M' : MI} {d' idx b ci : Nat} {fs : List Value} {T : u_T} {N : Nat} {h2 : AH} {a1 : Value} (hd : decode M.2.1 pc = .ok (.invokevirtual idx, 3)) (hq : pc + 3 = q) (lk : Cond.methodLink M.1.cls idx M'.1 ∈ gw) (ok : OkV M' 1) (ho : h b = some (.inr (ci, fs))) (hci : vwCl[ci]? = some (M'.1.cls, T, N)) (hc : CallR Γ M' d' (.ref b :: [a1]) h z (none) h2) (hd' : Nat.ble (d' + 1) d = true) (hml : Nat.ble M'.2.2.1 21 = true) (hw : Nat.ble (st.map fun v => v.category).sum 8 = true) (kk : Go Γ M d C S q L st h2 z Q X) : Go Γ M d C S pc L (a1 :: .ref b :: st) h z Q X :=
  Go.callV (C1 := C) (S1 := S) (as := [a1]) hd hq lk ok rfl ho hci rfl hc (Nat.le_of_ble_eq_true hd') (Nat.le_of_ble_eq_true hml) (Nat.le_of_eq (Nat.zero_add C)) (Nat.le_of_eq (Nat.zero_add S)) (Nat.le_of_ble_eq_true hw) (fun E h' z' hx _ => hx.elim) (fun v h' z' hx _ => by obtain ⟨rfl, rfl, rfl⟩ := hx; exact kk)
theorem Go.cv1r {M' : MI} {d' idx b ci : Nat} {fs : List Value} {T : u_T} {N : Nat} {h2 : AH} {a1 : Value} {r : Value} (hd : decode M.2.1 pc = .ok (.invokevirtual idx, 3)) (hq : pc + 3 = q) (lk : Cond.methodLink M.1.cls idx M'.1 ∈ gw) (ok : OkV M' 1) (ho : h b = some (.inr (ci, fs))) (hci : vwCl[ci]? = some (M'.1.cls, T, N)) (hc : CallR Γ M' d' (.ref b :: [a1]) h z (some r) h2) (hd' : Nat.ble (d' + 1) d = true) (hml : Nat.ble M'.2.2.1 21 = true) (hw : Nat.ble (st.map fun v => v.category).sum 8 = true) (kk : Go Γ M d C S q L (r :: st) h2 z Q X) : Go Γ M d C S pc L (a1 :: .ref b :: st) h z Q X :=
  Go.callV (C1 := C) (S1 := S) (as := [a1]) hd hq lk ok rfl ho hci rfl hc (Nat.le_of_ble_eq_true hd') (Nat.le_of_ble_eq_true hml) (Nat.le_of_eq (Nat.zero_add C)) (Nat.le_of_eq (Nat.zero_add S)) (Nat.le_of_ble_eq_true hw) (fun E h' z' hx _ => hx.elim) (fun v h' z' hx _ => by obtain ⟨rfl, rfl, rfl⟩ := hx; exact kk)
theorem Go.cs1v {M' : MI} {d' idx : Nat} {h2 : AH} {a1 : Value} (hd : decode M.2.1 pc = .ok (.invokestatic idx, 3)) (hq : pc + 3 = q) (lk : Cond.methodLink M.1.cls idx M'.1 ∈ gw) (ok : OkS M' 1) (hh : M'.2.2.2.2 = []) (hc : CallR Γ M' d' [a1] h z (none) h2) (hd' : Nat.ble (d' + 1) d = true) (hml : Nat.ble M'.2.2.1 21 = true) (hw : Nat.ble (st.map fun v => v.category).sum 8 = true) (kk : Go Γ M d C S q L st h2 z Q X) : Go Γ M d C S pc L (a1 :: st) h z Q X :=
  Go.callS (C1 := C) (S1 := S) (as := [a1]) hd hq lk ok hh rfl rfl hc (Nat.le_of_ble_eq_true hd') (Nat.le_of_ble_eq_true hml) (Nat.le_of_eq (Nat.zero_add C)) (Nat.le_of_eq (Nat.zero_add S)) (Nat.le_of_ble_eq_true hw) (fun E h' z' hx _ => hx.elim) (fun v h' z' hx _ => by obtain ⟨rfl, rfl, rfl⟩ := hx; exact kk)
theorem Go.cs1r {M' : MI} {d' idx : Nat} {h2 : AH} {a1 : Value} {r : Value} (hd : decode M.2.1 pc = .ok (.invokestatic idx, 3)) (hq : pc + 3 = q) (lk : Cond.methodLink M.1.cls idx M'.1 ∈ gw) (ok : OkS M' 1) (hh : M'.2.2.2.2 = []) (hc : CallR Γ M' d' [a1] h z (some r) h2) (hd' : Nat.ble (d' + 1) d = true) (hml : Nat.ble M'.2.2.1 21 = true) (hw : Nat.ble (st.map fun v => v.category).sum 8 = true) (kk : Go Γ M d C S q L (r :: st) h2 z Q X) : Go Γ M d C S pc L (a1 :: st) h z Q X :=
  Go.callS (C1 := C) (S1 := S) (as := [a1]) hd hq lk ok hh rfl rfl hc (Nat.le_of_ble_eq_true hd') (Nat.le_of_ble_eq_true hml) (Nat.le_of_eq (Nat.zero_add C)) (Nat.le_of_eq (Nat.zero_add S)) (Nat.le_of_ble_eq_true hw) (fun E h' z' hx _ => hx.elim) (fun v h' z' hx _ => by obtain ⟨rfl, rfl, rfl⟩ := hx; exact kk)
theorem Go.cv2v {M' : MI} {d' idx b ci : Nat} {fs : List Value} {T : u_T} {N : Nat} {h2 : AH} {a1 a2 : Value} (hd : decode M.2.1 pc = .ok (.invokevirtual idx, 3)) (hq : pc + 3 = q) (lk : Cond.methodLink M.1.cls idx M'.1 ∈ gw) (ok : OkV M' 2) (ho : h b = some (.inr (ci, fs))) (hci : vwCl[ci]? = some (M'.1.cls, T, N)) (hc : CallR Γ M' d' (.ref b :: [a1, a2]) h z (none) h2) (hd' : Nat.ble (d' + 1) d = true) (hml : Nat.ble M'.2.2.1 21 = true) (hw : Nat.ble (st.map fun v => v.category).sum 8 = true) (kk : Go Γ M d C S q L st h2 z Q X) : Go Γ M d C S pc L (a2 :: a1 :: .ref b :: st) h z Q X :=
  Go.callV (C1 := C) (S1 := S) (as := [a1, a2]) hd hq lk ok rfl ho hci rfl hc (Nat.le_of_ble_eq_true hd') (Nat.le_of_ble_eq_true hml) (Nat.le_of_eq (Nat.zero_add C)) (Nat.le_of_eq (Nat.zero_add S)) (Nat.le_of_ble_eq_true hw) (fun E h' z' hx _ => hx.elim) (fun v h' z' hx _ => by obtain ⟨rfl, rfl, rfl⟩ := hx; exact kk)
theorem Go.cv2r {M' : MI} {d' idx b ci : Nat} {fs : List Value} {T : u_T} {N : Nat} {h2 : AH} {a1 a2 : Value} {r : Value} (hd : decode M.2.1 pc = .ok (.invokevirtual idx, 3)) (hq : pc + 3 = q) (lk : Cond.methodLink M.1.cls idx M'.1 ∈ gw) (ok : OkV M' 2) (ho : h b = some (.inr (ci, fs))) (hci : vwCl[ci]? = some (M'.1.cls, T, N)) (hc : CallR Γ M' d' (.ref b :: [a1, a2]) h z (some r) h2) (hd' : Nat.ble (d' + 1) d = true) (hml : Nat.ble M'.2.2.1 21 = true) (hw : Nat.ble (st.map fun v => v.category).sum 8 = true) (kk : Go Γ M d C S q L (r :: st) h2 z Q X) : Go Γ M d C S pc L (a2 :: a1 :: .ref b :: st) h z Q X :=
  Go.callV (C1 := C) (S1 := S) (as := [a1, a2]) hd hq lk ok rfl ho hci rfl hc (Nat.le_of_ble_eq_true hd') (Nat.le_of_ble_eq_true hml) (Nat.le_of_eq (Nat.zero_add C)) (Nat.le_of_eq (Nat.zero_add S)) (Nat.le_of_ble_eq_true hw) (fun E h' z' hx _ => hx.elim) (fun v h' z' hx _ => by obtain ⟨rfl, rfl, rfl⟩ := hx; exact kk)
theorem Go.cs2v {M' : MI} {d' idx : Nat} {h2 : AH} {a1 a2 : Value} (hd : decode M.2.1 pc = .ok (.invokestatic idx, 3)) (hq : pc + 3 = q) (lk : Cond.methodLink M.1.cls idx M'.1 ∈ gw) (ok : OkS M' 2) (hh : M'.2.2.2.2 = []) (hc : CallR Γ M' d' [a1, a2] h z (none) h2) (hd' : Nat.ble (d' + 1) d = true) (hml : Nat.ble M'.2.2.1 21 = true) (hw : Nat.ble (st.map fun v => v.category).sum 8 = true) (kk : Go Γ M d C S q L st h2 z Q X) : Go Γ M d C S pc L (a2 :: a1 :: st) h z Q X :=
  Go.callS (C1 := C) (S1 := S) (as := [a1, a2]) hd hq lk ok hh rfl rfl hc (Nat.le_of_ble_eq_true hd') (Nat.le_of_ble_eq_true hml) (Nat.le_of_eq (Nat.zero_add C)) (Nat.le_of_eq (Nat.zero_add S)) (Nat.le_of_ble_eq_true hw) (fun E h' z' hx _ => hx.elim) (fun v h' z' hx _ => by obtain ⟨rfl, rfl, rfl⟩ := hx; exact kk)
theorem Go.cs2r {M' : MI} {d' idx : Nat} {h2 : AH} {a1 a2 : Value} {r : Value} (hd : decode M.2.1 pc = .ok (.invokestatic idx, 3)) (hq : pc + 3 = q) (lk : Cond.methodLink M.1.cls idx M'.1 ∈ gw) (ok : OkS M' 2) (hh : M'.2.2.2.2 = []) (hc : CallR Γ M' d' [a1, a2] h z (some r) h2) (hd' : Nat.ble (d' + 1) d = true) (hml : Nat.ble M'.2.2.1 21 = true) (hw : Nat.ble (st.map fun v => v.category).sum 8 = true) (kk : Go Γ M d C S q L (r :: st) h2 z Q X) : Go Γ M d C S pc L (a2 :: a1 :: st) h z Q X :=
  Go.callS (C1 := C) (S1 := S) (as := [a1, a2]) hd hq lk ok hh rfl rfl hc (Nat.le_of_ble_eq_true hd') (Nat.le_of_ble_eq_true hml) (Nat.le_of_eq (Nat.zero_add C)) (Nat.le_of_eq (Nat.zero_add S)) (Nat.le_of_ble_eq_true hw) (fun E h' z' hx _ => hx.elim) (fun v h' z' hx _ => by obtain ⟨rfl, rfl, rfl⟩ := hx; exact kk)
theorem Go.cv3v {M' : MI} {d' idx b ci : Nat} {fs : List Value} {T : u_T} {N : Nat} {h2 : AH} {a1 a2 a3 : Value} (hd : decode M.2.1 pc = .ok (.invokevirtual idx, 3)) (hq : pc + 3 = q) (lk : Cond.methodLink M.1.cls idx M'.1 ∈ gw) (ok : OkV M' 3) (ho : h b = some (.inr (ci, fs))) (hci : vwCl[ci]? = some (M'.1.cls, T, N)) (hc : CallR Γ M' d' (.ref b :: [a1, a2, a3]) h z (none) h2) (hd' : Nat.ble (d' + 1) d = true) (hml : Nat.ble M'.2.2.1 21 = true) (hw : Nat.ble (st.map fun v => v.category).sum 8 = true) (kk : Go Γ M d C S q L st h2 z Q X) : Go Γ M d C S pc L (a3 :: a2 :: a1 :: .ref b :: st) h z Q X :=
  Go.callV (C1 := C) (S1 := S) (as := [a1, a2, a3]) hd hq lk ok rfl ho hci rfl hc (Nat.le_of_ble_eq_true hd') (Nat.le_of_ble_eq_true hml) (Nat.le_of_eq (Nat.zero_add C)) (Nat.le_of_eq (Nat.zero_add S)) (Nat.le_of_ble_eq_true hw) (fun E h' z' hx _ => hx.elim) (fun v h' z' hx _ => by obtain ⟨rfl, rfl, rfl⟩ := hx; exact kk)
theorem Go.cv3r {M' : MI} {d' idx b ci : Nat} {fs : List Value} {T : u_T} {N : Nat} {h2 : AH} {a1 a2 a3 : Value} {r : Value} (hd : decode M.2.1 pc = .ok (.invokevirtual idx, 3)) (hq : pc + 3 = q) (lk : Cond.methodLink M.1.cls idx M'.1 ∈ gw) (ok : OkV M' 3) (ho : h b = some (.inr (ci, fs))) (hci : vwCl[ci]? = some (M'.1.cls, T, N)) (hc : CallR Γ M' d' (.ref b :: [a1, a2, a3]) h z (some r) h2) (hd' : Nat.ble (d' + 1) d = true) (hml : Nat.ble M'.2.2.1 21 = true) (hw : Nat.ble (st.map fun v => v.category).sum 8 = true) (kk : Go Γ M d C S q L (r :: st) h2 z Q X) : Go Γ M d C S pc L (a3 :: a2 :: a1 :: .ref b :: st) h z Q X :=
  Go.callV (C1 := C) (S1 := S) (as := [a1, a2, a3]) hd hq lk ok rfl ho hci rfl hc (Nat.le_of_ble_eq_true hd') (Nat.le_of_ble_eq_true hml) (Nat.le_of_eq (Nat.zero_add C)) (Nat.le_of_eq (Nat.zero_add S)) (Nat.le_of_ble_eq_true hw) (fun E h' z' hx _ => hx.elim) (fun v h' z' hx _ => by obtain ⟨rfl, rfl, rfl⟩ := hx; exact kk)
theorem Go.cs3v {M' : MI} {d' idx : Nat} {h2 : AH} {a1 a2 a3 : Value} (hd : decode M.2.1 pc = .ok (.invokestatic idx, 3)) (hq : pc + 3 = q) (lk : Cond.methodLink M.1.cls idx M'.1 ∈ gw) (ok : OkS M' 3) (hh : M'.2.2.2.2 = []) (hc : CallR Γ M' d' [a1, a2, a3] h z (none) h2) (hd' : Nat.ble (d' + 1) d = true) (hml : Nat.ble M'.2.2.1 21 = true) (hw : Nat.ble (st.map fun v => v.category).sum 8 = true) (kk : Go Γ M d C S q L st h2 z Q X) : Go Γ M d C S pc L (a3 :: a2 :: a1 :: st) h z Q X :=
  Go.callS (C1 := C) (S1 := S) (as := [a1, a2, a3]) hd hq lk ok hh rfl rfl hc (Nat.le_of_ble_eq_true hd') (Nat.le_of_ble_eq_true hml) (Nat.le_of_eq (Nat.zero_add C)) (Nat.le_of_eq (Nat.zero_add S)) (Nat.le_of_ble_eq_true hw) (fun E h' z' hx _ => hx.elim) (fun v h' z' hx _ => by obtain ⟨rfl, rfl, rfl⟩ := hx; exact kk)
theorem Go.cs3r {M' : MI} {d' idx : Nat} {h2 : AH} {a1 a2 a3 : Value} {r : Value} (hd : decode M.2.1 pc = .ok (.invokestatic idx, 3)) (hq : pc + 3 = q) (lk : Cond.methodLink M.1.cls idx M'.1 ∈ gw) (ok : OkS M' 3) (hh : M'.2.2.2.2 = []) (hc : CallR Γ M' d' [a1, a2, a3] h z (some r) h2) (hd' : Nat.ble (d' + 1) d = true) (hml : Nat.ble M'.2.2.1 21 = true) (hw : Nat.ble (st.map fun v => v.category).sum 8 = true) (kk : Go Γ M d C S q L (r :: st) h2 z Q X) : Go Γ M d C S pc L (a3 :: a2 :: a1 :: st) h z Q X :=
  Go.callS (C1 := C) (S1 := S) (as := [a1, a2, a3]) hd hq lk ok hh rfl rfl hc (Nat.le_of_ble_eq_true hd') (Nat.le_of_ble_eq_true hml) (Nat.le_of_eq (Nat.zero_add C)) (Nat.le_of_eq (Nat.zero_add S)) (Nat.le_of_ble_eq_true hw) (fun E h' z' hx _ => hx.elim) (fun v h' z' hx _ => by obtain ⟨rfl, rfl, rfl⟩ := hx; exact kk)
theorem Go.cv4v {M' : MI} {d' idx b ci : Nat} {fs : List Value} {T : u_T} {N : Nat} {h2 : AH} {a1 a2 a3 a4 : Value} (hd : decode M.2.1 pc = .ok (.invokevirtual idx, 3)) (hq : pc + 3 = q) (lk : Cond.methodLink M.1.cls idx M'.1 ∈ gw) (ok : OkV M' 4) (ho : h b = some (.inr (ci, fs))) (hci : vwCl[ci]? = some (M'.1.cls, T, N)) (hc : CallR Γ M' d' (.ref b :: [a1, a2, a3, a4]) h z (none) h2) (hd' : Nat.ble (d' + 1) d = true) (hml : Nat.ble M'.2.2.1 21 = true) (hw : Nat.ble (st.map fun v => v.category).sum 8 = true) (kk : Go Γ M d C S q L st h2 z Q X) : Go Γ M d C S pc L (a4 :: a3 :: a2 :: a1 :: .ref b :: st) h z Q X :=
  Go.callV (C1 := C) (S1 := S) (as := [a1, a2, a3, a4]) hd hq lk ok rfl ho hci rfl hc (Nat.le_of_ble_eq_true hd') (Nat.le_of_ble_eq_true hml) (Nat.le_of_eq (Nat.zero_add C)) (Nat.le_of_eq (Nat.zero_add S)) (Nat.le_of_ble_eq_true hw) (fun E h' z' hx _ => hx.elim) (fun v h' z' hx _ => by obtain ⟨rfl, rfl, rfl⟩ := hx; exact kk)
theorem Go.cv4r {M' : MI} {d' idx b ci : Nat} {fs : List Value} {T : u_T} {N : Nat} {h2 : AH} {a1 a2 a3 a4 : Value} {r : Value} (hd : decode M.2.1 pc = .ok (.invokevirtual idx, 3)) (hq : pc + 3 = q) (lk : Cond.methodLink M.1.cls idx M'.1 ∈ gw) (ok : OkV M' 4) (ho : h b = some (.inr (ci, fs))) (hci : vwCl[ci]? = some (M'.1.cls, T, N)) (hc : CallR Γ M' d' (.ref b :: [a1, a2, a3, a4]) h z (some r) h2) (hd' : Nat.ble (d' + 1) d = true) (hml : Nat.ble M'.2.2.1 21 = true) (hw : Nat.ble (st.map fun v => v.category).sum 8 = true) (kk : Go Γ M d C S q L (r :: st) h2 z Q X) : Go Γ M d C S pc L (a4 :: a3 :: a2 :: a1 :: .ref b :: st) h z Q X :=
  Go.callV (C1 := C) (S1 := S) (as := [a1, a2, a3, a4]) hd hq lk ok rfl ho hci rfl hc (Nat.le_of_ble_eq_true hd') (Nat.le_of_ble_eq_true hml) (Nat.le_of_eq (Nat.zero_add C)) (Nat.le_of_eq (Nat.zero_add S)) (Nat.le_of_ble_eq_true hw) (fun E h' z' hx _ => hx.elim) (fun v h' z' hx _ => by obtain ⟨rfl, rfl, rfl⟩ := hx; exact kk)
theorem Go.cs4v {M' : MI} {d' idx : Nat} {h2 : AH} {a1 a2 a3 a4 : Value} (hd : decode M.2.1 pc = .ok (.invokestatic idx, 3)) (hq : pc + 3 = q) (lk : Cond.methodLink M.1.cls idx M'.1 ∈ gw) (ok : OkS M' 4) (hh : M'.2.2.2.2 = []) (hc : CallR Γ M' d' [a1, a2, a3, a4] h z (none) h2) (hd' : Nat.ble (d' + 1) d = true) (hml : Nat.ble M'.2.2.1 21 = true) (hw : Nat.ble (st.map fun v => v.category).sum 8 = true) (kk : Go Γ M d C S q L st h2 z Q X) : Go Γ M d C S pc L (a4 :: a3 :: a2 :: a1 :: st) h z Q X :=
  Go.callS (C1 := C) (S1 := S) (as := [a1, a2, a3, a4]) hd hq lk ok hh rfl rfl hc (Nat.le_of_ble_eq_true hd') (Nat.le_of_ble_eq_true hml) (Nat.le_of_eq (Nat.zero_add C)) (Nat.le_of_eq (Nat.zero_add S)) (Nat.le_of_ble_eq_true hw) (fun E h' z' hx _ => hx.elim) (fun v h' z' hx _ => by obtain ⟨rfl, rfl, rfl⟩ := hx; exact kk)
theorem Go.cs4r {M' : MI} {d' idx : Nat} {h2 : AH} {a1 a2 a3 a4 : Value} {r : Value} (hd : decode M.2.1 pc = .ok (.invokestatic idx, 3)) (hq : pc + 3 = q) (lk : Cond.methodLink M.1.cls idx M'.1 ∈ gw) (ok : OkS M' 4) (hh : M'.2.2.2.2 = []) (hc : CallR Γ M' d' [a1, a2, a3, a4] h z (some r) h2) (hd' : Nat.ble (d' + 1) d = true) (hml : Nat.ble M'.2.2.1 21 = true) (hw : Nat.ble (st.map fun v => v.category).sum 8 = true) (kk : Go Γ M d C S q L (r :: st) h2 z Q X) : Go Γ M d C S pc L (a4 :: a3 :: a2 :: a1 :: st) h z Q X :=
  Go.callS (C1 := C) (S1 := S) (as := [a1, a2, a3, a4]) hd hq lk ok hh rfl rfl hc (Nat.le_of_ble_eq_true hd') (Nat.le_of_ble_eq_true hml) (Nat.le_of_eq (Nat.zero_add C)) (Nat.le_of_eq (Nat.zero_add S)) (Nat.le_of_ble_eq_true hw) (fun E h' z' hx _ => hx.elim) (fun v h' z' hx _ => by obtain ⟨rfl, rfl, rfl⟩ := hx; exact kk)
theorem Go.cv5v {M' : MI} {d' idx b ci : Nat} {fs : List Value} {T : u_T} {N : Nat} {h2 : AH} {a1 a2 a3 a4 a5 : Value} (hd : decode M.2.1 pc = .ok (.invokevirtual idx, 3)) (hq : pc + 3 = q) (lk : Cond.methodLink M.1.cls idx M'.1 ∈ gw) (ok : OkV M' 5) (ho : h b = some (.inr (ci, fs))) (hci : vwCl[ci]? = some (M'.1.cls, T, N)) (hc : CallR Γ M' d' (.ref b :: [a1, a2, a3, a4, a5]) h z (none) h2) (hd' : Nat.ble (d' + 1) d = true) (hml : Nat.ble M'.2.2.1 21 = true) (hw : Nat.ble (st.map fun v => v.category).sum 8 = true) (kk : Go Γ M d C S q L st h2 z Q X) : Go Γ M d C S pc L (a5 :: a4 :: a3 :: a2 :: a1 :: .ref b :: st) h z Q X :=
  Go.callV (C1 := C) (S1 := S) (as := [a1, a2, a3, a4, a5]) hd hq lk ok rfl ho hci rfl hc (Nat.le_of_ble_eq_true hd') (Nat.le_of_ble_eq_true hml) (Nat.le_of_eq (Nat.zero_add C)) (Nat.le_of_eq (Nat.zero_add S)) (Nat.le_of_ble_eq_true hw) (fun E h' z' hx _ => hx.elim) (fun v h' z' hx _ => by obtain ⟨rfl, rfl, rfl⟩ := hx; exact kk)
theorem Go.cv5r {M' : MI} {d' idx b ci : Nat} {fs : List Value} {T : u_T} {N : Nat} {h2 : AH} {a1 a2 a3 a4 a5 : Value} {r : Value} (hd : decode M.2.1 pc = .ok (.invokevirtual idx, 3)) (hq : pc + 3 = q) (lk : Cond.methodLink M.1.cls idx M'.1 ∈ gw) (ok : OkV M' 5) (ho : h b = some (.inr (ci, fs))) (hci : vwCl[ci]? = some (M'.1.cls, T, N)) (hc : CallR Γ M' d' (.ref b :: [a1, a2, a3, a4, a5]) h z (some r) h2) (hd' : Nat.ble (d' + 1) d = true) (hml : Nat.ble M'.2.2.1 21 = true) (hw : Nat.ble (st.map fun v => v.category).sum 8 = true) (kk : Go Γ M d C S q L (r :: st) h2 z Q X) : Go Γ M d C S pc L (a5 :: a4 :: a3 :: a2 :: a1 :: .ref b :: st) h z Q X :=
  Go.callV (C1 := C) (S1 := S) (as := [a1, a2, a3, a4, a5]) hd hq lk ok rfl ho hci rfl hc (Nat.le_of_ble_eq_true hd') (Nat.le_of_ble_eq_true hml) (Nat.le_of_eq (Nat.zero_add C)) (Nat.le_of_eq (Nat.zero_add S)) (Nat.le_of_ble_eq_true hw) (fun E h' z' hx _ => hx.elim) (fun v h' z' hx _ => by obtain ⟨rfl, rfl, rfl⟩ := hx; exact kk)
theorem Go.cs5v {M' : MI} {d' idx : Nat} {h2 : AH} {a1 a2 a3 a4 a5 : Value} (hd : decode M.2.1 pc = .ok (.invokestatic idx, 3)) (hq : pc + 3 = q) (lk : Cond.methodLink M.1.cls idx M'.1 ∈ gw) (ok : OkS M' 5) (hh : M'.2.2.2.2 = []) (hc : CallR Γ M' d' [a1, a2, a3, a4, a5] h z (none) h2) (hd' : Nat.ble (d' + 1) d = true) (hml : Nat.ble M'.2.2.1 21 = true) (hw : Nat.ble (st.map fun v => v.category).sum 8 = true) (kk : Go Γ M d C S q L st h2 z Q X) : Go Γ M d C S pc L (a5 :: a4 :: a3 :: a2 :: a1 :: st) h z Q X :=
  Go.callS (C1 := C) (S1 := S) (as := [a1, a2, a3, a4, a5]) hd hq lk ok hh rfl rfl hc (Nat.le_of_ble_eq_true hd') (Nat.le_of_ble_eq_true hml) (Nat.le_of_eq (Nat.zero_add C)) (Nat.le_of_eq (Nat.zero_add S)) (Nat.le_of_ble_eq_true hw) (fun E h' z' hx _ => hx.elim) (fun v h' z' hx _ => by obtain ⟨rfl, rfl, rfl⟩ := hx; exact kk)
theorem Go.cs5r {M' : MI} {d' idx : Nat} {h2 : AH} {a1 a2 a3 a4 a5 : Value} {r : Value} (hd : decode M.2.1 pc = .ok (.invokestatic idx, 3)) (hq : pc + 3 = q) (lk : Cond.methodLink M.1.cls idx M'.1 ∈ gw) (ok : OkS M' 5) (hh : M'.2.2.2.2 = []) (hc : CallR Γ M' d' [a1, a2, a3, a4, a5] h z (some r) h2) (hd' : Nat.ble (d' + 1) d = true) (hml : Nat.ble M'.2.2.1 21 = true) (hw : Nat.ble (st.map fun v => v.category).sum 8 = true) (kk : Go Γ M d C S q L (r :: st) h2 z Q X) : Go Γ M d C S pc L (a5 :: a4 :: a3 :: a2 :: a1 :: st) h z Q X :=
  Go.callS (C1 := C) (S1 := S) (as := [a1, a2, a3, a4, a5]) hd hq lk ok hh rfl rfl hc (Nat.le_of_ble_eq_true hd') (Nat.le_of_ble_eq_true hml) (Nat.le_of_eq (Nat.zero_add C)) (Nat.le_of_eq (Nat.zero_add S)) (Nat.le_of_ble_eq_true hw) (fun E h' z' hx _ => hx.elim) (fun v h' z' hx _ => by obtain ⟨rfl, rfl, rfl⟩ := hx; exact kk)
theorem Go.cv6v {M' : MI} {d' idx b ci : Nat} {fs : List Value} {T : u_T} {N : Nat} {h2 : AH} {a1 a2 a3 a4 a5 a6 : Value} (hd : decode M.2.1 pc = .ok (.invokevirtual idx, 3)) (hq : pc + 3 = q) (lk : Cond.methodLink M.1.cls idx M'.1 ∈ gw) (ok : OkV M' 6) (ho : h b = some (.inr (ci, fs))) (hci : vwCl[ci]? = some (M'.1.cls, T, N)) (hc : CallR Γ M' d' (.ref b :: [a1, a2, a3, a4, a5, a6]) h z (none) h2) (hd' : Nat.ble (d' + 1) d = true) (hml : Nat.ble M'.2.2.1 21 = true) (hw : Nat.ble (st.map fun v => v.category).sum 8 = true) (kk : Go Γ M d C S q L st h2 z Q X) : Go Γ M d C S pc L (a6 :: a5 :: a4 :: a3 :: a2 :: a1 :: .ref b :: st) h z Q X :=
  Go.callV (C1 := C) (S1 := S) (as := [a1, a2, a3, a4, a5, a6]) hd hq lk ok rfl ho hci rfl hc (Nat.le_of_ble_eq_true hd') (Nat.le_of_ble_eq_true hml) (Nat.le_of_eq (Nat.zero_add C)) (Nat.le_of_eq (Nat.zero_add S)) (Nat.le_of_ble_eq_true hw) (fun E h' z' hx _ => hx.elim) (fun v h' z' hx _ => by obtain ⟨rfl, rfl, rfl⟩ := hx; exact kk)
theorem Go.cv6r {M' : MI} {d' idx b ci : Nat} {fs : List Value} {T : u_T} {N : Nat} {h2 : AH} {a1 a2 a3 a4 a5 a6 : Value} {r : Value} (hd : decode M.2.1 pc = .ok (.invokevirtual idx, 3)) (hq : pc + 3 = q) (lk : Cond.methodLink M.1.cls idx M'.1 ∈ gw) (ok : OkV M' 6) (ho : h b = some (.inr (ci, fs))) (hci : vwCl[ci]? = some (M'.1.cls, T, N)) (hc : CallR Γ M' d' (.ref b :: [a1, a2, a3, a4, a5, a6]) h z (some r) h2) (hd' : Nat.ble (d' + 1) d = true) (hml : Nat.ble M'.2.2.1 21 = true) (hw : Nat.ble (st.map fun v => v.category).sum 8 = true) (kk : Go Γ M d C S q L (r :: st) h2 z Q X) : Go Γ M d C S pc L (a6 :: a5 :: a4 :: a3 :: a2 :: a1 :: .ref b :: st) h z Q X :=
  Go.callV (C1 := C) (S1 := S) (as := [a1, a2, a3, a4, a5, a6]) hd hq lk ok rfl ho hci rfl hc (Nat.le_of_ble_eq_true hd') (Nat.le_of_ble_eq_true hml) (Nat.le_of_eq (Nat.zero_add C)) (Nat.le_of_eq (Nat.zero_add S)) (Nat.le_of_ble_eq_true hw) (fun E h' z' hx _ => hx.elim) (fun v h' z' hx _ => by obtain ⟨rfl, rfl, rfl⟩ := hx; exact kk)
theorem Go.cs6v {M' : MI} {d' idx : Nat} {h2 : AH} {a1 a2 a3 a4 a5 a6 : Value} (hd : decode M.2.1 pc = .ok (.invokestatic idx, 3)) (hq : pc + 3 = q) (lk : Cond.methodLink M.1.cls idx M'.1 ∈ gw) (ok : OkS M' 6) (hh : M'.2.2.2.2 = []) (hc : CallR Γ M' d' [a1, a2, a3, a4, a5, a6] h z (none) h2) (hd' : Nat.ble (d' + 1) d = true) (hml : Nat.ble M'.2.2.1 21 = true) (hw : Nat.ble (st.map fun v => v.category).sum 8 = true) (kk : Go Γ M d C S q L st h2 z Q X) : Go Γ M d C S pc L (a6 :: a5 :: a4 :: a3 :: a2 :: a1 :: st) h z Q X :=
  Go.callS (C1 := C) (S1 := S) (as := [a1, a2, a3, a4, a5, a6]) hd hq lk ok hh rfl rfl hc (Nat.le_of_ble_eq_true hd') (Nat.le_of_ble_eq_true hml) (Nat.le_of_eq (Nat.zero_add C)) (Nat.le_of_eq (Nat.zero_add S)) (Nat.le_of_ble_eq_true hw) (fun E h' z' hx _ => hx.elim) (fun v h' z' hx _ => by obtain ⟨rfl, rfl, rfl⟩ := hx; exact kk)
theorem Go.cs6r {M' : MI} {d' idx : Nat} {h2 : AH} {a1 a2 a3 a4 a5 a6 : Value} {r : Value} (hd : decode M.2.1 pc = .ok (.invokestatic idx, 3)) (hq : pc + 3 = q) (lk : Cond.methodLink M.1.cls idx M'.1 ∈ gw) (ok : OkS M' 6) (hh : M'.2.2.2.2 = []) (hc : CallR Γ M' d' [a1, a2, a3, a4, a5, a6] h z (some r) h2) (hd' : Nat.ble (d' + 1) d = true) (hml : Nat.ble M'.2.2.1 21 = true) (hw : Nat.ble (st.map fun v => v.category).sum 8 = true) (kk : Go Γ M d C S q L (r :: st) h2 z Q X) : Go Γ M d C S pc L (a6 :: a5 :: a4 :: a3 :: a2 :: a1 :: st) h z Q X :=
  Go.callS (C1 := C) (S1 := S) (as := [a1, a2, a3, a4, a5, a6]) hd hq lk ok hh rfl rfl hc (Nat.le_of_ble_eq_true hd') (Nat.le_of_ble_eq_true hml) (Nat.le_of_eq (Nat.zero_add C)) (Nat.le_of_eq (Nat.zero_add S)) (Nat.le_of_ble_eq_true hw) (fun E h' z' hx _ => hx.elim) (fun v h' z' hx _ => by obtain ⟨rfl, rfl, rfl⟩ := hx; exact kk)
theorem Go.cv7v {M' : MI} {d' idx b ci : Nat} {fs : List Value} {T : u_T} {N : Nat} {h2 : AH} {a1 a2 a3 a4 a5 a6 a7 : Value} (hd : decode M.2.1 pc = .ok (.invokevirtual idx, 3)) (hq : pc + 3 = q) (lk : Cond.methodLink M.1.cls idx M'.1 ∈ gw) (ok : OkV M' 7) (ho : h b = some (.inr (ci, fs))) (hci : vwCl[ci]? = some (M'.1.cls, T, N)) (hc : CallR Γ M' d' (.ref b :: [a1, a2, a3, a4, a5, a6, a7]) h z (none) h2) (hd' : Nat.ble (d' + 1) d = true) (hml : Nat.ble M'.2.2.1 21 = true) (hw : Nat.ble (st.map fun v => v.category).sum 8 = true) (kk : Go Γ M d C S q L st h2 z Q X) : Go Γ M d C S pc L (a7 :: a6 :: a5 :: a4 :: a3 :: a2 :: a1 :: .ref b :: st) h z Q X :=
  Go.callV (C1 := C) (S1 := S) (as := [a1, a2, a3, a4, a5, a6, a7]) hd hq lk ok rfl ho hci rfl hc (Nat.le_of_ble_eq_true hd') (Nat.le_of_ble_eq_true hml) (Nat.le_of_eq (Nat.zero_add C)) (Nat.le_of_eq (Nat.zero_add S)) (Nat.le_of_ble_eq_true hw) (fun E h' z' hx _ => hx.elim) (fun v h' z' hx _ => by obtain ⟨rfl, rfl, rfl⟩ := hx; exact kk)
theorem Go.cv7r {M' : MI} {d' idx b ci : Nat} {fs : List Value} {T : u_T} {N : Nat} {h2 : AH} {a1 a2 a3 a4 a5 a6 a7 : Value} {r : Value} (hd : decode M.2.1 pc = .ok (.invokevirtual idx, 3)) (hq : pc + 3 = q) (lk : Cond.methodLink M.1.cls idx M'.1 ∈ gw) (ok : OkV M' 7) (ho : h b = some (.inr (ci, fs))) (hci : vwCl[ci]? = some (M'.1.cls, T, N)) (hc : CallR Γ M' d' (.ref b :: [a1, a2, a3, a4, a5, a6, a7]) h z (some r) h2) (hd' : Nat.ble (d' + 1) d = true) (hml : Nat.ble M'.2.2.1 21 = true) (hw : Nat.ble (st.map fun v => v.category).sum 8 = true) (kk : Go Γ M d C S q L (r :: st) h2 z Q X) : Go Γ M d C S pc L (a7 :: a6 :: a5 :: a4 :: a3 :: a2 :: a1 :: .ref b :: st) h z Q X :=
  Go.callV (C1 := C) (S1 := S) (as := [a1, a2, a3, a4, a5, a6, a7]) hd hq lk ok rfl ho hci rfl hc (Nat.le_of_ble_eq_true hd') (Nat.le_of_ble_eq_true hml) (Nat.le_of_eq (Nat.zero_add C)) (Nat.le_of_eq (Nat.zero_add S)) (Nat.le_of_ble_eq_true hw) (fun E h' z' hx _ => hx.elim) (fun v h' z' hx _ => by obtain ⟨rfl, rfl, rfl⟩ := hx; exact kk)
theorem Go.cs7v {M' : MI} {d' idx : Nat} {h2 : AH} {a1 a2 a3 a4 a5 a6 a7 : Value} (hd : decode M.2.1 pc = .ok (.invokestatic idx, 3)) (hq : pc + 3 = q) (lk : Cond.methodLink M.1.cls idx M'.1 ∈ gw) (ok : OkS M' 7) (hh : M'.2.2.2.2 = []) (hc : CallR Γ M' d' [a1, a2, a3, a4, a5, a6, a7] h z (none) h2) (hd' : Nat.ble (d' + 1) d = true) (hml : Nat.ble M'.2.2.1 21 = true) (hw : Nat.ble (st.map fun v => v.category).sum 8 = true) (kk : Go Γ M d C S q L st h2 z Q X) : Go Γ M d C S pc L (a7 :: a6 :: a5 :: a4 :: a3 :: a2 :: a1 :: st) h z Q X :=
  Go.callS (C1 := C) (S1 := S) (as := [a1, a2, a3, a4, a5, a6, a7]) hd hq lk ok hh rfl rfl hc (Nat.le_of_ble_eq_true hd') (Nat.le_of_ble_eq_true hml) (Nat.le_of_eq (Nat.zero_add C)) (Nat.le_of_eq (Nat.zero_add S)) (Nat.le_of_ble_eq_true hw) (fun E h' z' hx _ => hx.elim) (fun v h' z' hx _ => by obtain ⟨rfl, rfl, rfl⟩ := hx; exact kk)
theorem Go.cs7r {M' : MI} {d' idx : Nat} {h2 : AH} {a1 a2 a3 a4 a5 a6 a7 : Value} {r : Value} (hd : decode M.2.1 pc = .ok (.invokestatic idx, 3)) (hq : pc + 3 = q) (lk : Cond.methodLink M.1.cls idx M'.1 ∈ gw) (ok : OkS M' 7) (hh : M'.2.2.2.2 = []) (hc : CallR Γ M' d' [a1, a2, a3, a4, a5, a6, a7] h z (some r) h2) (hd' : Nat.ble (d' + 1) d = true) (hml : Nat.ble M'.2.2.1 21 = true) (hw : Nat.ble (st.map fun v => v.category).sum 8 = true) (kk : Go Γ M d C S q L (r :: st) h2 z Q X) : Go Γ M d C S pc L (a7 :: a6 :: a5 :: a4 :: a3 :: a2 :: a1 :: st) h z Q X :=
  Go.callS (C1 := C) (S1 := S) (as := [a1, a2, a3, a4, a5, a6, a7]) hd hq lk ok hh rfl rfl hc (Nat.le_of_ble_eq_true hd') (Nat.le_of_ble_eq_true hml) (Nat.le_of_eq (Nat.zero_add C)) (Nat.le_of_eq (Nat.zero_add S)) (Nat.le_of_ble_eq_true hw) (fun E h' z' hx _ => hx.elim) (fun v h' z' hx _ => by obtain ⟨rfl, rfl, rfl⟩ := hx; exact kk)
/-- Object's constructor -/
theorem Go.objInit {idx b : Nat} (hd : decode M.2.1 pc = .ok (.invokespecial idx, 3)) (hq : pc + 3 = q) (lk : Cond.methodLink M.1.cls idx Lib.objectInit ∈ gw) (h1 : Cond.instanceMethod Lib.objectInit ∈ gw) (h2 : Cond.code Lib.objectInit ⟨#[0xb1]⟩ 1 none ∈ gw) (hd' : 1 ≤ d) (hw : Nat.ble (st.map fun v => v.category).sum 8 = true) (kk : Go Γ M d C S q L st h z Q X) : Go Γ M d C S pc L (.ref b :: st) h z Q X := by
  subst hq
  intro p e R s m args below meth c H locs cells slots ls Z hc
  obtain ⟨r1, r2, r3, r4⟩ := hc.2.1
  have hts := hc.1.2.2.2.2.2.1
  have hw' := Nat.le_of_ble_eq_true hw
  refine W.objInit hc.1.1 hc.1.2.1 hc.1.2.2.2.2.1 (hts _ lk) (hts _ h1) (hts _ h2) rfl (by rw [hc.1.2.2.1]; exact hc.2.2.2.2.1.1) rfl hd (by omega) ?_ (kk _ _ _ _ _ _ _ _ _ _ _ _ _ _ _ hc)
  show 2 * 0 + (st.map fun v => v.category).sum + 12 ≤ R.locals
  omega
theorem Go.mmax {idx : Nat} {x y : Int32} (hd : decode M.2.1 pc = .ok (.invokestatic idx, 3)) (hq : pc + 3 = q) (lk : Cond.methodLink M.1.cls idx M_Math_max.1 ∈ gw) (hd' : 1 ≤ d) (hw : Nat.ble (st.map fun v => v.category).sum 8 = true) (kk : Go Γ M d C S q L (.int (if x < y then y else x) :: st) h z Q X) : Go Γ M d C S pc L (.int y :: .int x :: st) h z Q X := by
  subst hq
  intro p e R s m args below meth c H locs cells slots ls Z hc
  obtain ⟨r1, r2, r3, r4⟩ := hc.2.1
  have hts := hc.1.2.2.2.2.2.1
  have hw' := Nat.le_of_ble_eq_true hw
  exact va_mmax hc.1.1 hc.1.2.1 (by rw [hc.1.2.2.1]; exact hc.2.2.2.2.1.1.symm) hc.1.2.2.2.2.1 (hts _ lk) (hts _ k_Math_max_s.2) (hts _ k_Math_max_s.1.2.1) (hts _ k_Math_max_s.1.1) (by omega) (by omega) (by omega) (by omega) hd (kk _ _ _ _ _ _ _ _ _ _ _ _ _ _ _ hc)
theorem Go.mmin {idx : Nat} {x y : Int32} (hd : decode M.2.1 pc = .ok (.invokestatic idx, 3)) (hq : pc + 3 = q) (lk : Cond.methodLink M.1.cls idx M_Math_min.1 ∈ gw) (hd' : 1 ≤ d) (hw : Nat.ble (st.map fun v => v.category).sum 8 = true) (kk : Go Γ M d C S q L (.int (if y < x then y else x) :: st) h z Q X) : Go Γ M d C S pc L (.int y :: .int x :: st) h z Q X := by
  subst hq
  intro p e R s m args below meth c H locs cells slots ls Z hc
  obtain ⟨r1, r2, r3, r4⟩ := hc.2.1
  have hts := hc.1.2.2.2.2.2.1
  have hw' := Nat.le_of_ble_eq_true hw
  exact va_mmin hc.1.1 hc.1.2.1 (by rw [hc.1.2.2.1]; exact hc.2.2.2.2.1.1.symm) hc.1.2.2.2.2.1 (hts _ lk) (hts _ k_Math_min_s.2) (hts _ k_Math_min_s.1.2.1) (hts _ k_Math_min_s.1.1) (by omega) (by omega) (by omega) (by omega) hd (kk _ _ _ _ _ _ _ _ _ _ _ _ _ _ _ hc)
end GoTools
def blk (h : AH) (g n : Nat) (f : Nat → Option va_E) : AH := fun a => if g ≤ a ∧ a < g + n then f (a - g) else h a
section Blk
variable {h : AH} {g n : Nat} {f f' : Nat → Option va_E}
theorem blk_at {k : Nat} (hk : k < n) : blk h g n f (g + k) = f k := by
  unfold blk
  rw [if_pos ⟨by omega, by omega⟩]
  congr 1
  omega
theorem blk_at0 (hk : 0 < n) : blk h g n f g = f 0 := blk_at (k := 0) hk
theorem blk_out {a : Nat} (ha : a < g ∨ g + n ≤ a) : blk h g n f a = h a := by
  unfold blk
  rw [if_neg (by omega)]
theorem blk_hup {k : Nat} {e : va_E} (hk : k < n) : hup (blk h g n f) (g + k) e = blk h g n (fun j => if j = k then some e else f j) := by
  funext a
  unfold hup blk
  by_cases h1 : a = g + k
  · subst h1
    rw [if_pos rfl, if_pos ⟨by omega, by omega⟩]
    dsimp only
    rw [if_pos (by omega)]
  · rw [if_neg h1]
    by_cases h2 : g ≤ a ∧ a < g + n
    · rw [if_pos h2, if_pos h2]
      dsimp only
      rw [if_neg (by omega)]
    · rw [if_neg h2, if_neg h2]
theorem blk_hup0 {e : va_E} (hk : 0 < n) : hup (blk h g n f) g e = blk h g n (fun j => if j = 0 then some e else f j) := blk_hup (k := 0) hk
theorem blk_blk : blk (blk h g n f) g n f' = blk h g n f' := by
  funext a
  unfold blk
  by_cases h2 : g ≤ a ∧ a < g + n
  · rw [if_pos h2, if_pos h2]
  · rw [if_neg h2, if_neg h2, if_neg h2]
theorem blk_sub {k m : Nat} (hk : k + m ≤ n) : blk (blk h g n f) (g + k) m f' = blk h g n (fun j => if k ≤ j ∧ j < k + m then f' (j - k) else f j) := by
  funext a
  unfold blk
  by_cases h1 : g + k ≤ a ∧ a < g + k + m
  · rw [if_pos h1, if_pos ⟨by omega, by omega⟩]
    dsimp only
    rw [if_pos ⟨by omega, by omega⟩]
    congr 1
    omega
  · rw [if_neg h1]
    by_cases h2 : g ≤ a ∧ a < g + n
    · rw [if_pos h2, if_pos h2]
      dsimp only
      rw [if_neg (by omega)]
    · rw [if_neg h2, if_neg h2]
theorem blk_self (hf : ∀ k, k < n → h (g + k) = f k) : blk h g n f = h := by
  funext a
  unfold blk
  by_cases h2 : g ≤ a ∧ a < g + n
  · rw [if_pos h2, ← hf (a - g) (by omega)]
    congr 1
    omega
  · rw [if_neg h2]
theorem blk_ext (hf : ∀ k, k < n → f k = f' k) : blk h g n f = blk h g n f' := by
  funext a
  unfold blk
  by_cases h2 : g ≤ a ∧ a < g + n
  · rw [if_pos h2, if_pos h2]
    exact hf _ (by omega)
  · rw [if_neg h2, if_neg h2]
theorem blk_comm {g2 n2 : Nat} {f2 : Nat → Option va_E} (hd : g + n ≤ g2 ∨ g2 + n2 ≤ g) : blk (blk h g n f) g2 n2 f2 = blk (blk h g2 n2 f2) g n f := by
  funext a
  unfold blk
  by_cases h1 : g ≤ a ∧ a < g + n <;> by_cases h2 : g2 ≤ a ∧ a < g2 + n2
  · omega
  · rw [if_neg h2, if_pos h1, if_pos h1]
  · rw [if_pos h2, if_neg h1, if_pos h2]
  · rw [if_neg h2, if_neg h1, if_neg h1, if_neg h2]
theorem hup_self {a : Nat} {e : va_E} (ha : h a = some e) : hup h a e = h := by
  funext b
  unfold hup
  by_cases hb : b = a
  · rw [if_pos hb, hb, ha]
  · rw [if_neg hb]
theorem hup_at {a : Nat} {e : va_E} : hup h a e a = some e := if_pos rfl
theorem hup_ne {a b : Nat} {e : va_E} (hb : b ≠ a) : hup h a e b = h b := if_neg hb
theorem hup_hup {a : Nat} {e e' : va_E} : hup (hup h a e) a e' = hup h a e' := by
  funext b
  unfold hup
  by_cases hb : b = a
  · rw [if_pos hb, if_pos hb]
  · rw [if_neg hb, if_neg hb, if_neg hb]
end Blk
theorem nI_inc (i : Nat) : nI i + Int32.ofInt 1 = nI (i + 1) := nI_1 i
theorem nI8 : (8 : Int32) = nI 8 := rfl
