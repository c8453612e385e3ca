/-! the camp and the law's own glacier: what is the same of both -/
def PM (A : AD) (σ : GL) (Y : SM) : Prop := (∀ k, k < 5 → gN σ k = cn A k) ∧ (∀ k r c, k < 5 → r < cn A k → c < wdt k → ¬ (k = 2 ∧ c = 2) → (σ.1 k).1 (8 * r + c) = sm_v Y k r c) ∧ (∀ r, r < cn A 2 → ∃ v : Nat, sm_v Y 2 r 2 = nI v ∧ v ≤ sm_dy Y + 3 ∧ (σ.1 2).1 (8 * r + 2) = nI (v - sm_dy Y)) ∧ gD σ = nI (sm_dy Y) ∧ sm_dy Y < 1000000 ∧ (∀ j, j < 8 → gW σ j = sm_wa Y j) ∧ gC σ = sm_ca Y
theorem sm_v_set {Y : SM} {k r j k' r' j' : Nat} {x : Int32} : sm_v (sm_set Y k r j x) k' r' j' = if k' = k ∧ r' = r ∧ j' = j then x else sm_v Y k' r' j' := by
  show (if k' = k ∧ r' = r then upd (sm_v Y k r) j x else sm_v Y k' r') j' = _
  by_cases h : k' = k ∧ r' = r
  · rw [if_pos h]
    unfold upd
    by_cases e : j' = j
    · rw [if_pos e, if_pos ⟨h.1, h.2, e⟩]
    · rw [if_neg e, if_neg (fun w => e w.2.2), h.1, h.2]
  · rw [if_neg h, if_neg (fun w => h ⟨w.1, w.2.1⟩)]
theorem sm_v_at {Y : SM} {k r j : Nat} {x : Int32} : sm_v (sm_set Y k r j x) k r j = x := by rw [sm_v_set, if_pos ⟨rfl, rfl, rfl⟩]
theorem sm_v_ne {Y : SM} {k r j k' r' j' : Nat} {x : Int32} (h : ¬ (k' = k ∧ r' = r ∧ j' = j)) : sm_v (sm_set Y k r j x) k' r' j' = sm_v Y k' r' j' := by rw [sm_v_set, if_neg h]
theorem cellu {f : Nat → Int32} {r i c c' : Nat} {v : Int32} (hc : c < 8) (hc' : c' < 8) : upd f (8 * r + c) v (8 * i + c') = if i = r ∧ c' = c then v else f (8 * i + c') := by
  unfold upd
  by_cases h : i = r ∧ c' = c
  · rw [if_pos h, if_pos (by omega)]
  · rw [if_neg h, if_neg (by omega)]
theorem wdt_le {k : Nat} (hk : k < 5) : wdt k ≤ 8 := by
  match k, hk with
  | 0, _ => decide
  | 1, _ => decide
  | 2, _ => decide
  | 3, _ => decide
  | 4, _ => decide
section Pm
variable {A : AD} {σ : GL} {Y : SM}
theorem PM.get (hP : PM A σ Y) (hA : AOk A) {k r c : Nat} (hk : k < 5) (hr : r < cn A k) (hc : c < wdt k) (hn : ¬ (k = 2 ∧ c = 2)) : gG σ k (nI r) c = sm_v Y k r c := by
  have h8 := hA.2.2 k (by omega)
  have e := hP.1 k hk
  unfold gN at e
  unfold gG
  rw [tgI_at (by omega) (by omega)]
  exact hP.2.1 k r c hk hr hc hn
/-- only what is read matters -/
theorem PM.of (hP : PM A σ Y) {Y' : SM} (hv : ∀ k r c, k < 5 → r < cn A k → c < wdt k → sm_v Y' k r c = sm_v Y k r c) (hd : sm_dy Y' = sm_dy Y) (hw : sm_wa Y' = sm_wa Y) (hc : sm_ca Y' = sm_ca Y) : PM A σ Y' := by
  refine ⟨hP.1, fun k r c hk hr hcc hn => (hP.2.1 k r c hk hr hcc hn).trans (hv k r c hk hr hcc).symm, fun r hr => ?_, ?_⟩
  · rw [hv 2 r 2 (by decide) hr (by decide), hd]
    exact hP.2.2.1 r hr
  · rw [hd, hw, hc]
    exact hP.2.2.2
theorem PM.put (hP : PM A σ Y) (hA : AOk A) {k r c : Nat} {v x : Int32} (hk : k < 5) (hr : r < cn A k) (hc : c < wdt k) (h2 : (k = 2 ∧ c = 2) → ∃ w : Nat, x = nI w ∧ w ≤ sm_dy Y + 3 ∧ v = nI (w - sm_dy Y)) (h1 : ¬ (k = 2 ∧ c = 2) → x = v) : PM A (gS σ k (nI r) c v) (sm_set Y k r c x) := by
  have h8 := hA.2.2 k (by omega)
  have e := hP.1 k hk
  have hw := wdt_le hk
  have eg : gS σ k (nI r) c v = gP σ k (upd (σ.1 k).1 (8 * r + c) v, (σ.1 k).2) := by
    unfold gS
    unfold gN at e
    rw [tsI_at (by omega) (by omega)]
  have hcell : ∀ k' r' c', c' < 8 → ((gS σ k (nI r) c v).1 k').1 (8 * r' + c') = if k' = k ∧ r' = r ∧ c' = c then v else (σ.1 k').1 (8 * r' + c') := by
    intro k' r' c' hc'
    rw [eg]
    show (if k' = k then (upd (σ.1 k).1 (8 * r + c) v, (σ.1 k).2) else σ.1 k').1 _ = _
    by_cases e1 : k' = k
    · rw [if_pos e1, e1]
      show upd _ _ _ _ = _
      rw [cellu (by omega) hc']
      by_cases e2 : r' = r ∧ c' = c
      · rw [if_pos e2, if_pos ⟨rfl, e2⟩]
      · rw [if_neg e2, if_neg (fun w => e2 w.2)]
    · rw [if_neg e1, if_neg (fun w => e1 w.1)]
  refine ⟨fun k' hk' => (gN_gS k').trans (hP.1 k' hk'), fun k' r' c' hk' hr' hc' hn' => ?_, fun r' hr' => ?_, hP.2.2.2⟩
  · rw [hcell k' r' c' (Nat.lt_of_lt_of_le hc' (wdt_le hk')), sm_v_set]
    by_cases e1 : k' = k ∧ r' = r ∧ c' = c
    · rw [if_pos e1, if_pos e1]
      exact (h1 (fun w => hn' ⟨e1.1.trans w.1, e1.2.2.trans w.2⟩)).symm
    · rw [if_neg e1, if_neg e1]
      exact hP.2.1 k' r' c' hk' hr' hc' hn'
  · rw [hcell 2 r' 2 (by decide), sm_v_set]
    by_cases e1 : 2 = k ∧ r' = r ∧ 2 = c
    · rw [if_pos e1, if_pos e1]
      exact h2 ⟨e1.1.symm, e1.2.2.symm⟩
    · rw [if_neg e1, if_neg e1]
      exact hP.2.2.1 r' hr'
theorem PM.set (hP : PM A σ Y) (hA : AOk A) {k r c : Nat} {v : Int32} (hk : k < 5) (hr : r < cn A k) (hc : c < wdt k) (hn : ¬ (k = 2 ∧ c = 2)) : PM A (gS σ k (nI r) c v) (sm_set Y k r c v) := hP.put hA hk hr hc (fun w => absurd w hn) (fun _ => rfl)
theorem PM.add (hP : PM A σ Y) (hA : AOk A) {k r c : Nat} {v : Int32} (hk : k < 5) (hr : r < cn A k) (hc : c < wdt k) (hn : ¬ (k = 2 ∧ c = 2)) : PM A (gA σ k (nI r) c v) (sm_set Y k r c (sm_v Y k r c + v)) := by
  unfold gA
  rw [hP.get hA hk hr hc hn]
  exact hP.set hA hk hr hc hn
theorem PM.known (hP : PM A σ Y) (hA : AOk A) {r : Nat} (hr : r < cn A 2) : s_Sim_isKnown Y r = 0 ↔ gG σ 2 (nI r) 2 ≤ 0 := by
  have h8 := hA.2.2 2 (by decide)
  obtain ⟨v, e1, e2, e3⟩ := hP.2.2.1 r hr
  have hd := hP.2.2.2.2.1
  have e := hP.1 2 (by decide)
  unfold gN at e
  unfold gG s_Sim_isKnown
  rw [tgI_at (by omega) (by omega), e3, e1]
  by_cases h : v ≤ sm_dy Y
  · rw [if_pos (nI_le h (by omega)), show v - sm_dy Y = 0 by omega]
    exact ⟨fun _ => by decide, fun _ => rfl⟩
  · rw [if_neg (nI_ge (by omega) (by omega))]
    exact ⟨fun w => absurd w (by decide), fun w => absurd w (show ¬ nI (v - sm_dy Y) ≤ nI 0 from nI_ge (by omega) (by omega))⟩
/-- a team as it must be -/
def TOk (A : AD) (Y : SM) (t : Nat) : Prop := (∃ p, sm_v Y 4 t 2 = nI p ∧ p < cn A 0) ∧ (sm_v Y 4 t 4 = 0 ∨ sm_v Y 4 t 4 = 1) ∧ (sm_v Y 4 t 7 = 0 ∨ sm_v Y 4 t 7 = 1)
abbrev lowF (Y : SM) (t : Nat) (x : Int32) : Int32 := if x = 0 then sm_v Y 4 t 2 - 1 else sm_v Y 4 t 2
abbrev wkF (Y : SM) (t i : Nat) : Prop := ¬ 8 * sm_v Y 4 t 0 ≤ sm_v Y 2 i 1
theorem i_sub0 (x : Int32) : x - 0 = x := by simp
theorem weak_eq (hP : PM A σ Y) (hA : AOk A) {i t : Nat} (hi : i < cn A 2) (ht : t < cn A 4) {x : Int32} : s_Glacier_isTooWeak σ (nI i) (nI t) x = if sm_v Y 2 i 0 = lowF Y t x then (if 8 * sm_v Y 4 t 0 ≤ sm_v Y 2 i 1 then 0 else 1) else 0 := by
  unfold s_Glacier_isTooWeak lowF
  rw [hP.get hA (k := 2) (c := 0) (by decide) hi (by decide) (by decide), hP.get hA (k := 2) (c := 1) (by decide) hi (by decide) (by decide), hP.get hA (k := 4) (c := 2) (by decide) ht (by decide) (by decide), hP.get hA (k := 4) (c := 0) (by decide) ht (by decide) (by decide), i_sub0]
  by_cases h : x = 0
  · rw [if_pos h, if_pos h]
  · rw [if_neg h, if_neg h]
/-- the way, upwards -/
def wayA (Y : SM) (low : Int32) : Nat → Nat → List Nat
  | 0, _ => []
  | k + 1, i => if sm_v Y 2 i 0 = low then i :: wayA Y low k (i + 1) else wayA Y low k (i + 1)
theorem wayF_up {low up : Int32} (hu : ¬ up = 0) : ∀ (k i : Nat) (l : List Nat), wayF Y low up k i l = l ++ wayA Y low k i
  | 0, _, l => (List.append_nil l).symm
  | k + 1, i, l => by
    unfold wayF wayA
    by_cases h : sm_v Y 2 i 0 = low
    · rw [if_pos h, if_pos h, if_neg hu, wayF_up hu k, List.append_assoc]
      rfl
    · rw [if_neg h, if_neg h, wayF_up hu k]
theorem wayF_dn {low : Int32} : ∀ (k i : Nat) (l : List Nat), wayF Y low 0 k i l = (wayA Y low k i).reverse ++ l
  | 0, _, l => rfl
  | k + 1, i, l => by
    unfold wayF wayA
    by_cases h : sm_v Y 2 i 0 = low
    · rw [if_pos h, if_pos h, if_pos rfl, wayF_dn k, List.reverse_cons, List.append_assoc]
      rfl
    · rw [if_neg h, if_neg h, wayF_dn k]
theorem wayA_mem {low : Int32} {c : Nat} : ∀ (k i : Nat), c ∈ wayA Y low k i ↔ (i ≤ c ∧ c < i + k) ∧ sm_v Y 2 c 0 = low
  | 0, i => by
    unfold wayA
    constructor
    · intro h
      cases h
    · intro h
      omega
  | k + 1, i => by
    unfold wayA
    by_cases h : sm_v Y 2 i 0 = low
    · rw [if_pos h, List.mem_cons, wayA_mem k]
      constructor
      · rintro (rfl | ⟨h1, h2⟩)
        · exact ⟨by omega, h⟩
        · exact ⟨by omega, h2⟩
      · rintro ⟨h1, h2⟩
        by_cases e : c = i
        · exact Or.inl e
        · exact Or.inr ⟨by omega, h2⟩
    · rw [if_neg h, wayA_mem k]
      constructor
      · rintro ⟨h1, h2⟩
        exact ⟨by omega, h2⟩
      · rintro ⟨h1, h2⟩
        by_cases e : c = i
        · rw [e] at h2
          exact absurd h2 h
        · exact ⟨by omega, h2⟩
theorem wayA_snoc {low : Int32} : ∀ (k i : Nat), wayA Y low (k + 1) i = wayA Y low k i ++ (if sm_v Y 2 (i + k) 0 = low then [i + k] else [])
  | 0, i => rfl
  | k + 1, i => by
    have e := wayA_snoc (low := low) k (i + 1)
    rw [show i + 1 + k = i + (k + 1) by omega] at e
    rw [show wayA Y low (k + 1 + 1) i = if sm_v Y 2 i 0 = low then i :: wayA Y low (k + 1) (i + 1) else wayA Y low (k + 1) (i + 1) from rfl, e, show wayA Y low (k + 1) i = if sm_v Y 2 i 0 = low then i :: wayA Y low k (i + 1) else wayA Y low k (i + 1) from rfl]
    by_cases h : sm_v Y 2 i 0 = low
    · rw [if_pos h, if_pos h]
      rfl
    · rw [if_neg h, if_neg h]
theorem canF_iff {t : Nat} : ∀ l : List Nat, canF Y t l = 1 ↔ ∀ c ∈ l, s_Sim_isKnown Y c = 0 ∨ ¬ wkF Y t c
  | [] => ⟨fun _ c hc => (by cases hc), fun _ => rfl⟩
  | a :: l => by
    have ih := canF_iff (t := t) l
    unfold canF
    by_cases h1 : s_Sim_isKnown Y a = 0
    · rw [if_pos h1, ih]
      exact ⟨fun w c hc => (List.mem_cons.mp hc).elim (fun e => Or.inl (e ▸ h1)) (w c), fun w c hc => w c (List.mem_cons_of_mem _ hc)⟩
    · rw [if_neg h1]
      by_cases h2 : 8 * sm_v Y 4 t 0 ≤ sm_v Y 2 a 1
      · rw [if_pos h2, ih]
        exact ⟨fun w c hc => (List.mem_cons.mp hc).elim (fun e => Or.inr (fun f => f (e ▸ h2))) (w c), fun w c hc => w c (List.mem_cons_of_mem _ hc)⟩
      · rw [if_neg h2]
        exact ⟨fun w => absurd w (by decide), fun w => absurd (w a List.mem_cons_self) (fun f => f.elim h1 (fun f => f h2))⟩
theorem canG_iff (hP : PM A σ Y) (hA : AOk A) {t : Nat} (ht : t < cn A 4) {x : Int32} : ∀ (k i : Nat), i + k ≤ cn A 2 → ((l_Glacier_canGo_44 (nI t) x σ k i = 1 ↔ ∀ c ∈ wayA Y (lowF Y t x) k i, s_Sim_isKnown Y c = 0 ∨ ¬ wkF Y t c) ∧ (l_Glacier_canGo_44 (nI t) x σ k i = 0 ∨ l_Glacier_canGo_44 (nI t) x σ k i = 1))
  | 0, i, _ => ⟨⟨fun _ c hc => (by cases hc), fun _ => rfl⟩, Or.inr rfl⟩
  | k + 1, i, hi => by
    obtain ⟨ih, i01⟩ := canG_iff hP hA ht (x := x) k (i + 1) (by omega)
    have hk := hP.known hA (r := i) (by omega)
    unfold l_Glacier_canGo_44
    rw [weak_eq hP hA (by omega) ht]
    unfold wayA
    by_cases h1 : sm_v Y 2 i 0 = lowF Y t x
    · rw [if_pos h1, if_pos h1]
      by_cases h2 : 8 * sm_v Y 4 t 0 ≤ sm_v Y 2 i 1
      · rw [if_pos h2, if_pos rfl]
        exact ⟨ih.trans ⟨fun w c hc => (List.mem_cons.mp hc).elim (fun e => Or.inr (fun f => f (e ▸ h2))) (w c), fun w c hc => w c (List.mem_cons_of_mem _ hc)⟩, i01⟩
      · rw [if_neg h2, if_neg (by decide)]
        by_cases h3 : gG σ 2 (nI i) 2 ≤ 0
        · rw [if_pos h3]
          exact ⟨ih.trans ⟨fun w c hc => (List.mem_cons.mp hc).elim (fun e => Or.inl (e ▸ hk.mpr h3)) (w c), fun w c hc => w c (List.mem_cons_of_mem _ hc)⟩, i01⟩
        · rw [if_neg h3]
          exact ⟨⟨fun w => absurd w (by decide), fun w => absurd (w i List.mem_cons_self) (fun f => f.elim (fun f => h3 (hk.mp f)) (fun f => f h2))⟩, Or.inl rfl⟩
    · rw [if_neg h1, if_neg h1, if_pos rfl]
      exact ⟨ih, i01⟩
end Pm
