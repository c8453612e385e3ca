/-! the camp and the law's own glacier: going -/
section Pg
variable {A : AD} {σ : GL} {Y : SM}
theorem gH_at {σ : GL} {k n : Nat} (hn : gN σ k = n) (hb : n ≤ 1000) {j : Nat} (hj : j < 2 ^ 31) : gH σ k (nI j) = if j < n then 1 else 0 := by
  unfold gH
  rw [hn]
  by_cases h : j < n
  · rw [if_pos h, if_pos ⟨nI_pos' hj, (nI_ltI hj (by omega)).mpr h⟩]
  · rw [if_neg h, if_neg (fun w => h ((nI_ltI hj (by omega)).mp w.2))]
theorem gH_m1 {σ : GL} {k : Nat} : gH σ k (-1) = 0 := if_neg (fun w => absurd w.1 (by decide))
theorem canDo_eq (hP : PM A σ Y) (hA : AOk A) {t : Nat} (ht : t < cn A 4) : s_Glacier_canDo σ (nI t) = if sm_v Y 4 t 4 = 1 then (if sm_v Y 4 t 7 = 0 then 1 else 0) else 0 := by
  unfold s_Glacier_canDo
  rw [hP.get hA (k := 4) (c := 4) (by decide) ht (by decide) (by decide), hP.get hA (k := 4) (c := 7) (by decide) ht (by decide) (by decide)]
theorem eq_01 {a c : Int32} (ha : a = 0 ∨ a = 1) (hc : c = 0 ∨ c = 1) (h : a = 1 ↔ c = 1) : a = c := by
  rcases ha with e | e <;> rcases hc with f | f
  · rw [e, f]
  · have := h.mpr f
    rw [e] at this
    exact absurd this (by decide)
  · have := h.mp e
    rw [f] at this
    exact absurd this (by decide)
  · rw [e, f]
/-- the list of the way, either way -/
theorem wayF_mem {low up : Int32} {k c : Nat} : c ∈ wayF Y low up k 0 [] ↔ c ∈ wayA Y low k 0 := by
  by_cases hu : up = 0
  · rw [hu, wayF_dn, List.append_nil, List.mem_reverse]
  · rw [wayF_up hu, List.nil_append]
theorem wayO_some {t : Nat} {up : Int32} {p : Nat} (hA : AOk A) (hp : sm_v Y 4 t 2 = nI p) (hpn : p < cn A 0) : wayO A Y t up = if up = 0 then (if p = 0 then none else some (wayF Y (lowF Y t up) up (cn A 2) 0 [])) else (if p + 1 < cn A 0 then some (wayF Y (lowF Y t up) up (cn A 2) 0 []) else none) := by
  have h8 := hA.2.2 0 (by decide)
  unfold wayO wayR lowF
  by_cases hu : up = 0
  · rw [if_pos hu, if_pos hu, hp]
    by_cases h0 : p = 0
    · rw [if_pos h0, if_pos (by rw [h0]; decide)]
    · rw [if_neg h0, show nI p - 1 = nI (p - 1) from nI_sub (a := p) (b := 1) (by omega), if_neg (nI_pos (by omega)), show nI (cn A 0) - 2 = nI (cn A 0 - 2) from nI_sub (a := cn A 0) (b := 2) (by omega), if_pos (nI_le (by omega) (by omega))]
  · rw [if_neg hu, if_neg hu, hp, if_neg (nI_pos (by omega))]
    by_cases h1 : p + 1 < cn A 0
    · rw [if_pos h1, show nI (cn A 0) - 2 = nI (cn A 0 - 2) from nI_sub (a := cn A 0) (b := 2) (by omega), if_pos (nI_le (by omega) (by omega))]
    · rw [if_neg h1, if_neg ?_]
      by_cases h2 : 2 ≤ cn A 0
      · rw [show nI (cn A 0) - 2 = nI (cn A 0 - 2) from nI_sub (a := cn A 0) (b := 2) h2]
        exact nI_ge (by omega) (by omega)
      · rw [show cn A 0 = 1 by omega]
        intro w
        rw [show p = 0 by omega] at w
        revert w
        decide
theorem canGo_eq (hP : PM A σ Y) (hA : AOk A) {t : Nat} (ht : t < cn A 4) {x : Int32} (hT : TOk A Y t) : s_Glacier_canGo σ (nI t) x = s_Sim_can A Y t x := by
  have h8 := hA.2.2 0 (by decide)
  obtain ⟨⟨p, hp, hpn⟩, h4, h7⟩ := hT
  have hn0 := hP.1 0 (by decide)
  have hn2 := hP.1 2 (by decide)
  have hdo := canDo_eq hP hA ht
  have hl : ∀ l, wayF Y (lowF Y t x) x (cn A 2) 0 [] = l → l_Glacier_canGo_44 (nI t) x σ (gN σ 2) 0 = canF Y t l := by
    intro l el
    obtain ⟨g1, g2⟩ := canG_iff hP hA ht (x := x) (cn A 2) 0 (by omega)
    rw [hn2]
    refine eq_01 g2 (canF_01 l) (g1.trans ((canF_iff l).trans ⟨fun w c hc => w c ?_, fun w c hc => w c ?_⟩).symm)
    · rw [← el]
      exact wayF_mem.mpr hc
    · rw [← el] at hc
      exact wayF_mem.mp hc
  have hend : ∀ l, wayF Y (lowF Y t x) x (cn A 2) 0 [] = l → (if s_Glacier_canDo σ (nI t) = 0 then (0 : Int32) else l_Glacier_canGo_44 (nI t) x σ (gN σ 2) 0) = if sm_v Y 4 t 4 = 0 then 0 else if sm_v Y 4 t 7 = 1 then 0 else canF Y t l := by
    intro l el
    rw [hl l el, hdo]
    rcases h4 with e4 | e4 <;> rw [e4]
    · rfl
    · rcases h7 with e7 | e7 <;> rw [e7]
      · rfl
      · rfl
  unfold s_Glacier_canGo s_Sim_can
  rw [wayO_some hA hp hpn, hP.get hA (k := 4) (c := 2) (by decide) ht (by decide) (by decide), hp]
  by_cases hu : x = 0
  · rw [if_pos hu, if_pos hu]
    by_cases h0 : p = 0
    · rw [if_pos h0, h0, show nI 0 + (-1) = -1 from by decide, gH_m1]
      show (if _ then (0 : Int32) else 0) = 0
      exact ite_self _
    · rw [if_neg h0, show nI p + (-1) = nI (p - 1) from (Int32.sub_eq_add_neg (nI p) 1).symm.trans (nI_sub (a := p) (b := 1) (by omega)), gH_at hn0 (by omega) (by omega), if_pos (show p - 1 < cn A 0 by omega), if_neg (show ¬ (1 : Int32) = 0 by decide)]
      exact hend _ rfl
  · rw [if_neg hu, if_neg hu, show nI p + 1 = nI (p + 1) from nI_ad p 1, gH_at hn0 (by omega) (by omega)]
    by_cases h1 : p + 1 < cn A 0
    · rw [if_pos h1, if_pos h1, if_neg (show ¬ (1 : Int32) = 0 by decide)]
      exact hend _ rfl
    · rw [if_neg h1, if_neg h1, if_pos rfl]
      show (if _ then (0 : Int32) else 0) = 0
      exact ite_self _
/-- the first bridge too weak, as a number -/
def fallN (o : Option Nat) : Int32 := match o with
  | none => -1
  | some c => nI c
theorem wk_lt {t i : Nat} : ¬ 8 * sm_v Y 4 t 0 ≤ sm_v Y 2 i 1 ↔ sm_v Y 2 i 1 < 8 * sm_v Y 4 t 0 := by
  rw [Int32.lt_iff_toInt_lt, Int32.le_iff_toInt_le]
  omega
theorem fall_up (hP : PM A σ Y) (hA : AOk A) {t : Nat} (ht : t < cn A 4) {x : Int32} (hx : ¬ x = 0) : ∀ (k i : Nat), i + k ≤ cn A 2 → l_Glacier_fallingPlace_13 (nI t) x σ k i = fallN (fallF Y t (wayA Y (lowF Y t x) k i))
  | 0, i, _ => rfl
  | k + 1, i, hi => by
    have ih := fall_up hP hA ht hx k (i + 1) (by omega)
    unfold l_Glacier_fallingPlace_13 wayA
    rw [if_neg hx, weak_eq hP hA (by omega) ht]
    by_cases h1 : sm_v Y 2 i 0 = lowF Y t x
    · rw [if_pos h1, if_pos h1]
      unfold fallF
      by_cases h2 : 8 * sm_v Y 4 t 0 ≤ sm_v Y 2 i 1
      · rw [if_pos h2, if_pos rfl, if_neg (fun w => wk_lt.mpr w h2), ih]
      · rw [if_neg h2, if_neg (by decide), if_pos (wk_lt.mp h2)]
        rfl
    · rw [if_neg h1, if_neg h1, if_pos rfl, ih]
theorem fall_dn (hP : PM A σ Y) (hA : AOk A) {t : Nat} (ht : t < cn A 4) : ∀ (k i : Nat), i + k = cn A 2 → l_Glacier_fallingPlace_13 (nI t) 0 σ k i = fallN (fallF Y t (wayA Y (lowF Y t 0) k 0).reverse)
  | 0, i, _ => rfl
  | k + 1, i, hi => by
    have h8 := hA.2.2 2 (by decide)
    have ih := fall_dn hP hA ht k (i + 1) (by omega)
    have hn2 := hP.1 2 (by decide)
    have en : nI (gN σ 2) - 1 - nI i = nI k := by
      rw [hn2, show nI (cn A 2) - 1 = nI (cn A 2 - 1) from nI_sub (a := cn A 2) (b := 1) (by omega), nI_sub (by omega), show cn A 2 - 1 - i = k by omega]
    unfold l_Glacier_fallingPlace_13
    rw [if_pos rfl, en, weak_eq hP hA (by omega) ht, wayA_snoc, Nat.zero_add]
    by_cases h1 : sm_v Y 2 k 0 = lowF Y t 0
    · rw [if_pos h1, if_pos h1, List.reverse_append]
      show _ = fallN (fallF Y t (k :: (wayA Y (lowF Y t 0) k 0).reverse))
      unfold fallF
      by_cases h2 : 8 * sm_v Y 4 t 0 ≤ sm_v Y 2 k 1
      · rw [if_pos h2, if_pos rfl, if_neg (fun w => wk_lt.mpr w h2), ih]
      · rw [if_neg h2, if_neg (by decide), if_pos (wk_lt.mp h2)]
        rfl
    · rw [if_neg h1, if_neg h1, if_pos rfl, List.append_nil, ih]
theorem fall_eq (hP : PM A σ Y) (hA : AOk A) {t : Nat} (ht : t < cn A 4) {x : Int32} : s_Glacier_fallingPlace σ (nI t) x = fallN (fallF Y t (wayF Y (lowF Y t x) x (cn A 2) 0 [])) := by
  unfold s_Glacier_fallingPlace
  rw [hP.1 2 (by decide)]
  by_cases hx : x = 0
  · subst hx
    rw [fall_dn hP hA ht _ _ (Nat.zero_add _), wayF_dn, List.append_nil]
  · rw [fall_up hP hA ht hx _ _ (by omega), wayF_up hx, List.nil_append]
theorem fallF_mem {t c : Nat} : ∀ l : List Nat, fallF Y t l = some c → c ∈ l
  | [], h => by cases h
  | a :: l, h => by
    unfold fallF at h
    by_cases h1 : sm_v Y 2 a 1 < 8 * sm_v Y 4 t 0
    · rw [if_pos h1] at h
      rw [Option.some.inj h]
      exact List.mem_cons_self
    · rw [if_neg h1] at h
      exact List.mem_cons_of_mem _ (fallF_mem l h)
theorem sm_set_comm {k r j k' r' j' : Nat} {x x' : Int32} (h : ¬ (k' = k ∧ r' = r ∧ j' = j)) : sm_set (sm_set Y k r j x) k' r' j' x' = sm_set (sm_set Y k' r' j' x') k r j x := by
  have e : sm_v (sm_set (sm_set Y k r j x) k' r' j' x') = sm_v (sm_set (sm_set Y k' r' j' x') k r j x) := by
    funext a b c
    rw [sm_v_set, sm_v_set, sm_v_set, sm_v_set]
    by_cases h1 : a = k' ∧ b = r' ∧ c = j'
    · rw [if_pos h1, if_neg (fun w => h ⟨h1.1.symm.trans w.1, h1.2.1.symm.trans w.2.1, h1.2.2.symm.trans w.2.2⟩), if_pos h1]
    · rw [if_neg h1, if_neg h1]
  exact Prod.ext rfl (Prod.ext rfl (Prod.ext rfl (Prod.ext rfl (Prod.ext rfl e))))
/-- a crossing is counted -/
def cro (Y : SM) (c : Nat) : SM := sm_set Y 2 c 4 (sm_v Y 2 c 4 + 1)
theorem cro_comm {a c : Nat} (h : a ≠ c) : cro (cro Y a) c = cro (cro Y c) a := by
  unfold cro
  rw [sm_v_ne (fun w => h w.2.1.symm), sm_v_ne (k := 2) (r := c) (fun w => h w.2.1), sm_set_comm (fun w => h w.2.1.symm)]
theorem cross_snoc : ∀ (l : List Nat) (Y : SM) (c : Nat), crossF Y (l ++ [c]) = cro (crossF Y l) c
  | [], _, _ => rfl
  | a :: l, Y, c => cross_snoc l _ c
theorem cross_out : ∀ (l : List Nat) (Y : SM) (c : Nat), c ∉ l → crossF (cro Y c) l = cro (crossF Y l) c
  | [], _, _, _ => rfl
  | a :: l, Y, c, h => by
    have hac : a ≠ c := fun e => h (e ▸ List.mem_cons_self)
    show crossF (cro (cro Y c) a) l = cro (crossF (cro Y a) l) c
    rw [cro_comm hac.symm, cross_out l _ c (fun w => h (List.mem_cons_of_mem _ w))]
theorem cross_rev : ∀ (l : List Nat) (Y : SM), l.Nodup → crossF Y l.reverse = crossF Y l
  | [], _, _ => rfl
  | a :: l, Y, h => by
    obtain ⟨h1, h2⟩ := List.nodup_cons.mp h
    rw [List.reverse_cons, cross_snoc, cross_rev l Y h2]
    show _ = crossF (cro Y a) l
    rw [cross_out l Y a h1]
theorem wayA_nodup {low : Int32} : ∀ (k i : Nat), (wayA Y low k i).Nodup
  | 0, _ => List.nodup_nil
  | k + 1, i => by
    unfold wayA
    by_cases h : sm_v Y 2 i 0 = low
    · rw [if_pos h]
      exact List.nodup_cons.mpr ⟨fun w => by have := ((wayA_mem k (i + 1)).mp w).1.1; omega, wayA_nodup k (i + 1)⟩
    · rw [if_neg h]
      exact wayA_nodup k (i + 1)
theorem wayA_cro {low : Int32} {c : Nat} : ∀ (k i : Nat), wayA (cro Y c) low k i = wayA Y low k i
  | 0, _ => rfl
  | k + 1, i => by
    unfold wayA
    rw [wayA_cro k (i + 1), show sm_v (cro Y c) 2 i 0 = sm_v Y 2 i 0 from sm_v_ne (fun w => absurd w.2.2 (by decide))]
theorem cross_up (hA : AOk A) {t : Nat} {x lo : Int32} : ∀ (k i : Nat) (σ : GL) (Y : SM), PM A σ Y → i + k ≤ cn A 2 → PM A (l_Glacier_letCross_23 (nI t) x lo k i σ) (crossF Y (wayA Y lo k i))
  | 0, _, _, _, hP, _ => hP
  | k + 1, i, σ, Y, hP, hi => by
    unfold l_Glacier_letCross_23 wayA
    rw [hP.get hA (k := 2) (c := 0) (by decide) (by omega) (by decide) (by decide)]
    by_cases h1 : sm_v Y 2 i 0 = lo
    · rw [if_pos h1, if_pos h1]
      have := cross_up hA (t := t) (x := x) (lo := lo) k (i + 1) _ _ (hP.add hA (k := 2) (r := i) (c := 4) (v := 1) (by decide) (by omega) (by decide) (by decide)) (by omega)
      rw [show wayA (sm_set Y 2 i 4 (sm_v Y 2 i 4 + 1)) lo k (i + 1) = wayA Y lo k (i + 1) from wayA_cro k (i + 1)] at this
      exact this
    · rw [if_neg h1, if_neg h1]
      exact cross_up hA k (i + 1) _ _ hP (by omega)
theorem cross_eq (hP : PM A σ Y) (hA : AOk A) {t : Nat} {x y lo : Int32} : PM A (l_Glacier_letCross_23 (nI t) x lo (gN σ 2) 0 σ) (crossF Y (wayF Y lo y (cn A 2) 0 [])) := by
  rw [hP.1 2 (by decide)]
  have h := cross_up hA (t := t) (x := x) (lo := lo) (cn A 2) 0 σ Y hP (by omega)
  by_cases hy : y = 0
  · subst hy
    rw [wayF_dn, List.append_nil, cross_rev _ _ (wayA_nodup _ _)]
    exact h
  · rw [wayF_up hy, List.nil_append]
    exact h
end Pg
