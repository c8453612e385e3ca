/-! days of both -/
section Dy
variable {A : AD} {σ : GL} {Y : SM} {N : Nat} {T : TM} {F : FM}
theorem passDay_eq (hP : PM A σ Y) (hA : AOk A) (h : RI A Y N) (ho : OR A Y T F) (hd : sm_dy Y + 1 < 1000000) : PM A (s_Glacier_passDay T σ F).1 (dayF A Y) ∧ RI A (dayF A Y) (N + 80) ∧ OR A (dayF A Y) T (s_Glacier_passDay T σ F).2 ∧ sm_dy (dayF A Y) = sm_dy Y + 1 := by
  have h85 := hA.2.2 5 (by decide)
  obtain ⟨a1, a2, a3⟩ := ord_loop hA (cn A 5) 0 σ Y F N hP h ho (by omega)
  have ed : sm_dy (ordF A (cn A 5) 0 Y) = sm_dy Y := sm_dy_ord ..
  unfold s_Glacier_passDay
  rw [ho.1]
  generalize hp : l_Glacier_passDay_2 T (cn A 5) 0 σ F = p at a1 a3 ⊢
  have b := both72 hA (T := T) (F := p.2) (cn A 0) 0 p.1 _ _ a1 a2 (by omega)
  have c := both108 hA (T := T) (F := p.2) (cn A 4) 0 _ _ b.1 b.2 (by omega)
  dsimp only
  rw [a1.1 0 (by decide), b.1.1 4 (by decide), c.1.1 4 (by decide)]
  obtain ⟨r1, r2⟩ := rest_eq a1 hA a2 (by rw [ed]; exact hd) (T := T) (F := p.2) (F2 := p.2) (F3 := p.2)
  unfold dayF
  refine ⟨r1, r2.up (by omega), a3.keep (FK.refl _) ?_, ?_⟩
  · show v5 (restF A (ordF A (cn A 5) 0 Y)) = v5 (ordF A (cn A 5) 0 Y)
    unfold restF
    rw [v5_l_Sim_pass_286, v5_l_Sim_pass_156, v5_l_Sim_pass_108, v5_l_Sim_pass_72]
  · show sm_dy (restF A (ordF A (cn A 5) 0 Y)) + 1 = _
    rw [sm_dy_rest, ed]
theorem days_eq (hA : AOk A) {Ta : TA} {K : TK} {τ : GL} {U : TM} {G : FM} {P : CP} {b : Int32} : ∀ (k i : Nat) (σ : GL) (Y : SM) (F : FM) (N : Nat), PM A σ Y → RI A Y N → OR A Y T F → sm_dy Y + k < 1000000 → PM A (l_Camp_pass_21 Ta K τ T U G P b k i σ F).1 (passF A k Y) ∧ RI A (passF A k Y) (N + 80 * k) ∧ OR A (passF A k Y) T (l_Camp_pass_21 Ta K τ T U G P b k i σ F).2
  | 0, _, _, _, _, _, hP, h, ho, _ => ⟨hP, h, ho⟩
  | k + 1, i, σ, Y, F, N, hP, h, ho, hd => by
    obtain ⟨q1, q2, q3, q4⟩ := passDay_eq hP hA h ho (by omega)
    obtain ⟨r1, r2, r3⟩ := days_eq hA (Ta := Ta) (K := K) (τ := τ) (U := U) (G := G) (P := P) (b := b) k (i + 1) _ _ _ _ q1 q2 q3 (by rw [q4]; omega)
    exact ⟨r1, r2.up (by omega), r3⟩
end Dy
/-- a sum of numbers -/
def sumN (f : Nat → Int32) : Nat → Int32
  | 0 => 0
  | n + 1 => sumN f n + f n
theorem sumN_ext {f g : Nat → Int32} : ∀ n, (∀ i, i < n → f i = g i) → sumN f n = sumN g n
  | 0, _ => rfl
  | n + 1, h => by
    show sumN f n + f n = sumN g n + g n
    rw [sumN_ext n (fun i hi => h i (by omega)), h n (by omega)]
theorem sumN_inc {f g : Nat → Int32} {i : Nat} (hg : ∀ j, g j = if j = i then f j + 1 else f j) : ∀ n, i < n → sumN g n = sumN f n + 1
  | 0, h => by omega
  | n + 1, h => by
    show sumN g n + g n = sumN f n + f n + 1
    by_cases e : i = n
    · rw [sumN_ext (f := g) (g := f) n (fun j hj => by rw [hg j, if_neg (by omega)]), hg n, if_pos e.symm, Int32.add_assoc]
    · rw [sumN_inc hg n (by omega), hg n, if_neg (fun w => e w.symm), Int32.add_assoc, Int32.add_comm 1 (f n), ← Int32.add_assoc]
theorem tsum_N {T : TM} {c : Nat} {f : Nat → Int32} : ∀ (k i : Nat), (∀ r, r < i + k → T.1 (8 * r + c) = f r) → tsumF T c k i (sumN f i) = sumN f (i + k)
  | 0, _, _ => rfl
  | k + 1, i, h => by
    unfold tsumF
    rw [h i (by omega)]
    have := tsum_N (T := T) (c := c) (f := f) k (i + 1) (fun r hr => h r (by omega))
    rw [show i + (k + 1) = i + 1 + k by omega]
    exact this
theorem PM.sum {A : AD} {σ : GL} {Y : SM} (hP : PM A σ Y) {k c : Nat} (hk : k < 5) (hc : c < wdt k) (hn : ¬ (k = 2 ∧ c = 2)) : gSum σ k c = sumN (fun r => sm_v Y k r c) (cn A k) := by
  unfold gSum
  rw [hP.1 k hk]
  have := tsum_N (T := σ.1 k) (c := c) (f := fun r => sm_v Y k r c) (cn A k) 0 (fun r hr => hP.2.1 k r c hk (by omega) hc hn)
  rw [Nat.zero_add] at this
  exact this
/-- the counts are sums -/
def CT (A : AD) (Y : SM) : Prop := sm_rd Y = sumN (fun t => sm_v Y 4 t 5) (cn A 4) ∧ sm_rd Y = sumN (fun r => sm_v Y 1 r 5) (cn A 1) ∧ sm_fl Y = sumN (fun t => sm_v Y 4 t 6) (cn A 4)
/-- nothing that is counted changes -/
def SC (Y' Y : SM) : Prop := (∀ t, sm_v Y' 4 t 5 = sm_v Y 4 t 5 ∧ sm_v Y' 4 t 6 = sm_v Y 4 t 6) ∧ (∀ r, sm_v Y' 1 r 5 = sm_v Y 1 r 5) ∧ sm_rd Y' = sm_rd Y ∧ sm_fl Y' = sm_fl Y
section Ct
variable {A : AD} {Y : SM}
theorem SC.rf : SC Y Y := ⟨fun _ => ⟨rfl, rfl⟩, fun _ => rfl, rfl, rfl⟩
theorem SC.tr {Y1 Y2 Y3 : SM} (a : SC Y1 Y2) (b : SC Y2 Y3) : SC Y1 Y3 := ⟨fun t => ⟨(a.1 t).1.trans (b.1 t).1, (a.1 t).2.trans (b.1 t).2⟩, fun r => (a.2.1 r).trans (b.2.1 r), a.2.2.1.trans b.2.2.1, a.2.2.2.trans b.2.2.2⟩
theorem SC.set {k r j : Nat} {x : Int32} (h : ¬ (k = 4 ∧ (j = 5 ∨ j = 6)) ∧ ¬ (k = 1 ∧ j = 5)) : SC (sm_set Y k r j x) Y := ⟨fun t => ⟨sm_v_ne (fun w => h.1 ⟨w.1.symm, Or.inl w.2.2.symm⟩), sm_v_ne (fun w => h.1 ⟨w.1.symm, Or.inr w.2.2.symm⟩)⟩, fun _ => sm_v_ne (fun w => h.2 ⟨w.1.symm, w.2.2.symm⟩), rfl, rfl⟩
theorem CT.of {Y' : SM} (h : CT A Y) (s : SC Y' Y) : CT A Y' := by
  obtain ⟨h1, h2, h3⟩ := h
  refine ⟨?_, ?_, ?_⟩
  · rw [s.2.2.1, h1]
    exact sumN_ext _ (fun i _ => (s.1 i).1.symm)
  · rw [s.2.2.1, h2]
    exact sumN_ext _ (fun i _ => (s.2.1 i).symm)
  · rw [s.2.2.2, h3]
    exact sumN_ext _ (fun i _ => (s.1 i).2.symm)
theorem sc145 {b : Nat} {ml sn : Int32} : ∀ (k i : Nat) (Y : SM), SC (l_Sim_weather_145 A b ml sn k i Y) Y
  | 0, _, _ => SC.rf
  | k + 1, i, Y => by
    unfold l_Sim_weather_145
    (repeat' split) <;> first | exact sc145 _ _ _ | exact (sc145 _ _ _).tr (SC.set (by decide)) | exact (sc145 _ _ _).tr ((SC.set (by decide)).tr (SC.set (by decide)))
theorem sc230 {b : Nat} {ml sn : Int32} : ∀ (k i : Nat) (Y : SM), SC (l_Sim_weather_230 A b ml sn k i Y) Y
  | 0, _, _ => SC.rf
  | k + 1, i, Y => by
    unfold l_Sim_weather_230
    (repeat' split) <;> first | exact sc230 _ _ _ | exact (sc230 _ _ _).tr (SC.set (by decide))
theorem sc131 {b : Nat} {ml sn : Int32} : SC (g_Sim_weather_131 A Y b ml sn) Y := (sc230 _ _ _).tr (sc145 _ _ _)
theorem sc113 {b : Nat} {ml sn lf : Int32} : SC (g_Sim_weather_113 A Y b ml sn lf) Y := by
  unfold g_Sim_weather_113
  (repeat' split) <;> first | exact sc131 | exact sc131.tr (SC.set (by decide))
theorem sc79 {b : Nat} {ml sn : Int32} : SC (g_Sim_weather_79 A Y b ml sn) Y := by
  unfold g_Sim_weather_79
  (repeat' split) <;> exact sc113.tr (SC.set (by decide))
theorem sc46 {b : Nat} {ml sn : Int32} : SC (g_Sim_weather_46 A Y b ml sn) Y := by
  unfold g_Sim_weather_46
  (repeat' split) <;> exact sc79
theorem sc33 {b : Nat} {its ml : Int32} : SC (g_Sim_weather_33 A Y b its ml) Y := by
  unfold g_Sim_weather_33
  (repeat' split) <;> exact sc46
theorem scW {b : Nat} : SC (s_Sim_weather A Y b) Y := by
  unfold s_Sim_weather
  (repeat' split) <;> exact sc33
theorem sc57 {t j : Nat} : ∀ (k : Nat) (lk : Int32) (Y : SM), SC (l_Sim_eats_57 A t j k lk Y).2 Y
  | 0, _, _ => SC.rf
  | k + 1, lk, Y => by
    unfold l_Sim_eats_57
    (repeat' split) <;> first | exact SC.rf | exact (sc57 _ _ _).tr (SC.set (by decide))
theorem sc43 {t : Nat} : ∀ (k i : Nat) (lk : Int32) (Y : SM), SC (l_Sim_eats_43 A t k i lk Y).2 Y
  | 0, _, _, _ => SC.rf
  | k + 1, i, lk, Y => (sc43 k (i + 1) _ _).tr (sc57 _ _ _)
theorem scE {t : Nat} : SC (s_Sim_eats A Y t) Y := by
  unfold s_Sim_eats
  (repeat' split) <;> first | exact (SC.set (by decide)).tr ((sc43 _ _ _ _).tr (SC.set (by decide))) | exact ((SC.set (by decide)).tr (SC.set (by decide))).tr ((sc43 _ _ _ _).tr (SC.set (by decide)))
theorem sc72 : ∀ (k i : Nat) (Y : SM), SC (l_Sim_pass_72 A k i Y) Y
  | 0, _, _ => SC.rf
  | k + 1, i, Y => (sc72 k (i + 1) _).tr scW
theorem sc108 : ∀ (k i : Nat) (Y : SM), SC (l_Sim_pass_108 A k i Y) Y
  | 0, _, _ => SC.rf
  | k + 1, i, Y => by
    unfold l_Sim_pass_108
    (repeat' split) <;> first | exact (sc108 _ _ _).tr scE | exact sc108 _ _ _
theorem sc286 : ∀ (k i : Nat) (Y : SM), SC (l_Sim_pass_286 A k i Y) Y
  | 0, _, _ => SC.rf
  | k + 1, i, Y => (sc286 k (i + 1) _).tr (SC.set (by decide))
theorem CT.read (h : CT A Y) {m i : Nat} (hm : m < cn A 4) (hi : i < cn A 1) : CT A (sm_rd' (rdY Y m i) (sm_rd Y + 1)) := by
  obtain ⟨h1, h2, h3⟩ := h
  have v5 : ∀ t, sm_v (rdY Y m i) 4 t 5 = if t = m then sm_v Y 4 t 5 + 1 else sm_v Y 4 t 5 := fun t => by
    unfold rdY
    rw [sm_v_set]
    by_cases e : t = m
    · rw [if_pos ⟨rfl, e, rfl⟩, if_pos e, e]
    · rw [if_neg (fun w => e w.2.1), if_neg e, sm_v_ne (fun w => absurd w.1 (by decide)), sm_v_ne (fun w => absurd w.1 (by decide))]
  have v1 : ∀ r, sm_v (rdY Y m i) 1 r 5 = if r = i then sm_v Y 1 r 5 + 1 else sm_v Y 1 r 5 := fun r => by
    unfold rdY
    rw [sm_v_ne (fun w => absurd w.1 (by decide)), sm_v_set]
    by_cases e : r = i
    · rw [if_pos ⟨rfl, e, rfl⟩, if_pos e, e]
    · rw [if_neg (fun w => e w.2.1), if_neg e, sm_v_ne (fun w => e w.2.1)]
  refine ⟨?_, ?_, ?_⟩
  · show sm_rd Y + 1 = sumN (fun t => sm_v (rdY Y m i) 4 t 5) (cn A 4)
    rw [sumN_inc (f := fun t => sm_v Y 4 t 5) (i := m) v5 _ hm, h1]
  · show sm_rd Y + 1 = sumN (fun r => sm_v (rdY Y m i) 1 r 5) (cn A 1)
    rw [sumN_inc (f := fun r => sm_v Y 1 r 5) (i := i) v1 _ hi, ← h2]
  · show sm_fl Y = sumN (fun t => sm_v (rdY Y m i) 4 t 6) (cn A 4)
    rw [h3]
    exact sumN_ext _ (fun t _ => (rdY_v (fun w => absurd w.1 (by decide)) (fun w => absurd w.2.2 (by decide))).symm)
theorem CT.r184 {m : Nat} (hm : m < cn A 4) : ∀ (k i : Nat) (Y : SM), CT A Y → i + k ≤ cn A 1 → CT A (l_Sim_pass_184 A m k i Y)
  | 0, _, _, h, _ => h
  | k + 1, i, Y, h, hi => by
    rw [read_step]
    (repeat' split) <;> first | exact CT.r184 hm k (i + 1) _ h (by omega) | exact CT.r184 hm k (i + 1) _ (h.read hm (by omega)) (by omega)
theorem CT.r156 : ∀ (k i : Nat) (Y : SM), CT A Y → i + k ≤ cn A 4 → CT A (l_Sim_pass_156 A k i Y)
  | 0, _, _, h, _ => h
  | k + 1, i, Y, h, hi => by
    unfold l_Sim_pass_156
    exact CT.r156 k (i + 1) _ (CT.r184 (by omega) _ _ _ h (by omega)) (by omega)
theorem CT.rest (h : CT A Y) : CT A (restF A Y) := (CT.r156 _ _ _ (h.of ((sc108 _ _ _).tr (sc72 _ _ _))) (by omega)).of (sc286 _ _ _)
end Ct
