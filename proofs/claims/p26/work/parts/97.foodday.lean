/-! food, readings and orders carried out, over a day -/
/-- sizes and who is here stay -/
def HZ (Y' Y : SM) : Prop := ∀ t, sm_v Y' 4 t 0 = sm_v Y 4 t 0 ∧ sm_v Y' 4 t 4 = sm_v Y 4 t 4
/-- and readings -/
def HQ (Y' Y : SM) : Prop := HZ Y' Y ∧ sm_rd Y' = sm_rd Y
/-- nor is food taken, nor does one fall -/
def FW (Y' Y : SM) : Prop := (∀ r, sm_v Y' 3 r 1 = sm_v Y 3 r 1) ∧ (∀ t, sm_v Y' 4 t 1 = sm_v Y 4 t 1) ∧ HZ Y' Y ∧ sm_fl Y' = sm_fl Y ∧ sm_ca Y' = sm_ca Y
section Fo
variable {A : AD} {σ : GL} {Y : SM} {N : Nat} {T : TM} {F : FM}
theorem HZ.rf : HZ Y Y := fun _ => ⟨rfl, rfl⟩
theorem HZ.tr {Y1 Y2 Y3 : SM} (a : HZ Y1 Y2) (b : HZ Y2 Y3) : HZ Y1 Y3 := fun t => ⟨(a t).1.trans (b t).1, (a t).2.trans (b t).2⟩
theorem HZ.set {k r j : Nat} {x : Int32} (h : ¬ (k = 4 ∧ (j = 0 ∨ j = 4))) : HZ (sm_set Y k r j x) Y := fun _ => ⟨sm_v_ne (fun w => h ⟨w.1.symm, Or.inl w.2.2.symm⟩), sm_v_ne (fun w => h ⟨w.1.symm, Or.inr w.2.2.symm⟩)⟩
theorem HQ.rf : HQ Y Y := ⟨HZ.rf, rfl⟩
theorem HQ.tr {Y1 Y2 Y3 : SM} (a : HQ Y1 Y2) (b : HQ Y2 Y3) : HQ Y1 Y3 := ⟨a.1.tr b.1, a.2.trans b.2⟩
theorem HQ.set {k r j : Nat} {x : Int32} (h : ¬ (k = 4 ∧ (j = 0 ∨ j = 4))) : HQ (sm_set Y k r j x) Y := ⟨HZ.set h, rfl⟩
theorem FW.rf : FW Y Y := ⟨fun _ => rfl, fun _ => rfl, HZ.rf, rfl, rfl⟩
theorem FW.tr {Y1 Y2 Y3 : SM} (a : FW Y1 Y2) (b : FW Y2 Y3) : FW Y1 Y3 := ⟨fun r => (a.1 r).trans (b.1 r), fun t => (a.2.1 t).trans (b.2.1 t), a.2.2.1.tr b.2.2.1, a.2.2.2.1.trans b.2.2.2.1, a.2.2.2.2.trans b.2.2.2.2⟩
theorem FW.set {k r j : Nat} {x : Int32} (h : ¬ (k = 3 ∧ j = 1) ∧ ¬ (k = 4 ∧ (j = 0 ∨ j = 1 ∨ j = 4))) : FW (sm_set Y k r j x) Y := ⟨fun _ => sm_v_ne (fun w => h.1 ⟨w.1.symm, w.2.2.symm⟩), fun _ => sm_v_ne (fun w => h.2 ⟨w.1.symm, Or.inr (Or.inl w.2.2.symm)⟩), HZ.set (fun w => h.2 ⟨w.1, w.2.elim Or.inl (fun e => Or.inr (Or.inr e))⟩), rfl, rfl⟩
theorem FW.fd {Y' : SM} (h : FW Y' Y) : fdN A Y' = fdN A Y := fd_ext h.1 h.2.1
theorem hrFa {t c : Nat} : HQ (fallY Y t c) Y := ⟨fun t' => by
  show sm_v (fall2 (fall1 Y c) t) 4 t' 0 = _ ∧ sm_v (fall2 (fall1 Y c) t) 4 t' 4 = _
  unfold fall2 fall1
  rw [sm_v_ne (fun w => absurd w.2.2 (by decide)), sm_v_ne (fun w => absurd w.2.2 (by decide)), sm_v_ne (fun w => absurd w.1 (by decide)), sm_v_ne (fun w => absurd w.1 (by decide)), sm_v_ne (fun w => absurd w.2.2 (by decide)), sm_v_ne (fun w => absurd w.2.2 (by decide)), sm_v_ne (fun w => absurd w.1 (by decide)), sm_v_ne (fun w => absurd w.1 (by decide))]
  exact ⟨rfl, rfl⟩, rfl⟩
theorem hrX : ∀ (l : List Nat) (Y : SM), HQ (crossF Y l) Y
  | [], _ => HQ.rf
  | _ :: l, _ => (hrX l _).tr (HQ.set (by decide))
theorem hrG {t : Nat} {x : Int32} : HQ (s_Sim_goes A Y t x).2 Y := by
  unfold s_Sim_goes
  by_cases h0 : s_Sim_can A Y t x = 0
  · rw [if_pos h0]
    exact HQ.rf
  rw [if_neg h0]
  cases wayO A Y t x with
  | none => exact HQ.rf
  | some l =>
    show HQ (goesL (sm_set Y 4 t 7 1) t x l) Y
    unfold goesL
    cases fallF (sm_set Y 4 t 7 1) t l with
    | some f => exact hrFa.tr (HQ.set (by decide))
    | none => exact ((HQ.set (by decide)).tr (hrX l _)).tr (HQ.set (by decide))
theorem hrP {t c : Nat} : HQ (s_Sim_probes Y t c).2 Y := by
  unfold s_Sim_probes
  (repeat' split) <;> first | exact HQ.rf | exact (HQ.set (by decide)).tr ((HQ.set (by decide)).tr (HQ.set (by decide)))
theorem hrF29 {t : Nat} {w : Int32} : ∀ (k i : Nat), HQ (l_Sim_fills_29 A Y t w k i).2 Y
  | 0, _ => HQ.rf
  | k + 1, i => by
    rw [fills_step]
    (repeat' split) <;> first | exact hrF29 _ _ | exact (HQ.set (by decide)).tr (HQ.set (by decide))
theorem hrF {t : Nat} {w : Int32} : HQ (s_Sim_fills A Y t w).2 Y := by
  unfold s_Sim_fills
  (repeat' split) <;> first | exact HQ.rf | exact hrF29 _ _
theorem hrD {s : Nat} : HQ (s_Sim_drills A Y s).2 Y := by
  unfold s_Sim_drills
  by_cases c : sm_v Y 1 s 3 = 1
  · rw [if_pos c]
    exact HQ.rf
  · rw [if_neg c]
    rcases drill_loop (A := A) (Y := Y) (k0 := s) (cn A 4) 0 with ⟨-, q⟩ | ⟨-, q⟩ <;> rw [q]
    · exact HQ.rf
    · exact (HQ.set (by decide)).tr (HQ.set (by decide))
theorem hrC {r : Nat} : HQ (s_Sim_carries A Y r).2 Y := by
  unfold s_Sim_carries
  by_cases h0 : s_Sim_holds A Y r = 0
  · rw [if_pos h0]
    exact HQ.rf
  rw [if_neg h0]
  by_cases e0 : sm_v Y 5 r 0 = 0
  · rw [if_pos e0]
    exact hrG
  rw [if_neg e0]
  by_cases e1 : sm_v Y 5 r 0 = 1
  · rw [if_pos e1]
    exact hrG
  rw [if_neg e1]
  by_cases e2 : sm_v Y 5 r 0 = 2
  · rw [if_pos e2]
    exact hrP
  rw [if_neg e2]
  by_cases e3 : sm_v Y 5 r 0 = 3
  · rw [if_pos e3]
    exact hrF
  rw [if_neg e3]
  exact hrD
theorem hrOrd : ∀ (k i : Nat) (Y : SM), HQ (ordF A k i Y) Y
  | 0, _, _ => HQ.rf
  | k + 1, i, Y => (hrOrd k (i + 1) _).tr ⟨fun t => (hrC (A := A) (Y := Y) (r := i)).1 t, (hrC (A := A) (Y := Y) (r := i)).2⟩
theorem fw145 {b : Nat} {ml sn : Int32} : ∀ (k i : Nat) (Y : SM), FW (l_Sim_weather_145 A b ml sn k i Y) Y
  | 0, _, _ => FW.rf
  | k + 1, i, Y => by
    unfold l_Sim_weather_145
    (repeat' split) <;> first | exact fw145 _ _ _ | exact (fw145 _ _ _).tr (FW.set (by decide)) | exact (fw145 _ _ _).tr ((FW.set (by decide)).tr (FW.set (by decide)))
theorem fw230 {b : Nat} {ml sn : Int32} : ∀ (k i : Nat) (Y : SM), FW (l_Sim_weather_230 A b ml sn k i Y) Y
  | 0, _, _ => FW.rf
  | k + 1, i, Y => by
    unfold l_Sim_weather_230
    (repeat' split) <;> first | exact fw230 _ _ _ | exact (fw230 _ _ _).tr (FW.set (by decide))
theorem fw131 {b : Nat} {ml sn : Int32} : FW (g_Sim_weather_131 A Y b ml sn) Y := (fw230 _ _ _).tr (fw145 _ _ _)
theorem fw113 {b : Nat} {ml sn lf : Int32} : FW (g_Sim_weather_113 A Y b ml sn lf) Y := by
  unfold g_Sim_weather_113
  (repeat' split) <;> first | exact fw131 | exact fw131.tr (FW.set (by decide))
theorem fw79 {b : Nat} {ml sn : Int32} : FW (g_Sim_weather_79 A Y b ml sn) Y := by
  unfold g_Sim_weather_79
  (repeat' split) <;> exact fw113.tr (FW.set (by decide))
theorem fw46 {b : Nat} {ml sn : Int32} : FW (g_Sim_weather_46 A Y b ml sn) Y := by
  unfold g_Sim_weather_46
  (repeat' split) <;> exact fw79
theorem fw33 {b : Nat} {its ml : Int32} : FW (g_Sim_weather_33 A Y b its ml) Y := by
  unfold g_Sim_weather_33
  (repeat' split) <;> exact fw46
theorem fwW {b : Nat} : FW (s_Sim_weather A Y b) Y := by
  unfold s_Sim_weather
  (repeat' split) <;> exact fw33
theorem fw72 : ∀ (k i : Nat) (Y : SM), FW (l_Sim_pass_72 A k i Y) Y
  | 0, _, _ => FW.rf
  | k + 1, i, Y => (fw72 k (i + 1) _).tr fwW
theorem fw286 : ∀ (k i : Nat) (Y : SM), FW (l_Sim_pass_286 A k i Y) Y
  | 0, _, _ => FW.rf
  | k + 1, i, Y => (fw286 k (i + 1) _).tr (FW.set (by decide))
theorem fwR {m i : Nat} {x : Int32} : FW (sm_rd' (rdY Y m i) x) Y := by
  have h : FW (rdY Y m i) Y := by
    unfold rdY
    exact (FW.set (by decide)).tr ((FW.set (by decide)).tr (FW.set (by decide)))
  exact FW.tr (Y2 := rdY Y m i) ⟨fun _ => rfl, fun _ => rfl, fun _ => ⟨rfl, rfl⟩, rfl, rfl⟩ h
theorem fw184 {m : Nat} : ∀ (k i : Nat) (Y : SM), FW (l_Sim_pass_184 A m k i Y) Y
  | 0, _, _ => FW.rf
  | k + 1, i, Y => by
    rw [read_step]
    (repeat' split) <;> first | exact fw184 k (i + 1) Y | exact (fw184 k (i + 1) _).tr fwR
theorem fw156 : ∀ (k i : Nat) (Y : SM), FW (l_Sim_pass_156 A k i Y) Y
  | 0, _, _ => FW.rf
  | k + 1, i, Y => (fw156 k (i + 1) _).tr (fw184 _ _ _)
theorem hs57 {t j : Nat} : ∀ (k : Nat) (lk : Int32) (Y : SM), HZ (l_Sim_eats_57 A t j k lk Y).2 Y ∧ sm_ca (l_Sim_eats_57 A t j k lk Y).2 = sm_ca Y
  | 0, _, _ => ⟨HZ.rf, rfl⟩
  | k + 1, lk, Y => by
    unfold l_Sim_eats_57
    (repeat' split) <;> first | exact ⟨HZ.rf, rfl⟩ | exact ⟨(hs57 _ _ _).1.tr (HZ.set (by decide)), (hs57 _ _ _).2⟩
theorem hs43 {t : Nat} : ∀ (k i : Nat) (lk : Int32) (Y : SM), HZ (l_Sim_eats_43 A t k i lk Y).2 Y ∧ sm_ca (l_Sim_eats_43 A t k i lk Y).2 = sm_ca Y
  | 0, _, _, _ => ⟨HZ.rf, rfl⟩
  | k + 1, i, lk, Y => ⟨(hs43 k (i + 1) _ _).1.tr (hs57 _ _ _).1, (hs43 k (i + 1) _ _).2.trans (hs57 _ _ _).2⟩
theorem fl_cross : ∀ (l : List Nat) (Y : SM), sm_fl (crossF Y l) = sm_fl Y ∧ fdN A (crossF Y l) = fdN A Y
  | [], _ => ⟨rfl, rfl⟩
  | _ :: l, _ => ⟨(fl_cross l _).1, (fl_cross l _).2.trans (fd_set (by decide))⟩
theorem goes_food (h : RI A Y N) {t : Nat} (ht : t < cn A 4) {x : Int32} : (sm_fl (s_Sim_goes A Y t x).2 = sm_fl Y ∧ fdN A (s_Sim_goes A Y t x).2 = fdN A Y) ∨ (sm_fl (s_Sim_goes A Y t x).2 = sm_fl Y + 1 ∧ fdN A (s_Sim_goes A Y t x).2 ≤ fdN A Y) := by
  unfold s_Sim_goes
  by_cases h0 : s_Sim_can A Y t x = 0
  · rw [if_pos h0]
    exact Or.inl ⟨rfl, rfl⟩
  rw [if_neg h0]
  cases wayO A Y t x with
  | none => exact Or.inl ⟨rfl, rfl⟩
  | some l =>
    show (sm_fl (goesL (sm_set Y 4 t 7 1) t x l) = _ ∧ fdN A (goesL (sm_set Y 4 t 7 1) t x l) = _) ∨ (sm_fl (goesL (sm_set Y 4 t 7 1) t x l) = _ ∧ fdN A (goesL (sm_set Y 4 t 7 1) t x l) ≤ _)
    unfold goesL
    cases fallF (sm_set Y 4 t 7 1) t l with
    | some f => exact Or.inr ⟨rfl, Nat.le_trans (fd_fall (h.done ht (Or.inr rfl)) ht) (Nat.le_of_eq (fd_set (by decide)))⟩
    | none => exact Or.inl ⟨(fl_cross (A := A) l _).1, ((fd_set (by decide)).trans (fl_cross l _).2).trans (fd_set (by decide))⟩
theorem probes_food {t c : Nat} : sm_fl (s_Sim_probes Y t c).2 = sm_fl Y ∧ fdN A (s_Sim_probes Y t c).2 = fdN A Y := by
  unfold s_Sim_probes
  (repeat' split) <;> first | exact ⟨rfl, rfl⟩ | exact ⟨rfl, ((fd_set (by decide)).trans (fd_set (by decide))).trans (fd_set (by decide))⟩
theorem drills_food {s : Nat} : sm_fl (s_Sim_drills A Y s).2 = sm_fl Y ∧ fdN A (s_Sim_drills A Y s).2 = fdN A Y := by
  unfold s_Sim_drills
  by_cases c : sm_v Y 1 s 3 = 1
  · rw [if_pos c]
    exact ⟨rfl, rfl⟩
  · rw [if_neg c]
    rcases drill_loop (A := A) (Y := Y) (k0 := s) (cn A 4) 0 with ⟨-, q⟩ | ⟨-, q⟩ <;> rw [q]
    · exact ⟨rfl, rfl⟩
    · exact ⟨rfl, (fd_set (by decide)).trans (fd_set (by decide))⟩
theorem carries_food (hP : PM A σ Y) (hA : AOk A) (h : RI A Y N) {r : Nat} {a : RO} (ho : OAt A Y r a) : (sm_fl (s_Sim_carries A Y r).2 = sm_fl Y ∧ fdN A (s_Sim_carries A Y r).2 = fdN A Y) ∨ (sm_fl (s_Sim_carries A Y r).2 = sm_fl Y + 1 ∧ fdN A (s_Sim_carries A Y r).2 ≤ fdN A Y) := by
  obtain ⟨hob, q0, q1, q2, q3, q4, q5, -⟩ := ho.2
  unfold s_Sim_carries
  rw [ho.j (j := 0) (by decide), ho.c (j := 1) (by decide), ho.c (j := 2) (by decide)]
  by_cases h0 : s_Sim_holds A Y r = 0
  · rw [if_pos h0]
    exact Or.inl ⟨rfl, rfl⟩
  rw [if_neg h0]
  rcases (show oF a 0 = 0 ∨ oF a 0 = 1 ∨ oF a 0 = 2 ∨ oF a 0 = 3 ∨ oF a 0 = 4 by omega) with e | e | e | e | e <;> rw [e]
  · exact goes_food h (x := 1) (q3 (by omega) (by omega))
  · exact goes_food h (x := 0) (q3 (by omega) (by omega))
  · exact Or.inl probes_food
  · exact Or.inl ⟨scF.2.2.2, fd_fills h hP hA (q3 (by omega) (by omega))⟩
  · exact Or.inl drills_food
theorem ord_food (hA : AOk A) : ∀ (k i : Nat) (σ : GL) (Y : SM) (F : FM) (N : Nat), PM A σ Y → RI A Y N → OR A Y T F → i + k ≤ cn A 5 → ∃ d, d ≤ k ∧ sm_fl (ordF A k i Y) = sm_fl Y + nI d ∧ fdN A (ordF A k i Y) ≤ fdN A Y ∧ (d = 0 → fdN A (ordF A k i Y) = fdN A Y)
  | 0, _, _, Y, _, _, _, _, _, _ => ⟨0, Nat.le_refl _, (Int32.add_zero _).symm, Nat.le_refl _, fun _ => rfl⟩
  | k + 1, i, σ, Y, F, N, hP, h, ho, hi => by
    obtain ⟨a, a1, -⟩ := ho.2 i (by omega)
    obtain ⟨b1, b2, b3⟩ := ord_loop hA 1 i σ Y F N hP h ho (by omega)
    obtain ⟨d, d1, d2, d3, d4⟩ := ord_food hA k (i + 1) _ _ _ _ b1 b2 b3 (by omega)
    have e1 : sm_fl (ordF A 1 i Y) = sm_fl (s_Sim_carries A Y i).2 := rfl
    have e2 : fdN A (ordF A 1 i Y) = fdN A (s_Sim_carries A Y i).2 := rfl
    have e0 : ordF A (k + 1) i Y = ordF A k (i + 1) (ordF A 1 i Y) := rfl
    rw [e1] at d2
    rw [e2] at d3 d4
    rw [e0]
    rcases carries_food hP hA h a1 with ⟨c1, c2⟩ | ⟨c1, c2⟩
    · rw [c1] at d2
      rw [c2] at d3 d4
      exact ⟨d, by omega, d2, d3, d4⟩
    · rw [c1, Int32.add_assoc, show (1 : Int32) + nI d = nI (1 + d) from nI_ad 1 d] at d2
      exact ⟨1 + d, by omega, d2, Nat.le_trans d3 c2, fun w => by omega⟩
/-- what the teams that are here need, from team i on -/
def needF (Y : SM) : Nat → Nat → Nat
  | 0, _ => 0
  | k + 1, i => (if sm_v Y 4 i 4 = 1 then (vN Y 4 i 0 + 1) / 2 else 0) + needF Y k (i + 1)
theorem needF_ext {Y' : SM} : ∀ (k i : Nat), (∀ t, i ≤ t → sm_v Y' 4 t 0 = sm_v Y 4 t 0 ∧ sm_v Y' 4 t 4 = sm_v Y 4 t 4) → needF Y' k i = needF Y k i
  | 0, _, _ => rfl
  | k + 1, i, h => by
    unfold needF vN
    rw [(h i (Nat.le_refl _)).1, (h i (Nat.le_refl _)).2, needF_ext k (i + 1) (fun t ht => h t (by omega))]
theorem eat_food (h : RI A Y N) {t : Nat} (ht : t < cn A 4) : ∃ e, e ≤ (vN Y 4 t 0 + 1) / 2 ∧ fdN A (s_Sim_eats A Y t) + e = fdN A Y ∧ (∀ t', t' ≠ t → sm_v (s_Sim_eats A Y t) 4 t' 0 = sm_v Y 4 t' 0 ∧ sm_v (s_Sim_eats A Y t) 4 t' 4 = sm_v Y 4 t' 4) ∧ sm_ca (s_Sim_eats A Y t) = sm_ca Y := by
  obtain ⟨⟨z, hz, z2, z6⟩, ⟨s, hs, hs4⟩, -⟩ := h.2 4 t (by decide) ht
  have ez : vN Y 4 t 0 = z := by
    unfold vN
    rw [hz]
    exact nI_clamp (by omega)
  obtain ⟨g1, -⟩ := half7 ⟨z, by omega⟩
  dsimp only at g1
  rw [ez]
  obtain ⟨L, eL⟩ : ∃ L, L = (z + 1) / 2 := ⟨_, rfl⟩
  rw [← eL] at g1 ⊢
  have g2 : iMin (nI L) (nI s) = nI (min L s) := iMin_n (by omega) (by omega)
  have hY1 : RI A (sm_set Y 4 t 1 (nI (s - min L s))) N := h.sack ht rfl (by omega)
  obtain ⟨l', w0, w1, w2⟩ := fd_eat43 (A := A) (t := t) (cn A 3) 0 (L - min L s) (sm_set Y 4 t 1 (nI (s - min L s))) hY1.fok (by omega) (by omega)
  obtain ⟨w3, w4⟩ := hs43 (A := A) (t := t) (cn A 3) 0 (nI (L - min L s)) (sm_set Y 4 t 1 (nI (s - min L s)))
  have w5 := fd_sack (A := A) (Y := Y) (s' := s - min L s) ht hs (by omega) (by omega)
  unfold s_Sim_eats
  rw [hz, hs, g1, g2, nI_sub (show min L s ≤ s by omega), nI_sub (show min L s ≤ L by omega)]
  generalize l_Sim_eats_43 A t (cn A 3) 0 (nI (L - min L s)) (sm_set Y 4 t 1 (nI (s - min L s))) = p at w1 w2 w3 w4 ⊢
  have base : fdN A p.2 + (L - l') = fdN A Y := by omega
  have hoth : ∀ t', t' ≠ t → sm_v p.2 4 t' 0 = sm_v Y 4 t' 0 ∧ sm_v p.2 4 t' 4 = sm_v Y 4 t' 4 := fun t' ht' => ⟨(w3 t').1.trans (sm_v_ne (fun w => ht' w.2.1)), (w3 t').2.trans (sm_v_ne (fun w => ht' w.2.1))⟩
  have s1 : ∀ {Z : SM} {x : Int32}, fdN A Z + (L - l') = fdN A Y → fdN A (sm_set Z 4 t 3 x) + (L - l') = fdN A Y := fun {Z x} q => by rw [fd_set (by decide)]; exact q
  have s2 : ∀ {Z : SM} {x : Int32}, fdN A Z + (L - l') = fdN A Y → fdN A (sm_set Z 4 t 4 x) + (L - l') = fdN A Y := fun {Z x} q => by rw [fd_set (by decide)]; exact q
  have s3 : ∀ {Z : SM} {j : Nat} {x : Int32}, (∀ t', t' ≠ t → sm_v Z 4 t' 0 = sm_v Y 4 t' 0 ∧ sm_v Z 4 t' 4 = sm_v Y 4 t' 4) → ∀ t', t' ≠ t → sm_v (sm_set Z 4 t j x) 4 t' 0 = sm_v Y 4 t' 0 ∧ sm_v (sm_set Z 4 t j x) 4 t' 4 = sm_v Y 4 t' 4 := fun q t' ht' => ⟨(sm_v_ne (fun w => ht' w.2.1)).trans (q t' ht').1, (sm_v_ne (fun w => ht' w.2.1)).trans (q t' ht').2⟩
  by_cases c1 : p.1 = 0
  · rw [if_pos c1]
    split
    · exact ⟨L - l', by omega, s1 base, s3 hoth, w4⟩
    · exact ⟨L - l', by omega, s2 (s1 base), s3 (s3 hoth), w4⟩
  · rw [if_neg c1]
    split
    · exact ⟨L - l', by omega, s1 base, s3 hoth, w4⟩
    · exact ⟨L - l', by omega, s2 (s1 base), s3 (s3 hoth), w4⟩
theorem eats_food (hA : AOk A) : ∀ (k i : Nat) (σ : GL) (Y : SM), PM A σ Y → RI A Y N → i + k ≤ cn A 4 → ∃ e, e ≤ needF Y k i ∧ fdN A (l_Sim_pass_108 A k i Y) + e = fdN A Y ∧ sm_ca (l_Sim_pass_108 A k i Y) = sm_ca Y
  | 0, _, _, _, _, _, _ => ⟨0, Nat.le_refl _, rfl, rfl⟩
  | k + 1, i, σ, Y, hP, h, hi => by
    unfold l_Sim_pass_108 needF
    by_cases c : sm_v Y 4 i 4 = 1
    · rw [if_pos c, if_pos c]
      obtain ⟨a1, a2⟩ := h.eat hP hA (show i < cn A 4 by omega) c
      obtain ⟨e1, b1, b2, b3, b4⟩ := eat_food h (show i < cn A 4 by omega)
      obtain ⟨e2, c1, c2, c3⟩ := eats_food hA k (i + 1) _ _ a1 a2 (by omega)
      rw [needF_ext k (i + 1) (fun t ht => b3 t (by omega))] at c1
      exact ⟨e1 + e2, by omega, by omega, c3.trans b4⟩
    · rw [if_neg c, if_neg c, Nat.zero_add]
      exact eats_food hA k (i + 1) σ Y hP h (by omega)
/-- food over a day -/
theorem day_food (hP : PM A σ Y) (hA : AOk A) (h : RI A Y N) (ho : OR A Y T F) : ∃ d, d ≤ 8 ∧ sm_fl (dayF A Y) = sm_fl Y + nI d ∧ fdN A (dayF A Y) ≤ fdN A Y ∧ (d = 0 → fdN A Y ≤ fdN A (dayF A Y) + needF Y (cn A 4) 0) := by
  have h85 := hA.2.2 5 (by decide)
  obtain ⟨a1, a2, a3⟩ := ord_loop hA (cn A 5) 0 σ Y F N hP h ho (by omega)
  obtain ⟨d, d1, d2, d3, d4⟩ := ord_food hA (cn A 5) 0 σ Y F N hP h ho (by omega)
  have b := both72 hA (T := T) (F := F) (cn A 0) 0 _ _ _ a1 a2 (by omega)
  have w := fw72 (A := A) (cn A 0) 0 (ordF A (cn A 5) 0 Y)
  obtain ⟨e, e1, e2, -⟩ := eats_food hA (cn A 4) 0 _ _ b.1 b.2 (by omega)
  have s108 := (sc108 (A := A) (cn A 4) 0 (l_Sim_pass_72 A (cn A 0) 0 (ordF A (cn A 5) 0 Y))).2.2.2
  have w2 := (fw286 (A := A) (cn A 4) 0 (l_Sim_pass_156 A (cn A 4) 0 (l_Sim_pass_108 A (cn A 4) 0 (l_Sim_pass_72 A (cn A 0) 0 (ordF A (cn A 5) 0 Y))))).tr (fw156 (cn A 4) 0 _)
  have n1 : needF (l_Sim_pass_72 A (cn A 0) 0 (ordF A (cn A 5) 0 Y)) (cn A 4) 0 = needF Y (cn A 4) 0 := needF_ext _ _ (fun t _ => (w.2.2.1.tr (hrOrd (A := A) (cn A 5) 0 Y).1) t)
  rw [n1] at e1
  rw [w.fd] at e2
  have f1 : fdN A (dayF A Y) = fdN A (l_Sim_pass_108 A (cn A 4) 0 (l_Sim_pass_72 A (cn A 0) 0 (ordF A (cn A 5) 0 Y))) := w2.fd
  have f2 : sm_fl (dayF A Y) = sm_fl Y + nI d := (w2.2.2.2.1.trans (s108.trans w.2.2.2.1)).trans d2
  refine ⟨d, by omega, f2, by omega, fun q => ?_⟩
  have := d4 q
  omega
theorem rd184 {m : Nat} : ∀ (k i : Nat) (Y : SM), ∃ d, d ≤ k ∧ sm_rd (l_Sim_pass_184 A m k i Y) = sm_rd Y + nI d
  | 0, _, _ => ⟨0, Nat.le_refl _, (Int32.add_zero _).symm⟩
  | k + 1, i, Y => by
    rw [read_step]
    obtain ⟨d, d1, d2⟩ := rd184 (m := m) k (i + 1) Y
    obtain ⟨f, f1, f2⟩ := rd184 (m := m) k (i + 1) (sm_rd' (rdY Y m i) (sm_rd Y + 1))
    have f2 : sm_rd (l_Sim_pass_184 A m k (i + 1) (sm_rd' (rdY Y m i) (sm_rd Y + 1))) = sm_rd Y + 1 + nI f := f2
    rw [Int32.add_assoc, show (1 : Int32) + nI f = nI (1 + f) from nI_ad 1 f] at f2
    (repeat' split) <;> first | exact ⟨d, by omega, d2⟩ | exact ⟨1 + f, by omega, f2⟩
theorem rd156 (hA : AOk A) : ∀ (k i : Nat) (Y : SM), ∃ d, d ≤ 8 * k ∧ sm_rd (l_Sim_pass_156 A k i Y) = sm_rd Y + nI d
  | 0, _, _ => ⟨0, Nat.le_refl _, (Int32.add_zero _).symm⟩
  | k + 1, i, Y => by
    have h8 := hA.2.2 1 (by decide)
    unfold l_Sim_pass_156
    obtain ⟨d, d1, d2⟩ := rd184 (A := A) (m := i) (cn A 1) 0 Y
    obtain ⟨f, f1, f2⟩ := rd156 hA k (i + 1) (l_Sim_pass_184 A i (cn A 1) 0 Y)
    exact ⟨d + f, by omega, by rw [f2, d2, Int32.add_assoc, nI_ad]⟩
theorem day_rd (hA : AOk A) : ∃ d, d ≤ 64 ∧ sm_rd (dayF A Y) = sm_rd Y + nI d := by
  have h8 := hA.2.2 4 (by decide)
  obtain ⟨d, d1, d2⟩ := rd156 hA (cn A 4) 0 (l_Sim_pass_108 A (cn A 4) 0 (l_Sim_pass_72 A (cn A 0) 0 (ordF A (cn A 5) 0 Y)))
  refine ⟨d, by omega, ?_⟩
  have e1 := (sc286 (A := A) (cn A 4) 0 (l_Sim_pass_156 A (cn A 4) 0 (l_Sim_pass_108 A (cn A 4) 0 (l_Sim_pass_72 A (cn A 0) 0 (ordF A (cn A 5) 0 Y))))).2.2.1
  have e2 := ((sc108 (A := A) (cn A 4) 0 _).tr (sc72 (A := A) (cn A 0) 0 (ordF A (cn A 5) 0 Y))).2.2.1
  have e3 := (hrOrd (A := A) (cn A 5) 0 Y).2
  exact (e1.trans d2).trans (by rw [e2, e3])
theorem ca_ord : ∀ (k i : Nat) (Y : SM), ∃ d, d ≤ k ∧ sm_ca (ordF A k i Y) = sm_ca Y + nI d
  | 0, _, _ => ⟨0, Nat.le_refl _, (Int32.add_zero _).symm⟩
  | k + 1, i, Y => by
    unfold ordF
    obtain ⟨d, d1, d2⟩ := ca_ord k (i + 1) (sm_ca' (s_Sim_carries A Y i).2 (sm_ca Y + (if (s_Sim_carries A Y i).1 = 0 then 0 else 1)))
    have d2 : sm_ca (ordF A k (i + 1) (sm_ca' (s_Sim_carries A Y i).2 (sm_ca Y + (if (s_Sim_carries A Y i).1 = 0 then 0 else 1)))) = sm_ca Y + (if (s_Sim_carries A Y i).1 = 0 then 0 else 1) + nI d := d2
    rw [Int32.add_assoc] at d2
    by_cases c : (s_Sim_carries A Y i).1 = 0
    · rw [if_pos c, Int32.zero_add] at d2
      rw [if_pos c]
      exact ⟨d, by omega, d2⟩
    · rw [if_neg c, show (1 : Int32) + nI d = nI (1 + d) from nI_ad 1 d] at d2
      rw [if_neg c]
      exact ⟨1 + d, by omega, d2⟩
theorem day_ca (hP : PM A σ Y) (hA : AOk A) (h : RI A Y N) (ho : OR A Y T F) : ∃ d, d ≤ cn A 5 ∧ sm_ca (dayF A Y) = sm_ca Y + nI d := by
  obtain ⟨a1, a2, a3⟩ := ord_loop hA (cn A 5) 0 σ Y F N hP h ho (by omega)
  have b := both72 hA (T := T) (F := F) (cn A 0) 0 _ _ _ a1 a2 (by omega)
  obtain ⟨e, -, -, e3⟩ := eats_food hA (cn A 4) 0 _ _ b.1 b.2 (by omega)
  obtain ⟨d, d1, d2⟩ := ca_ord (A := A) (cn A 5) 0 Y
  have w := fw72 (A := A) (cn A 0) 0 (ordF A (cn A 5) 0 Y)
  have w2 := (fw286 (A := A) (cn A 4) 0 (l_Sim_pass_156 A (cn A 4) 0 (l_Sim_pass_108 A (cn A 4) 0 (l_Sim_pass_72 A (cn A 0) 0 (ordF A (cn A 5) 0 Y))))).tr (fw156 (cn A 4) 0 _)
  exact ⟨d, d1, (w2.2.2.2.2.trans (e3.trans w.2.2.2.2)).trans d2⟩
end Fo
