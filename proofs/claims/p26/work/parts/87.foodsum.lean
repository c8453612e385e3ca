/-! food of stores and sacks, as one number -/
def sumM (f : Nat → Nat) : Nat → Nat
  | 0 => 0
  | n + 1 => sumM f n + f n
theorem sumM_ext {f g : Nat → Nat} : ∀ n, (∀ i, i < n → f i = g i) → sumM f n = sumM g n
  | 0, _ => rfl
  | n + 1, h => by
    show sumM f n + f n = sumM g n + g n
    rw [sumM_ext n (fun i hi => h i (by omega)), h n (by omega)]
theorem sumM_up {f g : Nat → Nat} {i : Nat} (hg : ∀ j, j ≠ i → g j = f j) : ∀ n, i < n → sumM g n + f i = sumM f n + g i
  | 0, h => by omega
  | n + 1, h => by
    show sumM g n + g n + f i = sumM f n + f n + g i
    by_cases e : i = n
    · rw [sumM_ext (f := g) (g := f) n (fun j hj => hg j (by omega)), e]
      omega
    · have := sumM_up hg n (by omega)
      rw [hg n (fun w => e w.symm)]
      omega
abbrev vN (Y : SM) (k r c : Nat) : Nat := (sm_v Y k r c).toNatClampNeg
/-- all food -/
def fdN (A : AD) (Y : SM) : Nat := sumM (fun r => vN Y 3 r 1) (cn A 3) + sumM (fun t => vN Y 4 t 1) (cn A 4)
section Fd
variable {A : AD} {Y : SM}
theorem fd_ext {Y' : SM} (h3 : ∀ r, sm_v Y' 3 r 1 = sm_v Y 3 r 1) (h4 : ∀ t, sm_v Y' 4 t 1 = sm_v Y 4 t 1) : fdN A Y' = fdN A Y := by
  unfold fdN vN
  rw [sumM_ext _ (fun i _ => by rw [h3 i]), sumM_ext (f := fun t => (sm_v Y' 4 t 1).toNatClampNeg) _ (fun i _ => by rw [h4 i])]
theorem fd_set {k r j : Nat} {x : Int32} (h : ¬ (k = 3 ∧ j = 1) ∧ ¬ (k = 4 ∧ j = 1)) : fdN A (sm_set Y k r j x) = fdN A Y := fd_ext (fun _ => sm_v_ne (fun w => h.1 ⟨w.1.symm, w.2.2.symm⟩)) (fun _ => sm_v_ne (fun w => h.2 ⟨w.1.symm, w.2.2.symm⟩))
theorem fd_store {r f f' : Nat} (hr : r < cn A 3) (hf : sm_v Y 3 r 1 = nI f) (h1 : f < 2 ^ 31) (h2 : f' < 2 ^ 31) : fdN A (sm_set Y 3 r 1 (nI f')) + f = fdN A Y + f' := by
  have := sumM_up (f := fun q => vN Y 3 q 1) (g := fun q => vN (sm_set Y 3 r 1 (nI f')) 3 q 1) (i := r) (fun j hj => by show (sm_v _ _ _ _).toNatClampNeg = _; rw [sm_v_ne (fun w => hj w.2.1)]) (cn A 3) hr
  have e1 : vN Y 3 r 1 = f := by
    show (sm_v Y 3 r 1).toNatClampNeg = f
    rw [hf]
    exact nI_clamp h1
  have e2 : vN (sm_set Y 3 r 1 (nI f')) 3 r 1 = f' := by
    show (sm_v _ _ _ _).toNatClampNeg = f'
    rw [sm_v_at]
    exact nI_clamp h2
  have e3 : sumM (fun t => vN (sm_set Y 3 r 1 (nI f')) 4 t 1) (cn A 4) = sumM (fun t => vN Y 4 t 1) (cn A 4) := sumM_ext _ (fun i _ => by show (sm_v _ _ _ _).toNatClampNeg = _; rw [sm_v_ne (fun w => absurd w.1 (by decide))])
  rw [e1, e2] at this
  unfold fdN
  rw [e3]
  omega
theorem fd_sack {t s s' : Nat} (ht : t < cn A 4) (hs : sm_v Y 4 t 1 = nI s) (h1 : s < 2 ^ 31) (h2 : s' < 2 ^ 31) : fdN A (sm_set Y 4 t 1 (nI s')) + s = fdN A Y + s' := by
  have := sumM_up (f := fun q => vN Y 4 q 1) (g := fun q => vN (sm_set Y 4 t 1 (nI s')) 4 q 1) (i := t) (fun j hj => by show (sm_v _ _ _ _).toNatClampNeg = _; rw [sm_v_ne (fun w => hj w.2.1)]) (cn A 4) ht
  have e1 : vN Y 4 t 1 = s := by
    show (sm_v Y 4 t 1).toNatClampNeg = s
    rw [hs]
    exact nI_clamp h1
  have e2 : vN (sm_set Y 4 t 1 (nI s')) 4 t 1 = s' := by
    show (sm_v _ _ _ _).toNatClampNeg = s'
    rw [sm_v_at]
    exact nI_clamp h2
  have e3 : sumM (fun r => vN (sm_set Y 4 t 1 (nI s')) 3 r 1) (cn A 3) = sumM (fun r => vN Y 3 r 1) (cn A 3) := sumM_ext _ (fun i _ => by show (sm_v _ _ _ _).toNatClampNeg = _; rw [sm_v_ne (fun w => absurd w.1 (by decide))])
  rw [e1, e2] at this
  unfold fdN
  rw [e3]
  omega
end Fd
