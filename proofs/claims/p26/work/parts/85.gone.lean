/-! a team that is gone stays so, with what it has -/
def GT (t : Nat) (Y' Y : SM) : Prop := sm_v Y 4 t 4 = 0 → ∀ c, c ≠ 0 → c ≠ 3 → c ≠ 6 → c ≠ 7 → sm_v Y' 4 t c = sm_v Y 4 t c
section Gt
variable {A : AD} {Y : SM} {t : Nat}
theorem GT.rf : GT t Y Y := fun _ _ _ _ _ _ => rfl
theorem GT.tr {Y1 Y2 Y3 : SM} (a : GT t Y1 Y2) (b : GT t Y2 Y3) : GT t Y1 Y3 := fun h c q0 q3 q6 q7 => (a ((b h 4 (by decide) (by decide) (by decide) (by decide)).trans h) c q0 q3 q6 q7).trans (b h c q0 q3 q6 q7)
theorem GT.set {k r j : Nat} {x : Int32} (h : ¬ (k = 4 ∧ r = t) ∨ j = 7) : GT t (sm_set Y k r j x) Y := fun _ c _ _ _ q7 => sm_v_ne (fun w => h.elim (fun q => q ⟨w.1.symm, w.2.1.symm⟩) (fun q => q7 (w.2.2.trans q)))
theorem gt4 {k r j : Nat} {x : Int32} (h : k ≠ 4) : GT t (sm_set Y k r j x) Y := GT.set (Or.inl (fun w => h w.1))
theorem gtX : ∀ (l : List Nat) (Y : SM), GT t (crossF Y l) Y
  | [], _ => GT.rf
  | _ :: l, _ => (gtX l _).tr (gt4 (by decide))
theorem gtFa {m c : Nat} (hm : m ≠ t) : GT t (fallY Y m c) Y := by
  have h : GT t (fall2 (fall1 Y c) m) Y := by
    unfold fall2 fall1
    exact (GT.set (Or.inl (fun w => hm w.2))).tr ((GT.set (Or.inl (fun w => hm w.2))).tr ((gt4 (by decide)).tr (gt4 (by decide))))
  exact fun q c' a b d e => h q c' a b d e
theorem gtG {m : Nat} {x : Int32} : GT t (s_Sim_goes A Y m x).2 Y := by
  unfold s_Sim_goes
  by_cases h0 : s_Sim_can A Y m x = 0
  · rw [if_pos h0]
    exact GT.rf
  rw [if_neg h0]
  cases ew : wayO A Y m x with
  | none => exact GT.rf
  | some l =>
    by_cases hm : m = t
    · subst hm
      intro h4
      refine absurd ?_ h0
      unfold s_Sim_can
      rw [ew]
      exact if_pos h4
    · show GT t (goesL (sm_set Y 4 m 7 1) m x l) Y
      refine GT.tr ?_ (GT.set (Or.inr rfl) (k := 4) (r := m) (j := 7) (x := 1))
      unfold goesL
      cases fallF (sm_set Y 4 m 7 1) m l with
      | some f => exact gtFa hm
      | none =>
        show GT t (crossY (crossF (sm_set Y 4 m 7 1) l) m x) _
        unfold crossY
        exact (GT.set (Or.inl (fun w => hm w.2))).tr (gtX l _)
theorem gtP {m c : Nat} : GT t (s_Sim_probes Y m c).2 Y := by
  unfold s_Sim_probes
  (repeat' split) <;> first | exact GT.rf | exact (gt4 (by decide)).tr ((gt4 (by decide)).tr (GT.set (Or.inr rfl)))
theorem gtF29 {m : Nat} {w : Int32} (hm : m ≠ t) : ∀ (k i : Nat), GT t (l_Sim_fills_29 A Y m w k i).2 Y
  | 0, _ => GT.rf
  | k + 1, i => by
    rw [fills_step]
    (repeat' split) <;> first | exact gtF29 hm _ _ | exact (GT.set (Or.inl (fun w => hm w.2))).tr (gt4 (by decide))
theorem gtF {m : Nat} {w : Int32} : GT t (s_Sim_fills A Y m w).2 Y := by
  unfold s_Sim_fills
  by_cases h : sm_v Y 4 m 4 = 0
  · rw [if_pos h]
    exact GT.rf
  · rw [if_neg h]
    by_cases hm : m = t
    · subst hm
      exact fun h4 => absurd h4 h
    · exact gtF29 hm _ _
theorem gtD {s : Nat} : GT t (s_Sim_drills A Y s).2 Y := by
  unfold s_Sim_drills
  by_cases c : sm_v Y 1 s 3 = 1
  · rw [if_pos c]
    exact GT.rf
  · rw [if_neg c]
    rcases drill_loop (A := A) (Y := Y) (k0 := s) (cn A 4) 0 with ⟨-, q⟩ | ⟨-, q⟩ <;> rw [q]
    · exact GT.rf
    · exact (gt4 (by decide)).tr (gt4 (by decide))
theorem gtC {r : Nat} : GT t (s_Sim_carries A Y r).2 Y := by
  unfold s_Sim_carries
  by_cases h0 : s_Sim_holds A Y r = 0
  · rw [if_pos h0]
    exact GT.rf
  rw [if_neg h0]
  by_cases e0 : sm_v Y 5 r 0 = 0
  · rw [if_pos e0]
    exact gtG
  rw [if_neg e0]
  by_cases e1 : sm_v Y 5 r 0 = 1
  · rw [if_pos e1]
    exact gtG
  rw [if_neg e1]
  by_cases e2 : sm_v Y 5 r 0 = 2
  · rw [if_pos e2]
    exact gtP
  rw [if_neg e2]
  by_cases e3 : sm_v Y 5 r 0 = 3
  · rw [if_pos e3]
    exact gtF
  rw [if_neg e3]
  exact gtD
theorem gtOrd : ∀ (k i : Nat) (Y : SM), GT t (ordF A k i Y) Y
  | 0, _, _ => GT.rf
  | k + 1, i, Y => (gtOrd k (i + 1) _).tr (fun h c a b d e => (gtC (A := A) (Y := Y) (r := i)) h c a b d e)
end Gt
