/-! a team that is gone, over a day -/
section Gd
variable {A : AD} {Y : SM} {t : Nat}
theorem gt145 {b : Nat} {ml sn : Int32} : ∀ (k i : Nat) (Y : SM), GT t (l_Sim_weather_145 A b ml sn k i Y) Y
  | 0, _, _ => GT.rf
  | k + 1, i, Y => by
    unfold l_Sim_weather_145
    (repeat' split) <;> first | exact gt145 _ _ _ | exact (gt145 _ _ _).tr (gt4 (by decide)) | exact (gt145 _ _ _).tr ((gt4 (by decide)).tr (gt4 (by decide)))
theorem gt230 {b : Nat} {ml sn : Int32} : ∀ (k i : Nat) (Y : SM), GT t (l_Sim_weather_230 A b ml sn k i Y) Y
  | 0, _, _ => GT.rf
  | k + 1, i, Y => by
    unfold l_Sim_weather_230
    (repeat' split) <;> first | exact gt230 _ _ _ | exact (gt230 _ _ _).tr (gt4 (by decide))
theorem gt131 {b : Nat} {ml sn : Int32} : GT t (g_Sim_weather_131 A Y b ml sn) Y := (gt230 _ _ _).tr (gt145 _ _ _)
theorem gt113 {j : Nat} {ml sn lf : Int32} : GT t (g_Sim_weather_113 A Y j ml sn lf) Y := by
  unfold g_Sim_weather_113
  by_cases h : 0 ≤ lf
  · rw [if_pos h]
    exact gt131
  · rw [if_neg h]
    exact gt131.tr (gt4 (by decide))
theorem gt79 {j : Nat} {ml sn : Int32} : GT t (g_Sim_weather_79 A Y j ml sn) Y := by
  unfold g_Sim_weather_79
  by_cases h : 0 ≤ sm_v Y 0 j 1 + sn - ml
  · rw [if_pos h]
    exact gt113.tr (gt4 (by decide))
  · rw [if_neg h]
    exact gt113.tr (gt4 (by decide))
theorem gt46 {j : Nat} {ml sn : Int32} : GT t (g_Sim_weather_46 A Y j ml sn) Y := by
  unfold g_Sim_weather_46
  by_cases h : sn ≤ 300 - sm_v Y 0 j 1
  · rw [if_pos h]
    exact gt79
  · rw [if_neg h]
    exact gt79
theorem gt33 {j : Nat} {its ml : Int32} : GT t (g_Sim_weather_33 A Y j its ml) Y := by
  unfold g_Sim_weather_33
  by_cases h : 0 ≤ its
  · rw [if_pos h]
    exact gt46
  · rw [if_neg h]
    exact gt46
theorem gtW {j : Nat} : GT t (s_Sim_weather A Y j) Y := by
  unfold s_Sim_weather
  by_cases h : sm_wa Y (sm_dy Y % 8) - sm_v Y 0 j 0 ≤ 0
  · rw [if_pos h]
    exact gt33
  · rw [if_neg h]
    exact gt33
theorem gt72 : ∀ (k i : Nat) (Y : SM), GT t (l_Sim_pass_72 A k i Y) Y
  | 0, _, _ => GT.rf
  | k + 1, i, Y => (gt72 k (i + 1) _).tr gtW
theorem gt57 {m j : Nat} : ∀ (k : Nat) (lk : Int32) (Y : SM), GT t (l_Sim_eats_57 A m j k lk Y).2 Y
  | 0, _, _ => GT.rf
  | k + 1, lk, Y => by
    unfold l_Sim_eats_57
    (repeat' split) <;> first | exact GT.rf | exact (gt57 _ _ _).tr (gt4 (by decide))
theorem gt43 {m : Nat} : ∀ (k i : Nat) (lk : Int32) (Y : SM), GT t (l_Sim_eats_43 A m k i lk Y).2 Y
  | 0, _, _, _ => GT.rf
  | k + 1, i, lk, Y => (gt43 k (i + 1) _ _).tr (gt57 _ _ _)
theorem gtE {m : Nat} (hm : m ≠ t) : GT t (s_Sim_eats A Y m) Y := by
  have s : ∀ {c : Nat} {x : Int32} {Z : SM}, GT t (sm_set Z 4 m c x) Z := GT.set (Or.inl (fun w => hm w.2))
  unfold s_Sim_eats
  (repeat' split) <;> first | exact s.tr ((gt43 _ _ _ _).tr s) | exact (s.tr s).tr ((gt43 _ _ _ _).tr s)
theorem gt108 : ∀ (k i : Nat) (Y : SM), GT t (l_Sim_pass_108 A k i Y) Y
  | 0, _, _ => GT.rf
  | k + 1, i, Y => by
    unfold l_Sim_pass_108
    by_cases h : sm_v Y 4 i 4 = 1
    · rw [if_pos h]
      by_cases hm : i = t
      · subst hm
        intro h4
        rw [h4] at h
        exact absurd h (by decide)
      · exact (gt108 _ _ _).tr (gtE hm)
    · rw [if_neg h]
      exact gt108 _ _ _
theorem gtRd {m i : Nat} {x : Int32} (hm : m ≠ t) : GT t (sm_rd' (rdY Y m i) x) Y := by
  have h : GT t (rdY Y m i) Y := by
    unfold rdY
    exact (GT.set (Or.inl (fun w => hm w.2))).tr ((gt4 (by decide)).tr (gt4 (by decide)))
  exact fun q c a b d e => (rd_v (Y := rdY Y m i) (x := x)).trans (h q c a b d e)
theorem gt184 {m : Nat} : ∀ (k i : Nat) (Y : SM), GT t (l_Sim_pass_184 A m k i Y) Y
  | 0, _, _ => GT.rf
  | k + 1, i, Y => by
    rw [read_step]
    by_cases h : sm_v Y 4 m 4 = 0
    · rw [if_pos h]
      exact gt184 _ _ _
    · rw [if_neg h]
      by_cases h1 : sm_v Y 1 i 0 = sm_v Y 4 m 2
      · rw [if_pos h1]
        by_cases h2 : sm_v Y 1 i 3 = 0
        · rw [if_pos h2]
          exact gt184 _ _ _
        · rw [if_neg h2]
          by_cases hm : m = t
          · subst hm
            exact fun h4 => absurd h4 h
          · exact (gt184 _ _ _).tr (gtRd hm)
      · rw [if_neg h1]
        exact gt184 _ _ _
theorem gt156 : ∀ (k i : Nat) (Y : SM), GT t (l_Sim_pass_156 A k i Y) Y
  | 0, _, _ => GT.rf
  | k + 1, i, Y => (gt156 k (i + 1) _).tr (gt184 _ _ _)
theorem gt286 : ∀ (k i : Nat) (Y : SM), GT t (l_Sim_pass_286 A k i Y) Y
  | 0, _, _ => GT.rf
  | k + 1, i, Y => (gt286 k (i + 1) _).tr (GT.set (Or.inr rfl))
/-- a team that is gone stays so over a day, with what it has -/
theorem gtDay : GT t (dayF A Y) Y := ((gt286 _ _ _).tr ((gt156 _ _ _).tr ((gt108 _ _ _).tr (gt72 _ _ _)))).tr (gtOrd _ _ _)
/-- after a day nobody has done anything -/
theorem done_day : ∀ (k i : Nat) (Y : SM), (i ≤ t ∧ t < i + k → sm_v (l_Sim_pass_286 A k i Y) 4 t 7 = 0) ∧ (t < i → sm_v (l_Sim_pass_286 A k i Y) 4 t 7 = sm_v Y 4 t 7)
  | 0, _, _ => ⟨fun h => by omega, fun _ => rfl⟩
  | k + 1, i, Y => by
    obtain ⟨q1, q2⟩ := done_day k (i + 1) (sm_set Y 4 i 7 0)
    refine ⟨fun h => ?_, fun h => (q2 (by omega)).trans (sm_v_ne (fun w => absurd w.2.1 (by omega)))⟩
    by_cases e : t = i
    · refine (q2 (by omega)).trans ?_
      rw [e]
      exact sm_v_at
    · exact q1 (by omega)
end Gd
