/-! the law's own glacier: days -/
theorem sm_dy_probes1 {Y : SM} {t c : Nat} : sm_dy (s_Sim_probes Y t c).2 = sm_dy Y := sm_dy_Sim_probes
theorem sm_dy_cross : ∀ (r : List Nat) (Y : SM), sm_dy (crossF Y r) = sm_dy Y
  | [], _ => rfl
  | _ :: r, Y => sm_dy_cross r _
theorem v5_cross : ∀ (r : List Nat) (Y : SM), v5 (crossF Y r) = v5 Y
  | [], _ => rfl
  | _ :: r, Y => (v5_cross r _).trans v5_set2
theorem sm_dy_goesL {Y : SM} {t : Nat} {up : Int32} {l : List Nat} : sm_dy (goesL Y t up l) = sm_dy Y := by
  unfold goesL
  cases fallF Y t l with
  | none => exact sm_dy_cross l Y
  | some c => rfl
theorem v5_goesL {Y : SM} {t : Nat} {up : Int32} {l : List Nat} : v5 (goesL Y t up l) = v5 Y := by
  unfold goesL
  cases fallF Y t l with
  | none => exact v5_set4.trans (v5_cross l Y)
  | some c =>
    show v5 (fall2 (fall1 Y c) t) = _
    unfold fall2 fall1
    rw [v5_set4, v5_set4, v5_set2, v5_set2]
theorem sm_dy_goes {A : AD} {Y : SM} {t : Nat} {up : Int32} : sm_dy (s_Sim_goes A Y t up).2 = sm_dy Y := by
  unfold s_Sim_goes
  by_cases h : s_Sim_can A Y t up = 0
  · rw [if_pos h]
  · rw [if_neg h]
    cases wayO A Y t up with
    | none => rfl
    | some l => exact sm_dy_goesL
theorem v5_goes {A : AD} {Y : SM} {t : Nat} {up : Int32} : v5 (s_Sim_goes A Y t up).2 = v5 Y := by
  unfold s_Sim_goes
  by_cases h : s_Sim_can A Y t up = 0
  · rw [if_pos h]
  · rw [if_neg h]
    cases wayO A Y t up with
    | none => rfl
    | some l => exact v5_goesL.trans v5_set4
theorem sm_dy_carries {A : AD} {Y : SM} {r : Nat} : sm_dy (s_Sim_carries A Y r).2 = sm_dy Y := by
  unfold s_Sim_carries
  by_cases c1 : s_Sim_holds A Y r = 0
  · rw [if_pos c1]
  rw [if_neg c1]
  by_cases e0 : sm_v Y 5 r 0 = 0
  · rw [if_pos e0]
    exact sm_dy_goes
  rw [if_neg e0]
  by_cases e1 : sm_v Y 5 r 0 = 1
  · rw [if_pos e1]
    exact sm_dy_goes
  rw [if_neg e1]
  by_cases e2 : sm_v Y 5 r 0 = 2
  · rw [if_pos e2]
    exact sm_dy_Sim_probes
  rw [if_neg e2]
  by_cases e3 : sm_v Y 5 r 0 = 3
  · rw [if_pos e3]
    exact sm_dy_Sim_fills
  rw [if_neg e3]
  exact sm_dy_Sim_drills
theorem v5_carries {A : AD} {Y : SM} {r : Nat} : v5 (s_Sim_carries A Y r).2 = v5 Y := by
  unfold s_Sim_carries
  by_cases c1 : s_Sim_holds A Y r = 0
  · rw [if_pos c1]
  rw [if_neg c1]
  by_cases e0 : sm_v Y 5 r 0 = 0
  · rw [if_pos e0]
    exact v5_goes
  rw [if_neg e0]
  by_cases e1 : sm_v Y 5 r 0 = 1
  · rw [if_pos e1]
    exact v5_goes
  rw [if_neg e1]
  by_cases e2 : sm_v Y 5 r 0 = 2
  · rw [if_pos e2]
    exact v5_Sim_probes
  rw [if_neg e2]
  by_cases e3 : sm_v Y 5 r 0 = 3
  · rw [if_pos e3]
    exact v5_Sim_fills
  rw [if_neg e3]
  exact v5_Sim_drills
/-- all orders, one after the other -/
def ordF (A : AD) : Nat → Nat → SM → SM
  | 0, _, Y => Y
  | k + 1, i, Y => ordF A k (i + 1) (sm_ca' (s_Sim_carries A Y i).2 (sm_ca Y + (if (s_Sim_carries A Y i).1 = 0 then 0 else 1)))
theorem sm_dy_ord {A : AD} : ∀ (k i : Nat) (Y : SM), sm_dy (ordF A k i Y) = sm_dy Y
  | 0, _, _ => rfl
  | k + 1, i, Y => (sm_dy_ord k (i + 1) _).trans sm_dy_carries
theorem v5_ord {A : AD} : ∀ (k i : Nat) (Y : SM), v5 (ordF A k i Y) = v5 Y
  | 0, _, _ => rfl
  | k + 1, i, Y => (v5_ord k (i + 1) _).trans v5_carries
def OrdsOk (A : AD) (Y : SM) : Prop := ∀ r, r < cn A 5 → OrdOk A (sm_v Y 5 r)
theorem OrdsOk.to {A : AD} {Y Y' : SM} (h : OrdsOk A Y) (e : v5 Y' = v5 Y) : OrdsOk A Y' := fun r hr => by
  show OrdOk A (v5 Y' r)
  rw [e]
  exact h r hr
theorem d_Sim_pass_72 : decode M_Sim_pass.2.1 72 = .ok (.iload 4, 2) := by decide +kernel
theorem d_Sim_pass_74 : decode M_Sim_pass.2.1 74 = .ok (.aload_n 0, 1) := by decide +kernel
theorem d_Sim_pass_75 : decode M_Sim_pass.2.1 75 = .ok (.getfield 14, 3) := by decide +kernel
theorem d_Sim_pass_78 : decode M_Sim_pass.2.1 78 = .ok (.arraylength, 1) := by decide +kernel
theorem d_Sim_pass_79 : decode M_Sim_pass.2.1 79 = .ok (.if_icmp .ge 15, 3) := by decide +kernel
theorem d_Sim_pass_82 : decode M_Sim_pass.2.1 82 = .ok (.aload_n 0, 1) := by decide +kernel
theorem d_Sim_pass_83 : decode M_Sim_pass.2.1 83 = .ok (.iload 4, 2) := by decide +kernel
theorem d_Sim_pass_85 : decode M_Sim_pass.2.1 85 = .ok (.invokevirtual 100, 3) := by decide +kernel
theorem d_Sim_pass_88 : decode M_Sim_pass.2.1 88 = .ok (.iinc 4 1, 3) := by decide +kernel
theorem d_Sim_pass_91 : decode M_Sim_pass.2.1 91 = .ok (.goto (-19), 3) := by decide +kernel
def l_Sim_pass_72 (A : AD) : Nat → Nat → SM → SM
  | 0, _, Y => Y
  | k + 1, i, Y => (l_Sim_pass_72 A k (i + 1) (s_Sim_weather A Y i))
set_option maxRecDepth 100000 in
set_option maxHeartbeats 4000000 in
theorem l_Sim_pass_72_go {C S : Nat} {Γ : G9} {h : AH} {z : Nat} {dn hd kd : Int32} {n : Nat} {Q : QT} {X : XT} {A : AD} (hA : AOk A) (hn20 : n ≤ 20) : ∀ (k i : Nat) (Y : SM), i + k = n → cn A 0 = n → sm_dy Y < 1000000 → Go Γ M_Sim_pass 4 C S 94 [some (.ref (ad A 6 0)), some (.int dn), some (.int hd), some (.int kd), some (.int (nI (i + k))), none, none, none, none, none, none, none] [] (smC Γ A h (l_Sim_pass_72 A k i Y)) z Q X → Go Γ M_Sim_pass 4 C S 72 [some (.ref (ad A 6 0)), some (.int dn), some (.int hd), some (.int kd), some (.int (nI i)), none, none, none, none, none, none, none] [] (smC Γ A h Y) z Q X := by
  intro k
  induction k with
  | zero =>
    intro i Y hi hn hdy hk
    refine Go.iload_4 d_Sim_pass_72 rfl ?_
    refine Go.aload_0 d_Sim_pass_74 rfl ?_
    refine Go.getfield d_Sim_pass_75 rfl f_Sim_14 (sm_obj hA) (by rfl) ?_
    refine Go.alen (n := (nI (cn A 0))) d_Sim_pass_78 rfl (sm_out hA (by decide)) (by rfl) rfl ?_
    refine Go.icmp_ge (t := 94) d_Sim_pass_79 (by decide) rfl (fun c79_1 => ?_) (fun c79_1 => ?_)
    · exact hk
    · exact absurd (nI_le (by omega) (by omega)) c79_1
  | succ k ih =>
    intro i Y hi hn hdy hk
    unfold l_Sim_pass_72 at hk
    rw [show i + (k + 1) = i + 1 + k by omega] at hk
    refine Go.iload_4 d_Sim_pass_72 rfl ?_
    refine Go.aload_0 d_Sim_pass_74 rfl ?_
    refine Go.getfield d_Sim_pass_75 rfl f_Sim_14 (sm_obj hA) (by rfl) ?_
    refine Go.alen (n := (nI (cn A 0))) d_Sim_pass_78 rfl (sm_out hA (by decide)) (by rfl) rfl ?_
    refine Go.icmp_ge (t := 94) d_Sim_pass_79 (by decide) rfl (fun c79_1 => ?_) (fun c79_1 => ?_)
    · exact absurd c79_1 (nI_ge (by omega) (by omega))
    · refine Go.aload_0 d_Sim_pass_82 rfl ?_
      refine Go.iload_4 d_Sim_pass_83 rfl ?_
      refine Go.cv1v d_Sim_pass_85 rfl l_Sim_100 k_Sim_weather_v (sm_obj hA) rfl (c_Sim_weather (b := i) rfl (by omega) hA (by (try simp only [sm_dy_set, sm_dy_fl, sm_dy_ca, sm_dy_rd, sm_dy_Sim_probes, sm_dy_l_Sim_fills_29, sm_dy_Sim_fills, sm_dy_l_Sim_drills_25, sm_dy_Sim_drills, sm_dy_l_Sim_weather_145, sm_dy_l_Sim_weather_230, sm_dy_g_Sim_weather_131, sm_dy_g_Sim_weather_113, sm_dy_g_Sim_weather_79, sm_dy_g_Sim_weather_46, sm_dy_g_Sim_weather_33, sm_dy_Sim_weather, sm_dy_l_Sim_eats_57, sm_dy_l_Sim_eats_43, sm_dy_Sim_eats]); exact hdy)) rfl rfl rfl ?_
      refine Go.iinc_4 d_Sim_pass_88 rfl (by rfl) (nI_inc _) ?_
      refine Go.goto (t := 72) d_Sim_pass_91 (by decide) ?_
      exact ih (i + 1) _ (by omega) (by first | exact hn | (simp only []; exact hn)) (by (try simp only [sm_dy_set, sm_dy_fl, sm_dy_ca, sm_dy_rd, sm_dy_Sim_probes, sm_dy_l_Sim_fills_29, sm_dy_Sim_fills, sm_dy_l_Sim_drills_25, sm_dy_Sim_drills, sm_dy_l_Sim_weather_145, sm_dy_l_Sim_weather_230, sm_dy_g_Sim_weather_131, sm_dy_g_Sim_weather_113, sm_dy_g_Sim_weather_79, sm_dy_g_Sim_weather_46, sm_dy_g_Sim_weather_33, sm_dy_Sim_weather, sm_dy_l_Sim_eats_57, sm_dy_l_Sim_eats_43, sm_dy_Sim_eats]); exact hdy) hk
set_option maxRecDepth 100000 in
set_option maxHeartbeats 4000000 in
theorem sm_dy_l_Sim_pass_72 {A : AD} : ∀ (k i : Nat) (Y : SM), sm_dy (l_Sim_pass_72 A k i Y) = sm_dy Y := by
  intro k
  induction k with
  | zero => intros; rfl
  | succ k ih =>
    intros
    unfold l_Sim_pass_72
    (repeat' split) <;> (try simp only [ih, sm_dy_set, sm_dy_fl, sm_dy_ca, sm_dy_rd, sm_dy_Sim_probes, sm_dy_l_Sim_fills_29, sm_dy_Sim_fills, sm_dy_l_Sim_drills_25, sm_dy_Sim_drills, sm_dy_l_Sim_weather_145, sm_dy_l_Sim_weather_230, sm_dy_g_Sim_weather_131, sm_dy_g_Sim_weather_113, sm_dy_g_Sim_weather_79, sm_dy_g_Sim_weather_46, sm_dy_g_Sim_weather_33, sm_dy_Sim_weather, sm_dy_l_Sim_eats_57, sm_dy_l_Sim_eats_43, sm_dy_Sim_eats, sm_dy_rd])
set_option maxRecDepth 100000 in
set_option maxHeartbeats 4000000 in
theorem v5_l_Sim_pass_72 {A : AD} : ∀ (k i : Nat) (Y : SM), v5 (l_Sim_pass_72 A k i Y) = v5 Y := by
  intro k
  induction k with
  | zero => intros; rfl
  | succ k ih =>
    intros
    unfold l_Sim_pass_72
    (repeat' split) <;> (try simp only [ih, v5_set0, v5_set1, v5_set2, v5_set3, v5_set4, v5_fl, v5_ca, v5_rd, v5_Sim_probes, v5_l_Sim_fills_29, v5_Sim_fills, v5_l_Sim_drills_25, v5_Sim_drills, v5_l_Sim_weather_145, v5_l_Sim_weather_230, v5_g_Sim_weather_131, v5_g_Sim_weather_113, v5_g_Sim_weather_79, v5_g_Sim_weather_46, v5_g_Sim_weather_33, v5_Sim_weather, v5_l_Sim_eats_57, v5_l_Sim_eats_43, v5_Sim_eats, v5_rd])
theorem d_Sim_pass_108 : decode M_Sim_pass.2.1 108 = .ok (.iload 6, 2) := by decide +kernel
theorem d_Sim_pass_110 : decode M_Sim_pass.2.1 110 = .ok (.iload 5, 2) := by decide +kernel
theorem d_Sim_pass_112 : decode M_Sim_pass.2.1 112 = .ok (.if_icmp .ge 30, 3) := by decide +kernel
theorem d_Sim_pass_115 : decode M_Sim_pass.2.1 115 = .ok (.aload 4, 2) := by decide +kernel
theorem d_Sim_pass_117 : decode M_Sim_pass.2.1 117 = .ok (.iload 6, 2) := by decide +kernel
theorem d_Sim_pass_119 : decode M_Sim_pass.2.1 119 = .ok (.aaload, 1) := by decide +kernel
theorem d_Sim_pass_120 : decode M_Sim_pass.2.1 120 = .ok (.astore 7, 2) := by decide +kernel
theorem d_Sim_pass_122 : decode M_Sim_pass.2.1 122 = .ok (.aload 7, 2) := by decide +kernel
theorem d_Sim_pass_124 : decode M_Sim_pass.2.1 124 = .ok (.iconst 4, 1) := by decide +kernel
theorem d_Sim_pass_125 : decode M_Sim_pass.2.1 125 = .ok (.iaload, 1) := by decide +kernel
theorem d_Sim_pass_126 : decode M_Sim_pass.2.1 126 = .ok (.iconst 1, 1) := by decide +kernel
theorem d_Sim_pass_127 : decode M_Sim_pass.2.1 127 = .ok (.if_icmp .ne 9, 3) := by decide +kernel
theorem d_Sim_pass_130 : decode M_Sim_pass.2.1 130 = .ok (.aload_n 0, 1) := by decide +kernel
theorem d_Sim_pass_131 : decode M_Sim_pass.2.1 131 = .ok (.aload 7, 2) := by decide +kernel
theorem d_Sim_pass_133 : decode M_Sim_pass.2.1 133 = .ok (.invokevirtual 104, 3) := by decide +kernel
theorem d_Sim_pass_136 : decode M_Sim_pass.2.1 136 = .ok (.iinc 6 1, 3) := by decide +kernel
theorem d_Sim_pass_139 : decode M_Sim_pass.2.1 139 = .ok (.goto (-31), 3) := by decide +kernel
def l_Sim_pass_108 (A : AD) : Nat → Nat → SM → SM
  | 0, _, Y => Y
  | k + 1, i, Y => (if ((sm_v Y 4 i) 4) = 1 then (l_Sim_pass_108 A k (i + 1) (s_Sim_eats A Y i)) else (l_Sim_pass_108 A k (i + 1) Y))
set_option maxRecDepth 100000 in
set_option maxHeartbeats 4000000 in
theorem l_Sim_pass_108_go {C S : Nat} {Γ : G9} {h : AH} {z : Nat} {dn hd kd : Int32} {n : Nat} {Q : QT} {X : XT} {A : AD} (hA : AOk A) (hn20 : n ≤ 20) : ∀ (k i : Nat) (Y : SM), i + k = n → cn A 4 = n → Go Γ M_Sim_pass 4 C S 142 [some (.ref (ad A 6 0)), some (.int dn), some (.int hd), some (.int kd), some (.ref (ad A 8 4)), some (.int (nI (cn A 4))), some (.int (nI (i + k))), none, none, none, none, none] [] (smC Γ A h (l_Sim_pass_108 A k i Y)) z Q X → Go Γ M_Sim_pass 4 C S 108 [some (.ref (ad A 6 0)), some (.int dn), some (.int hd), some (.int kd), some (.ref (ad A 8 4)), some (.int (nI (cn A 4))), some (.int (nI i)), none, none, none, none, none] [] (smC Γ A h Y) z Q X := by
  intro k
  induction k with
  | zero =>
    intro i Y hi hn hk
    refine Go.iload_6 d_Sim_pass_108 rfl ?_
    refine Go.iload_5 d_Sim_pass_110 rfl ?_
    refine Go.icmp_ge (t := 142) d_Sim_pass_112 (by decide) rfl (fun c112_1 => ?_) (fun c112_1 => ?_)
    · exact hk
    · exact absurd (nI_le (by omega) (by omega)) c112_1
  | succ k ih =>
    intro i Y hi hn hk
    unfold l_Sim_pass_108 at hk
    rw [show i + (k + 1) = i + 1 + k by omega] at hk
    refine Go.iload_6 d_Sim_pass_108 rfl ?_
    refine Go.iload_5 d_Sim_pass_110 rfl ?_
    refine Go.icmp_ge (t := 142) d_Sim_pass_112 (by decide) rfl (fun c112_1 => ?_) (fun c112_1 => ?_)
    · exact absurd c112_1 (nI_ge (by omega) (by omega))
    · refine Go.aload_4 d_Sim_pass_115 rfl ?_
      refine Go.iload_6 d_Sim_pass_117 rfl ?_
      refine Go.aaldA d_Sim_pass_119 rfl (sm_out hA (by decide)) (vp_in_nI (by omega) (Nat.lt_of_le_of_lt (hA.2.2 4 (by decide)) (by decide))) ?_
      rw [nI_clamp (show i < 2 ^ 31 from Nat.lt_trans (Nat.lt_of_lt_of_le (show i < cn A 4 by first | assumption | omega) (hA.2.2 4 (by decide))) (by decide))]
      refine Go.astore_7 d_Sim_pass_120 rfl (by rfl) ?_
      refine Go.aload_7 d_Sim_pass_122 rfl ?_
      refine Go.iconst (v := 4) d_Sim_pass_124 rfl (by decide) ?_
      refine Go.iaload d_Sim_pass_125 rfl (sm_row hA (by decide) (by omega)) (okI_in (by decide)) ?_
      rw [show (4 : Int32).toNatClampNeg = 4 from by decide]
      refine Go.iconst (v := 1) d_Sim_pass_126 rfl (by decide) ?_
      refine Go.icmp_ne (t := 136) d_Sim_pass_127 (by decide) rfl (fun c127_2 => ?_) (fun c127_2 => ?_)
      · refine Go.iinc_6 d_Sim_pass_136 rfl (by rfl) (nI_inc _) ?_
        refine Go.goto (t := 108) d_Sim_pass_139 (by decide) ?_
        rw [if_neg c127_2] at hk
        refine Go.fgt [some (.ref (ad A 6 0)), some (.int dn), some (.int hd), some (.int kd), some (.ref (ad A 8 4)), some (.int (nI (cn A 4))), some (.int (nI (i + 1))), none, none, none, none, none] (by repeat' (first | exact trivial | refine ⟨rfl, ?_⟩)) ?_
        exact ih (i + 1) _ (by omega) (by first | exact hn | (simp only []; exact hn)) hk
      · refine Go.aload_0 d_Sim_pass_130 rfl ?_
        refine Go.aload_7 d_Sim_pass_131 rfl ?_
        refine Go.cv1v d_Sim_pass_133 rfl l_Sim_104 k_Sim_eats_v (sm_obj hA) rfl (c_Sim_eats (t := i) (by omega) hA) rfl rfl rfl ?_
        refine Go.iinc_6 d_Sim_pass_136 rfl (by rfl) (nI_inc _) ?_
        refine Go.goto (t := 108) d_Sim_pass_139 (by decide) ?_
        rw [if_pos c127_2] at hk
        refine Go.fgt [some (.ref (ad A 6 0)), some (.int dn), some (.int hd), some (.int kd), some (.ref (ad A 8 4)), some (.int (nI (cn A 4))), some (.int (nI (i + 1))), none, none, none, none, none] (by repeat' (first | exact trivial | refine ⟨rfl, ?_⟩)) ?_
        exact ih (i + 1) _ (by omega) (by first | exact hn | (simp only []; exact hn)) hk
set_option maxRecDepth 100000 in
set_option maxHeartbeats 4000000 in
theorem sm_dy_l_Sim_pass_108 {A : AD} : ∀ (k i : Nat) (Y : SM), sm_dy (l_Sim_pass_108 A k i Y) = sm_dy Y := by
  intro k
  induction k with
  | zero => intros; rfl
  | succ k ih =>
    intros
    unfold l_Sim_pass_108
    (repeat' split) <;> (try simp only [ih, sm_dy_set, sm_dy_fl, sm_dy_ca, sm_dy_rd, sm_dy_Sim_probes, sm_dy_l_Sim_fills_29, sm_dy_Sim_fills, sm_dy_l_Sim_drills_25, sm_dy_Sim_drills, sm_dy_l_Sim_weather_145, sm_dy_l_Sim_weather_230, sm_dy_g_Sim_weather_131, sm_dy_g_Sim_weather_113, sm_dy_g_Sim_weather_79, sm_dy_g_Sim_weather_46, sm_dy_g_Sim_weather_33, sm_dy_Sim_weather, sm_dy_l_Sim_eats_57, sm_dy_l_Sim_eats_43, sm_dy_Sim_eats, sm_dy_rd, sm_dy_l_Sim_pass_72])
set_option maxRecDepth 100000 in
set_option maxHeartbeats 4000000 in
theorem v5_l_Sim_pass_108 {A : AD} : ∀ (k i : Nat) (Y : SM), v5 (l_Sim_pass_108 A k i Y) = v5 Y := by
  intro k
  induction k with
  | zero => intros; rfl
  | succ k ih =>
    intros
    unfold l_Sim_pass_108
    (repeat' split) <;> (try simp only [ih, v5_set0, v5_set1, v5_set2, v5_set3, v5_set4, v5_fl, v5_ca, v5_rd, v5_Sim_probes, v5_l_Sim_fills_29, v5_Sim_fills, v5_l_Sim_drills_25, v5_Sim_drills, v5_l_Sim_weather_145, v5_l_Sim_weather_230, v5_g_Sim_weather_131, v5_g_Sim_weather_113, v5_g_Sim_weather_79, v5_g_Sim_weather_46, v5_g_Sim_weather_33, v5_Sim_weather, v5_l_Sim_eats_57, v5_l_Sim_eats_43, v5_Sim_eats, v5_rd, v5_l_Sim_pass_72])
theorem d_Sim_pass_184 : decode M_Sim_pass.2.1 184 = .ok (.iload 10, 2) := by decide +kernel
theorem d_Sim_pass_186 : decode M_Sim_pass.2.1 186 = .ok (.iload 9, 2) := by decide +kernel
theorem d_Sim_pass_188 : decode M_Sim_pass.2.1 188 = .ok (.if_icmp .ge 78, 3) := by decide +kernel
theorem d_Sim_pass_191 : decode M_Sim_pass.2.1 191 = .ok (.aload 8, 2) := by decide +kernel
theorem d_Sim_pass_193 : decode M_Sim_pass.2.1 193 = .ok (.iload 10, 2) := by decide +kernel
theorem d_Sim_pass_195 : decode M_Sim_pass.2.1 195 = .ok (.aaload, 1) := by decide +kernel
theorem d_Sim_pass_196 : decode M_Sim_pass.2.1 196 = .ok (.astore 11, 2) := by decide +kernel
theorem d_Sim_pass_198 : decode M_Sim_pass.2.1 198 = .ok (.aload 7, 2) := by decide +kernel
theorem d_Sim_pass_200 : decode M_Sim_pass.2.1 200 = .ok (.iconst 4, 1) := by decide +kernel
theorem d_Sim_pass_201 : decode M_Sim_pass.2.1 201 = .ok (.iaload, 1) := by decide +kernel
theorem d_Sim_pass_202 : decode M_Sim_pass.2.1 202 = .ok (.ifCond .eq 58, 3) := by decide +kernel
theorem d_Sim_pass_205 : decode M_Sim_pass.2.1 205 = .ok (.aload 11, 2) := by decide +kernel
theorem d_Sim_pass_207 : decode M_Sim_pass.2.1 207 = .ok (.iconst 0, 1) := by decide +kernel
theorem d_Sim_pass_208 : decode M_Sim_pass.2.1 208 = .ok (.iaload, 1) := by decide +kernel
theorem d_Sim_pass_209 : decode M_Sim_pass.2.1 209 = .ok (.aload 7, 2) := by decide +kernel
theorem d_Sim_pass_211 : decode M_Sim_pass.2.1 211 = .ok (.iconst 2, 1) := by decide +kernel
theorem d_Sim_pass_212 : decode M_Sim_pass.2.1 212 = .ok (.iaload, 1) := by decide +kernel
theorem d_Sim_pass_213 : decode M_Sim_pass.2.1 213 = .ok (.if_icmp .ne 47, 3) := by decide +kernel
theorem d_Sim_pass_216 : decode M_Sim_pass.2.1 216 = .ok (.aload 11, 2) := by decide +kernel
theorem d_Sim_pass_218 : decode M_Sim_pass.2.1 218 = .ok (.iconst 3, 1) := by decide +kernel
theorem d_Sim_pass_219 : decode M_Sim_pass.2.1 219 = .ok (.iaload, 1) := by decide +kernel
theorem d_Sim_pass_220 : decode M_Sim_pass.2.1 220 = .ok (.ifCond .ne 6, 3) := by decide +kernel
theorem d_Sim_pass_223 : decode M_Sim_pass.2.1 223 = .ok (.goto 37, 3) := by decide +kernel
theorem d_Sim_pass_226 : decode M_Sim_pass.2.1 226 = .ok (.aload 11, 2) := by decide +kernel
theorem d_Sim_pass_228 : decode M_Sim_pass.2.1 228 = .ok (.iconst 4, 1) := by decide +kernel
theorem d_Sim_pass_229 : decode M_Sim_pass.2.1 229 = .ok (.aload 11, 2) := by decide +kernel
theorem d_Sim_pass_231 : decode M_Sim_pass.2.1 231 = .ok (.iconst 2, 1) := by decide +kernel
theorem d_Sim_pass_232 : decode M_Sim_pass.2.1 232 = .ok (.iaload, 1) := by decide +kernel
theorem d_Sim_pass_233 : decode M_Sim_pass.2.1 233 = .ok (.iastore, 1) := by decide +kernel
theorem d_Sim_pass_234 : decode M_Sim_pass.2.1 234 = .ok (.aload 11, 2) := by decide +kernel
theorem d_Sim_pass_236 : decode M_Sim_pass.2.1 236 = .ok (.iconst 5, 1) := by decide +kernel
theorem d_Sim_pass_237 : decode M_Sim_pass.2.1 237 = .ok (.dup2, 1) := by decide +kernel
theorem d_Sim_pass_238 : decode M_Sim_pass.2.1 238 = .ok (.iaload, 1) := by decide +kernel
theorem d_Sim_pass_239 : decode M_Sim_pass.2.1 239 = .ok (.iconst 1, 1) := by decide +kernel
theorem d_Sim_pass_240 : decode M_Sim_pass.2.1 240 = .ok (.iadd, 1) := by decide +kernel
theorem d_Sim_pass_241 : decode M_Sim_pass.2.1 241 = .ok (.iastore, 1) := by decide +kernel
theorem d_Sim_pass_242 : decode M_Sim_pass.2.1 242 = .ok (.aload 7, 2) := by decide +kernel
theorem d_Sim_pass_244 : decode M_Sim_pass.2.1 244 = .ok (.iconst 5, 1) := by decide +kernel
theorem d_Sim_pass_245 : decode M_Sim_pass.2.1 245 = .ok (.dup2, 1) := by decide +kernel
theorem d_Sim_pass_246 : decode M_Sim_pass.2.1 246 = .ok (.iaload, 1) := by decide +kernel
theorem d_Sim_pass_247 : decode M_Sim_pass.2.1 247 = .ok (.iconst 1, 1) := by decide +kernel
theorem d_Sim_pass_248 : decode M_Sim_pass.2.1 248 = .ok (.iadd, 1) := by decide +kernel
theorem d_Sim_pass_249 : decode M_Sim_pass.2.1 249 = .ok (.iastore, 1) := by decide +kernel
theorem d_Sim_pass_250 : decode M_Sim_pass.2.1 250 = .ok (.aload_n 0, 1) := by decide +kernel
theorem d_Sim_pass_251 : decode M_Sim_pass.2.1 251 = .ok (.dup, 1) := by decide +kernel
theorem d_Sim_pass_252 : decode M_Sim_pass.2.1 252 = .ok (.getfield 38, 3) := by decide +kernel
theorem d_Sim_pass_255 : decode M_Sim_pass.2.1 255 = .ok (.iconst 1, 1) := by decide +kernel
theorem d_Sim_pass_256 : decode M_Sim_pass.2.1 256 = .ok (.iadd, 1) := by decide +kernel
theorem d_Sim_pass_257 : decode M_Sim_pass.2.1 257 = .ok (.putfield 38, 3) := by decide +kernel
theorem d_Sim_pass_260 : decode M_Sim_pass.2.1 260 = .ok (.iinc 10 1, 3) := by decide +kernel
theorem d_Sim_pass_263 : decode M_Sim_pass.2.1 263 = .ok (.goto (-79), 3) := by decide +kernel
def l_Sim_pass_184 (A : AD) (m : Nat) : Nat → Nat → SM → SM
  | 0, _, Y => Y
  | k + 1, i, Y => (if ((sm_v Y 4 m) 4) = 0 then (l_Sim_pass_184 A m k (i + 1) Y) else (if ((sm_v Y 1 i) 0) = ((sm_v Y 4 m) 2) then (if ((sm_v Y 1 i) 3) = 0 then (l_Sim_pass_184 A m k (i + 1) Y) else (l_Sim_pass_184 A m k (i + 1) (sm_rd' (sm_set (sm_set (sm_set Y 1 i 4 ((sm_v Y 1 i) 2)) 1 i 5 (((sm_v (sm_set Y 1 i 4 ((sm_v Y 1 i) 2)) 1 i) 5) + 1)) 4 m 5 (((sm_v (sm_set (sm_set Y 1 i 4 ((sm_v Y 1 i) 2)) 1 i 5 (((sm_v (sm_set Y 1 i 4 ((sm_v Y 1 i) 2)) 1 i) 5) + 1)) 4 m) 5) + 1)) ((sm_rd (sm_set (sm_set (sm_set Y 1 i 4 ((sm_v Y 1 i) 2)) 1 i 5 (((sm_v (sm_set Y 1 i 4 ((sm_v Y 1 i) 2)) 1 i) 5) + 1)) 4 m 5 (((sm_v (sm_set (sm_set Y 1 i 4 ((sm_v Y 1 i) 2)) 1 i 5 (((sm_v (sm_set Y 1 i 4 ((sm_v Y 1 i) 2)) 1 i) 5) + 1)) 4 m) 5) + 1))) + 1)))) else (l_Sim_pass_184 A m k (i + 1) Y)))
set_option maxRecDepth 100000 in
set_option maxHeartbeats 4000000 in
theorem l_Sim_pass_184_go {C S : Nat} {Γ : G9} {h : AH} {z : Nat} {dn hd kd : Int32} {n : Nat} {Q : QT} {X : XT} {A : AD} {m : Nat} (bm : m < cn A 4) (hA : AOk A) (hn20 : n ≤ 20) : ∀ (k i : Nat) (Y : SM), i + k = n → cn A 1 = n → Go Γ M_Sim_pass 4 C S 266 [some (.ref (ad A 6 0)), some (.int dn), some (.int hd), some (.int kd), some (.ref (ad A 8 4)), some (.int (nI (cn A 4))), some (.int (nI m)), some (.ref (ad A 4 m)), some (.ref (ad A 8 1)), some (.int (nI (cn A 1))), some (.int (nI (i + k))), none] [] (smC Γ A h (l_Sim_pass_184 A m k i Y)) z Q X → Go Γ M_Sim_pass 4 C S 184 [some (.ref (ad A 6 0)), some (.int dn), some (.int hd), some (.int kd), some (.ref (ad A 8 4)), some (.int (nI (cn A 4))), some (.int (nI m)), some (.ref (ad A 4 m)), some (.ref (ad A 8 1)), some (.int (nI (cn A 1))), some (.int (nI i)), none] [] (smC Γ A h Y) z Q X := by
  intro k
  induction k with
  | zero =>
    intro i Y hi hn hk
    refine Go.iload_10 d_Sim_pass_184 rfl ?_
    refine Go.iload_9 d_Sim_pass_186 rfl ?_
    refine Go.icmp_ge (t := 266) d_Sim_pass_188 (by decide) rfl (fun c188_1 => ?_) (fun c188_1 => ?_)
    · exact hk
    · exact absurd (nI_le (by omega) (by omega)) c188_1
  | succ k ih =>
    intro i Y hi hn hk
    unfold l_Sim_pass_184 at hk
    rw [show i + (k + 1) = i + 1 + k by omega] at hk
    refine Go.iload_10 d_Sim_pass_184 rfl ?_
    refine Go.iload_9 d_Sim_pass_186 rfl ?_
    refine Go.icmp_ge (t := 266) d_Sim_pass_188 (by decide) rfl (fun c188_1 => ?_) (fun c188_1 => ?_)
    · exact absurd c188_1 (nI_ge (by omega) (by omega))
    · refine Go.aload_8 d_Sim_pass_191 rfl ?_
      refine Go.iload_10 d_Sim_pass_193 rfl ?_
      refine Go.aaldA d_Sim_pass_195 rfl (sm_out hA (by decide)) (vp_in_nI (by omega) (Nat.lt_of_le_of_lt (hA.2.2 1 (by decide)) (by decide))) ?_
      rw [nI_clamp (show i < 2 ^ 31 from Nat.lt_trans (Nat.lt_of_lt_of_le (show i < cn A 1 by first | assumption | omega) (hA.2.2 1 (by decide))) (by decide))]
      refine Go.astore_11 d_Sim_pass_196 rfl (by rfl) ?_
      refine Go.aload_7 d_Sim_pass_198 rfl ?_
      refine Go.iconst (v := 4) d_Sim_pass_200 rfl (by decide) ?_
      refine Go.iaload d_Sim_pass_201 rfl (sm_row hA (by decide) bm) (okI_in (by decide)) ?_
      rw [show (4 : Int32).toNatClampNeg = 4 from by decide]
      refine Go.if_eq (t := 260) d_Sim_pass_202 (by decide) rfl (fun c202_2 => ?_) (fun c202_2 => ?_)
      · refine Go.iinc_10 d_Sim_pass_260 rfl (by rfl) (nI_inc _) ?_
        refine Go.goto (t := 184) d_Sim_pass_263 (by decide) ?_
        rw [if_pos c202_2] at hk
        refine Go.fgt [some (.ref (ad A 6 0)), some (.int dn), some (.int hd), some (.int kd), some (.ref (ad A 8 4)), some (.int (nI (cn A 4))), some (.int (nI m)), some (.ref (ad A 4 m)), some (.ref (ad A 8 1)), some (.int (nI (cn A 1))), some (.int (nI (i + 1))), none] (by repeat' (first | exact trivial | refine ⟨rfl, ?_⟩)) ?_
        exact ih (i + 1) _ (by omega) (by first | exact hn | (simp only []; exact hn)) hk
      · refine Go.aload_11 d_Sim_pass_205 rfl ?_
        refine Go.iconst (v := 0) d_Sim_pass_207 rfl (by decide) ?_
        refine Go.iaload d_Sim_pass_208 rfl (sm_row hA (by decide) (by omega)) (okI_in (by decide)) ?_
        rw [show (0 : Int32).toNatClampNeg = 0 from by decide]
        refine Go.aload_7 d_Sim_pass_209 rfl ?_
        refine Go.iconst (v := 2) d_Sim_pass_211 rfl (by decide) ?_
        refine Go.iaload d_Sim_pass_212 rfl (sm_row hA (by decide) bm) (okI_in (by decide)) ?_
        rw [show (2 : Int32).toNatClampNeg = 2 from by decide]
        refine Go.icmp_ne (t := 260) d_Sim_pass_213 (by decide) rfl (fun c213_3 => ?_) (fun c213_3 => ?_)
        · refine Go.iinc_10 d_Sim_pass_260 rfl (by rfl) (nI_inc _) ?_
          refine Go.goto (t := 184) d_Sim_pass_263 (by decide) ?_
          rw [if_neg c202_2, if_neg c213_3] at hk
          refine Go.fgt [some (.ref (ad A 6 0)), some (.int dn), some (.int hd), some (.int kd), some (.ref (ad A 8 4)), some (.int (nI (cn A 4))), some (.int (nI m)), some (.ref (ad A 4 m)), some (.ref (ad A 8 1)), some (.int (nI (cn A 1))), some (.int (nI (i + 1))), none] (by repeat' (first | exact trivial | refine ⟨rfl, ?_⟩)) ?_
          exact ih (i + 1) _ (by omega) (by first | exact hn | (simp only []; exact hn)) hk
        · refine Go.aload_11 d_Sim_pass_216 rfl ?_
          refine Go.iconst (v := 3) d_Sim_pass_218 rfl (by decide) ?_
          refine Go.iaload d_Sim_pass_219 rfl (sm_row hA (by decide) (by omega)) (okI_in (by decide)) ?_
          rw [show (3 : Int32).toNatClampNeg = 3 from by decide]
          refine Go.if_ne (t := 226) d_Sim_pass_220 (by decide) rfl (fun c220_4 => ?_) (fun c220_4 => ?_)
          · refine Go.aload_11 d_Sim_pass_226 rfl ?_
            refine Go.iconst (v := 4) d_Sim_pass_228 rfl (by decide) ?_
            refine Go.aload_11 d_Sim_pass_229 rfl ?_
            refine Go.iconst (v := 2) d_Sim_pass_231 rfl (by decide) ?_
            refine Go.iaload d_Sim_pass_232 rfl (sm_row hA (by decide) (by omega)) (okI_in (by decide)) ?_
            rw [show (2 : Int32).toNatClampNeg = 2 from by decide]
            refine Go.iastore d_Sim_pass_233 rfl (sm_row hA (by decide) (by omega)) (okI_in (by decide)) ?_
            rw [show (4 : Int32).toNatClampNeg = 4 from by decide]
            refine Go.heq (sm_setup hA (by decide) (by omega)) ?_
            refine Go.aload_11 d_Sim_pass_234 rfl ?_
            refine Go.iconst (v := 5) d_Sim_pass_236 rfl (by decide) ?_
            refine Go.dup2 d_Sim_pass_237 rfl rfl rfl ?_
            refine Go.iaload d_Sim_pass_238 rfl (sm_row hA (by decide) (by omega)) (okI_in (by decide)) ?_
            rw [show (5 : Int32).toNatClampNeg = 5 from by decide]
            refine Go.iconst (v := 1) d_Sim_pass_239 rfl (by decide) ?_
            refine Go.iadd d_Sim_pass_240 rfl ?_
            refine Go.iastore d_Sim_pass_241 rfl (sm_row hA (by decide) (by omega)) (okI_in (by decide)) ?_
            rw [show (5 : Int32).toNatClampNeg = 5 from by decide]
            refine Go.heq (sm_setup hA (by decide) (by omega)) ?_
            refine Go.aload_7 d_Sim_pass_242 rfl ?_
            refine Go.iconst (v := 5) d_Sim_pass_244 rfl (by decide) ?_
            refine Go.dup2 d_Sim_pass_245 rfl rfl rfl ?_
            refine Go.iaload d_Sim_pass_246 rfl (sm_row hA (by decide) bm) (okI_in (by decide)) ?_
            rw [show (5 : Int32).toNatClampNeg = 5 from by decide]
            refine Go.iconst (v := 1) d_Sim_pass_247 rfl (by decide) ?_
            refine Go.iadd d_Sim_pass_248 rfl ?_
            refine Go.iastore d_Sim_pass_249 rfl (sm_row hA (by decide) bm) (okI_in (by decide)) ?_
            rw [show (5 : Int32).toNatClampNeg = 5 from by decide]
            refine Go.heq (sm_setup hA (by decide) bm) ?_
            refine Go.aload_0 d_Sim_pass_250 rfl ?_
            refine Go.dup d_Sim_pass_251 rfl rfl ?_
            refine Go.getfield d_Sim_pass_252 rfl f_Sim_38 (sm_obj hA) (by rfl) ?_
            refine Go.iconst (v := 1) d_Sim_pass_255 rfl (by decide) ?_
            refine Go.iadd d_Sim_pass_256 rfl ?_
            refine Go.putfield d_Sim_pass_257 rfl f_Sim_38_p (Or.inl (fun C T N h => by cases h; rfl)) (sm_obj hA) (by exact Nat.le_of_ble_eq_true rfl) rfl rfl ?_
            refine Go.heq (sm_rdup hA) ?_
            refine Go.iinc_10 d_Sim_pass_260 rfl (by rfl) (nI_inc _) ?_
            refine Go.goto (t := 184) d_Sim_pass_263 (by decide) ?_
            rw [if_neg c202_2, if_pos c213_3, if_neg c220_4] at hk
            refine Go.fgt [some (.ref (ad A 6 0)), some (.int dn), some (.int hd), some (.int kd), some (.ref (ad A 8 4)), some (.int (nI (cn A 4))), some (.int (nI m)), some (.ref (ad A 4 m)), some (.ref (ad A 8 1)), some (.int (nI (cn A 1))), some (.int (nI (i + 1))), none] (by repeat' (first | exact trivial | refine ⟨rfl, ?_⟩)) ?_
            exact ih (i + 1) _ (by omega) (by first | exact hn | (simp only []; exact hn)) hk
          · refine Go.goto (t := 260) d_Sim_pass_223 (by decide) ?_
            refine Go.iinc_10 d_Sim_pass_260 rfl (by rfl) (nI_inc _) ?_
            refine Go.goto (t := 184) d_Sim_pass_263 (by decide) ?_
            rw [if_neg c202_2, if_pos c213_3, if_pos c220_4] at hk
            refine Go.fgt [some (.ref (ad A 6 0)), some (.int dn), some (.int hd), some (.int kd), some (.ref (ad A 8 4)), some (.int (nI (cn A 4))), some (.int (nI m)), some (.ref (ad A 4 m)), some (.ref (ad A 8 1)), some (.int (nI (cn A 1))), some (.int (nI (i + 1))), none] (by repeat' (first | exact trivial | refine ⟨rfl, ?_⟩)) ?_
            exact ih (i + 1) _ (by omega) (by first | exact hn | (simp only []; exact hn)) hk
set_option maxRecDepth 100000 in
set_option maxHeartbeats 4000000 in
theorem sm_dy_l_Sim_pass_184 {A : AD} {m : Nat} : ∀ (k i : Nat) (Y : SM), sm_dy (l_Sim_pass_184 A m k i Y) = sm_dy Y := by
  intro k
  induction k with
  | zero => intros; rfl
  | succ k ih =>
    intros
    unfold l_Sim_pass_184
    (repeat' split) <;> (try simp only [ih, sm_dy_set, sm_dy_fl, sm_dy_ca, sm_dy_rd, sm_dy_Sim_probes, sm_dy_l_Sim_fills_29, sm_dy_Sim_fills, sm_dy_l_Sim_drills_25, sm_dy_Sim_drills, sm_dy_l_Sim_weather_145, sm_dy_l_Sim_weather_230, sm_dy_g_Sim_weather_131, sm_dy_g_Sim_weather_113, sm_dy_g_Sim_weather_79, sm_dy_g_Sim_weather_46, sm_dy_g_Sim_weather_33, sm_dy_Sim_weather, sm_dy_l_Sim_eats_57, sm_dy_l_Sim_eats_43, sm_dy_Sim_eats, sm_dy_rd, sm_dy_l_Sim_pass_72, sm_dy_l_Sim_pass_108])
set_option maxRecDepth 100000 in
set_option maxHeartbeats 4000000 in
theorem v5_l_Sim_pass_184 {A : AD} {m : Nat} : ∀ (k i : Nat) (Y : SM), v5 (l_Sim_pass_184 A m k i Y) = v5 Y := by
  intro k
  induction k with
  | zero => intros; rfl
  | succ k ih =>
    intros
    unfold l_Sim_pass_184
    (repeat' split) <;> (try simp only [ih, v5_set0, v5_set1, v5_set2, v5_set3, v5_set4, v5_fl, v5_ca, v5_rd, v5_Sim_probes, v5_l_Sim_fills_29, v5_Sim_fills, v5_l_Sim_drills_25, v5_Sim_drills, v5_l_Sim_weather_145, v5_l_Sim_weather_230, v5_g_Sim_weather_131, v5_g_Sim_weather_113, v5_g_Sim_weather_79, v5_g_Sim_weather_46, v5_g_Sim_weather_33, v5_Sim_weather, v5_l_Sim_eats_57, v5_l_Sim_eats_43, v5_Sim_eats, v5_rd, v5_l_Sim_pass_72, v5_l_Sim_pass_108])
theorem d_Sim_pass_156 : decode M_Sim_pass.2.1 156 = .ok (.iload 6, 2) := by decide +kernel
theorem d_Sim_pass_158 : decode M_Sim_pass.2.1 158 = .ok (.iload 5, 2) := by decide +kernel
theorem d_Sim_pass_160 : decode M_Sim_pass.2.1 160 = .ok (.if_icmp .ge 112, 3) := by decide +kernel
theorem d_Sim_pass_163 : decode M_Sim_pass.2.1 163 = .ok (.aload 4, 2) := by decide +kernel
theorem d_Sim_pass_165 : decode M_Sim_pass.2.1 165 = .ok (.iload 6, 2) := by decide +kernel
theorem d_Sim_pass_167 : decode M_Sim_pass.2.1 167 = .ok (.aaload, 1) := by decide +kernel
theorem d_Sim_pass_168 : decode M_Sim_pass.2.1 168 = .ok (.astore 7, 2) := by decide +kernel
theorem d_Sim_pass_170 : decode M_Sim_pass.2.1 170 = .ok (.aload_n 0, 1) := by decide +kernel
theorem d_Sim_pass_171 : decode M_Sim_pass.2.1 171 = .ok (.getfield 18, 3) := by decide +kernel
theorem d_Sim_pass_174 : decode M_Sim_pass.2.1 174 = .ok (.astore 8, 2) := by decide +kernel
theorem d_Sim_pass_176 : decode M_Sim_pass.2.1 176 = .ok (.aload 8, 2) := by decide +kernel
theorem d_Sim_pass_178 : decode M_Sim_pass.2.1 178 = .ok (.arraylength, 1) := by decide +kernel
theorem d_Sim_pass_179 : decode M_Sim_pass.2.1 179 = .ok (.istore 9, 2) := by decide +kernel
theorem d_Sim_pass_181 : decode M_Sim_pass.2.1 181 = .ok (.iconst 0, 1) := by decide +kernel
theorem d_Sim_pass_182 : decode M_Sim_pass.2.1 182 = .ok (.istore 10, 2) := by decide +kernel
theorem d_Sim_pass_266 : decode M_Sim_pass.2.1 266 = .ok (.iinc 6 1, 3) := by decide +kernel
theorem d_Sim_pass_269 : decode M_Sim_pass.2.1 269 = .ok (.goto (-113), 3) := by decide +kernel
def l_Sim_pass_156 (A : AD) : Nat → Nat → SM → SM
  | 0, _, Y => Y
  | k + 1, i, Y => (l_Sim_pass_156 A k (i + 1) (l_Sim_pass_184 A i (cn A 1) 0 Y))
set_option maxRecDepth 100000 in
set_option maxHeartbeats 4000000 in
theorem l_Sim_pass_156_go {C S : Nat} {Γ : G9} {h : AH} {z : Nat} {dn hd kd : Int32} {n : Nat} {Q : QT} {X : XT} {A : AD} (hA : AOk A) (hn20 : n ≤ 20) : ∀ (k i : Nat) (Y : SM), i + k = n → cn A 4 = n → Go Γ M_Sim_pass 4 C S 272 [some (.ref (ad A 6 0)), some (.int dn), some (.int hd), some (.int kd), some (.ref (ad A 8 4)), some (.int (nI (cn A 4))), some (.int (nI (i + k))), none, none, none, none, none] [] (smC Γ A h (l_Sim_pass_156 A k i Y)) z Q X → Go Γ M_Sim_pass 4 C S 156 [some (.ref (ad A 6 0)), some (.int dn), some (.int hd), some (.int kd), some (.ref (ad A 8 4)), some (.int (nI (cn A 4))), some (.int (nI i)), none, none, none, none, none] [] (smC Γ A h Y) z Q X := by
  intro k
  induction k with
  | zero =>
    intro i Y hi hn hk
    refine Go.iload_6 d_Sim_pass_156 rfl ?_
    refine Go.iload_5 d_Sim_pass_158 rfl ?_
    refine Go.icmp_ge (t := 272) d_Sim_pass_160 (by decide) rfl (fun c160_1 => ?_) (fun c160_1 => ?_)
    · exact hk
    · exact absurd (nI_le (by omega) (by omega)) c160_1
  | succ k ih =>
    intro i Y hi hn hk
    unfold l_Sim_pass_156 at hk
    rw [show i + (k + 1) = i + 1 + k by omega] at hk
    refine Go.iload_6 d_Sim_pass_156 rfl ?_
    refine Go.iload_5 d_Sim_pass_158 rfl ?_
    refine Go.icmp_ge (t := 272) d_Sim_pass_160 (by decide) rfl (fun c160_1 => ?_) (fun c160_1 => ?_)
    · exact absurd c160_1 (nI_ge (by omega) (by omega))
    · refine Go.aload_4 d_Sim_pass_163 rfl ?_
      refine Go.iload_6 d_Sim_pass_165 rfl ?_
      refine Go.aaldA d_Sim_pass_167 rfl (sm_out hA (by decide)) (vp_in_nI (by omega) (Nat.lt_of_le_of_lt (hA.2.2 4 (by decide)) (by decide))) ?_
      rw [nI_clamp (show i < 2 ^ 31 from Nat.lt_trans (Nat.lt_of_lt_of_le (show i < cn A 4 by first | assumption | omega) (hA.2.2 4 (by decide))) (by decide))]
      refine Go.astore_7 d_Sim_pass_168 rfl (by rfl) ?_
      refine Go.aload_0 d_Sim_pass_170 rfl ?_
      refine Go.getfield d_Sim_pass_171 rfl f_Sim_18 (sm_obj hA) (by rfl) ?_
      refine Go.astore_8 d_Sim_pass_174 rfl (by rfl) ?_
      refine Go.aload_8 d_Sim_pass_176 rfl ?_
      refine Go.alen (n := (nI (cn A 1))) d_Sim_pass_178 rfl (sm_out hA (by decide)) (by rfl) rfl ?_
      refine Go.istore_9 d_Sim_pass_179 rfl (by rfl) ?_
      refine Go.iconst (v := 0) d_Sim_pass_181 rfl (by decide) ?_
      refine Go.istore_10 d_Sim_pass_182 rfl (by rfl) ?_
      refine l_Sim_pass_184_go (n := (cn A 1)) (by omega) hA (Nat.le_trans (hA.2.2 1 (by decide)) (by decide)) (cn A 1) 0 Y (by omega) rfl ?_
      refine Go.iinc_6 d_Sim_pass_266 rfl (by rfl) (nI_inc _) ?_
      refine Go.goto (t := 156) d_Sim_pass_269 (by decide) ?_
      refine Go.fgt [some (.ref (ad A 6 0)), some (.int dn), some (.int hd), some (.int kd), some (.ref (ad A 8 4)), some (.int (nI (cn A 4))), some (.int (nI (i + 1))), none, none, none, none, none] (by repeat' (first | exact trivial | refine ⟨rfl, ?_⟩)) ?_
      exact ih (i + 1) _ (by omega) (by first | exact hn | (simp only []; exact hn)) hk
set_option maxRecDepth 100000 in
set_option maxHeartbeats 4000000 in
theorem sm_dy_l_Sim_pass_156 {A : AD} : ∀ (k i : Nat) (Y : SM), sm_dy (l_Sim_pass_156 A k i Y) = sm_dy Y := by
  intro k
  induction k with
  | zero => intros; rfl
  | succ k ih =>
    intros
    unfold l_Sim_pass_156
    (repeat' split) <;> (try simp only [ih, sm_dy_set, sm_dy_fl, sm_dy_ca, sm_dy_rd, sm_dy_Sim_probes, sm_dy_l_Sim_fills_29, sm_dy_Sim_fills, sm_dy_l_Sim_drills_25, sm_dy_Sim_drills, sm_dy_l_Sim_weather_145, sm_dy_l_Sim_weather_230, sm_dy_g_Sim_weather_131, sm_dy_g_Sim_weather_113, sm_dy_g_Sim_weather_79, sm_dy_g_Sim_weather_46, sm_dy_g_Sim_weather_33, sm_dy_Sim_weather, sm_dy_l_Sim_eats_57, sm_dy_l_Sim_eats_43, sm_dy_Sim_eats, sm_dy_rd, sm_dy_l_Sim_pass_72, sm_dy_l_Sim_pass_108, sm_dy_l_Sim_pass_184])
set_option maxRecDepth 100000 in
set_option maxHeartbeats 4000000 in
theorem v5_l_Sim_pass_156 {A : AD} : ∀ (k i : Nat) (Y : SM), v5 (l_Sim_pass_156 A k i Y) = v5 Y := by
  intro k
  induction k with
  | zero => intros; rfl
  | succ k ih =>
    intros
    unfold l_Sim_pass_156
    (repeat' split) <;> (try simp only [ih, v5_set0, v5_set1, v5_set2, v5_set3, v5_set4, v5_fl, v5_ca, v5_rd, v5_Sim_probes, v5_l_Sim_fills_29, v5_Sim_fills, v5_l_Sim_drills_25, v5_Sim_drills, v5_l_Sim_weather_145, v5_l_Sim_weather_230, v5_g_Sim_weather_131, v5_g_Sim_weather_113, v5_g_Sim_weather_79, v5_g_Sim_weather_46, v5_g_Sim_weather_33, v5_Sim_weather, v5_l_Sim_eats_57, v5_l_Sim_eats_43, v5_Sim_eats, v5_rd, v5_l_Sim_pass_72, v5_l_Sim_pass_108, v5_l_Sim_pass_184])
theorem d_Sim_pass_286 : decode M_Sim_pass.2.1 286 = .ok (.iload 6, 2) := by decide +kernel
theorem d_Sim_pass_288 : decode M_Sim_pass.2.1 288 = .ok (.iload 5, 2) := by decide +kernel
theorem d_Sim_pass_290 : decode M_Sim_pass.2.1 290 = .ok (.if_icmp .ge 22, 3) := by decide +kernel
theorem d_Sim_pass_293 : decode M_Sim_pass.2.1 293 = .ok (.aload 4, 2) := by decide +kernel
theorem d_Sim_pass_295 : decode M_Sim_pass.2.1 295 = .ok (.iload 6, 2) := by decide +kernel
theorem d_Sim_pass_297 : decode M_Sim_pass.2.1 297 = .ok (.aaload, 1) := by decide +kernel
theorem d_Sim_pass_298 : decode M_Sim_pass.2.1 298 = .ok (.astore 7, 2) := by decide +kernel
theorem d_Sim_pass_300 : decode M_Sim_pass.2.1 300 = .ok (.aload 7, 2) := by decide +kernel
theorem d_Sim_pass_302 : decode M_Sim_pass.2.1 302 = .ok (.bipush 7, 2) := by decide +kernel
theorem d_Sim_pass_304 : decode M_Sim_pass.2.1 304 = .ok (.iconst 0, 1) := by decide +kernel
theorem d_Sim_pass_305 : decode M_Sim_pass.2.1 305 = .ok (.iastore, 1) := by decide +kernel
theorem d_Sim_pass_306 : decode M_Sim_pass.2.1 306 = .ok (.iinc 6 1, 3) := by decide +kernel
theorem d_Sim_pass_309 : decode M_Sim_pass.2.1 309 = .ok (.goto (-23), 3) := by decide +kernel
def l_Sim_pass_286 (A : AD) : Nat → Nat → SM → SM
  | 0, _, Y => Y
  | k + 1, i, Y => (l_Sim_pass_286 A k (i + 1) (sm_set Y 4 i 7 0))
set_option maxRecDepth 100000 in
set_option maxHeartbeats 4000000 in
theorem l_Sim_pass_286_go {C S : Nat} {Γ : G9} {h : AH} {z : Nat} {dn hd kd : Int32} {n : Nat} {Q : QT} {X : XT} {A : AD} (hA : AOk A) (hn20 : n ≤ 20) : ∀ (k i : Nat) (Y : SM), i + k = n → cn A 4 = n → Go Γ M_Sim_pass 4 C S 312 [some (.ref (ad A 6 0)), some (.int dn), some (.int hd), some (.int kd), some (.ref (ad A 8 4)), some (.int (nI (cn A 4))), some (.int (nI (i + k))), none, none, none, none, none] [] (smC Γ A h (l_Sim_pass_286 A k i Y)) z Q X → Go Γ M_Sim_pass 4 C S 286 [some (.ref (ad A 6 0)), some (.int dn), some (.int hd), some (.int kd), some (.ref (ad A 8 4)), some (.int (nI (cn A 4))), some (.int (nI i)), none, none, none, none, none] [] (smC Γ A h Y) z Q X := by
  intro k
  induction k with
  | zero =>
    intro i Y hi hn hk
    refine Go.iload_6 d_Sim_pass_286 rfl ?_
    refine Go.iload_5 d_Sim_pass_288 rfl ?_
    refine Go.icmp_ge (t := 312) d_Sim_pass_290 (by decide) rfl (fun c290_1 => ?_) (fun c290_1 => ?_)
    · exact hk
    · exact absurd (nI_le (by omega) (by omega)) c290_1
  | succ k ih =>
    intro i Y hi hn hk
    unfold l_Sim_pass_286 at hk
    rw [show i + (k + 1) = i + 1 + k by omega] at hk
    refine Go.iload_6 d_Sim_pass_286 rfl ?_
    refine Go.iload_5 d_Sim_pass_288 rfl ?_
    refine Go.icmp_ge (t := 312) d_Sim_pass_290 (by decide) rfl (fun c290_1 => ?_) (fun c290_1 => ?_)
    · exact absurd c290_1 (nI_ge (by omega) (by omega))
    · refine Go.aload_4 d_Sim_pass_293 rfl ?_
      refine Go.iload_6 d_Sim_pass_295 rfl ?_
      refine Go.aaldA d_Sim_pass_297 rfl (sm_out hA (by decide)) (vp_in_nI (by omega) (Nat.lt_of_le_of_lt (hA.2.2 4 (by decide)) (by decide))) ?_
      rw [nI_clamp (show i < 2 ^ 31 from Nat.lt_trans (Nat.lt_of_lt_of_le (show i < cn A 4 by first | assumption | omega) (hA.2.2 4 (by decide))) (by decide))]
      refine Go.astore_7 d_Sim_pass_298 rfl (by rfl) ?_
      refine Go.aload_7 d_Sim_pass_300 rfl ?_
      refine Go.bipush (v := 7) d_Sim_pass_302 rfl (by decide) ?_
      refine Go.iconst (v := 0) d_Sim_pass_304 rfl (by decide) ?_
      refine Go.iastore d_Sim_pass_305 rfl (sm_row hA (by decide) (by omega)) (okI_in (by decide)) ?_
      rw [show (7 : Int32).toNatClampNeg = 7 from by decide]
      refine Go.heq (sm_setup hA (by decide) (by omega)) ?_
      refine Go.iinc_6 d_Sim_pass_306 rfl (by rfl) (nI_inc _) ?_
      refine Go.goto (t := 286) d_Sim_pass_309 (by decide) ?_
      refine Go.fgt [some (.ref (ad A 6 0)), some (.int dn), some (.int hd), some (.int kd), some (.ref (ad A 8 4)), some (.int (nI (cn A 4))), some (.int (nI (i + 1))), none, none, none, none, none] (by repeat' (first | exact trivial | refine ⟨rfl, ?_⟩)) ?_
      exact ih (i + 1) _ (by omega) (by first | exact hn | (simp only []; exact hn)) hk
set_option maxRecDepth 100000 in
set_option maxHeartbeats 4000000 in
theorem sm_dy_l_Sim_pass_286 {A : AD} : ∀ (k i : Nat) (Y : SM), sm_dy (l_Sim_pass_286 A k i Y) = sm_dy Y := by
  intro k
  induction k with
  | zero => intros; rfl
  | succ k ih =>
    intros
    unfold l_Sim_pass_286
    (repeat' split) <;> (try simp only [ih, sm_dy_set, sm_dy_fl, sm_dy_ca, sm_dy_rd, sm_dy_Sim_probes, sm_dy_l_Sim_fills_29, sm_dy_Sim_fills, sm_dy_l_Sim_drills_25, sm_dy_Sim_drills, sm_dy_l_Sim_weather_145, sm_dy_l_Sim_weather_230, sm_dy_g_Sim_weather_131, sm_dy_g_Sim_weather_113, sm_dy_g_Sim_weather_79, sm_dy_g_Sim_weather_46, sm_dy_g_Sim_weather_33, sm_dy_Sim_weather, sm_dy_l_Sim_eats_57, sm_dy_l_Sim_eats_43, sm_dy_Sim_eats, sm_dy_rd, sm_dy_l_Sim_pass_72, sm_dy_l_Sim_pass_108, sm_dy_l_Sim_pass_184, sm_dy_l_Sim_pass_156])
set_option maxRecDepth 100000 in
set_option maxHeartbeats 4000000 in
theorem v5_l_Sim_pass_286 {A : AD} : ∀ (k i : Nat) (Y : SM), v5 (l_Sim_pass_286 A k i Y) = v5 Y := by
  intro k
  induction k with
  | zero => intros; rfl
  | succ k ih =>
    intros
    unfold l_Sim_pass_286
    (repeat' split) <;> (try simp only [ih, v5_set0, v5_set1, v5_set2, v5_set3, v5_set4, v5_fl, v5_ca, v5_rd, v5_Sim_probes, v5_l_Sim_fills_29, v5_Sim_fills, v5_l_Sim_drills_25, v5_Sim_drills, v5_l_Sim_weather_145, v5_l_Sim_weather_230, v5_g_Sim_weather_131, v5_g_Sim_weather_113, v5_g_Sim_weather_79, v5_g_Sim_weather_46, v5_g_Sim_weather_33, v5_Sim_weather, v5_l_Sim_eats_57, v5_l_Sim_eats_43, v5_Sim_eats, v5_rd, v5_l_Sim_pass_72, v5_l_Sim_pass_108, v5_l_Sim_pass_184, v5_l_Sim_pass_156])
def restF (A : AD) (Y : SM) : SM := l_Sim_pass_286 A (cn A 4) 0 (l_Sim_pass_156 A (cn A 4) 0 (l_Sim_pass_108 A (cn A 4) 0 (l_Sim_pass_72 A (cn A 0) 0 Y)))
def dayF (A : AD) (Y : SM) : SM := sm_dy' (restF A (ordF A (cn A 5) 0 Y)) (sm_dy (restF A (ordF A (cn A 5) 0 Y)) + 1)
def passF (A : AD) : Nat → SM → SM
  | 0, Y => Y
  | n + 1, Y => passF A n (dayF A Y)
def s_Sim_pass (A : AD) (Y : SM) (n : Nat) : Int32 × SM := (sm_rd (passF A n Y) - sm_rd Y, passF A n Y)
theorem sm_dy_rest {A : AD} {Y : SM} : sm_dy (restF A Y) = sm_dy Y := by
  unfold restF
  rw [sm_dy_l_Sim_pass_286, sm_dy_l_Sim_pass_156, sm_dy_l_Sim_pass_108, sm_dy_l_Sim_pass_72]
theorem v5_rest {A : AD} {Y : SM} : v5 (restF A Y) = v5 Y := by
  unfold restF
  rw [v5_l_Sim_pass_286, v5_l_Sim_pass_156, v5_l_Sim_pass_108, v5_l_Sim_pass_72]
theorem sm_dy_day {A : AD} {Y : SM} : sm_dy (dayF A Y) = sm_dy Y + 1 := by
  show sm_dy (restF A (ordF A (cn A 5) 0 Y)) + 1 = _
  rw [sm_dy_rest, sm_dy_ord]
theorem v5_day {A : AD} {Y : SM} : v5 (dayF A Y) = v5 Y := by
  show v5 (restF A (ordF A (cn A 5) 0 Y)) = _
  rw [v5_rest, v5_ord]
theorem d_Sim_pass_26 : decode M_Sim_pass.2.1 26 = .ok (.iload 6, 2) := by decide +kernel
theorem d_Sim_pass_28 : decode M_Sim_pass.2.1 28 = .ok (.iload 5, 2) := by decide +kernel
theorem d_Sim_pass_30 : decode M_Sim_pass.2.1 30 = .ok (.if_icmp .ge 39, 3) := by decide +kernel
theorem d_Sim_pass_33 : decode M_Sim_pass.2.1 33 = .ok (.aload 4, 2) := by decide +kernel
theorem d_Sim_pass_35 : decode M_Sim_pass.2.1 35 = .ok (.iload 6, 2) := by decide +kernel
theorem d_Sim_pass_37 : decode M_Sim_pass.2.1 37 = .ok (.aaload, 1) := by decide +kernel
theorem d_Sim_pass_38 : decode M_Sim_pass.2.1 38 = .ok (.astore 7, 2) := by decide +kernel
theorem d_Sim_pass_40 : decode M_Sim_pass.2.1 40 = .ok (.aload_n 0, 1) := by decide +kernel
theorem d_Sim_pass_41 : decode M_Sim_pass.2.1 41 = .ok (.dup, 1) := by decide +kernel
theorem d_Sim_pass_42 : decode M_Sim_pass.2.1 42 = .ok (.getfield 44, 3) := by decide +kernel
theorem d_Sim_pass_45 : decode M_Sim_pass.2.1 45 = .ok (.aload_n 0, 1) := by decide +kernel
theorem d_Sim_pass_46 : decode M_Sim_pass.2.1 46 = .ok (.aload 7, 2) := by decide +kernel
theorem d_Sim_pass_48 : decode M_Sim_pass.2.1 48 = .ok (.invokevirtual 97, 3) := by decide +kernel
theorem d_Sim_pass_51 : decode M_Sim_pass.2.1 51 = .ok (.ifCond .eq 7, 3) := by decide +kernel
theorem d_Sim_pass_58 : decode M_Sim_pass.2.1 58 = .ok (.iconst 0, 1) := by decide +kernel
theorem d_Sim_pass_59 : decode M_Sim_pass.2.1 59 = .ok (.iadd, 1) := by decide +kernel
theorem d_Sim_pass_60 : decode M_Sim_pass.2.1 60 = .ok (.putfield 44, 3) := by decide +kernel
theorem d_Sim_pass_63 : decode M_Sim_pass.2.1 63 = .ok (.iinc 6 1, 3) := by decide +kernel
theorem d_Sim_pass_66 : decode M_Sim_pass.2.1 66 = .ok (.goto (-40), 3) := by decide +kernel
theorem d_Sim_pass_54 : decode M_Sim_pass.2.1 54 = .ok (.iconst 1, 1) := by decide +kernel
theorem d_Sim_pass_55 : decode M_Sim_pass.2.1 55 = .ok (.goto 4, 3) := by decide +kernel
set_option maxRecDepth 100000 in
set_option maxHeartbeats 4000000 in
theorem pass_26 {Γ : G9} {A : AD} {h : AH} {C S : Nat} {dn hd kd : Int32} {Q : QT} {X : XT} (hA : AOk A) : ∀ (k i z : Nat) (Y : SM), i + k = cn A 5 → OrdsOk A Y → sm_dy Y < 1000000 → (∀ z', z ≤ z' → Go Γ M_Sim_pass 4 C S 69 [some (.ref (ad A 6 0)), some (.int dn), some (.int hd), some (.int kd), some (.ref (ad A 8 5)), some (.int (nI (cn A 5))), some (.int (nI (cn A 5))), none, none, none, none, none] [] (smC Γ A h (ordF A k i Y)) z' Q X) → Go Γ M_Sim_pass 4 (k * 18 + C) (k * 128 + S) 26 [some (.ref (ad A 6 0)), some (.int dn), some (.int hd), some (.int kd), some (.ref (ad A 8 5)), some (.int (nI (cn A 5))), some (.int (nI i)), none, none, none, none, none] [] (smC Γ A h Y) z Q X := by
  intro k
  have h8 := hA.2.2 5 (by decide)
  induction k with
  | zero =>
    intro i z Y hi ho hdy hk
    obtain rfl : i = cn A 5 := by omega
    refine Go.room (C' := C) (S' := S) ?_ (Nat.le_refl _) (by omega) (by omega)
    refine Go.iload_6 d_Sim_pass_26 rfl ?_
    refine Go.iload_5 d_Sim_pass_28 rfl ?_
    refine Go.icmp_ge (t := 69) d_Sim_pass_30 (by decide) rfl (fun _ => ?_) (fun w => absurd (nI_le (Nat.le_refl _) (by omega)) w)
    exact hk z (Nat.le_refl z)
  | succ k ih =>
    intro i z Y hi ho hdy hk
    have bi : i < cn A 5 := by omega
    refine Go.iload_6 d_Sim_pass_26 rfl ?_
    refine Go.iload_5 d_Sim_pass_28 rfl ?_
    refine Go.icmp_ge (t := 69) d_Sim_pass_30 (by decide) rfl (fun w => absurd w (nI_ge bi (by omega))) (fun _ => ?_)
    refine Go.aload_4 d_Sim_pass_33 rfl ?_
    refine Go.iload_6 d_Sim_pass_35 rfl ?_
    refine Go.aaldA d_Sim_pass_37 rfl (sm_out hA (by decide)) (vp_in_nI bi (Nat.lt_of_le_of_lt (hA.2.2 5 (by decide)) (by decide))) ?_
    rw [nI_clamp (show i < 2 ^ 31 from Nat.lt_trans (Nat.lt_of_lt_of_le (show i < cn A 5 by first | assumption | omega) (hA.2.2 5 (by decide))) (by decide))]
    refine Go.astore_7 d_Sim_pass_38 rfl (by rfl) ?_
    refine Go.aload_0 d_Sim_pass_40 rfl ?_
    refine Go.dup d_Sim_pass_41 rfl rfl ?_
    refine Go.getfield d_Sim_pass_42 rfl f_Sim_44 (sm_obj hA) rfl ?_
    refine Go.aload_0 d_Sim_pass_45 rfl ?_
    refine Go.aload_7 d_Sim_pass_46 rfl ?_
    refine Go.cvG (C1 := k * 18 + C) (S1 := k * 128 + S) (as := [.ref (ad A 5 i)]) d_Sim_pass_48 rfl l_Sim_97 k_Sim_carries_v rfl (sm_obj hA) rfl rfl (c_Sim_carries bi hA hdy (ho i bi)) rfl rfl (by omega) (by omega) rfl (fun z1 hz1 => ?_)
    refine Go.room (C' := k * 18 + C) (S' := k * 128 + S) ?_ (Nat.le_refl _) (by omega) (by omega)
    unfold ordF at hk
    by_cases c1 : (s_Sim_carries A Y i).1 = 0
    · rw [if_pos c1] at hk
      refine Go.if_eq (t := 58) d_Sim_pass_51 (by decide) rfl (fun _ => ?_) (fun w => absurd c1 w)
      refine Go.iconst (v := 0) d_Sim_pass_58 rfl (by decide) ?_
      refine Go.iadd d_Sim_pass_59 rfl ?_
      refine Go.putfield d_Sim_pass_60 rfl f_Sim_44_p (Or.inl (fun C T N h => by cases h; rfl)) (sm_obj hA) (by exact Nat.le_of_ble_eq_true rfl) rfl rfl ?_
      refine Go.heq (sm_caup hA) ?_
      refine Go.iinc_6 d_Sim_pass_63 rfl (by rfl) (nI_inc _) ?_
      refine Go.goto (t := 26) d_Sim_pass_66 (by decide) ?_
      refine Go.fgt [some (.ref (ad A 6 0)), some (.int dn), some (.int hd), some (.int kd), some (.ref (ad A 8 5)), some (.int (nI (cn A 5))), some (.int (nI (i + 1))), none, none, none, none, none] (by repeat' (first | exact trivial | refine ⟨rfl, ?_⟩)) ?_
      exact ih (i + 1) z1 _ (by omega) (ho.to v5_carries) (by rw [sm_dy_ca, sm_dy_carries]; exact hdy) (fun z' hz' => hk z' (by omega))
    · rw [if_neg c1] at hk
      refine Go.if_eq (t := 58) d_Sim_pass_51 (by decide) rfl (fun w => absurd w c1) (fun _ => ?_)
      refine Go.iconst (v := 1) d_Sim_pass_54 rfl (by decide) ?_
      refine Go.goto (t := 59) d_Sim_pass_55 (by decide) ?_
      refine Go.iadd d_Sim_pass_59 rfl ?_
      refine Go.putfield d_Sim_pass_60 rfl f_Sim_44_p (Or.inl (fun C T N h => by cases h; rfl)) (sm_obj hA) (by exact Nat.le_of_ble_eq_true rfl) rfl rfl ?_
      refine Go.heq (sm_caup hA) ?_
      refine Go.iinc_6 d_Sim_pass_63 rfl (by rfl) (nI_inc _) ?_
      refine Go.goto (t := 26) d_Sim_pass_66 (by decide) ?_
      refine Go.fgt [some (.ref (ad A 6 0)), some (.int dn), some (.int hd), some (.int kd), some (.ref (ad A 8 5)), some (.int (nI (cn A 5))), some (.int (nI (i + 1))), none, none, none, none, none] (by repeat' (first | exact trivial | refine ⟨rfl, ?_⟩)) ?_
      exact ih (i + 1) z1 _ (by omega) (ho.to v5_carries) (by rw [sm_dy_ca, sm_dy_carries]; exact hdy) (fun z' hz' => hk z' (by omega))
theorem d_Sim_pass_69 : decode M_Sim_pass.2.1 69 = .ok (.iconst 0, 1) := by decide +kernel
theorem d_Sim_pass_70 : decode M_Sim_pass.2.1 70 = .ok (.istore 4, 2) := by decide +kernel
theorem d_Sim_pass_94 : decode M_Sim_pass.2.1 94 = .ok (.aload_n 0, 1) := by decide +kernel
theorem d_Sim_pass_95 : decode M_Sim_pass.2.1 95 = .ok (.getfield 27, 3) := by decide +kernel
theorem d_Sim_pass_98 : decode M_Sim_pass.2.1 98 = .ok (.astore 4, 2) := by decide +kernel
theorem d_Sim_pass_100 : decode M_Sim_pass.2.1 100 = .ok (.aload 4, 2) := by decide +kernel
theorem d_Sim_pass_102 : decode M_Sim_pass.2.1 102 = .ok (.arraylength, 1) := by decide +kernel
theorem d_Sim_pass_103 : decode M_Sim_pass.2.1 103 = .ok (.istore 5, 2) := by decide +kernel
theorem d_Sim_pass_105 : decode M_Sim_pass.2.1 105 = .ok (.iconst 0, 1) := by decide +kernel
theorem d_Sim_pass_106 : decode M_Sim_pass.2.1 106 = .ok (.istore 6, 2) := by decide +kernel
theorem d_Sim_pass_142 : decode M_Sim_pass.2.1 142 = .ok (.aload_n 0, 1) := by decide +kernel
theorem d_Sim_pass_143 : decode M_Sim_pass.2.1 143 = .ok (.getfield 27, 3) := by decide +kernel
theorem d_Sim_pass_146 : decode M_Sim_pass.2.1 146 = .ok (.astore 4, 2) := by decide +kernel
theorem d_Sim_pass_148 : decode M_Sim_pass.2.1 148 = .ok (.aload 4, 2) := by decide +kernel
theorem d_Sim_pass_150 : decode M_Sim_pass.2.1 150 = .ok (.arraylength, 1) := by decide +kernel
theorem d_Sim_pass_151 : decode M_Sim_pass.2.1 151 = .ok (.istore 5, 2) := by decide +kernel
theorem d_Sim_pass_153 : decode M_Sim_pass.2.1 153 = .ok (.iconst 0, 1) := by decide +kernel
theorem d_Sim_pass_154 : decode M_Sim_pass.2.1 154 = .ok (.istore 6, 2) := by decide +kernel
theorem d_Sim_pass_272 : decode M_Sim_pass.2.1 272 = .ok (.aload_n 0, 1) := by decide +kernel
theorem d_Sim_pass_273 : decode M_Sim_pass.2.1 273 = .ok (.getfield 27, 3) := by decide +kernel
theorem d_Sim_pass_276 : decode M_Sim_pass.2.1 276 = .ok (.astore 4, 2) := by decide +kernel
theorem d_Sim_pass_278 : decode M_Sim_pass.2.1 278 = .ok (.aload 4, 2) := by decide +kernel
theorem d_Sim_pass_280 : decode M_Sim_pass.2.1 280 = .ok (.arraylength, 1) := by decide +kernel
theorem d_Sim_pass_281 : decode M_Sim_pass.2.1 281 = .ok (.istore 5, 2) := by decide +kernel
theorem d_Sim_pass_283 : decode M_Sim_pass.2.1 283 = .ok (.iconst 0, 1) := by decide +kernel
theorem d_Sim_pass_284 : decode M_Sim_pass.2.1 284 = .ok (.istore 6, 2) := by decide +kernel
set_option maxRecDepth 100000 in
set_option maxHeartbeats 4000000 in
theorem pass_69 {Γ : G9} {A : AD} {h : AH} {Y : SM} {z : Nat} {C S : Nat} {dn hd kd : Int32} {Q : QT} {X : XT} (hA : AOk A) (hdy : sm_dy Y < 1000000) (hk : Go Γ M_Sim_pass 4 C S 312 [some (.ref (ad A 6 0)), some (.int dn), some (.int hd), some (.int kd), none, none, none, none, none, none, none, none] [] (smC Γ A h (restF A Y)) z Q X) : Go Γ M_Sim_pass 4 C S 69 [some (.ref (ad A 6 0)), some (.int dn), some (.int hd), some (.int kd), some (.ref (ad A 8 5)), some (.int (nI (cn A 5))), some (.int (nI (cn A 5))), none, none, none, none, none] [] (smC Γ A h Y) z Q X := by
  unfold restF at hk
  refine Go.iconst (v := 0) d_Sim_pass_69 rfl (by decide) ?_
  refine Go.istore_4 d_Sim_pass_70 rfl (by rfl) ?_
  refine Go.fgt [some (.ref (ad A 6 0)), some (.int dn), some (.int hd), some (.int kd), some (.int 0), none, none, none, none, none, none, none] (by repeat' (first | exact trivial | refine ⟨rfl, ?_⟩)) ?_
  refine l_Sim_pass_72_go (n := cn A 0) hA (Nat.le_trans (hA.2.2 0 (by decide)) (by decide)) (cn A 0) 0 Y (by omega) rfl hdy ?_
  refine Go.aload_0 d_Sim_pass_94 rfl ?_
  refine Go.getfield d_Sim_pass_95 rfl f_Sim_27 (sm_obj hA) rfl ?_
  refine Go.astore_4 d_Sim_pass_98 rfl (by rfl) ?_
  refine Go.aload_4 d_Sim_pass_100 rfl ?_
  refine Go.alen (t := 4) (n := nI (cn A 4)) d_Sim_pass_102 rfl (sm_out hA (by decide)) rfl rfl ?_
  refine Go.istore_5 d_Sim_pass_103 rfl (by rfl) ?_
  refine Go.iconst (v := 0) d_Sim_pass_105 rfl (by decide) ?_
  refine Go.istore_6 d_Sim_pass_106 rfl (by rfl) ?_
  refine Go.fgt [some (.ref (ad A 6 0)), some (.int dn), some (.int hd), some (.int kd), some (.ref (ad A 8 4)), some (.int (nI (cn A 4))), some (.int 0), none, none, none, none, none] (by repeat' (first | exact trivial | refine ⟨rfl, ?_⟩)) ?_
  refine l_Sim_pass_108_go (n := cn A 4) hA (Nat.le_trans (hA.2.2 4 (by decide)) (by decide)) (cn A 4) 0 (l_Sim_pass_72 A (cn A 0) 0 Y) (by omega) rfl ?_
  refine Go.aload_0 d_Sim_pass_142 rfl ?_
  refine Go.getfield d_Sim_pass_143 rfl f_Sim_27 (sm_obj hA) rfl ?_
  refine Go.astore_4 d_Sim_pass_146 rfl (by rfl) ?_
  refine Go.aload_4 d_Sim_pass_148 rfl ?_
  refine Go.alen (t := 4) (n := nI (cn A 4)) d_Sim_pass_150 rfl (sm_out hA (by decide)) rfl rfl ?_
  refine Go.istore_5 d_Sim_pass_151 rfl (by rfl) ?_
  refine Go.iconst (v := 0) d_Sim_pass_153 rfl (by decide) ?_
  refine Go.istore_6 d_Sim_pass_154 rfl (by rfl) ?_
  refine Go.fgt [some (.ref (ad A 6 0)), some (.int dn), some (.int hd), some (.int kd), some (.ref (ad A 8 4)), some (.int (nI (cn A 4))), some (.int 0), none, none, none, none, none] (by repeat' (first | exact trivial | refine ⟨rfl, ?_⟩)) ?_
  refine l_Sim_pass_156_go (n := cn A 4) hA (Nat.le_trans (hA.2.2 4 (by decide)) (by decide)) (cn A 4) 0 (l_Sim_pass_108 A (cn A 4) 0 (l_Sim_pass_72 A (cn A 0) 0 Y)) (by omega) rfl ?_
  refine Go.aload_0 d_Sim_pass_272 rfl ?_
  refine Go.getfield d_Sim_pass_273 rfl f_Sim_27 (sm_obj hA) rfl ?_
  refine Go.astore_4 d_Sim_pass_276 rfl (by rfl) ?_
  refine Go.aload_4 d_Sim_pass_278 rfl ?_
  refine Go.alen (t := 4) (n := nI (cn A 4)) d_Sim_pass_280 rfl (sm_out hA (by decide)) rfl rfl ?_
  refine Go.istore_5 d_Sim_pass_281 rfl (by rfl) ?_
  refine Go.iconst (v := 0) d_Sim_pass_283 rfl (by decide) ?_
  refine Go.istore_6 d_Sim_pass_284 rfl (by rfl) ?_
  refine Go.fgt [some (.ref (ad A 6 0)), some (.int dn), some (.int hd), some (.int kd), some (.ref (ad A 8 4)), some (.int (nI (cn A 4))), some (.int 0), none, none, none, none, none] (by repeat' (first | exact trivial | refine ⟨rfl, ?_⟩)) ?_
  refine l_Sim_pass_286_go (n := cn A 4) hA (Nat.le_trans (hA.2.2 4 (by decide)) (by decide)) (cn A 4) 0 (l_Sim_pass_156 A (cn A 4) 0 (l_Sim_pass_108 A (cn A 4) 0 (l_Sim_pass_72 A (cn A 0) 0 Y))) (by omega) rfl ?_
  refine Go.fgt [some (.ref (ad A 6 0)), some (.int dn), some (.int hd), some (.int kd), none, none, none, none, none, none, none, none] (by repeat' (first | exact trivial | refine ⟨rfl, ?_⟩)) ?_
  exact hk
theorem d_Sim_pass_7 : decode M_Sim_pass.2.1 7 = .ok (.iload_n 3, 1) := by decide +kernel
theorem d_Sim_pass_8 : decode M_Sim_pass.2.1 8 = .ok (.iload_n 1, 1) := by decide +kernel
theorem d_Sim_pass_9 : decode M_Sim_pass.2.1 9 = .ok (.if_icmp .ge 319, 3) := by decide +kernel
theorem d_Sim_pass_328 : decode M_Sim_pass.2.1 328 = .ok (.aload_n 0, 1) := by decide +kernel
theorem d_Sim_pass_329 : decode M_Sim_pass.2.1 329 = .ok (.getfield 38, 3) := by decide +kernel
theorem d_Sim_pass_332 : decode M_Sim_pass.2.1 332 = .ok (.iload_n 2, 1) := by decide +kernel
theorem d_Sim_pass_333 : decode M_Sim_pass.2.1 333 = .ok (.isub, 1) := by decide +kernel
theorem d_Sim_pass_334 : decode M_Sim_pass.2.1 334 = .ok (.ireturn, 1) := by decide +kernel
theorem d_Sim_pass_12 : decode M_Sim_pass.2.1 12 = .ok (.aload_n 0, 1) := by decide +kernel
theorem d_Sim_pass_13 : decode M_Sim_pass.2.1 13 = .ok (.getfield 30, 3) := by decide +kernel
theorem d_Sim_pass_16 : decode M_Sim_pass.2.1 16 = .ok (.astore 4, 2) := by decide +kernel
theorem d_Sim_pass_18 : decode M_Sim_pass.2.1 18 = .ok (.aload 4, 2) := by decide +kernel
theorem d_Sim_pass_20 : decode M_Sim_pass.2.1 20 = .ok (.arraylength, 1) := by decide +kernel
theorem d_Sim_pass_21 : decode M_Sim_pass.2.1 21 = .ok (.istore 5, 2) := by decide +kernel
theorem d_Sim_pass_23 : decode M_Sim_pass.2.1 23 = .ok (.iconst 0, 1) := by decide +kernel
theorem d_Sim_pass_24 : decode M_Sim_pass.2.1 24 = .ok (.istore 6, 2) := by decide +kernel
theorem d_Sim_pass_312 : decode M_Sim_pass.2.1 312 = .ok (.aload_n 0, 1) := by decide +kernel
theorem d_Sim_pass_313 : decode M_Sim_pass.2.1 313 = .ok (.dup, 1) := by decide +kernel
theorem d_Sim_pass_314 : decode M_Sim_pass.2.1 314 = .ok (.getfield 34, 3) := by decide +kernel
theorem d_Sim_pass_317 : decode M_Sim_pass.2.1 317 = .ok (.iconst 1, 1) := by decide +kernel
theorem d_Sim_pass_318 : decode M_Sim_pass.2.1 318 = .ok (.iadd, 1) := by decide +kernel
theorem d_Sim_pass_319 : decode M_Sim_pass.2.1 319 = .ok (.putfield 34, 3) := by decide +kernel
theorem d_Sim_pass_322 : decode M_Sim_pass.2.1 322 = .ok (.iinc 3 1, 3) := by decide +kernel
theorem d_Sim_pass_325 : decode M_Sim_pass.2.1 325 = .ok (.goto (-318), 3) := by decide +kernel
set_option maxRecDepth 100000 in
set_option maxHeartbeats 4000000 in
theorem pass_7 {Γ : G9} {A : AD} {h : AH} {hd : Int32} {n : Nat} (hA : AOk A) (hn : n ≤ 100) : ∀ (k i z : Nat) (Y : SM), i + k = n → OrdsOk A Y → sm_dy Y + k < 1000000 → Go Γ M_Sim_pass 4 (k * 144) (k * 1024) 7 [some (.ref (ad A 6 0)), some (.int (nI n)), some (.int hd), some (.int (nI i)), none, none, none, none, none, none, none, none] [] (smC Γ A h Y) z (RG9 (some (.int (sm_rd (passF A k Y) - hd))) (smC Γ A h (passF A k Y))) noX := by
  intro k
  have h8 := hA.2.2 5 (by decide)
  induction k with
  | zero =>
    intro i z Y hi ho hdy
    obtain rfl : i = n := by omega
    unfold passF
    refine Go.iload_3 d_Sim_pass_7 rfl ?_
    refine Go.iload_1 d_Sim_pass_8 rfl ?_
    refine Go.icmp_ge (t := 328) d_Sim_pass_9 (by decide) rfl (fun _ => ?_) (fun w => absurd (nI_le (Nat.le_refl _) (by omega)) w)
    refine Go.aload_0 d_Sim_pass_328 rfl ?_
    refine Go.getfield d_Sim_pass_329 rfl f_Sim_38 (sm_obj hA) rfl ?_
    refine Go.iload_2 d_Sim_pass_332 rfl ?_
    refine Go.isub d_Sim_pass_333 rfl ?_
    exact Go.iret d_Sim_pass_334 rfl rfl ⟨rfl, rfl⟩
  | succ k ih =>
    intro i z Y hi ho hdy
    unfold passF
    refine Go.iload_3 d_Sim_pass_7 rfl ?_
    refine Go.iload_1 d_Sim_pass_8 rfl ?_
    refine Go.icmp_ge (t := 328) d_Sim_pass_9 (by decide) rfl (fun w => absurd w (nI_ge (by omega) (by omega))) (fun _ => ?_)
    refine Go.aload_0 d_Sim_pass_12 rfl ?_
    refine Go.getfield d_Sim_pass_13 rfl f_Sim_30 (sm_obj hA) rfl ?_
    refine Go.astore_4 d_Sim_pass_16 rfl (by rfl) ?_
    refine Go.aload_4 d_Sim_pass_18 rfl ?_
    refine Go.alen (t := 4) (n := nI (cn A 5)) d_Sim_pass_20 rfl (sm_out hA (by decide)) rfl rfl ?_
    refine Go.istore_5 d_Sim_pass_21 rfl (by rfl) ?_
    refine Go.iconst (v := 0) d_Sim_pass_23 rfl (by decide) ?_
    refine Go.istore_6 d_Sim_pass_24 rfl (by rfl) ?_
    refine Go.room (C' := cn A 5 * 18 + k * 144) (S' := cn A 5 * 128 + k * 1024) ?_ (Nat.le_refl _) (by omega) (by omega)
    refine Go.fgt [some (.ref (ad A 6 0)), some (.int (nI n)), some (.int hd), some (.int (nI i)), some (.ref (ad A 8 5)), some (.int (nI (cn A 5))), some (.int 0), none, none, none, none, none] (by repeat' (first | exact trivial | refine ⟨rfl, ?_⟩)) ?_
    refine pass_26 hA (cn A 5) 0 z Y (by omega) ho (by omega) (fun z1 hz1 => ?_)
    refine pass_69 hA (by rw [sm_dy_ord]; omega) ?_
    refine Go.aload_0 d_Sim_pass_312 rfl ?_
    refine Go.dup d_Sim_pass_313 rfl rfl ?_
    refine Go.getfield d_Sim_pass_314 rfl f_Sim_34 (sm_obj hA) rfl ?_
    refine Go.iconst (v := 1) d_Sim_pass_317 rfl (by decide) ?_
    refine Go.iadd d_Sim_pass_318 rfl ?_
    rw [nI_1]
    refine Go.putfield d_Sim_pass_319 rfl f_Sim_34_p (Or.inl (fun C T N h => by cases h; rfl)) (sm_obj hA) (by exact Nat.le_of_ble_eq_true rfl) rfl rfl ?_
    refine Go.heq (sm_dyup hA) ?_
    refine Go.iinc_3 d_Sim_pass_322 rfl (by rfl) (nI_inc _) ?_
    refine Go.goto (t := 7) d_Sim_pass_325 (by decide) ?_
    exact ih (i + 1) z1 (dayF A Y) (by omega) (ho.to v5_day) (by rw [sm_dy_day]; omega)
theorem d_Sim_pass_0 : decode M_Sim_pass.2.1 0 = .ok (.aload_n 0, 1) := by decide +kernel
theorem d_Sim_pass_1 : decode M_Sim_pass.2.1 1 = .ok (.getfield 38, 3) := by decide +kernel
theorem d_Sim_pass_4 : decode M_Sim_pass.2.1 4 = .ok (.istore_n 2, 1) := by decide +kernel
theorem d_Sim_pass_5 : decode M_Sim_pass.2.1 5 = .ok (.iconst 0, 1) := by decide +kernel
theorem d_Sim_pass_6 : decode M_Sim_pass.2.1 6 = .ok (.istore_n 3, 1) := by decide +kernel
set_option maxRecDepth 100000 in
set_option maxHeartbeats 4000000 in
theorem c_Sim_pass {Γ : G9} {A : AD} {h : AH} {Y : SM} {z n : Nat} {vn : Int32} (en : vn = nI n) (hn : n ≤ 100) (hA : AOk A) (ho : OrdsOk A Y) (hdy : sm_dy Y + n < 1000000) : CallG Γ M_Sim_pass 4 (n * 144) (n * 1024) [.ref (ad A 6 0), .int vn] (smC Γ A h Y) z (some (.int (s_Sim_pass A Y n).1)) (smC Γ A h (s_Sim_pass A Y n).2) := by
  subst en
  refine Call.of_go (L := [some (.ref (ad A 6 0)), some (.int (nI n)), none, none, none, none, none, none, none, none, none, none]) (by decide +kernel) rfl (by exact Nat.le_of_ble_eq_true rfl) ?_
  refine Go.aload_0 d_Sim_pass_0 rfl ?_
  refine Go.getfield d_Sim_pass_1 rfl f_Sim_38 (sm_obj hA) rfl ?_
  refine Go.istore_2 d_Sim_pass_4 rfl (by rfl) ?_
  refine Go.iconst (v := 0) d_Sim_pass_5 rfl (by decide) ?_
  refine Go.istore_3 d_Sim_pass_6 rfl (by rfl) ?_
  exact pass_7 hA hn n 0 z Y (by omega) ho hdy
