/-! the law: its loop -/
section Lw
variable {Γ : G9} {A : AD} {c z0 z sa it : Nat} {Y : SM} {N : Nat} {dg : Int64} {h h' : AH} {ms : Nat → Nat} {Q : QT} {X : XT} {w8 : Int32}
theorem d_law_650 : decode M_law.2.1 650 = .ok (.iconst 0, 1) := by decide +kernel
theorem d_law_651 : decode M_law.2.1 651 = .ok (.istore 21, 2) := by decide +kernel
set_option maxRecDepth 100000 in
set_option maxHeartbeats 4000000 in
theorem law_all (hj : AJ A c z0) (hms : MsOk Γ ms) (hth : ThOk Γ) (hao : AoOk Γ) {n : Nat} {xs : Nat → Int32} (hsc : ScOk Γ sa n xs) (hn : n < 2 ^ 31) (hQ : ∀ h3 z3, Q (some (.int 1)) h3 z3) : ∀ (k it : Nat) (Y : SM) (N : Nat) (dg : Int64) (h h' : AH) (z C S : Nat), it + k = 20 → JW Γ A c Y Y N dg h h' → z0 ≤ z → N ≤ 1100 * it → 3400 * k + 600 ≤ C → 22000 * k + 4000 ≤ S → Go Γ M_law 80 C S 59 [some (.ref sa), some (.ref c), none, some (.ref ((ad A 6 0))), some (.int ((nI (cn A 0)))), some (.int ((nI (cn A 1)))), some (.int ((nI (cn A 4)))), some (.int ((nI it))), none, none, none, none, none, none, none, none, none, none, none, none, none, none, none, none, none, none, none, none, none, none, none] [] h' z Q X := by
  intro k
  induction k with
  | zero =>
    intro it Y N dg h h' z C S hi J hz hN hC hS
    have e : it = 20 := by omega
    subst e
    exact law_1298 hj hms hth J (by omega) hz (by omega) (by omega) hQ
  | succ k ih =>
    intro it Y N dg h h' z C S hi J hz hN hC hS
    have hc := hj.2.2.2.2 2 (by decide)
    refine law_59 hj hms hth J (by omega) hz hsc hn (by omega) (by omega) (by omega) (fun w8 Y2 dg2 h3 z2 C2 S2 J2 hz2 hC2 hS2 => ?_)
    refine law_97 hj hms hth J2 hz2 (by omega) (by omega) (by omega) (fun h4 h5 z3 am as ai C3 S3 J3 hz3 hC3 hS3 hr3 => ?_)
    refine law_230 hj hms hth J3 hz3 (by omega) (by omega) (by omega) (fun h6 h7 z4 aw C4 S4 J4 hz4 hC4 hS4 hw1 he1 => ?_)
    refine law_399 hj hms hth J4 hao hz4 (by omega) (by omega) (fun h8 h9 z5 aH C5 S5 J5 hz5 hd he2 hC5 hS5 => ?_)
    refine law_584 hj hms hth J5 (by omega) (by omega) (by omega) (fun h10 C6 S6 J6 hC6 hS6 => ?_)
    refine Go.iconst (v := 0) d_law_650 rfl (by decide) ?_
    refine Go.istore_21 d_law_651 rfl (by rfl) ?_
    refine law_653 hj hms hth J6 (by omega) (C0 := C6 - 84) (S0 := S6 - 504) (fun C7 S7 hC7 hS7 => ?_) (cn A 2) 0 _ _ (Nat.zero_add _) (by omega) (by omega)
    refine law_714 hj hms hth J6 (by omega) (by omega) (fun t x C8 S8 ht hx hC8 hS8 => ?_)
    refine law_766 hj hms hth J6 ht hx hd hz5 (by omega) (by omega) (fun Y3 dg3 h11 z6 C9 S9 J7 hg hz6 hC9 hS9 => ?_)
    refine law_892 hj hms hth J7 hg J6.iv (by omega) hz6 (by omega) (by omega) (fun dg4 h12 z7 C10 S10 J8 hz7 hC10 hS10 => ?_)
    obtain ⟨σ, T, F, hP, hO⟩ := J7.po
    refine law_948 hj hms hth J8 hd J6.iv J7.iv hg rfl (day_food hP hj.1 J7.iv.1 hO) (by omega) (by omega) (fun C11 S11 hC11 hS11 => ?_)
    refine Go.fgt [some (.ref sa), some (.ref c), none, some (.ref ((ad A 6 0))), some (.int ((nI (cn A 0)))), some (.int ((nI (cn A 1)))), some (.int ((nI (cn A 4)))), some (.int ((nI it))), none, none, none, some (.ref am), some (.ref as), some (.ref ai), none, some (.ref aw), none, none, none, none, some (.ref aH), none, none, none, none, none, none, none, none, none, none] (by repeat' (first | exact trivial | refine ⟨rfl, ?_⟩)) ?_
    refine law_1126 hj hms hth J8 J7.iv ⟨by omega, by omega⟩ hg rfl ((hr3.ext he1).ext he2) (hw1.ext he2) (by omega) (by omega) (fun C12 S12 hC12 hS12 => ?_)
    exact ih (it + 1) _ _ _ _ _ _ _ _ (by omega) J8 hz7 (by omega) (by omega) (by omega)
end Lw
