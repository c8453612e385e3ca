/-! whether all is the same in the end -/
section Sm
variable {Γ : G9} {A : AD} {c z0 z : Nat} {Y : SM} {N : Nat} {dg : Int64} {h h' : AH} {ms : Nat → Nat} {Q : QT} {X : XT}

theorem d_Sim_isSame_7 : decode M_Sim_isSame.2.1 7 = .ok (.iload_n 3, 1) := by decide +kernel
theorem d_Sim_isSame_8 : decode M_Sim_isSame.2.1 8 = .ok (.bipush 15, 2) := by decide +kernel
theorem d_Sim_isSame_10 : decode M_Sim_isSame.2.1 10 = .ok (.if_icmp .ge 22, 3) := by decide +kernel
theorem d_Sim_isSame_13 : decode M_Sim_isSame.2.1 13 = .ok (.aload_n 1, 1) := by decide +kernel
theorem d_Sim_isSame_14 : decode M_Sim_isSame.2.1 14 = .ok (.iload_n 3, 1) := by decide +kernel
theorem d_Sim_isSame_15 : decode M_Sim_isSame.2.1 15 = .ok (.invokevirtual 112, 3) := by decide +kernel
theorem d_Sim_isSame_18 : decode M_Sim_isSame.2.1 18 = .ok (.aload_n 2, 1) := by decide +kernel
theorem d_Sim_isSame_19 : decode M_Sim_isSame.2.1 19 = .ok (.iload_n 3, 1) := by decide +kernel
theorem d_Sim_isSame_20 : decode M_Sim_isSame.2.1 20 = .ok (.iaload, 1) := by decide +kernel
theorem d_Sim_isSame_21 : decode M_Sim_isSame.2.1 21 = .ok (.if_icmp .eq 5, 3) := by decide +kernel
theorem d_Sim_isSame_26 : decode M_Sim_isSame.2.1 26 = .ok (.iinc 3 1, 3) := by decide +kernel
theorem d_Sim_isSame_29 : decode M_Sim_isSame.2.1 29 = .ok (.goto (-22), 3) := by decide +kernel
set_option maxRecDepth 100000 in
set_option maxHeartbeats 4000000 in
theorem same_7 (hj : AJ A c z0) (hms : MsOk Γ ms) (hth : ThOk Γ) {a : Nat} {h2 : AH} {f : Nat → Int32} {C0 S0 : Nat} (hza : z0 ≤ a) (J : JW Γ A c Y Y N dg h2 h') (ha : h2 a = some (aI Γ 15 f)) (hf : ∀ j, j < 15 → f j = tells A Y 0 j) (kx : ∀ C S, C0 ≤ C → S0 ≤ S → Go Γ M_Sim_isSame 8 C S 32 [some (.ref ((ad A 6 0))), some (.ref c), some (.ref a), some (.int ((nI 15))), none, none, none, none, none, none] [] h' z Q X) : ∀ (k i C S : Nat), i + k = 15 → C0 + 4 * k ≤ C → S0 + 24 * k ≤ S → Go Γ M_Sim_isSame 8 C S 7 [some (.ref ((ad A 6 0))), some (.ref c), some (.ref a), some (.int ((nI i))), none, none, none, none, none, none] [] h' z Q X := by
  intro k
  induction k with
  | zero =>
    intro i C S hi hC hS
    have e : i = 15 := by omega
    subst e
    refine Go.iload_3 d_Sim_isSame_7 rfl ?_
    refine Go.bipush (v := 15) d_Sim_isSame_8 rfl (by decide) ?_
    refine Go.icmp_ge (t := 32) d_Sim_isSame_10 (by decide) rfl (fun _ => ?_) (fun w => absurd (nI_le (Nat.le_refl 15) (by decide)) w)
    exact kx C S (by omega) (by omega)
  | succ k ih =>
    intro i C S hi hC hS
    refine Go.iload_3 d_Sim_isSame_7 rfl ?_
    refine Go.bipush (v := 15) d_Sim_isSame_8 rfl (by decide) ?_
    refine Go.icmp_ge (t := 32) d_Sim_isSame_10 (by decide) rfl (fun w => absurd w (nI_ge (show i < 15 by omega) (by decide))) (fun _ => ?_)
    have hi15 : i < 15 := by omega
    refine Go.aload_1 d_Sim_isSame_13 rfl ?_
    refine Go.iload_3 d_Sim_isSame_14 rfl ?_
    refine Go.cvT (C1 := C - 4) (S1 := S - 24) (as := [.int ((nI i))]) (rest := []) d_Sim_isSame_15 rfl l_Sim_112 k_Camp_count_v rfl (J.cam hj) rfl rfl (j_count hj J hms hth (k := i) rfl (by first | decide | assumption | omega)) rfl rfl (by omega) (by omega) rfl ?_
    refine Go.aload_2 d_Sim_isSame_18 rfl ?_
    refine Go.iload_3 d_Sim_isSame_19 rfl ?_
    refine Go.oial d_Sim_isSame_20 rfl hj J hza ha (j := i) rfl (by first | decide | assumption | omega) (by first | decide | omega) ?_
    refine Go.icmp_eq (t := 26) d_Sim_isSame_21 (by decide) rfl (fun _ => ?_) (fun w => absurd ((hf i hi15).symm) w)
    refine Go.iinc_3 d_Sim_isSame_26 rfl (by rfl) (show nI i + Int32.ofInt 1 = nI (i + 1) from nI_ad i 1) ?_
    refine Go.goto (t := 7) d_Sim_isSame_29 (by decide) ?_
    exact ih (i + 1) _ _ (by omega) (by omega) (by omega)
theorem d_Sim_isSame_340 : decode M_Sim_isSame.2.1 340 = .ok (.iload 5, 2) := by decide +kernel
theorem d_Sim_isSame_342 : decode M_Sim_isSame.2.1 342 = .ok (.bipush 6, 2) := by decide +kernel
theorem d_Sim_isSame_344 : decode M_Sim_isSame.2.1 344 = .ok (.if_icmp .ge 32, 3) := by decide +kernel
theorem d_Sim_isSame_347 : decode M_Sim_isSame.2.1 347 = .ok (.aload_n 1, 1) := by decide +kernel
theorem d_Sim_isSame_348 : decode M_Sim_isSame.2.1 348 = .ok (.iload 4, 2) := by decide +kernel
theorem d_Sim_isSame_350 : decode M_Sim_isSame.2.1 350 = .ok (.iload 5, 2) := by decide +kernel
theorem d_Sim_isSame_352 : decode M_Sim_isSame.2.1 352 = .ok (.invokevirtual 121, 3) := by decide +kernel
theorem d_Sim_isSame_355 : decode M_Sim_isSame.2.1 355 = .ok (.aload_n 0, 1) := by decide +kernel
theorem d_Sim_isSame_356 : decode M_Sim_isSame.2.1 356 = .ok (.getfield 18, 3) := by decide +kernel
theorem d_Sim_isSame_359 : decode M_Sim_isSame.2.1 359 = .ok (.iload 4, 2) := by decide +kernel
theorem d_Sim_isSame_361 : decode M_Sim_isSame.2.1 361 = .ok (.aaload, 1) := by decide +kernel
theorem d_Sim_isSame_362 : decode M_Sim_isSame.2.1 362 = .ok (.iload 5, 2) := by decide +kernel
theorem d_Sim_isSame_364 : decode M_Sim_isSame.2.1 364 = .ok (.iaload, 1) := by decide +kernel
theorem d_Sim_isSame_365 : decode M_Sim_isSame.2.1 365 = .ok (.if_icmp .eq 5, 3) := by decide +kernel
theorem d_Sim_isSame_370 : decode M_Sim_isSame.2.1 370 = .ok (.iinc 5 1, 3) := by decide +kernel
theorem d_Sim_isSame_373 : decode M_Sim_isSame.2.1 373 = .ok (.goto (-33), 3) := by decide +kernel
set_option maxRecDepth 100000 in
set_option maxHeartbeats 4000000 in
theorem same_340 (hj : AJ A c z0) (hms : MsOk Γ ms) (hth : ThOk Γ) {w3 : Int32} {r C0 S0 : Nat} (J : JW Γ A c Y Y N dg h h') (hr : r < cn A 1) (kx : ∀ C S, C0 ≤ C → S0 ≤ S → Go Γ M_Sim_isSame 8 C S 376 [some (.ref ((ad A 6 0))), some (.ref c), none, some (.int w3), some (.int ((nI r))), some (.int ((nI 6))), none, none, none, none] [] h' z Q X) : ∀ (k i C S : Nat), i + k = 6 → C0 + 4 * k ≤ C → S0 + 24 * k ≤ S → Go Γ M_Sim_isSame 8 C S 340 [some (.ref ((ad A 6 0))), some (.ref c), none, some (.int w3), some (.int ((nI r))), some (.int ((nI i))), none, none, none, none] [] h' z Q X := by
  intro k
  induction k with
  | zero =>
    intro i C S hi hC hS
    have e : i = 6 := by omega
    subst e
    refine Go.iload_5 d_Sim_isSame_340 rfl ?_
    refine Go.bipush (v := 6) d_Sim_isSame_342 rfl (by decide) ?_
    refine Go.icmp_ge (t := 376) d_Sim_isSame_344 (by decide) rfl (fun _ => ?_) (fun w => absurd (nI_le (Nat.le_refl 6) (by decide)) w)
    exact kx C S (by omega) (by omega)
  | succ k ih =>
    intro i C S hi hC hS
    refine Go.iload_5 d_Sim_isSame_340 rfl ?_
    refine Go.bipush (v := 6) d_Sim_isSame_342 rfl (by decide) ?_
    refine Go.icmp_ge (t := 376) d_Sim_isSame_344 (by decide) rfl (fun w => absurd w (nI_ge (show i < 6 by omega) (by decide))) (fun _ => ?_)
    have hiw : i < 6 := by omega
    refine Go.aload_1 d_Sim_isSame_347 rfl ?_
    refine Go.iload_4 d_Sim_isSame_348 rfl ?_
    refine Go.iload_5 d_Sim_isSame_350 rfl ?_
    refine Go.cvT (C1 := C - 4) (S1 := S - 24) (as := [.int ((nI r)), .int ((nI i))]) (rest := []) d_Sim_isSame_352 rfl l_Sim_121 k_Camp_stake_v rfl (J.cam hj) rfl rfl (j_stake hj J hms hth (r := r) (k := i) rfl rfl (by first | decide | assumption | omega) (by first | decide | assumption | omega)) rfl rfl (by omega) (by omega) rfl ?_
    refine Go.aload_0 d_Sim_isSame_355 rfl ?_
    refine Go.getfield d_Sim_isSame_356 rfl f_Sim_18 (J.obj hj) rfl ?_
    refine Go.iload_4 d_Sim_isSame_359 rfl ?_
    refine Go.jaal d_Sim_isSame_361 rfl hj J (k := 1) (r := r) (by decide) rfl (by first | assumption | omega) ?_
    refine Go.iload_5 d_Sim_isSame_362 rfl ?_
    refine Go.jial d_Sim_isSame_364 rfl hj J (k := 1) (r := r) (j := i) (by decide) (by first | assumption | omega) rfl (by first | decide | assumption | omega) ?_
    refine Go.icmp_eq (t := 370) d_Sim_isSame_365 (by decide) rfl (fun _ => ?_) (fun w => absurd (rfl) w)
    refine Go.iinc_5 d_Sim_isSame_370 rfl (by rfl) (show nI i + Int32.ofInt 1 = nI (i + 1) from nI_ad i 1) ?_
    refine Go.goto (t := 340) d_Sim_isSame_373 (by decide) ?_
    exact ih (i + 1) _ _ (by omega) (by omega) (by omega)
theorem d_Sim_isSame_327 : decode M_Sim_isSame.2.1 327 = .ok (.iload 4, 2) := by decide +kernel
theorem d_Sim_isSame_329 : decode M_Sim_isSame.2.1 329 = .ok (.aload_n 0, 1) := by decide +kernel
theorem d_Sim_isSame_330 : decode M_Sim_isSame.2.1 330 = .ok (.getfield 18, 3) := by decide +kernel
theorem d_Sim_isSame_333 : decode M_Sim_isSame.2.1 333 = .ok (.arraylength, 1) := by decide +kernel
theorem d_Sim_isSame_334 : decode M_Sim_isSame.2.1 334 = .ok (.if_icmp .ge 48, 3) := by decide +kernel
theorem d_Sim_isSame_337 : decode M_Sim_isSame.2.1 337 = .ok (.iconst 0, 1) := by decide +kernel
theorem d_Sim_isSame_338 : decode M_Sim_isSame.2.1 338 = .ok (.istore 5, 2) := by decide +kernel
theorem d_Sim_isSame_376 : decode M_Sim_isSame.2.1 376 = .ok (.iinc 4 1, 3) := by decide +kernel
theorem d_Sim_isSame_379 : decode M_Sim_isSame.2.1 379 = .ok (.goto (-52), 3) := by decide +kernel
set_option maxRecDepth 100000 in
set_option maxHeartbeats 4000000 in
theorem same_327 (hj : AJ A c z0) (hms : MsOk Γ ms) (hth : ThOk Γ) {w3 : Int32} {C0 S0 : Nat} (J : JW Γ A c Y Y N dg h h') (kx : ∀ C S, C0 ≤ C → S0 ≤ S → Go Γ M_Sim_isSame 8 C S 382 [some (.ref ((ad A 6 0))), some (.ref c), none, some (.int w3), some (.int ((nI (cn A 1)))), none, none, none, none, none] [] h' z Q X) : ∀ (k r C S : Nat), r + k = cn A 1 → C0 + 24 * k ≤ C → S0 + 144 * k ≤ S → Go Γ M_Sim_isSame 8 C S 327 [some (.ref ((ad A 6 0))), some (.ref c), none, some (.int w3), some (.int ((nI r))), none, none, none, none, none] [] h' z Q X := by
  intro k
  induction k with
  | zero =>
    intro r C S hi hC hS
    have e : r = cn A 1 := by omega
    subst e
    refine Go.iload_4 d_Sim_isSame_327 rfl ?_
    refine Go.aload_0 d_Sim_isSame_329 rfl ?_
    refine Go.getfield d_Sim_isSame_330 rfl f_Sim_18 (J.obj hj) rfl ?_
    refine Go.jal d_Sim_isSame_333 rfl hj J (k := 1) (by decide) ?_
    refine Go.icmp_ge (t := 382) d_Sim_isSame_334 (by decide) rfl (fun _ => ?_) (fun w => absurd (nI_le (Nat.le_refl _) (Nat.lt_of_le_of_lt (aj8 hj (by decide)) (by decide))) w)
    exact kx C S (by omega) (by omega)
  | succ k ih =>
    intro r C S hi hC hS
    refine Go.iload_4 d_Sim_isSame_327 rfl ?_
    refine Go.aload_0 d_Sim_isSame_329 rfl ?_
    refine Go.getfield d_Sim_isSame_330 rfl f_Sim_18 (J.obj hj) rfl ?_
    refine Go.jal d_Sim_isSame_333 rfl hj J (k := 1) (by decide) ?_
    refine Go.icmp_ge (t := 382) d_Sim_isSame_334 (by decide) rfl (fun w => absurd w (nI_ge (show r < cn A 1 by omega) (Nat.lt_of_le_of_lt (aj8 hj (by decide)) (by decide)))) (fun _ => ?_)
    refine Go.iconst (v := 0) d_Sim_isSame_337 rfl (by decide) ?_
    refine Go.istore_5 d_Sim_isSame_338 rfl (by rfl) ?_
    refine same_340 hj hms hth (w3 := w3) (C0 := C - 24) (S0 := S - 144) J (show r < cn A 1 by omega) (fun C2 S2 hC2 hS2 => ?_) 6 0 C S rfl (by omega) (by omega)
    refine Go.iinc_4 d_Sim_isSame_376 rfl (by rfl) (show nI r + Int32.ofInt 1 = nI (r + 1) from nI_ad r 1) ?_
    refine Go.goto (t := 327) d_Sim_isSame_379 (by decide) ?_
    refine Go.fgt [some (.ref ((ad A 6 0))), some (.ref c), none, some (.int w3), some (.int ((nI (r + 1)))), none, none, none, none, none] (by repeat' (first | exact trivial | refine ⟨rfl, ?_⟩)) ?_
    exact ih (r + 1) C2 S2 (by omega) (by omega) (by omega)
theorem d_Sim_isSame_398 : decode M_Sim_isSame.2.1 398 = .ok (.iload 5, 2) := by decide +kernel
theorem d_Sim_isSame_400 : decode M_Sim_isSame.2.1 400 = .ok (.bipush 6, 2) := by decide +kernel
theorem d_Sim_isSame_402 : decode M_Sim_isSame.2.1 402 = .ok (.if_icmp .ge 55, 3) := by decide +kernel
theorem d_Sim_isSame_405 : decode M_Sim_isSame.2.1 405 = .ok (.aload_n 1, 1) := by decide +kernel
theorem d_Sim_isSame_406 : decode M_Sim_isSame.2.1 406 = .ok (.iload 4, 2) := by decide +kernel
theorem d_Sim_isSame_408 : decode M_Sim_isSame.2.1 408 = .ok (.iload 5, 2) := by decide +kernel
theorem d_Sim_isSame_410 : decode M_Sim_isSame.2.1 410 = .ok (.invokevirtual 124, 3) := by decide +kernel
theorem d_Sim_isSame_413 : decode M_Sim_isSame.2.1 413 = .ok (.iload 5, 2) := by decide +kernel
theorem d_Sim_isSame_415 : decode M_Sim_isSame.2.1 415 = .ok (.iconst 2, 1) := by decide +kernel
theorem d_Sim_isSame_416 : decode M_Sim_isSame.2.1 416 = .ok (.if_icmp .ne 20, 3) := by decide +kernel
theorem d_Sim_isSame_419 : decode M_Sim_isSame.2.1 419 = .ok (.aload_n 0, 1) := by decide +kernel
theorem d_Sim_isSame_420 : decode M_Sim_isSame.2.1 420 = .ok (.iload 4, 2) := by decide +kernel
theorem d_Sim_isSame_422 : decode M_Sim_isSame.2.1 422 = .ok (.invokevirtual 59, 3) := by decide +kernel
theorem d_Sim_isSame_425 : decode M_Sim_isSame.2.1 425 = .ok (.ifCond .eq 7, 3) := by decide +kernel
theorem d_Sim_isSame_428 : decode M_Sim_isSame.2.1 428 = .ok (.iconst 1, 1) := by decide +kernel
theorem d_Sim_isSame_429 : decode M_Sim_isSame.2.1 429 = .ok (.goto 17, 3) := by decide +kernel
theorem d_Sim_isSame_432 : decode M_Sim_isSame.2.1 432 = .ok (.iconst 0, 1) := by decide +kernel
theorem d_Sim_isSame_433 : decode M_Sim_isSame.2.1 433 = .ok (.goto 13, 3) := by decide +kernel
theorem d_Sim_isSame_436 : decode M_Sim_isSame.2.1 436 = .ok (.aload_n 0, 1) := by decide +kernel
theorem d_Sim_isSame_437 : decode M_Sim_isSame.2.1 437 = .ok (.getfield 21, 3) := by decide +kernel
theorem d_Sim_isSame_440 : decode M_Sim_isSame.2.1 440 = .ok (.iload 4, 2) := by decide +kernel
theorem d_Sim_isSame_442 : decode M_Sim_isSame.2.1 442 = .ok (.aaload, 1) := by decide +kernel
theorem d_Sim_isSame_443 : decode M_Sim_isSame.2.1 443 = .ok (.iload 5, 2) := by decide +kernel
theorem d_Sim_isSame_445 : decode M_Sim_isSame.2.1 445 = .ok (.iaload, 1) := by decide +kernel
theorem d_Sim_isSame_446 : decode M_Sim_isSame.2.1 446 = .ok (.if_icmp .eq 5, 3) := by decide +kernel
theorem d_Sim_isSame_451 : decode M_Sim_isSame.2.1 451 = .ok (.iinc 5 1, 3) := by decide +kernel
theorem d_Sim_isSame_454 : decode M_Sim_isSame.2.1 454 = .ok (.goto (-56), 3) := by decide +kernel
set_option maxRecDepth 100000 in
set_option maxHeartbeats 4000000 in
theorem same_398 (hj : AJ A c z0) (hms : MsOk Γ ms) (hth : ThOk Γ) {w3 : Int32} {r C0 S0 : Nat} (J : JW Γ A c Y Y N dg h h') (hr : r < cn A 2) (kx : ∀ C S, C0 ≤ C → S0 ≤ S → Go Γ M_Sim_isSame 8 C S 457 [some (.ref ((ad A 6 0))), some (.ref c), none, some (.int w3), some (.int ((nI r))), some (.int ((nI 6))), none, none, none, none] [] h' z Q X) : ∀ (k i C S : Nat), i + k = 6 → C0 + 4 * k ≤ C → S0 + 24 * k ≤ S → Go Γ M_Sim_isSame 8 C S 398 [some (.ref ((ad A 6 0))), some (.ref c), none, some (.int w3), some (.int ((nI r))), some (.int ((nI i))), none, none, none, none] [] h' z Q X := by
  intro k
  induction k with
  | zero =>
    intro i C S hi hC hS
    have e : i = 6 := by omega
    subst e
    refine Go.iload_5 d_Sim_isSame_398 rfl ?_
    refine Go.bipush (v := 6) d_Sim_isSame_400 rfl (by decide) ?_
    refine Go.icmp_ge (t := 457) d_Sim_isSame_402 (by decide) rfl (fun _ => ?_) (fun w => absurd (nI_le (Nat.le_refl 6) (by decide)) w)
    exact kx C S (by omega) (by omega)
  | succ k ih =>
    intro i C S hi hC hS
    refine Go.iload_5 d_Sim_isSame_398 rfl ?_
    refine Go.bipush (v := 6) d_Sim_isSame_400 rfl (by decide) ?_
    refine Go.icmp_ge (t := 457) d_Sim_isSame_402 (by decide) rfl (fun w => absurd w (nI_ge (show i < 6 by omega) (by decide))) (fun _ => ?_)
    have hiw : i < 6 := by omega
    refine Go.aload_1 d_Sim_isSame_405 rfl ?_
    refine Go.iload_4 d_Sim_isSame_406 rfl ?_
    refine Go.iload_5 d_Sim_isSame_408 rfl ?_
    refine Go.cvT (C1 := C - 4) (S1 := S - 24) (as := [.int ((nI r)), .int ((nI i))]) (rest := []) d_Sim_isSame_410 rfl l_Sim_124 k_Camp_crevasse_v rfl (J.cam hj) rfl rfl (j_crevasse hj J hms hth (r := r) (k := i) rfl rfl (by first | decide | assumption | omega) (by first | decide | assumption | omega)) rfl rfl (by omega) (by omega) rfl ?_
    refine Go.iload_5 d_Sim_isSame_413 rfl ?_
    refine Go.iconst (v := 2) d_Sim_isSame_415 rfl (by decide) ?_
    by_cases e2 : i = 2
    · refine Go.icmp_ne (t := 436) d_Sim_isSame_416 (by decide) rfl (fun w => absurd ((by subst e2; rfl)) w) (fun _ => ?_)
      refine Go.aload_0 d_Sim_isSame_419 rfl ?_
      refine Go.iload_4 d_Sim_isSame_420 rfl ?_
      refine Go.cvR (as := [.int ((nI r))]) (rest := [.int ((if i = 2 then s_Sim_isKnown Y r else sm_v Y 2 r i))]) d_Sim_isSame_422 rfl l_Sim_59 k_Sim_isKnown_v rfl (J.ob hj) rfl rfl (j_sknown hj J (r := r) rfl hr) rfl rfl rfl ?_
      have hk01 : s_Sim_isKnown Y r = 0 ∨ s_Sim_isKnown Y r = 1 := by
        unfold s_Sim_isKnown
        split
        · exact Or.inl rfl
        · exact Or.inr rfl
      by_cases e3 : s_Sim_isKnown Y r = 0
      · refine Go.if_eq (t := 432) d_Sim_isSame_425 (by decide) rfl (fun _ => ?_) (fun w => absurd (e3) w)
        refine Go.iconst (v := 0) d_Sim_isSame_432 rfl (by decide) ?_
        refine Go.goto (t := 446) d_Sim_isSame_433 (by decide) ?_
        refine Go.icmp_eq (t := 451) d_Sim_isSame_446 (by decide) rfl (fun _ => ?_) (fun w => absurd (((if_pos e2).trans e3)) w)
        refine Go.iinc_5 d_Sim_isSame_451 rfl (by rfl) (show nI i + Int32.ofInt 1 = nI (i + 1) from nI_ad i 1) ?_
        refine Go.goto (t := 398) d_Sim_isSame_454 (by decide) ?_
        exact ih (i + 1) _ _ (by omega) (by omega) (by omega)
      · refine Go.if_eq (t := 432) d_Sim_isSame_425 (by decide) rfl (fun w => absurd w (e3)) (fun _ => ?_)
        refine Go.iconst (v := 1) d_Sim_isSame_428 rfl (by decide) ?_
        refine Go.goto (t := 446) d_Sim_isSame_429 (by decide) ?_
        refine Go.icmp_eq (t := 451) d_Sim_isSame_446 (by decide) rfl (fun _ => ?_) (fun w => absurd (((if_pos e2).trans (hk01.resolve_left e3))) w)
        refine Go.iinc_5 d_Sim_isSame_451 rfl (by rfl) (show nI i + Int32.ofInt 1 = nI (i + 1) from nI_ad i 1) ?_
        refine Go.goto (t := 398) d_Sim_isSame_454 (by decide) ?_
        exact ih (i + 1) _ _ (by omega) (by omega) (by omega)
    · refine Go.icmp_ne (t := 436) d_Sim_isSame_416 (by decide) rfl (fun _ => ?_) (fun w => absurd w (fun w => e2 (nI_eqn (a := i) (c := 2) (by omega) (by decide) w)))
      refine Go.aload_0 d_Sim_isSame_436 rfl ?_
      refine Go.getfield d_Sim_isSame_437 rfl f_Sim_21 (J.obj hj) rfl ?_
      refine Go.iload_4 d_Sim_isSame_440 rfl ?_
      refine Go.jaal d_Sim_isSame_442 rfl hj J (k := 2) (r := r) (by decide) rfl (by first | assumption | omega) ?_
      refine Go.iload_5 d_Sim_isSame_443 rfl ?_
      refine Go.jial d_Sim_isSame_445 rfl hj J (k := 2) (r := r) (j := i) (by decide) (by first | assumption | omega) rfl (by first | decide | assumption | omega) ?_
      refine Go.icmp_eq (t := 451) d_Sim_isSame_446 (by decide) rfl (fun _ => ?_) (fun w => absurd (if_neg e2) w)
      refine Go.iinc_5 d_Sim_isSame_451 rfl (by rfl) (show nI i + Int32.ofInt 1 = nI (i + 1) from nI_ad i 1) ?_
      refine Go.goto (t := 398) d_Sim_isSame_454 (by decide) ?_
      exact ih (i + 1) _ _ (by omega) (by omega) (by omega)
theorem d_Sim_isSame_385 : decode M_Sim_isSame.2.1 385 = .ok (.iload 4, 2) := by decide +kernel
theorem d_Sim_isSame_387 : decode M_Sim_isSame.2.1 387 = .ok (.aload_n 0, 1) := by decide +kernel
theorem d_Sim_isSame_388 : decode M_Sim_isSame.2.1 388 = .ok (.getfield 21, 3) := by decide +kernel
theorem d_Sim_isSame_391 : decode M_Sim_isSame.2.1 391 = .ok (.arraylength, 1) := by decide +kernel
theorem d_Sim_isSame_392 : decode M_Sim_isSame.2.1 392 = .ok (.if_icmp .ge 71, 3) := by decide +kernel
theorem d_Sim_isSame_395 : decode M_Sim_isSame.2.1 395 = .ok (.iconst 0, 1) := by decide +kernel
theorem d_Sim_isSame_396 : decode M_Sim_isSame.2.1 396 = .ok (.istore 5, 2) := by decide +kernel
theorem d_Sim_isSame_457 : decode M_Sim_isSame.2.1 457 = .ok (.iinc 4 1, 3) := by decide +kernel
theorem d_Sim_isSame_460 : decode M_Sim_isSame.2.1 460 = .ok (.goto (-75), 3) := by decide +kernel
set_option maxRecDepth 100000 in
set_option maxHeartbeats 4000000 in
theorem same_385 (hj : AJ A c z0) (hms : MsOk Γ ms) (hth : ThOk Γ) {w3 : Int32} {C0 S0 : Nat} (J : JW Γ A c Y Y N dg h h') (kx : ∀ C S, C0 ≤ C → S0 ≤ S → Go Γ M_Sim_isSame 8 C S 463 [some (.ref ((ad A 6 0))), some (.ref c), none, some (.int w3), some (.int ((nI (cn A 2)))), none, none, none, none, none] [] h' z Q X) : ∀ (k r C S : Nat), r + k = cn A 2 → C0 + 24 * k ≤ C → S0 + 144 * k ≤ S → Go Γ M_Sim_isSame 8 C S 385 [some (.ref ((ad A 6 0))), some (.ref c), none, some (.int w3), some (.int ((nI r))), none, none, none, none, none] [] h' z Q X := by
  intro k
  induction k with
  | zero =>
    intro r C S hi hC hS
    have e : r = cn A 2 := by omega
    subst e
    refine Go.iload_4 d_Sim_isSame_385 rfl ?_
    refine Go.aload_0 d_Sim_isSame_387 rfl ?_
    refine Go.getfield d_Sim_isSame_388 rfl f_Sim_21 (J.obj hj) rfl ?_
    refine Go.jal d_Sim_isSame_391 rfl hj J (k := 2) (by decide) ?_
    refine Go.icmp_ge (t := 463) d_Sim_isSame_392 (by decide) rfl (fun _ => ?_) (fun w => absurd (nI_le (Nat.le_refl _) (Nat.lt_of_le_of_lt (aj8 hj (by decide)) (by decide))) w)
    exact kx C S (by omega) (by omega)
  | succ k ih =>
    intro r C S hi hC hS
    refine Go.iload_4 d_Sim_isSame_385 rfl ?_
    refine Go.aload_0 d_Sim_isSame_387 rfl ?_
    refine Go.getfield d_Sim_isSame_388 rfl f_Sim_21 (J.obj hj) rfl ?_
    refine Go.jal d_Sim_isSame_391 rfl hj J (k := 2) (by decide) ?_
    refine Go.icmp_ge (t := 463) d_Sim_isSame_392 (by decide) rfl (fun w => absurd w (nI_ge (show r < cn A 2 by omega) (Nat.lt_of_le_of_lt (aj8 hj (by decide)) (by decide)))) (fun _ => ?_)
    refine Go.iconst (v := 0) d_Sim_isSame_395 rfl (by decide) ?_
    refine Go.istore_5 d_Sim_isSame_396 rfl (by rfl) ?_
    refine same_398 hj hms hth (w3 := w3) (C0 := C - 24) (S0 := S - 144) J (show r < cn A 2 by omega) (fun C2 S2 hC2 hS2 => ?_) 6 0 C S rfl (by omega) (by omega)
    refine Go.iinc_4 d_Sim_isSame_457 rfl (by rfl) (show nI r + Int32.ofInt 1 = nI (r + 1) from nI_ad r 1) ?_
    refine Go.goto (t := 385) d_Sim_isSame_460 (by decide) ?_
    refine Go.fgt [some (.ref ((ad A 6 0))), some (.ref c), none, some (.int w3), some (.int ((nI (r + 1)))), none, none, none, none, none] (by repeat' (first | exact trivial | refine ⟨rfl, ?_⟩)) ?_
    exact ih (r + 1) C2 S2 (by omega) (by omega) (by omega)
theorem d_Sim_isSame_479 : decode M_Sim_isSame.2.1 479 = .ok (.iload 5, 2) := by decide +kernel
theorem d_Sim_isSame_481 : decode M_Sim_isSame.2.1 481 = .ok (.iconst 2, 1) := by decide +kernel
theorem d_Sim_isSame_482 : decode M_Sim_isSame.2.1 482 = .ok (.if_icmp .ge 32, 3) := by decide +kernel
theorem d_Sim_isSame_485 : decode M_Sim_isSame.2.1 485 = .ok (.aload_n 1, 1) := by decide +kernel
theorem d_Sim_isSame_486 : decode M_Sim_isSame.2.1 486 = .ok (.iload 4, 2) := by decide +kernel
theorem d_Sim_isSame_488 : decode M_Sim_isSame.2.1 488 = .ok (.iload 5, 2) := by decide +kernel
theorem d_Sim_isSame_490 : decode M_Sim_isSame.2.1 490 = .ok (.invokevirtual 127, 3) := by decide +kernel
theorem d_Sim_isSame_493 : decode M_Sim_isSame.2.1 493 = .ok (.aload_n 0, 1) := by decide +kernel
theorem d_Sim_isSame_494 : decode M_Sim_isSame.2.1 494 = .ok (.getfield 24, 3) := by decide +kernel
theorem d_Sim_isSame_497 : decode M_Sim_isSame.2.1 497 = .ok (.iload 4, 2) := by decide +kernel
theorem d_Sim_isSame_499 : decode M_Sim_isSame.2.1 499 = .ok (.aaload, 1) := by decide +kernel
theorem d_Sim_isSame_500 : decode M_Sim_isSame.2.1 500 = .ok (.iload 5, 2) := by decide +kernel
theorem d_Sim_isSame_502 : decode M_Sim_isSame.2.1 502 = .ok (.iaload, 1) := by decide +kernel
theorem d_Sim_isSame_503 : decode M_Sim_isSame.2.1 503 = .ok (.if_icmp .eq 5, 3) := by decide +kernel
theorem d_Sim_isSame_508 : decode M_Sim_isSame.2.1 508 = .ok (.iinc 5 1, 3) := by decide +kernel
theorem d_Sim_isSame_511 : decode M_Sim_isSame.2.1 511 = .ok (.goto (-32), 3) := by decide +kernel
set_option maxRecDepth 100000 in
set_option maxHeartbeats 4000000 in
theorem same_479 (hj : AJ A c z0) (hms : MsOk Γ ms) (hth : ThOk Γ) {w3 : Int32} {r C0 S0 : Nat} (J : JW Γ A c Y Y N dg h h') (hr : r < cn A 3) (kx : ∀ C S, C0 ≤ C → S0 ≤ S → Go Γ M_Sim_isSame 8 C S 514 [some (.ref ((ad A 6 0))), some (.ref c), none, some (.int w3), some (.int ((nI r))), some (.int ((nI 2))), none, none, none, none] [] h' z Q X) : ∀ (k i C S : Nat), i + k = 2 → C0 + 4 * k ≤ C → S0 + 24 * k ≤ S → Go Γ M_Sim_isSame 8 C S 479 [some (.ref ((ad A 6 0))), some (.ref c), none, some (.int w3), some (.int ((nI r))), some (.int ((nI i))), none, none, none, none] [] h' z Q X := by
  intro k
  induction k with
  | zero =>
    intro i C S hi hC hS
    have e : i = 2 := by omega
    subst e
    refine Go.iload_5 d_Sim_isSame_479 rfl ?_
    refine Go.iconst (v := 2) d_Sim_isSame_481 rfl (by decide) ?_
    refine Go.icmp_ge (t := 514) d_Sim_isSame_482 (by decide) rfl (fun _ => ?_) (fun w => absurd (nI_le (Nat.le_refl 2) (by decide)) w)
    exact kx C S (by omega) (by omega)
  | succ k ih =>
    intro i C S hi hC hS
    refine Go.iload_5 d_Sim_isSame_479 rfl ?_
    refine Go.iconst (v := 2) d_Sim_isSame_481 rfl (by decide) ?_
    refine Go.icmp_ge (t := 514) d_Sim_isSame_482 (by decide) rfl (fun w => absurd w (nI_ge (show i < 2 by omega) (by decide))) (fun _ => ?_)
    have hiw : i < 2 := by omega
    refine Go.aload_1 d_Sim_isSame_485 rfl ?_
    refine Go.iload_4 d_Sim_isSame_486 rfl ?_
    refine Go.iload_5 d_Sim_isSame_488 rfl ?_
    refine Go.cvT (C1 := C - 4) (S1 := S - 24) (as := [.int ((nI r)), .int ((nI i))]) (rest := []) d_Sim_isSame_490 rfl l_Sim_127 k_Camp_depot_v rfl (J.cam hj) rfl rfl (j_depot hj J hms hth (r := r) (k := i) rfl rfl (by first | decide | assumption | omega) (by first | decide | assumption | omega)) rfl rfl (by omega) (by omega) rfl ?_
    refine Go.aload_0 d_Sim_isSame_493 rfl ?_
    refine Go.getfield d_Sim_isSame_494 rfl f_Sim_24 (J.obj hj) rfl ?_
    refine Go.iload_4 d_Sim_isSame_497 rfl ?_
    refine Go.jaal d_Sim_isSame_499 rfl hj J (k := 3) (r := r) (by decide) rfl (by first | assumption | omega) ?_
    refine Go.iload_5 d_Sim_isSame_500 rfl ?_
    refine Go.jial d_Sim_isSame_502 rfl hj J (k := 3) (r := r) (j := i) (by decide) (by first | assumption | omega) rfl (by first | decide | assumption | omega) ?_
    refine Go.icmp_eq (t := 508) d_Sim_isSame_503 (by decide) rfl (fun _ => ?_) (fun w => absurd (rfl) w)
    refine Go.iinc_5 d_Sim_isSame_508 rfl (by rfl) (show nI i + Int32.ofInt 1 = nI (i + 1) from nI_ad i 1) ?_
    refine Go.goto (t := 479) d_Sim_isSame_511 (by decide) ?_
    exact ih (i + 1) _ _ (by omega) (by omega) (by omega)
theorem d_Sim_isSame_466 : decode M_Sim_isSame.2.1 466 = .ok (.iload 4, 2) := by decide +kernel
theorem d_Sim_isSame_468 : decode M_Sim_isSame.2.1 468 = .ok (.aload_n 0, 1) := by decide +kernel
theorem d_Sim_isSame_469 : decode M_Sim_isSame.2.1 469 = .ok (.getfield 24, 3) := by decide +kernel
theorem d_Sim_isSame_472 : decode M_Sim_isSame.2.1 472 = .ok (.arraylength, 1) := by decide +kernel
theorem d_Sim_isSame_473 : decode M_Sim_isSame.2.1 473 = .ok (.if_icmp .ge 47, 3) := by decide +kernel
theorem d_Sim_isSame_476 : decode M_Sim_isSame.2.1 476 = .ok (.iconst 0, 1) := by decide +kernel
theorem d_Sim_isSame_477 : decode M_Sim_isSame.2.1 477 = .ok (.istore 5, 2) := by decide +kernel
theorem d_Sim_isSame_514 : decode M_Sim_isSame.2.1 514 = .ok (.iinc 4 1, 3) := by decide +kernel
theorem d_Sim_isSame_517 : decode M_Sim_isSame.2.1 517 = .ok (.goto (-51), 3) := by decide +kernel
set_option maxRecDepth 100000 in
set_option maxHeartbeats 4000000 in
theorem same_466 (hj : AJ A c z0) (hms : MsOk Γ ms) (hth : ThOk Γ) {w3 : Int32} {C0 S0 : Nat} (J : JW Γ A c Y Y N dg h h') (kx : ∀ C S, C0 ≤ C → S0 ≤ S → Go Γ M_Sim_isSame 8 C S 520 [some (.ref ((ad A 6 0))), some (.ref c), none, some (.int w3), some (.int ((nI (cn A 3)))), none, none, none, none, none] [] h' z Q X) : ∀ (k r C S : Nat), r + k = cn A 3 → C0 + 8 * k ≤ C → S0 + 48 * k ≤ S → Go Γ M_Sim_isSame 8 C S 466 [some (.ref ((ad A 6 0))), some (.ref c), none, some (.int w3), some (.int ((nI r))), none, none, none, none, none] [] h' z Q X := by
  intro k
  induction k with
  | zero =>
    intro r C S hi hC hS
    have e : r = cn A 3 := by omega
    subst e
    refine Go.iload_4 d_Sim_isSame_466 rfl ?_
    refine Go.aload_0 d_Sim_isSame_468 rfl ?_
    refine Go.getfield d_Sim_isSame_469 rfl f_Sim_24 (J.obj hj) rfl ?_
    refine Go.jal d_Sim_isSame_472 rfl hj J (k := 3) (by decide) ?_
    refine Go.icmp_ge (t := 520) d_Sim_isSame_473 (by decide) rfl (fun _ => ?_) (fun w => absurd (nI_le (Nat.le_refl _) (Nat.lt_of_le_of_lt (aj8 hj (by decide)) (by decide))) w)
    exact kx C S (by omega) (by omega)
  | succ k ih =>
    intro r C S hi hC hS
    refine Go.iload_4 d_Sim_isSame_466 rfl ?_
    refine Go.aload_0 d_Sim_isSame_468 rfl ?_
    refine Go.getfield d_Sim_isSame_469 rfl f_Sim_24 (J.obj hj) rfl ?_
    refine Go.jal d_Sim_isSame_472 rfl hj J (k := 3) (by decide) ?_
    refine Go.icmp_ge (t := 520) d_Sim_isSame_473 (by decide) rfl (fun w => absurd w (nI_ge (show r < cn A 3 by omega) (Nat.lt_of_le_of_lt (aj8 hj (by decide)) (by decide)))) (fun _ => ?_)
    refine Go.iconst (v := 0) d_Sim_isSame_476 rfl (by decide) ?_
    refine Go.istore_5 d_Sim_isSame_477 rfl (by rfl) ?_
    refine same_479 hj hms hth (w3 := w3) (C0 := C - 8) (S0 := S - 48) J (show r < cn A 3 by omega) (fun C2 S2 hC2 hS2 => ?_) 2 0 C S rfl (by omega) (by omega)
    refine Go.iinc_4 d_Sim_isSame_514 rfl (by rfl) (show nI r + Int32.ofInt 1 = nI (r + 1) from nI_ad r 1) ?_
    refine Go.goto (t := 466) d_Sim_isSame_517 (by decide) ?_
    refine Go.fgt [some (.ref ((ad A 6 0))), some (.ref c), none, some (.int w3), some (.int ((nI (r + 1)))), none, none, none, none, none] (by repeat' (first | exact trivial | refine ⟨rfl, ?_⟩)) ?_
    exact ih (r + 1) C2 S2 (by omega) (by omega) (by omega)
theorem d_Sim_isSame_536 : decode M_Sim_isSame.2.1 536 = .ok (.iload 5, 2) := by decide +kernel
theorem d_Sim_isSame_538 : decode M_Sim_isSame.2.1 538 = .ok (.bipush 8, 2) := by decide +kernel
theorem d_Sim_isSame_540 : decode M_Sim_isSame.2.1 540 = .ok (.if_icmp .ge 32, 3) := by decide +kernel
theorem d_Sim_isSame_543 : decode M_Sim_isSame.2.1 543 = .ok (.aload_n 1, 1) := by decide +kernel
theorem d_Sim_isSame_544 : decode M_Sim_isSame.2.1 544 = .ok (.iload 4, 2) := by decide +kernel
theorem d_Sim_isSame_546 : decode M_Sim_isSame.2.1 546 = .ok (.iload 5, 2) := by decide +kernel
theorem d_Sim_isSame_548 : decode M_Sim_isSame.2.1 548 = .ok (.invokevirtual 130, 3) := by decide +kernel
theorem d_Sim_isSame_551 : decode M_Sim_isSame.2.1 551 = .ok (.aload_n 0, 1) := by decide +kernel
theorem d_Sim_isSame_552 : decode M_Sim_isSame.2.1 552 = .ok (.getfield 27, 3) := by decide +kernel
theorem d_Sim_isSame_555 : decode M_Sim_isSame.2.1 555 = .ok (.iload 4, 2) := by decide +kernel
theorem d_Sim_isSame_557 : decode M_Sim_isSame.2.1 557 = .ok (.aaload, 1) := by decide +kernel
theorem d_Sim_isSame_558 : decode M_Sim_isSame.2.1 558 = .ok (.iload 5, 2) := by decide +kernel
theorem d_Sim_isSame_560 : decode M_Sim_isSame.2.1 560 = .ok (.iaload, 1) := by decide +kernel
theorem d_Sim_isSame_561 : decode M_Sim_isSame.2.1 561 = .ok (.if_icmp .eq 5, 3) := by decide +kernel
theorem d_Sim_isSame_566 : decode M_Sim_isSame.2.1 566 = .ok (.iinc 5 1, 3) := by decide +kernel
theorem d_Sim_isSame_569 : decode M_Sim_isSame.2.1 569 = .ok (.goto (-33), 3) := by decide +kernel
set_option maxRecDepth 100000 in
set_option maxHeartbeats 4000000 in
theorem same_536 (hj : AJ A c z0) (hms : MsOk Γ ms) (hth : ThOk Γ) {w3 : Int32} {r C0 S0 : Nat} (J : JW Γ A c Y Y N dg h h') (hr : r < cn A 4) (kx : ∀ C S, C0 ≤ C → S0 ≤ S → Go Γ M_Sim_isSame 8 C S 572 [some (.ref ((ad A 6 0))), some (.ref c), none, some (.int w3), some (.int ((nI r))), some (.int ((nI 8))), none, none, none, none] [] h' z Q X) : ∀ (k i C S : Nat), i + k = 8 → C0 + 4 * k ≤ C → S0 + 24 * k ≤ S → Go Γ M_Sim_isSame 8 C S 536 [some (.ref ((ad A 6 0))), some (.ref c), none, some (.int w3), some (.int ((nI r))), some (.int ((nI i))), none, none, none, none] [] h' z Q X := by
  intro k
  induction k with
  | zero =>
    intro i C S hi hC hS
    have e : i = 8 := by omega
    subst e
    refine Go.iload_5 d_Sim_isSame_536 rfl ?_
    refine Go.bipush (v := 8) d_Sim_isSame_538 rfl (by decide) ?_
    refine Go.icmp_ge (t := 572) d_Sim_isSame_540 (by decide) rfl (fun _ => ?_) (fun w => absurd (nI_le (Nat.le_refl 8) (by decide)) w)
    exact kx C S (by omega) (by omega)
  | succ k ih =>
    intro i C S hi hC hS
    refine Go.iload_5 d_Sim_isSame_536 rfl ?_
    refine Go.bipush (v := 8) d_Sim_isSame_538 rfl (by decide) ?_
    refine Go.icmp_ge (t := 572) d_Sim_isSame_540 (by decide) rfl (fun w => absurd w (nI_ge (show i < 8 by omega) (by decide))) (fun _ => ?_)
    have hiw : i < 8 := by omega
    refine Go.aload_1 d_Sim_isSame_543 rfl ?_
    refine Go.iload_4 d_Sim_isSame_544 rfl ?_
    refine Go.iload_5 d_Sim_isSame_546 rfl ?_
    refine Go.cvT (C1 := C - 4) (S1 := S - 24) (as := [.int ((nI r)), .int ((nI i))]) (rest := []) d_Sim_isSame_548 rfl l_Sim_130 k_Camp_team_v rfl (J.cam hj) rfl rfl (j_team hj J hms hth (r := r) (k := i) rfl rfl (by first | decide | assumption | omega) (by first | decide | assumption | omega)) rfl rfl (by omega) (by omega) rfl ?_
    refine Go.aload_0 d_Sim_isSame_551 rfl ?_
    refine Go.getfield d_Sim_isSame_552 rfl f_Sim_27 (J.obj hj) rfl ?_
    refine Go.iload_4 d_Sim_isSame_555 rfl ?_
    refine Go.jaal d_Sim_isSame_557 rfl hj J (k := 4) (r := r) (by decide) rfl (by first | assumption | omega) ?_
    refine Go.iload_5 d_Sim_isSame_558 rfl ?_
    refine Go.jial d_Sim_isSame_560 rfl hj J (k := 4) (r := r) (j := i) (by decide) (by first | assumption | omega) rfl (by first | decide | assumption | omega) ?_
    refine Go.icmp_eq (t := 566) d_Sim_isSame_561 (by decide) rfl (fun _ => ?_) (fun w => absurd (rfl) w)
    refine Go.iinc_5 d_Sim_isSame_566 rfl (by rfl) (show nI i + Int32.ofInt 1 = nI (i + 1) from nI_ad i 1) ?_
    refine Go.goto (t := 536) d_Sim_isSame_569 (by decide) ?_
    exact ih (i + 1) _ _ (by omega) (by omega) (by omega)
theorem d_Sim_isSame_523 : decode M_Sim_isSame.2.1 523 = .ok (.iload 4, 2) := by decide +kernel
theorem d_Sim_isSame_525 : decode M_Sim_isSame.2.1 525 = .ok (.aload_n 0, 1) := by decide +kernel
theorem d_Sim_isSame_526 : decode M_Sim_isSame.2.1 526 = .ok (.getfield 27, 3) := by decide +kernel
theorem d_Sim_isSame_529 : decode M_Sim_isSame.2.1 529 = .ok (.arraylength, 1) := by decide +kernel
theorem d_Sim_isSame_530 : decode M_Sim_isSame.2.1 530 = .ok (.if_icmp .ge 48, 3) := by decide +kernel
theorem d_Sim_isSame_533 : decode M_Sim_isSame.2.1 533 = .ok (.iconst 0, 1) := by decide +kernel
theorem d_Sim_isSame_534 : decode M_Sim_isSame.2.1 534 = .ok (.istore 5, 2) := by decide +kernel
theorem d_Sim_isSame_572 : decode M_Sim_isSame.2.1 572 = .ok (.iinc 4 1, 3) := by decide +kernel
theorem d_Sim_isSame_575 : decode M_Sim_isSame.2.1 575 = .ok (.goto (-52), 3) := by decide +kernel
set_option maxRecDepth 100000 in
set_option maxHeartbeats 4000000 in
theorem same_523 (hj : AJ A c z0) (hms : MsOk Γ ms) (hth : ThOk Γ) {w3 : Int32} {C0 S0 : Nat} (J : JW Γ A c Y Y N dg h h') (kx : ∀ C S, C0 ≤ C → S0 ≤ S → Go Γ M_Sim_isSame 8 C S 578 [some (.ref ((ad A 6 0))), some (.ref c), none, some (.int w3), some (.int ((nI (cn A 4)))), none, none, none, none, none] [] h' z Q X) : ∀ (k r C S : Nat), r + k = cn A 4 → C0 + 32 * k ≤ C → S0 + 192 * k ≤ S → Go Γ M_Sim_isSame 8 C S 523 [some (.ref ((ad A 6 0))), some (.ref c), none, some (.int w3), some (.int ((nI r))), none, none, none, none, none] [] h' z Q X := by
  intro k
  induction k with
  | zero =>
    intro r C S hi hC hS
    have e : r = cn A 4 := by omega
    subst e
    refine Go.iload_4 d_Sim_isSame_523 rfl ?_
    refine Go.aload_0 d_Sim_isSame_525 rfl ?_
    refine Go.getfield d_Sim_isSame_526 rfl f_Sim_27 (J.obj hj) rfl ?_
    refine Go.jal d_Sim_isSame_529 rfl hj J (k := 4) (by decide) ?_
    refine Go.icmp_ge (t := 578) d_Sim_isSame_530 (by decide) rfl (fun _ => ?_) (fun w => absurd (nI_le (Nat.le_refl _) (Nat.lt_of_le_of_lt (aj8 hj (by decide)) (by decide))) w)
    exact kx C S (by omega) (by omega)
  | succ k ih =>
    intro r C S hi hC hS
    refine Go.iload_4 d_Sim_isSame_523 rfl ?_
    refine Go.aload_0 d_Sim_isSame_525 rfl ?_
    refine Go.getfield d_Sim_isSame_526 rfl f_Sim_27 (J.obj hj) rfl ?_
    refine Go.jal d_Sim_isSame_529 rfl hj J (k := 4) (by decide) ?_
    refine Go.icmp_ge (t := 578) d_Sim_isSame_530 (by decide) rfl (fun w => absurd w (nI_ge (show r < cn A 4 by omega) (Nat.lt_of_le_of_lt (aj8 hj (by decide)) (by decide)))) (fun _ => ?_)
    refine Go.iconst (v := 0) d_Sim_isSame_533 rfl (by decide) ?_
    refine Go.istore_5 d_Sim_isSame_534 rfl (by rfl) ?_
    refine same_536 hj hms hth (w3 := w3) (C0 := C - 32) (S0 := S - 192) J (show r < cn A 4 by omega) (fun C2 S2 hC2 hS2 => ?_) 8 0 C S rfl (by omega) (by omega)
    refine Go.iinc_4 d_Sim_isSame_572 rfl (by rfl) (show nI r + Int32.ofInt 1 = nI (r + 1) from nI_ad r 1) ?_
    refine Go.goto (t := 523) d_Sim_isSame_575 (by decide) ?_
    refine Go.fgt [some (.ref ((ad A 6 0))), some (.ref c), none, some (.int w3), some (.int ((nI (r + 1)))), none, none, none, none, none] (by repeat' (first | exact trivial | refine ⟨rfl, ?_⟩)) ?_
    exact ih (r + 1) C2 S2 (by omega) (by omega) (by omega)
theorem d_Sim_isSame_115 : decode M_Sim_isSame.2.1 115 = .ok (.iload 8, 2) := by decide +kernel
theorem d_Sim_isSame_117 : decode M_Sim_isSame.2.1 117 = .ok (.iload 7, 2) := by decide +kernel
theorem d_Sim_isSame_119 : decode M_Sim_isSame.2.1 119 = .ok (.if_icmp .ge 45, 3) := by decide +kernel
theorem d_Sim_isSame_122 : decode M_Sim_isSame.2.1 122 = .ok (.aload 6, 2) := by decide +kernel
theorem d_Sim_isSame_124 : decode M_Sim_isSame.2.1 124 = .ok (.iload 8, 2) := by decide +kernel
theorem d_Sim_isSame_126 : decode M_Sim_isSame.2.1 126 = .ok (.aaload, 1) := by decide +kernel
theorem d_Sim_isSame_127 : decode M_Sim_isSame.2.1 127 = .ok (.astore 9, 2) := by decide +kernel
theorem d_Sim_isSame_129 : decode M_Sim_isSame.2.1 129 = .ok (.aload 5, 2) := by decide +kernel
theorem d_Sim_isSame_131 : decode M_Sim_isSame.2.1 131 = .ok (.iconst 3, 1) := by decide +kernel
theorem d_Sim_isSame_132 : decode M_Sim_isSame.2.1 132 = .ok (.dup2, 1) := by decide +kernel
theorem d_Sim_isSame_133 : decode M_Sim_isSame.2.1 133 = .ok (.iaload, 1) := by decide +kernel
theorem d_Sim_isSame_134 : decode M_Sim_isSame.2.1 134 = .ok (.aload 9, 2) := by decide +kernel
theorem d_Sim_isSame_136 : decode M_Sim_isSame.2.1 136 = .ok (.iconst 4, 1) := by decide +kernel
theorem d_Sim_isSame_137 : decode M_Sim_isSame.2.1 137 = .ok (.iaload, 1) := by decide +kernel
theorem d_Sim_isSame_138 : decode M_Sim_isSame.2.1 138 = .ok (.iconst 1, 1) := by decide +kernel
theorem d_Sim_isSame_139 : decode M_Sim_isSame.2.1 139 = .ok (.if_icmp .ne 16, 3) := by decide +kernel
theorem d_Sim_isSame_142 : decode M_Sim_isSame.2.1 142 = .ok (.aload 9, 2) := by decide +kernel
theorem d_Sim_isSame_144 : decode M_Sim_isSame.2.1 144 = .ok (.iconst 2, 1) := by decide +kernel
theorem d_Sim_isSame_145 : decode M_Sim_isSame.2.1 145 = .ok (.iaload, 1) := by decide +kernel
theorem d_Sim_isSame_146 : decode M_Sim_isSame.2.1 146 = .ok (.iload 4, 2) := by decide +kernel
theorem d_Sim_isSame_148 : decode M_Sim_isSame.2.1 148 = .ok (.if_icmp .ne 7, 3) := by decide +kernel
theorem d_Sim_isSame_151 : decode M_Sim_isSame.2.1 151 = .ok (.iconst 1, 1) := by decide +kernel
theorem d_Sim_isSame_152 : decode M_Sim_isSame.2.1 152 = .ok (.goto 4, 3) := by decide +kernel
theorem d_Sim_isSame_155 : decode M_Sim_isSame.2.1 155 = .ok (.iconst 0, 1) := by decide +kernel
theorem d_Sim_isSame_156 : decode M_Sim_isSame.2.1 156 = .ok (.iadd, 1) := by decide +kernel
theorem d_Sim_isSame_157 : decode M_Sim_isSame.2.1 157 = .ok (.iastore, 1) := by decide +kernel
theorem d_Sim_isSame_158 : decode M_Sim_isSame.2.1 158 = .ok (.iinc 8 1, 3) := by decide +kernel
theorem d_Sim_isSame_161 : decode M_Sim_isSame.2.1 161 = .ok (.goto (-46), 3) := by decide +kernel
set_option maxRecDepth 100000 in
set_option maxHeartbeats 4000000 in
theorem same_115 (hj : AJ A c z0) (hms : MsOk Γ ms) (hth : ThOk Γ) {r a : Nat} {w : Int32} {f0 : Nat → Int32} {C S : Nat} (hi01 : ∀ s, s < cn A 1 → sm_v Y 1 s 3 = 0 ∨ sm_v Y 1 s 3 = 1) (hza : z0 ≤ a) (kx : ∀ h2 h3 f2, JW Γ A c Y Y N dg h2 h3 → h2 a = some (aI Γ 6 f2) → (∀ j, j ≠ 3 → f2 j = f0 j) → f2 3 = cnt (fun t => sm_v Y 4 t 2) (fun t => sm_v Y 4 t 4) (nI r) 1 (cn A 4) → Go Γ M_Sim_isSame 8 C S 164 [some (.ref ((ad A 6 0))), some (.ref c), none, some (.int w), some (.int ((nI r))), some (.ref a), some (.ref ((ad A 8 4))), some (.int ((nI (cn A 4)))), some (.int ((nI (cn A 4)))), none] [] h3 z Q X) : ∀ (k i : Nat) (h2 h3 : AH) (f : Nat → Int32), i + k = cn A 4 → JW Γ A c Y Y N dg h2 h3 → h2 a = some (aI Γ 6 f) → (∀ j, j ≠ 3 → f j = f0 j) → f 3 = cnt (fun t => sm_v Y 4 t 2) (fun t => sm_v Y 4 t 4) (nI r) 1 i → Go Γ M_Sim_isSame 8 C S 115 [some (.ref ((ad A 6 0))), some (.ref c), none, some (.int w), some (.int ((nI r))), some (.ref a), some (.ref ((ad A 8 4))), some (.int ((nI (cn A 4)))), some (.int ((nI i))), none] [] h3 z Q X := by
  intro k
  induction k with
  | zero =>
    intro i h2 h3 f hi J ha hf hg
    have e : i = cn A 4 := by omega
    subst e
    refine Go.iload_8 d_Sim_isSame_115 rfl ?_
    refine Go.iload_7 d_Sim_isSame_117 rfl ?_
    refine Go.icmp_ge (t := 164) d_Sim_isSame_119 (by decide) rfl (fun _ => ?_) (fun w => absurd (nI_le (Nat.le_refl _) (Nat.lt_of_le_of_lt (aj8 hj (by decide)) (by decide))) w)
    exact kx h2 h3 f J ha hf hg
  | succ k ih =>
    intro i h2 h3 f hi J ha hf hg
    refine Go.iload_8 d_Sim_isSame_115 rfl ?_
    refine Go.iload_7 d_Sim_isSame_117 rfl ?_
    refine Go.icmp_ge (t := 164) d_Sim_isSame_119 (by decide) rfl (fun w => absurd w (nI_ge (show i < cn A 4 by omega) (Nat.lt_of_le_of_lt (aj8 hj (by decide)) (by decide)))) (fun _ => ?_)
    have hik : i < cn A 4 := by omega
    have main : ∀ x : Int32, f 3 + x = cnt (fun t => sm_v Y 4 t 2) (fun t => sm_v Y 4 t 4) (nI r) 1 (i + 1) → Go Γ M_Sim_isSame 8 C S 156 [some (.ref ((ad A 6 0))), some (.ref c), none, some (.int w), some (.int ((nI r))), some (.ref a), some (.ref ((ad A 8 4))), some (.int ((nI (cn A 4)))), some (.int ((nI i))), some (.ref ((ad A 4 i)))] [.int x, .int (f 3), .int 3, .ref a] h3 z Q X := by
      intro x hx
      refine Go.iadd d_Sim_isSame_156 rfl ?_
      refine Go.oias d_Sim_isSame_157 rfl hj J hza ha (j := 3) rfl (by decide) (by decide) (fun h4 h5 J2 ha2 hb2 => ?_)
      refine Go.iinc_8 d_Sim_isSame_158 rfl (by rfl) (show nI i + Int32.ofInt 1 = nI (i + 1) from nI_ad i 1) ?_
      refine Go.goto (t := 115) d_Sim_isSame_161 (by decide) ?_
      refine Go.fgt [some (.ref ((ad A 6 0))), some (.ref c), none, some (.int w), some (.int ((nI r))), some (.ref a), some (.ref ((ad A 8 4))), some (.int ((nI (cn A 4)))), some (.int ((nI (i + 1)))), none] (by repeat' (first | exact trivial | refine ⟨rfl, ?_⟩)) ?_
      exact ih (i + 1) h4 h5 _ (by omega) J2 ha2 (fun j hq => (upd_ne _ _ hq).trans (hf j hq)) ((upd_at _ _ _).trans hx)
    refine Go.aload_6 d_Sim_isSame_122 rfl ?_
    refine Go.iload_8 d_Sim_isSame_124 rfl ?_
    refine Go.jaal d_Sim_isSame_126 rfl hj J (k := 4) (r := i) (by decide) rfl (by first | assumption | omega) ?_
    refine Go.astore_9 d_Sim_isSame_127 rfl (by rfl) ?_
    refine Go.aload_5 d_Sim_isSame_129 rfl ?_
    refine Go.iconst (v := 3) d_Sim_isSame_131 rfl (by decide) ?_
    refine Go.dup2 d_Sim_isSame_132 rfl rfl rfl ?_
    refine Go.oial d_Sim_isSame_133 rfl hj J hza ha (j := 3) rfl (by first | decide | assumption | omega) (by first | decide | omega) ?_
    refine Go.aload_9 d_Sim_isSame_134 rfl ?_
    refine Go.iconst (v := 4) d_Sim_isSame_136 rfl (by decide) ?_
    refine Go.jial d_Sim_isSame_137 rfl hj J (k := 4) (r := i) (j := 4) (by decide) (by first | assumption | omega) rfl (by first | decide | assumption | omega) ?_
    refine Go.iconst (v := 1) d_Sim_isSame_138 rfl (by decide) ?_
    by_cases e1 : sm_v Y 4 i 4 = 1
    · refine Go.icmp_ne (t := 155) d_Sim_isSame_139 (by decide) rfl (fun w => absurd (e1) w) (fun _ => ?_)
      refine Go.aload_9 d_Sim_isSame_142 rfl ?_
      refine Go.iconst (v := 2) d_Sim_isSame_144 rfl (by decide) ?_
      refine Go.jial d_Sim_isSame_145 rfl hj J (k := 4) (r := i) (j := 2) (by decide) (by first | assumption | omega) rfl (by first | decide | assumption | omega) ?_
      refine Go.iload_4 d_Sim_isSame_146 rfl ?_
      by_cases e2 : sm_v Y 4 i 2 = nI r
      · refine Go.icmp_ne (t := 155) d_Sim_isSame_148 (by decide) rfl (fun w => absurd (e2) w) (fun _ => ?_)
        refine Go.iconst (v := 1) d_Sim_isSame_151 rfl (by decide) ?_
        refine Go.goto (t := 156) d_Sim_isSame_152 (by decide) ?_
        exact main _ (by rw [hg]; exact (if_pos ⟨e2, e1⟩).symm)
      · refine Go.icmp_ne (t := 155) d_Sim_isSame_148 (by decide) rfl (fun _ => ?_) (fun w => absurd w (e2))
        refine Go.iconst (v := 0) d_Sim_isSame_155 rfl (by decide) ?_
        exact main _ (by rw [hg, Int32.add_zero]; exact (if_neg (fun w => e2 w.1)).symm)
    · refine Go.icmp_ne (t := 155) d_Sim_isSame_139 (by decide) rfl (fun _ => ?_) (fun w => absurd w (e1))
      refine Go.iconst (v := 0) d_Sim_isSame_155 rfl (by decide) ?_
      exact main _ (by rw [hg, Int32.add_zero]; exact (if_neg (fun w => e1 w.2)).symm)
theorem d_Sim_isSame_178 : decode M_Sim_isSame.2.1 178 = .ok (.iload 8, 2) := by decide +kernel
theorem d_Sim_isSame_180 : decode M_Sim_isSame.2.1 180 = .ok (.iload 7, 2) := by decide +kernel
theorem d_Sim_isSame_182 : decode M_Sim_isSame.2.1 182 = .ok (.if_icmp .ge 40, 3) := by decide +kernel
theorem d_Sim_isSame_185 : decode M_Sim_isSame.2.1 185 = .ok (.aload 6, 2) := by decide +kernel
theorem d_Sim_isSame_187 : decode M_Sim_isSame.2.1 187 = .ok (.iload 8, 2) := by decide +kernel
theorem d_Sim_isSame_189 : decode M_Sim_isSame.2.1 189 = .ok (.aaload, 1) := by decide +kernel
theorem d_Sim_isSame_190 : decode M_Sim_isSame.2.1 190 = .ok (.astore 9, 2) := by decide +kernel
theorem d_Sim_isSame_192 : decode M_Sim_isSame.2.1 192 = .ok (.aload 5, 2) := by decide +kernel
theorem d_Sim_isSame_194 : decode M_Sim_isSame.2.1 194 = .ok (.iconst 4, 1) := by decide +kernel
theorem d_Sim_isSame_195 : decode M_Sim_isSame.2.1 195 = .ok (.dup2, 1) := by decide +kernel
theorem d_Sim_isSame_196 : decode M_Sim_isSame.2.1 196 = .ok (.iaload, 1) := by decide +kernel
theorem d_Sim_isSame_197 : decode M_Sim_isSame.2.1 197 = .ok (.aload 9, 2) := by decide +kernel
theorem d_Sim_isSame_199 : decode M_Sim_isSame.2.1 199 = .ok (.iconst 0, 1) := by decide +kernel
theorem d_Sim_isSame_200 : decode M_Sim_isSame.2.1 200 = .ok (.iaload, 1) := by decide +kernel
theorem d_Sim_isSame_201 : decode M_Sim_isSame.2.1 201 = .ok (.iload 4, 2) := by decide +kernel
theorem d_Sim_isSame_203 : decode M_Sim_isSame.2.1 203 = .ok (.if_icmp .ne 10, 3) := by decide +kernel
theorem d_Sim_isSame_206 : decode M_Sim_isSame.2.1 206 = .ok (.aload 9, 2) := by decide +kernel
theorem d_Sim_isSame_208 : decode M_Sim_isSame.2.1 208 = .ok (.iconst 3, 1) := by decide +kernel
theorem d_Sim_isSame_209 : decode M_Sim_isSame.2.1 209 = .ok (.iaload, 1) := by decide +kernel
theorem d_Sim_isSame_210 : decode M_Sim_isSame.2.1 210 = .ok (.goto 4, 3) := by decide +kernel
theorem d_Sim_isSame_213 : decode M_Sim_isSame.2.1 213 = .ok (.iconst 0, 1) := by decide +kernel
theorem d_Sim_isSame_214 : decode M_Sim_isSame.2.1 214 = .ok (.iadd, 1) := by decide +kernel
theorem d_Sim_isSame_215 : decode M_Sim_isSame.2.1 215 = .ok (.iastore, 1) := by decide +kernel
theorem d_Sim_isSame_216 : decode M_Sim_isSame.2.1 216 = .ok (.iinc 8 1, 3) := by decide +kernel
theorem d_Sim_isSame_219 : decode M_Sim_isSame.2.1 219 = .ok (.goto (-41), 3) := by decide +kernel
set_option maxRecDepth 100000 in
set_option maxHeartbeats 4000000 in
theorem same_178 (hj : AJ A c z0) (hms : MsOk Γ ms) (hth : ThOk Γ) {r a : Nat} {w : Int32} {f0 : Nat → Int32} {C S : Nat} (hi01 : ∀ s, s < cn A 1 → sm_v Y 1 s 3 = 0 ∨ sm_v Y 1 s 3 = 1) (hza : z0 ≤ a) (kx : ∀ h2 h3 f2, JW Γ A c Y Y N dg h2 h3 → h2 a = some (aI Γ 6 f2) → (∀ j, j ≠ 4 → f2 j = f0 j) → f2 4 = cnt (fun s => sm_v Y 1 s 0) (fun s => sm_v Y 1 s 3) (nI r) 1 (cn A 1) → Go Γ M_Sim_isSame 8 C S 222 [some (.ref ((ad A 6 0))), some (.ref c), none, some (.int w), some (.int ((nI r))), some (.ref a), some (.ref ((ad A 8 1))), some (.int ((nI (cn A 1)))), some (.int ((nI (cn A 1)))), none] [] h3 z Q X) : ∀ (k i : Nat) (h2 h3 : AH) (f : Nat → Int32), i + k = cn A 1 → JW Γ A c Y Y N dg h2 h3 → h2 a = some (aI Γ 6 f) → (∀ j, j ≠ 4 → f j = f0 j) → f 4 = cnt (fun s => sm_v Y 1 s 0) (fun s => sm_v Y 1 s 3) (nI r) 1 i → Go Γ M_Sim_isSame 8 C S 178 [some (.ref ((ad A 6 0))), some (.ref c), none, some (.int w), some (.int ((nI r))), some (.ref a), some (.ref ((ad A 8 1))), some (.int ((nI (cn A 1)))), some (.int ((nI i))), none] [] h3 z Q X := by
  intro k
  induction k with
  | zero =>
    intro i h2 h3 f hi J ha hf hg
    have e : i = cn A 1 := by omega
    subst e
    refine Go.iload_8 d_Sim_isSame_178 rfl ?_
    refine Go.iload_7 d_Sim_isSame_180 rfl ?_
    refine Go.icmp_ge (t := 222) d_Sim_isSame_182 (by decide) rfl (fun _ => ?_) (fun w => absurd (nI_le (Nat.le_refl _) (Nat.lt_of_le_of_lt (aj8 hj (by decide)) (by decide))) w)
    exact kx h2 h3 f J ha hf hg
  | succ k ih =>
    intro i h2 h3 f hi J ha hf hg
    refine Go.iload_8 d_Sim_isSame_178 rfl ?_
    refine Go.iload_7 d_Sim_isSame_180 rfl ?_
    refine Go.icmp_ge (t := 222) d_Sim_isSame_182 (by decide) rfl (fun w => absurd w (nI_ge (show i < cn A 1 by omega) (Nat.lt_of_le_of_lt (aj8 hj (by decide)) (by decide)))) (fun _ => ?_)
    have hik : i < cn A 1 := by omega
    have main : ∀ x : Int32, f 4 + x = cnt (fun s => sm_v Y 1 s 0) (fun s => sm_v Y 1 s 3) (nI r) 1 (i + 1) → Go Γ M_Sim_isSame 8 C S 214 [some (.ref ((ad A 6 0))), some (.ref c), none, some (.int w), some (.int ((nI r))), some (.ref a), some (.ref ((ad A 8 1))), some (.int ((nI (cn A 1)))), some (.int ((nI i))), some (.ref ((ad A 1 i)))] [.int x, .int (f 4), .int 4, .ref a] h3 z Q X := by
      intro x hx
      refine Go.iadd d_Sim_isSame_214 rfl ?_
      refine Go.oias d_Sim_isSame_215 rfl hj J hza ha (j := 4) rfl (by decide) (by decide) (fun h4 h5 J2 ha2 hb2 => ?_)
      refine Go.iinc_8 d_Sim_isSame_216 rfl (by rfl) (show nI i + Int32.ofInt 1 = nI (i + 1) from nI_ad i 1) ?_
      refine Go.goto (t := 178) d_Sim_isSame_219 (by decide) ?_
      refine Go.fgt [some (.ref ((ad A 6 0))), some (.ref c), none, some (.int w), some (.int ((nI r))), some (.ref a), some (.ref ((ad A 8 1))), some (.int ((nI (cn A 1)))), some (.int ((nI (i + 1)))), none] (by repeat' (first | exact trivial | refine ⟨rfl, ?_⟩)) ?_
      exact ih (i + 1) h4 h5 _ (by omega) J2 ha2 (fun j hq => (upd_ne _ _ hq).trans (hf j hq)) ((upd_at _ _ _).trans hx)
    refine Go.aload_6 d_Sim_isSame_185 rfl ?_
    refine Go.iload_8 d_Sim_isSame_187 rfl ?_
    refine Go.jaal d_Sim_isSame_189 rfl hj J (k := 1) (r := i) (by decide) rfl (by first | assumption | omega) ?_
    refine Go.astore_9 d_Sim_isSame_190 rfl (by rfl) ?_
    refine Go.aload_5 d_Sim_isSame_192 rfl ?_
    refine Go.iconst (v := 4) d_Sim_isSame_194 rfl (by decide) ?_
    refine Go.dup2 d_Sim_isSame_195 rfl rfl rfl ?_
    refine Go.oial d_Sim_isSame_196 rfl hj J hza ha (j := 4) rfl (by first | decide | assumption | omega) (by first | decide | omega) ?_
    refine Go.aload_9 d_Sim_isSame_197 rfl ?_
    refine Go.iconst (v := 0) d_Sim_isSame_199 rfl (by decide) ?_
    refine Go.jial d_Sim_isSame_200 rfl hj J (k := 1) (r := i) (j := 0) (by decide) (by first | assumption | omega) rfl (by first | decide | assumption | omega) ?_
    refine Go.iload_4 d_Sim_isSame_201 rfl ?_
    by_cases e1 : sm_v Y 1 i 0 = nI r
    · refine Go.icmp_ne (t := 213) d_Sim_isSame_203 (by decide) rfl (fun w => absurd (e1) w) (fun _ => ?_)
      refine Go.aload_9 d_Sim_isSame_206 rfl ?_
      refine Go.iconst (v := 3) d_Sim_isSame_208 rfl (by decide) ?_
      refine Go.jial d_Sim_isSame_209 rfl hj J (k := 1) (r := i) (j := 3) (by decide) (by first | assumption | omega) rfl (by first | decide | assumption | omega) ?_
      refine Go.goto (t := 214) d_Sim_isSame_210 (by decide) ?_
      refine main _ ?_
      rw [hg]
      rcases hi01 i hik with e2 | e2
      · rw [e2, Int32.add_zero]
        exact (if_neg (fun w => absurd (e2.symm.trans w.2) (by decide))).symm
      · rw [e2]
        exact (if_pos ⟨e1, e2⟩).symm
    · refine Go.icmp_ne (t := 213) d_Sim_isSame_203 (by decide) rfl (fun _ => ?_) (fun w => absurd w (e1))
      refine Go.iconst (v := 0) d_Sim_isSame_213 rfl (by decide) ?_
      exact main _ (by rw [hg, Int32.add_zero]; exact (if_neg (fun w => e1 w.1)).symm)
theorem d_Sim_isSame_236 : decode M_Sim_isSame.2.1 236 = .ok (.iload 8, 2) := by decide +kernel
theorem d_Sim_isSame_238 : decode M_Sim_isSame.2.1 238 = .ok (.iload 7, 2) := by decide +kernel
theorem d_Sim_isSame_240 : decode M_Sim_isSame.2.1 240 = .ok (.if_icmp .ge 37, 3) := by decide +kernel
theorem d_Sim_isSame_243 : decode M_Sim_isSame.2.1 243 = .ok (.aload 6, 2) := by decide +kernel
theorem d_Sim_isSame_245 : decode M_Sim_isSame.2.1 245 = .ok (.iload 8, 2) := by decide +kernel
theorem d_Sim_isSame_247 : decode M_Sim_isSame.2.1 247 = .ok (.aaload, 1) := by decide +kernel
theorem d_Sim_isSame_248 : decode M_Sim_isSame.2.1 248 = .ok (.astore 9, 2) := by decide +kernel
theorem d_Sim_isSame_250 : decode M_Sim_isSame.2.1 250 = .ok (.aload 5, 2) := by decide +kernel
theorem d_Sim_isSame_252 : decode M_Sim_isSame.2.1 252 = .ok (.iconst 5, 1) := by decide +kernel
theorem d_Sim_isSame_253 : decode M_Sim_isSame.2.1 253 = .ok (.dup2, 1) := by decide +kernel
theorem d_Sim_isSame_254 : decode M_Sim_isSame.2.1 254 = .ok (.iaload, 1) := by decide +kernel
theorem d_Sim_isSame_255 : decode M_Sim_isSame.2.1 255 = .ok (.aload 9, 2) := by decide +kernel
theorem d_Sim_isSame_257 : decode M_Sim_isSame.2.1 257 = .ok (.iconst 0, 1) := by decide +kernel
theorem d_Sim_isSame_258 : decode M_Sim_isSame.2.1 258 = .ok (.iaload, 1) := by decide +kernel
theorem d_Sim_isSame_259 : decode M_Sim_isSame.2.1 259 = .ok (.iload 4, 2) := by decide +kernel
theorem d_Sim_isSame_261 : decode M_Sim_isSame.2.1 261 = .ok (.if_icmp .ne 7, 3) := by decide +kernel
theorem d_Sim_isSame_264 : decode M_Sim_isSame.2.1 264 = .ok (.iconst 1, 1) := by decide +kernel
theorem d_Sim_isSame_265 : decode M_Sim_isSame.2.1 265 = .ok (.goto 4, 3) := by decide +kernel
theorem d_Sim_isSame_268 : decode M_Sim_isSame.2.1 268 = .ok (.iconst 0, 1) := by decide +kernel
theorem d_Sim_isSame_269 : decode M_Sim_isSame.2.1 269 = .ok (.iadd, 1) := by decide +kernel
theorem d_Sim_isSame_270 : decode M_Sim_isSame.2.1 270 = .ok (.iastore, 1) := by decide +kernel
theorem d_Sim_isSame_271 : decode M_Sim_isSame.2.1 271 = .ok (.iinc 8 1, 3) := by decide +kernel
theorem d_Sim_isSame_274 : decode M_Sim_isSame.2.1 274 = .ok (.goto (-38), 3) := by decide +kernel
set_option maxRecDepth 100000 in
set_option maxHeartbeats 4000000 in
theorem same_236 (hj : AJ A c z0) (hms : MsOk Γ ms) (hth : ThOk Γ) {r a : Nat} {w : Int32} {f0 : Nat → Int32} {C S : Nat} (hi01 : ∀ s, s < cn A 1 → sm_v Y 1 s 3 = 0 ∨ sm_v Y 1 s 3 = 1) (hza : z0 ≤ a) (kx : ∀ h2 h3 f2, JW Γ A c Y Y N dg h2 h3 → h2 a = some (aI Γ 6 f2) → (∀ j, j ≠ 5 → f2 j = f0 j) → f2 5 = cnt (fun c => sm_v Y 2 c 0) (fun c => sm_v Y 2 c 0) (nI r) (nI r) (cn A 2) → Go Γ M_Sim_isSame 8 C S 277 [some (.ref ((ad A 6 0))), some (.ref c), none, some (.int w), some (.int ((nI r))), some (.ref a), some (.ref ((ad A 8 2))), some (.int ((nI (cn A 2)))), some (.int ((nI (cn A 2)))), none] [] h3 z Q X) : ∀ (k i : Nat) (h2 h3 : AH) (f : Nat → Int32), i + k = cn A 2 → JW Γ A c Y Y N dg h2 h3 → h2 a = some (aI Γ 6 f) → (∀ j, j ≠ 5 → f j = f0 j) → f 5 = cnt (fun c => sm_v Y 2 c 0) (fun c => sm_v Y 2 c 0) (nI r) (nI r) i → Go Γ M_Sim_isSame 8 C S 236 [some (.ref ((ad A 6 0))), some (.ref c), none, some (.int w), some (.int ((nI r))), some (.ref a), some (.ref ((ad A 8 2))), some (.int ((nI (cn A 2)))), some (.int ((nI i))), none] [] h3 z Q X := by
  intro k
  induction k with
  | zero =>
    intro i h2 h3 f hi J ha hf hg
    have e : i = cn A 2 := by omega
    subst e
    refine Go.iload_8 d_Sim_isSame_236 rfl ?_
    refine Go.iload_7 d_Sim_isSame_238 rfl ?_
    refine Go.icmp_ge (t := 277) d_Sim_isSame_240 (by decide) rfl (fun _ => ?_) (fun w => absurd (nI_le (Nat.le_refl _) (Nat.lt_of_le_of_lt (aj8 hj (by decide)) (by decide))) w)
    exact kx h2 h3 f J ha hf hg
  | succ k ih =>
    intro i h2 h3 f hi J ha hf hg
    refine Go.iload_8 d_Sim_isSame_236 rfl ?_
    refine Go.iload_7 d_Sim_isSame_238 rfl ?_
    refine Go.icmp_ge (t := 277) d_Sim_isSame_240 (by decide) rfl (fun w => absurd w (nI_ge (show i < cn A 2 by omega) (Nat.lt_of_le_of_lt (aj8 hj (by decide)) (by decide)))) (fun _ => ?_)
    have hik : i < cn A 2 := by omega
    have main : ∀ x : Int32, f 5 + x = cnt (fun c => sm_v Y 2 c 0) (fun c => sm_v Y 2 c 0) (nI r) (nI r) (i + 1) → Go Γ M_Sim_isSame 8 C S 269 [some (.ref ((ad A 6 0))), some (.ref c), none, some (.int w), some (.int ((nI r))), some (.ref a), some (.ref ((ad A 8 2))), some (.int ((nI (cn A 2)))), some (.int ((nI i))), some (.ref ((ad A 2 i)))] [.int x, .int (f 5), .int 5, .ref a] h3 z Q X := by
      intro x hx
      refine Go.iadd d_Sim_isSame_269 rfl ?_
      refine Go.oias d_Sim_isSame_270 rfl hj J hza ha (j := 5) rfl (by decide) (by decide) (fun h4 h5 J2 ha2 hb2 => ?_)
      refine Go.iinc_8 d_Sim_isSame_271 rfl (by rfl) (show nI i + Int32.ofInt 1 = nI (i + 1) from nI_ad i 1) ?_
      refine Go.goto (t := 236) d_Sim_isSame_274 (by decide) ?_
      refine Go.fgt [some (.ref ((ad A 6 0))), some (.ref c), none, some (.int w), some (.int ((nI r))), some (.ref a), some (.ref ((ad A 8 2))), some (.int ((nI (cn A 2)))), some (.int ((nI (i + 1)))), none] (by repeat' (first | exact trivial | refine ⟨rfl, ?_⟩)) ?_
      exact ih (i + 1) h4 h5 _ (by omega) J2 ha2 (fun j hq => (upd_ne _ _ hq).trans (hf j hq)) ((upd_at _ _ _).trans hx)
    refine Go.aload_6 d_Sim_isSame_243 rfl ?_
    refine Go.iload_8 d_Sim_isSame_245 rfl ?_
    refine Go.jaal d_Sim_isSame_247 rfl hj J (k := 2) (r := i) (by decide) rfl (by first | assumption | omega) ?_
    refine Go.astore_9 d_Sim_isSame_248 rfl (by rfl) ?_
    refine Go.aload_5 d_Sim_isSame_250 rfl ?_
    refine Go.iconst (v := 5) d_Sim_isSame_252 rfl (by decide) ?_
    refine Go.dup2 d_Sim_isSame_253 rfl rfl rfl ?_
    refine Go.oial d_Sim_isSame_254 rfl hj J hza ha (j := 5) rfl (by first | decide | assumption | omega) (by first | decide | omega) ?_
    refine Go.aload_9 d_Sim_isSame_255 rfl ?_
    refine Go.iconst (v := 0) d_Sim_isSame_257 rfl (by decide) ?_
    refine Go.jial d_Sim_isSame_258 rfl hj J (k := 2) (r := i) (j := 0) (by decide) (by first | assumption | omega) rfl (by first | decide | assumption | omega) ?_
    refine Go.iload_4 d_Sim_isSame_259 rfl ?_
    by_cases e1 : sm_v Y 2 i 0 = nI r
    · refine Go.icmp_ne (t := 268) d_Sim_isSame_261 (by decide) rfl (fun w => absurd (e1) w) (fun _ => ?_)
      refine Go.iconst (v := 1) d_Sim_isSame_264 rfl (by decide) ?_
      refine Go.goto (t := 269) d_Sim_isSame_265 (by decide) ?_
      exact main _ (by rw [hg]; exact (if_pos ⟨e1, e1⟩).symm)
    · refine Go.icmp_ne (t := 268) d_Sim_isSame_261 (by decide) rfl (fun _ => ?_) (fun w => absurd w (e1))
      refine Go.iconst (v := 0) d_Sim_isSame_268 rfl (by decide) ?_
      exact main _ (by rw [hg, Int32.add_zero]; exact (if_neg (fun w => e1 w.1)).symm)
theorem d_Sim_isSame_280 : decode M_Sim_isSame.2.1 280 = .ok (.iload 6, 2) := by decide +kernel
theorem d_Sim_isSame_282 : decode M_Sim_isSame.2.1 282 = .ok (.bipush 6, 2) := by decide +kernel
theorem d_Sim_isSame_284 : decode M_Sim_isSame.2.1 284 = .ok (.if_icmp .ge 27, 3) := by decide +kernel
theorem d_Sim_isSame_287 : decode M_Sim_isSame.2.1 287 = .ok (.aload_n 1, 1) := by decide +kernel
theorem d_Sim_isSame_288 : decode M_Sim_isSame.2.1 288 = .ok (.iload 4, 2) := by decide +kernel
theorem d_Sim_isSame_290 : decode M_Sim_isSame.2.1 290 = .ok (.iload 6, 2) := by decide +kernel
theorem d_Sim_isSame_292 : decode M_Sim_isSame.2.1 292 = .ok (.invokevirtual 118, 3) := by decide +kernel
theorem d_Sim_isSame_295 : decode M_Sim_isSame.2.1 295 = .ok (.aload 5, 2) := by decide +kernel
theorem d_Sim_isSame_297 : decode M_Sim_isSame.2.1 297 = .ok (.iload 6, 2) := by decide +kernel
theorem d_Sim_isSame_299 : decode M_Sim_isSame.2.1 299 = .ok (.iaload, 1) := by decide +kernel
theorem d_Sim_isSame_300 : decode M_Sim_isSame.2.1 300 = .ok (.if_icmp .eq 5, 3) := by decide +kernel
theorem d_Sim_isSame_305 : decode M_Sim_isSame.2.1 305 = .ok (.iinc 6 1, 3) := by decide +kernel
theorem d_Sim_isSame_308 : decode M_Sim_isSame.2.1 308 = .ok (.goto (-28), 3) := by decide +kernel
set_option maxRecDepth 100000 in
set_option maxHeartbeats 4000000 in
theorem same_280 (hj : AJ A c z0) (hms : MsOk Γ ms) (hth : ThOk Γ) {r a : Nat} {w : Int32} {h2 : AH} {f : Nat → Int32} {C0 S0 : Nat} (hr : r < cn A 0) (hza : z0 ≤ a) (J : JW Γ A c Y Y N dg h2 h') (ha : h2 a = some (aI Γ 6 f)) (hf : ∀ j, j < 6 → f j = tellB A Y r j) (kx : ∀ C S, C0 ≤ C → S0 ≤ S → Go Γ M_Sim_isSame 8 C S 311 [some (.ref ((ad A 6 0))), some (.ref c), none, some (.int w), some (.int ((nI r))), some (.ref a), some (.int ((nI 6))), none, none, none] [] h' z Q X) : ∀ (k i C S : Nat), i + k = 6 → C0 + 4 * k ≤ C → S0 + 24 * k ≤ S → Go Γ M_Sim_isSame 8 C S 280 [some (.ref ((ad A 6 0))), some (.ref c), none, some (.int w), some (.int ((nI r))), some (.ref a), some (.int ((nI i))), none, none, none] [] h' z Q X := by
  intro k
  induction k with
  | zero =>
    intro i C S hi hC hS
    have e : i = 6 := by omega
    subst e
    refine Go.iload_6 d_Sim_isSame_280 rfl ?_
    refine Go.bipush (v := 6) d_Sim_isSame_282 rfl (by decide) ?_
    refine Go.icmp_ge (t := 311) d_Sim_isSame_284 (by decide) rfl (fun _ => ?_) (fun w => absurd (nI_le (Nat.le_refl 6) (by decide)) w)
    exact kx C S (by omega) (by omega)
  | succ k ih =>
    intro i C S hi hC hS
    refine Go.iload_6 d_Sim_isSame_280 rfl ?_
    refine Go.bipush (v := 6) d_Sim_isSame_282 rfl (by decide) ?_
    refine Go.icmp_ge (t := 311) d_Sim_isSame_284 (by decide) rfl (fun w => absurd w (nI_ge (show i < 6 by omega) (by decide))) (fun _ => ?_)
    have hi6 : i < 6 := by omega
    refine Go.aload_1 d_Sim_isSame_287 rfl ?_
    refine Go.iload_4 d_Sim_isSame_288 rfl ?_
    refine Go.iload_6 d_Sim_isSame_290 rfl ?_
    refine Go.cvT (C1 := C - 4) (S1 := S - 24) (as := [.int ((nI r)), .int ((nI i))]) (rest := []) d_Sim_isSame_292 rfl l_Sim_118 k_Camp_band_v rfl (J.cam hj) rfl rfl (j_band hj J hms hth (r := r) (k := i) rfl rfl (by first | decide | assumption | omega) (by first | decide | assumption | omega)) rfl rfl (by omega) (by omega) rfl ?_
    refine Go.aload_5 d_Sim_isSame_295 rfl ?_
    refine Go.iload_6 d_Sim_isSame_297 rfl ?_
    refine Go.oial d_Sim_isSame_299 rfl hj J hza ha (j := i) rfl (by first | decide | assumption | omega) (by first | decide | omega) ?_
    refine Go.icmp_eq (t := 305) d_Sim_isSame_300 (by decide) rfl (fun _ => ?_) (fun w => absurd ((hf i hi6).symm) w)
    refine Go.iinc_6 d_Sim_isSame_305 rfl (by rfl) (show nI i + Int32.ofInt 1 = nI (i + 1) from nI_ad i 1) ?_
    refine Go.goto (t := 280) d_Sim_isSame_308 (by decide) ?_
    exact ih (i + 1) _ _ (by omega) (by omega) (by omega)
theorem d_Sim_isSame_37 : decode M_Sim_isSame.2.1 37 = .ok (.iload 4, 2) := by decide +kernel
theorem d_Sim_isSame_39 : decode M_Sim_isSame.2.1 39 = .ok (.aload_n 0, 1) := by decide +kernel
theorem d_Sim_isSame_40 : decode M_Sim_isSame.2.1 40 = .ok (.getfield 14, 3) := by decide +kernel
theorem d_Sim_isSame_43 : decode M_Sim_isSame.2.1 43 = .ok (.arraylength, 1) := by decide +kernel
theorem d_Sim_isSame_44 : decode M_Sim_isSame.2.1 44 = .ok (.if_icmp .ge 280, 3) := by decide +kernel
theorem d_Sim_isSame_47 : decode M_Sim_isSame.2.1 47 = .ok (.bipush 6, 2) := by decide +kernel
theorem d_Sim_isSame_49 : decode M_Sim_isSame.2.1 49 = .ok (.newarray .int, 2) := by decide +kernel
theorem d_Sim_isSame_51 : decode M_Sim_isSame.2.1 51 = .ok (.dup, 1) := by decide +kernel
theorem d_Sim_isSame_52 : decode M_Sim_isSame.2.1 52 = .ok (.iconst 0, 1) := by decide +kernel
theorem d_Sim_isSame_53 : decode M_Sim_isSame.2.1 53 = .ok (.aload_n 0, 1) := by decide +kernel
theorem d_Sim_isSame_54 : decode M_Sim_isSame.2.1 54 = .ok (.getfield 14, 3) := by decide +kernel
theorem d_Sim_isSame_57 : decode M_Sim_isSame.2.1 57 = .ok (.iload 4, 2) := by decide +kernel
theorem d_Sim_isSame_59 : decode M_Sim_isSame.2.1 59 = .ok (.aaload, 1) := by decide +kernel
theorem d_Sim_isSame_60 : decode M_Sim_isSame.2.1 60 = .ok (.iconst 0, 1) := by decide +kernel
theorem d_Sim_isSame_61 : decode M_Sim_isSame.2.1 61 = .ok (.iaload, 1) := by decide +kernel
theorem d_Sim_isSame_62 : decode M_Sim_isSame.2.1 62 = .ok (.iastore, 1) := by decide +kernel
theorem d_Sim_isSame_63 : decode M_Sim_isSame.2.1 63 = .ok (.dup, 1) := by decide +kernel
theorem d_Sim_isSame_64 : decode M_Sim_isSame.2.1 64 = .ok (.iconst 1, 1) := by decide +kernel
theorem d_Sim_isSame_65 : decode M_Sim_isSame.2.1 65 = .ok (.aload_n 0, 1) := by decide +kernel
theorem d_Sim_isSame_66 : decode M_Sim_isSame.2.1 66 = .ok (.getfield 14, 3) := by decide +kernel
theorem d_Sim_isSame_69 : decode M_Sim_isSame.2.1 69 = .ok (.iload 4, 2) := by decide +kernel
theorem d_Sim_isSame_71 : decode M_Sim_isSame.2.1 71 = .ok (.aaload, 1) := by decide +kernel
theorem d_Sim_isSame_72 : decode M_Sim_isSame.2.1 72 = .ok (.iconst 1, 1) := by decide +kernel
theorem d_Sim_isSame_73 : decode M_Sim_isSame.2.1 73 = .ok (.iaload, 1) := by decide +kernel
theorem d_Sim_isSame_74 : decode M_Sim_isSame.2.1 74 = .ok (.iastore, 1) := by decide +kernel
theorem d_Sim_isSame_75 : decode M_Sim_isSame.2.1 75 = .ok (.dup, 1) := by decide +kernel
theorem d_Sim_isSame_76 : decode M_Sim_isSame.2.1 76 = .ok (.iconst 2, 1) := by decide +kernel
theorem d_Sim_isSame_77 : decode M_Sim_isSame.2.1 77 = .ok (.aload_n 0, 1) := by decide +kernel
theorem d_Sim_isSame_78 : decode M_Sim_isSame.2.1 78 = .ok (.getfield 14, 3) := by decide +kernel
theorem d_Sim_isSame_81 : decode M_Sim_isSame.2.1 81 = .ok (.iload 4, 2) := by decide +kernel
theorem d_Sim_isSame_83 : decode M_Sim_isSame.2.1 83 = .ok (.aaload, 1) := by decide +kernel
theorem d_Sim_isSame_84 : decode M_Sim_isSame.2.1 84 = .ok (.iconst 2, 1) := by decide +kernel
theorem d_Sim_isSame_85 : decode M_Sim_isSame.2.1 85 = .ok (.iaload, 1) := by decide +kernel
theorem d_Sim_isSame_86 : decode M_Sim_isSame.2.1 86 = .ok (.iastore, 1) := by decide +kernel
theorem d_Sim_isSame_87 : decode M_Sim_isSame.2.1 87 = .ok (.dup, 1) := by decide +kernel
theorem d_Sim_isSame_88 : decode M_Sim_isSame.2.1 88 = .ok (.iconst 3, 1) := by decide +kernel
theorem d_Sim_isSame_89 : decode M_Sim_isSame.2.1 89 = .ok (.iconst 0, 1) := by decide +kernel
theorem d_Sim_isSame_90 : decode M_Sim_isSame.2.1 90 = .ok (.iastore, 1) := by decide +kernel
theorem d_Sim_isSame_91 : decode M_Sim_isSame.2.1 91 = .ok (.dup, 1) := by decide +kernel
theorem d_Sim_isSame_92 : decode M_Sim_isSame.2.1 92 = .ok (.iconst 4, 1) := by decide +kernel
theorem d_Sim_isSame_93 : decode M_Sim_isSame.2.1 93 = .ok (.iconst 0, 1) := by decide +kernel
theorem d_Sim_isSame_94 : decode M_Sim_isSame.2.1 94 = .ok (.iastore, 1) := by decide +kernel
theorem d_Sim_isSame_95 : decode M_Sim_isSame.2.1 95 = .ok (.dup, 1) := by decide +kernel
theorem d_Sim_isSame_96 : decode M_Sim_isSame.2.1 96 = .ok (.iconst 5, 1) := by decide +kernel
theorem d_Sim_isSame_97 : decode M_Sim_isSame.2.1 97 = .ok (.iconst 0, 1) := by decide +kernel
theorem d_Sim_isSame_98 : decode M_Sim_isSame.2.1 98 = .ok (.iastore, 1) := by decide +kernel
theorem d_Sim_isSame_99 : decode M_Sim_isSame.2.1 99 = .ok (.astore 5, 2) := by decide +kernel
theorem d_Sim_isSame_101 : decode M_Sim_isSame.2.1 101 = .ok (.aload_n 0, 1) := by decide +kernel
theorem d_Sim_isSame_102 : decode M_Sim_isSame.2.1 102 = .ok (.getfield 27, 3) := by decide +kernel
theorem d_Sim_isSame_105 : decode M_Sim_isSame.2.1 105 = .ok (.astore 6, 2) := by decide +kernel
theorem d_Sim_isSame_107 : decode M_Sim_isSame.2.1 107 = .ok (.aload 6, 2) := by decide +kernel
theorem d_Sim_isSame_109 : decode M_Sim_isSame.2.1 109 = .ok (.arraylength, 1) := by decide +kernel
theorem d_Sim_isSame_110 : decode M_Sim_isSame.2.1 110 = .ok (.istore 7, 2) := by decide +kernel
theorem d_Sim_isSame_112 : decode M_Sim_isSame.2.1 112 = .ok (.iconst 0, 1) := by decide +kernel
theorem d_Sim_isSame_113 : decode M_Sim_isSame.2.1 113 = .ok (.istore 8, 2) := by decide +kernel
theorem d_Sim_isSame_164 : decode M_Sim_isSame.2.1 164 = .ok (.aload_n 0, 1) := by decide +kernel
theorem d_Sim_isSame_165 : decode M_Sim_isSame.2.1 165 = .ok (.getfield 18, 3) := by decide +kernel
theorem d_Sim_isSame_168 : decode M_Sim_isSame.2.1 168 = .ok (.astore 6, 2) := by decide +kernel
theorem d_Sim_isSame_170 : decode M_Sim_isSame.2.1 170 = .ok (.aload 6, 2) := by decide +kernel
theorem d_Sim_isSame_172 : decode M_Sim_isSame.2.1 172 = .ok (.arraylength, 1) := by decide +kernel
theorem d_Sim_isSame_173 : decode M_Sim_isSame.2.1 173 = .ok (.istore 7, 2) := by decide +kernel
theorem d_Sim_isSame_175 : decode M_Sim_isSame.2.1 175 = .ok (.iconst 0, 1) := by decide +kernel
theorem d_Sim_isSame_176 : decode M_Sim_isSame.2.1 176 = .ok (.istore 8, 2) := by decide +kernel
theorem d_Sim_isSame_222 : decode M_Sim_isSame.2.1 222 = .ok (.aload_n 0, 1) := by decide +kernel
theorem d_Sim_isSame_223 : decode M_Sim_isSame.2.1 223 = .ok (.getfield 21, 3) := by decide +kernel
theorem d_Sim_isSame_226 : decode M_Sim_isSame.2.1 226 = .ok (.astore 6, 2) := by decide +kernel
theorem d_Sim_isSame_228 : decode M_Sim_isSame.2.1 228 = .ok (.aload 6, 2) := by decide +kernel
theorem d_Sim_isSame_230 : decode M_Sim_isSame.2.1 230 = .ok (.arraylength, 1) := by decide +kernel
theorem d_Sim_isSame_231 : decode M_Sim_isSame.2.1 231 = .ok (.istore 7, 2) := by decide +kernel
theorem d_Sim_isSame_233 : decode M_Sim_isSame.2.1 233 = .ok (.iconst 0, 1) := by decide +kernel
theorem d_Sim_isSame_234 : decode M_Sim_isSame.2.1 234 = .ok (.istore 8, 2) := by decide +kernel
theorem d_Sim_isSame_277 : decode M_Sim_isSame.2.1 277 = .ok (.iconst 0, 1) := by decide +kernel
theorem d_Sim_isSame_278 : decode M_Sim_isSame.2.1 278 = .ok (.istore 6, 2) := by decide +kernel
theorem d_Sim_isSame_311 : decode M_Sim_isSame.2.1 311 = .ok (.iload_n 3, 1) := by decide +kernel
theorem d_Sim_isSame_312 : decode M_Sim_isSame.2.1 312 = .ok (.aload 5, 2) := by decide +kernel
theorem d_Sim_isSame_314 : decode M_Sim_isSame.2.1 314 = .ok (.iconst 1, 1) := by decide +kernel
theorem d_Sim_isSame_315 : decode M_Sim_isSame.2.1 315 = .ok (.iaload, 1) := by decide +kernel
theorem d_Sim_isSame_316 : decode M_Sim_isSame.2.1 316 = .ok (.iadd, 1) := by decide +kernel
theorem d_Sim_isSame_317 : decode M_Sim_isSame.2.1 317 = .ok (.istore_n 3, 1) := by decide +kernel
theorem d_Sim_isSame_318 : decode M_Sim_isSame.2.1 318 = .ok (.iinc 4 1, 3) := by decide +kernel
theorem d_Sim_isSame_321 : decode M_Sim_isSame.2.1 321 = .ok (.goto (-284), 3) := by decide +kernel
set_option maxRecDepth 100000 in
set_option maxHeartbeats 4000000 in
theorem same_37 (hj : AJ A c z0) (hms : MsOk Γ ms) (hth : ThOk Γ) {C0 S0 : Nat} (hi01 : ∀ s, s < cn A 1 → sm_v Y 1 s 3 = 0 ∨ sm_v Y 1 s 3 = 1) (kx : ∀ (h2 h3 : AH) (z C S : Nat), JW Γ A c Y Y N dg h2 h3 → z0 ≤ z → C0 ≤ C → S0 ≤ S → Go Γ M_Sim_isSame 8 C S 324 [some (.ref ((ad A 6 0))), some (.ref c), none, some (.int ((sumN (fun r => sm_v Y 0 r 1) (cn A 0)))), some (.int ((nI (cn A 0)))), none, none, none, none, none] [] h3 z Q X) : ∀ (k r : Nat) (h2 h3 : AH) (z C S : Nat), r + k = cn A 0 → JW Γ A c Y Y N dg h2 h3 → z0 ≤ z → C0 + 25 * k ≤ C → S0 + 150 * k ≤ S → Go Γ M_Sim_isSame 8 C S 37 [some (.ref ((ad A 6 0))), some (.ref c), none, some (.int ((sumN (fun r => sm_v Y 0 r 1) r))), some (.int ((nI r))), none, none, none, none, none] [] h3 z Q X := by
  intro k
  induction k with
  | zero =>
    intro r h2 h3 z C S hi J hz hC hS
    have e : r = cn A 0 := by omega
    subst e
    refine Go.iload_4 d_Sim_isSame_37 rfl ?_
    refine Go.aload_0 d_Sim_isSame_39 rfl ?_
    refine Go.getfield d_Sim_isSame_40 rfl f_Sim_14 (J.obj hj) rfl ?_
    refine Go.jal d_Sim_isSame_43 rfl hj J (k := 0) (by decide) ?_
    refine Go.icmp_ge (t := 324) d_Sim_isSame_44 (by decide) rfl (fun _ => ?_) (fun w => absurd (nI_le (Nat.le_refl _) (Nat.lt_of_le_of_lt (aj8 hj (by decide)) (by decide))) w)
    exact kx h2 h3 z C S J hz (by omega) (by omega)
  | succ k ih =>
    intro r h2 h3 z C S hi J hz hC hS
    refine Go.iload_4 d_Sim_isSame_37 rfl ?_
    refine Go.aload_0 d_Sim_isSame_39 rfl ?_
    refine Go.getfield d_Sim_isSame_40 rfl f_Sim_14 (J.obj hj) rfl ?_
    refine Go.jal d_Sim_isSame_43 rfl hj J (k := 0) (by decide) ?_
    refine Go.icmp_ge (t := 324) d_Sim_isSame_44 (by decide) rfl (fun w => absurd w (nI_ge (show r < cn A 0 by omega) (Nat.lt_of_le_of_lt (aj8 hj (by decide)) (by decide)))) (fun _ => ?_)
    have hr : r < cn A 0 := by omega
    refine Go.bipush (v := 6) d_Sim_isSame_47 rfl (by decide) ?_
    refine Go.onew (C1 := C - 1) (S1 := S - 6) d_Sim_isSame_49 rfl hj J hz (n := 6) rfl (by decide) (by omega) (by omega) (fun p0 q0 J0 b0 hn e0 => ?_)
    obtain ⟨a, ea⟩ : ∃ a, a = z := ⟨z, rfl⟩
    rw [← ea] at b0 hn e0 ⊢
    have hza : z0 ≤ a := by omega
    refine Go.dup d_Sim_isSame_51 rfl rfl ?_
    refine Go.iconst (v := 0) d_Sim_isSame_52 rfl (by decide) ?_
    refine Go.aload_0 d_Sim_isSame_53 rfl ?_
    refine Go.getfield d_Sim_isSame_54 rfl f_Sim_14 (J0.obj hj) rfl ?_
    refine Go.iload_4 d_Sim_isSame_57 rfl ?_
    refine Go.jaal d_Sim_isSame_59 rfl hj J0 (k := 0) (r := r) (by decide) rfl (by first | assumption | omega) ?_
    refine Go.iconst (v := 0) d_Sim_isSame_60 rfl (by decide) ?_
    refine Go.jial d_Sim_isSame_61 rfl hj J0 (k := 0) (r := r) (j := 0) (by decide) (by first | assumption | omega) rfl (by first | decide | assumption | omega) ?_
    refine Go.oias d_Sim_isSame_62 rfl hj J0 hza b0 (j := 0) rfl (by decide) (by decide) (fun p1 q1 J1 b1 e1 => ?_)
    refine Go.dup d_Sim_isSame_63 rfl rfl ?_
    refine Go.iconst (v := 1) d_Sim_isSame_64 rfl (by decide) ?_
    refine Go.aload_0 d_Sim_isSame_65 rfl ?_
    refine Go.getfield d_Sim_isSame_66 rfl f_Sim_14 (J1.obj hj) rfl ?_
    refine Go.iload_4 d_Sim_isSame_69 rfl ?_
    refine Go.jaal d_Sim_isSame_71 rfl hj J1 (k := 0) (r := r) (by decide) rfl (by first | assumption | omega) ?_
    refine Go.iconst (v := 1) d_Sim_isSame_72 rfl (by decide) ?_
    refine Go.jial d_Sim_isSame_73 rfl hj J1 (k := 0) (r := r) (j := 1) (by decide) (by first | assumption | omega) rfl (by first | decide | assumption | omega) ?_
    refine Go.oias d_Sim_isSame_74 rfl hj J1 hza b1 (j := 1) rfl (by decide) (by decide) (fun p2 q2 J2 b2 e2 => ?_)
    refine Go.dup d_Sim_isSame_75 rfl rfl ?_
    refine Go.iconst (v := 2) d_Sim_isSame_76 rfl (by decide) ?_
    refine Go.aload_0 d_Sim_isSame_77 rfl ?_
    refine Go.getfield d_Sim_isSame_78 rfl f_Sim_14 (J2.obj hj) rfl ?_
    refine Go.iload_4 d_Sim_isSame_81 rfl ?_
    refine Go.jaal d_Sim_isSame_83 rfl hj J2 (k := 0) (r := r) (by decide) rfl (by first | assumption | omega) ?_
    refine Go.iconst (v := 2) d_Sim_isSame_84 rfl (by decide) ?_
    refine Go.jial d_Sim_isSame_85 rfl hj J2 (k := 0) (r := r) (j := 2) (by decide) (by first | assumption | omega) rfl (by first | decide | assumption | omega) ?_
    refine Go.oias d_Sim_isSame_86 rfl hj J2 hza b2 (j := 2) rfl (by decide) (by decide) (fun p3 q3 J3 b3 e3 => ?_)
    refine Go.dup d_Sim_isSame_87 rfl rfl ?_
    refine Go.iconst (v := 3) d_Sim_isSame_88 rfl (by decide) ?_
    refine Go.iconst (v := 0) d_Sim_isSame_89 rfl (by decide) ?_
    refine Go.oias d_Sim_isSame_90 rfl hj J3 hza b3 (j := 3) rfl (by decide) (by decide) (fun p4 q4 J4 b4 e4 => ?_)
    refine Go.dup d_Sim_isSame_91 rfl rfl ?_
    refine Go.iconst (v := 4) d_Sim_isSame_92 rfl (by decide) ?_
    refine Go.iconst (v := 0) d_Sim_isSame_93 rfl (by decide) ?_
    refine Go.oias d_Sim_isSame_94 rfl hj J4 hza b4 (j := 4) rfl (by decide) (by decide) (fun p5 q5 J5 b5 e5 => ?_)
    refine Go.dup d_Sim_isSame_95 rfl rfl ?_
    refine Go.iconst (v := 5) d_Sim_isSame_96 rfl (by decide) ?_
    refine Go.iconst (v := 0) d_Sim_isSame_97 rfl (by decide) ?_
    refine Go.oias d_Sim_isSame_98 rfl hj J5 hza b5 (j := 5) rfl (by decide) (by decide) (fun p6 q6 J6 b6 e6 => ?_)
    refine Go.astore_5 d_Sim_isSame_99 rfl (by rfl) ?_
    refine Go.aload_0 d_Sim_isSame_101 rfl ?_
    refine Go.getfield d_Sim_isSame_102 rfl f_Sim_27 (J6.obj hj) rfl ?_
    refine Go.astore_6 d_Sim_isSame_105 rfl (by rfl) ?_
    refine Go.aload_6 d_Sim_isSame_107 rfl ?_
    refine Go.jal d_Sim_isSame_109 rfl hj J6 (k := 4) (by decide) ?_
    refine Go.istore_7 d_Sim_isSame_110 rfl (by rfl) ?_
    refine Go.iconst (v := 0) d_Sim_isSame_112 rfl (by decide) ?_
    refine Go.istore_8 d_Sim_isSame_113 rfl (by rfl) ?_
    refine same_115 hj hms hth hi01 hza (fun h4 h5 f3 J7 b7 hf3 hg3 => ?_) (cn A 4) 0 _ _ _ (Nat.zero_add _) J6 b6 (fun _ _ => rfl) rfl
    refine Go.aload_0 d_Sim_isSame_164 rfl ?_
    refine Go.getfield d_Sim_isSame_165 rfl f_Sim_18 (J7.obj hj) rfl ?_
    refine Go.astore_6 d_Sim_isSame_168 rfl (by rfl) ?_
    refine Go.aload_6 d_Sim_isSame_170 rfl ?_
    refine Go.jal d_Sim_isSame_172 rfl hj J7 (k := 1) (by decide) ?_
    refine Go.istore_7 d_Sim_isSame_173 rfl (by rfl) ?_
    refine Go.iconst (v := 0) d_Sim_isSame_175 rfl (by decide) ?_
    refine Go.istore_8 d_Sim_isSame_176 rfl (by rfl) ?_
    refine same_178 hj hms hth hi01 hza (fun h6 h7 f4 J8 b8 hf4 hg4 => ?_) (cn A 1) 0 _ _ _ (Nat.zero_add _) J7 b7 (fun _ _ => rfl) ((hf3 4 (by decide)).trans rfl)
    refine Go.aload_0 d_Sim_isSame_222 rfl ?_
    refine Go.getfield d_Sim_isSame_223 rfl f_Sim_21 (J8.obj hj) rfl ?_
    refine Go.astore_6 d_Sim_isSame_226 rfl (by rfl) ?_
    refine Go.aload_6 d_Sim_isSame_228 rfl ?_
    refine Go.jal d_Sim_isSame_230 rfl hj J8 (k := 2) (by decide) ?_
    refine Go.istore_7 d_Sim_isSame_231 rfl (by rfl) ?_
    refine Go.iconst (v := 0) d_Sim_isSame_233 rfl (by decide) ?_
    refine Go.istore_8 d_Sim_isSame_234 rfl (by rfl) ?_
    refine same_236 hj hms hth hi01 hza (fun h8 h9 f5 J9 b9 hf5 hg5 => ?_) (cn A 2) 0 _ _ _ (Nat.zero_add _) J8 b8 (fun _ _ => rfl) ((hf4 5 (by decide)).trans ((hf3 5 (by decide)).trans rfl))
    have hf : ∀ j, j < 6 → f5 j = tellB A Y r j := fun j hj6 => by
      match j, hj6 with
      | 0, _ => exact (hf5 0 (by decide)).trans ((hf4 0 (by decide)).trans ((hf3 0 (by decide)).trans rfl))
      | 1, _ => exact (hf5 1 (by decide)).trans ((hf4 1 (by decide)).trans ((hf3 1 (by decide)).trans rfl))
      | 2, _ => exact (hf5 2 (by decide)).trans ((hf4 2 (by decide)).trans ((hf3 2 (by decide)).trans rfl))
      | 3, _ => exact (hf5 3 (by decide)).trans ((hf4 3 (by decide)).trans hg3)
      | 4, _ => exact (hf5 4 (by decide)).trans hg4
      | 5, _ => exact hg5
      | _ + 6, w => exact absurd w (by omega)
    refine Go.iconst (v := 0) d_Sim_isSame_277 rfl (by decide) ?_
    refine Go.istore_6 d_Sim_isSame_278 rfl (by rfl) ?_
    refine Go.fgt [some (.ref ((ad A 6 0))), some (.ref c), none, some (.int ((sumN (fun r => sm_v Y 0 r 1) r))), some (.int ((nI r))), some (.ref a), some (.int ((nI 0))), none, none, none] (by repeat' (first | exact trivial | refine ⟨rfl, ?_⟩)) ?_
    refine same_280 hj hms hth (C0 := C - 25) (S0 := S - 150) hr hza J9 b9 hf (fun C2 S2 hC2 hS2 => ?_) 6 0 _ _ rfl (by omega) (by omega)
    refine Go.iload_3 d_Sim_isSame_311 rfl ?_
    refine Go.aload_5 d_Sim_isSame_312 rfl ?_
    refine Go.iconst (v := 1) d_Sim_isSame_314 rfl (by decide) ?_
    refine Go.oial d_Sim_isSame_315 rfl hj J9 hza b9 (j := 1) rfl (by first | decide | assumption | omega) (by first | decide | omega) ?_
    refine Go.iadd d_Sim_isSame_316 rfl ?_
    rw [show sumN (fun r => sm_v Y 0 r 1) r + f5 1 = sumN (fun r => sm_v Y 0 r 1) (r + 1) from by rw [hf 1 (by decide)]; rfl]
    refine Go.istore_3 d_Sim_isSame_317 rfl (by rfl) ?_
    refine Go.iinc_4 d_Sim_isSame_318 rfl (by rfl) (show nI r + Int32.ofInt 1 = nI (r + 1) from nI_ad r 1) ?_
    refine Go.goto (t := 37) d_Sim_isSame_321 (by decide) ?_
    refine Go.fgt [some (.ref ((ad A 6 0))), some (.ref c), none, some (.int ((sumN (fun r => sm_v Y 0 r 1) (r + 1)))), some (.int ((nI (r + 1)))), none, none, none, none, none] (by repeat' (first | exact trivial | refine ⟨rfl, ?_⟩)) ?_
    exact ih (r + 1) _ _ _ C2 S2 (by omega) J9 (by omega) (by omega) (by omega)
theorem j_mean (hj : AJ A c z0) (hJ : JW Γ A c Y Y N dg h h') : CallR Γ M_Camp_mean 2 [.ref c] h' z (some (.double (FP.ddiv (FP.i2d (sumN (fun r => sm_v Y 0 r 1) (cn A 0))) (FP.i2d (nI (cn A 0)))))) h' ∧ vf_n64 (FP.ddiv (FP.i2d (sumN (fun r => sm_v Y 0 r 1) (cn A 0))) (FP.i2d (nI (cn A 0)))) ∧ FP.dcmp (FP.ddiv (FP.i2d (sumN (fun r => sm_v Y 0 r 1) (cn A 0))) (FP.i2d (nI (cn A 0)))) (FP.ddiv (FP.i2d (sumN (fun r => sm_v Y 0 r 1) (cn A 0))) (FP.i2d (nI (cn A 0)))) = some .eq := by
  obtain ⟨sg, sw, g, g2, o, o2, a, K, σ, τ, T, F, U, G, P, ⟨hs, hsn, hw⟩, geo, bd, hsz, ho, ho2, hT, hU, hV, hP, hI, hO, hd, e9⟩ := hJ
  have hW := aj_wf hj hP
  have ho' : smC Γ A h Y o = some (.inr (3, [.ref (o + 1), .ref (o + 3)])) := (sm_no (hj.2.1 o (by omega) (by omega))).trans ho
  have ho2' : smC Γ A h Y o2 = some (.inr (3, [.ref (o2 + 1), .ref (o2 + 3)])) := (sm_no (hj.2.1 o2 (by omega) (by omega))).trans ho2
  rw [sm_cw9 hj geo bd] at e9
  obtain ⟨p1, p2⟩ := hj.2.2.2.2 0 (by decide)
  have hs0 := hP.sum (k := 0) (c := 1) (by decide) (by decide) (by decide)
  obtain ⟨s, s1, s2⟩ := snow_N (f := fun r => sm_v Y 0 r 1) (cn A 0) (fun r hr => (hI.1.2 0 r (by decide) hr).2.1)
  have n1 := mean_n (s := s) (m := cn A 0) (by omega) p1 (by omega)
  have n2 := mean_q (s := s) (m := cn A 0) (by omega) p1 (by omega)
  have hg : gN σ 0 = cn A 0 := hP.1 0 (by decide)
  rw [← s1] at n1 n2
  refine ⟨?_, n1, n2⟩
  have hc := c_Camp_mean (Γ := Γ) (sg := sg) (sw := sw) (h := smC Γ A h Y) (c := c) (g := g) (g2 := g2) (o := o) (o2 := o2) (z := z) (A := a) (K := K) (σ := σ) (τ := τ) (T := T) (F := F) (U := U) (G := G) (P := P) hs hsn hw geo (by omega) ho' ho2' hT hU hW hV (fun _ => by rw [hg, hs0]; exact n1)
  unfold s_Camp_mean at hc
  rw [hg, hs0, if_neg (nI_nle (by omega) (by omega))] at hc
  rw [e9]
  exact hc
theorem d_Sim_isSame_0 : decode M_Sim_isSame.2.1 0 = .ok (.aload_n 0, 1) := by decide +kernel
theorem d_Sim_isSame_1 : decode M_Sim_isSame.2.1 1 = .ok (.invokevirtual 108, 3) := by decide +kernel
theorem d_Sim_isSame_4 : decode M_Sim_isSame.2.1 4 = .ok (.astore_n 2, 1) := by decide +kernel
theorem d_Sim_isSame_5 : decode M_Sim_isSame.2.1 5 = .ok (.iconst 0, 1) := by decide +kernel
theorem d_Sim_isSame_6 : decode M_Sim_isSame.2.1 6 = .ok (.istore_n 3, 1) := by decide +kernel
theorem d_Sim_isSame_32 : decode M_Sim_isSame.2.1 32 = .ok (.iconst 0, 1) := by decide +kernel
theorem d_Sim_isSame_33 : decode M_Sim_isSame.2.1 33 = .ok (.istore_n 3, 1) := by decide +kernel
theorem d_Sim_isSame_34 : decode M_Sim_isSame.2.1 34 = .ok (.iconst 0, 1) := by decide +kernel
theorem d_Sim_isSame_35 : decode M_Sim_isSame.2.1 35 = .ok (.istore 4, 2) := by decide +kernel
theorem d_Sim_isSame_324 : decode M_Sim_isSame.2.1 324 = .ok (.iconst 0, 1) := by decide +kernel
theorem d_Sim_isSame_325 : decode M_Sim_isSame.2.1 325 = .ok (.istore 4, 2) := by decide +kernel
theorem d_Sim_isSame_382 : decode M_Sim_isSame.2.1 382 = .ok (.iconst 0, 1) := by decide +kernel
theorem d_Sim_isSame_383 : decode M_Sim_isSame.2.1 383 = .ok (.istore 4, 2) := by decide +kernel
theorem d_Sim_isSame_463 : decode M_Sim_isSame.2.1 463 = .ok (.iconst 0, 1) := by decide +kernel
theorem d_Sim_isSame_464 : decode M_Sim_isSame.2.1 464 = .ok (.istore 4, 2) := by decide +kernel
theorem d_Sim_isSame_520 : decode M_Sim_isSame.2.1 520 = .ok (.iconst 0, 1) := by decide +kernel
theorem d_Sim_isSame_521 : decode M_Sim_isSame.2.1 521 = .ok (.istore 4, 2) := by decide +kernel
theorem d_Sim_isSame_578 : decode M_Sim_isSame.2.1 578 = .ok (.aload_n 1, 1) := by decide +kernel
theorem d_Sim_isSame_579 : decode M_Sim_isSame.2.1 579 = .ok (.invokevirtual 133, 3) := by decide +kernel
theorem d_Sim_isSame_582 : decode M_Sim_isSame.2.1 582 = .ok (.aload_n 0, 1) := by decide +kernel
theorem d_Sim_isSame_583 : decode M_Sim_isSame.2.1 583 = .ok (.getfield 14, 3) := by decide +kernel
theorem d_Sim_isSame_586 : decode M_Sim_isSame.2.1 586 = .ok (.arraylength, 1) := by decide +kernel
theorem d_Sim_isSame_587 : decode M_Sim_isSame.2.1 587 = .ok (.ifCond .ne 7, 3) := by decide +kernel
theorem d_Sim_isSame_594 : decode M_Sim_isSame.2.1 594 = .ok (.iload_n 3, 1) := by decide +kernel
theorem d_Sim_isSame_595 : decode M_Sim_isSame.2.1 595 = .ok (.i2d, 1) := by decide +kernel
theorem d_Sim_isSame_596 : decode M_Sim_isSame.2.1 596 = .ok (.aload_n 0, 1) := by decide +kernel
theorem d_Sim_isSame_597 : decode M_Sim_isSame.2.1 597 = .ok (.getfield 14, 3) := by decide +kernel
theorem d_Sim_isSame_600 : decode M_Sim_isSame.2.1 600 = .ok (.arraylength, 1) := by decide +kernel
theorem d_Sim_isSame_601 : decode M_Sim_isSame.2.1 601 = .ok (.i2d, 1) := by decide +kernel
theorem d_Sim_isSame_602 : decode M_Sim_isSame.2.1 602 = .ok (.ddiv, 1) := by decide +kernel
theorem d_Sim_isSame_603 : decode M_Sim_isSame.2.1 603 = .ok (.dcmp .l, 1) := by decide +kernel
theorem d_Sim_isSame_604 : decode M_Sim_isSame.2.1 604 = .ok (.ifCond .ne 7, 3) := by decide +kernel
theorem d_Sim_isSame_607 : decode M_Sim_isSame.2.1 607 = .ok (.iconst 1, 1) := by decide +kernel
theorem d_Sim_isSame_608 : decode M_Sim_isSame.2.1 608 = .ok (.goto 4, 3) := by decide +kernel
theorem d_Sim_isSame_612 : decode M_Sim_isSame.2.1 612 = .ok (.ireturn, 1) := by decide +kernel
set_option maxRecDepth 100000 in
set_option maxHeartbeats 4000000 in
theorem c_same (hj : AJ A c z0) (hJ : JW Γ A c Y Y N dg h h') (hms : MsOk Γ ms) (hth : ThOk Γ) (hz : z0 ≤ z) (hN : N ≤ 900000) : Call Γ M_Sim_isSame 8 600 4000 [.ref (ad A 6 0), .ref c] h' z (fun v _ _ => v = some (.int 1)) noX := by
  have hi01 := hJ.iv.1.s01
  obtain ⟨p0, p1, p2, p3, p4⟩ := aj_p hj
  refine Call.of_go (L := [some (.ref (ad A 6 0)), some (.ref c), none, none, none, none, none, none, none, none]) (by decide +kernel) rfl (by exact Nat.le_of_ble_eq_true rfl) ?_
  refine Go.aload_0 d_Sim_isSame_0 rfl ?_
  refine Go.callV (C1 := 599) (S1 := 3985) (as := []) d_Sim_isSame_1 rfl l_Sim_108 k_Sim_counts_v rfl (hJ.obj hj) rfl rfl (c_counts hj hJ hz hN) (by decide) (by decide) (by decide) (by decide) (by decide) (fun _ _ _ w _ => w.elim) (fun v9 h3 z9 w9 hz9 => ?_)
  obtain ⟨a, h2, f, rfl, hza, J, ha, -, -, hf⟩ := w9
  refine Go.astore_2 d_Sim_isSame_4 rfl (by rfl) ?_
  refine Go.iconst (v := 0) d_Sim_isSame_5 rfl (by decide) ?_
  refine Go.istore_3 d_Sim_isSame_6 rfl (by rfl) ?_
  refine same_7 hj hms hth (C0 := 539) (S0 := 3625) hza J ha hf (fun C S hC hS => ?_) 15 0 _ _ rfl (by decide) (by decide)
  refine Go.iconst (v := 0) d_Sim_isSame_32 rfl (by decide) ?_
  refine Go.istore_3 d_Sim_isSame_33 rfl (by rfl) ?_
  refine Go.iconst (v := 0) d_Sim_isSame_34 rfl (by decide) ?_
  refine Go.istore_4 d_Sim_isSame_35 rfl (by rfl) ?_
  refine Go.fgt [some (.ref ((ad A 6 0))), some (.ref c), none, some (.int ((sumN (fun r => sm_v Y 0 r 1) 0))), some (.int ((nI 0))), none, none, none, none, none] (by repeat' (first | exact trivial | refine ⟨rfl, ?_⟩)) ?_
  refine same_37 hj hms hth (C0 := 439) (S0 := 3025) hi01 (fun h4 h5 z5 C S J5 hz5 hC hS => ?_) (cn A 0) 0 _ _ _ _ _ (Nat.zero_add _) J (by omega) (by omega) (by omega)
  refine Go.iconst (v := 0) d_Sim_isSame_324 rfl (by decide) ?_
  refine Go.istore_4 d_Sim_isSame_325 rfl (by rfl) ?_
  refine Go.fgt [some (.ref ((ad A 6 0))), some (.ref c), none, some (.int ((sumN (fun r => sm_v Y 0 r 1) (cn A 0)))), some (.int ((nI 0))), none, none, none, none, none] (by repeat' (first | exact trivial | refine ⟨rfl, ?_⟩)) ?_
  refine same_327 hj hms hth (C0 := 343) (S0 := 2449) (w3 := sumN (fun r => sm_v Y 0 r 1) (cn A 0)) J5 (fun C S hC hS => ?_) (cn A 1) 0 _ _ (Nat.zero_add _) (by omega) (by omega)
  refine Go.iconst (v := 0) d_Sim_isSame_382 rfl (by decide) ?_
  refine Go.istore_4 d_Sim_isSame_383 rfl (by rfl) ?_
  refine Go.fgt [some (.ref ((ad A 6 0))), some (.ref c), none, some (.int ((sumN (fun r => sm_v Y 0 r 1) (cn A 0)))), some (.int ((nI 0))), none, none, none, none, none] (by repeat' (first | exact trivial | refine ⟨rfl, ?_⟩)) ?_
  refine same_385 hj hms hth (C0 := 247) (S0 := 1873) (w3 := sumN (fun r => sm_v Y 0 r 1) (cn A 0)) J5 (fun C S hC hS => ?_) (cn A 2) 0 _ _ (Nat.zero_add _) (by omega) (by omega)
  refine Go.iconst (v := 0) d_Sim_isSame_463 rfl (by decide) ?_
  refine Go.istore_4 d_Sim_isSame_464 rfl (by rfl) ?_
  refine Go.fgt [some (.ref ((ad A 6 0))), some (.ref c), none, some (.int ((sumN (fun r => sm_v Y 0 r 1) (cn A 0)))), some (.int ((nI 0))), none, none, none, none, none] (by repeat' (first | exact trivial | refine ⟨rfl, ?_⟩)) ?_
  refine same_466 hj hms hth (C0 := 215) (S0 := 1681) (w3 := sumN (fun r => sm_v Y 0 r 1) (cn A 0)) J5 (fun C S hC hS => ?_) (cn A 3) 0 _ _ (Nat.zero_add _) (by omega) (by omega)
  refine Go.iconst (v := 0) d_Sim_isSame_520 rfl (by decide) ?_
  refine Go.istore_4 d_Sim_isSame_521 rfl (by rfl) ?_
  refine Go.fgt [some (.ref ((ad A 6 0))), some (.ref c), none, some (.int ((sumN (fun r => sm_v Y 0 r 1) (cn A 0)))), some (.int ((nI 0))), none, none, none, none, none] (by repeat' (first | exact trivial | refine ⟨rfl, ?_⟩)) ?_
  refine same_523 hj hms hth (C0 := 87) (S0 := 913) (w3 := sumN (fun r => sm_v Y 0 r 1) (cn A 0)) J5 (fun C S hC hS => ?_) (cn A 4) 0 _ _ (Nat.zero_add _) (by omega) (by omega)
  obtain ⟨m1, m2, m3⟩ := j_mean (z := z5) hj J5
  refine Go.aload_1 d_Sim_isSame_578 rfl ?_
  refine Go.cvR (as := []) (rest := []) d_Sim_isSame_579 rfl l_Sim_133 k_Camp_mean_v rfl (J5.cam hj) rfl rfl m1 rfl rfl rfl ?_
  refine Go.aload_0 d_Sim_isSame_582 rfl ?_
  refine Go.getfield d_Sim_isSame_583 rfl f_Sim_14 (J5.obj hj) rfl ?_
  refine Go.jal d_Sim_isSame_586 rfl hj J5 (k := 0) (by decide) ?_
  refine Go.if_ne (t := 594) d_Sim_isSame_587 (by decide) rfl (fun _ => ?_) (fun w => absurd w (nI_ne0 (by omega) (Nat.lt_of_le_of_lt (aj8 hj (by decide)) (by decide))))
  refine Go.iload_3 d_Sim_isSame_594 rfl ?_
  refine Go.i2d d_Sim_isSame_595 rfl ?_
  refine Go.aload_0 d_Sim_isSame_596 rfl ?_
  refine Go.getfield d_Sim_isSame_597 rfl f_Sim_14 (J5.obj hj) rfl ?_
  refine Go.jal d_Sim_isSame_600 rfl hj J5 (k := 0) (by decide) ?_
  refine Go.i2d d_Sim_isSame_601 rfl ?_
  refine Go.ddiv d_Sim_isSame_602 rfl m2 ?_
  refine Go.dcmp d_Sim_isSame_603 rfl ?_
  rw [m3]
  refine Go.if_ne (t := 611) d_Sim_isSame_604 (by decide) rfl (fun w => absurd (rfl) w) (fun _ => ?_)
  refine Go.iconst (v := 1) d_Sim_isSame_607 rfl (by decide) ?_
  refine Go.goto (t := 612) d_Sim_isSame_608 (by decide) ?_
  exact Go.iret d_Sim_isSame_612 rfl (ret_z (Or.inr rfl)) rfl
end Sm
