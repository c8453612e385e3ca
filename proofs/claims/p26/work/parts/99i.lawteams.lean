/-! the law: what it keeps of the teams -/
section Lw
variable {Γ : G9} {A : AD} {c z0 z sa it : Nat} {Y : SM} {N : Nat} {dg : Int64} {h h' : AH} {ms : Nat → Nat} {Q : QT} {X : XT} {w8 : Int32} {M : MI} {d C S pc q : Nat} {L : List (Option Value)} {st : List Value}
theorem Go.oaal {a n j b : Nat} {Yc Ys : SM} {g : Nat → Option Nat} {vi : Int32} (hd : decode M.2.1 pc = .ok (.aaload, 1)) (hq : pc + 1 = q) (hj : AJ A c z0) (hJ : JW Γ A c Yc Ys N dg h h') (ha : z0 ≤ a) (hf : h a = some (aA Γ n g)) (ei : vi = nI j) (hw : j < n) (hn : n < 1000) (hg : g j = some b) (kk : Go Γ M d C S q L (.ref b :: st) h' z Q X) : Go Γ M d C S pc L (.int vi :: .ref a :: st) h' z Q X := by
  subst ei
  refine Go.aaldA hd hq ((hJ.rd hj ha).trans hf) (vp_in_nI hw (by omega)) ?_
  rw [nI_clamp (show j < 2 ^ 31 by omega), hg]
  exact kk
/-- the table of the teams -/
def HB (Γ : G9) (A : AD) (z0 : Nat) (h : AH) (aH : Nat) (b : Nat → Nat) (f : Nat → Nat → Int32) : Prop := z0 ≤ aH ∧ (∀ t, t < cn A 4 → z0 ≤ b t ∧ b t ≠ aH) ∧ (∀ t u, t < cn A 4 → u < cn A 4 → b t = b u → t = u) ∧ h aH = some (aA Γ (cn A 4) (fun t => some (b t))) ∧ ∀ t, t < cn A 4 → h (b t) = some (aI Γ 8 (f t))
theorem HB.put {h2 : AH} {aH r : Nat} {b : Nat → Nat} {f : Nat → Nat → Int32} {F : Nat → Int32} (hb : HB Γ A z0 h aH b f) (hr : r < cn A 4) (hf : h2 (b r) = some (aI Γ 8 F)) (hk : ∀ x, x ≠ b r → h2 x = h x) : HB Γ A z0 h2 aH b (fun t => if t = r then F else f t) := by
  obtain ⟨h1, h4, h3, h5, h6⟩ := hb
  refine ⟨h1, h4, h3, (hk _ (h4 r hr).2.symm).trans h5, fun t ht => ?_⟩
  by_cases e : t = r
  · show h2 (b t) = some (aI Γ 8 (if t = r then F else f t))
    rw [if_pos e, e]
    exact hf
  · show h2 (b t) = some (aI Γ 8 (if t = r then F else f t))
    rw [if_neg e]
    exact (hk _ (fun w => e (h3 t r ht hr w))).trans (h6 t ht)
def HD (Γ : G9) (A : AD) (Y : SM) (z0 : Nat) (h : AH) (aH : Nat) : Prop := ∃ b f, HB Γ A z0 h aH b f ∧ ∀ t, t < cn A 4 → ∀ j, j < 8 → f t j = sm_v Y 4 t j
theorem HD.ext {h2 : AH} {aH : Nat} (hd : HD Γ A Y z0 h aH) (he : Ext h h2) : HD Γ A Y z0 h2 aH := by
  obtain ⟨b, f, ⟨h1, h4, h3, h5, h6⟩, hf⟩ := hd
  exact ⟨b, f, ⟨h1, h4, h3, he _ _ h5, fun t ht => he _ _ (h6 t ht)⟩, hf⟩
theorem d_law_431 : decode M_law.2.1 431 = .ok (.iload 22, 2) := by decide +kernel
theorem d_law_433 : decode M_law.2.1 433 = .ok (.bipush 8, 2) := by decide +kernel
theorem d_law_435 : decode M_law.2.1 435 = .ok (.if_icmp .ge 25, 3) := by decide +kernel
theorem d_law_438 : decode M_law.2.1 438 = .ok (.aload 20, 2) := by decide +kernel
theorem d_law_440 : decode M_law.2.1 440 = .ok (.iload 21, 2) := by decide +kernel
theorem d_law_442 : decode M_law.2.1 442 = .ok (.aaload, 1) := by decide +kernel
theorem d_law_443 : decode M_law.2.1 443 = .ok (.iload 22, 2) := by decide +kernel
theorem d_law_445 : decode M_law.2.1 445 = .ok (.aload_n 1, 1) := by decide +kernel
theorem d_law_446 : decode M_law.2.1 446 = .ok (.iload 21, 2) := by decide +kernel
theorem d_law_448 : decode M_law.2.1 448 = .ok (.iload 22, 2) := by decide +kernel
theorem d_law_450 : decode M_law.2.1 450 = .ok (.invokevirtual 284, 3) := by decide +kernel
theorem d_law_453 : decode M_law.2.1 453 = .ok (.iastore, 1) := by decide +kernel
theorem d_law_454 : decode M_law.2.1 454 = .ok (.iinc 22 1, 3) := by decide +kernel
theorem d_law_457 : decode M_law.2.1 457 = .ok (.goto (-26), 3) := by decide +kernel
set_option maxRecDepth 100000 in
set_option maxHeartbeats 4000000 in
theorem law_431 (hj : AJ A c z0) (hms : MsOk Γ ms) (hth : ThOk Γ) {am as ai aw aH r : Nat} {b : Nat → Nat} {w17 w18 w19 : Int32} (gH : z0 ≤ aH) (hH : h aH = some (aA Γ (cn A 4) (fun t => some (b t)))) (hr : r < cn A 4) (gb : z0 ≤ b r) (hne : aH ≠ b r) {C0 S0 : Nat} (kx : ∀ (h2 h3 : AH) (f : Nat → Int32) (C S : Nat), JW Γ A c Y Y N dg h2 h3 → C0 ≤ C → S0 ≤ S → h2 (b r) = some (aI Γ 8 f) → (∀ j, j < 8 → f j = sm_v Y 4 r j) → (∀ x, x ≠ b r → h2 x = h x) → Go Γ M_law 80 C S 460 [some (.ref sa), some (.ref c), none, some (.ref ((ad A 6 0))), some (.int ((nI (cn A 0)))), some (.int ((nI (cn A 1)))), some (.int ((nI (cn A 4)))), some (.int ((nI it))), some (.int w8), some (.long dg), none, some (.ref am), some (.ref as), some (.ref ai), none, some (.ref aw), some (.int ((sumN (fun s => sm_v Y 1 s 5) (cn A 1)))), some (.int w17), some (.int w18), some (.int w19), some (.ref aH), some (.int ((nI r))), some (.int ((nI 8))), none, none, none, none, none, none, none, none] [] h3 z Q X) : ∀ (k i : Nat) (h2 h3 : AH) (f : Nat → Int32) (C S : Nat), i + k = 8 → JW Γ A c Y Y N dg h2 h3 → h2 (b r) = some (aI Γ 8 f) → (∀ j, j < i → f j = sm_v Y 4 r j) → (∀ x, x ≠ b r → h2 x = h x) → C0 + 4 * k ≤ C → S0 + 24 * k ≤ S → Go Γ M_law 80 C S 431 [some (.ref sa), some (.ref c), none, some (.ref ((ad A 6 0))), some (.int ((nI (cn A 0)))), some (.int ((nI (cn A 1)))), some (.int ((nI (cn A 4)))), some (.int ((nI it))), some (.int w8), some (.long dg), none, some (.ref am), some (.ref as), some (.ref ai), none, some (.ref aw), some (.int ((sumN (fun s => sm_v Y 1 s 5) (cn A 1)))), some (.int w17), some (.int w18), some (.int w19), some (.ref aH), some (.int ((nI r))), some (.int ((nI i))), none, none, none, none, none, none, none, none] [] h3 z Q X := by
  intro k
  induction k with
  | zero =>
    intro i h2 h3 f C S hi J hb hf hk hC hS
    have e : i = 8 := by omega
    subst e
    refine Go.iload_22 d_law_431 rfl ?_
    refine Go.bipush (v := 8) d_law_433 rfl (by decide) ?_
    refine Go.icmp_ge (t := 460) d_law_435 (by decide) rfl (fun _ => ?_) (fun w => absurd (nI_le (Nat.le_refl 8) (by decide)) w)
    exact kx h2 h3 f C S J (by omega) (by omega) hb hf hk
  | succ k ih =>
    intro i h2 h3 f C S hi J hb hf hk hC hS
    obtain ⟨p0, p1, p2, p3, p4⟩ := aj_p hj
    refine Go.iload_22 d_law_431 rfl ?_
    refine Go.bipush (v := 8) d_law_433 rfl (by decide) ?_
    refine Go.icmp_ge (t := 460) d_law_435 (by decide) rfl (fun w => absurd w (nI_ge (show i < 8 by omega) (by decide))) (fun _ => ?_)
    have hi8 : i < 8 := by omega
    refine Go.aload_20 d_law_438 rfl ?_
    refine Go.iload_21 d_law_440 rfl ?_
    refine Go.oaal d_law_442 rfl hj J gH ((hk aH hne).trans hH) (j := r) rfl (by first | assumption | omega) (by omega) rfl ?_
    refine Go.iload_22 d_law_443 rfl ?_
    refine Go.aload_1 d_law_445 rfl ?_
    refine Go.iload_21 d_law_446 rfl ?_
    refine Go.iload_22 d_law_448 rfl ?_
    refine Go.cvT (C1 := C - 4) (S1 := S - 24) (as := [.int ((nI r)), .int ((nI i))]) (rest := [.int ((nI i)), .ref ((b r))]) d_law_450 rfl l_Law_284 k_Camp_team_v rfl (J.cam hj) rfl rfl (j_team hj J hms hth (r := r) (k := i) rfl rfl (by first | decide | assumption | omega) (by first | decide | assumption | omega)) rfl rfl (by omega) (by omega) rfl ?_
    refine Go.oias d_law_453 rfl hj J gb hb (j := i) rfl (by first | decide | assumption | omega) (by first | decide | omega) (fun xb1 yb1 Jb1 bb1 eb1 => ?_)
    obtain ⟨Fb1, qb1⟩ : ∃ F, F = upd f i ((sm_v Y 4 r i)) := ⟨_, rfl⟩
    rw [← qb1] at bb1
    have ub1 : Fb1 i = (sm_v Y 4 r i) := by rw [qb1]; exact upd_at _ _ _
    have vb1 : ∀ j, j ≠ i → Fb1 j = f j := fun j hj => by rw [qb1]; exact upd_ne _ _ hj
    refine Go.iinc_22 d_law_454 rfl (by rfl) (show nI i + Int32.ofInt 1 = nI (i + 1) from nI_ad i 1) ?_
    refine Go.goto (t := 431) d_law_457 (by decide) ?_
    exact ih (i + 1) _ _ Fb1 _ _ (by omega) Jb1 bb1 (fun j hj2 => by
      by_cases e : j = i
      · subst e
        exact ub1
      · exact (vb1 j e).trans (hf j (by omega))) (fun x w1 => (eb1 x w1).trans (hk x w1)) (by omega) (by omega)
theorem d_law_421 : decode M_law.2.1 421 = .ok (.iload 21, 2) := by decide +kernel
theorem d_law_423 : decode M_law.2.1 423 = .ok (.iload 6, 2) := by decide +kernel
theorem d_law_425 : decode M_law.2.1 425 = .ok (.if_icmp .ge 159, 3) := by decide +kernel
theorem d_law_428 : decode M_law.2.1 428 = .ok (.iconst 0, 1) := by decide +kernel
theorem d_law_429 : decode M_law.2.1 429 = .ok (.istore 22, 2) := by decide +kernel
theorem d_law_460 : decode M_law.2.1 460 = .ok (.iload 17, 2) := by decide +kernel
theorem d_law_462 : decode M_law.2.1 462 = .ok (.aload 20, 2) := by decide +kernel
theorem d_law_464 : decode M_law.2.1 464 = .ok (.iload 21, 2) := by decide +kernel
theorem d_law_466 : decode M_law.2.1 466 = .ok (.aaload, 1) := by decide +kernel
theorem d_law_467 : decode M_law.2.1 467 = .ok (.iconst 5, 1) := by decide +kernel
theorem d_law_468 : decode M_law.2.1 468 = .ok (.iaload, 1) := by decide +kernel
theorem d_law_469 : decode M_law.2.1 469 = .ok (.iadd, 1) := by decide +kernel
theorem d_law_470 : decode M_law.2.1 470 = .ok (.istore 17, 2) := by decide +kernel
theorem d_law_472 : decode M_law.2.1 472 = .ok (.iload 18, 2) := by decide +kernel
theorem d_law_474 : decode M_law.2.1 474 = .ok (.aload 20, 2) := by decide +kernel
theorem d_law_476 : decode M_law.2.1 476 = .ok (.iload 21, 2) := by decide +kernel
theorem d_law_478 : decode M_law.2.1 478 = .ok (.aaload, 1) := by decide +kernel
theorem d_law_479 : decode M_law.2.1 479 = .ok (.iconst 1, 1) := by decide +kernel
theorem d_law_480 : decode M_law.2.1 480 = .ok (.iaload, 1) := by decide +kernel
theorem d_law_481 : decode M_law.2.1 481 = .ok (.iadd, 1) := by decide +kernel
theorem d_law_482 : decode M_law.2.1 482 = .ok (.istore 18, 2) := by decide +kernel
theorem d_law_484 : decode M_law.2.1 484 = .ok (.iload 19, 2) := by decide +kernel
theorem d_law_486 : decode M_law.2.1 486 = .ok (.aload 20, 2) := by decide +kernel
theorem d_law_488 : decode M_law.2.1 488 = .ok (.iload 21, 2) := by decide +kernel
theorem d_law_490 : decode M_law.2.1 490 = .ok (.aaload, 1) := by decide +kernel
theorem d_law_491 : decode M_law.2.1 491 = .ok (.bipush 6, 2) := by decide +kernel
theorem d_law_493 : decode M_law.2.1 493 = .ok (.iaload, 1) := by decide +kernel
theorem d_law_494 : decode M_law.2.1 494 = .ok (.iadd, 1) := by decide +kernel
theorem d_law_495 : decode M_law.2.1 495 = .ok (.istore 19, 2) := by decide +kernel
theorem d_law_497 : decode M_law.2.1 497 = .ok (.aload 20, 2) := by decide +kernel
theorem d_law_499 : decode M_law.2.1 499 = .ok (.iload 21, 2) := by decide +kernel
theorem d_law_501 : decode M_law.2.1 501 = .ok (.aaload, 1) := by decide +kernel
theorem d_law_502 : decode M_law.2.1 502 = .ok (.iconst 1, 1) := by decide +kernel
theorem d_law_503 : decode M_law.2.1 503 = .ok (.iaload, 1) := by decide +kernel
theorem d_law_504 : decode M_law.2.1 504 = .ok (.ifCond .lt 72, 3) := by decide +kernel
theorem d_law_507 : decode M_law.2.1 507 = .ok (.aload 20, 2) := by decide +kernel
theorem d_law_509 : decode M_law.2.1 509 = .ok (.iload 21, 2) := by decide +kernel
theorem d_law_511 : decode M_law.2.1 511 = .ok (.aaload, 1) := by decide +kernel
theorem d_law_512 : decode M_law.2.1 512 = .ok (.iconst 1, 1) := by decide +kernel
theorem d_law_513 : decode M_law.2.1 513 = .ok (.iaload, 1) := by decide +kernel
theorem d_law_514 : decode M_law.2.1 514 = .ok (.bipush 40, 2) := by decide +kernel
theorem d_law_516 : decode M_law.2.1 516 = .ok (.if_icmp .gt 60, 3) := by decide +kernel
theorem d_law_519 : decode M_law.2.1 519 = .ok (.aload 20, 2) := by decide +kernel
theorem d_law_521 : decode M_law.2.1 521 = .ok (.iload 21, 2) := by decide +kernel
theorem d_law_523 : decode M_law.2.1 523 = .ok (.aaload, 1) := by decide +kernel
theorem d_law_524 : decode M_law.2.1 524 = .ok (.iconst 2, 1) := by decide +kernel
theorem d_law_525 : decode M_law.2.1 525 = .ok (.iaload, 1) := by decide +kernel
theorem d_law_526 : decode M_law.2.1 526 = .ok (.ifCond .lt 50, 3) := by decide +kernel
theorem d_law_529 : decode M_law.2.1 529 = .ok (.aload 20, 2) := by decide +kernel
theorem d_law_531 : decode M_law.2.1 531 = .ok (.iload 21, 2) := by decide +kernel
theorem d_law_533 : decode M_law.2.1 533 = .ok (.aaload, 1) := by decide +kernel
theorem d_law_534 : decode M_law.2.1 534 = .ok (.iconst 2, 1) := by decide +kernel
theorem d_law_535 : decode M_law.2.1 535 = .ok (.iaload, 1) := by decide +kernel
theorem d_law_536 : decode M_law.2.1 536 = .ok (.iload 4, 2) := by decide +kernel
theorem d_law_538 : decode M_law.2.1 538 = .ok (.if_icmp .ge 38, 3) := by decide +kernel
theorem d_law_541 : decode M_law.2.1 541 = .ok (.aload 20, 2) := by decide +kernel
theorem d_law_543 : decode M_law.2.1 543 = .ok (.iload 21, 2) := by decide +kernel
theorem d_law_545 : decode M_law.2.1 545 = .ok (.aaload, 1) := by decide +kernel
theorem d_law_546 : decode M_law.2.1 546 = .ok (.iconst 3, 1) := by decide +kernel
theorem d_law_547 : decode M_law.2.1 547 = .ok (.iaload, 1) := by decide +kernel
theorem d_law_548 : decode M_law.2.1 548 = .ok (.iconst 3, 1) := by decide +kernel
theorem d_law_549 : decode M_law.2.1 549 = .ok (.if_icmp .ge 7, 3) := by decide +kernel
theorem d_law_552 : decode M_law.2.1 552 = .ok (.iconst 1, 1) := by decide +kernel
theorem d_law_553 : decode M_law.2.1 553 = .ok (.goto 4, 3) := by decide +kernel
theorem d_law_556 : decode M_law.2.1 556 = .ok (.iconst 0, 1) := by decide +kernel
theorem d_law_557 : decode M_law.2.1 557 = .ok (.aload 20, 2) := by decide +kernel
theorem d_law_559 : decode M_law.2.1 559 = .ok (.iload 21, 2) := by decide +kernel
theorem d_law_561 : decode M_law.2.1 561 = .ok (.aaload, 1) := by decide +kernel
theorem d_law_562 : decode M_law.2.1 562 = .ok (.iconst 4, 1) := by decide +kernel
theorem d_law_563 : decode M_law.2.1 563 = .ok (.iaload, 1) := by decide +kernel
theorem d_law_564 : decode M_law.2.1 564 = .ok (.iconst 1, 1) := by decide +kernel
theorem d_law_565 : decode M_law.2.1 565 = .ok (.if_icmp .ne 7, 3) := by decide +kernel
theorem d_law_568 : decode M_law.2.1 568 = .ok (.iconst 1, 1) := by decide +kernel
theorem d_law_569 : decode M_law.2.1 569 = .ok (.goto 4, 3) := by decide +kernel
theorem d_law_572 : decode M_law.2.1 572 = .ok (.iconst 0, 1) := by decide +kernel
theorem d_law_573 : decode M_law.2.1 573 = .ok (.if_icmp .eq 5, 3) := by decide +kernel
theorem d_law_578 : decode M_law.2.1 578 = .ok (.iinc 21 1, 3) := by decide +kernel
theorem d_law_581 : decode M_law.2.1 581 = .ok (.goto (-160), 3) := by decide +kernel
set_option maxRecDepth 100000 in
set_option maxHeartbeats 4000000 in
theorem law_421 (hj : AJ A c z0) (hms : MsOk Γ ms) (hth : ThOk Γ) {am as ai aw aH : Nat} {b : Nat → Nat} {C0 S0 : Nat} (kx : ∀ (h2 h3 : AH) (C S : Nat), JW Γ A c Y Y N dg h2 h3 → C0 ≤ C → S0 ≤ S → HD Γ A Y z0 h2 aH → (∀ x, (∀ t, t < cn A 4 → x ≠ b t) → h2 x = h x) → Go Γ M_law 80 C S 584 [some (.ref sa), some (.ref c), none, some (.ref ((ad A 6 0))), some (.int ((nI (cn A 0)))), some (.int ((nI (cn A 1)))), some (.int ((nI (cn A 4)))), some (.int ((nI it))), some (.int w8), some (.long dg), none, some (.ref am), some (.ref as), some (.ref ai), none, some (.ref aw), some (.int ((sumN (fun s => sm_v Y 1 s 5) (cn A 1)))), some (.int ((sumN (fun t => sm_v Y 4 t 5) (cn A 4)))), some (.int ((sumN (fun t => sm_v Y 4 t 1) (cn A 4)))), some (.int ((sumN (fun t => sm_v Y 4 t 6) (cn A 4)))), some (.ref aH), some (.int ((nI (cn A 4)))), none, none, none, none, none, none, none, none, none] [] h3 z Q X) : ∀ (k r : Nat) (h2 h3 : AH) (f : Nat → Nat → Int32) (C S : Nat), r + k = cn A 4 → JW Γ A c Y Y N dg h2 h3 → HB Γ A z0 h2 aH b f → (∀ t, t < r → ∀ j, j < 8 → f t j = sm_v Y 4 t j) → (∀ x, (∀ t, t < cn A 4 → x ≠ b t) → h2 x = h x) → C0 + 32 * k ≤ C → S0 + 192 * k ≤ S → Go Γ M_law 80 C S 421 [some (.ref sa), some (.ref c), none, some (.ref ((ad A 6 0))), some (.int ((nI (cn A 0)))), some (.int ((nI (cn A 1)))), some (.int ((nI (cn A 4)))), some (.int ((nI it))), some (.int w8), some (.long dg), none, some (.ref am), some (.ref as), some (.ref ai), none, some (.ref aw), some (.int ((sumN (fun s => sm_v Y 1 s 5) (cn A 1)))), some (.int ((sumN (fun t => sm_v Y 4 t 5) r))), some (.int ((sumN (fun t => sm_v Y 4 t 1) r))), some (.int ((sumN (fun t => sm_v Y 4 t 6) r))), some (.ref aH), some (.int ((nI r))), none, none, none, none, none, none, none, none, none] [] h3 z Q X := by
  intro k
  induction k with
  | zero =>
    intro r h2 h3 f C S hr J hb hf hk hC hS
    have e : r = cn A 4 := by omega
    subst e
    obtain ⟨p0, p1, p2, p3, p4⟩ := aj_p hj
    refine Go.iload_21 d_law_421 rfl ?_
    refine Go.iload_6 d_law_423 rfl ?_
    refine Go.icmp_ge (t := 584) d_law_425 (by decide) rfl (fun _ => ?_) (fun w => absurd (nI_le (Nat.le_refl _) (by omega)) w)
    exact kx h2 h3 C S J (by omega) (by omega) ⟨b, f, hb, hf⟩ hk
  | succ k ih =>
    intro r h2 h3 f C S hi0 J hb hf hk hC hS
    obtain ⟨p0, p1, p2, p3, p4⟩ := aj_p hj
    have hr : r < cn A 4 := by omega
    have hb2 := hb
    obtain ⟨gH, gB, -, hH, hR⟩ := hb2
    obtain ⟨-, ⟨s1, e1, x1⟩, ⟨s2, e2, x2⟩, ⟨s3, e3, hhu⟩, -⟩ := J.iv.1.2 4 r (by decide) hr
    refine Go.iload_21 d_law_421 rfl ?_
    refine Go.iload_6 d_law_423 rfl ?_
    refine Go.icmp_ge (t := 584) d_law_425 (by decide) rfl (fun w => absurd w (nI_ge (show r < cn A 4 by omega) (by omega))) (fun _ => ?_)
    refine Go.iconst (v := 0) d_law_428 rfl (by decide) ?_
    refine Go.istore_22 d_law_429 rfl (by rfl) ?_
    refine Go.fgt [some (.ref sa), some (.ref c), none, some (.ref ((ad A 6 0))), some (.int ((nI (cn A 0)))), some (.int ((nI (cn A 1)))), some (.int ((nI (cn A 4)))), some (.int ((nI it))), some (.int w8), some (.long dg), none, some (.ref am), some (.ref as), some (.ref ai), none, some (.ref aw), some (.int ((sumN (fun s => sm_v Y 1 s 5) (cn A 1)))), some (.int ((sumN (fun t => sm_v Y 4 t 5) r))), some (.int ((sumN (fun t => sm_v Y 4 t 1) r))), some (.int ((sumN (fun t => sm_v Y 4 t 6) r))), some (.ref aH), some (.int ((nI r))), some (.int ((nI 0))), none, none, none, none, none, none, none, none] (by repeat' (first | exact trivial | refine ⟨rfl, ?_⟩)) ?_
    refine law_431 hj hms hth gH hH hr (gB r hr).1 (gB r hr).2.symm (C0 := C - 32) (S0 := S - 192) (fun h4 h5 F C2 S2 J2 hC2 hS2 hb3 hF hk2 => ?_) 8 0 _ _ _ _ _ rfl J (hR r hr) (fun j w => absurd w (by omega)) (fun _ _ => rfl) (by omega) (by omega)
    refine Go.iload_17 d_law_460 rfl ?_
    refine Go.aload_20 d_law_462 rfl ?_
    refine Go.iload_21 d_law_464 rfl ?_
    refine Go.oaal d_law_466 rfl hj J2 gH ((hk2 aH (gB r hr).2.symm).trans hH) (j := r) rfl (by first | assumption | omega) (by omega) rfl ?_
    refine Go.iconst (v := 5) d_law_467 rfl (by decide) ?_
    refine Go.oial d_law_468 rfl hj J2 (gB r hr).1 hb3 (j := 5) rfl (by decide) (by decide) ?_
    rw [hF 5 (by decide)]
    refine Go.iadd d_law_469 rfl ?_
    refine Go.istore_17 d_law_470 rfl (by rfl) ?_
    refine Go.iload_18 d_law_472 rfl ?_
    refine Go.aload_20 d_law_474 rfl ?_
    refine Go.iload_21 d_law_476 rfl ?_
    refine Go.oaal d_law_478 rfl hj J2 gH ((hk2 aH (gB r hr).2.symm).trans hH) (j := r) rfl (by first | assumption | omega) (by omega) rfl ?_
    refine Go.iconst (v := 1) d_law_479 rfl (by decide) ?_
    refine Go.oial d_law_480 rfl hj J2 (gB r hr).1 hb3 (j := 1) rfl (by decide) (by decide) ?_
    rw [hF 1 (by decide)]
    refine Go.iadd d_law_481 rfl ?_
    refine Go.istore_18 d_law_482 rfl (by rfl) ?_
    refine Go.iload_19 d_law_484 rfl ?_
    refine Go.aload_20 d_law_486 rfl ?_
    refine Go.iload_21 d_law_488 rfl ?_
    refine Go.oaal d_law_490 rfl hj J2 gH ((hk2 aH (gB r hr).2.symm).trans hH) (j := r) rfl (by first | assumption | omega) (by omega) rfl ?_
    refine Go.bipush (v := 6) d_law_491 rfl (by decide) ?_
    refine Go.oial d_law_493 rfl hj J2 (gB r hr).1 hb3 (j := 6) rfl (by decide) (by decide) ?_
    rw [hF 6 (by decide)]
    refine Go.iadd d_law_494 rfl ?_
    refine Go.istore_19 d_law_495 rfl (by rfl) ?_
    refine Go.aload_20 d_law_497 rfl ?_
    refine Go.iload_21 d_law_499 rfl ?_
    refine Go.oaal d_law_501 rfl hj J2 gH ((hk2 aH (gB r hr).2.symm).trans hH) (j := r) rfl (by first | assumption | omega) (by omega) rfl ?_
    refine Go.iconst (v := 1) d_law_502 rfl (by decide) ?_
    refine Go.oial d_law_503 rfl hj J2 (gB r hr).1 hb3 (j := 1) rfl (by decide) (by decide) ?_
    rw [hF 1 (by decide)]
    refine Go.if_lt (t := 576) d_law_504 (by decide) rfl (fun w => absurd w (by rw [e1]; exact nI_pos (by omega))) (fun _ => ?_)
    refine Go.aload_20 d_law_507 rfl ?_
    refine Go.iload_21 d_law_509 rfl ?_
    refine Go.oaal d_law_511 rfl hj J2 gH ((hk2 aH (gB r hr).2.symm).trans hH) (j := r) rfl (by first | assumption | omega) (by omega) rfl ?_
    refine Go.iconst (v := 1) d_law_512 rfl (by decide) ?_
    refine Go.oial d_law_513 rfl hj J2 (gB r hr).1 hb3 (j := 1) rfl (by decide) (by decide) ?_
    rw [hF 1 (by decide)]
    refine Go.bipush (v := 40) d_law_514 rfl (by decide) ?_
    refine Go.icmp_gt (t := 576) d_law_516 (by decide) rfl (fun w => absurd w (by rw [e1]; exact fun w => absurd ((nI_ltI (a := 40) (b := s1) (by decide) (by omega)).mp w) (by omega))) (fun _ => ?_)
    refine Go.aload_20 d_law_519 rfl ?_
    refine Go.iload_21 d_law_521 rfl ?_
    refine Go.oaal d_law_523 rfl hj J2 gH ((hk2 aH (gB r hr).2.symm).trans hH) (j := r) rfl (by first | assumption | omega) (by omega) rfl ?_
    refine Go.iconst (v := 2) d_law_524 rfl (by decide) ?_
    refine Go.oial d_law_525 rfl hj J2 (gB r hr).1 hb3 (j := 2) rfl (by decide) (by decide) ?_
    rw [hF 2 (by decide)]
    refine Go.if_lt (t := 576) d_law_526 (by decide) rfl (fun w => absurd w (by rw [e2]; exact nI_pos (by omega))) (fun _ => ?_)
    refine Go.aload_20 d_law_529 rfl ?_
    refine Go.iload_21 d_law_531 rfl ?_
    refine Go.oaal d_law_533 rfl hj J2 gH ((hk2 aH (gB r hr).2.symm).trans hH) (j := r) rfl (by first | assumption | omega) (by omega) rfl ?_
    refine Go.iconst (v := 2) d_law_534 rfl (by decide) ?_
    refine Go.oial d_law_535 rfl hj J2 (gB r hr).1 hb3 (j := 2) rfl (by decide) (by decide) ?_
    rw [hF 2 (by decide)]
    refine Go.iload_4 d_law_536 rfl ?_
    refine Go.icmp_ge (t := 576) d_law_538 (by decide) rfl (fun w => absurd w (by rw [e2]; exact nI_ge x2 (by omega))) (fun _ => ?_)
    refine Go.aload_20 d_law_541 rfl ?_
    refine Go.iload_21 d_law_543 rfl ?_
    refine Go.oaal d_law_545 rfl hj J2 gH ((hk2 aH (gB r hr).2.symm).trans hH) (j := r) rfl (by first | assumption | omega) (by omega) rfl ?_
    refine Go.iconst (v := 3) d_law_546 rfl (by decide) ?_
    refine Go.oial d_law_547 rfl hj J2 (gB r hr).1 hb3 (j := 3) rfl (by decide) (by decide) ?_
    rw [hF 3 (by decide)]
    refine Go.iconst (v := 3) d_law_548 rfl (by decide) ?_
    have main : ∀ x y : Int32, x = y → Go Γ M_law 80 C2 S2 573 [some (.ref sa), some (.ref c), none, some (.ref ((ad A 6 0))), some (.int ((nI (cn A 0)))), some (.int ((nI (cn A 1)))), some (.int ((nI (cn A 4)))), some (.int ((nI it))), some (.int w8), some (.long dg), none, some (.ref am), some (.ref as), some (.ref ai), none, some (.ref aw), some (.int ((sumN (fun s => sm_v Y 1 s 5) (cn A 1)))), some (.int (((sumN (fun t => sm_v Y 4 t 5) r) + (sm_v Y 4 r 5)))), some (.int (((sumN (fun t => sm_v Y 4 t 1) r) + (sm_v Y 4 r 1)))), some (.int (((sumN (fun t => sm_v Y 4 t 6) r) + (sm_v Y 4 r 6)))), some (.ref aH), some (.int ((nI r))), some (.int ((nI 8))), none, none, none, none, none, none, none, none] [.int y, .int x] h5 z Q X := by
      intro x y hxy
      refine Go.icmp_eq (t := 578) d_law_573 (by decide) rfl (fun _ => ?_) (fun w => absurd (hxy) w)
      refine Go.iinc_21 d_law_578 rfl (by rfl) (show nI r + Int32.ofInt 1 = nI (r + 1) from nI_ad r 1) ?_
      refine Go.goto (t := 421) d_law_581 (by decide) ?_
      refine Go.fgt [some (.ref sa), some (.ref c), none, some (.ref ((ad A 6 0))), some (.int ((nI (cn A 0)))), some (.int ((nI (cn A 1)))), some (.int ((nI (cn A 4)))), some (.int ((nI it))), some (.int w8), some (.long dg), none, some (.ref am), some (.ref as), some (.ref ai), none, some (.ref aw), some (.int ((sumN (fun s => sm_v Y 1 s 5) (cn A 1)))), some (.int ((sumN (fun t => sm_v Y 4 t 5) (r + 1)))), some (.int ((sumN (fun t => sm_v Y 4 t 1) (r + 1)))), some (.int ((sumN (fun t => sm_v Y 4 t 6) (r + 1)))), some (.ref aH), some (.int ((nI (r + 1)))), none, none, none, none, none, none, none, none, none] (by repeat' (first | exact trivial | refine ⟨rfl, ?_⟩)) ?_
      refine ih (r + 1) _ _ _ _ _ (by omega) J2 (hb.put hr hb3 hk2) (fun t ht j hj8 => ?_) (fun x hx => (hk2 x (hx r hr)).trans (hk x hx)) (by omega) (by omega)
      by_cases e : t = r
      · show (if t = r then F else f t) j = _
        rw [if_pos e, e]
        exact hF j hj8
      · show (if t = r then F else f t) j = _
        rw [if_neg e]
        exact hf t (by omega) j hj8
    rcases hhu with ⟨e4, x3⟩ | ⟨e4, x3⟩
    · refine Go.icmp_ge (t := 556) d_law_549 (by decide) rfl (fun w => absurd w (by rw [e3]; exact nI_ge (show s3 < 3 by omega) (by decide))) (fun _ => ?_)
      refine Go.iconst (v := 1) d_law_552 rfl (by decide) ?_
      refine Go.goto (t := 557) d_law_553 (by decide) ?_
      refine Go.aload_20 d_law_557 rfl ?_
      refine Go.iload_21 d_law_559 rfl ?_
      refine Go.oaal d_law_561 rfl hj J2 gH ((hk2 aH (gB r hr).2.symm).trans hH) (j := r) rfl (by first | assumption | omega) (by omega) rfl ?_
      refine Go.iconst (v := 4) d_law_562 rfl (by decide) ?_
      refine Go.oial d_law_563 rfl hj J2 (gB r hr).1 hb3 (j := 4) rfl (by decide) (by decide) ?_
      rw [hF 4 (by decide)]
      refine Go.iconst (v := 1) d_law_564 rfl (by decide) ?_
      refine Go.icmp_ne (t := 572) d_law_565 (by decide) rfl (fun w => absurd (e4) w) (fun _ => ?_)
      refine Go.iconst (v := 1) d_law_568 rfl (by decide) ?_
      refine Go.goto (t := 573) d_law_569 (by decide) ?_
      exact main _ _ rfl
    · refine Go.icmp_ge (t := 556) d_law_549 (by decide) rfl (fun _ => ?_) (fun w => absurd (by rw [e3]; exact nI_le (show 3 ≤ s3 by omega) (by omega)) w)
      refine Go.iconst (v := 0) d_law_556 rfl (by decide) ?_
      refine Go.aload_20 d_law_557 rfl ?_
      refine Go.iload_21 d_law_559 rfl ?_
      refine Go.oaal d_law_561 rfl hj J2 gH ((hk2 aH (gB r hr).2.symm).trans hH) (j := r) rfl (by first | assumption | omega) (by omega) rfl ?_
      refine Go.iconst (v := 4) d_law_562 rfl (by decide) ?_
      refine Go.oial d_law_563 rfl hj J2 (gB r hr).1 hb3 (j := 4) rfl (by decide) (by decide) ?_
      rw [hF 4 (by decide)]
      refine Go.iconst (v := 1) d_law_564 rfl (by decide) ?_
      refine Go.icmp_ne (t := 572) d_law_565 (by decide) rfl (fun _ => ?_) (fun w => absurd w (by rw [e4]; decide))
      refine Go.iconst (v := 0) d_law_572 rfl (by decide) ?_
      exact main _ _ rfl
end Lw
