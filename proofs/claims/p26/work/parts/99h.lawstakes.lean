/-! the law: what the stakes tell -/
section Lw
variable {Γ : G9} {A : AD} {c z0 z sa it : Nat} {Y : SM} {N : Nat} {dg : Int64} {h h' : AH} {ms : Nat → Nat} {Q : QT} {X : XT} {w8 : Int32}
theorem RW3.ext {h2 : AH} {a1 a2 a3 : Nat} (hr : RW3 Γ A Y z0 h a1 a2 a3) (he : Ext h h2) : RW3 Γ A Y z0 h2 a1 a2 a3 := by
  obtain ⟨g1, g2, g3, f1, f2, f3, h1, h4, h3, hb⟩ := hr
  exact ⟨g1, g2, g3, f1, f2, f3, he _ _ h1, he _ _ h4, he _ _ h3, hb⟩
/-- which stakes stand -/
def SW1 (Γ : G9) (A : AD) (Y : SM) (z0 : Nat) (h : AH) (a : Nat) : Prop := z0 ≤ a ∧ ∃ f, h a = some (aZ Γ (cn A 1) f) ∧ ∀ r, r < cn A 1 → f r = sm_v Y 1 r 3
theorem SW1.ext {h2 : AH} {a : Nat} (hr : SW1 Γ A Y z0 h a) (he : Ext h h2) : SW1 Γ A Y z0 h2 a := by
  obtain ⟨g1, f, h1, hb⟩ := hr
  exact ⟨g1, f, he _ _ h1, hb⟩
theorem d_law_248 : decode M_law.2.1 248 = .ok (.iload 17, 2) := by decide +kernel
theorem d_law_250 : decode M_law.2.1 250 = .ok (.iload 5, 2) := by decide +kernel
theorem d_law_252 : decode M_law.2.1 252 = .ok (.if_icmp .ge 147, 3) := by decide +kernel
theorem d_law_255 : decode M_law.2.1 255 = .ok (.aload 14, 2) := by decide +kernel
theorem d_law_257 : decode M_law.2.1 257 = .ok (.iload 17, 2) := by decide +kernel
theorem d_law_259 : decode M_law.2.1 259 = .ok (.aload_n 1, 1) := by decide +kernel
theorem d_law_260 : decode M_law.2.1 260 = .ok (.iload 17, 2) := by decide +kernel
theorem d_law_262 : decode M_law.2.1 262 = .ok (.iconst 2, 1) := by decide +kernel
theorem d_law_263 : decode M_law.2.1 263 = .ok (.invokevirtual 277, 3) := by decide +kernel
theorem d_law_266 : decode M_law.2.1 266 = .ok (.iastore, 1) := by decide +kernel
theorem d_law_267 : decode M_law.2.1 267 = .ok (.aload 15, 2) := by decide +kernel
theorem d_law_269 : decode M_law.2.1 269 = .ok (.iload 17, 2) := by decide +kernel
theorem d_law_271 : decode M_law.2.1 271 = .ok (.aload_n 1, 1) := by decide +kernel
theorem d_law_272 : decode M_law.2.1 272 = .ok (.iload 17, 2) := by decide +kernel
theorem d_law_274 : decode M_law.2.1 274 = .ok (.iconst 3, 1) := by decide +kernel
theorem d_law_275 : decode M_law.2.1 275 = .ok (.invokevirtual 277, 3) := by decide +kernel
theorem d_law_278 : decode M_law.2.1 278 = .ok (.iconst 1, 1) := by decide +kernel
theorem d_law_279 : decode M_law.2.1 279 = .ok (.if_icmp .ne 7, 3) := by decide +kernel
theorem d_law_282 : decode M_law.2.1 282 = .ok (.iconst 1, 1) := by decide +kernel
theorem d_law_283 : decode M_law.2.1 283 = .ok (.goto 4, 3) := by decide +kernel
theorem d_law_286 : decode M_law.2.1 286 = .ok (.iconst 0, 1) := by decide +kernel
theorem d_law_287 : decode M_law.2.1 287 = .ok (.bastore, 1) := by decide +kernel
theorem d_law_288 : decode M_law.2.1 288 = .ok (.iload 16, 2) := by decide +kernel
theorem d_law_290 : decode M_law.2.1 290 = .ok (.aload_n 1, 1) := by decide +kernel
theorem d_law_291 : decode M_law.2.1 291 = .ok (.iload 17, 2) := by decide +kernel
theorem d_law_293 : decode M_law.2.1 293 = .ok (.iconst 5, 1) := by decide +kernel
theorem d_law_294 : decode M_law.2.1 294 = .ok (.invokevirtual 277, 3) := by decide +kernel
theorem d_law_297 : decode M_law.2.1 297 = .ok (.iadd, 1) := by decide +kernel
theorem d_law_298 : decode M_law.2.1 298 = .ok (.istore 16, 2) := by decide +kernel
theorem d_law_300 : decode M_law.2.1 300 = .ok (.aload 14, 2) := by decide +kernel
theorem d_law_302 : decode M_law.2.1 302 = .ok (.iload 17, 2) := by decide +kernel
theorem d_law_304 : decode M_law.2.1 304 = .ok (.iaload, 1) := by decide +kernel
theorem d_law_305 : decode M_law.2.1 305 = .ok (.ifCond .lt 86, 3) := by decide +kernel
theorem d_law_308 : decode M_law.2.1 308 = .ok (.aload 15, 2) := by decide +kernel
theorem d_law_310 : decode M_law.2.1 310 = .ok (.iload 17, 2) := by decide +kernel
theorem d_law_312 : decode M_law.2.1 312 = .ok (.baload, 1) := by decide +kernel
theorem d_law_313 : decode M_law.2.1 313 = .ok (.aload 14, 2) := by decide +kernel
theorem d_law_315 : decode M_law.2.1 315 = .ok (.iload 17, 2) := by decide +kernel
theorem d_law_317 : decode M_law.2.1 317 = .ok (.iaload, 1) := by decide +kernel
theorem d_law_318 : decode M_law.2.1 318 = .ok (.aload_n 1, 1) := by decide +kernel
theorem d_law_319 : decode M_law.2.1 319 = .ok (.iload 17, 2) := by decide +kernel
theorem d_law_321 : decode M_law.2.1 321 = .ok (.iconst 1, 1) := by decide +kernel
theorem d_law_322 : decode M_law.2.1 322 = .ok (.invokevirtual 277, 3) := by decide +kernel
theorem d_law_325 : decode M_law.2.1 325 = .ok (.if_icmp .ge 7, 3) := by decide +kernel
theorem d_law_328 : decode M_law.2.1 328 = .ok (.iconst 1, 1) := by decide +kernel
theorem d_law_329 : decode M_law.2.1 329 = .ok (.goto 4, 3) := by decide +kernel
theorem d_law_332 : decode M_law.2.1 332 = .ok (.iconst 0, 1) := by decide +kernel
theorem d_law_333 : decode M_law.2.1 333 = .ok (.if_icmp .ne 58, 3) := by decide +kernel
theorem d_law_336 : decode M_law.2.1 336 = .ok (.aload_n 1, 1) := by decide +kernel
theorem d_law_337 : decode M_law.2.1 337 = .ok (.iload 17, 2) := by decide +kernel
theorem d_law_339 : decode M_law.2.1 339 = .ok (.iconst 4, 1) := by decide +kernel
theorem d_law_340 : decode M_law.2.1 340 = .ok (.invokevirtual 277, 3) := by decide +kernel
theorem d_law_343 : decode M_law.2.1 343 = .ok (.ifCond .ge 7, 3) := by decide +kernel
theorem d_law_346 : decode M_law.2.1 346 = .ok (.iconst 1, 1) := by decide +kernel
theorem d_law_347 : decode M_law.2.1 347 = .ok (.goto 4, 3) := by decide +kernel
theorem d_law_350 : decode M_law.2.1 350 = .ok (.iconst 0, 1) := by decide +kernel
theorem d_law_351 : decode M_law.2.1 351 = .ok (.aload_n 1, 1) := by decide +kernel
theorem d_law_352 : decode M_law.2.1 352 = .ok (.iload 17, 2) := by decide +kernel
theorem d_law_354 : decode M_law.2.1 354 = .ok (.iconst 5, 1) := by decide +kernel
theorem d_law_355 : decode M_law.2.1 355 = .ok (.invokevirtual 277, 3) := by decide +kernel
theorem d_law_358 : decode M_law.2.1 358 = .ok (.ifCond .ne 7, 3) := by decide +kernel
theorem d_law_361 : decode M_law.2.1 361 = .ok (.iconst 1, 1) := by decide +kernel
theorem d_law_362 : decode M_law.2.1 362 = .ok (.goto 4, 3) := by decide +kernel
theorem d_law_365 : decode M_law.2.1 365 = .ok (.iconst 0, 1) := by decide +kernel
theorem d_law_366 : decode M_law.2.1 366 = .ok (.if_icmp .ne 25, 3) := by decide +kernel
theorem d_law_369 : decode M_law.2.1 369 = .ok (.aload_n 1, 1) := by decide +kernel
theorem d_law_370 : decode M_law.2.1 370 = .ok (.iload 17, 2) := by decide +kernel
theorem d_law_372 : decode M_law.2.1 372 = .ok (.invokevirtual 280, 3) := by decide +kernel
theorem d_law_375 : decode M_law.2.1 375 = .ok (.ifCond .ne 7, 3) := by decide +kernel
theorem d_law_378 : decode M_law.2.1 378 = .ok (.iconst 1, 1) := by decide +kernel
theorem d_law_379 : decode M_law.2.1 379 = .ok (.goto 4, 3) := by decide +kernel
theorem d_law_382 : decode M_law.2.1 382 = .ok (.iconst 0, 1) := by decide +kernel
theorem d_law_383 : decode M_law.2.1 383 = .ok (.aload 15, 2) := by decide +kernel
theorem d_law_385 : decode M_law.2.1 385 = .ok (.iload 17, 2) := by decide +kernel
theorem d_law_387 : decode M_law.2.1 387 = .ok (.baload, 1) := by decide +kernel
theorem d_law_388 : decode M_law.2.1 388 = .ok (.if_icmp .ne 5, 3) := by decide +kernel
theorem d_law_393 : decode M_law.2.1 393 = .ok (.iinc 17 1, 3) := by decide +kernel
theorem d_law_396 : decode M_law.2.1 396 = .ok (.goto (-148), 3) := by decide +kernel
set_option maxRecDepth 100000 in
set_option maxHeartbeats 4000000 in
theorem law_248 (hj : AJ A c z0) (hms : MsOk Γ ms) (hth : ThOk Γ) (hN : N ≤ 900000) {am as ai ao aw : Nat} (go : z0 ≤ ao) (gw : z0 ≤ aw) (d1 : ao ≠ aw) {C0 S0 : Nat} (kx : ∀ (h2 h3 : AH) (C S : Nat), JW Γ A c Y Y N dg h2 h3 → C0 ≤ C → S0 ≤ S → SW1 Γ A Y z0 h2 aw → (∀ b, b ≠ ao → b ≠ aw → h2 b = h b) → Go Γ M_law 80 C S 399 [some (.ref sa), some (.ref c), none, some (.ref ((ad A 6 0))), some (.int ((nI (cn A 0)))), some (.int ((nI (cn A 1)))), some (.int ((nI (cn A 4)))), some (.int ((nI it))), some (.int w8), some (.long dg), none, some (.ref am), some (.ref as), some (.ref ai), some (.ref ao), some (.ref aw), some (.int ((sumN (fun s => sm_v Y 1 s 5) (cn A 1)))), some (.int ((nI (cn A 1)))), none, none, none, none, none, none, none, none, none, none, none, none, none] [] h3 z Q X) : ∀ (k r : Nat) (h2 h3 : AH) (f1 f2 : Nat → Int32) (C S : Nat), r + k = cn A 1 → JW Γ A c Y Y N dg h2 h3 → h2 ao = some (aI Γ (cn A 1) f1) → h2 aw = some (aZ Γ (cn A 1) f2) → (∀ j, j < r → f2 j = sm_v Y 1 j 3) → (∀ b, b ≠ ao → b ≠ aw → h2 b = h b) → C0 + 32 * k ≤ C → S0 + 200 * k ≤ S → Go Γ M_law 80 C S 248 [some (.ref sa), some (.ref c), none, some (.ref ((ad A 6 0))), some (.int ((nI (cn A 0)))), some (.int ((nI (cn A 1)))), some (.int ((nI (cn A 4)))), some (.int ((nI it))), some (.int w8), some (.long dg), none, some (.ref am), some (.ref as), some (.ref ai), some (.ref ao), some (.ref aw), some (.int ((sumN (fun s => sm_v Y 1 s 5) r))), some (.int ((nI r))), none, none, none, none, none, none, none, none, none, none, none, none, none] [] h3 z Q X := by
  intro k
  induction k with
  | zero =>
    intro r h2 h3 f1 f2 C S hr J ho hw hb hk hC hS
    have e : r = cn A 1 := by omega
    subst e
    obtain ⟨p0, p1, p2, p3, p4⟩ := aj_p hj
    refine Go.iload_17 d_law_248 rfl ?_
    refine Go.iload_5 d_law_250 rfl ?_
    refine Go.icmp_ge (t := 399) d_law_252 (by decide) rfl (fun _ => ?_) (fun w => absurd (nI_le (Nat.le_refl _) (by omega)) w)
    exact kx h2 h3 C S J (by omega) (by omega) ⟨gw, f2, hw, hb⟩ hk
  | succ k ih =>
    intro r h2 h3 f1 f2 C S hi0 J ho hw hb hk hC hS
    obtain ⟨p0, p1, p2, p3, p4⟩ := aj_p hj
    have hr : r < cn A 1 := by omega
    obtain ⟨-, ⟨sd, so, e1, x1, x2, e2, x3, hst⟩, n, e5, x5, hre⟩ := J.iv.1.2 1 r (by decide) hr
    rcases hst with ⟨e3, x4⟩ | ⟨e3, x4⟩
    · rcases hre with ⟨e6, e4⟩ | ⟨e6, l, e4, x6⟩
      · refine Go.iload_17 d_law_248 rfl ?_
        refine Go.iload_5 d_law_250 rfl ?_
        refine Go.icmp_ge (t := 399) d_law_252 (by decide) rfl (fun w => absurd w (nI_ge (show r < cn A 1 by omega) (by omega))) (fun _ => ?_)
        refine Go.aload_14 d_law_255 rfl ?_
        refine Go.iload_17 d_law_257 rfl ?_
        refine Go.aload_1 d_law_259 rfl ?_
        refine Go.iload_17 d_law_260 rfl ?_
        refine Go.iconst (v := 2) d_law_262 rfl (by decide) ?_
        refine Go.cvT (C1 := C - 4) (S1 := S - 24) (as := [.int ((nI r)), .int 2]) (rest := [.int ((nI r)), .ref ao]) d_law_263 rfl l_Law_277 k_Camp_stake_v rfl (J.cam hj) rfl rfl (j_stake hj J hms hth (r := r) (k := 2) rfl rfl (by first | decide | assumption | omega) (by first | decide | assumption | omega)) rfl rfl (by omega) (by omega) rfl ?_
        refine Go.oias d_law_266 rfl hj J go ho (j := r) rfl (by first | decide | assumption | omega) (by first | decide | omega) (fun xo1 yo1 Jo1 bo1 eo1 => ?_)
        obtain ⟨Fo1, qo1⟩ : ∃ F, F = upd f1 r ((sm_v Y 1 r 2)) := ⟨_, rfl⟩
        rw [← qo1] at bo1
        have uo1 : Fo1 r = (sm_v Y 1 r 2) := by rw [qo1]; exact upd_at _ _ _
        have vo1 : ∀ j, j ≠ r → Fo1 j = f1 j := fun j hj => by rw [qo1]; exact upd_ne _ _ hj
        have hw_o1 := (eo1 aw (by omega)).trans hw
        refine Go.aload_15 d_law_267 rfl ?_
        refine Go.iload_17 d_law_269 rfl ?_
        refine Go.aload_1 d_law_271 rfl ?_
        refine Go.iload_17 d_law_272 rfl ?_
        refine Go.iconst (v := 3) d_law_274 rfl (by decide) ?_
        refine Go.cvT (C1 := C - 8) (S1 := S - 48) (as := [.int ((nI r)), .int 3]) (rest := [.int ((nI r)), .ref aw]) d_law_275 rfl l_Law_277 k_Camp_stake_v rfl (Jo1.cam hj) rfl rfl (j_stake hj Jo1 hms hth (r := r) (k := 3) rfl rfl (by first | decide | assumption | omega) (by first | decide | assumption | omega)) rfl rfl (by omega) (by omega) rfl ?_
        refine Go.iconst (v := 1) d_law_278 rfl (by decide) ?_
        refine Go.icmp_ne (t := 286) d_law_279 (by decide) rfl (fun w => absurd (e3) w) (fun _ => ?_)
        refine Go.iconst (v := 1) d_law_282 rfl (by decide) ?_
        refine Go.goto (t := 287) d_law_283 (by decide) ?_
        refine Go.obas d_law_287 rfl hj Jo1 gw hw_o1 (j := r) rfl (by first | decide | assumption | omega) (by first | decide | omega) (rfl) (fun xw2 yw2 Jw2 bw2 ew2 => ?_)
        obtain ⟨Fw2, qw2⟩ : ∃ F, F = upd f2 r 1 := ⟨_, rfl⟩
        rw [← qw2] at bw2
        have uw2 : Fw2 r = 1 := by rw [qw2]; exact upd_at _ _ _
        have vw2 : ∀ j, j ≠ r → Fw2 j = f2 j := fun j hj => by rw [qw2]; exact upd_ne _ _ hj
        have bo1_w2 := (ew2 ao (by omega)).trans bo1
        have uo : Fo1 r = nI so := uo1.trans e2
        have uw : Fw2 r = 1 := uw2
        refine Go.iload_16 d_law_288 rfl ?_
        refine Go.aload_1 d_law_290 rfl ?_
        refine Go.iload_17 d_law_291 rfl ?_
        refine Go.iconst (v := 5) d_law_293 rfl (by decide) ?_
        refine Go.cvT (C1 := C - 12) (S1 := S - 72) (as := [.int ((nI r)), .int 5]) (rest := [.int ((sumN (fun s => sm_v Y 1 s 5) r))]) d_law_294 rfl l_Law_277 k_Camp_stake_v rfl (Jw2.cam hj) rfl rfl (j_stake hj Jw2 hms hth (r := r) (k := 5) rfl rfl (by first | decide | assumption | omega) (by first | decide | assumption | omega)) rfl rfl (by omega) (by omega) rfl ?_
        refine Go.iadd d_law_297 rfl ?_
        refine Go.istore_16 d_law_298 rfl (by rfl) ?_
        refine Go.aload_14 d_law_300 rfl ?_
        refine Go.iload_17 d_law_302 rfl ?_
        refine Go.oial d_law_304 rfl hj Jw2 go bo1_w2 (j := r) rfl (by first | decide | assumption | omega) (by first | decide | omega) ?_
        refine Go.if_lt (t := 391) d_law_305 (by decide) rfl (fun w => absurd w (by rw [uo]; exact nI_pos (by omega))) (fun _ => ?_)
        refine Go.aload_15 d_law_308 rfl ?_
        refine Go.iload_17 d_law_310 rfl ?_
        refine Go.obal d_law_312 rfl hj Jw2 gw bw2 (j := r) rfl (by first | decide | assumption | omega) (by first | decide | omega) ?_
        refine Go.aload_14 d_law_313 rfl ?_
        refine Go.iload_17 d_law_315 rfl ?_
        refine Go.oial d_law_317 rfl hj Jw2 go bo1_w2 (j := r) rfl (by first | decide | assumption | omega) (by first | decide | omega) ?_
        refine Go.aload_1 d_law_318 rfl ?_
        refine Go.iload_17 d_law_319 rfl ?_
        refine Go.iconst (v := 1) d_law_321 rfl (by decide) ?_
        refine Go.cvT (C1 := C - 16) (S1 := S - 96) (as := [.int ((nI r)), .int 1]) (rest := [.int ((Fo1 r)), .int ((Fw2 r))]) d_law_322 rfl l_Law_277 k_Camp_stake_v rfl (Jw2.cam hj) rfl rfl (j_stake hj Jw2 hms hth (r := r) (k := 1) rfl rfl (by first | decide | assumption | omega) (by first | decide | assumption | omega)) rfl rfl (by omega) (by omega) rfl ?_
        refine Go.icmp_ge (t := 332) d_law_325 (by decide) rfl (fun w => absurd w (by rw [uo, e1]; exact nI_ge x4 (by omega))) (fun _ => ?_)
        refine Go.iconst (v := 1) d_law_328 rfl (by decide) ?_
        refine Go.goto (t := 333) d_law_329 (by decide) ?_
        refine Go.icmp_ne (t := 391) d_law_333 (by decide) rfl (fun w => absurd (uw) w) (fun _ => ?_)
        refine Go.aload_1 d_law_336 rfl ?_
        refine Go.iload_17 d_law_337 rfl ?_
        refine Go.iconst (v := 4) d_law_339 rfl (by decide) ?_
        refine Go.cvT (C1 := C - 20) (S1 := S - 120) (as := [.int ((nI r)), .int 4]) (rest := []) d_law_340 rfl l_Law_277 k_Camp_stake_v rfl (Jw2.cam hj) rfl rfl (j_stake hj Jw2 hms hth (r := r) (k := 4) rfl rfl (by first | decide | assumption | omega) (by first | decide | assumption | omega)) rfl rfl (by omega) (by omega) rfl ?_
        refine Go.if_ge (t := 350) d_law_343 (by decide) rfl (fun w => absurd w (by rw [e4]; decide)) (fun _ => ?_)
        refine Go.iconst (v := 1) d_law_346 rfl (by decide) ?_
        refine Go.goto (t := 351) d_law_347 (by decide) ?_
        refine Go.aload_1 d_law_351 rfl ?_
        refine Go.iload_17 d_law_352 rfl ?_
        refine Go.iconst (v := 5) d_law_354 rfl (by decide) ?_
        refine Go.cvT (C1 := C - 24) (S1 := S - 144) (as := [.int ((nI r)), .int 5]) (rest := [.int 1]) d_law_355 rfl l_Law_277 k_Camp_stake_v rfl (Jw2.cam hj) rfl rfl (j_stake hj Jw2 hms hth (r := r) (k := 5) rfl rfl (by first | decide | assumption | omega) (by first | decide | assumption | omega)) rfl rfl (by omega) (by omega) rfl ?_
        refine Go.if_ne (t := 365) d_law_358 (by decide) rfl (fun w => absurd (e5.trans (congrArg nI e6)) w) (fun _ => ?_)
        refine Go.iconst (v := 1) d_law_361 rfl (by decide) ?_
        refine Go.goto (t := 366) d_law_362 (by decide) ?_
        refine Go.icmp_ne (t := 391) d_law_366 (by decide) rfl (fun w => absurd (rfl) w) (fun _ => ?_)
        refine Go.aload_1 d_law_369 rfl ?_
        refine Go.iload_17 d_law_370 rfl ?_
        obtain ⟨tk1, wk1, Jk1, ik1, ck1⟩ := j_until (z := z) hj Jw2 hms hth hN (s := r) rfl (by first | decide | assumption | omega)
        refine Go.cvT (C1 := C - 28) (S1 := S - 168) (as := [.int ((nI r))]) (rest := []) d_law_372 rfl l_Law_280 k_Camp_until_v rfl (Jw2.cam hj) rfl rfl ck1 rfl rfl (by omega) (by omega) rfl ?_
        refine Go.if_ne (t := 382) d_law_375 (by decide) rfl (fun _ => ?_) (fun w => absurd w (fun w => absurd (ik1.mp w) (by rw [e3]; decide)))
        refine Go.iconst (v := 0) d_law_382 rfl (by decide) ?_
        refine Go.aload_15 d_law_383 rfl ?_
        refine Go.iload_17 d_law_385 rfl ?_
        refine Go.obal d_law_387 rfl hj Jk1 gw bw2 (j := r) rfl (by first | decide | assumption | omega) (by first | decide | omega) ?_
        refine Go.icmp_ne (t := 393) d_law_388 (by decide) rfl (fun _ => ?_) (fun w => absurd w (by rw [uw]; decide))
        refine Go.iinc_17 d_law_393 rfl (by rfl) (show nI r + Int32.ofInt 1 = nI (r + 1) from nI_ad r 1) ?_
        refine Go.goto (t := 248) d_law_396 (by decide) ?_
        refine Go.fgt [some (.ref sa), some (.ref c), none, some (.ref ((ad A 6 0))), some (.int ((nI (cn A 0)))), some (.int ((nI (cn A 1)))), some (.int ((nI (cn A 4)))), some (.int ((nI it))), some (.int w8), some (.long dg), none, some (.ref am), some (.ref as), some (.ref ai), some (.ref ao), some (.ref aw), some (.int ((sumN (fun s => sm_v Y 1 s 5) (r + 1)))), some (.int ((nI (r + 1)))), none, none, none, none, none, none, none, none, none, none, none, none, none] (by repeat' (first | exact trivial | refine ⟨rfl, ?_⟩)) ?_
        exact ih (r + 1) _ _ Fo1 Fw2 _ _ (by omega) Jk1 bo1_w2 bw2 (fun j hj2 => by
          by_cases e : j = r
          · subst e
            exact uw.trans e3.symm
          · exact (vw2 j e).trans (hb j (by omega))) (fun b w1 w2 => (ew2 b w2).trans ((eo1 b w1).trans (hk b w1 w2))) (by omega) (by omega)
      · refine Go.iload_17 d_law_248 rfl ?_
        refine Go.iload_5 d_law_250 rfl ?_
        refine Go.icmp_ge (t := 399) d_law_252 (by decide) rfl (fun w => absurd w (nI_ge (show r < cn A 1 by omega) (by omega))) (fun _ => ?_)
        refine Go.aload_14 d_law_255 rfl ?_
        refine Go.iload_17 d_law_257 rfl ?_
        refine Go.aload_1 d_law_259 rfl ?_
        refine Go.iload_17 d_law_260 rfl ?_
        refine Go.iconst (v := 2) d_law_262 rfl (by decide) ?_
        refine Go.cvT (C1 := C - 4) (S1 := S - 24) (as := [.int ((nI r)), .int 2]) (rest := [.int ((nI r)), .ref ao]) d_law_263 rfl l_Law_277 k_Camp_stake_v rfl (J.cam hj) rfl rfl (j_stake hj J hms hth (r := r) (k := 2) rfl rfl (by first | decide | assumption | omega) (by first | decide | assumption | omega)) rfl rfl (by omega) (by omega) rfl ?_
        refine Go.oias d_law_266 rfl hj J go ho (j := r) rfl (by first | decide | assumption | omega) (by first | decide | omega) (fun xo1 yo1 Jo1 bo1 eo1 => ?_)
        obtain ⟨Fo1, qo1⟩ : ∃ F, F = upd f1 r ((sm_v Y 1 r 2)) := ⟨_, rfl⟩
        rw [← qo1] at bo1
        have uo1 : Fo1 r = (sm_v Y 1 r 2) := by rw [qo1]; exact upd_at _ _ _
        have vo1 : ∀ j, j ≠ r → Fo1 j = f1 j := fun j hj => by rw [qo1]; exact upd_ne _ _ hj
        have hw_o1 := (eo1 aw (by omega)).trans hw
        refine Go.aload_15 d_law_267 rfl ?_
        refine Go.iload_17 d_law_269 rfl ?_
        refine Go.aload_1 d_law_271 rfl ?_
        refine Go.iload_17 d_law_272 rfl ?_
        refine Go.iconst (v := 3) d_law_274 rfl (by decide) ?_
        refine Go.cvT (C1 := C - 8) (S1 := S - 48) (as := [.int ((nI r)), .int 3]) (rest := [.int ((nI r)), .ref aw]) d_law_275 rfl l_Law_277 k_Camp_stake_v rfl (Jo1.cam hj) rfl rfl (j_stake hj Jo1 hms hth (r := r) (k := 3) rfl rfl (by first | decide | assumption | omega) (by first | decide | assumption | omega)) rfl rfl (by omega) (by omega) rfl ?_
        refine Go.iconst (v := 1) d_law_278 rfl (by decide) ?_
        refine Go.icmp_ne (t := 286) d_law_279 (by decide) rfl (fun w => absurd (e3) w) (fun _ => ?_)
        refine Go.iconst (v := 1) d_law_282 rfl (by decide) ?_
        refine Go.goto (t := 287) d_law_283 (by decide) ?_
        refine Go.obas d_law_287 rfl hj Jo1 gw hw_o1 (j := r) rfl (by first | decide | assumption | omega) (by first | decide | omega) (rfl) (fun xw2 yw2 Jw2 bw2 ew2 => ?_)
        obtain ⟨Fw2, qw2⟩ : ∃ F, F = upd f2 r 1 := ⟨_, rfl⟩
        rw [← qw2] at bw2
        have uw2 : Fw2 r = 1 := by rw [qw2]; exact upd_at _ _ _
        have vw2 : ∀ j, j ≠ r → Fw2 j = f2 j := fun j hj => by rw [qw2]; exact upd_ne _ _ hj
        have bo1_w2 := (ew2 ao (by omega)).trans bo1
        have uo : Fo1 r = nI so := uo1.trans e2
        have uw : Fw2 r = 1 := uw2
        refine Go.iload_16 d_law_288 rfl ?_
        refine Go.aload_1 d_law_290 rfl ?_
        refine Go.iload_17 d_law_291 rfl ?_
        refine Go.iconst (v := 5) d_law_293 rfl (by decide) ?_
        refine Go.cvT (C1 := C - 12) (S1 := S - 72) (as := [.int ((nI r)), .int 5]) (rest := [.int ((sumN (fun s => sm_v Y 1 s 5) r))]) d_law_294 rfl l_Law_277 k_Camp_stake_v rfl (Jw2.cam hj) rfl rfl (j_stake hj Jw2 hms hth (r := r) (k := 5) rfl rfl (by first | decide | assumption | omega) (by first | decide | assumption | omega)) rfl rfl (by omega) (by omega) rfl ?_
        refine Go.iadd d_law_297 rfl ?_
        refine Go.istore_16 d_law_298 rfl (by rfl) ?_
        refine Go.aload_14 d_law_300 rfl ?_
        refine Go.iload_17 d_law_302 rfl ?_
        refine Go.oial d_law_304 rfl hj Jw2 go bo1_w2 (j := r) rfl (by first | decide | assumption | omega) (by first | decide | omega) ?_
        refine Go.if_lt (t := 391) d_law_305 (by decide) rfl (fun w => absurd w (by rw [uo]; exact nI_pos (by omega))) (fun _ => ?_)
        refine Go.aload_15 d_law_308 rfl ?_
        refine Go.iload_17 d_law_310 rfl ?_
        refine Go.obal d_law_312 rfl hj Jw2 gw bw2 (j := r) rfl (by first | decide | assumption | omega) (by first | decide | omega) ?_
        refine Go.aload_14 d_law_313 rfl ?_
        refine Go.iload_17 d_law_315 rfl ?_
        refine Go.oial d_law_317 rfl hj Jw2 go bo1_w2 (j := r) rfl (by first | decide | assumption | omega) (by first | decide | omega) ?_
        refine Go.aload_1 d_law_318 rfl ?_
        refine Go.iload_17 d_law_319 rfl ?_
        refine Go.iconst (v := 1) d_law_321 rfl (by decide) ?_
        refine Go.cvT (C1 := C - 16) (S1 := S - 96) (as := [.int ((nI r)), .int 1]) (rest := [.int ((Fo1 r)), .int ((Fw2 r))]) d_law_322 rfl l_Law_277 k_Camp_stake_v rfl (Jw2.cam hj) rfl rfl (j_stake hj Jw2 hms hth (r := r) (k := 1) rfl rfl (by first | decide | assumption | omega) (by first | decide | assumption | omega)) rfl rfl (by omega) (by omega) rfl ?_
        refine Go.icmp_ge (t := 332) d_law_325 (by decide) rfl (fun w => absurd w (by rw [uo, e1]; exact nI_ge x4 (by omega))) (fun _ => ?_)
        refine Go.iconst (v := 1) d_law_328 rfl (by decide) ?_
        refine Go.goto (t := 333) d_law_329 (by decide) ?_
        refine Go.icmp_ne (t := 391) d_law_333 (by decide) rfl (fun w => absurd (uw) w) (fun _ => ?_)
        refine Go.aload_1 d_law_336 rfl ?_
        refine Go.iload_17 d_law_337 rfl ?_
        refine Go.iconst (v := 4) d_law_339 rfl (by decide) ?_
        refine Go.cvT (C1 := C - 20) (S1 := S - 120) (as := [.int ((nI r)), .int 4]) (rest := []) d_law_340 rfl l_Law_277 k_Camp_stake_v rfl (Jw2.cam hj) rfl rfl (j_stake hj Jw2 hms hth (r := r) (k := 4) rfl rfl (by first | decide | assumption | omega) (by first | decide | assumption | omega)) rfl rfl (by omega) (by omega) rfl ?_
        refine Go.if_ge (t := 350) d_law_343 (by decide) rfl (fun _ => ?_) (fun w => absurd (by rw [e4]; exact nI_pos' (by omega)) w)
        refine Go.iconst (v := 0) d_law_350 rfl (by decide) ?_
        refine Go.aload_1 d_law_351 rfl ?_
        refine Go.iload_17 d_law_352 rfl ?_
        refine Go.iconst (v := 5) d_law_354 rfl (by decide) ?_
        refine Go.cvT (C1 := C - 24) (S1 := S - 144) (as := [.int ((nI r)), .int 5]) (rest := [.int 0]) d_law_355 rfl l_Law_277 k_Camp_stake_v rfl (Jw2.cam hj) rfl rfl (j_stake hj Jw2 hms hth (r := r) (k := 5) rfl rfl (by first | decide | assumption | omega) (by first | decide | assumption | omega)) rfl rfl (by omega) (by omega) rfl ?_
        refine Go.if_ne (t := 365) d_law_358 (by decide) rfl (fun _ => ?_) (fun w => absurd w (by rw [e5]; exact nI_ne0 e6 (by omega)))
        refine Go.iconst (v := 0) d_law_365 rfl (by decide) ?_
        refine Go.icmp_ne (t := 391) d_law_366 (by decide) rfl (fun w => absurd (rfl) w) (fun _ => ?_)
        refine Go.aload_1 d_law_369 rfl ?_
        refine Go.iload_17 d_law_370 rfl ?_
        obtain ⟨tk2, wk2, Jk2, ik2, ck2⟩ := j_until (z := z) hj Jw2 hms hth hN (s := r) rfl (by first | decide | assumption | omega)
        refine Go.cvT (C1 := C - 28) (S1 := S - 168) (as := [.int ((nI r))]) (rest := []) d_law_372 rfl l_Law_280 k_Camp_until_v rfl (Jw2.cam hj) rfl rfl ck2 rfl rfl (by omega) (by omega) rfl ?_
        refine Go.if_ne (t := 382) d_law_375 (by decide) rfl (fun _ => ?_) (fun w => absurd w (fun w => absurd (ik2.mp w) (by rw [e3]; decide)))
        refine Go.iconst (v := 0) d_law_382 rfl (by decide) ?_
        refine Go.aload_15 d_law_383 rfl ?_
        refine Go.iload_17 d_law_385 rfl ?_
        refine Go.obal d_law_387 rfl hj Jk2 gw bw2 (j := r) rfl (by first | decide | assumption | omega) (by first | decide | omega) ?_
        refine Go.icmp_ne (t := 393) d_law_388 (by decide) rfl (fun _ => ?_) (fun w => absurd w (by rw [uw]; decide))
        refine Go.iinc_17 d_law_393 rfl (by rfl) (show nI r + Int32.ofInt 1 = nI (r + 1) from nI_ad r 1) ?_
        refine Go.goto (t := 248) d_law_396 (by decide) ?_
        refine Go.fgt [some (.ref sa), some (.ref c), none, some (.ref ((ad A 6 0))), some (.int ((nI (cn A 0)))), some (.int ((nI (cn A 1)))), some (.int ((nI (cn A 4)))), some (.int ((nI it))), some (.int w8), some (.long dg), none, some (.ref am), some (.ref as), some (.ref ai), some (.ref ao), some (.ref aw), some (.int ((sumN (fun s => sm_v Y 1 s 5) (r + 1)))), some (.int ((nI (r + 1)))), none, none, none, none, none, none, none, none, none, none, none, none, none] (by repeat' (first | exact trivial | refine ⟨rfl, ?_⟩)) ?_
        exact ih (r + 1) _ _ Fo1 Fw2 _ _ (by omega) Jk2 bo1_w2 bw2 (fun j hj2 => by
          by_cases e : j = r
          · subst e
            exact uw.trans e3.symm
          · exact (vw2 j e).trans (hb j (by omega))) (fun b w1 w2 => (ew2 b w2).trans ((eo1 b w1).trans (hk b w1 w2))) (by omega) (by omega)
    · rcases hre with ⟨e6, e4⟩ | ⟨e6, l, e4, x6⟩
      · refine Go.iload_17 d_law_248 rfl ?_
        refine Go.iload_5 d_law_250 rfl ?_
        refine Go.icmp_ge (t := 399) d_law_252 (by decide) rfl (fun w => absurd w (nI_ge (show r < cn A 1 by omega) (by omega))) (fun _ => ?_)
        refine Go.aload_14 d_law_255 rfl ?_
        refine Go.iload_17 d_law_257 rfl ?_
        refine Go.aload_1 d_law_259 rfl ?_
        refine Go.iload_17 d_law_260 rfl ?_
        refine Go.iconst (v := 2) d_law_262 rfl (by decide) ?_
        refine Go.cvT (C1 := C - 4) (S1 := S - 24) (as := [.int ((nI r)), .int 2]) (rest := [.int ((nI r)), .ref ao]) d_law_263 rfl l_Law_277 k_Camp_stake_v rfl (J.cam hj) rfl rfl (j_stake hj J hms hth (r := r) (k := 2) rfl rfl (by first | decide | assumption | omega) (by first | decide | assumption | omega)) rfl rfl (by omega) (by omega) rfl ?_
        refine Go.oias d_law_266 rfl hj J go ho (j := r) rfl (by first | decide | assumption | omega) (by first | decide | omega) (fun xo1 yo1 Jo1 bo1 eo1 => ?_)
        obtain ⟨Fo1, qo1⟩ : ∃ F, F = upd f1 r ((sm_v Y 1 r 2)) := ⟨_, rfl⟩
        rw [← qo1] at bo1
        have uo1 : Fo1 r = (sm_v Y 1 r 2) := by rw [qo1]; exact upd_at _ _ _
        have vo1 : ∀ j, j ≠ r → Fo1 j = f1 j := fun j hj => by rw [qo1]; exact upd_ne _ _ hj
        have hw_o1 := (eo1 aw (by omega)).trans hw
        refine Go.aload_15 d_law_267 rfl ?_
        refine Go.iload_17 d_law_269 rfl ?_
        refine Go.aload_1 d_law_271 rfl ?_
        refine Go.iload_17 d_law_272 rfl ?_
        refine Go.iconst (v := 3) d_law_274 rfl (by decide) ?_
        refine Go.cvT (C1 := C - 8) (S1 := S - 48) (as := [.int ((nI r)), .int 3]) (rest := [.int ((nI r)), .ref aw]) d_law_275 rfl l_Law_277 k_Camp_stake_v rfl (Jo1.cam hj) rfl rfl (j_stake hj Jo1 hms hth (r := r) (k := 3) rfl rfl (by first | decide | assumption | omega) (by first | decide | assumption | omega)) rfl rfl (by omega) (by omega) rfl ?_
        refine Go.iconst (v := 1) d_law_278 rfl (by decide) ?_
        refine Go.icmp_ne (t := 286) d_law_279 (by decide) rfl (fun _ => ?_) (fun w => absurd w (by rw [e3]; decide))
        refine Go.iconst (v := 0) d_law_286 rfl (by decide) ?_
        refine Go.obas d_law_287 rfl hj Jo1 gw hw_o1 (j := r) rfl (by first | decide | assumption | omega) (by first | decide | omega) (rfl) (fun xw2 yw2 Jw2 bw2 ew2 => ?_)
        obtain ⟨Fw2, qw2⟩ : ∃ F, F = upd f2 r 0 := ⟨_, rfl⟩
        rw [← qw2] at bw2
        have uw2 : Fw2 r = 0 := by rw [qw2]; exact upd_at _ _ _
        have vw2 : ∀ j, j ≠ r → Fw2 j = f2 j := fun j hj => by rw [qw2]; exact upd_ne _ _ hj
        have bo1_w2 := (ew2 ao (by omega)).trans bo1
        have uo : Fo1 r = nI so := uo1.trans e2
        have uw : Fw2 r = 0 := uw2
        refine Go.iload_16 d_law_288 rfl ?_
        refine Go.aload_1 d_law_290 rfl ?_
        refine Go.iload_17 d_law_291 rfl ?_
        refine Go.iconst (v := 5) d_law_293 rfl (by decide) ?_
        refine Go.cvT (C1 := C - 12) (S1 := S - 72) (as := [.int ((nI r)), .int 5]) (rest := [.int ((sumN (fun s => sm_v Y 1 s 5) r))]) d_law_294 rfl l_Law_277 k_Camp_stake_v rfl (Jw2.cam hj) rfl rfl (j_stake hj Jw2 hms hth (r := r) (k := 5) rfl rfl (by first | decide | assumption | omega) (by first | decide | assumption | omega)) rfl rfl (by omega) (by omega) rfl ?_
        refine Go.iadd d_law_297 rfl ?_
        refine Go.istore_16 d_law_298 rfl (by rfl) ?_
        refine Go.aload_14 d_law_300 rfl ?_
        refine Go.iload_17 d_law_302 rfl ?_
        refine Go.oial d_law_304 rfl hj Jw2 go bo1_w2 (j := r) rfl (by first | decide | assumption | omega) (by first | decide | omega) ?_
        refine Go.if_lt (t := 391) d_law_305 (by decide) rfl (fun w => absurd w (by rw [uo]; exact nI_pos (by omega))) (fun _ => ?_)
        refine Go.aload_15 d_law_308 rfl ?_
        refine Go.iload_17 d_law_310 rfl ?_
        refine Go.obal d_law_312 rfl hj Jw2 gw bw2 (j := r) rfl (by first | decide | assumption | omega) (by first | decide | omega) ?_
        refine Go.aload_14 d_law_313 rfl ?_
        refine Go.iload_17 d_law_315 rfl ?_
        refine Go.oial d_law_317 rfl hj Jw2 go bo1_w2 (j := r) rfl (by first | decide | assumption | omega) (by first | decide | omega) ?_
        refine Go.aload_1 d_law_318 rfl ?_
        refine Go.iload_17 d_law_319 rfl ?_
        refine Go.iconst (v := 1) d_law_321 rfl (by decide) ?_
        refine Go.cvT (C1 := C - 16) (S1 := S - 96) (as := [.int ((nI r)), .int 1]) (rest := [.int ((Fo1 r)), .int ((Fw2 r))]) d_law_322 rfl l_Law_277 k_Camp_stake_v rfl (Jw2.cam hj) rfl rfl (j_stake hj Jw2 hms hth (r := r) (k := 1) rfl rfl (by first | decide | assumption | omega) (by first | decide | assumption | omega)) rfl rfl (by omega) (by omega) rfl ?_
        refine Go.icmp_ge (t := 332) d_law_325 (by decide) rfl (fun _ => ?_) (fun w => absurd (by rw [uo, e1]; exact nI_le x4 (by omega)) w)
        refine Go.iconst (v := 0) d_law_332 rfl (by decide) ?_
        refine Go.icmp_ne (t := 391) d_law_333 (by decide) rfl (fun w => absurd (uw) w) (fun _ => ?_)
        refine Go.aload_1 d_law_336 rfl ?_
        refine Go.iload_17 d_law_337 rfl ?_
        refine Go.iconst (v := 4) d_law_339 rfl (by decide) ?_
        refine Go.cvT (C1 := C - 20) (S1 := S - 120) (as := [.int ((nI r)), .int 4]) (rest := []) d_law_340 rfl l_Law_277 k_Camp_stake_v rfl (Jw2.cam hj) rfl rfl (j_stake hj Jw2 hms hth (r := r) (k := 4) rfl rfl (by first | decide | assumption | omega) (by first | decide | assumption | omega)) rfl rfl (by omega) (by omega) rfl ?_
        refine Go.if_ge (t := 350) d_law_343 (by decide) rfl (fun w => absurd w (by rw [e4]; decide)) (fun _ => ?_)
        refine Go.iconst (v := 1) d_law_346 rfl (by decide) ?_
        refine Go.goto (t := 351) d_law_347 (by decide) ?_
        refine Go.aload_1 d_law_351 rfl ?_
        refine Go.iload_17 d_law_352 rfl ?_
        refine Go.iconst (v := 5) d_law_354 rfl (by decide) ?_
        refine Go.cvT (C1 := C - 24) (S1 := S - 144) (as := [.int ((nI r)), .int 5]) (rest := [.int 1]) d_law_355 rfl l_Law_277 k_Camp_stake_v rfl (Jw2.cam hj) rfl rfl (j_stake hj Jw2 hms hth (r := r) (k := 5) rfl rfl (by first | decide | assumption | omega) (by first | decide | assumption | omega)) rfl rfl (by omega) (by omega) rfl ?_
        refine Go.if_ne (t := 365) d_law_358 (by decide) rfl (fun w => absurd (e5.trans (congrArg nI e6)) w) (fun _ => ?_)
        refine Go.iconst (v := 1) d_law_361 rfl (by decide) ?_
        refine Go.goto (t := 366) d_law_362 (by decide) ?_
        refine Go.icmp_ne (t := 391) d_law_366 (by decide) rfl (fun w => absurd (rfl) w) (fun _ => ?_)
        refine Go.aload_1 d_law_369 rfl ?_
        refine Go.iload_17 d_law_370 rfl ?_
        obtain ⟨tk3, wk3, Jk3, ik3, ck3⟩ := j_until (z := z) hj Jw2 hms hth hN (s := r) rfl (by first | decide | assumption | omega)
        refine Go.cvT (C1 := C - 28) (S1 := S - 168) (as := [.int ((nI r))]) (rest := []) d_law_372 rfl l_Law_280 k_Camp_until_v rfl (Jw2.cam hj) rfl rfl ck3 rfl rfl (by omega) (by omega) rfl ?_
        refine Go.if_ne (t := 382) d_law_375 (by decide) rfl (fun w => absurd (ik3.mpr e3) w) (fun _ => ?_)
        refine Go.iconst (v := 1) d_law_378 rfl (by decide) ?_
        refine Go.goto (t := 383) d_law_379 (by decide) ?_
        refine Go.aload_15 d_law_383 rfl ?_
        refine Go.iload_17 d_law_385 rfl ?_
        refine Go.obal d_law_387 rfl hj Jk3 gw bw2 (j := r) rfl (by first | decide | assumption | omega) (by first | decide | omega) ?_
        refine Go.icmp_ne (t := 393) d_law_388 (by decide) rfl (fun _ => ?_) (fun w => absurd w (by rw [uw]; decide))
        refine Go.iinc_17 d_law_393 rfl (by rfl) (show nI r + Int32.ofInt 1 = nI (r + 1) from nI_ad r 1) ?_
        refine Go.goto (t := 248) d_law_396 (by decide) ?_
        refine Go.fgt [some (.ref sa), some (.ref c), none, some (.ref ((ad A 6 0))), some (.int ((nI (cn A 0)))), some (.int ((nI (cn A 1)))), some (.int ((nI (cn A 4)))), some (.int ((nI it))), some (.int w8), some (.long dg), none, some (.ref am), some (.ref as), some (.ref ai), some (.ref ao), some (.ref aw), some (.int ((sumN (fun s => sm_v Y 1 s 5) (r + 1)))), some (.int ((nI (r + 1)))), none, none, none, none, none, none, none, none, none, none, none, none, none] (by repeat' (first | exact trivial | refine ⟨rfl, ?_⟩)) ?_
        exact ih (r + 1) _ _ Fo1 Fw2 _ _ (by omega) Jk3 bo1_w2 bw2 (fun j hj2 => by
          by_cases e : j = r
          · subst e
            exact uw.trans e3.symm
          · exact (vw2 j e).trans (hb j (by omega))) (fun b w1 w2 => (ew2 b w2).trans ((eo1 b w1).trans (hk b w1 w2))) (by omega) (by omega)
      · refine Go.iload_17 d_law_248 rfl ?_
        refine Go.iload_5 d_law_250 rfl ?_
        refine Go.icmp_ge (t := 399) d_law_252 (by decide) rfl (fun w => absurd w (nI_ge (show r < cn A 1 by omega) (by omega))) (fun _ => ?_)
        refine Go.aload_14 d_law_255 rfl ?_
        refine Go.iload_17 d_law_257 rfl ?_
        refine Go.aload_1 d_law_259 rfl ?_
        refine Go.iload_17 d_law_260 rfl ?_
        refine Go.iconst (v := 2) d_law_262 rfl (by decide) ?_
        refine Go.cvT (C1 := C - 4) (S1 := S - 24) (as := [.int ((nI r)), .int 2]) (rest := [.int ((nI r)), .ref ao]) d_law_263 rfl l_Law_277 k_Camp_stake_v rfl (J.cam hj) rfl rfl (j_stake hj J hms hth (r := r) (k := 2) rfl rfl (by first | decide | assumption | omega) (by first | decide | assumption | omega)) rfl rfl (by omega) (by omega) rfl ?_
        refine Go.oias d_law_266 rfl hj J go ho (j := r) rfl (by first | decide | assumption | omega) (by first | decide | omega) (fun xo1 yo1 Jo1 bo1 eo1 => ?_)
        obtain ⟨Fo1, qo1⟩ : ∃ F, F = upd f1 r ((sm_v Y 1 r 2)) := ⟨_, rfl⟩
        rw [← qo1] at bo1
        have uo1 : Fo1 r = (sm_v Y 1 r 2) := by rw [qo1]; exact upd_at _ _ _
        have vo1 : ∀ j, j ≠ r → Fo1 j = f1 j := fun j hj => by rw [qo1]; exact upd_ne _ _ hj
        have hw_o1 := (eo1 aw (by omega)).trans hw
        refine Go.aload_15 d_law_267 rfl ?_
        refine Go.iload_17 d_law_269 rfl ?_
        refine Go.aload_1 d_law_271 rfl ?_
        refine Go.iload_17 d_law_272 rfl ?_
        refine Go.iconst (v := 3) d_law_274 rfl (by decide) ?_
        refine Go.cvT (C1 := C - 8) (S1 := S - 48) (as := [.int ((nI r)), .int 3]) (rest := [.int ((nI r)), .ref aw]) d_law_275 rfl l_Law_277 k_Camp_stake_v rfl (Jo1.cam hj) rfl rfl (j_stake hj Jo1 hms hth (r := r) (k := 3) rfl rfl (by first | decide | assumption | omega) (by first | decide | assumption | omega)) rfl rfl (by omega) (by omega) rfl ?_
        refine Go.iconst (v := 1) d_law_278 rfl (by decide) ?_
        refine Go.icmp_ne (t := 286) d_law_279 (by decide) rfl (fun _ => ?_) (fun w => absurd w (by rw [e3]; decide))
        refine Go.iconst (v := 0) d_law_286 rfl (by decide) ?_
        refine Go.obas d_law_287 rfl hj Jo1 gw hw_o1 (j := r) rfl (by first | decide | assumption | omega) (by first | decide | omega) (rfl) (fun xw2 yw2 Jw2 bw2 ew2 => ?_)
        obtain ⟨Fw2, qw2⟩ : ∃ F, F = upd f2 r 0 := ⟨_, rfl⟩
        rw [← qw2] at bw2
        have uw2 : Fw2 r = 0 := by rw [qw2]; exact upd_at _ _ _
        have vw2 : ∀ j, j ≠ r → Fw2 j = f2 j := fun j hj => by rw [qw2]; exact upd_ne _ _ hj
        have bo1_w2 := (ew2 ao (by omega)).trans bo1
        have uo : Fo1 r = nI so := uo1.trans e2
        have uw : Fw2 r = 0 := uw2
        refine Go.iload_16 d_law_288 rfl ?_
        refine Go.aload_1 d_law_290 rfl ?_
        refine Go.iload_17 d_law_291 rfl ?_
        refine Go.iconst (v := 5) d_law_293 rfl (by decide) ?_
        refine Go.cvT (C1 := C - 12) (S1 := S - 72) (as := [.int ((nI r)), .int 5]) (rest := [.int ((sumN (fun s => sm_v Y 1 s 5) r))]) d_law_294 rfl l_Law_277 k_Camp_stake_v rfl (Jw2.cam hj) rfl rfl (j_stake hj Jw2 hms hth (r := r) (k := 5) rfl rfl (by first | decide | assumption | omega) (by first | decide | assumption | omega)) rfl rfl (by omega) (by omega) rfl ?_
        refine Go.iadd d_law_297 rfl ?_
        refine Go.istore_16 d_law_298 rfl (by rfl) ?_
        refine Go.aload_14 d_law_300 rfl ?_
        refine Go.iload_17 d_law_302 rfl ?_
        refine Go.oial d_law_304 rfl hj Jw2 go bo1_w2 (j := r) rfl (by first | decide | assumption | omega) (by first | decide | omega) ?_
        refine Go.if_lt (t := 391) d_law_305 (by decide) rfl (fun w => absurd w (by rw [uo]; exact nI_pos (by omega))) (fun _ => ?_)
        refine Go.aload_15 d_law_308 rfl ?_
        refine Go.iload_17 d_law_310 rfl ?_
        refine Go.obal d_law_312 rfl hj Jw2 gw bw2 (j := r) rfl (by first | decide | assumption | omega) (by first | decide | omega) ?_
        refine Go.aload_14 d_law_313 rfl ?_
        refine Go.iload_17 d_law_315 rfl ?_
        refine Go.oial d_law_317 rfl hj Jw2 go bo1_w2 (j := r) rfl (by first | decide | assumption | omega) (by first | decide | omega) ?_
        refine Go.aload_1 d_law_318 rfl ?_
        refine Go.iload_17 d_law_319 rfl ?_
        refine Go.iconst (v := 1) d_law_321 rfl (by decide) ?_
        refine Go.cvT (C1 := C - 16) (S1 := S - 96) (as := [.int ((nI r)), .int 1]) (rest := [.int ((Fo1 r)), .int ((Fw2 r))]) d_law_322 rfl l_Law_277 k_Camp_stake_v rfl (Jw2.cam hj) rfl rfl (j_stake hj Jw2 hms hth (r := r) (k := 1) rfl rfl (by first | decide | assumption | omega) (by first | decide | assumption | omega)) rfl rfl (by omega) (by omega) rfl ?_
        refine Go.icmp_ge (t := 332) d_law_325 (by decide) rfl (fun _ => ?_) (fun w => absurd (by rw [uo, e1]; exact nI_le x4 (by omega)) w)
        refine Go.iconst (v := 0) d_law_332 rfl (by decide) ?_
        refine Go.icmp_ne (t := 391) d_law_333 (by decide) rfl (fun w => absurd (uw) w) (fun _ => ?_)
        refine Go.aload_1 d_law_336 rfl ?_
        refine Go.iload_17 d_law_337 rfl ?_
        refine Go.iconst (v := 4) d_law_339 rfl (by decide) ?_
        refine Go.cvT (C1 := C - 20) (S1 := S - 120) (as := [.int ((nI r)), .int 4]) (rest := []) d_law_340 rfl l_Law_277 k_Camp_stake_v rfl (Jw2.cam hj) rfl rfl (j_stake hj Jw2 hms hth (r := r) (k := 4) rfl rfl (by first | decide | assumption | omega) (by first | decide | assumption | omega)) rfl rfl (by omega) (by omega) rfl ?_
        refine Go.if_ge (t := 350) d_law_343 (by decide) rfl (fun _ => ?_) (fun w => absurd (by rw [e4]; exact nI_pos' (by omega)) w)
        refine Go.iconst (v := 0) d_law_350 rfl (by decide) ?_
        refine Go.aload_1 d_law_351 rfl ?_
        refine Go.iload_17 d_law_352 rfl ?_
        refine Go.iconst (v := 5) d_law_354 rfl (by decide) ?_
        refine Go.cvT (C1 := C - 24) (S1 := S - 144) (as := [.int ((nI r)), .int 5]) (rest := [.int 0]) d_law_355 rfl l_Law_277 k_Camp_stake_v rfl (Jw2.cam hj) rfl rfl (j_stake hj Jw2 hms hth (r := r) (k := 5) rfl rfl (by first | decide | assumption | omega) (by first | decide | assumption | omega)) rfl rfl (by omega) (by omega) rfl ?_
        refine Go.if_ne (t := 365) d_law_358 (by decide) rfl (fun _ => ?_) (fun w => absurd w (by rw [e5]; exact nI_ne0 e6 (by omega)))
        refine Go.iconst (v := 0) d_law_365 rfl (by decide) ?_
        refine Go.icmp_ne (t := 391) d_law_366 (by decide) rfl (fun w => absurd (rfl) w) (fun _ => ?_)
        refine Go.aload_1 d_law_369 rfl ?_
        refine Go.iload_17 d_law_370 rfl ?_
        obtain ⟨tk4, wk4, Jk4, ik4, ck4⟩ := j_until (z := z) hj Jw2 hms hth hN (s := r) rfl (by first | decide | assumption | omega)
        refine Go.cvT (C1 := C - 28) (S1 := S - 168) (as := [.int ((nI r))]) (rest := []) d_law_372 rfl l_Law_280 k_Camp_until_v rfl (Jw2.cam hj) rfl rfl ck4 rfl rfl (by omega) (by omega) rfl ?_
        refine Go.if_ne (t := 382) d_law_375 (by decide) rfl (fun w => absurd (ik4.mpr e3) w) (fun _ => ?_)
        refine Go.iconst (v := 1) d_law_378 rfl (by decide) ?_
        refine Go.goto (t := 383) d_law_379 (by decide) ?_
        refine Go.aload_15 d_law_383 rfl ?_
        refine Go.iload_17 d_law_385 rfl ?_
        refine Go.obal d_law_387 rfl hj Jk4 gw bw2 (j := r) rfl (by first | decide | assumption | omega) (by first | decide | omega) ?_
        refine Go.icmp_ne (t := 393) d_law_388 (by decide) rfl (fun _ => ?_) (fun w => absurd w (by rw [uw]; decide))
        refine Go.iinc_17 d_law_393 rfl (by rfl) (show nI r + Int32.ofInt 1 = nI (r + 1) from nI_ad r 1) ?_
        refine Go.goto (t := 248) d_law_396 (by decide) ?_
        refine Go.fgt [some (.ref sa), some (.ref c), none, some (.ref ((ad A 6 0))), some (.int ((nI (cn A 0)))), some (.int ((nI (cn A 1)))), some (.int ((nI (cn A 4)))), some (.int ((nI it))), some (.int w8), some (.long dg), none, some (.ref am), some (.ref as), some (.ref ai), some (.ref ao), some (.ref aw), some (.int ((sumN (fun s => sm_v Y 1 s 5) (r + 1)))), some (.int ((nI (r + 1)))), none, none, none, none, none, none, none, none, none, none, none, none, none] (by repeat' (first | exact trivial | refine ⟨rfl, ?_⟩)) ?_
        exact ih (r + 1) _ _ Fo1 Fw2 _ _ (by omega) Jk4 bo1_w2 bw2 (fun j hj2 => by
          by_cases e : j = r
          · subst e
            exact uw.trans e3.symm
          · exact (vw2 j e).trans (hb j (by omega))) (fun b w1 w2 => (ew2 b w2).trans ((eo1 b w1).trans (hk b w1 w2))) (by omega) (by omega)
theorem d_law_230 : decode M_law.2.1 230 = .ok (.iload 5, 2) := by decide +kernel
theorem d_law_232 : decode M_law.2.1 232 = .ok (.newarray .int, 2) := by decide +kernel
theorem d_law_234 : decode M_law.2.1 234 = .ok (.astore 14, 2) := by decide +kernel
theorem d_law_236 : decode M_law.2.1 236 = .ok (.iload 5, 2) := by decide +kernel
theorem d_law_238 : decode M_law.2.1 238 = .ok (.newarray .boolean, 2) := by decide +kernel
theorem d_law_240 : decode M_law.2.1 240 = .ok (.astore 15, 2) := by decide +kernel
theorem d_law_242 : decode M_law.2.1 242 = .ok (.iconst 0, 1) := by decide +kernel
theorem d_law_243 : decode M_law.2.1 243 = .ok (.istore 16, 2) := by decide +kernel
theorem d_law_245 : decode M_law.2.1 245 = .ok (.iconst 0, 1) := by decide +kernel
theorem d_law_246 : decode M_law.2.1 246 = .ok (.istore 17, 2) := by decide +kernel
set_option maxRecDepth 100000 in
set_option maxHeartbeats 4000000 in
theorem law_230 (hj : AJ A c z0) (hms : MsOk Γ ms) (hth : ThOk Γ) (J : JW Γ A c Y Y N dg h h') (hz : z0 ≤ z) (hN : N ≤ 900000) {am as ai C S : Nat} (hC : 140 ≤ C) (hS : 820 ≤ S) (kx : ∀ (h2 h3 : AH) (z aw C2 S2 : Nat), JW Γ A c Y Y N dg h2 h3 → z0 ≤ z → C ≤ C2 + 140 → S ≤ S2 + 820 → SW1 Γ A Y z0 h2 aw → Ext h h2 → Go Γ M_law 80 C2 S2 399 [some (.ref sa), some (.ref c), none, some (.ref ((ad A 6 0))), some (.int ((nI (cn A 0)))), some (.int ((nI (cn A 1)))), some (.int ((nI (cn A 4)))), some (.int ((nI it))), some (.int w8), some (.long dg), none, some (.ref am), some (.ref as), some (.ref ai), none, some (.ref aw), some (.int ((sumN (fun s => sm_v Y 1 s 5) (cn A 1)))), some (.int ((nI (cn A 1)))), none, none, none, none, none, none, none, none, none, none, none, none, none] [] h3 z Q X) : Go Γ M_law 80 C S 230 [some (.ref sa), some (.ref c), none, some (.ref ((ad A 6 0))), some (.int ((nI (cn A 0)))), some (.int ((nI (cn A 1)))), some (.int ((nI (cn A 4)))), some (.int ((nI it))), some (.int w8), some (.long dg), none, some (.ref am), some (.ref as), some (.ref ai), some (.int ((nI (cn A 0)))), none, none, none, none, none, none, none, none, none, none, none, none, none, none, none, none] [] h' z Q X := by
  obtain ⟨p0, p1, p2, p3, p4⟩ := aj_p hj
  refine Go.iload_5 d_law_230 rfl ?_
  refine Go.onew (C1 := C - 1) (S1 := S - 4) d_law_232 rfl hj J hz (n := (cn A 1)) rfl (by first | decide | omega) (by omega) (by omega) (fun xo1 yo1 Jo1 bo1 no1 eo1 => ?_)
  obtain ⟨ao, qo1⟩ : ∃ a, a = z := ⟨z, rfl⟩
  rw [← qo1] at bo1 no1 eo1 ⊢
  have go1 : z0 ≤ ao := by omega
  refine Go.astore_14 d_law_234 rfl (by rfl) ?_
  refine Go.iload_5 d_law_236 rfl ?_
  refine Go.onewZ (C1 := C - 2) (S1 := S - 8) d_law_238 rfl hj Jo1 (show z0 ≤ ao + 1 by omega) (n := (cn A 1)) rfl (by first | decide | omega) (by omega) (by omega) (fun xw2 yw2 Jw2 bw2 nw2 ew2 => ?_)
  obtain ⟨aw, qw2⟩ : ∃ a, a = (ao + 1) := ⟨(ao + 1), rfl⟩
  rw [← qw2] at bw2 nw2 ew2 ⊢
  have gw2 : z0 ≤ aw := by omega
  have dow2 : ao ≠ aw := fun w => by rw [w, nw2] at bo1; cases bo1
  have bo1_w2 := (ew2 _ dow2).trans bo1
  refine Go.astore_15 d_law_240 rfl (by rfl) ?_
  refine Go.iconst (v := 0) d_law_242 rfl (by decide) ?_
  refine Go.istore_16 d_law_243 rfl (by rfl) ?_
  refine Go.iconst (v := 0) d_law_245 rfl (by decide) ?_
  refine Go.istore_17 d_law_246 rfl (by rfl) ?_
  refine Go.fgt [some (.ref sa), some (.ref c), none, some (.ref ((ad A 6 0))), some (.int ((nI (cn A 0)))), some (.int ((nI (cn A 1)))), some (.int ((nI (cn A 4)))), some (.int ((nI it))), some (.int w8), some (.long dg), none, some (.ref am), some (.ref as), some (.ref ai), some (.ref ao), some (.ref aw), some (.int ((sumN (fun s => sm_v Y 1 s 5) 0))), some (.int ((nI 0))), none, none, none, none, none, none, none, none, none, none, none, none, none] (by repeat' (first | exact trivial | refine ⟨rfl, ?_⟩)) ?_
  refine law_248 hj hms hth hN go1 gw2 (by omega) (C0 := C - 130) (S0 := S - 808) (fun h2 h3 C2 S2 J2 hC2 hS2 hr3 hk => ?_) (cn A 1) 0 _ _ _ _ _ _ (Nat.zero_add _) Jw2 bo1_w2 bw2 (fun j w => absurd w (by omega)) (fun _ _ _ => rfl) (by omega) (by omega)
  refine Go.fgt [some (.ref sa), some (.ref c), none, some (.ref ((ad A 6 0))), some (.int ((nI (cn A 0)))), some (.int ((nI (cn A 1)))), some (.int ((nI (cn A 4)))), some (.int ((nI it))), some (.int w8), some (.long dg), none, some (.ref am), some (.ref as), some (.ref ai), none, some (.ref aw), some (.int ((sumN (fun s => sm_v Y 1 s 5) (cn A 1)))), some (.int ((nI (cn A 1)))), none, none, none, none, none, none, none, none, none, none, none, none, none] (by repeat' (first | exact trivial | refine ⟨rfl, ?_⟩)) ?_
  refine kx h2 h3 (aw + 1) aw C2 S2 J2 (by omega) (by omega) (by omega) hr3 (fun x e hx => ?_)
  have k1 : x ≠ ao := fun w => by rw [w, no1] at hx; cases hx
  have k2 : x ≠ aw := fun w => by rw [w, ← eo1 aw (by omega), nw2] at hx; cases hx
  exact (hk x k1 k2).trans ((ew2 x k2).trans ((eo1 x k1).trans hx))
end Lw
