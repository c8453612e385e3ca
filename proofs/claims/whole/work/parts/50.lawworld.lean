/-! the law: its world -/
/-- the law's own row of ints -/
def ScOk (Γ : G9) (b L : Nat) (xs : Nat → Int32) : Prop := SF Γ (fun A U H => va_X b L xs U H ∧ b < H.size ∧ ¬ A b)
section GoLaw
variable {Γ : G9} {M : MI} {d C S pc q : Nat} {L : List (Option Value)} {st : List Value} {h : AH} {z : Nat} {Q : QT} {X : XT}
theorem Go.sld {b n : Nat} {xs : Nat → Int32} {i : Int32} (hd : decode M.2.1 pc = .ok (.iaload, 1)) (hq : pc + 1 = q) (hsc : ScOk Γ b n xs) (hin : vp_in i n) (kk : Go Γ M d C S q L (.int (xs i.toNatClampNeg) :: st) h z Q X) : Go Γ M d C S pc L (.int i :: .ref b :: st) h z Q X := by
  subst hq
  intro p e R s m args below meth c H locs cells slots ls Z hc
  obtain ⟨h1, h2, h3⟩ := hsc _ _ hc.2.2.1.se
  exact va_sld hc.1.1 hc.1.2.1 h1 h2 h3 hc.2.2.1.2.1 hin hd (kk _ _ _ _ _ _ _ _ _ _ _ _ _ _ _ hc)
theorem Go.slen {b n : Nat} {xs : Nat → Int32} (hd : decode M.2.1 pc = .ok (.arraylength, 1)) (hq : pc + 1 = q) (hsc : ScOk Γ b n xs) (kk : Go Γ M d C S q L (.int (nI n) :: st) h z Q X) : Go Γ M d C S pc L (.ref b :: st) h z Q X := by
  subst hq
  intro p e R s m args below meth c H locs cells slots ls Z hc
  obtain ⟨h1, h2, h3⟩ := hsc _ _ hc.2.2.1.se
  exact va_slen hc.1.1 hc.1.2.1 h1 h2 h3 hc.2.2.1.2.1 hd (kk _ _ _ _ _ _ _ _ _ _ _ _ _ _ _ hc)
/-- a class method that has handlers -/
theorem Go.callSW {M' : MI} {n d' C' S' C1 S1 idx : Nat} {Q' : QT} {X' : XT} {as rest : List Value} (hd : decode M.2.1 pc = .ok (.invokestatic idx, 3)) (hq : pc + 3 = q) (lk : Cond.methodLink M.1.cls idx M'.1 ∈ gw) (ok : OkS M' n) (hh : M'.2.2.2.2 ≠ []) (hn : as.length = n) (hst : st = as.reverse ++ rest)
    (hc : Call Γ M' d' C' S' as h z Q' X') (hd' : d' + 1 ≤ d) (hml : M'.2.2.1 ≤ 21) (hC : C' + C1 ≤ C) (hS : S' + S1 ≤ S) (hw : (rest.map fun v => v.category).sum ≤ 8)
    (kx : ∀ E h' z', X' E h' z' → z ≤ z' → GoX Γ M d C1 S1 pc L E h' z' Q X) (kk : ∀ v h' z', Q' v h' z' → z ≤ z' → Go Γ M d C1 S1 q L (v.toList ++ rest) h' z' Q X) : Go Γ M d C S pc L st h z Q X := by
  subst hq
  obtain ⟨y, bb, nn, rr, tt⟩ := M'
  cases tt with
  | nil => exact absurd rfl hh
  | cons e0 t0 =>
    refine Go.after (Q' := Q') (X' := X') (C' := C') (S' := S') (av := as.toArray) (rest := rest) (fun p e R s m args below meth c H locs cells slots ls Z hx => ?_) hC hS kx kk
    obtain ⟨r1, r2, r3, r4⟩ := hx.2.1
    have hts := hx.1.2.2.2.2.2.1
    have hH := hx.2.2.1
    obtain ⟨⟨g1, g2, g3, g4, g5⟩, g6⟩ := ok
    refine vx_runSX (As := as) (n := n) (Ts := gw) (own := M.1.cls) (hh := e0 :: t0) ⟨hx.1.1, hx.1.2.1, hx.1.2.2.1, hx.1.2.2.2.2.1, hts⟩ hc ⟨⟨rfl, rfl, (show d' + 1 ≤ R.frames by omega), ?_, gw_pay hts g1, List.mem_cons_self⟩, hts _ g1, hts _ g2, ⟨g3, g4⟩, fun sig hsig => ?_, hts _ lk, hts _ g6⟩ ⟨blindP, fun U hU hW => startP hH hx.2.2.2.1 hU hW⟩ rfl hn (by rw [hx.2.2.2.2.1.1]) hst (lv_room hw) hd ⟨by omega, by omega⟩
    · show 8 + (nn + 11) + 40 * d' ≤ R.locals
      have hml : nn ≤ 21 := hml
      omega
    · rw [hsig] at g5
      exact (Option.some.inj g5).symm
end GoLaw
theorem lg_self {x : Int64} : lg_cmp x x = 0 := by
  unfold lg_cmp
  simp
theorem nI_inc6 {i : Nat} : nI i + Int32.ofInt 6 = nI (i + 6) := nI_add _ _
theorem wr_uni {Γ : G9} {w : Nat} {h h2 : AH} {t k : Int32} {V : Int64} {f : Nat → Int64} {F : AH → AH} {v : Option Value} (hw0 : h w = some (aJ Γ 1 f)) (hx : (t = 0 → v = some (.int 0) ∧ h2 = F (hup h w (aJ Γ 1 (vp_updL f 0 V)))) ∧ (¬ t = 0 → v = some (.int k) ∧ h2 = F h)) : ∃ f' : Nat → Int64, v = some (.int (if t = 0 then 0 else k)) ∧ h2 = F (hup h w (aJ Γ 1 f')) ∧ (t = 0 → f' 0 = V) := by
  by_cases ht : t = 0
  · obtain ⟨e1, e2⟩ := hx.1 ht
    exact ⟨_, by rw [if_pos ht]; exact e1, e2, fun _ => by unfold vp_updL; simp⟩
  · obtain ⟨e1, e2⟩ := hx.2 ht
    exact ⟨f, by rw [if_neg ht]; exact e1, by rw [hup_self hw0]; exact e2, fun c => absurd c ht⟩
theorem blk_mf {Γ : G9} {h : AH} {m q r r2 a n ow : Nat} {M : MO} {H : SH} {Y Ah : SX} {f : Nat → Option va_E} (hd : a + n ≤ m ∧ m + 2 ≤ q ∧ m + 2 ≤ r ∧ r + 21 ≤ r2) : blk (mf_ Γ h m q r r2 M H Y Ah ow) a n f = mf_ Γ (blk h a n f) m q r r2 M H Y Ah ow := by
  unfold mf_
  exact (blk_comm (by omega)).trans (blk_in ((blk_comm (by omega)).trans (blk_in ((blk_comm (by omega)).trans (blk_in (blk_comm (by omega)))))))
theorem cw_mf {Γ : G9} {sg : Nat → Nat} {h : AH} {c g g2 o o2 m q r r2 w : Nat} {A : TA} {K : TK} {σ τ : GL} {T : TM} {F : FM} {U : TM} {G : FM} {P : CP} {M : MO} {H : SH} {Y Ah : SX} {ow : Nat} (geo : c + 7 ≤ g ∧ c + 7 ≤ g2 ∧ (g + 12 ≤ g2 ∨ g2 + 12 ≤ g) ∧ g + 12 ≤ o ∧ g + 12 ≤ o2 ∧ g2 + 12 ≤ o ∧ g2 + 12 ≤ o2 ∧ (o + 7 ≤ o2 ∨ o2 + 7 ≤ o) ∧ o + 7 ≤ m ∧ o2 + 7 ≤ m ∧ m + 2 ≤ q ∧ m + 2 ≤ r ∧ r + 21 ≤ r2 ∧ r2 + 21 ≤ w ∧ (q + 24 ≤ r ∨ w + 1 ≤ q)) : (cw_ Γ sg (mf_ Γ h m q r r2 M H Y Ah ow) c g g2 o o2 A K σ τ T F U G P) = (mf_ Γ (cw_ Γ sg h c g g2 o o2 A K σ τ T F U G P) m q r r2 M H Y Ah ow) := by
  unfold cw_
  rw [blk_mf ⟨by omega, by omega, by omega, by omega⟩, blk_mf ⟨by omega, by omega, by omega, by omega⟩, blk_mf ⟨by omega, by omega, by omega, by omega⟩, blk_mf ⟨by omega, by omega, by omega, by omega⟩, blk_mf ⟨by omega, by omega, by omega, by omega⟩, blk_mf ⟨by omega, by omega, by omega, by omega⟩, blk_mf ⟨by omega, by omega, by omega, by omega⟩, blk_mf ⟨by omega, by omega, by omega, by omega⟩, blk_mf ⟨by omega, by omega, by omega, by omega⟩]
theorem lw_s {Γ : G9} {sg : Nat → Nat} {h : AH} {c g g2 o o2 m q r r2 w : Nat} {A : TA} {K : TK} {σ τ : GL} {T : TM} {F : FM} {U : TM} {G : FM} {P : CP} {M : MO} {H : SH} {Y Ah : SX} {ow : Nat} (geo : c + 7 ≤ g ∧ c + 7 ≤ g2 ∧ (g + 12 ≤ g2 ∨ g2 + 12 ≤ g) ∧ g + 12 ≤ o ∧ g + 12 ≤ o2 ∧ g2 + 12 ≤ o ∧ g2 + 12 ≤ o2 ∧ (o + 7 ≤ o2 ∨ o2 + 7 ≤ o) ∧ o + 7 ≤ m ∧ o2 + 7 ≤ m ∧ m + 2 ≤ q ∧ m + 2 ≤ r ∧ r + 21 ≤ r2 ∧ r2 + 21 ≤ w ∧ (q + 24 ≤ r ∨ w + 1 ≤ q)) : (cw_ Γ sg (mf_ Γ h m q r r2 M H Y Ah ow) c g g2 o o2 A K σ τ T F U G P) = md_ Γ (blk (cw_ Γ sg h c g g2 o o2 A K σ τ T F U G P) r2 21 (sxC Γ r2 Ah)) m q r r r2 (roW ow r r2) M H Y := (cw_mf geo).trans (mf_s (by omega))
theorem mf_hup {Γ : G9} {h : AH} {c g g2 o o2 m q r r2 w : Nat} {M : MO} {H : SH} {Y Ah : SX} {ow : Nat} {e : va_E} (geo : c + 7 ≤ g ∧ c + 7 ≤ g2 ∧ (g + 12 ≤ g2 ∨ g2 + 12 ≤ g) ∧ g + 12 ≤ o ∧ g + 12 ≤ o2 ∧ g2 + 12 ≤ o ∧ g2 + 12 ≤ o2 ∧ (o + 7 ≤ o2 ∨ o2 + 7 ≤ o) ∧ o + 7 ≤ m ∧ o2 + 7 ≤ m ∧ m + 2 ≤ q ∧ m + 2 ≤ r ∧ r + 21 ≤ r2 ∧ r2 + 21 ≤ w ∧ (q + 24 ≤ r ∨ w + 1 ≤ q)) : hup (mf_ Γ h m q r r2 M H Y Ah ow) w e = (mf_ Γ (hup h w e) m q r r2 M H Y Ah ow) := by
  unfold mf_
  rw [hup_blk (by omega), hup_blk (by omega), hup_blk (by omega), hup_blk (by omega)]
theorem mf_outw {Γ : G9} {h : AH} {m q r r2 w ow : Nat} {M : MO} {H : SH} {Y Ah : SX} (hd : m + 2 ≤ w ∧ r + 21 ≤ w ∧ r2 + 21 ≤ w ∧ (q + 24 ≤ w ∨ w + 1 ≤ q)) : (mf_ Γ h m q r r2 M H Y Ah ow) w = h w := by
  unfold mf_
  rw [blk_out (by omega), blk_out (by omega), blk_out (by omega), blk_out (by omega)]
theorem mf_outlo {Γ : G9} {h : AH} {m q r r2 a ow : Nat} {M : MO} {H : SH} {Y Ah : SX} (hd : a < m ∧ m + 2 ≤ q ∧ m + 2 ≤ r ∧ r + 21 ≤ r2) : (mf_ Γ h m q r r2 M H Y Ah ow) a = h a := by
  unfold mf_
  rw [blk_out (by omega), blk_out (by omega), blk_out (by omega), blk_out (by omega)]
