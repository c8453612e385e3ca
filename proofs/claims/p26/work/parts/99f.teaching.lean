/-! the list, taught -/
section Te
variable {Γ : G9} {M : MI} {d C S pc q : Nat} {L : List (Option Value)} {st : List Value} {h h2 : AH} {z : Nat} {Q : QT} {X : XT}
theorem Go.ial9 {a n j : Nat} {f : Nat → Int32} {i : Int32} (hd : decode M.2.1 pc = .ok (.iaload, 1)) (hq : pc + 1 = q) (ho : h a = some (aI Γ n f)) (ei : i = nI j) (hj : j < n) (hn : n < 2 ^ 31) (kk : Go Γ M d C S q L (.int (f j) :: st) h z Q X) : Go Γ M d C S pc L (.int i :: .ref a :: st) h z Q X := by
  subst ei
  refine Go.iaload hd hq ho (vp_in_nI hj hn) ?_
  rw [nI_clamp (show j < 2 ^ 31 by omega)]
  exact kk
theorem Go.ias9 {a n j : Nat} {f : Nat → Int32} {i x : Int32} (hd : decode M.2.1 pc = .ok (.iastore, 1)) (hq : pc + 1 = q) (ho : h a = some (aI Γ n f)) (ei : i = nI j) (hj : j < n) (hn : n < 2 ^ 31) (kk : Go Γ M d C S q L st (hup h a (aI Γ n (upd f j x))) z Q X) : Go Γ M d C S pc L (.int x :: .int i :: .ref a :: st) h z Q X := by
  subst ei
  refine Go.iastore hd hq ho (vp_in_nI hj hn) ?_
  rw [nI_clamp (show j < 2 ^ 31 by omega)]
  exact kk
theorem div4 : ∀ i, i < 20 → nI i / 4 = nI (i / 4) := by decide +kernel
variable {sg : Nat → Nat} {sw c g g2 o o2 b k : Nat} {A : TA} {K : TK} {σ τ : GL} {T : TM} {F : FM} {U : TM} {G : FM} {P : CP} {l : List Int32} {ms : Nat → Nat}
/-- the camp's heap, and where a text lies beside it -/
def CH (Γ : G9) (sg : Nat → Nat) (sw : Nat) (h : AH) (c g g2 o o2 : Nat) (σ τ : GL) (T U : TM) : Prop := (SgOk Γ sg ∧ SgNe sg ∧ SwOk Γ sw) ∧ GEO c g g2 o o2 ∧ BND c g g2 o o2 ∧ h o = some (.inr (3, [.ref (o + 1), .ref (o + 3)])) ∧ h o2 = some (.inr (3, [.ref (o2 + 1), .ref (o2 + 3)])) ∧ T.2 ≤ 20 ∧ U.2 ≤ 20 ∧ WFG σ ∧ WFG τ
def TXL (Γ : G9) (h : AH) (c b : Nat) (l : List Int32) : Prop := ∃ v, (b < c ∨ c + 45 ≤ b) ∧ (v < c ∨ c + 45 ≤ v) ∧ h b = some (stO v) ∧ h v = some (aB Γ l.length (fun j => l.getD j 0))
theorem TXL.ext (ht : TXL Γ h c b l) (he : Ext h h2) : TXL Γ h2 c b l := by
  obtain ⟨v, h1, h3, h4, h5⟩ := ht
  exact ⟨v, h1, h3, he _ _ h4, he _ _ h5⟩
theorem CH.ext (hc : CH Γ sg sw h c g g2 o o2 σ τ T U) (he : Ext h h2) : CH Γ sg sw h2 c g g2 o o2 σ τ T U := by
  obtain ⟨h0, h1, h3, h4, h5, h6⟩ := hc
  exact ⟨h0, h1, h3, he _ _ h4, he _ _ h5, h6⟩
theorem TXL.str (ht : TXL Γ h c b l) (hc : CH Γ sg sw h c g g2 o o2 σ τ T U) : STR Γ (cw_ Γ sg h c g g2 o o2 A K σ τ T F U G P) b l := by
  obtain ⟨v, h1, h3, h4, h5⟩ := ht
  exact Or.inr ⟨v, (cw_rd hc.2.1 hc.2.2.1 h1).trans h4, (cw_rd hc.2.1 hc.2.2.1 h3).trans h5⟩
theorem CH.cam (hc : CH Γ sg sw h c g g2 o o2 σ τ T U) (hA : ta_sz A ≤ 2000) : ∃ fs : List Value, (cw_ Γ sg h c g g2 o o2 A K σ τ T F U G P) c = some (.inr (8, fs)) := by
  obtain ⟨⟨hs, hsn, hw⟩, geo, bd, ho, ho2, hT, hU, hW, hV⟩ := hc
  exact ⟨_, cw_at_c hs hsn hw geo hA ho ho2 hT hU hW hV⟩
theorem w_trim (hc : CH Γ sg sw h c g g2 o o2 σ τ T U) (hms : MsOk Γ ms) (hth : ThOk Γ) (hA : ta_sz A ≤ 2000) {n : Nat} (hn : n ≤ ta_sz A) : CallT Γ M_Camp_trim 6 4 24 [.ref c, .int (nI n)] (cw_ Γ sg h c g g2 o o2 A K σ τ T F U G P) z 0 (some (.int (nI n))) (cw_ Γ sg h c g g2 o o2 (A.1, n) K σ τ T F U G P) := by
  obtain ⟨⟨hs, hsn, hw⟩, geo, bd, ho, ho2, hT, hU, hW, hV⟩ := hc
  have h := c_Camp_trim (z := z) (A := A) (K := K) (F := F) (G := G) (P := P) (x1 := n) rfl (by omega) hs hsn hw geo hA ho ho2 hT hU hW hV hms hth
  unfold s_Camp_trim at h
  rw [if_pos (nI_le hn (by omega))] at h
  exact h
theorem w_feed (hc : CH Γ sg sw h c g g2 o o2 σ τ T U) (hms : MsOk Γ ms) (hth : ThOk Γ) (hA : ta_sz A + 20 ≤ 2000) (x : Nat → Int32) : ∃ f : Nat → Int32, CallT Γ M_Camp_feed 6 4 24 [.ref c, .int (x 0), .int (x 1), .int (x 2), .int (x 3), .int (x 4)] (cw_ Γ sg h c g g2 o o2 A K σ τ T F U G P) z 0 (some (.int (nI (ta_sz A + 20)))) (cw_ Γ sg h c g g2 o o2 (f, ta_sz A + 20) K σ τ T F U G P) ∧ (∀ i, i < 20 → f (ta_sz A + i) = cbt (x (i / 4)) (i % 4)) ∧ ∀ j, j < ta_sz A → f j = ta_by A j := by
  obtain ⟨⟨hs, hsn, hw⟩, geo, bd, ho, ho2, hT, hU, hW, hV⟩ := hc
  obtain ⟨f, e, p, q⟩ := feed_t (A := A) (K := K) (σ := σ) (τ := τ) (T := T) (F := F) (U := U) (G := G) (P := P) (x := x) hA
  have h := c_Camp_feed (z := z) (A := A) (K := K) (F := F) (G := G) (P := P) (x1 := x 0) (x2 := x 1) (x3 := x 2) (x4 := x 3) (x5 := x 4) hs hsn hw geo (show ta_sz A ≤ 2000 by omega) ho ho2 hT hU hW hV hms hth
  rw [e] at h
  exact ⟨f, h, p, q⟩
theorem d_Law_taught_23 : decode M_Law_taught.2.1 23 = .ok (.iload 4, 2) := by decide +kernel
theorem d_Law_taught_25 : decode M_Law_taught.2.1 25 = .ok (.bipush 20, 2) := by decide +kernel
theorem d_Law_taught_27 : decode M_Law_taught.2.1 27 = .ok (.if_icmp .ge 49, 3) := by decide +kernel
theorem d_Law_taught_30 : decode M_Law_taught.2.1 30 = .ok (.aload_n 3, 1) := by decide +kernel
theorem d_Law_taught_31 : decode M_Law_taught.2.1 31 = .ok (.iload 4, 2) := by decide +kernel
theorem d_Law_taught_33 : decode M_Law_taught.2.1 33 = .ok (.iconst 4, 1) := by decide +kernel
theorem d_Law_taught_34 : decode M_Law_taught.2.1 34 = .ok (.idiv, 1) := by decide +kernel
theorem d_Law_taught_35 : decode M_Law_taught.2.1 35 = .ok (.aload_n 3, 1) := by decide +kernel
theorem d_Law_taught_36 : decode M_Law_taught.2.1 36 = .ok (.iload 4, 2) := by decide +kernel
theorem d_Law_taught_38 : decode M_Law_taught.2.1 38 = .ok (.iconst 4, 1) := by decide +kernel
theorem d_Law_taught_39 : decode M_Law_taught.2.1 39 = .ok (.idiv, 1) := by decide +kernel
theorem d_Law_taught_40 : decode M_Law_taught.2.1 40 = .ok (.iaload, 1) := by decide +kernel
theorem d_Law_taught_41 : decode M_Law_taught.2.1 41 = .ok (.bipush 8, 2) := by decide +kernel
theorem d_Law_taught_43 : decode M_Law_taught.2.1 43 = .ok (.ishl, 1) := by decide +kernel
theorem d_Law_taught_44 : decode M_Law_taught.2.1 44 = .ok (.iload_n 2, 1) := by decide +kernel
theorem d_Law_taught_45 : decode M_Law_taught.2.1 45 = .ok (.iload 4, 2) := by decide +kernel
theorem d_Law_taught_47 : decode M_Law_taught.2.1 47 = .ok (.iadd, 1) := by decide +kernel
theorem d_Law_taught_48 : decode M_Law_taught.2.1 48 = .ok (.aload_n 1, 1) := by decide +kernel
theorem d_Law_taught_49 : decode M_Law_taught.2.1 49 = .ok (.invokevirtual 15, 3) := by decide +kernel
theorem d_Law_taught_52 : decode M_Law_taught.2.1 52 = .ok (.if_icmp .ge 14, 3) := by decide +kernel
theorem d_Law_taught_55 : decode M_Law_taught.2.1 55 = .ok (.aload_n 1, 1) := by decide +kernel
theorem d_Law_taught_56 : decode M_Law_taught.2.1 56 = .ok (.iload_n 2, 1) := by decide +kernel
theorem d_Law_taught_57 : decode M_Law_taught.2.1 57 = .ok (.iload 4, 2) := by decide +kernel
theorem d_Law_taught_59 : decode M_Law_taught.2.1 59 = .ok (.iadd, 1) := by decide +kernel
theorem d_Law_taught_60 : decode M_Law_taught.2.1 60 = .ok (.invokevirtual 21, 3) := by decide +kernel
theorem d_Law_taught_63 : decode M_Law_taught.2.1 63 = .ok (.goto 5, 3) := by decide +kernel
theorem d_Law_taught_66 : decode M_Law_taught.2.1 66 = .ok (.bipush 32, 2) := by decide +kernel
theorem d_Law_taught_68 : decode M_Law_taught.2.1 68 = .ok (.ior, 1) := by decide +kernel
theorem d_Law_taught_69 : decode M_Law_taught.2.1 69 = .ok (.iastore, 1) := by decide +kernel
theorem d_Law_taught_70 : decode M_Law_taught.2.1 70 = .ok (.iinc 4 1, 3) := by decide +kernel
theorem d_Law_taught_73 : decode M_Law_taught.2.1 73 = .ok (.goto (-50), 3) := by decide +kernel
set_option maxRecDepth 100000 in
set_option maxHeartbeats 4000000 in
theorem tau_23 (hc : CH Γ sg sw h c g g2 o o2 σ τ T U) (hcs : CsOk Γ) (ht : TXL Γ h c b l) (hl : LB l) (hn : l.length ≤ 1200) {a : Nat} (hk : k < 2000) (ha : c + 45 ≤ a) (hfa : h a = none) (kx : Go Γ M_Law_taught 74 C S 76 [some (.ref c), some (.ref b), some (.int (nI k)), some (.ref a), some (.int (nI 20))] [] (cw_ Γ sg (hup h a (aI Γ 5 (wf9 (fun i => tg8 l (k + i)) 20))) c g g2 o o2 A K σ τ T F U G P) z Q X) : ∀ (n i : Nat), i + n = 20 → Go Γ M_Law_taught 74 C S 23 [some (.ref c), some (.ref b), some (.int (nI k)), some (.ref a), some (.int (nI i))] [] (cw_ Γ sg (hup h a (aI Γ 5 (wf9 (fun i => tg8 l (k + i)) i))) c g g2 o o2 A K σ τ T F U G P) z Q X := by
  intro n
  induction n with
  | zero =>
    intro i hi
    have e : i = 20 := by omega
    subst e
    refine Go.iload_4 d_Law_taught_23 rfl ?_
    refine Go.bipush (v := 20) d_Law_taught_25 rfl (by decide) ?_
    refine Go.icmp_ge (t := 76) d_Law_taught_27 (by decide) rfl (fun _ => ?_) (fun w => absurd (nI_le (Nat.le_refl 20) (by decide)) w)
    exact kx
  | succ n ih =>
    intro i hi
    refine Go.iload_4 d_Law_taught_23 rfl ?_
    refine Go.bipush (v := 20) d_Law_taught_25 rfl (by decide) ?_
    refine Go.icmp_ge (t := 76) d_Law_taught_27 (by decide) rfl (fun w => absurd w (nI_ge (show i < 20 by omega) (by decide))) (fun _ => ?_)
    have hi20 : i < 20 := by omega
    have hE : Ext h (hup h a (aI Γ 5 (wf9 (fun i => tg8 l (k + i)) i))) := fun x e hx => (hup_ne (fun w => by rw [w, hfa] at hx; cases hx)).trans hx
    have hst : STR Γ (cw_ Γ sg (hup h a (aI Γ 5 (wf9 (fun i => tg8 l (k + i)) i))) c g g2 o o2 A K σ τ T F U G P) b l := (ht.ext hE).str (hc.ext hE)
    have hat : (cw_ Γ sg (hup h a (aI Γ 5 (wf9 (fun i => tg8 l (k + i)) i))) c g g2 o o2 A K σ τ T F U G P) a = some (aI Γ 5 (wf9 (fun i => tg8 l (k + i)) i)) := (cw_rd hc.2.1 hc.2.2.1 (Or.inr ha)).trans hup_at
    have main : ∀ x, x = nI (tg8 l (k + i)) → Go Γ M_Law_taught 74 C S 68 [some (.ref c), some (.ref b), some (.int (nI k)), some (.ref a), some (.int (nI i))] [.int x, .int (wf9 (fun i => tg8 l (k + i)) i (i / 4) <<< (8 &&& 31)), .int (nI (i / 4)), .ref a] (cw_ Γ sg (hup h a (aI Γ 5 (wf9 (fun i => tg8 l (k + i)) i))) c g g2 o o2 A K σ τ T F U G P) z Q X := by
      intro x hx
      refine Go.ior d_Law_taught_68 rfl ?_
      refine Go.ias9 d_Law_taught_69 rfl hat (j := i / 4) rfl (by omega) (by decide) ?_
      refine Go.heq ((cw_hup9 hc.2.1 hc.2.2.1 (Or.inr ha)).trans (congrArg (fun H => (cw_ Γ sg H c g g2 o o2 A K σ τ T F U G P)) hup_hup)) ?_
      rw [hx]
      refine Go.iinc_4 d_Law_taught_70 rfl (by rfl) (show nI i + Int32.ofInt 1 = nI (i + 1) from nI_ad i 1) ?_
      refine Go.goto (t := 23) d_Law_taught_73 (by decide) ?_
      exact ih (i + 1) (by omega)
    refine Go.aload_3 d_Law_taught_30 rfl ?_
    refine Go.iload_4 d_Law_taught_31 rfl ?_
    refine Go.iconst (v := 4) d_Law_taught_33 rfl (by decide) ?_
    refine Go.idiv d_Law_taught_34 rfl (by decide) ?_
    rw [div4 i hi20]
    refine Go.aload_3 d_Law_taught_35 rfl ?_
    refine Go.iload_4 d_Law_taught_36 rfl ?_
    refine Go.iconst (v := 4) d_Law_taught_38 rfl (by decide) ?_
    refine Go.idiv d_Law_taught_39 rfl (by decide) ?_
    rw [div4 i hi20]
    refine Go.ial9 d_Law_taught_40 rfl hat (j := i / 4) rfl (by omega) (by decide) ?_
    refine Go.bipush (v := 8) d_Law_taught_41 rfl (by decide) ?_
    refine Go.ishl d_Law_taught_43 rfl ?_
    refine Go.iload_2 d_Law_taught_44 rfl ?_
    refine Go.iload_4 d_Law_taught_45 rfl ?_
    refine Go.iadd d_Law_taught_47 rfl ?_
    rw [show ((nI k) + (nI i)) = nI (k + i) from nI_ad k i]
    refine Go.aload_1 d_Law_taught_48 rfl ?_
    refine Go.callStr (as := []) rfl d_Law_taught_49 rfl l_Law_15 k_String_length_v rfl hst rfl (c2_length hcs hst) rfl rfl rfl ?_
    by_cases hki : k + i < l.length
    · refine Go.icmp_ge (t := 66) d_Law_taught_52 (by decide) rfl (fun w => absurd w (nI_ge hki (by omega))) (fun _ => ?_)
      refine Go.aload_1 d_Law_taught_55 rfl ?_
      refine Go.iload_2 d_Law_taught_56 rfl ?_
      refine Go.iload_4 d_Law_taught_57 rfl ?_
      refine Go.iadd d_Law_taught_59 rfl ?_
      rw [show ((nI k) + (nI i)) = nI (k + i) from nI_ad k i]
      refine Go.callStr (as := [.int (nI (k + i))]) rfl d_Law_taught_60 rfl l_Law_21 k_String_charAt_v rfl hst rfl (c2_charAt hcs hst hki (by omega)) rfl rfl rfl ?_
      refine Go.goto (t := 68) d_Law_taught_63 (by decide) ?_
      exact main _ (tg_in hl hki).1
    · refine Go.icmp_ge (t := 66) d_Law_taught_52 (by decide) rfl (fun _ => ?_) (fun w => absurd (nI_le (show l.length ≤ k + i by omega) (by omega)) w)
      refine Go.bipush (v := 32) d_Law_taught_66 rfl (by decide) ?_
      exact main _ (congrArg nI (tg_out hki)).symm
theorem d_Law_taught_8 : decode M_Law_taught.2.1 8 = .ok (.iload_n 2, 1) := by decide +kernel
theorem d_Law_taught_9 : decode M_Law_taught.2.1 9 = .ok (.aload_n 1, 1) := by decide +kernel
theorem d_Law_taught_10 : decode M_Law_taught.2.1 10 = .ok (.invokevirtual 15, 3) := by decide +kernel
theorem d_Law_taught_13 : decode M_Law_taught.2.1 13 = .ok (.if_icmp .ge 89, 3) := by decide +kernel
theorem d_Law_taught_16 : decode M_Law_taught.2.1 16 = .ok (.iconst 5, 1) := by decide +kernel
theorem d_Law_taught_17 : decode M_Law_taught.2.1 17 = .ok (.newarray .int, 2) := by decide +kernel
theorem d_Law_taught_19 : decode M_Law_taught.2.1 19 = .ok (.astore_n 3, 1) := by decide +kernel
theorem d_Law_taught_20 : decode M_Law_taught.2.1 20 = .ok (.iconst 0, 1) := by decide +kernel
theorem d_Law_taught_21 : decode M_Law_taught.2.1 21 = .ok (.istore 4, 2) := by decide +kernel
theorem d_Law_taught_76 : decode M_Law_taught.2.1 76 = .ok (.aload_n 0, 1) := by decide +kernel
theorem d_Law_taught_77 : decode M_Law_taught.2.1 77 = .ok (.aload_n 3, 1) := by decide +kernel
theorem d_Law_taught_78 : decode M_Law_taught.2.1 78 = .ok (.iconst 0, 1) := by decide +kernel
theorem d_Law_taught_79 : decode M_Law_taught.2.1 79 = .ok (.iaload, 1) := by decide +kernel
theorem d_Law_taught_80 : decode M_Law_taught.2.1 80 = .ok (.aload_n 3, 1) := by decide +kernel
theorem d_Law_taught_81 : decode M_Law_taught.2.1 81 = .ok (.iconst 1, 1) := by decide +kernel
theorem d_Law_taught_82 : decode M_Law_taught.2.1 82 = .ok (.iaload, 1) := by decide +kernel
theorem d_Law_taught_83 : decode M_Law_taught.2.1 83 = .ok (.aload_n 3, 1) := by decide +kernel
theorem d_Law_taught_84 : decode M_Law_taught.2.1 84 = .ok (.iconst 2, 1) := by decide +kernel
theorem d_Law_taught_85 : decode M_Law_taught.2.1 85 = .ok (.iaload, 1) := by decide +kernel
theorem d_Law_taught_86 : decode M_Law_taught.2.1 86 = .ok (.aload_n 3, 1) := by decide +kernel
theorem d_Law_taught_87 : decode M_Law_taught.2.1 87 = .ok (.iconst 3, 1) := by decide +kernel
theorem d_Law_taught_88 : decode M_Law_taught.2.1 88 = .ok (.iaload, 1) := by decide +kernel
theorem d_Law_taught_89 : decode M_Law_taught.2.1 89 = .ok (.aload_n 3, 1) := by decide +kernel
theorem d_Law_taught_90 : decode M_Law_taught.2.1 90 = .ok (.iconst 4, 1) := by decide +kernel
theorem d_Law_taught_91 : decode M_Law_taught.2.1 91 = .ok (.iaload, 1) := by decide +kernel
theorem d_Law_taught_92 : decode M_Law_taught.2.1 92 = .ok (.invokevirtual 25, 3) := by decide +kernel
theorem d_Law_taught_95 : decode M_Law_taught.2.1 95 = .ok (.pop, 1) := by decide +kernel
theorem d_Law_taught_96 : decode M_Law_taught.2.1 96 = .ok (.iinc 2 20, 3) := by decide +kernel
theorem d_Law_taught_99 : decode M_Law_taught.2.1 99 = .ok (.goto (-91), 3) := by decide +kernel
set_option maxRecDepth 100000 in
set_option maxHeartbeats 4000000 in
theorem tau_8 (hc : CH Γ sg sw h c g g2 o o2 σ τ T U) (hms : MsOk Γ ms) (hth : ThOk Γ) (hcs : CsOk Γ) (ht : TXL Γ h c b l) (hl : LB l) (hn : l.length ≤ 1200) {C0 S0 : Nat} (kx : ∀ (A : TA) (z C S : Nat), c + 45 ≤ z → C0 ≤ C → S0 ≤ S → l.length ≤ ta_sz A → ta_sz A ≤ 2000 → (∀ j, j < l.length → ta_by A j = l.getD j 0) → Go Γ M_Law_taught 74 C S 102 [some (.ref c), some (.ref b), none, none, none] [] (cw_ Γ sg h c g g2 o o2 A K σ τ T F U G P) z Q X) : ∀ (n k : Nat) (A : TA) (z C S : Nat), l.length ≤ k + 20 * n → k ≤ l.length + 20 → ta_sz A = k → (∀ j, j < k → ta_by A j = (Int8.ofNat (tg8 l j)).toInt32) → c + 45 ≤ z → C0 + 5 * n ≤ C → S0 + 29 * n ≤ S → Go Γ M_Law_taught 74 C S 8 [some (.ref c), some (.ref b), some (.int (nI k)), none, none] [] (cw_ Γ sg h c g g2 o o2 A K σ τ T F U G P) z Q X := by
  intro n
  induction n with
  | zero =>
    intro k A z C S hlk hk2 hA hby hz hC hS
    have hst : STR Γ (cw_ Γ sg h c g g2 o o2 A K σ τ T F U G P) b l := ht.str hc
    refine Go.iload_2 d_Law_taught_8 rfl ?_
    refine Go.aload_1 d_Law_taught_9 rfl ?_
    refine Go.callStr (as := []) rfl d_Law_taught_10 rfl l_Law_15 k_String_length_v rfl hst rfl (c2_length hcs hst) rfl rfl rfl ?_
    refine Go.icmp_ge (t := 102) d_Law_taught_13 (by decide) rfl (fun _ => ?_) (fun w => absurd (nI_le (show l.length ≤ k by omega) (by omega)) w)
    refine Go.fgt [some (.ref c), some (.ref b), none, none, none] (by repeat' (first | exact trivial | refine ⟨rfl, ?_⟩)) ?_
    exact kx A z C S hz (by omega) (by omega) (by omega) (by omega) (fun j hj => (hby j (by omega)).trans (tg_in hl hj).2.2)
  | succ n ih =>
    intro k A z C S hlk hk2 hA hby hz hC hS
    by_cases hk : l.length ≤ k
    · have hst : STR Γ (cw_ Γ sg h c g g2 o o2 A K σ τ T F U G P) b l := ht.str hc
      refine Go.iload_2 d_Law_taught_8 rfl ?_
      refine Go.aload_1 d_Law_taught_9 rfl ?_
      refine Go.callStr (as := []) rfl d_Law_taught_10 rfl l_Law_15 k_String_length_v rfl hst rfl (c2_length hcs hst) rfl rfl rfl ?_
      refine Go.icmp_ge (t := 102) d_Law_taught_13 (by decide) rfl (fun _ => ?_) (fun w => absurd (nI_le (show l.length ≤ k by omega) (by omega)) w)
      refine Go.fgt [some (.ref c), some (.ref b), none, none, none] (by repeat' (first | exact trivial | refine ⟨rfl, ?_⟩)) ?_
      exact kx A z C S hz (by omega) (by omega) (by omega) (by omega) (fun j hj => (hby j (by omega)).trans (tg_in hl hj).2.2)
    · have hst : STR Γ (cw_ Γ sg h c g g2 o o2 A K σ τ T F U G P) b l := ht.str hc
      refine Go.iload_2 d_Law_taught_8 rfl ?_
      refine Go.aload_1 d_Law_taught_9 rfl ?_
      refine Go.callStr (as := []) rfl d_Law_taught_10 rfl l_Law_15 k_String_length_v rfl hst rfl (c2_length hcs hst) rfl rfl rfl ?_
      refine Go.icmp_ge (t := 102) d_Law_taught_13 (by decide) rfl (fun w => absurd w (nI_ge (show k < l.length by omega) (by omega))) (fun _ => ?_)
      refine Go.low (fun hlow => ?_)
      have hfz : h z = none := (cw_rd hc.2.1 hc.2.2.1 (Or.inr hz)).symm.trans (hlow z (Nat.le_refl _))
      refine Go.iconst (v := 5) d_Law_taught_16 rfl (by decide) ?_
      refine Go.newI (C1 := C - 1) (S1 := S - 5) (N := 5) d_Law_taught_17 rfl rfl (by decide) (by omega) (by omega) ?_
      refine Go.heq (cw_hup9 hc.2.1 hc.2.2.1 (Or.inr hz)) ?_
      refine Go.astore_3 d_Law_taught_19 rfl (by rfl) ?_
      refine Go.iconst (v := 0) d_Law_taught_20 rfl (by decide) ?_
      refine Go.istore_4 d_Law_taught_21 rfl (by rfl) ?_
      refine Go.fgt [some (.ref c), some (.ref b), some (.int (nI k)), some (.ref z), some (.int (nI 0))] (by repeat' (first | exact trivial | refine ⟨rfl, ?_⟩)) ?_
      refine tau_23 hc hcs ht hl hn (by omega) hz hfz ?_ 20 0 rfl
      have hE : Ext h (hup h z (aI Γ 5 (wf9 (fun i => tg8 l (k + i)) 20))) := fun x e hx => (hup_ne (fun w => by rw [w, hfz] at hx; cases hx)).trans hx
      have hat : (cw_ Γ sg (hup h z (aI Γ 5 (wf9 (fun i => tg8 l (k + i)) 20))) c g g2 o o2 A K σ τ T F U G P) z = some (aI Γ 5 (wf9 (fun i => tg8 l (k + i)) 20)) := (cw_rd hc.2.1 hc.2.2.1 (Or.inr hz)).trans hup_at
      refine Go.aload_0 d_Law_taught_76 rfl ?_
      refine Go.aload_3 d_Law_taught_77 rfl ?_
      refine Go.iconst (v := 0) d_Law_taught_78 rfl (by decide) ?_
      refine Go.ial9 d_Law_taught_79 rfl hat (j := 0) rfl (by decide) (by decide) ?_
      refine Go.aload_3 d_Law_taught_80 rfl ?_
      refine Go.iconst (v := 1) d_Law_taught_81 rfl (by decide) ?_
      refine Go.ial9 d_Law_taught_82 rfl hat (j := 1) rfl (by decide) (by decide) ?_
      refine Go.aload_3 d_Law_taught_83 rfl ?_
      refine Go.iconst (v := 2) d_Law_taught_84 rfl (by decide) ?_
      refine Go.ial9 d_Law_taught_85 rfl hat (j := 2) rfl (by decide) (by decide) ?_
      refine Go.aload_3 d_Law_taught_86 rfl ?_
      refine Go.iconst (v := 3) d_Law_taught_87 rfl (by decide) ?_
      refine Go.ial9 d_Law_taught_88 rfl hat (j := 3) rfl (by decide) (by decide) ?_
      refine Go.aload_3 d_Law_taught_89 rfl ?_
      refine Go.iconst (v := 4) d_Law_taught_90 rfl (by decide) ?_
      refine Go.ial9 d_Law_taught_91 rfl hat (j := 4) rfl (by decide) (by decide) ?_
      obtain ⟨f, hcf, p1, p2⟩ := w_feed (z := z + 1) (A := A) (K := K) (F := F) (G := G) (P := P) (hc.ext hE) hms hth (show ta_sz A + 20 ≤ 2000 by omega) (wf9 (fun i => tg8 l (k + i)) 20)
      refine Go.cvT (C1 := C - 5) (S1 := S - 29) (as := [.int ((wf9 (fun i => tg8 l (k + i)) 20) 0), .int ((wf9 (fun i => tg8 l (k + i)) 20) 1), .int ((wf9 (fun i => tg8 l (k + i)) 20) 2), .int ((wf9 (fun i => tg8 l (k + i)) 20) 3), .int ((wf9 (fun i => tg8 l (k + i)) 20) 4)]) (rest := []) d_Law_taught_92 rfl l_Law_25 k_Camp_feed_v rfl ((hc.ext hE).cam (by omega)) rfl rfl hcf rfl rfl (by omega) (by omega) rfl ?_
      refine Go.pop d_Law_taught_95 rfl rfl ?_
      refine Go.iinc_2 d_Law_taught_96 rfl (by rfl) (show nI k + Int32.ofInt 20 = nI (k + 20) from nI_ad k 20) ?_
      refine Go.goto (t := 8) d_Law_taught_99 (by decide) ?_
      refine Go.fgt [some (.ref c), some (.ref b), some (.int (nI (k + 20))), none, none] (by repeat' (first | exact trivial | refine ⟨rfl, ?_⟩)) ?_
      refine Go.less (cw_ex hE) ?_
      refine ih (k + 20) (f, ta_sz A + 20) (z + 1) _ _ (by omega) (by omega) (by show ta_sz A + 20 = k + 20; omega) (fun j hj => ?_) (by omega) (by omega) (by omega)
      by_cases hjk : j < k
      · exact (p2 j (by omega)).trans (hby j hjk)
      · obtain ⟨i, rfl⟩ : ∃ i, j = k + i := ⟨j - k, by omega⟩
        have hp := p1 i (by omega)
        rw [hA] at hp
        exact hp.trans (wf_b (fun i => tg8 l (k + i)) (fun i => tg_lt hl (k + i)) i (by omega))
theorem d_Law_taught_0 : decode M_Law_taught.2.1 0 = .ok (.aload_n 0, 1) := by decide +kernel
theorem d_Law_taught_1 : decode M_Law_taught.2.1 1 = .ok (.iconst 0, 1) := by decide +kernel
theorem d_Law_taught_2 : decode M_Law_taught.2.1 2 = .ok (.invokevirtual 9, 3) := by decide +kernel
theorem d_Law_taught_5 : decode M_Law_taught.2.1 5 = .ok (.pop, 1) := by decide +kernel
theorem d_Law_taught_6 : decode M_Law_taught.2.1 6 = .ok (.iconst 0, 1) := by decide +kernel
theorem d_Law_taught_7 : decode M_Law_taught.2.1 7 = .ok (.istore_n 2, 1) := by decide +kernel
theorem d_Law_taught_102 : decode M_Law_taught.2.1 102 = .ok (.aload_n 0, 1) := by decide +kernel
theorem d_Law_taught_103 : decode M_Law_taught.2.1 103 = .ok (.aload_n 1, 1) := by decide +kernel
theorem d_Law_taught_104 : decode M_Law_taught.2.1 104 = .ok (.invokevirtual 15, 3) := by decide +kernel
theorem d_Law_taught_107 : decode M_Law_taught.2.1 107 = .ok (.invokevirtual 9, 3) := by decide +kernel
theorem d_Law_taught_110 : decode M_Law_taught.2.1 110 = .ok (.pop, 1) := by decide +kernel
theorem d_Law_taught_111 : decode M_Law_taught.2.1 111 = .ok (.aload_n 0, 1) := by decide +kernel
theorem d_Law_taught_112 : decode M_Law_taught.2.1 112 = .ok (.invokevirtual 29, 3) := by decide +kernel
theorem d_Law_taught_115 : decode M_Law_taught.2.1 115 = .ok (.ireturn, 1) := by decide +kernel
set_option maxRecDepth 100000 in
set_option maxHeartbeats 4000000 in
theorem c_taught {sa : Nat} {tx : Nat → Nat} {D : DL} {B : AD} (hc : CH Γ sg sw h c g g2 o o2 σ τ T U) (hms : MsOk Γ ms) (hth : ThOk Γ) (hcs : CsOk Γ) (htx : TxOk Γ sg tx) (hsa : SaOk Γ sg sa) (hao : AoOk Γ) (hA : ta_sz A ≤ 2000) (ht : TXL Γ h c b l) (hl : LB l) (hz : c + 45 ≤ z) (hD : DOk D) (hcn : cn B = dCN D) (el : l = dTx D) (hd0 : s_Glacier_day σ = 0) : Call Γ M_Law_taught 74 400 2400 [.ref c, .ref b] (cw_ Γ sg h c g g2 o o2 A K σ τ T F U G P) z (fun v h2 _ => v = some (.int 0) ∧ ∃ (a9 : TA) (K9 : TK) (σ9 : GL) (T9 : TM) (F9 : FM) (P9 : CP), ta_sz a9 = 0 ∧ PM B σ9 (Y0 D) ∧ OR B (Y0 D) T9 F9 ∧ Ext (cw_ Γ sg h c g2 g o2 o a9 K9 σ9 σ T9 F9 T F P9) h2) noX := by
  have hn : l.length ≤ 1200 := by
    rw [el]
    exact dTx_len hD
  refine Call.of_go (L := [some (.ref c), some (.ref b), none, none, none]) (by decide +kernel) rfl (by exact Nat.le_of_ble_eq_true rfl) ?_
  refine Go.aload_0 d_Law_taught_0 rfl ?_
  refine Go.iconst (v := 0) d_Law_taught_1 rfl (by decide) ?_
  refine Go.cvT (C1 := 396) (S1 := 2376) (as := [.int (nI 0)]) (rest := []) d_Law_taught_2 rfl l_Law_9 k_Camp_trim_v rfl (hc.cam hA) rfl rfl (w_trim hc hms hth hA (Nat.zero_le _)) rfl rfl (by decide) (by decide) rfl ?_
  refine Go.pop d_Law_taught_5 rfl rfl ?_
  refine Go.iconst (v := 0) d_Law_taught_6 rfl (by decide) ?_
  refine Go.istore_2 d_Law_taught_7 rfl (by rfl) ?_
  refine Go.fgt [some (.ref c), some (.ref b), some (.int (nI 0)), none, none] (by repeat' (first | exact trivial | refine ⟨rfl, ?_⟩)) ?_
  refine tau_8 hc hms hth hcs ht hl hn (C0 := 90) (S0 := 600) (fun A z C S hz hC hS hAl hA hby => ?_) 60 0 (A.1, 0) z _ _ (by omega) (by omega) rfl (fun j w => absurd w (by omega)) hz (by decide) (by decide)
  have hst : STR Γ (cw_ Γ sg h c g g2 o o2 A K σ τ T F U G P) b l := ht.str hc
  refine Go.aload_0 d_Law_taught_102 rfl ?_
  refine Go.aload_1 d_Law_taught_103 rfl ?_
  refine Go.callStr (as := []) rfl d_Law_taught_104 rfl l_Law_15 k_String_length_v rfl hst rfl (c2_length hcs hst) rfl rfl rfl ?_
  refine Go.cvT (C1 := C - 4) (S1 := S - 24) (as := [.int (nI l.length)]) (rest := []) d_Law_taught_107 rfl l_Law_9 k_Camp_trim_v rfl (hc.cam hA) rfl rfl (w_trim hc hms hth hA hAl) rfl rfl (by omega) (by omega) rfl ?_
  refine Go.pop d_Law_taught_110 rfl rfl ?_
  refine Go.aload_0 d_Law_taught_111 rfl ?_
  refine Go.low (fun hlow => ?_)
  have hno : ∀ x, z ≤ x → h x = none := fun x hx => (cw_rd hc.2.1 hc.2.2.1 (Or.inr (by omega))).symm.trans (hlow x hx)
  have hsf : Sfx (A.1, l.length) 0 (dTx D) := by
    rw [← el]
    exact ⟨Nat.zero_add _, by show l.length ≤ 2000; omega, fun j hj => by rw [Nat.zero_add]; exact hby j hj⟩
  obtain ⟨K9, F9, T9, σ9, M0, M1, M2, M3, M4, e1, e2, e3, e4⟩ := taught_ok (K := K) (τ := τ) (U := U) (G := G) hD hcn hsf
  obtain ⟨fs, hcam⟩ := hc.cam (A := (A.1, l.length)) (K := K) (F := F) (G := G) (P := P) (by show l.length ≤ 2000; omega)
  have hc' := hc
  obtain ⟨⟨hs, hsn, hw⟩, geo, bd, ho, ho2, hT, hU, hW, hV⟩ := hc'
  refine Go.callV (C1 := C - 4 - 11) (S1 := S - 24 - 51) (as := []) d_Law_taught_112 rfl l_Law_29 k_Camp_teach_v rfl hcam rfl rfl (c_Camp_teach hs hsn hw (by omega) (by show l.length ≤ 2000; omega) ho ho2 hT hU hW hV hcs htx hsa hao) (by decide) (by decide) (by omega) (by omega) (by decide) (fun _ _ _ w _ => w.elim) (fun v9 h9 z9 w9 hz9 => ?_)
  obtain ⟨-, w9, -⟩ := w9
  rw [hd0, e1] at w9
  obtain ⟨rfl, h3, w3, rfl⟩ := w9 e2
  rw [show s_Teacher_error (K9, F9, (0, -1), M0, M1, M2, M3, M4, T9, σ9).1 (K9, F9, (0, -1), M0, M1, M2, M3, M4, T9, σ9).2.2.1 = 0 from e2]
  refine Go.iret d_Law_taught_115 rfl rfl ⟨rfl, (A.1, 0), K9, σ9, T9, F9, _, rfl, e3, e4, cw_ex (fun x e hx => ?_)⟩
  by_cases hxz : x < z
  · exact (w3 x hxz).trans hx
  · exact absurd ((hno x (by omega)).symm.trans hx) (by intro w; cases w)
end Te
