/-! the orders of a list, as the class reads them -/
theorem ord_new {T : TM} {F : FM} {K : TK} {E : TE} {x : Int32} {L : List (Nat → Int32)} (h : RWt T L) (hl : L.length < 20) : ∃ T1, s_Teacher_newOrder T F K E x = (T1, E) ∧ RWt T1 (L ++ [upd (fun _ => 0) 0 x]) := by
  obtain ⟨a1, a2⟩ := h.add (cap := 20) hl
  unfold s_Teacher_newOrder s_Orders_add
  rw [a2, if_neg (nI_pos (show L.length < 2 ^ 31 by omega))]
  dsimp only
  rw [if_neg (by decide)]
  exact ⟨_, rfl, a1.set (by omega) (by decide)⟩
theorem ord_note {T : TM} {F : FM} {c : Nat} {v : Int32} {L : List (Nat → Int32)} {g : Nat → Int32} (h : RWt T (L ++ [g])) (hl : L.length < 20) (hc : c < 8) : RWt (s_Orders_note T F c v) (L ++ [upd g c v]) := by
  unfold s_Orders_note
  rw [h.1, List.length_append, List.length_singleton, nI_pred]
  exact h.set (by omega) hc
/-- a row of the orders' table tells this order; its signs lie below n -/
def OG (n : Nat) (g : Nat → Int32) (F : FM) (a : RO) : Prop := g 0 = nI (oF a 0) ∧ (oF a 0 ≠ 2 → oF a 0 ≠ 4 → g 1 = nI (oF a 1)) ∧ (oF a 0 = 2 → g 1 = nI (oF a 2) ∧ g 2 = nI (oF a 1)) ∧ (oF a 0 = 4 → g 2 = nI (oF a 1)) ∧
  (oF a 0 = 3 → ∃ s, g 3 = nI s ∧ g 4 = nI (s + (codeS (oF a)).length) ∧ s + (codeS (oF a)).length ≤ n ∧ FHas F s (codeS (oF a))) ∧
  (a.2 = -1 → g 6 ≤ g 5) ∧ (¬ a.2 = -1 → ∃ s, g 5 = nI s ∧ g 6 = nI (s + (codeW (oF a) a.2).length) ∧ s + (codeW (oF a) a.2).length ≤ n ∧ FHas F s (codeW (oF a) a.2))
theorem FHas.fa {n s : Nat} {F F2 : FM} {c d : CD9} (h : FHas F s d) (hn : s + d.length ≤ n) (hf : FA n F F2 c) : FHas F2 s d := fun j p hj => by
  have hl : j < d.length := (List.getElem?_eq_some_iff.mp hj).1
  obtain ⟨e1, e2⟩ := hf.2.1 (s + j) (by omega)
  obtain ⟨e3, e4⟩ := h j p hj
  exact ⟨e1.trans e3, e2.trans e4⟩
theorem OG.fa {n : Nat} {g : Nat → Int32} {F F2 : FM} {a : RO} {c : CD9} (h : OG n g F a) (hf : FA n F F2 c) : OG (n + c.length) g F2 a := by
  obtain ⟨h0, h1, h2, h3, h4, h5, h6⟩ := h
  refine ⟨h0, h1, h2, h3, fun w => ?_, h5, fun w => ?_⟩
  · obtain ⟨s, e1, e2, e3, e4⟩ := h4 w
    exact ⟨s, e1, e2, by omega, e4.fa e3 hf⟩
  · obtain ⟨s, e1, e2, e3, e4⟩ := h6 w
    exact ⟨s, e1, e2, by omega, e4.fa e3 hf⟩
theorem OG.oc {n r : Nat} {g : Nat → Int32} {T : TM} {F : FM} {a : RO} (h : OG n g F a) (hn : n ≤ 800) (hT : ∀ c, c < 8 → T.1 (8 * r + c) = g c) : OC T F r a := by
  obtain ⟨h0, h1, h2, h3, h4, h5, h6⟩ := h
  unfold OC
  rw [hT 0 (by decide), hT 1 (by decide), hT 2 (by decide), hT 3 (by decide), hT 4 (by decide), hT 5 (by decide), hT 6 (by decide)]
  refine ⟨h0, h1, h2, h3, fun w => ?_, h5, fun w => ?_⟩
  · obtain ⟨s, e1, e2, e3, e4⟩ := h4 w
    exact ⟨s, e1, e2, by omega, e4⟩
  · obtain ⟨s, e1, e2, e3, e4⟩ := h6 w
    exact ⟨s, e1, e2, by omega, e4⟩
theorem codeS_le (o : Nat → Nat) : (codeS o).length ≤ 5 := by
  unfold codeS
  (repeat' split) <;> exact Nat.le_of_ble_eq_true rfl
theorem codeW_le (o : Nat → Nat) (x : Int32) : (codeW o x).length ≤ 12 := by
  unfold codeW
  (repeat' split) <;> exact Nat.le_of_ble_eq_true rfl
/-- where the names of an order are found -/
def NF (N0 N1 N2 N3 N4 : NM) (o : Nat → Nat) : Prop := (s_Names_find N1 (nmv 115 (o 7)) = nI (o 7) ∧ s_Names_find N2 (nmv 99 (o 8)) = nI (o 8) ∧ s_Names_find N4 (nmv 116 (o 9)) = nI (o 9) ∧ s_Names_find N3 (nmv 100 (o 10)) = nI (o 10) ∧ s_Names_find N0 (nmv 98 (o 11)) = nI (o 11)) ∧ o 7 < 10 ∧ o 8 < 10 ∧ o 9 < 10 ∧ o 10 < 10 ∧ o 11 < 10
section Lo
variable {N0 N1 N2 N3 N4 : NM} {k i j n : Nat} {K : TK} {F : FM} {T : TM} {σ : GL} {p : TKN} {t : List TKN} {E : TE} {o : Nat → Nat} {v : Int32} {L : List (Nat → Int32)} {g : Nat → Int32}
theorem app_cons (r : List TKN) (q : TKN) (t : List TKN) : ∃ p2 t2, r ++ q :: t = p2 :: t2 := by
  cases r with
  | nil => exact ⟨_, _, rfl⟩
  | cons a r => exact ⟨_, _, rfl⟩
theorem ln_when (hK : KR (kWhen o v ++ (39, 0) :: p :: t) K) (hN : NF N0 N1 N2 N3 N4 o) (h6 : o 6 < 9) (hv : o5Ok v) (hv1 : ¬ v = -1) (hF : fm_sz F = nI n) (hn : n + 12 ≤ 800) (hT : RWt T (L ++ [g])) (hl : L.length < 20) : ∃ K2 F2 T2, s_Teacher_readWhen K F E N0 N1 N2 N3 N4 T σ = (K2, F2, E, T2) ∧ KR ((39, 0) :: p :: t) K2 ∧ FA n F F2 (codeW o v) ∧ RWt T2 (L ++ [upd (upd g 5 (nI n)) 6 (nI (n + (codeW o v).length))]) := by
  obtain ⟨⟨f7, f8, f9, f10, f11⟩, b7, b8, b9, b10, b11⟩ := hN
  have hc := codeW_le o v
  obtain ⟨r, e1, e2⟩ := rd_when (k := 55) (x := 0) (s := 39) (w := 0) (t := p :: t) f7 f8 f9 f10 f11 b7 b8 b9 b10 b11 (by omega) (by omega) (by omega) hv hv1 (by decide) (by decide) (by decide) (by decide)
  obtain ⟨p2, t2, e3⟩ := app_cons r (39, 0) (p :: t)
  rw [e1, List.cons_append, e3] at hK
  rw [e3] at e2
  obtain ⟨K2, F2, g1, g2, g3⟩ := e2 (s_Tokens_expect K 22) F E n (hK.exp rfl) hF (by omega)
  have g1 : rd_ N0 N1 N2 N3 N4 64 0 0 0 (s_Tokens_expect K 22, F, E) = (K2, F2, E) := g1
  unfold s_Teacher_readWhen s_Formulas_size
  rw [g1]
  dsimp only
  rw [hF, g3.sz]
  exact ⟨K2, F2, _, rfl, g2, g3, ord_note (ord_note hT hl (by decide)) hl (by decide)⟩
theorem RL9.b (hK : KR (p :: t) K) : s_Tokens_brokenAt K = -1 := hK.sn.2.2
set_option maxRecDepth 100000 in
set_option maxHeartbeats 2000000 in
theorem ln_Ord0 {nb ns nc nd nt : Nat} {a : RO} (hN1 : NK 115 ns N1) (hN2 : NK 99 nc N2) (hN4 : NK 116 nt N4) (hN : NF N0 N1 N2 N3 N4 (oF a)) (hm : ns ≤ 6 ∧ nc ≤ 6 ∧ nt ≤ 6) (ha : okOrd nb ns nc nd nt a) (e : oF a 0 = 0) (hK : KR (kOrd j a ++ p :: t) K) (hF : fm_sz F = nI n) (hn : n + 20 ≤ 800) (hT : RWt T L) (hl : L.length < 20) : ∃ K9 F9 T9 g c, KR (p :: t) K9 ∧ RWt T9 (L ++ [g]) ∧ FA n F F9 c ∧ c.length ≤ 20 ∧ OG (n + c.length) g F9 a ∧ RL9 (k + 1) i K F N0 N1 N2 N3 N4 T σ = RL9 k (i + 1) K9 F9 N0 N1 N2 N3 N4 T9 σ := by
  obtain ⟨hob, q0, q1, q2, q3, q4, q5, q6, q7, q8, q9, q10, q11, q12, q13, q14, q15⟩ := ha
  have hcw := codeW_le (oF a) a.2
  unfold kOrd kWd at hK
  rw [e] at hK
  simp only [List.append_assoc] at hK
  have hK : KR ((15, 0) :: (50, nmv 116 (oF a 1)) :: (kWhen (oF a) a.2 ++ (39, 0) :: p :: t)) K := hK
  have hv1 : ¬ a.2 = -1 := fun w => by
    have := q9 w
    omega
  have hs : s_Tokens_sign K = 15 := hK.sn.1
  have hb : s_Tokens_brokenAt K = -1 := hK.sn.2.2
  obtain ⟨p2, t2, e3⟩ := app_cons (kWhen (oF a) a.2) (39, 0) (p :: t)
  have hK2 := hK
  rw [e3] at hK2
  obtain ⟨K1, eO, k1⟩ := hK2.oldE (E := (0, -1)) (N := N4) (s := 15) (j := oF a 1) rfl (by omega) (hN4.find (by decide) (by omega) (q3 (by omega) (by omega)))
  rw [← e3] at k1
  obtain ⟨T1, eN, hT1⟩ := ord_new (F := F) (K := K) (E := (0, -1)) (x := 0) hT hl
  have hT2 := ord_note (F := F) (c := 1) (v := nI (oF a 1)) hT1 hl (by decide)
  have hR : s_Teacher_readGo K F (0, -1) N0 N1 N2 N3 N4 T σ 0 = (K1, (0, -1), s_Orders_note T1 F 1 (nI (oF a 1))) := by
    unfold s_Teacher_readGo
    rw [hs, eN]
    dsimp only
    rw [eO]
  obtain ⟨K9, F9, T9, hW, kk, hA9, hT9⟩ := ln_when (σ := σ) (E := (0, -1)) k1 hN q10 q8 hv1 hF (by omega) hT2 hl
  refine ⟨s_Tokens_expect K9 39, F9, T9, _, _, kk.exp rfl, hT9, hA9, by omega, ?_, ?_⟩
  · refine ⟨by rw [e]; rfl, fun _ _ => rfl, fun w => absurd (e.symm.trans w) (by decide), fun w => absurd (e.symm.trans w) (by decide), fun w => absurd (e.symm.trans w) (by decide), fun w => absurd w hv1, fun _ => ⟨n, rfl, rfl, Nat.le_refl _, hA9.2.2⟩⟩
  · show l_Teacher_readList_2 (k + 1) i K F (0, -1) N0 N1 N2 N3 N4 T σ = _
    rw [l_Teacher_readList_2, hs, hb, if_neg (by decide), if_neg (by decide), if_neg (by decide), if_neg (by decide), if_neg (by decide), if_neg (by decide), if_neg (by decide), if_neg (by decide), if_pos (by decide), hR]
    dsimp only
    rw [hW]
set_option maxRecDepth 100000 in
set_option maxHeartbeats 2000000 in
theorem ln_Ord1 {nb ns nc nd nt : Nat} {a : RO} (hN1 : NK 115 ns N1) (hN2 : NK 99 nc N2) (hN4 : NK 116 nt N4) (hN : NF N0 N1 N2 N3 N4 (oF a)) (hm : ns ≤ 6 ∧ nc ≤ 6 ∧ nt ≤ 6) (ha : okOrd nb ns nc nd nt a) (e : oF a 0 = 1) (hK : KR (kOrd j a ++ p :: t) K) (hF : fm_sz F = nI n) (hn : n + 20 ≤ 800) (hT : RWt T L) (hl : L.length < 20) : ∃ K9 F9 T9 g c, KR (p :: t) K9 ∧ RWt T9 (L ++ [g]) ∧ FA n F F9 c ∧ c.length ≤ 20 ∧ OG (n + c.length) g F9 a ∧ RL9 (k + 1) i K F N0 N1 N2 N3 N4 T σ = RL9 k (i + 1) K9 F9 N0 N1 N2 N3 N4 T9 σ := by
  obtain ⟨hob, q0, q1, q2, q3, q4, q5, q6, q7, q8, q9, q10, q11, q12, q13, q14, q15⟩ := ha
  have hcw := codeW_le (oF a) a.2
  unfold kOrd kWd at hK
  rw [e] at hK
  simp only [List.append_assoc] at hK
  have hK : KR ((16, 0) :: (50, nmv 116 (oF a 1)) :: (kWhen (oF a) a.2 ++ (39, 0) :: p :: t)) K := hK
  have hv1 : ¬ a.2 = -1 := fun w => by
    have := q9 w
    omega
  have hs : s_Tokens_sign K = 16 := hK.sn.1
  have hb : s_Tokens_brokenAt K = -1 := hK.sn.2.2
  obtain ⟨p2, t2, e3⟩ := app_cons (kWhen (oF a) a.2) (39, 0) (p :: t)
  have hK2 := hK
  rw [e3] at hK2
  obtain ⟨K1, eO, k1⟩ := hK2.oldE (E := (0, -1)) (N := N4) (s := 16) (j := oF a 1) rfl (by omega) (hN4.find (by decide) (by omega) (q3 (by omega) (by omega)))
  rw [← e3] at k1
  obtain ⟨T1, eN, hT1⟩ := ord_new (F := F) (K := K) (E := (0, -1)) (x := 1) hT hl
  have hT2 := ord_note (F := F) (c := 1) (v := nI (oF a 1)) hT1 hl (by decide)
  have hR : s_Teacher_readGo K F (0, -1) N0 N1 N2 N3 N4 T σ 1 = (K1, (0, -1), s_Orders_note T1 F 1 (nI (oF a 1))) := by
    unfold s_Teacher_readGo
    rw [hs, eN]
    dsimp only
    rw [eO]
  obtain ⟨K9, F9, T9, hW, kk, hA9, hT9⟩ := ln_when (σ := σ) (E := (0, -1)) k1 hN q10 q8 hv1 hF (by omega) hT2 hl
  refine ⟨s_Tokens_expect K9 39, F9, T9, _, _, kk.exp rfl, hT9, hA9, by omega, ?_, ?_⟩
  · refine ⟨by rw [e]; rfl, fun _ _ => rfl, fun w => absurd (e.symm.trans w) (by decide), fun w => absurd (e.symm.trans w) (by decide), fun w => absurd (e.symm.trans w) (by decide), fun w => absurd w hv1, fun _ => ⟨n, rfl, rfl, Nat.le_refl _, hA9.2.2⟩⟩
  · show l_Teacher_readList_2 (k + 1) i K F (0, -1) N0 N1 N2 N3 N4 T σ = _
    rw [l_Teacher_readList_2, hs, hb, if_neg (by decide), if_neg (by decide), if_neg (by decide), if_neg (by decide), if_neg (by decide), if_neg (by decide), if_neg (by decide), if_neg (by decide), if_neg (by decide), if_pos (by decide), hR]
    dsimp only
    rw [hW]
set_option maxRecDepth 100000 in
set_option maxHeartbeats 2000000 in
theorem ln_Ord2 {nb ns nc nd nt : Nat} {a : RO} (hN1 : NK 115 ns N1) (hN2 : NK 99 nc N2) (hN4 : NK 116 nt N4) (hN : NF N0 N1 N2 N3 N4 (oF a)) (hm : ns ≤ 6 ∧ nc ≤ 6 ∧ nt ≤ 6) (ha : okOrd nb ns nc nd nt a) (e : oF a 0 = 2) (hK : KR (kOrd j a ++ p :: t) K) (hF : fm_sz F = nI n) (hn : n + 20 ≤ 800) (hT : RWt T L) (hl : L.length < 20) : ∃ K9 F9 T9 g c, KR (p :: t) K9 ∧ RWt T9 (L ++ [g]) ∧ FA n F F9 c ∧ c.length ≤ 20 ∧ OG (n + c.length) g F9 a ∧ RL9 (k + 1) i K F N0 N1 N2 N3 N4 T σ = RL9 k (i + 1) K9 F9 N0 N1 N2 N3 N4 T9 σ := by
  obtain ⟨hob, q0, q1, q2, q3, q4, q5, q6, q7, q8, q9, q10, q11, q12, q13, q14, q15⟩ := ha
  have hcw := codeW_le (oF a) a.2
  unfold kOrd kWd at hK
  rw [e] at hK
  simp only [List.append_assoc] at hK
  have hK : KR ((17, 0) :: (50, nmv 99 (oF a 1)) :: (18, 0) :: (50, nmv 116 (oF a 2)) :: (kWhen (oF a) a.2 ++ (39, 0) :: p :: t)) K := hK
  have hv1 : ¬ a.2 = -1 := fun w => by
    have := q9 w
    omega
  have hs : s_Tokens_sign K = 17 := hK.sn.1
  have hb : s_Tokens_brokenAt K = -1 := hK.sn.2.2
  obtain ⟨p2, t2, e3⟩ := app_cons (kWhen (oF a) a.2) (39, 0) (p :: t)
  obtain ⟨K0, eO1, k0⟩ := hK.oldE (E := (0, -1)) (N := N2) (s := 17) (j := oF a 1) rfl (by omega) (hN2.find (by decide) (by omega) (q1 e))
  rw [e3] at k0
  obtain ⟨K1, eO2, k1⟩ := k0.oldE (E := (0, -1)) (N := N4) (s := 18) (j := oF a 2) rfl (by omega) (hN4.find (by decide) (by omega) q5)
  rw [← e3] at k1
  obtain ⟨T1, eN, hT1⟩ := ord_new (F := F) (K := K) (E := (0, -1)) (x := 2) hT hl
  have hT2 := ord_note (F := F) (c := 1) (v := nI (oF a 2)) (ord_note (F := F) (c := 2) (v := nI (oF a 1)) hT1 hl (by decide)) hl (by decide)
  have hR : s_Teacher_readProbe K F (0, -1) N0 N1 N2 N3 N4 T σ = (K1, (0, -1), s_Orders_note (s_Orders_note T1 F 2 (nI (oF a 1))) F 1 (nI (oF a 2))) := by
    unfold s_Teacher_readProbe
    rw [eN]
    dsimp only
    rw [eO1]
    dsimp only
    rw [eO2]
  obtain ⟨K9, F9, T9, hW, kk, hA9, hT9⟩ := ln_when (σ := σ) (E := (0, -1)) k1 hN q10 q8 hv1 hF (by omega) hT2 hl
  refine ⟨s_Tokens_expect K9 39, F9, T9, _, _, kk.exp rfl, hT9, hA9, by omega, ?_, ?_⟩
  · refine ⟨by rw [e]; rfl, fun w => absurd e w, fun _ => ⟨rfl, rfl⟩, fun w => absurd (e.symm.trans w) (by decide), fun w => absurd (e.symm.trans w) (by decide), fun w => absurd w hv1, fun _ => ⟨n, rfl, rfl, Nat.le_refl _, hA9.2.2⟩⟩
  · show l_Teacher_readList_2 (k + 1) i K F (0, -1) N0 N1 N2 N3 N4 T σ = _
    rw [l_Teacher_readList_2, hs, hb, if_neg (by decide), if_neg (by decide), if_neg (by decide), if_neg (by decide), if_neg (by decide), if_neg (by decide), if_neg (by decide), if_neg (by decide), if_neg (by decide), if_neg (by decide), if_pos (by decide), hR]
    dsimp only
    rw [hW]
set_option maxRecDepth 100000 in
set_option maxHeartbeats 2000000 in
theorem ln_Ord4 {nb ns nc nd nt : Nat} {a : RO} (hN1 : NK 115 ns N1) (hN2 : NK 99 nc N2) (hN4 : NK 116 nt N4) (hN : NF N0 N1 N2 N3 N4 (oF a)) (hm : ns ≤ 6 ∧ nc ≤ 6 ∧ nt ≤ 6) (ha : okOrd nb ns nc nd nt a) (e : oF a 0 = 4) (hK : KR (kOrd j a ++ p :: t) K) (hF : fm_sz F = nI n) (hn : n + 20 ≤ 800) (hT : RWt T L) (hl : L.length < 20) : ∃ K9 F9 T9 g c, KR (p :: t) K9 ∧ RWt T9 (L ++ [g]) ∧ FA n F F9 c ∧ c.length ≤ 20 ∧ OG (n + c.length) g F9 a ∧ RL9 (k + 1) i K F N0 N1 N2 N3 N4 T σ = RL9 k (i + 1) K9 F9 N0 N1 N2 N3 N4 T9 σ := by
  obtain ⟨hob, q0, q1, q2, q3, q4, q5, q6, q7, q8, q9, q10, q11, q12, q13, q14, q15⟩ := ha
  have hcw := codeW_le (oF a) a.2
  unfold kOrd kWd at hK
  rw [e] at hK
  simp only [List.append_assoc] at hK
  have hK : KR ((21, 0) :: (50, nmv 115 (oF a 1)) :: (kWhen (oF a) a.2 ++ (39, 0) :: p :: t)) K := hK
  have hv1 : ¬ a.2 = -1 := fun w => by
    have := q9 w
    omega
  have hs : s_Tokens_sign K = 21 := hK.sn.1
  have hb : s_Tokens_brokenAt K = -1 := hK.sn.2.2
  obtain ⟨p2, t2, e3⟩ := app_cons (kWhen (oF a) a.2) (39, 0) (p :: t)
  have hK2 := hK
  rw [e3] at hK2
  obtain ⟨K1, eO, k1⟩ := hK2.oldE (E := (0, -1)) (N := N1) (s := 21) (j := oF a 1) rfl (by omega) (hN1.find (by decide) (by omega) (q2 e))
  rw [← e3] at k1
  obtain ⟨T1, eN, hT1⟩ := ord_new (F := F) (K := K) (E := (0, -1)) (x := 4) hT hl
  have hT2 := ord_note (F := F) (c := 2) (v := nI (oF a 1)) hT1 hl (by decide)
  have hR : s_Teacher_readDrill K F (0, -1) N0 N1 N2 N3 N4 T σ = (K1, (0, -1), s_Orders_note T1 F 2 (nI (oF a 1))) := by
    unfold s_Teacher_readDrill
    rw [eN]
    dsimp only
    rw [eO]
  obtain ⟨K9, F9, T9, hW, kk, hA9, hT9⟩ := ln_when (σ := σ) (E := (0, -1)) k1 hN q10 q8 hv1 hF (by omega) hT2 hl
  refine ⟨s_Tokens_expect K9 39, F9, T9, _, _, kk.exp rfl, hT9, hA9, by omega, ?_, ?_⟩
  · refine ⟨by rw [e]; rfl, fun _ w => absurd e w, fun w => absurd (e.symm.trans w) (by decide), fun _ => rfl, fun w => absurd (e.symm.trans w) (by decide), fun w => absurd w hv1, fun _ => ⟨n, rfl, rfl, Nat.le_refl _, hA9.2.2⟩⟩
  · show l_Teacher_readList_2 (k + 1) i K F (0, -1) N0 N1 N2 N3 N4 T σ = _
    rw [l_Teacher_readList_2, hs, hb, if_neg (by decide), if_neg (by decide), if_neg (by decide), if_neg (by decide), if_neg (by decide), if_neg (by decide), if_neg (by decide), if_neg (by decide), if_neg (by decide), if_neg (by decide), if_neg (by decide), if_neg (by decide), if_pos (by decide), hR]
    dsimp only
    rw [hW]
set_option maxRecDepth 100000 in
set_option maxHeartbeats 2000000 in
theorem ln_Ord3 {nb ns nc nd nt : Nat} {a : RO} (hN1 : NK 115 ns N1) (hN2 : NK 99 nc N2) (hN4 : NK 116 nt N4) (hN : NF N0 N1 N2 N3 N4 (oF a)) (hm : ns ≤ 6 ∧ nc ≤ 6 ∧ nt ≤ 6) (ha : okOrd nb ns nc nd nt a) (e : oF a 0 = 3) (hK : KR (kOrd j a ++ p :: t) K) (hF : fm_sz F = nI n) (hn : n + 20 ≤ 800) (hT : RWt T L) (hl : L.length < 20) : ∃ K9 F9 T9 g c, KR (p :: t) K9 ∧ RWt T9 (L ++ [g]) ∧ FA n F F9 c ∧ c.length ≤ 20 ∧ OG (n + c.length) g F9 a ∧ RL9 (k + 1) i K F N0 N1 N2 N3 N4 T σ = RL9 k (i + 1) K9 F9 N0 N1 N2 N3 N4 T9 σ := by
  obtain ⟨hob, q0, q1, q2, q3, q4, q5, q6, q7, q8, q9, q10, q11, q12, q13, q14, q15⟩ := ha
  have hcw := codeW_le (oF a) a.2
  unfold kOrd kWd at hK
  rw [e] at hK
  simp only [List.append_assoc] at hK
  have hK : KR ((19, 0) :: (50, nmv 116 (oF a 1)) :: (20, 0) :: (kSum (oF a) ++ (kWhen (oF a) a.2 ++ (39, 0) :: p :: t))) K := hK
  have hcs := codeS_le (oF a)
  have hs : s_Tokens_sign K = 19 := hK.sn.1
  have hb : s_Tokens_brokenAt K = -1 := hK.sn.2.2
  obtain ⟨K1, eO, k1⟩ := hK.oldE (E := (0, -1)) (N := N4) (s := 19) (j := oF a 1) rfl (by omega) (hN4.find (by decide) (by omega) (q3 (by omega) (by omega)))
  obtain ⟨T1, eN, hT1⟩ := ord_new (F := F) (K := K) (E := (0, -1)) (x := 3) hT hl
  have hT2 := ord_note (F := F) (c := 3) (v := nI n) (ord_note (F := F) (c := 1) (v := nI (oF a 1)) hT1 hl (by decide)) hl (by decide)
  obtain ⟨⟨f7, f8, f9, f10, f11⟩, b7, b8, b9, b10, b11⟩ := id hN
  have hx4 := hob 4
  have key : ∀ (s : Fin 54) (w : Int64) (t9 : List TKN), noOp s → kWhen (oF a) a.2 ++ (39, 0) :: p :: t = (s, w) :: t9 → ∃ K2 F2, rd_ N0 N1 N2 N3 N4 64 3 0 0 (s_Tokens_expect K1 20, F, (0, -1)) = (K2, F2, (0, -1)) ∧ KR ((s, w) :: t9) K2 ∧ FA n F F2 (codeS (oF a)) := fun s w t9 hs9 e9 => by
    have hr := rd_sum (N0 := N0) (N1 := N1) (N2 := N2) (N3 := N3) (N4 := N4) (k := 57) (x := 0) (o := oF a) (s := s) (w := w) (t := t9) f7 f8 f9 f10 f11 b7 b8 b9 b10 b11 (by omega) (by omega) (by decide) hs9
    rw [e9] at k1
    obtain ⟨p2, t2, e3⟩ := app_cons (kSum (oF a)) (s, w) t9
    rw [e3] at k1 hr
    exact hr _ F (0, -1) n (k1.exp rfl) hF (by omega)
  have hR : ∀ K2 F2, rd_ N0 N1 N2 N3 N4 64 3 0 0 (s_Tokens_expect K1 20, F, (0, -1)) = (K2, F2, (0, -1)) → FA n F F2 (codeS (oF a)) → s_Teacher_readFill K F (0, -1) N0 N1 N2 N3 N4 T σ = (K2, F2, (0, -1), s_Orders_note (s_Orders_note (s_Orders_note T1 F 1 (nI (oF a 1))) F 3 (nI n)) F2 4 (nI (n + (codeS (oF a)).length))) := fun K2 F2 w1 w2 => by
    unfold s_Teacher_readFill s_Formulas_size
    rw [eN]
    dsimp only
    rw [eO]
    dsimp only
    rw [w1]
    dsimp only
    rw [hF, w2.sz]
  by_cases hv1 : a.2 = -1
  · have ew : kWhen (oF a) a.2 ++ (39, 0) :: p :: t = (39, 0) :: p :: t := by
      rw [hv1]
      rfl
    obtain ⟨K2, F2, w1, w2, w3⟩ := key 39 0 (p :: t) (by decide) ew
    have hR2 := hR K2 F2 w1 w3
    have hs2 : s_Tokens_sign K2 = 39 := w2.sn.1
    refine ⟨s_Tokens_expect K2 39, F2, _, _, codeS (oF a), w2.exp rfl, ord_note (F := F2) (c := 4) (v := nI (n + (codeS (oF a)).length)) hT2 hl (by decide), w3, by omega, ?_, ?_⟩
    · exact ⟨by rw [e]; rfl, fun _ _ => rfl, fun w => absurd (e.symm.trans w) (by decide), fun w => absurd (e.symm.trans w) (by decide), fun _ => ⟨n, rfl, rfl, Nat.le_refl _, w3.2.2⟩, fun _ => (show (0 : Int32) ≤ 0 by decide), fun w => absurd hv1 w⟩
    · show l_Teacher_readList_2 (k + 1) i K F (0, -1) N0 N1 N2 N3 N4 T σ = _
      rw [l_Teacher_readList_2, hs, hb, if_neg (by decide), if_neg (by decide), if_neg (by decide), if_neg (by decide), if_neg (by decide), if_neg (by decide), if_neg (by decide), if_neg (by decide), if_neg (by decide), if_neg (by decide), if_neg (by decide), if_pos (by decide), hR2]
      dsimp only
      rw [hs2, if_neg (by decide)]
  · obtain ⟨⟨s, w⟩, t9, e9⟩ := app_cons (kWhen (oF a) a.2) (39, 0) (p :: t)
    have hs22 : s = 22 := by
      obtain ⟨r, e1, -⟩ := rd_when (k := 55) (x := 0) (s := 39) (w := 0) (t := p :: t) f7 f8 f9 f10 f11 b7 b8 b9 b10 b11 (by omega) (by omega) (by omega) q8 hv1 (by decide) (by decide) (by decide) (by decide)
      rw [e1] at e9
      cases e9
      rfl
    subst hs22
    obtain ⟨K2, F2, w1, w2, w3⟩ := key 22 w t9 (by decide) e9
    have hR2 := hR K2 F2 w1 w3
    have hs2 : s_Tokens_sign K2 = 22 := w2.sn.1
    rw [← e9] at w2
    obtain ⟨K9, F9, T9, hW, kk, hA9, hT9⟩ := ln_when (σ := σ) (E := (0, -1)) w2 hN q10 q8 hv1 w3.sz (by omega) (ord_note (F := F2) (c := 4) (v := nI (n + (codeS (oF a)).length)) hT2 hl (by decide)) hl
    refine ⟨s_Tokens_expect K9 39, F9, T9, _, codeS (oF a) ++ codeW (oF a) a.2, kk.exp rfl, hT9, w3.tr hA9, by rw [List.length_append]; omega, ?_, ?_⟩
    · refine ⟨by rw [e]; rfl, fun _ _ => rfl, fun w => absurd (e.symm.trans w) (by decide), fun w => absurd (e.symm.trans w) (by decide), fun _ => ⟨n, rfl, rfl, by rw [List.length_append]; omega, ?_⟩, fun w => absurd w hv1, fun _ => ⟨n + (codeS (oF a)).length, rfl, rfl, by rw [List.length_append]; omega, hA9.2.2⟩⟩
      exact FHas.fa w3.2.2 (Nat.le_refl _) hA9
    · show l_Teacher_readList_2 (k + 1) i K F (0, -1) N0 N1 N2 N3 N4 T σ = _
      rw [l_Teacher_readList_2, hs, hb, if_neg (by decide), if_neg (by decide), if_neg (by decide), if_neg (by decide), if_neg (by decide), if_neg (by decide), if_neg (by decide), if_neg (by decide), if_neg (by decide), if_neg (by decide), if_neg (by decide), if_pos (by decide), hR2]
      dsimp only
      rw [hs2, if_pos (by decide), hW]
end Lo
