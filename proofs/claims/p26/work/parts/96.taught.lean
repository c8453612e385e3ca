/-! what the class holds when the law's list was taught -/
theorem begin37 {x : Int32} : ∀ (k i : Nat) (σ : GL), (l_Glacier_beginAnew_37 x k i σ).1 = σ.1 ∧ ∀ j, gW (l_Glacier_beginAnew_37 x k i σ) j = if i ≤ j ∧ j < i + k then 10 else gW σ j
  | 0, i, σ => ⟨rfl, fun j => by rw [if_neg (by omega)]; rfl⟩
  | k + 1, i, σ => by
    unfold l_Glacier_beginAnew_37
    obtain ⟨h1, h2⟩ := begin37 (x := x) k (i + 1) (gSW σ (upd (gW σ) i 10))
    refine ⟨h1, fun j => ?_⟩
    rw [h2 j]
    by_cases c : i + 1 ≤ j ∧ j < i + 1 + k
    · rw [if_pos c, if_pos (by omega)]
    · rw [if_neg c]
      show upd (gW σ) i 10 j = _
      unfold upd
      by_cases e : j = i
      · rw [if_pos e, if_pos (by omega)]
      · rw [if_neg e, if_neg (by omega)]
theorem begin_ok (σ : GL) (x : Int32) : (∀ k, k < 5 → gN (s_Glacier_beginAnew σ x) k = 0) ∧ (∀ j, j < 8 → gW (s_Glacier_beginAnew σ x) j = 10) ∧ (s_Glacier_beginAnew σ x).2.2 = (x, 0) := by
  refine ⟨fun k hk => ?_, fun j hj => ?_, rfl⟩
  · show ((l_Glacier_beginAnew_37 x 8 0 _).1 k).2 = 0
    rw [(begin37 8 0 _).1]
    match k, hk with
    | 0, _ => rfl
    | 1, _ => rfl
    | 2, _ => rfl
    | 3, _ => rfl
    | 4, _ => rfl
  · show gW (l_Glacier_beginAnew_37 x 8 0 _) j = 10
    rw [(begin37 8 0 _).2 j, if_pos (by omega)]
theorem map_gd {α : Type} {f : α → Nat → Int32} {l : List α} {r : Nat} (h : r < l.length) : (l.map f).getD r (fun _ => 0) = f (l[r]) := by
  rw [List.getD_eq_getElem?_getD, List.getElem?_map, List.getElem?_eq_getElem h]
  rfl
theorem wF_ok : ∀ (l : List R2) (w : Nat → Int32), (∀ a ∈ l, okDay a) → (∀ j, ∃ v, w j = nI v ∧ v ≤ 30) → ∀ j, ∃ v, (l.foldl (fun w a => upd w a.1 (nI a.2)) w) j = nI v ∧ v ≤ 30
  | [], _, _, hw, j => hw j
  | a :: l, w, hl, hw, j => wF_ok l _ (fun b hb => hl b (List.mem_cons_of_mem _ hb)) (fun j => by
      show ∃ v, upd w a.1 (nI a.2) j = nI v ∧ v ≤ 30
      unfold upd
      by_cases e : j = a.1
      · rw [if_pos e]
        exact ⟨_, rfl, (hl a List.mem_cons_self).2⟩
      · rw [if_neg e]
        exact hw j) j
theorem sumN0 {f : Nat → Int32} : ∀ n, (∀ i, i < n → f i = 0) → sumN f n = 0
  | 0, _ => rfl
  | n + 1, h => by
    show sumN f n + f n = 0
    rw [sumN0 n (fun i hi => h i (by omega)), h n (by omega)]
    rfl
section Tg
variable {D : DL} {A : AD}
theorem y0_b (hcn : cn A = dCN D) {r : Nat} (hr : r < cn A 0) : ∃ a, a ∈ d_b D ∧ sm_v (Y0 D) 0 r = rBand a := by
  rw [hcn] at hr
  exact ⟨_, List.getElem_mem hr, map_gd hr⟩
theorem y0_s (hcn : cn A = dCN D) {r : Nat} (hr : r < cn A 1) : ∃ a, a ∈ d_s D ∧ sm_v (Y0 D) 1 r = rStake a := by
  rw [hcn] at hr
  exact ⟨_, List.getElem_mem hr, map_gd hr⟩
theorem y0_c (hcn : cn A = dCN D) {r : Nat} (hr : r < cn A 2) : ∃ a, a ∈ d_c D ∧ sm_v (Y0 D) 2 r = rCrev a := by
  rw [hcn] at hr
  exact ⟨_, List.getElem_mem hr, map_gd hr⟩
theorem y0_d (hcn : cn A = dCN D) {r : Nat} (hr : r < cn A 3) : ∃ a, a ∈ d_d D ∧ sm_v (Y0 D) 3 r = rDepot a := by
  rw [hcn] at hr
  exact ⟨_, List.getElem_mem hr, map_gd hr⟩
theorem y0_t (hcn : cn A = dCN D) {r : Nat} (hr : r < cn A 4) : ∃ a, a ∈ d_t D ∧ sm_v (Y0 D) 4 r = rTeam a := by
  rw [hcn] at hr
  exact ⟨_, List.getElem_mem hr, map_gd hr⟩
theorem ri_0 (hD : DOk D) (hcn : cn A = dCN D) : RI A (Y0 D) 0 := by
  obtain ⟨h0, h1, h2, h3, h4, h5, h6, k0, kp, k1, k2, k3, k4, k5, k6⟩ := hD
  have hb : cn A 0 = (d_b D).length := by rw [hcn]; rfl
  refine ⟨fun j _ => wF_ok _ _ k5 (fun _ => ⟨10, rfl, by decide⟩) j, fun k r hk hr => ?_⟩
  match k, hk with
  | 0, _ =>
    obtain ⟨a, a1, a2⟩ := y0_b hcn hr
    rw [a2]
    obtain ⟨b1, b2⟩ := k0 a a1
    exact ⟨⟨a.1, rfl, by omega⟩, ⟨a.2, rfl, b2⟩, 0, rfl, Nat.zero_le _⟩
  | 1, _ =>
    obtain ⟨a, a1, a2⟩ := y0_s hcn hr
    rw [a2]
    obtain ⟨b1, b2, b3⟩ := k1 a a1
    exact ⟨⟨a.1, rfl, by rw [hb]; exact b1⟩, ⟨a.2, 0, rfl, b2, b3, rfl, by omega, Or.inl ⟨rfl, b2⟩⟩, 0, rfl, Nat.zero_le _, Or.inl ⟨rfl, rfl⟩⟩
  | 2, _ =>
    obtain ⟨a, a1, a2⟩ := y0_c hcn hr
    rw [a2]
    obtain ⟨b1, b2⟩ := k2 a a1
    exact ⟨⟨a.1, rfl, by rw [hb]; exact b1⟩, ⟨a.2, rfl, b2⟩, 0, rfl, Or.inl ⟨rfl, rfl⟩⟩
  | 3, _ =>
    obtain ⟨a, a1, a2⟩ := y0_d hcn hr
    rw [a2]
    obtain ⟨b1, b2⟩ := k3 a a1
    exact ⟨⟨a.1, rfl, by rw [hb]; exact b1⟩, a.2, rfl, by omega⟩
  | 4, _ =>
    obtain ⟨a, a1, a2⟩ := y0_t hcn hr
    rw [a2]
    obtain ⟨b1, b2, b3, b4⟩ := k4 a a1
    exact ⟨⟨a.1, rfl, b1, b2⟩, ⟨a.2.1, rfl, b3⟩, ⟨a.2.2, rfl, by rw [hb]; exact b4⟩, ⟨0, rfl, Or.inl ⟨rfl, by decide⟩⟩, Or.inl rfl, 0, rfl, Nat.zero_le _⟩
theorem ct_0 (hcn : cn A = dCN D) : CT A (Y0 D) := by
  refine ⟨(sumN0 _ (fun i hi => ?_)).symm, (sumN0 _ (fun i hi => ?_)).symm, (sumN0 _ (fun i hi => ?_)).symm⟩
  · obtain ⟨a, -, a2⟩ := y0_t hcn hi
    show sm_v (Y0 D) 4 i 5 = 0
    rw [a2]
    rfl
  · obtain ⟨a, -, a2⟩ := y0_s hcn hi
    show sm_v (Y0 D) 1 i 5 = 0
    rw [a2]
    rfl
  · obtain ⟨a, -, a2⟩ := y0_t hcn hi
    show sm_v (Y0 D) 4 i 6 = 0
    rw [a2]
    rfl
theorem pm_0 (hcn : cn A = dCN D) {σ : GL} (hr : ∀ k, k < 5 → RW σ k (dRS D k)) (hw : ∀ j, j < 8 → gW σ j = wF (d_w D) j) (hd : σ.2.2 = (0, 0)) : PM A σ (Y0 D) := by
  have hl : ∀ k, k < 5 → (dRS D k).length = cn A k := fun k hk => by rw [hcn]; exact dRS_len (by omega)
  refine ⟨fun k hk => (hr k hk).1.trans (hl k hk), fun k r c hk hr' hc hn => ?_, fun r hr' => ?_, ?_, (show 0 < 1000000 by decide), hw, ?_⟩
  · exact (hr k hk).2 r (by rw [hl k hk]; exact hr') c (Nat.lt_of_lt_of_le hc (wdt_le hk))
  · obtain ⟨a, -, a2⟩ := y0_c hcn hr'
    refine ⟨0, by rw [a2]; rfl, Nat.zero_le _, ?_⟩
    rw [(hr 2 (by decide)).2 r (by rw [hl 2 (by decide)]; exact hr') 2 (by decide)]
    show sm_v (Y0 D) 2 r 2 = _
    rw [a2]
    rfl
  · show σ.2.2.1 = _
    rw [hd]
    rfl
  · show σ.2.2.2 = _
    rw [hd]
    rfl
theorem or_0 (hD : DOk D) (hcn : cn A = dCN D) {T : TM} {F : FM} (hT : T.2 = (d_o D).length) (h : ∀ r a, (d_o D)[r]? = some a → OC T F r a) : OR A (Y0 D) T F := by
  refine ⟨by rw [hT, hcn]; rfl, fun r hr => ?_⟩
  rw [hcn] at hr
  have hr : r < (d_o D).length := hr
  have e : sm_v (Y0 D) 5 r = rOrd ((d_o D)[r]) := by
    show ((d_o D).map rOrd).getD r (fun _ => 0) = _
    rw [List.getD_eq_getElem?_getD, List.getElem?_map, List.getElem?_eq_getElem hr]
    rfl
  refine ⟨(d_o D)[r], ⟨e, ?_⟩, h r _ (List.getElem?_eq_getElem hr)⟩
  rw [hcn]
  exact hD.2.2.2.2.2.2.2.2.2.2.2.2.2.2 _ (List.getElem_mem hr)
/-- all that is known when the list was taught -/
theorem taught_ok (hD : DOk D) (hcn : cn A = dCN D) {Ta : TA} {K : TK} {τ : GL} {U : TM} {G : FM} (hs : Sfx Ta 0 (dTx D)) : ∃ K9 F9 T9 σ9 M0 M1 M2 M3 M4, s_Teacher_readList (s_Tokens_readFrom Ta K) (s_Orders_clear U G).2 (0, -1) new_nm new_nm new_nm new_nm new_nm (s_Orders_clear U G).1 (s_Glacier_beginAnew τ 0) = (K9, F9, (0, -1), M0, M1, M2, M3, M4, T9, σ9) ∧ s_Teacher_error K9 (0, -1) = 0 ∧ PM A σ9 (Y0 D) ∧ OR A (Y0 D) T9 F9 := by
  obtain ⟨t1, t2⟩ := dTk_lx hD
  have hK := lex_all (K := K) hs t1 t2
  obtain ⟨b1, b2, b3⟩ := begin_ok τ 0
  obtain ⟨K9, F9, T9, σ9, M0, M1, M2, M3, M4, e1, e2, e3, e4, e5, e6, e7⟩ := list_read (F := (s_Orders_clear U G).2) (T := (s_Orders_clear U G).1) hD hK rfl rfl b1 b2
  refine ⟨K9, F9, T9, σ9, M0, M1, M2, M3, M4, e1, ?_, pm_0 hcn e3 e4 (e5.trans b3), or_0 hD hcn e6 e7⟩
  unfold s_Teacher_error s_Tokens_brokenAt
  rw [e2, if_pos (by decide)]
end Tg
