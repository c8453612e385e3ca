/-! a whole list, as the class reads it -/
section Al9
variable {N0 N1 N2 N3 N4 : NM} {F : FM} {T : TM} {p : TKN} {t : List TKN}
theorem map_sn {α β : Type} (f : α → β) (l : List α) (a : α) : (l ++ [a]).map f = l.map f ++ [f a] := by rw [List.map_append]; rfl
theorem all_Band : ∀ (l : List R2) (d : List R2) (k i : Nat) (K : TK) (N0 : NM) (σ : GL), KR (kAllF kBand d.length l ++ p :: t) K → NK 98 d.length N0 → RW σ 0 (d.map rBand) → (d ++ l).length ≤ 5 → (∀ a ∈ l, okBand a) → (d ++ l).Pairwise (fun a c => a.1 < c.1) → ∃ K9 N9 σ9, KR (p :: t) K9 ∧ NK 98 (d ++ l).length N9 ∧ RW σ9 0 ((d ++ l).map rBand) ∧ ON 0 σ9 σ ∧ RL9 (k + l.length) i K F N0 N1 N2 N3 N4 T σ = RL9 k (i + l.length) K9 F N9 N1 N2 N3 N4 T σ9
  | [], d, k, i, K, N0, σ, hK, hN, hσ, _, _, _ => by
    rw [List.append_nil]
    exact ⟨K, N0, σ, hK, hN, hσ, ⟨fun _ _ => rfl, rfl⟩, rfl⟩
  | a :: l, d, k, i, K, N0, σ, hK, hN, hσ, hl, hok, hpw => by
    rw [List.length_append, List.length_cons] at hl
    obtain ⟨p2, t2, e2⟩ := app_cons (kAllF kBand (d.length + 1) l) p t
    have hK : KR (kBand d.length a ++ (kAllF kBand (d.length + 1) l ++ p :: t)) K := by
      have h9 := hK
      unfold kAllF at h9
      rw [List.append_assoc] at h9
      exact h9
    rw [e2] at hK
    obtain ⟨b1, b2⟩ := hok a List.mem_cons_self
    have hlow : ∃ (low : Nat) (vl : Int32), vl = nI low ∧ low ≤ a.1 ∧ ((nI (gN σ 0) - 1 = -1 ∧ vl = 0) ∨ ∃ (q : Nat) (h : Int32), nI (gN σ 0) - 1 = nI q ∧ q < 2 ^ 31 ∧ gG σ 0 (nI q) 0 = h ∧ vl = h + 1) := by
      have g1 : gN σ 0 = (d.map rBand).length := hσ.1
      rcases List.eq_nil_or_concat d with e | ⟨d0, b, e⟩
      · refine ⟨0, 0, rfl, Nat.zero_le _, Or.inl ⟨?_, rfl⟩⟩
        rw [g1, e]
        decide
      · have e : d = d0 ++ [b] := by rw [e, List.concat_eq_append]
        have g2 : gN σ 0 = d0.length + 1 := by rw [g1, e, List.length_map, List.length_append, List.length_singleton]
        have hlt : b.1 < a.1 := by
          have := List.pairwise_append.mp hpw
          exact this.2.2 b (by rw [e]; exact List.mem_append_right _ List.mem_cons_self) a List.mem_cons_self
        have g3 : gG σ 0 (nI d0.length) 0 = nI b.1 := by
          have hl0 : d0.length < 5 := by
            have : d.length = d0.length + 1 := by rw [e, List.length_append, List.length_singleton]
            omega
          have := hσ.2 d0.length (by rw [← g1, g2]; omega) 0 (by decide)
          unfold gG
          rw [tgI_at (show d0.length < (σ.1 0).2 by show d0.length < gN σ 0; omega) (show (σ.1 0).2 < 2 ^ 31 by show gN σ 0 < 2 ^ 31; omega), this, e, map_sn, getD_sn, if_pos (by rw [List.length_map])]
          rfl
        refine ⟨b.1 + 1, nI b.1 + 1, nI_1 _, by omega, Or.inr ⟨d0.length, nI b.1, ?_, ?_, g3, rfl⟩⟩
        · rw [g2, nI_pred]
        · have : d.length = d0.length + 1 := by rw [e, List.length_append, List.length_singleton]
          omega
    obtain ⟨low, vl, v1, v2, v3⟩ := hlow
    obtain ⟨K1, k1, e1⟩ := ln_Band (k := k + l.length) (i := i) (F := F) (T := T) (N1 := N1) (N2 := N2) (N3 := N3) (N4 := N4) hK hN (by omega) (by omega) b2 v1 v2 v3
    obtain ⟨s1, s2⟩ := add_Band hσ (by rw [List.length_map]; omega) (nI a.1) (nI a.2)
    rw [← e2] at k1
    have hd : (d ++ [a]).length = d.length + 1 := by rw [List.length_append, List.length_singleton]
    have ea : d ++ a :: l = (d ++ [a]) ++ l := by rw [List.append_assoc]; rfl
    obtain ⟨K9, N9, σ9, r1, r2, r3, r4, r5⟩ := all_Band l (d ++ [a]) k (i + 1) K1 _ _ (by rw [hd]; exact k1) (by rw [hd]; exact hN.add (by omega)) (by rw [map_sn]; exact s1) (by rw [List.length_append, hd]; omega) (fun b hb => hok b (List.mem_cons_of_mem _ hb)) (by rw [← ea]; exact hpw)
    refine ⟨K9, N9, σ9, r1, by rw [ea]; exact r2, by rw [ea]; exact r3, r4.tr s2, ?_⟩
    rw [List.length_cons, show k + (l.length + 1) = k + l.length + 1 by omega, show i + (l.length + 1) = i + 1 + l.length by omega]
    exact e1.trans r5
set_option maxRecDepth 100000 in
set_option maxHeartbeats 2000000 in
theorem all_Stake {nb : Nat} (hB : NK 98 nb N0) (hnb : nb ≤ 5) : ∀ (l : List R2) (d : List R2) (k i : Nat) (K : TK) (N1 : NM) (σ : GL), KR (kAllF kStake d.length l ++ p :: t) K → NK 115 d.length N1 → RW σ 1 (d.map rStake) → (d ++ l).length ≤ 6 → (∀ a ∈ l, okStake nb a) → ∃ K9 N9 σ9, KR (p :: t) K9 ∧ NK 115 (d ++ l).length N9 ∧ RW σ9 1 ((d ++ l).map rStake) ∧ ON 1 σ9 σ ∧ RL9 (k + l.length) i K F N0 N1 N2 N3 N4 T σ = RL9 k (i + l.length) K9 F N0 N9 N2 N3 N4 T σ9
  | [], d, k, i, K, N1, σ, hK, hN, hσ, _, _ => by
    rw [List.append_nil]
    exact ⟨K, N1, σ, hK, hN, hσ, ⟨fun _ _ => rfl, rfl⟩, rfl⟩
  | a :: l, d, k, i, K, N1, σ, hK, hN, hσ, hl, hok => by
    rw [List.length_append, List.length_cons] at hl
    obtain ⟨p2, t2, e2⟩ := app_cons (kAllF kStake (d.length + 1) l) p t
    have hK : KR (kStake d.length a ++ (kAllF kStake (d.length + 1) l ++ p :: t)) K := by
      have h9 := hK
      unfold kAllF at h9
      rw [List.append_assoc] at h9
      exact h9
    rw [e2] at hK
    have hoka := hok a List.mem_cons_self
    obtain ⟨K1, k1, e1⟩ := ln_Stake (k := k + l.length) (i := i) (F := F) (T := T) (σ := σ) (N2 := N2) (N3 := N3) (N4 := N4) hK hN (by omega) hB hoka.1 hnb hoka.2.1 hoka.2.2
    obtain ⟨s1, s2⟩ := add_Stake hσ (by rw [List.length_map]; omega) (nI a.1) (nI a.2)
    rw [← e2] at k1
    have hd : (d ++ [a]).length = d.length + 1 := by rw [List.length_append, List.length_singleton]
    have ea : d ++ a :: l = (d ++ [a]) ++ l := by rw [List.append_assoc]; rfl
    obtain ⟨K9, N9, σ9, r1, r2, r3, r4, r5⟩ := all_Stake hB hnb l (d ++ [a]) k (i + 1) K1 _ _ (by rw [hd]; exact k1) (by rw [hd]; exact hN.add (by omega)) (by rw [map_sn]; exact s1) (by rw [List.length_append, hd]; omega) (fun b hb => hok b (List.mem_cons_of_mem _ hb))
    refine ⟨K9, N9, σ9, r1, by rw [ea]; exact r2, by rw [ea]; exact r3, r4.tr s2, ?_⟩
    rw [List.length_cons, show k + (l.length + 1) = k + l.length + 1 by omega, show i + (l.length + 1) = i + 1 + l.length by omega]
    exact e1.trans r5
set_option maxRecDepth 100000 in
set_option maxHeartbeats 2000000 in
theorem all_Crevasse {nb : Nat} (hB : NK 98 nb N0) (hnb : nb ≤ 5) : ∀ (l : List R2) (d : List R2) (k i : Nat) (K : TK) (N2 : NM) (σ : GL), KR (kAllF kCrev d.length l ++ p :: t) K → NK 99 d.length N2 → RW σ 2 (d.map rCrev) → (d ++ l).length ≤ 4 → (∀ a ∈ l, okCrev nb a) → ∃ K9 N9 σ9, KR (p :: t) K9 ∧ NK 99 (d ++ l).length N9 ∧ RW σ9 2 ((d ++ l).map rCrev) ∧ ON 2 σ9 σ ∧ RL9 (k + l.length) i K F N0 N1 N2 N3 N4 T σ = RL9 k (i + l.length) K9 F N0 N1 N9 N3 N4 T σ9
  | [], d, k, i, K, N2, σ, hK, hN, hσ, _, _ => by
    rw [List.append_nil]
    exact ⟨K, N2, σ, hK, hN, hσ, ⟨fun _ _ => rfl, rfl⟩, rfl⟩
  | a :: l, d, k, i, K, N2, σ, hK, hN, hσ, hl, hok => by
    rw [List.length_append, List.length_cons] at hl
    obtain ⟨p2, t2, e2⟩ := app_cons (kAllF kCrev (d.length + 1) l) p t
    have hK : KR (kCrev d.length a ++ (kAllF kCrev (d.length + 1) l ++ p :: t)) K := by
      have h9 := hK
      unfold kAllF at h9
      rw [List.append_assoc] at h9
      exact h9
    rw [e2] at hK
    have hoka := hok a List.mem_cons_self
    obtain ⟨K1, k1, e1⟩ := ln_Crevasse (k := k + l.length) (i := i) (F := F) (T := T) (σ := σ) (N1 := N1) (N3 := N3) (N4 := N4) hK hN (by omega) hB hoka.1 hnb (Nat.zero_le _) hoka.2
    obtain ⟨s1, s2⟩ := add_Crevasse hσ (by rw [List.length_map]; omega) (nI a.1) (nI a.2)
    rw [← e2] at k1
    have hd : (d ++ [a]).length = d.length + 1 := by rw [List.length_append, List.length_singleton]
    have ea : d ++ a :: l = (d ++ [a]) ++ l := by rw [List.append_assoc]; rfl
    obtain ⟨K9, N9, σ9, r1, r2, r3, r4, r5⟩ := all_Crevasse hB hnb l (d ++ [a]) k (i + 1) K1 _ _ (by rw [hd]; exact k1) (by rw [hd]; exact hN.add (by omega)) (by rw [map_sn]; exact s1) (by rw [List.length_append, hd]; omega) (fun b hb => hok b (List.mem_cons_of_mem _ hb))
    refine ⟨K9, N9, σ9, r1, by rw [ea]; exact r2, by rw [ea]; exact r3, r4.tr s2, ?_⟩
    rw [List.length_cons, show k + (l.length + 1) = k + l.length + 1 by omega, show i + (l.length + 1) = i + 1 + l.length by omega]
    exact e1.trans r5
set_option maxRecDepth 100000 in
set_option maxHeartbeats 2000000 in
theorem all_Depot {nb : Nat} (hB : NK 98 nb N0) (hnb : nb ≤ 5) : ∀ (l : List R2) (d : List R2) (k i : Nat) (K : TK) (N3 : NM) (σ : GL), KR (kAllF kDepot d.length l ++ p :: t) K → NK 100 d.length N3 → RW σ 3 (d.map rDepot) → (d ++ l).length ≤ 4 → (∀ a ∈ l, okCrev nb a) → ∃ K9 N9 σ9, KR (p :: t) K9 ∧ NK 100 (d ++ l).length N9 ∧ RW σ9 3 ((d ++ l).map rDepot) ∧ ON 3 σ9 σ ∧ RL9 (k + l.length) i K F N0 N1 N2 N3 N4 T σ = RL9 k (i + l.length) K9 F N0 N1 N2 N9 N4 T σ9
  | [], d, k, i, K, N3, σ, hK, hN, hσ, _, _ => by
    rw [List.append_nil]
    exact ⟨K, N3, σ, hK, hN, hσ, ⟨fun _ _ => rfl, rfl⟩, rfl⟩
  | a :: l, d, k, i, K, N3, σ, hK, hN, hσ, hl, hok => by
    rw [List.length_append, List.length_cons] at hl
    obtain ⟨p2, t2, e2⟩ := app_cons (kAllF kDepot (d.length + 1) l) p t
    have hK : KR (kDepot d.length a ++ (kAllF kDepot (d.length + 1) l ++ p :: t)) K := by
      have h9 := hK
      unfold kAllF at h9
      rw [List.append_assoc] at h9
      exact h9
    rw [e2] at hK
    have hoka := hok a List.mem_cons_self
    obtain ⟨K1, k1, e1⟩ := ln_Depot (k := k + l.length) (i := i) (F := F) (T := T) (σ := σ) (N1 := N1) (N2 := N2) (N4 := N4) hK hN (by omega) hB hoka.1 hnb (Nat.zero_le _) hoka.2
    obtain ⟨s1, s2⟩ := add_Depot hσ (by rw [List.length_map]; omega) (nI a.1) (nI a.2)
    rw [← e2] at k1
    have hd : (d ++ [a]).length = d.length + 1 := by rw [List.length_append, List.length_singleton]
    have ea : d ++ a :: l = (d ++ [a]) ++ l := by rw [List.append_assoc]; rfl
    obtain ⟨K9, N9, σ9, r1, r2, r3, r4, r5⟩ := all_Depot hB hnb l (d ++ [a]) k (i + 1) K1 _ _ (by rw [hd]; exact k1) (by rw [hd]; exact hN.add (by omega)) (by rw [map_sn]; exact s1) (by rw [List.length_append, hd]; omega) (fun b hb => hok b (List.mem_cons_of_mem _ hb))
    refine ⟨K9, N9, σ9, r1, by rw [ea]; exact r2, by rw [ea]; exact r3, r4.tr s2, ?_⟩
    rw [List.length_cons, show k + (l.length + 1) = k + l.length + 1 by omega, show i + (l.length + 1) = i + 1 + l.length by omega]
    exact e1.trans r5
set_option maxRecDepth 100000 in
set_option maxHeartbeats 2000000 in
theorem all_Team {nb : Nat} (hB : NK 98 nb N0) (hnb : nb ≤ 5) : ∀ (l : List R3) (d : List R3) (k i : Nat) (K : TK) (N4 : NM) (σ : GL), KR (kAllF kTeam d.length l ++ p :: t) K → NK 116 d.length N4 → RW σ 4 (d.map rTeam) → (d ++ l).length ≤ 4 → (∀ a ∈ l, okTeam nb a) → ∃ K9 N9 σ9, KR (p :: t) K9 ∧ NK 116 (d ++ l).length N9 ∧ RW σ9 4 ((d ++ l).map rTeam) ∧ ON 4 σ9 σ ∧ RL9 (k + l.length) i K F N0 N1 N2 N3 N4 T σ = RL9 k (i + l.length) K9 F N0 N1 N2 N3 N9 T σ9
  | [], d, k, i, K, N4, σ, hK, hN, hσ, _, _ => by
    rw [List.append_nil]
    exact ⟨K, N4, σ, hK, hN, hσ, ⟨fun _ _ => rfl, rfl⟩, rfl⟩
  | a :: l, d, k, i, K, N4, σ, hK, hN, hσ, hl, hok => by
    rw [List.length_append, List.length_cons] at hl
    obtain ⟨p2, t2, e2⟩ := app_cons (kAllF kTeam (d.length + 1) l) p t
    have hK : KR (kTeam d.length a ++ (kAllF kTeam (d.length + 1) l ++ p :: t)) K := by
      have h9 := hK
      unfold kAllF at h9
      rw [List.append_assoc] at h9
      exact h9
    rw [e2] at hK
    have hoka := hok a List.mem_cons_self
    obtain ⟨K1, k1, e1⟩ := ln_Team (k := k + l.length) (i := i) (F := F) (T := T) (σ := σ) (N1 := N1) (N2 := N2) (N3 := N3) hK hN (by omega) hB hoka.2.2.2 hnb hoka.1 hoka.2.1 hoka.2.2.1
    obtain ⟨s1, s2⟩ := add_Team hσ (by rw [List.length_map]; omega) (nI a.2.2) (nI a.1) (nI a.2.1)
    rw [← e2] at k1
    have hd : (d ++ [a]).length = d.length + 1 := by rw [List.length_append, List.length_singleton]
    have ea : d ++ a :: l = (d ++ [a]) ++ l := by rw [List.append_assoc]; rfl
    obtain ⟨K9, N9, σ9, r1, r2, r3, r4, r5⟩ := all_Team hB hnb l (d ++ [a]) k (i + 1) K1 _ _ (by rw [hd]; exact k1) (by rw [hd]; exact hN.add (by omega)) (by rw [map_sn]; exact s1) (by rw [List.length_append, hd]; omega) (fun b hb => hok b (List.mem_cons_of_mem _ hb))
    refine ⟨K9, N9, σ9, r1, by rw [ea]; exact r2, by rw [ea]; exact r3, r4.tr s2, ?_⟩
    rw [List.length_cons, show k + (l.length + 1) = k + l.length + 1 by omega, show i + (l.length + 1) = i + 1 + l.length by omega]
    exact e1.trans r5
set_option maxRecDepth 100000 in
set_option maxHeartbeats 2000000 in
theorem all_Day : ∀ (l : List R2) (j k i : Nat) (K : TK) (σ : GL) (w : Nat → Int32), KR (kAllF kDay j l ++ p :: t) K → (∀ j, j < 8 → gW σ j = w j) → (∀ a ∈ l, okDay a) → ∃ K9 σ9, KR (p :: t) K9 ∧ (∀ j, j < 8 → gW σ9 j = l.foldl (fun w a => upd w a.1 (nI a.2)) w j) ∧ σ9.1 = σ.1 ∧ σ9.2.2 = σ.2.2 ∧ RL9 (k + l.length) i K F N0 N1 N2 N3 N4 T σ = RL9 k (i + l.length) K9 F N0 N1 N2 N3 N4 T σ9
  | [], j, k, i, K, σ, w, hK, hw, _ => ⟨K, σ, hK, hw, rfl, rfl, rfl⟩
  | a :: l, j, k, i, K, σ, w, hK, hw, hok => by
    obtain ⟨p2, t2, e2⟩ := app_cons (kAllF kDay (j + 1) l) p t
    have hK : KR (kDay j a ++ (kAllF kDay (j + 1) l ++ p :: t)) K := by
      have h9 := hK
      unfold kAllF at h9
      rw [List.append_assoc] at h9
      exact h9
    rw [e2] at hK
    obtain ⟨b1, b2⟩ := hok a List.mem_cons_self
    obtain ⟨K1, k1, e1⟩ := ln_Day (k := k + l.length) (i := i) (F := F) (T := T) (σ := σ) (N0 := N0) (N1 := N1) (N2 := N2) (N3 := N3) (N4 := N4) hK (by omega) b2
    have es : s_Glacier_changeWarmth σ (nI a.1) (nI a.2) = gSW σ (upd (gW σ) a.1 (nI a.2)) := by
      unfold s_Glacier_changeWarmth
      rw [if_neg (nI_pos (show a.1 < 2 ^ 31 by omega)), if_neg (nI_ge (show a.1 < 8 by omega) (by omega)), nI_clamp (show a.1 < 2 ^ 31 by omega)]
    rw [es] at e1
    rw [← e2] at k1
    obtain ⟨K9, σ9, r1, r2, r3, r4, r5⟩ := all_Day l (j + 1) k (i + 1) K1 (gSW σ (upd (gW σ) a.1 (nI a.2))) (upd w a.1 (nI a.2)) k1 (fun j hj => by
      show upd (gW σ) a.1 (nI a.2) j = upd w a.1 (nI a.2) j
      unfold upd
      rw [hw j hj]) (fun b hb => hok b (List.mem_cons_of_mem _ hb))
    refine ⟨K9, σ9, r1, r2, r3, r4, ?_⟩
    rw [List.length_cons, show k + (l.length + 1) = k + l.length + 1 by omega, show i + (l.length + 1) = i + 1 + l.length by omega]
    exact e1.trans r5
set_option maxRecDepth 100000 in
set_option maxHeartbeats 2000000 in
theorem all_Ord {nb ns nc nd nt : Nat} {σ : GL} (h0 : NK 98 nb N0) (h1 : NK 115 ns N1) (h2 : NK 99 nc N2) (h3 : NK 100 nd N3) (h4 : NK 116 nt N4) (hm : nb ≤ 5 ∧ ns ≤ 6 ∧ nc ≤ 6 ∧ nd ≤ 6 ∧ nt ≤ 6) : ∀ (l : List RO) (j k i n : Nat) (K : TK) (F : FM) (T : TM) (d : List RO) (L : List (Nat → Int32)), KR (kAllF kOrd j l ++ p :: t) K → fm_sz F = nI n → n + 20 * l.length ≤ 800 → RWt T L → L.length = d.length → (d ++ l).length ≤ 20 → (∀ a ∈ l, okOrd nb ns nc nd nt a) → (∀ r a, d[r]? = some a → OG n (L.getD r (fun _ => 0)) F a) → ∃ K9 F9 T9 L9 n9, KR (p :: t) K9 ∧ n9 ≤ 800 ∧ RWt T9 L9 ∧ L9.length = (d ++ l).length ∧ (∀ r a, (d ++ l)[r]? = some a → OG n9 (L9.getD r (fun _ => 0)) F9 a) ∧ RL9 (k + l.length) i K F N0 N1 N2 N3 N4 T σ = RL9 k (i + l.length) K9 F9 N0 N1 N2 N3 N4 T9 σ
  | [], j, k, i, n, K, F, T, d, L, hK, hF, hn, hT, hL, _, _, hg => by
    rw [List.append_nil]
    exact ⟨K, F, T, L, n, hK, by omega, hT, hL, hg, rfl⟩
  | a :: l, j, k, i, n, K, F, T, d, L, hK, hF, hn, hT, hL, hl, hok, hg => by
    rw [List.length_append, List.length_cons] at hl
    rw [List.length_cons] at hn
    obtain ⟨p2, t2, e2⟩ := app_cons (kAllF kOrd (j + 1) l) p t
    have hK : KR (kOrd j a ++ (kAllF kOrd (j + 1) l ++ p :: t)) K := by
      have h9 := hK
      unfold kAllF at h9
      rw [List.append_assoc] at h9
      exact h9
    rw [e2] at hK
    have ha := hok a List.mem_cons_self
    have hNF : NF N0 N1 N2 N3 N4 (oF a) := by
      obtain ⟨hob, q0, q1, q2, q3, q4, q5, q6, q7, q8, q9, q10, q11, q12, q13, q14, q15⟩ := ha
      exact ⟨⟨h1.find (by decide) (by omega) q11, h2.find (by decide) (by omega) q12, h4.find (by decide) (by omega) q13, h3.find (by decide) (by omega) q14, h0.find (by decide) (by omega) q15⟩, by omega, by omega, by omega, by omega, by omega⟩
    have step : ∃ K9 F9 T9 g c, KR (p2 :: t2) K9 ∧ RWt T9 (L ++ [g]) ∧ FA n F F9 c ∧ c.length ≤ 20 ∧ OG (n + c.length) g F9 a ∧ RL9 (k + l.length + 1) i K F N0 N1 N2 N3 N4 T σ = RL9 (k + l.length) (i + 1) K9 F9 N0 N1 N2 N3 N4 T9 σ := by
      have hm2 : ns ≤ 6 ∧ nc ≤ 6 ∧ nt ≤ 6 := by omega
      have h5 := ha.2.1
      rcases (show oF a 0 = 0 ∨ oF a 0 = 1 ∨ oF a 0 = 2 ∨ oF a 0 = 3 ∨ oF a 0 = 4 by omega) with e | e | e | e | e
      · exact ln_Ord0 h1 h2 h4 hNF hm2 ha e hK hF (by omega) hT (by omega)
      · exact ln_Ord1 h1 h2 h4 hNF hm2 ha e hK hF (by omega) hT (by omega)
      · exact ln_Ord2 h1 h2 h4 hNF hm2 ha e hK hF (by omega) hT (by omega)
      · exact ln_Ord3 h1 h2 h4 hNF hm2 ha e hK hF (by omega) hT (by omega)
      · exact ln_Ord4 h1 h2 h4 hNF hm2 ha e hK hF (by omega) hT (by omega)
    obtain ⟨K1, F1, T1, g, c, k1, s1, s2, s3, s4, e1⟩ := step
    rw [← e2] at k1
    have ea : d ++ a :: l = (d ++ [a]) ++ l := by rw [List.append_assoc]; rfl
    obtain ⟨K9, F9, T9, L9, n9, r1, r2, r3, r4, r5, r6⟩ := all_Ord h0 h1 h2 h3 h4 hm l (j + 1) k (i + 1) (n + c.length) K1 F1 T1 (d ++ [a]) (L ++ [g]) k1 s2.sz (by omega) s1 (by rw [List.length_append, List.length_append, hL]; rfl) (by rw [List.length_append, List.length_append, List.length_singleton]; omega) (fun b hb => hok b (List.mem_cons_of_mem _ hb)) (fun r b hb => by
      rw [getD_sn]
      by_cases er : r = L.length
      · rw [if_pos er]
        rw [er, hL, List.getElem?_append_right (Nat.le_refl _), Nat.sub_self] at hb
        cases hb
        exact s4
      · rw [if_neg er]
        have hr : r < d.length := by
          have := (List.getElem?_eq_some_iff.mp hb).1
          rw [List.length_append, List.length_singleton] at this
          omega
        rw [List.getElem?_append_left hr] at hb
        exact (hg r b hb).fa s2)
    refine ⟨K9, F9, T9, L9, n9, r1, r2, r3, by rw [ea]; exact r4, by rw [ea]; exact r5, ?_⟩
    rw [List.length_cons, show k + (l.length + 1) = k + l.length + 1 by omega, show i + (l.length + 1) = i + 1 + l.length by omega]
    exact e1.trans r6
theorem rl_end {k i : Nat} {K : TK} {σ : GL} (hK : KR ((52, 0) :: t) K) : RL9 k i K F N0 N1 N2 N3 N4 T σ = (K, F, (0, -1), N0, N1, N2, N3, N4, T, σ) := by
  have hs : s_Tokens_sign K = 52 := hK.sn.1
  show l_Teacher_readList_2 k i K F (0, -1) N0 N1 N2 N3 N4 T σ = _
  cases k with
  | zero => rfl
  | succ k => rw [l_Teacher_readList_2, hs, if_pos (by decide)]
end Al9
theorem nk0 {c : Int32} : NK c 0 new_nm := ⟨rfl, fun k hk => absurd hk (by omega)⟩

set_option maxRecDepth 100000 in
set_option maxHeartbeats 2000000 in
theorem list_read {D : DL} (hD : DOk D) {K : TK} {F : FM} {T : TM} {σ : GL} (hK : KR (dTk D ++ [(52, 0)]) K) (hF : fm_sz F = 0) (hT : T.2 = 0) (hσ : ∀ k, k < 5 → gN σ k = 0) (hw : ∀ j, j < 8 → gW σ j = 10) : ∃ K9 F9 T9 σ9 M0 M1 M2 M3 M4, s_Teacher_readList K F (0, -1) new_nm new_nm new_nm new_nm new_nm T σ = (K9, F9, (0, -1), M0, M1, M2, M3, M4, T9, σ9) ∧ tk_br K9 = -1 ∧ (∀ k, k < 5 → RW σ9 k (dRS D k)) ∧ (∀ j, j < 8 → gW σ9 j = wF (d_w D) j) ∧ σ9.2.2 = σ.2.2 ∧ T9.2 = (d_o D).length ∧ ∀ r a, (d_o D)[r]? = some a → OC T9 F9 r a := by
  obtain ⟨h0, h1, h2, h3, h4, h5, h6, k0, kp, k1, k2, k3, k4, k5, k6⟩ := hD
  obtain ⟨lb, ls, lc, ld, lt, lw, lo⟩ := D
  dsimp only [d_b, d_s, d_c, d_d, d_t, d_w, d_o] at *
  have rw0 : ∀ k, k < 5 → RW σ k [] := fun k hk => ⟨hσ k hk, fun r hr => absurd hr (by rw [List.length_nil]; omega)⟩
  have hK : KR (kAllF kBand 0 lb ++ (kAllF kStake 0 ls ++ (kAllF kCrev 0 lc ++ (kAllF kDepot 0 ld ++ (kAllF kTeam 0 lt ++ (kAllF kDay 0 lw ++ (kAllF kOrd 0 lo ++ [(52, 0)]))))))) K := by
    have h9 := hK
    unfold dTk at h9
    simp only [List.append_assoc, List.nil_append] at h9
    exact h9
  obtain ⟨n, hn⟩ : ∃ n, 400 = ((((((n + lo.length) + lw.length) + lt.length) + ld.length) + lc.length) + ls.length) + lb.length := ⟨400 - (lo.length + lw.length + lt.length + ld.length + lc.length + ls.length + lb.length), by omega⟩
  unfold s_Teacher_readList
  rw [hn]
  obtain ⟨p6, t6, e6⟩ := app_cons (kAllF kOrd 0 lo) (52, 0) []
  obtain ⟨p5, t5, e5⟩ := app_cons (kAllF kDay 0 lw) p6 t6
  obtain ⟨p4, t4, e4⟩ := app_cons (kAllF kTeam 0 lt) p5 t5
  obtain ⟨p3, t3, e3⟩ := app_cons (kAllF kDepot 0 ld) p4 t4
  obtain ⟨p2, t2, e2⟩ := app_cons (kAllF kCrev 0 lc) p3 t3
  obtain ⟨p1, t1, e1⟩ := app_cons (kAllF kStake 0 ls) p2 t2
  rw [e6, e5, e4, e3, e2, e1] at hK
  obtain ⟨Ka, M0, σa, a1, a2, a3, a4, a5⟩ := all_Band (F := F) (T := T) (N1 := new_nm) (N2 := new_nm) (N3 := new_nm) (N4 := new_nm) lb [] _ 0 K new_nm σ hK nk0 (rw0 0 (by decide)) (by rw [List.nil_append]; omega) k0 (by rw [List.nil_append]; exact kp)
  rw [List.nil_append] at a2 a3
  rw [← e1] at a1
  obtain ⟨Kb, M1, σb, b1, b2, b3, b4, b5⟩ := all_Stake (F := F) (T := T) (N2 := new_nm) (N3 := new_nm) (N4 := new_nm) a2 (by omega) ls [] _ _ Ka new_nm σa a1 nk0 (by show RWt (σa.1 1) []; rw [a4.1 1 (by decide)]; exact rw0 1 (by decide)) (by rw [List.nil_append]; omega) k1
  rw [List.nil_append] at b2 b3
  rw [← e2] at b1
  obtain ⟨Kc, M2, σc, c1, c2, c3, c4, c5⟩ := all_Crevasse (F := F) (T := T) (N1 := M1) (N3 := new_nm) (N4 := new_nm) a2 (by omega) lc [] _ _ Kb new_nm σb b1 nk0 (by show RWt (σb.1 2) []; rw [b4.1 2 (by decide), a4.1 2 (by decide)]; exact rw0 2 (by decide)) (by rw [List.nil_append]; omega) k2
  rw [List.nil_append] at c2 c3
  rw [← e3] at c1
  obtain ⟨Kd, M3, σd, d1, d2, d3, d4, d5⟩ := all_Depot (F := F) (T := T) (N1 := M1) (N2 := M2) (N4 := new_nm) a2 (by omega) ld [] _ _ Kc new_nm σc c1 nk0 (by show RWt (σc.1 3) []; rw [c4.1 3 (by decide), b4.1 3 (by decide), a4.1 3 (by decide)]; exact rw0 3 (by decide)) (by rw [List.nil_append]; omega) k3
  rw [List.nil_append] at d2 d3
  rw [← e4] at d1
  obtain ⟨Ke, M4, σe, f1, f2, f3, f4, f5⟩ := all_Team (F := F) (T := T) (N1 := M1) (N2 := M2) (N3 := M3) a2 (by omega) lt [] _ _ Kd new_nm σd d1 nk0 (by show RWt (σd.1 4) []; rw [d4.1 4 (by decide), c4.1 4 (by decide), b4.1 4 (by decide), a4.1 4 (by decide)]; exact rw0 4 (by decide)) (by rw [List.nil_append]; omega) k4
  rw [List.nil_append] at f2 f3
  rw [← e5] at f1
  have hw2 : ∀ j, j < 8 → gW σe j = 10 := fun j hj => by
    show σe.2.1 j = 10
    rw [f4.2, d4.2, c4.2, b4.2, a4.2]
    exact hw j hj
  obtain ⟨Kf, σf, g1, g2, g3, g4, g5⟩ := all_Day (F := F) (T := T) (N0 := M0) (N1 := M1) (N2 := M2) (N3 := M3) (N4 := M4) lw 0 _ _ Ke σe (fun _ => 10) f1 hw2 k5
  rw [← e6] at g1
  obtain ⟨Kg, F9, T9, L9, n9, o1, o2, o3, o4, o5, o6⟩ := all_Ord (σ := σf) a2 b2 c2 d2 f2 (by omega) lo 0 n _ 0 Kf F T [] [] g1 hF (by omega) ⟨hT, fun r hr => absurd hr (by rw [List.length_nil]; omega)⟩ rfl (by rw [List.nil_append]; omega) k6 (fun r a h => by cases h)
  rw [List.nil_append] at o4 o5
  refine ⟨Kg, F9, T9, σf, M0, M1, M2, M3, M4, ?_, o1.1, fun k hk => ?_, g2, ?_, by rw [o3.1, o4], fun r a hr => ?_⟩
  · exact a5.trans (b5.trans (c5.trans (d5.trans (f5.trans (g5.trans (o6.trans (rl_end o1)))))))
  · show RWt (σf.1 k) _
    rw [g3]
    match k, hk with
    | 0, _ =>
      rw [f4.1 0 (by decide), d4.1 0 (by decide), c4.1 0 (by decide), b4.1 0 (by decide)]
      exact a3
    | 1, _ =>
      rw [f4.1 1 (by decide), d4.1 1 (by decide), c4.1 1 (by decide)]
      exact b3
    | 2, _ =>
      rw [f4.1 2 (by decide), d4.1 2 (by decide)]
      exact c3
    | 3, _ =>
      rw [f4.1 3 (by decide)]
      exact d3
    | 4, _ => exact f3
  · rw [g4, f4.2, d4.2, c4.2, b4.2, a4.2]
  · have hr2 := (List.getElem?_eq_some_iff.mp hr).1
    exact (o5 r a hr).oc o2 (fun c hc => o3.2 r (by omega) c hc)
