/-! the pure part: going and probing -/
theorem RB.g_0_0 {σ : GL} {H : SH} {Y : SX} {r : Nat} (hB : RB σ H Y) (hr : r < sh_ha H 0) (hC : RC H) : gG σ 0 (nI r) 0 = sh_hg H r := (gG_at hB.1.1 hr (by unfold RC at hC; omega)).trans (hB.2.1 r hr).1
theorem RB.g_0_1 {σ : GL} {H : SH} {Y : SX} {r : Nat} (hB : RB σ H Y) (hr : r < sh_ha H 0) (hC : RC H) : gG σ 0 (nI r) 1 = sx_sn Y r := (gG_at hB.1.1 hr (by unfold RC at hC; omega)).trans (hB.2.1 r hr).2.1
theorem RB.g_0_2 {σ : GL} {H : SH} {Y : SX} {r : Nat} (hB : RB σ H Y) (hr : r < sh_ha H 0) (hC : RC H) : gG σ 0 (nI r) 2 = sx_ic Y r := (gG_at hB.1.1 hr (by unfold RC at hC; omega)).trans (hB.2.1 r hr).2.2
theorem RB.g_1_0 {σ : GL} {H : SH} {Y : SX} {r : Nat} (hB : RB σ H Y) (hr : r < sh_ha H 3) (hC : RC H) : gG σ 1 (nI r) 0 = sh_si H r := (gG_at hB.1.2.1 hr (by unfold RC at hC; omega)).trans (hB.2.2.1 r hr).1
theorem RB.g_1_1 {σ : GL} {H : SH} {Y : SX} {r : Nat} (hB : RB σ H Y) (hr : r < sh_ha H 3) (hC : RC H) : gG σ 1 (nI r) 1 = sh_dp H r := (gG_at hB.1.2.1 hr (by unfold RC at hC; omega)).trans (hB.2.2.1 r hr).2.1
theorem RB.g_1_2 {σ : GL} {H : SH} {Y : SX} {r : Nat} (hB : RB σ H Y) (hr : r < sh_ha H 3) (hC : RC H) : gG σ 1 (nI r) 2 = sx_ou Y r := (gG_at hB.1.2.1 hr (by unfold RC at hC; omega)).trans (hB.2.2.1 r hr).2.2.1
theorem RB.g_1_3 {σ : GL} {H : SH} {Y : SX} {r : Nat} (hB : RB σ H Y) (hr : r < sh_ha H 3) (hC : RC H) : gG σ 1 (nI r) 3 = sx_sd Y r := (gG_at hB.1.2.1 hr (by unfold RC at hC; omega)).trans (hB.2.2.1 r hr).2.2.2.1
theorem RB.g_1_4 {σ : GL} {H : SH} {Y : SX} {r : Nat} (hB : RB σ H Y) (hr : r < sh_ha H 3) (hC : RC H) : gG σ 1 (nI r) 4 = sx_la Y r := (gG_at hB.1.2.1 hr (by unfold RC at hC; omega)).trans (hB.2.2.1 r hr).2.2.2.2.1
theorem RB.g_1_5 {σ : GL} {H : SH} {Y : SX} {r : Nat} (hB : RB σ H Y) (hr : r < sh_ha H 3) (hC : RC H) : gG σ 1 (nI r) 5 = sx_re Y r := (gG_at hB.1.2.1 hr (by unfold RC at hC; omega)).trans (hB.2.2.1 r hr).2.2.2.2.2
theorem RB.g_2_0 {σ : GL} {H : SH} {Y : SX} {r : Nat} (hB : RB σ H Y) (hr : r < sh_ha H 6) (hC : RC H) : gG σ 2 (nI r) 0 = sh_ab H r := (gG_at hB.1.2.2.1 hr (by unfold RC at hC; omega)).trans (hB.2.2.2.1 r hr).1
theorem RB.g_2_1 {σ : GL} {H : SH} {Y : SX} {r : Nat} (hB : RB σ H Y) (hr : r < sh_ha H 6) (hC : RC H) : gG σ 2 (nI r) 1 = sx_br Y r := (gG_at hB.1.2.2.1 hr (by unfold RC at hC; omega)).trans (hB.2.2.2.1 r hr).2.1
theorem RB.g_2_2 {σ : GL} {H : SH} {Y : SX} {r : Nat} (hB : RB σ H Y) (hr : r < sh_ha H 6) (hC : RC H) : gG σ 2 (nI r) 2 = sx_kn Y r := (gG_at hB.1.2.2.1 hr (by unfold RC at hC; omega)).trans (hB.2.2.2.1 r hr).2.2.1
theorem RB.g_2_3 {σ : GL} {H : SH} {Y : SX} {r : Nat} (hB : RB σ H Y) (hr : r < sh_ha H 6) (hC : RC H) : gG σ 2 (nI r) 3 = sx_pr Y r := (gG_at hB.1.2.2.1 hr (by unfold RC at hC; omega)).trans (hB.2.2.2.1 r hr).2.2.2.1
theorem RB.g_2_4 {σ : GL} {H : SH} {Y : SX} {r : Nat} (hB : RB σ H Y) (hr : r < sh_ha H 6) (hC : RC H) : gG σ 2 (nI r) 4 = sx_cr Y r := (gG_at hB.1.2.2.1 hr (by unfold RC at hC; omega)).trans (hB.2.2.2.1 r hr).2.2.2.2.1
theorem RB.g_2_5 {σ : GL} {H : SH} {Y : SX} {r : Nat} (hB : RB σ H Y) (hr : r < sh_ha H 6) (hC : RC H) : gG σ 2 (nI r) 5 = sx_fe Y r := (gG_at hB.1.2.2.1 hr (by unfold RC at hC; omega)).trans (hB.2.2.2.1 r hr).2.2.2.2.2
theorem RB.g_3_0 {σ : GL} {H : SH} {Y : SX} {r : Nat} (hB : RB σ H Y) (hr : r < sh_ha H 9) (hC : RC H) : gG σ 3 (nI r) 0 = sh_di H r := (gG_at hB.1.2.2.2.1 hr (by unfold RC at hC; omega)).trans (hB.2.2.2.2.1 r hr).1
theorem RB.g_3_1 {σ : GL} {H : SH} {Y : SX} {r : Nat} (hB : RB σ H Y) (hr : r < sh_ha H 9) (hC : RC H) : gG σ 3 (nI r) 1 = sx_fo Y r := (gG_at hB.1.2.2.2.1 hr (by unfold RC at hC; omega)).trans (hB.2.2.2.2.1 r hr).2
theorem RB.g_4_0 {σ : GL} {H : SH} {Y : SX} {r : Nat} (hB : RB σ H Y) (hr : r < sh_ha H 11) (hC : RC H) : gG σ 4 (nI r) 0 = sh_sz H r := (gG_at hB.1.2.2.2.2 hr (by unfold RC at hC; omega)).trans (hB.2.2.2.2.2.1 r hr).1
theorem RB.g_4_1 {σ : GL} {H : SH} {Y : SX} {r : Nat} (hB : RB σ H Y) (hr : r < sh_ha H 11) (hC : RC H) : gG σ 4 (nI r) 1 = sx_sk Y r := (gG_at hB.1.2.2.2.2 hr (by unfold RC at hC; omega)).trans (hB.2.2.2.2.2.1 r hr).2.1
theorem RB.g_4_2 {σ : GL} {H : SH} {Y : SX} {r : Nat} (hB : RB σ H Y) (hr : r < sh_ha H 11) (hC : RC H) : gG σ 4 (nI r) 2 = sx_pl Y r := (gG_at hB.1.2.2.2.2 hr (by unfold RC at hC; omega)).trans (hB.2.2.2.2.2.1 r hr).2.2.1
theorem RB.g_4_3 {σ : GL} {H : SH} {Y : SX} {r : Nat} (hB : RB σ H Y) (hr : r < sh_ha H 11) (hC : RC H) : gG σ 4 (nI r) 3 = sx_hu Y r := (gG_at hB.1.2.2.2.2 hr (by unfold RC at hC; omega)).trans (hB.2.2.2.2.2.1 r hr).2.2.2.1
theorem RB.g_4_4 {σ : GL} {H : SH} {Y : SX} {r : Nat} (hB : RB σ H Y) (hr : r < sh_ha H 11) (hC : RC H) : gG σ 4 (nI r) 4 = sx_he Y r := (gG_at hB.1.2.2.2.2 hr (by unfold RC at hC; omega)).trans (hB.2.2.2.2.2.1 r hr).2.2.2.2.1
theorem RB.g_4_5 {σ : GL} {H : SH} {Y : SX} {r : Nat} (hB : RB σ H Y) (hr : r < sh_ha H 11) (hC : RC H) : gG σ 4 (nI r) 5 = sx_ma Y r := (gG_at hB.1.2.2.2.2 hr (by unfold RC at hC; omega)).trans (hB.2.2.2.2.2.1 r hr).2.2.2.2.2.1
theorem RB.g_4_6 {σ : GL} {H : SH} {Y : SX} {r : Nat} (hB : RB σ H Y) (hr : r < sh_ha H 11) (hC : RC H) : gG σ 4 (nI r) 6 = sx_fn Y r := (gG_at hB.1.2.2.2.2 hr (by unfold RC at hC; omega)).trans (hB.2.2.2.2.2.1 r hr).2.2.2.2.2.2.1
theorem RB.g_4_7 {σ : GL} {H : SH} {Y : SX} {r : Nat} (hB : RB σ H Y) (hr : r < sh_ha H 11) (hC : RC H) : gG σ 4 (nI r) 7 = sx_do Y r := (gG_at hB.1.2.2.2.2 hr (by unfold RC at hC; omega)).trans (hB.2.2.2.2.2.1 r hr).2.2.2.2.2.2.2
theorem Int32_sub0 (x : Int32) : x - 0 = x := by simp
theorem weak_eq {σ : GL} {H : SH} {Y : SX} {M : MO} {i t : Nat} {x : Int32} (hB : RB σ H Y) (hC : RC H) (hi : i < sh_ha H 6) (ht : t < sh_ha H 11) : s_Glacier_isTooWeak σ (nI i) (nI t) x = if sh_ab H i = s_Model_wayOf Y t x then s_Model_isWeak M H Y i t else 0 := by
  unfold s_Glacier_isTooWeak s_Model_wayOf s_Model_isWeak
  rw [hB.g_2_0 hi hC, hB.g_4_2 ht hC, hB.g_4_0 ht hC, hB.g_2_1 hi hC, Int32_sub0]
  by_cases h : x = 0
  · rw [if_pos h, if_pos h]
  · rw [if_neg h, if_neg h]
theorem canDo_eq {σ : GL} {H : SH} {Y : SX} {t : Nat} (hB : RB σ H Y) (hC : RC H) (ht : t < sh_ha H 11) : s_Glacier_canDo σ (nI t) = if sx_he Y t = 1 ∧ sx_do Y t = 0 then 1 else 0 := by
  unfold s_Glacier_canDo
  rw [hB.g_4_4 ht hC, hB.g_4_7 ht hC]
  by_cases h : sx_he Y t = 1
  · by_cases h2 : sx_do Y t = 0
    · rw [if_pos h, if_pos h2, if_pos ⟨h, h2⟩]
    · rw [if_pos h, if_neg h2, if_neg (fun w => h2 w.2)]
  · rw [if_neg h, if_neg (fun w => h w.1)]
theorem go_loop {σ : GL} {H : SH} {Y : SX} {M : MO} {t : Nat} {x : Int32} (hB : RB σ H Y) (hC : RC H) (ht : t < sh_ha H 11) : ∀ k i, i + k ≤ sh_ha H 6 → l_Glacier_canGo_44 (nI t) x σ k i = l_Model_canGo_53 M H Y t x (s_Model_wayOf Y t x) k i := by
  intro k
  induction k with
  | zero => intro i _; rfl
  | succ k ih =>
    intro i h
    show (if s_Glacier_isTooWeak σ (nI i) (nI t) x = 0 then l_Glacier_canGo_44 (nI t) x σ k (i + 1) else (if gG σ 2 (nI i) 2 ≤ 0 then l_Glacier_canGo_44 (nI t) x σ k (i + 1) else 0)) = (if sh_ab H i = s_Model_wayOf Y t x then (if sx_kn Y i ≤ 0 then l_Model_canGo_53 M H Y t x (s_Model_wayOf Y t x) k (i + 1) else (if s_Model_isWeak M H Y i t = 0 then l_Model_canGo_53 M H Y t x (s_Model_wayOf Y t x) k (i + 1) else 0)) else l_Model_canGo_53 M H Y t x (s_Model_wayOf Y t x) k (i + 1))
    rw [ih (i + 1) (by omega), hB.g_2_2 (by omega) hC, weak_eq (M := M) hB hC (by omega) ht]
    by_cases h1 : sh_ab H i = s_Model_wayOf Y t x
    · rw [if_pos h1, if_pos h1]
      by_cases h2 : s_Model_isWeak M H Y i t = 0
      · by_cases h3 : sx_kn Y i ≤ 0
        · rw [if_pos h2, if_pos h3]
        · rw [if_pos h2, if_neg h3, if_pos h2]
      · by_cases h3 : sx_kn Y i ≤ 0
        · rw [if_neg h2, if_pos h3, if_pos h3]
        · rw [if_neg h2, if_neg h3, if_neg h3, if_neg h2]
    · rw [if_neg h1, if_neg h1, if_pos rfl]
theorem gH_at {σ : GL} {k n : Nat} (hn : gN σ k = n) (hb : n ≤ 1000) {j : Nat} (hj : j < 2 ^ 31) : gH σ k (nI j) = if j < n then 1 else 0 := by
  unfold gH
  rw [hn]
  by_cases h : j < n
  · rw [if_pos ⟨nI_pos' hj, (nI_ltI hj (by omega)).mpr h⟩, if_pos h]
  · rw [if_neg (fun w => h ((nI_ltI hj (by omega)).mp w.2)), if_neg h]
theorem gH_m1 {σ : GL} {k : Nat} : gH σ k (-1) = 0 := if_neg (fun w => absurd w.1 (by decide))
theorem canGo_eq {σ : GL} {H : SH} {Y : SX} {M : MO} {t : Nat} {x : Int32} (hB : RB σ H Y) (hC : RC H) (hR : RR H Y) (ht : t < sh_ha H 11) : s_Glacier_canGo σ (nI t) x = s_Model_canGo M H Y t x := by
  obtain ⟨⟨b, hb, hpl⟩, -, -, ⟨e1, he1, -, he2⟩, ⟨d1, hd1, -, hd2⟩, -⟩ := hR.2.2.2.2 t ht
  have hb5 : sh_ha H 0 ≤ 5 := hC.1
  unfold s_Glacier_canGo s_Model_canGo
  rw [canDo_eq hB hC ht, hB.g_4_2 ht hC, show gN σ 2 = sh_ha H 6 from hB.1.2.2.1, go_loop (M := M) hB hC ht _ 0 (by omega), hpl, he1, hd1]
  have hw : s_Model_wayOf Y t x = if x = 0 then nI b - 1 else nI b := by unfold s_Model_wayOf; rw [hpl]
  have key : ∀ (z : Int32), (if nI e1 = 1 ∧ nI d1 = 0 then (1 : Int32) else 0) = (if e1 = 1 ∧ d1 = 0 then 1 else 0) := fun _ => by
    match e1, he2, d1, hd2 with
    | 0, _, 0, _ => rfl
    | 0, _, 1, _ => rfl
    | 1, _, 0, _ => rfl
    | 1, _, 1, _ => rfl
    | _ + 2, w, _, _ => exact absurd w (by omega)
    | _, _, _ + 2, w => exact absurd w (by omega)
  rw [key 0]
  match e1, he2, d1, hd2 with
  | _ + 2, w, _, _ => exact absurd w (by omega)
  | _, _, _ + 2, w => exact absurd w (by omega)
  | 0, _, 0, _ => (by_cases h : x = 0) <;> simp [h, nI_0]
  | 0, _, 1, _ => (by_cases h : x = 0) <;> simp [h, nI_0]
  | 1, _, 1, _ =>
    have h1 : (nI 1 : Int32) = 1 := rfl
    (by_cases h : x = 0) <;> simp [h, h1]
  | 1, _, 0, _ =>
    have h1 : (nI 1 : Int32) = 1 := rfl
    rw [if_neg (c := (nI 1 : Int32) = 0) (by decide), if_neg (c := (nI 0 : Int32) = 1) (by decide), if_pos (c := 1 = 1 ∧ 0 = 0) ⟨rfl, rfl⟩]
    by_cases h : x = 0
    · rw [if_pos h, hw, if_pos h]
      match b, hb with
      | 0, _ =>
        rw [show (nI 0 : Int32) + -1 = -1 from by decide, show (nI 0 : Int32) - 1 = -1 from by decide, gH_m1, if00, if_pos (c := (-1 : Int32) < 0) (by decide)]
        exact if10
      | b + 1, hb =>
        rw [show nI (b + 1) + -1 = nI b from (Int32.sub_eq_add_neg _ _).symm.trans (nI_pred b), gH_at hB.1.1 (by omega) (by omega), if_pos (c := b < sh_ha H 0) (by omega), if10, nI_pred, if_neg (nI_pos (by omega)), nI_1, if_pos ((nI_ltI (by omega) (by omega)).mpr hb)]
        exact if10
    · rw [if_neg h, hw, if_neg h, nI_1, gH_at hB.1.1 (by omega) (by omega), if_neg (nI_pos (by omega))]
      by_cases h2 : b + 1 < sh_ha H 0
      · rw [if_pos h2, if_pos ((nI_ltI (by omega) (by omega)).mpr h2), if10, if10]
      · rw [if_neg h2, if_neg (c := nI (b + 1) < nI (sh_ha H 0)) (fun w => h2 ((nI_ltI (by omega) (by omega)).mp w)), if00, if10]
