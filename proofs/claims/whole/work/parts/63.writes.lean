/-! the pure part: a cell written against an array written -/
/-- RG without the two sums -/
def RB (σ : GL) (H : SH) (Y : SX) : Prop :=
  (gN σ 0 = sh_ha H 0 ∧ gN σ 1 = sh_ha H 3 ∧ gN σ 2 = sh_ha H 6 ∧ gN σ 3 = sh_ha H 9 ∧ gN σ 4 = sh_ha H 11) ∧
  (∀ r, r < sh_ha H 0 → (σ.1 0).1 (8 * r + 0) = sh_hg H r ∧ (σ.1 0).1 (8 * r + 1) = sx_sn Y r ∧ (σ.1 0).1 (8 * r + 2) = sx_ic Y r) ∧
  (∀ r, r < sh_ha H 3 → (σ.1 1).1 (8 * r + 0) = sh_si H r ∧ (σ.1 1).1 (8 * r + 1) = sh_dp H r ∧ (σ.1 1).1 (8 * r + 2) = sx_ou Y r ∧ (σ.1 1).1 (8 * r + 3) = sx_sd Y r ∧ (σ.1 1).1 (8 * r + 4) = sx_la Y r ∧ (σ.1 1).1 (8 * r + 5) = sx_re Y r) ∧
  (∀ r, r < sh_ha H 6 → (σ.1 2).1 (8 * r + 0) = sh_ab H r ∧ (σ.1 2).1 (8 * r + 1) = sx_br Y r ∧ (σ.1 2).1 (8 * r + 2) = sx_kn Y r ∧ (σ.1 2).1 (8 * r + 3) = sx_pr Y r ∧ (σ.1 2).1 (8 * r + 4) = sx_cr Y r ∧ (σ.1 2).1 (8 * r + 5) = sx_fe Y r) ∧
  (∀ r, r < sh_ha H 9 → (σ.1 3).1 (8 * r + 0) = sh_di H r ∧ (σ.1 3).1 (8 * r + 1) = sx_fo Y r) ∧
  (∀ r, r < sh_ha H 11 → (σ.1 4).1 (8 * r + 0) = sh_sz H r ∧ (σ.1 4).1 (8 * r + 1) = sx_sk Y r ∧ (σ.1 4).1 (8 * r + 2) = sx_pl Y r ∧ (σ.1 4).1 (8 * r + 3) = sx_hu Y r ∧ (σ.1 4).1 (8 * r + 4) = sx_he Y r ∧ (σ.1 4).1 (8 * r + 5) = sx_ma Y r ∧ (σ.1 4).1 (8 * r + 6) = sx_fn Y r ∧ (σ.1 4).1 (8 * r + 7) = sx_do Y r) ∧
  ((∀ i, i < 8 → gW σ i = sx_wa Y i) ∧ gD σ = nI (sx_dy Y) ∧ gC σ = sx_ca Y)
def RU (H : SH) (Y : SX) : Prop := sx_rd Y = sumR (sx_ma Y) (sh_ha H 11) ∧ sx_fa Y = sumR (sx_fn Y) (sh_ha H 11)
theorem RG.rb {σ : GL} {H : SH} {Y : SX} (h : RG σ H Y) : RB σ H Y := ⟨h.1, h.2.1, h.2.2.1, h.2.2.2.1, h.2.2.2.2.1, h.2.2.2.2.2.1, h.rest.1, h.rest.2.1, h.rest.2.2.1⟩
theorem RG.ru {σ : GL} {H : SH} {Y : SX} (h : RG σ H Y) : RU H Y := h.rest.2.2.2
theorem RB.rg {σ : GL} {H : SH} {Y : SX} (h : RB σ H Y) (u : RU H Y) : RG σ H Y := ⟨h.1, h.2.1, h.2.2.1, h.2.2.2.1, h.2.2.2.2.1, h.2.2.2.2.2.1, h.2.2.2.2.2.2.1, h.2.2.2.2.2.2.2.1, h.2.2.2.2.2.2.2.2, u⟩
theorem cell_upd {f : Nat → Int32} {r i c c' : Nat} {v : Int32} (hc : c < 8) (hc' : c' < 8) : upd f (8 * r + c) v (8 * i + c') = if i = r ∧ c' = c then v else f (8 * i + c') := by
  unfold upd
  by_cases h : i = r ∧ c' = c
  · rw [if_pos h, if_pos (by omega)]
  · rw [if_neg h, if_neg (by omega)]
theorem cell_ne {f : Nat → Int32} {r i c c' : Nat} {v : Int32} (hc : c < 8) (hc' : c' < 8) (h : c' ≠ c) : upd f (8 * r + c) v (8 * i + c') = f (8 * i + c') := by rw [cell_upd hc hc', if_neg (fun w => h w.2)]
theorem cell_eq {f g : Nat → Int32} {r i c : Nat} {v : Int32} (hc : c < 8) (h : f (8 * i + c) = g i) : upd f (8 * r + c) v (8 * i + c) = upd g r v i := by
  rw [cell_upd hc hc]
  unfold upd
  by_cases e : i = r
  · rw [if_pos ⟨e, rfl⟩, if_pos e]
  · rw [if_neg (fun w => e w.1), if_neg e, h]
theorem RB.w_0_1 {σ : GL} {H : SH} {Y : SX} {r : Nat} {v : Int32} (hB : RB σ H Y) (hr : r < sh_ha H 0) (hb : sh_ha H 0 ≤ 1000) : RB (gS σ 0 (nI r) 1 v) H (sx_sn' Y (upd (sx_sn Y) r v)) := by
  have hn : (σ.1 0).2 = sh_ha H 0 := hB.1.1
  have e : gS σ 0 (nI r) 1 v = gP σ 0 (upd (σ.1 0).1 (8 * r + 1) v, (σ.1 0).2) := by
    unfold gS
    rw [tsI_at (by omega) (by omega)]
  rw [e]
  exact ⟨⟨hB.1.1, hB.1.2.1, hB.1.2.2.1, hB.1.2.2.2.1, hB.1.2.2.2.2⟩, fun i hi => ⟨(cell_ne (by decide) (by decide) (by decide)).trans ((hB.2.1 i hi).1), cell_eq (by decide) ((hB.2.1 i hi).2.1), (cell_ne (by decide) (by decide) (by decide)).trans ((hB.2.1 i hi).2.2)⟩, hB.2.2.1, hB.2.2.2.1, hB.2.2.2.2.1, hB.2.2.2.2.2.1, hB.2.2.2.2.2.2⟩
theorem RB.w_0_2 {σ : GL} {H : SH} {Y : SX} {r : Nat} {v : Int32} (hB : RB σ H Y) (hr : r < sh_ha H 0) (hb : sh_ha H 0 ≤ 1000) : RB (gS σ 0 (nI r) 2 v) H (sx_ic' Y (upd (sx_ic Y) r v)) := by
  have hn : (σ.1 0).2 = sh_ha H 0 := hB.1.1
  have e : gS σ 0 (nI r) 2 v = gP σ 0 (upd (σ.1 0).1 (8 * r + 2) v, (σ.1 0).2) := by
    unfold gS
    rw [tsI_at (by omega) (by omega)]
  rw [e]
  exact ⟨⟨hB.1.1, hB.1.2.1, hB.1.2.2.1, hB.1.2.2.2.1, hB.1.2.2.2.2⟩, fun i hi => ⟨(cell_ne (by decide) (by decide) (by decide)).trans ((hB.2.1 i hi).1), (cell_ne (by decide) (by decide) (by decide)).trans ((hB.2.1 i hi).2.1), cell_eq (by decide) ((hB.2.1 i hi).2.2)⟩, hB.2.2.1, hB.2.2.2.1, hB.2.2.2.2.1, hB.2.2.2.2.2.1, hB.2.2.2.2.2.2⟩
theorem RB.w_1_2 {σ : GL} {H : SH} {Y : SX} {r : Nat} {v : Int32} (hB : RB σ H Y) (hr : r < sh_ha H 3) (hb : sh_ha H 3 ≤ 1000) : RB (gS σ 1 (nI r) 2 v) H (sx_ou' Y (upd (sx_ou Y) r v)) := by
  have hn : (σ.1 1).2 = sh_ha H 3 := hB.1.2.1
  have e : gS σ 1 (nI r) 2 v = gP σ 1 (upd (σ.1 1).1 (8 * r + 2) v, (σ.1 1).2) := by
    unfold gS
    rw [tsI_at (by omega) (by omega)]
  rw [e]
  exact ⟨⟨hB.1.1, hB.1.2.1, hB.1.2.2.1, hB.1.2.2.2.1, hB.1.2.2.2.2⟩, hB.2.1, fun i hi => ⟨(cell_ne (by decide) (by decide) (by decide)).trans ((hB.2.2.1 i hi).1), (cell_ne (by decide) (by decide) (by decide)).trans ((hB.2.2.1 i hi).2.1), cell_eq (by decide) ((hB.2.2.1 i hi).2.2.1), (cell_ne (by decide) (by decide) (by decide)).trans ((hB.2.2.1 i hi).2.2.2.1), (cell_ne (by decide) (by decide) (by decide)).trans ((hB.2.2.1 i hi).2.2.2.2.1), (cell_ne (by decide) (by decide) (by decide)).trans ((hB.2.2.1 i hi).2.2.2.2.2)⟩, hB.2.2.2.1, hB.2.2.2.2.1, hB.2.2.2.2.2.1, hB.2.2.2.2.2.2⟩
theorem RB.w_1_3 {σ : GL} {H : SH} {Y : SX} {r : Nat} {v : Int32} (hB : RB σ H Y) (hr : r < sh_ha H 3) (hb : sh_ha H 3 ≤ 1000) : RB (gS σ 1 (nI r) 3 v) H (sx_sd' Y (upd (sx_sd Y) r v)) := by
  have hn : (σ.1 1).2 = sh_ha H 3 := hB.1.2.1
  have e : gS σ 1 (nI r) 3 v = gP σ 1 (upd (σ.1 1).1 (8 * r + 3) v, (σ.1 1).2) := by
    unfold gS
    rw [tsI_at (by omega) (by omega)]
  rw [e]
  exact ⟨⟨hB.1.1, hB.1.2.1, hB.1.2.2.1, hB.1.2.2.2.1, hB.1.2.2.2.2⟩, hB.2.1, fun i hi => ⟨(cell_ne (by decide) (by decide) (by decide)).trans ((hB.2.2.1 i hi).1), (cell_ne (by decide) (by decide) (by decide)).trans ((hB.2.2.1 i hi).2.1), (cell_ne (by decide) (by decide) (by decide)).trans ((hB.2.2.1 i hi).2.2.1), cell_eq (by decide) ((hB.2.2.1 i hi).2.2.2.1), (cell_ne (by decide) (by decide) (by decide)).trans ((hB.2.2.1 i hi).2.2.2.2.1), (cell_ne (by decide) (by decide) (by decide)).trans ((hB.2.2.1 i hi).2.2.2.2.2)⟩, hB.2.2.2.1, hB.2.2.2.2.1, hB.2.2.2.2.2.1, hB.2.2.2.2.2.2⟩
theorem RB.w_1_4 {σ : GL} {H : SH} {Y : SX} {r : Nat} {v : Int32} (hB : RB σ H Y) (hr : r < sh_ha H 3) (hb : sh_ha H 3 ≤ 1000) : RB (gS σ 1 (nI r) 4 v) H (sx_la' Y (upd (sx_la Y) r v)) := by
  have hn : (σ.1 1).2 = sh_ha H 3 := hB.1.2.1
  have e : gS σ 1 (nI r) 4 v = gP σ 1 (upd (σ.1 1).1 (8 * r + 4) v, (σ.1 1).2) := by
    unfold gS
    rw [tsI_at (by omega) (by omega)]
  rw [e]
  exact ⟨⟨hB.1.1, hB.1.2.1, hB.1.2.2.1, hB.1.2.2.2.1, hB.1.2.2.2.2⟩, hB.2.1, fun i hi => ⟨(cell_ne (by decide) (by decide) (by decide)).trans ((hB.2.2.1 i hi).1), (cell_ne (by decide) (by decide) (by decide)).trans ((hB.2.2.1 i hi).2.1), (cell_ne (by decide) (by decide) (by decide)).trans ((hB.2.2.1 i hi).2.2.1), (cell_ne (by decide) (by decide) (by decide)).trans ((hB.2.2.1 i hi).2.2.2.1), cell_eq (by decide) ((hB.2.2.1 i hi).2.2.2.2.1), (cell_ne (by decide) (by decide) (by decide)).trans ((hB.2.2.1 i hi).2.2.2.2.2)⟩, hB.2.2.2.1, hB.2.2.2.2.1, hB.2.2.2.2.2.1, hB.2.2.2.2.2.2⟩
theorem RB.w_1_5 {σ : GL} {H : SH} {Y : SX} {r : Nat} {v : Int32} (hB : RB σ H Y) (hr : r < sh_ha H 3) (hb : sh_ha H 3 ≤ 1000) : RB (gS σ 1 (nI r) 5 v) H (sx_re' Y (upd (sx_re Y) r v)) := by
  have hn : (σ.1 1).2 = sh_ha H 3 := hB.1.2.1
  have e : gS σ 1 (nI r) 5 v = gP σ 1 (upd (σ.1 1).1 (8 * r + 5) v, (σ.1 1).2) := by
    unfold gS
    rw [tsI_at (by omega) (by omega)]
  rw [e]
  exact ⟨⟨hB.1.1, hB.1.2.1, hB.1.2.2.1, hB.1.2.2.2.1, hB.1.2.2.2.2⟩, hB.2.1, fun i hi => ⟨(cell_ne (by decide) (by decide) (by decide)).trans ((hB.2.2.1 i hi).1), (cell_ne (by decide) (by decide) (by decide)).trans ((hB.2.2.1 i hi).2.1), (cell_ne (by decide) (by decide) (by decide)).trans ((hB.2.2.1 i hi).2.2.1), (cell_ne (by decide) (by decide) (by decide)).trans ((hB.2.2.1 i hi).2.2.2.1), (cell_ne (by decide) (by decide) (by decide)).trans ((hB.2.2.1 i hi).2.2.2.2.1), cell_eq (by decide) ((hB.2.2.1 i hi).2.2.2.2.2)⟩, hB.2.2.2.1, hB.2.2.2.2.1, hB.2.2.2.2.2.1, hB.2.2.2.2.2.2⟩
theorem RB.w_2_1 {σ : GL} {H : SH} {Y : SX} {r : Nat} {v : Int32} (hB : RB σ H Y) (hr : r < sh_ha H 6) (hb : sh_ha H 6 ≤ 1000) : RB (gS σ 2 (nI r) 1 v) H (sx_br' Y (upd (sx_br Y) r v)) := by
  have hn : (σ.1 2).2 = sh_ha H 6 := hB.1.2.2.1
  have e : gS σ 2 (nI r) 1 v = gP σ 2 (upd (σ.1 2).1 (8 * r + 1) v, (σ.1 2).2) := by
    unfold gS
    rw [tsI_at (by omega) (by omega)]
  rw [e]
  exact ⟨⟨hB.1.1, hB.1.2.1, hB.1.2.2.1, hB.1.2.2.2.1, hB.1.2.2.2.2⟩, hB.2.1, hB.2.2.1, fun i hi => ⟨(cell_ne (by decide) (by decide) (by decide)).trans ((hB.2.2.2.1 i hi).1), cell_eq (by decide) ((hB.2.2.2.1 i hi).2.1), (cell_ne (by decide) (by decide) (by decide)).trans ((hB.2.2.2.1 i hi).2.2.1), (cell_ne (by decide) (by decide) (by decide)).trans ((hB.2.2.2.1 i hi).2.2.2.1), (cell_ne (by decide) (by decide) (by decide)).trans ((hB.2.2.2.1 i hi).2.2.2.2.1), (cell_ne (by decide) (by decide) (by decide)).trans ((hB.2.2.2.1 i hi).2.2.2.2.2)⟩, hB.2.2.2.2.1, hB.2.2.2.2.2.1, hB.2.2.2.2.2.2⟩
theorem RB.w_2_2 {σ : GL} {H : SH} {Y : SX} {r : Nat} {v : Int32} (hB : RB σ H Y) (hr : r < sh_ha H 6) (hb : sh_ha H 6 ≤ 1000) : RB (gS σ 2 (nI r) 2 v) H (sx_kn' Y (upd (sx_kn Y) r v)) := by
  have hn : (σ.1 2).2 = sh_ha H 6 := hB.1.2.2.1
  have e : gS σ 2 (nI r) 2 v = gP σ 2 (upd (σ.1 2).1 (8 * r + 2) v, (σ.1 2).2) := by
    unfold gS
    rw [tsI_at (by omega) (by omega)]
  rw [e]
  exact ⟨⟨hB.1.1, hB.1.2.1, hB.1.2.2.1, hB.1.2.2.2.1, hB.1.2.2.2.2⟩, hB.2.1, hB.2.2.1, fun i hi => ⟨(cell_ne (by decide) (by decide) (by decide)).trans ((hB.2.2.2.1 i hi).1), (cell_ne (by decide) (by decide) (by decide)).trans ((hB.2.2.2.1 i hi).2.1), cell_eq (by decide) ((hB.2.2.2.1 i hi).2.2.1), (cell_ne (by decide) (by decide) (by decide)).trans ((hB.2.2.2.1 i hi).2.2.2.1), (cell_ne (by decide) (by decide) (by decide)).trans ((hB.2.2.2.1 i hi).2.2.2.2.1), (cell_ne (by decide) (by decide) (by decide)).trans ((hB.2.2.2.1 i hi).2.2.2.2.2)⟩, hB.2.2.2.2.1, hB.2.2.2.2.2.1, hB.2.2.2.2.2.2⟩
theorem RB.w_2_3 {σ : GL} {H : SH} {Y : SX} {r : Nat} {v : Int32} (hB : RB σ H Y) (hr : r < sh_ha H 6) (hb : sh_ha H 6 ≤ 1000) : RB (gS σ 2 (nI r) 3 v) H (sx_pr' Y (upd (sx_pr Y) r v)) := by
  have hn : (σ.1 2).2 = sh_ha H 6 := hB.1.2.2.1
  have e : gS σ 2 (nI r) 3 v = gP σ 2 (upd (σ.1 2).1 (8 * r + 3) v, (σ.1 2).2) := by
    unfold gS
    rw [tsI_at (by omega) (by omega)]
  rw [e]
  exact ⟨⟨hB.1.1, hB.1.2.1, hB.1.2.2.1, hB.1.2.2.2.1, hB.1.2.2.2.2⟩, hB.2.1, hB.2.2.1, fun i hi => ⟨(cell_ne (by decide) (by decide) (by decide)).trans ((hB.2.2.2.1 i hi).1), (cell_ne (by decide) (by decide) (by decide)).trans ((hB.2.2.2.1 i hi).2.1), (cell_ne (by decide) (by decide) (by decide)).trans ((hB.2.2.2.1 i hi).2.2.1), cell_eq (by decide) ((hB.2.2.2.1 i hi).2.2.2.1), (cell_ne (by decide) (by decide) (by decide)).trans ((hB.2.2.2.1 i hi).2.2.2.2.1), (cell_ne (by decide) (by decide) (by decide)).trans ((hB.2.2.2.1 i hi).2.2.2.2.2)⟩, hB.2.2.2.2.1, hB.2.2.2.2.2.1, hB.2.2.2.2.2.2⟩
theorem RB.w_2_4 {σ : GL} {H : SH} {Y : SX} {r : Nat} {v : Int32} (hB : RB σ H Y) (hr : r < sh_ha H 6) (hb : sh_ha H 6 ≤ 1000) : RB (gS σ 2 (nI r) 4 v) H (sx_cr' Y (upd (sx_cr Y) r v)) := by
  have hn : (σ.1 2).2 = sh_ha H 6 := hB.1.2.2.1
  have e : gS σ 2 (nI r) 4 v = gP σ 2 (upd (σ.1 2).1 (8 * r + 4) v, (σ.1 2).2) := by
    unfold gS
    rw [tsI_at (by omega) (by omega)]
  rw [e]
  exact ⟨⟨hB.1.1, hB.1.2.1, hB.1.2.2.1, hB.1.2.2.2.1, hB.1.2.2.2.2⟩, hB.2.1, hB.2.2.1, fun i hi => ⟨(cell_ne (by decide) (by decide) (by decide)).trans ((hB.2.2.2.1 i hi).1), (cell_ne (by decide) (by decide) (by decide)).trans ((hB.2.2.2.1 i hi).2.1), (cell_ne (by decide) (by decide) (by decide)).trans ((hB.2.2.2.1 i hi).2.2.1), (cell_ne (by decide) (by decide) (by decide)).trans ((hB.2.2.2.1 i hi).2.2.2.1), cell_eq (by decide) ((hB.2.2.2.1 i hi).2.2.2.2.1), (cell_ne (by decide) (by decide) (by decide)).trans ((hB.2.2.2.1 i hi).2.2.2.2.2)⟩, hB.2.2.2.2.1, hB.2.2.2.2.2.1, hB.2.2.2.2.2.2⟩
theorem RB.w_2_5 {σ : GL} {H : SH} {Y : SX} {r : Nat} {v : Int32} (hB : RB σ H Y) (hr : r < sh_ha H 6) (hb : sh_ha H 6 ≤ 1000) : RB (gS σ 2 (nI r) 5 v) H (sx_fe' Y (upd (sx_fe Y) r v)) := by
  have hn : (σ.1 2).2 = sh_ha H 6 := hB.1.2.2.1
  have e : gS σ 2 (nI r) 5 v = gP σ 2 (upd (σ.1 2).1 (8 * r + 5) v, (σ.1 2).2) := by
    unfold gS
    rw [tsI_at (by omega) (by omega)]
  rw [e]
  exact ⟨⟨hB.1.1, hB.1.2.1, hB.1.2.2.1, hB.1.2.2.2.1, hB.1.2.2.2.2⟩, hB.2.1, hB.2.2.1, fun i hi => ⟨(cell_ne (by decide) (by decide) (by decide)).trans ((hB.2.2.2.1 i hi).1), (cell_ne (by decide) (by decide) (by decide)).trans ((hB.2.2.2.1 i hi).2.1), (cell_ne (by decide) (by decide) (by decide)).trans ((hB.2.2.2.1 i hi).2.2.1), (cell_ne (by decide) (by decide) (by decide)).trans ((hB.2.2.2.1 i hi).2.2.2.1), (cell_ne (by decide) (by decide) (by decide)).trans ((hB.2.2.2.1 i hi).2.2.2.2.1), cell_eq (by decide) ((hB.2.2.2.1 i hi).2.2.2.2.2)⟩, hB.2.2.2.2.1, hB.2.2.2.2.2.1, hB.2.2.2.2.2.2⟩
theorem RB.w_3_1 {σ : GL} {H : SH} {Y : SX} {r : Nat} {v : Int32} (hB : RB σ H Y) (hr : r < sh_ha H 9) (hb : sh_ha H 9 ≤ 1000) : RB (gS σ 3 (nI r) 1 v) H (sx_fo' Y (upd (sx_fo Y) r v)) := by
  have hn : (σ.1 3).2 = sh_ha H 9 := hB.1.2.2.2.1
  have e : gS σ 3 (nI r) 1 v = gP σ 3 (upd (σ.1 3).1 (8 * r + 1) v, (σ.1 3).2) := by
    unfold gS
    rw [tsI_at (by omega) (by omega)]
  rw [e]
  exact ⟨⟨hB.1.1, hB.1.2.1, hB.1.2.2.1, hB.1.2.2.2.1, hB.1.2.2.2.2⟩, hB.2.1, hB.2.2.1, hB.2.2.2.1, fun i hi => ⟨(cell_ne (by decide) (by decide) (by decide)).trans ((hB.2.2.2.2.1 i hi).1), cell_eq (by decide) ((hB.2.2.2.2.1 i hi).2)⟩, hB.2.2.2.2.2.1, hB.2.2.2.2.2.2⟩
theorem RB.w_4_1 {σ : GL} {H : SH} {Y : SX} {r : Nat} {v : Int32} (hB : RB σ H Y) (hr : r < sh_ha H 11) (hb : sh_ha H 11 ≤ 1000) : RB (gS σ 4 (nI r) 1 v) H (sx_sk' Y (upd (sx_sk Y) r v)) := by
  have hn : (σ.1 4).2 = sh_ha H 11 := hB.1.2.2.2.2
  have e : gS σ 4 (nI r) 1 v = gP σ 4 (upd (σ.1 4).1 (8 * r + 1) v, (σ.1 4).2) := by
    unfold gS
    rw [tsI_at (by omega) (by omega)]
  rw [e]
  exact ⟨⟨hB.1.1, hB.1.2.1, hB.1.2.2.1, hB.1.2.2.2.1, hB.1.2.2.2.2⟩, hB.2.1, hB.2.2.1, hB.2.2.2.1, hB.2.2.2.2.1, fun i hi => ⟨(cell_ne (by decide) (by decide) (by decide)).trans ((hB.2.2.2.2.2.1 i hi).1), cell_eq (by decide) ((hB.2.2.2.2.2.1 i hi).2.1), (cell_ne (by decide) (by decide) (by decide)).trans ((hB.2.2.2.2.2.1 i hi).2.2.1), (cell_ne (by decide) (by decide) (by decide)).trans ((hB.2.2.2.2.2.1 i hi).2.2.2.1), (cell_ne (by decide) (by decide) (by decide)).trans ((hB.2.2.2.2.2.1 i hi).2.2.2.2.1), (cell_ne (by decide) (by decide) (by decide)).trans ((hB.2.2.2.2.2.1 i hi).2.2.2.2.2.1), (cell_ne (by decide) (by decide) (by decide)).trans ((hB.2.2.2.2.2.1 i hi).2.2.2.2.2.2.1), (cell_ne (by decide) (by decide) (by decide)).trans ((hB.2.2.2.2.2.1 i hi).2.2.2.2.2.2.2)⟩, hB.2.2.2.2.2.2⟩
theorem RB.w_4_2 {σ : GL} {H : SH} {Y : SX} {r : Nat} {v : Int32} (hB : RB σ H Y) (hr : r < sh_ha H 11) (hb : sh_ha H 11 ≤ 1000) : RB (gS σ 4 (nI r) 2 v) H (sx_pl' Y (upd (sx_pl Y) r v)) := by
  have hn : (σ.1 4).2 = sh_ha H 11 := hB.1.2.2.2.2
  have e : gS σ 4 (nI r) 2 v = gP σ 4 (upd (σ.1 4).1 (8 * r + 2) v, (σ.1 4).2) := by
    unfold gS
    rw [tsI_at (by omega) (by omega)]
  rw [e]
  exact ⟨⟨hB.1.1, hB.1.2.1, hB.1.2.2.1, hB.1.2.2.2.1, hB.1.2.2.2.2⟩, hB.2.1, hB.2.2.1, hB.2.2.2.1, hB.2.2.2.2.1, fun i hi => ⟨(cell_ne (by decide) (by decide) (by decide)).trans ((hB.2.2.2.2.2.1 i hi).1), (cell_ne (by decide) (by decide) (by decide)).trans ((hB.2.2.2.2.2.1 i hi).2.1), cell_eq (by decide) ((hB.2.2.2.2.2.1 i hi).2.2.1), (cell_ne (by decide) (by decide) (by decide)).trans ((hB.2.2.2.2.2.1 i hi).2.2.2.1), (cell_ne (by decide) (by decide) (by decide)).trans ((hB.2.2.2.2.2.1 i hi).2.2.2.2.1), (cell_ne (by decide) (by decide) (by decide)).trans ((hB.2.2.2.2.2.1 i hi).2.2.2.2.2.1), (cell_ne (by decide) (by decide) (by decide)).trans ((hB.2.2.2.2.2.1 i hi).2.2.2.2.2.2.1), (cell_ne (by decide) (by decide) (by decide)).trans ((hB.2.2.2.2.2.1 i hi).2.2.2.2.2.2.2)⟩, hB.2.2.2.2.2.2⟩
theorem RB.w_4_3 {σ : GL} {H : SH} {Y : SX} {r : Nat} {v : Int32} (hB : RB σ H Y) (hr : r < sh_ha H 11) (hb : sh_ha H 11 ≤ 1000) : RB (gS σ 4 (nI r) 3 v) H (sx_hu' Y (upd (sx_hu Y) r v)) := by
  have hn : (σ.1 4).2 = sh_ha H 11 := hB.1.2.2.2.2
  have e : gS σ 4 (nI r) 3 v = gP σ 4 (upd (σ.1 4).1 (8 * r + 3) v, (σ.1 4).2) := by
    unfold gS
    rw [tsI_at (by omega) (by omega)]
  rw [e]
  exact ⟨⟨hB.1.1, hB.1.2.1, hB.1.2.2.1, hB.1.2.2.2.1, hB.1.2.2.2.2⟩, hB.2.1, hB.2.2.1, hB.2.2.2.1, hB.2.2.2.2.1, fun i hi => ⟨(cell_ne (by decide) (by decide) (by decide)).trans ((hB.2.2.2.2.2.1 i hi).1), (cell_ne (by decide) (by decide) (by decide)).trans ((hB.2.2.2.2.2.1 i hi).2.1), (cell_ne (by decide) (by decide) (by decide)).trans ((hB.2.2.2.2.2.1 i hi).2.2.1), cell_eq (by decide) ((hB.2.2.2.2.2.1 i hi).2.2.2.1), (cell_ne (by decide) (by decide) (by decide)).trans ((hB.2.2.2.2.2.1 i hi).2.2.2.2.1), (cell_ne (by decide) (by decide) (by decide)).trans ((hB.2.2.2.2.2.1 i hi).2.2.2.2.2.1), (cell_ne (by decide) (by decide) (by decide)).trans ((hB.2.2.2.2.2.1 i hi).2.2.2.2.2.2.1), (cell_ne (by decide) (by decide) (by decide)).trans ((hB.2.2.2.2.2.1 i hi).2.2.2.2.2.2.2)⟩, hB.2.2.2.2.2.2⟩
theorem RB.w_4_4 {σ : GL} {H : SH} {Y : SX} {r : Nat} {v : Int32} (hB : RB σ H Y) (hr : r < sh_ha H 11) (hb : sh_ha H 11 ≤ 1000) : RB (gS σ 4 (nI r) 4 v) H (sx_he' Y (upd (sx_he Y) r v)) := by
  have hn : (σ.1 4).2 = sh_ha H 11 := hB.1.2.2.2.2
  have e : gS σ 4 (nI r) 4 v = gP σ 4 (upd (σ.1 4).1 (8 * r + 4) v, (σ.1 4).2) := by
    unfold gS
    rw [tsI_at (by omega) (by omega)]
  rw [e]
  exact ⟨⟨hB.1.1, hB.1.2.1, hB.1.2.2.1, hB.1.2.2.2.1, hB.1.2.2.2.2⟩, hB.2.1, hB.2.2.1, hB.2.2.2.1, hB.2.2.2.2.1, fun i hi => ⟨(cell_ne (by decide) (by decide) (by decide)).trans ((hB.2.2.2.2.2.1 i hi).1), (cell_ne (by decide) (by decide) (by decide)).trans ((hB.2.2.2.2.2.1 i hi).2.1), (cell_ne (by decide) (by decide) (by decide)).trans ((hB.2.2.2.2.2.1 i hi).2.2.1), (cell_ne (by decide) (by decide) (by decide)).trans ((hB.2.2.2.2.2.1 i hi).2.2.2.1), cell_eq (by decide) ((hB.2.2.2.2.2.1 i hi).2.2.2.2.1), (cell_ne (by decide) (by decide) (by decide)).trans ((hB.2.2.2.2.2.1 i hi).2.2.2.2.2.1), (cell_ne (by decide) (by decide) (by decide)).trans ((hB.2.2.2.2.2.1 i hi).2.2.2.2.2.2.1), (cell_ne (by decide) (by decide) (by decide)).trans ((hB.2.2.2.2.2.1 i hi).2.2.2.2.2.2.2)⟩, hB.2.2.2.2.2.2⟩
theorem RB.w_4_5 {σ : GL} {H : SH} {Y : SX} {r : Nat} {v : Int32} (hB : RB σ H Y) (hr : r < sh_ha H 11) (hb : sh_ha H 11 ≤ 1000) : RB (gS σ 4 (nI r) 5 v) H (sx_ma' Y (upd (sx_ma Y) r v)) := by
  have hn : (σ.1 4).2 = sh_ha H 11 := hB.1.2.2.2.2
  have e : gS σ 4 (nI r) 5 v = gP σ 4 (upd (σ.1 4).1 (8 * r + 5) v, (σ.1 4).2) := by
    unfold gS
    rw [tsI_at (by omega) (by omega)]
  rw [e]
  exact ⟨⟨hB.1.1, hB.1.2.1, hB.1.2.2.1, hB.1.2.2.2.1, hB.1.2.2.2.2⟩, hB.2.1, hB.2.2.1, hB.2.2.2.1, hB.2.2.2.2.1, fun i hi => ⟨(cell_ne (by decide) (by decide) (by decide)).trans ((hB.2.2.2.2.2.1 i hi).1), (cell_ne (by decide) (by decide) (by decide)).trans ((hB.2.2.2.2.2.1 i hi).2.1), (cell_ne (by decide) (by decide) (by decide)).trans ((hB.2.2.2.2.2.1 i hi).2.2.1), (cell_ne (by decide) (by decide) (by decide)).trans ((hB.2.2.2.2.2.1 i hi).2.2.2.1), (cell_ne (by decide) (by decide) (by decide)).trans ((hB.2.2.2.2.2.1 i hi).2.2.2.2.1), cell_eq (by decide) ((hB.2.2.2.2.2.1 i hi).2.2.2.2.2.1), (cell_ne (by decide) (by decide) (by decide)).trans ((hB.2.2.2.2.2.1 i hi).2.2.2.2.2.2.1), (cell_ne (by decide) (by decide) (by decide)).trans ((hB.2.2.2.2.2.1 i hi).2.2.2.2.2.2.2)⟩, hB.2.2.2.2.2.2⟩
theorem RB.w_4_6 {σ : GL} {H : SH} {Y : SX} {r : Nat} {v : Int32} (hB : RB σ H Y) (hr : r < sh_ha H 11) (hb : sh_ha H 11 ≤ 1000) : RB (gS σ 4 (nI r) 6 v) H (sx_fn' Y (upd (sx_fn Y) r v)) := by
  have hn : (σ.1 4).2 = sh_ha H 11 := hB.1.2.2.2.2
  have e : gS σ 4 (nI r) 6 v = gP σ 4 (upd (σ.1 4).1 (8 * r + 6) v, (σ.1 4).2) := by
    unfold gS
    rw [tsI_at (by omega) (by omega)]
  rw [e]
  exact ⟨⟨hB.1.1, hB.1.2.1, hB.1.2.2.1, hB.1.2.2.2.1, hB.1.2.2.2.2⟩, hB.2.1, hB.2.2.1, hB.2.2.2.1, hB.2.2.2.2.1, fun i hi => ⟨(cell_ne (by decide) (by decide) (by decide)).trans ((hB.2.2.2.2.2.1 i hi).1), (cell_ne (by decide) (by decide) (by decide)).trans ((hB.2.2.2.2.2.1 i hi).2.1), (cell_ne (by decide) (by decide) (by decide)).trans ((hB.2.2.2.2.2.1 i hi).2.2.1), (cell_ne (by decide) (by decide) (by decide)).trans ((hB.2.2.2.2.2.1 i hi).2.2.2.1), (cell_ne (by decide) (by decide) (by decide)).trans ((hB.2.2.2.2.2.1 i hi).2.2.2.2.1), (cell_ne (by decide) (by decide) (by decide)).trans ((hB.2.2.2.2.2.1 i hi).2.2.2.2.2.1), cell_eq (by decide) ((hB.2.2.2.2.2.1 i hi).2.2.2.2.2.2.1), (cell_ne (by decide) (by decide) (by decide)).trans ((hB.2.2.2.2.2.1 i hi).2.2.2.2.2.2.2)⟩, hB.2.2.2.2.2.2⟩
theorem RB.w_4_7 {σ : GL} {H : SH} {Y : SX} {r : Nat} {v : Int32} (hB : RB σ H Y) (hr : r < sh_ha H 11) (hb : sh_ha H 11 ≤ 1000) : RB (gS σ 4 (nI r) 7 v) H (sx_do' Y (upd (sx_do Y) r v)) := by
  have hn : (σ.1 4).2 = sh_ha H 11 := hB.1.2.2.2.2
  have e : gS σ 4 (nI r) 7 v = gP σ 4 (upd (σ.1 4).1 (8 * r + 7) v, (σ.1 4).2) := by
    unfold gS
    rw [tsI_at (by omega) (by omega)]
  rw [e]
  exact ⟨⟨hB.1.1, hB.1.2.1, hB.1.2.2.1, hB.1.2.2.2.1, hB.1.2.2.2.2⟩, hB.2.1, hB.2.2.1, hB.2.2.2.1, hB.2.2.2.2.1, fun i hi => ⟨(cell_ne (by decide) (by decide) (by decide)).trans ((hB.2.2.2.2.2.1 i hi).1), (cell_ne (by decide) (by decide) (by decide)).trans ((hB.2.2.2.2.2.1 i hi).2.1), (cell_ne (by decide) (by decide) (by decide)).trans ((hB.2.2.2.2.2.1 i hi).2.2.1), (cell_ne (by decide) (by decide) (by decide)).trans ((hB.2.2.2.2.2.1 i hi).2.2.2.1), (cell_ne (by decide) (by decide) (by decide)).trans ((hB.2.2.2.2.2.1 i hi).2.2.2.2.1), (cell_ne (by decide) (by decide) (by decide)).trans ((hB.2.2.2.2.2.1 i hi).2.2.2.2.2.1), (cell_ne (by decide) (by decide) (by decide)).trans ((hB.2.2.2.2.2.1 i hi).2.2.2.2.2.2.1), cell_eq (by decide) ((hB.2.2.2.2.2.1 i hi).2.2.2.2.2.2.2)⟩, hB.2.2.2.2.2.2⟩
