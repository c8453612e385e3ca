/-! the pure part: bounds under writes; going -/
theorem RR.w_sn {H : SH} {Y : SX} {r : Nat} {v : Int32} (hR : RR H Y) (hv : btw 0 v 300) : RR H (sx_sn' Y (upd (sx_sn Y) r v)) :=
  ⟨⟨fun i hi => ⟨(by
      show btw 0 (upd (sx_sn Y) r v i) 300
      unfold upd
      by_cases e : i = r
      · rw [if_pos e]; exact hv
      · rw [if_neg e]; exact (hR.1.1 i hi).1), (hR.1.1 i hi).2⟩, hR.1.2⟩, hR.2⟩
theorem RR.w_sd0 {H : SH} {Y : SX} {r : Nat} (hR : RR H Y) : RR H (sx_sd' Y (upd (sx_sd Y) r 0)) :=
  ⟨hR.1, fun i hi => ⟨(hR.2.1 i hi).1, (by
      show btw 0 (upd (sx_sd Y) r 0 i) 1
      unfold upd
      by_cases e : i = r
      · rw [if_pos e]; exact ⟨0, rfl, by omega, by omega⟩
      · rw [if_neg e]; exact (hR.2.1 i hi).2.1), (by
      obtain ⟨d, a1, a2, a3, a4⟩ := (hR.2.1 i hi).2.2
      refine ⟨d, a1, a2, a3, fun h => ?_⟩
      have h : upd (sx_sd Y) r 0 i = 1 := h
      unfold upd at h
      by_cases e : i = r
      · rw [if_pos e] at h; exact absurd h (by decide)
      · rw [if_neg e] at h; exact a4 h)⟩, hR.2.2⟩
theorem RR.w_sd1 {H : SH} {Y : SX} {r : Nat} (hR : RR H Y) (hv : ∃ k d : Nat, sx_ou Y r = nI k ∧ sh_dp H r = nI d ∧ 1 ≤ d ∧ d ≤ 200 ∧ k < d) : RR H (sx_sd' Y (upd (sx_sd Y) r 1)) :=
  ⟨hR.1, fun i hi => ⟨(hR.2.1 i hi).1, (by
      show btw 0 (upd (sx_sd Y) r 1 i) 1
      unfold upd
      by_cases e : i = r
      · rw [if_pos e]; exact ⟨1, rfl, by omega, by omega⟩
      · rw [if_neg e]; exact (hR.2.1 i hi).2.1), (by
      by_cases e : i = r
      · subst e
        obtain ⟨k, d, b1, b2, b3, b4, b5⟩ := hv
        exact ⟨d, b2, b3, b4, fun _ => ⟨k, b1, b5⟩⟩
      · obtain ⟨d, a1, a2, a3, a4⟩ := (hR.2.1 i hi).2.2
        refine ⟨d, a1, a2, a3, fun h => ?_⟩
        have h : upd (sx_sd Y) r 1 i = 1 := h
        unfold upd at h
        rw [if_neg e] at h
        exact a4 h)⟩, hR.2.2⟩
theorem RR.w_ou {H : SH} {Y : SX} {r : Nat} {v : Int32} (hR : RR H Y) (hv : sx_sd Y r = 1 → ∀ d : Nat, sh_dp H r = nI d → d ≤ 200 → ∃ k : Nat, v = nI k ∧ k < d) : RR H (sx_ou' Y (upd (sx_ou Y) r v)) :=
  ⟨hR.1, fun i hi => ⟨(hR.2.1 i hi).1, (hR.2.1 i hi).2.1, (by
      obtain ⟨d, a1, a2, a3, a4⟩ := (hR.2.1 i hi).2.2
      refine ⟨d, a1, a2, a3, fun h => ?_⟩
      have h : sx_sd Y i = 1 := h
      show ∃ k, upd (sx_ou Y) r v i = nI k ∧ k < d
      unfold upd
      by_cases e : i = r
      · subst e; rw [if_pos rfl]; exact hv h d a1 a3
      · rw [if_neg e]; exact a4 h)⟩, hR.2.2⟩
theorem RR.w_br {H : SH} {Y : SX} {r : Nat} {v : Int32} (hR : RR H Y) (hv : btw 0 v 99) : RR H (sx_br' Y (upd (sx_br Y) r v)) :=
  ⟨hR.1, hR.2.1, fun i hi => ⟨(hR.2.2.1 i hi).1, (by
      show btw 0 (upd (sx_br Y) r v i) 99
      unfold upd
      by_cases e : i = r
      · rw [if_pos e]; exact hv
      · rw [if_neg e]; exact (hR.2.2.1 i hi).2.1), (hR.2.2.1 i hi).2.2⟩, hR.2.2.2.1, hR.2.2.2.2⟩
theorem RR.w_kn {H : SH} {Y : SX} {r : Nat} {v : Int32} (hR : RR H Y) (hv : btw 0 v 3) : RR H (sx_kn' Y (upd (sx_kn Y) r v)) :=
  ⟨hR.1, hR.2.1, fun i hi => ⟨(hR.2.2.1 i hi).1, (hR.2.2.1 i hi).2.1, (by
      show btw 0 (upd (sx_kn Y) r v i) 3
      unfold upd
      by_cases e : i = r
      · rw [if_pos e]; exact hv
      · rw [if_neg e]; exact (hR.2.2.1 i hi).2.2)⟩, hR.2.2.2.1, hR.2.2.2.2⟩
theorem RR.w_fo {H : SH} {Y : SX} {r : Nat} {v : Int32} (hR : RR H Y) (hv : btw 0 v 999) : RR H (sx_fo' Y (upd (sx_fo Y) r v)) :=
  ⟨hR.1, hR.2.1, hR.2.2.1, fun i hi => ⟨(hR.2.2.2.1 i hi).1, (by
      show btw 0 (upd (sx_fo Y) r v i) 999
      unfold upd
      by_cases e : i = r
      · rw [if_pos e]; exact hv
      · rw [if_neg e]; exact (hR.2.2.2.1 i hi).2)⟩, hR.2.2.2.2⟩
theorem RR.w_pl {H : SH} {Y : SX} {r : Nat} {v : Int32} (hR : RR H Y) (hv : ∃ b, b < sh_ha H 0 ∧ v = nI b) : RR H (sx_pl' Y (upd (sx_pl Y) r v)) :=
  ⟨hR.1, hR.2.1, hR.2.2.1, hR.2.2.2.1, fun i hi => ⟨(by
      show ∃ b, b < sh_ha H 0 ∧ (upd (sx_pl Y) r v i) = nI b
      unfold upd
      by_cases e : i = r
      · rw [if_pos e]; exact hv
      · rw [if_neg e]; exact (hR.2.2.2.2 i hi).1), (hR.2.2.2.2 i hi).2.1, (hR.2.2.2.2 i hi).2.2.1, (hR.2.2.2.2 i hi).2.2.2.1, (hR.2.2.2.2 i hi).2.2.2.2.1, (hR.2.2.2.2 i hi).2.2.2.2.2.1, (hR.2.2.2.2 i hi).2.2.2.2.2.2⟩⟩
theorem RR.w_sk {H : SH} {Y : SX} {r : Nat} {v : Int32} (hR : RR H Y) (hv : btw 0 v 40) : RR H (sx_sk' Y (upd (sx_sk Y) r v)) :=
  ⟨hR.1, hR.2.1, hR.2.2.1, hR.2.2.2.1, fun i hi => ⟨(hR.2.2.2.2 i hi).1, (hR.2.2.2.2 i hi).2.1, (by
      show btw 0 (upd (sx_sk Y) r v i) 40
      unfold upd
      by_cases e : i = r
      · rw [if_pos e]; exact hv
      · rw [if_neg e]; exact (hR.2.2.2.2 i hi).2.2.1), (hR.2.2.2.2 i hi).2.2.2.1, (hR.2.2.2.2 i hi).2.2.2.2.1, (hR.2.2.2.2 i hi).2.2.2.2.2.1, (hR.2.2.2.2 i hi).2.2.2.2.2.2⟩⟩
theorem RR.w_do {H : SH} {Y : SX} {r : Nat} {v : Int32} (hR : RR H Y) (hv : btw 0 v 1) : RR H (sx_do' Y (upd (sx_do Y) r v)) :=
  ⟨hR.1, hR.2.1, hR.2.2.1, hR.2.2.2.1, fun i hi => ⟨(hR.2.2.2.2 i hi).1, (hR.2.2.2.2 i hi).2.1, (hR.2.2.2.2 i hi).2.2.1, (hR.2.2.2.2 i hi).2.2.2.1, (by
      show btw 0 (upd (sx_do Y) r v i) 1
      unfold upd
      by_cases e : i = r
      · rw [if_pos e]; exact hv
      · rw [if_neg e]; exact (hR.2.2.2.2 i hi).2.2.2.2.1), (hR.2.2.2.2 i hi).2.2.2.2.2.1, (hR.2.2.2.2 i hi).2.2.2.2.2.2⟩⟩
theorem RR.w_he0 {H : SH} {Y : SX} {r : Nat} (hR : RR H Y) : RR H (sx_he' Y (upd (sx_he Y) r 0)) :=
  ⟨hR.1, hR.2.1, hR.2.2.1, hR.2.2.2.1, fun i hi => by
    obtain ⟨a1, a2, a3, a4, a5, a6, a7⟩ := hR.2.2.2.2 i hi
    refine ⟨a1, a2, a3, ?_, a5, a6, ?_⟩
    · show btw 0 (upd (sx_he Y) r 0 i) 1
      unfold upd
      by_cases e : i = r
      · rw [if_pos e]; exact ⟨0, rfl, by omega, by omega⟩
      · rw [if_neg e]; exact a4
    · intro h
      have h : upd (sx_he Y) r 0 i = 1 := h
      unfold upd at h
      by_cases e : i = r
      · rw [if_pos e] at h; exact absurd h (by decide)
      · rw [if_neg e] at h; exact a7 h⟩
theorem RR.w_hu {H : SH} {Y : SX} {r : Nat} {v : Int32} (hR : RR H Y) (hv : btw 0 v 3 ∧ (sx_he Y r = 1 → btw 0 v 2)) : RR H (sx_hu' Y (upd (sx_hu Y) r v)) :=
  ⟨hR.1, hR.2.1, hR.2.2.1, hR.2.2.2.1, fun i hi => by
    obtain ⟨a1, a2, a3, a4, a5, a6, a7⟩ := hR.2.2.2.2 i hi
    refine ⟨a1, a2, a3, a4, a5, ?_, ?_⟩
    · show btw 0 (upd (sx_hu Y) r v i) 3
      unfold upd
      by_cases e : i = r
      · rw [if_pos e]; exact hv.1
      · rw [if_neg e]; exact a6
    · intro h
      have h : sx_he Y i = 1 := h
      show btw 0 (upd (sx_hu Y) r v i) 2
      unfold upd
      by_cases e : i = r
      · subst e; rw [if_pos rfl]; exact hv.2 h
      · rw [if_neg e]; exact a7 h⟩
