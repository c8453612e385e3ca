/-! the reference: what is new -/
theorem hup_comm {h : AH} {a b : Nat} {e e' : va_E} (hab : a ≠ b) : hup (hup h a e) b e' = hup (hup h b e') a e := by
  funext x
  unfold hup
  by_cases h1 : x = a
  · subst h1
    rw [if_neg hab, if_pos rfl, if_pos rfl]
  · by_cases h2 : x = b
    · rw [if_pos h2, if_neg h1, if_pos h2]
    · rw [if_neg h2, if_neg h1, if_neg h1, if_neg h2]
theorem blk0 {h : AH} {g : Nat} {f : Nat → Option va_E} : blk h g 0 f = h := by
  funext x
  unfold blk
  rw [if_neg (by omega)]
theorem blk_push {h : AH} {g n : Nat} {f : Nat → Option va_E} {e : va_E} : hup (blk h g n f) (g + n) e = blk h g (n + 1) (fun j => if j = n then some e else f j) := by
  funext x
  unfold hup blk
  by_cases h1 : x = g + n
  · subst h1
    rw [if_pos rfl, if_pos ⟨by omega, by omega⟩]
    dsimp only
    rw [if_pos (by omega)]
  · rw [if_neg h1]
    by_cases h2 : g ≤ x ∧ x < g + n
    · rw [if_pos h2, if_pos ⟨h2.1, by omega⟩]
      dsimp only
      rw [if_neg (by omega)]
    · rw [if_neg h2, if_neg (by omega)]
theorem blk_app {h : AH} {g n m : Nat} {f f' : Nat → Option va_E} : blk (blk h g n f) (g + n) m f' = blk h g (n + m) (fun j => if j < n then f j else f' (j - n)) := by
  funext x
  unfold blk
  by_cases h1 : g + n ≤ x ∧ x < g + n + m
  · rw [if_pos h1, if_pos ⟨by omega, by omega⟩]
    dsimp only
    rw [if_neg (by omega)]
    congr 1
    omega
  · rw [if_neg h1]
    by_cases h2 : g ≤ x ∧ x < g + n
    · rw [if_pos h2, if_pos ⟨h2.1, by omega⟩]
      dsimp only
      rw [if_pos (by omega)]
    · rw [if_neg h2, if_neg (by omega)]
theorem blk_cons {h : AH} {g n : Nat} {f : Nat → Option va_E} {e : va_E} : hup (blk h (g + 1) n f) g e = blk h g (n + 1) (fun j => if j = 0 then some e else f (j - 1)) := by
  funext x
  unfold hup blk
  by_cases h1 : x = g
  · subst h1
    rw [if_pos rfl, if_pos ⟨by omega, by omega⟩]
    dsimp only
    rw [if_pos (by omega)]
  · rw [if_neg h1]
    by_cases h2 : g + 1 ≤ x ∧ x < g + 1 + n
    · rw [if_pos h2, if_pos ⟨by omega, by omega⟩]
      dsimp only
      rw [if_neg (by omega)]
      congr 1 <;> omega
    · rw [if_neg h2, if_neg (by omega)]
/-- a row behind the rows so far -/
theorem ct_push {h : AH} {t n z : Nat} {f : Nat → Option va_E} {e o : va_E} (hz : z = t + 1 + n) : hup (hup (blk h (t + 1) n f) t o) z e = hup (blk h (t + 1) (n + 1) (fun j => if j = n then some e else f j)) t o := by
  subst hz
  rw [hup_comm (by omega), blk_push]
/-- an object with all that hangs on it, behind the rows so far -/
theorem ct_app {h : AH} {t n m z : Nat} {f C : Nat → Option va_E} {e o : va_E} (hz : z = t + 1 + n) (hm : 0 < m) : blk (hup (hup (blk h (t + 1) n f) t o) z e) z m C = hup (blk h (t + 1) (n + m) (fun j => if j < n then f j else C (j - n))) t o := by
  subst hz
  rw [hup_comm (by omega), ← hup_blk (by omega), blk_push, show blk (blk h (t + 1) (n + 1) (fun j => if j = n then some e else f j)) (t + 1 + n) m C = blk (blk h (t + 1) n f) (t + 1 + n) m C from by
    rw [← blk_push]
    funext x
    unfold blk hup
    by_cases h1 : t + 1 + n ≤ x ∧ x < t + 1 + n + m
    · rw [if_pos h1, if_pos h1]
    · rw [if_neg h1, if_neg h1, if_neg (by omega)], blk_app]
theorem ct_start {h : AH} {t : Nat} {o : va_E} (h0 : h t = some o) : h = hup (blk h (t + 1) 0 (fun _ => none)) t o := by
  rw [blk0, hup_self h0]
