/-! the tokens of the law's list -/
/-- a name's worth, a number's -/
def nmv (c : Int32) (k : Nat) : Int64 := namV [c, nI (48 + k)] 0
def lJ (n : Nat) : Int64 := numV (dec n) 0
theorem fo1c {c : Int32} {t : List Int32} (h : ¬ (ltr c ∨ dgt c)) : fo 1 (c :: t) := h
theorem fo2c {c : Int32} {t : List Int32} (h : ¬ c = 61) : fo 2 (c :: t) := h
theorem dig_f : ∀ d, d < 10 → dgt (nI (48 + d)) ∧ s_Tokens_isLetter (nI (48 + d)) = 0 ∧ ¬ isB (nI (48 + d)) ∧ ¬ nI (48 + d) = 61 := by decide +kernel
theorem fo2d {n : Nat} {t : List Int32} (h : n < 1000) : fo 2 (dec n ++ t) := by
  unfold dec
  by_cases h1 : n < 10
  · rw [if_pos h1]
    exact (dig_f n h1).2.2.2
  rw [if_neg h1]
  by_cases h2 : n < 100
  · rw [if_pos h2]
    exact (dig_f (n / 10) (by omega)).2.2.2
  rw [if_neg h2]
  exact (dig_f (n / 100) (by omega)).2.2.2
theorem tw_dec {n : Nat} (h : n < 1000) : TW 1 (dec n) 51 (lJ n) := by
  unfold lJ dec
  by_cases h1 : n < 10
  · rw [if_pos h1]
    obtain ⟨a1, a2, a3, -⟩ := dig_f n h1
    exact tw_num a2 a1 (fun d hd => absurd hd List.not_mem_nil) (by decide) rfl a3
  rw [if_neg h1]
  by_cases h2 : n < 100
  · rw [if_pos h2]
    obtain ⟨a1, a2, a3, -⟩ := dig_f (n / 10) (by omega)
    obtain ⟨b1, -⟩ := dig_f (n % 10) (by omega)
    exact tw_num a2 a1 (fun d hd => by rw [List.mem_singleton.mp hd]; exact b1) (Nat.le_of_ble_eq_true rfl) rfl a3
  rw [if_neg h2]
  obtain ⟨a1, a2, a3, -⟩ := dig_f (n / 100) (by omega)
  obtain ⟨b1, -⟩ := dig_f (n / 10 % 10) (by omega)
  obtain ⟨c1, -⟩ := dig_f (n % 10) (by omega)
  refine tw_num a2 a1 (fun d hd => ?_) (Nat.le_of_ble_eq_true rfl) rfl a3
  rcases List.mem_cons.mp hd with e | e
  · rw [e]
    exact b1
  · rw [List.mem_singleton.mp e]
    exact c1
theorem lJ_v : ∀ n, n < 1000 → (lJ n).toInt32 = nI n := by decide +kernel
theorem nm_f : ∀ c ∈ ([98, 99, 100, 115, 116] : List Int32), ltr c ∧ s_Tokens_isDigit c = 0 ∧ s_Tokens_isLetter c = 1 ∧ ¬ isB c ∧ ∀ k, k < 10 → sgnX 1 [c, nI (48 + k)] 54 0 = 50 := by decide +kernel
theorem tw_nm {c : Int32} {k : Nat} (hc : c ∈ ([98, 99, 100, 115, 116] : List Int32)) (hk : k < 10) : TW 1 (c :: dec k) 50 (nmv c k) := by
  obtain ⟨a1, a2, a3, a4, a5⟩ := nm_f c hc
  unfold dec
  rw [if_pos hk]
  exact tw_word a1 (fun d hd => by rw [List.mem_singleton.mp hd]; exact Or.inr (dig_f k hk).1) (Nat.le_of_ble_eq_true rfl) (a5 k hk) rfl (by decide) a4 a2 a3
theorem nmv_ne : ∀ c ∈ ([98, 99, 100, 115, 116] : List Int32), ∀ j, j < 10 → ∀ k, k < 10 → nmv c j = nmv c k → j = k := by decide +kernel
theorem tk_0 : TW 1 [98, 97, 110, 100] 0 0 := tw_word (c := 98) (y := [97, 110, 100]) (by decide) (by decide) (by decide) (by decide +kernel) rfl (by decide) (by decide) (by decide) (by decide)
theorem tk_1 : TW 1 [104, 101, 105, 103, 104, 116] 1 0 := tw_word (c := 104) (y := [101, 105, 103, 104, 116]) (by decide) (by decide) (by decide) (by decide +kernel) rfl (by decide) (by decide) (by decide) (by decide)
theorem tk_2 : TW 1 [115, 110, 111, 119] 2 0 := tw_word (c := 115) (y := [110, 111, 119]) (by decide) (by decide) (by decide) (by decide +kernel) rfl (by decide) (by decide) (by decide) (by decide)
theorem tk_3 : TW 1 [115, 116, 97, 107, 101] 3 0 := tw_word (c := 115) (y := [116, 97, 107, 101]) (by decide) (by decide) (by decide) (by decide +kernel) rfl (by decide) (by decide) (by decide) (by decide)
theorem tk_4 : TW 1 [105, 110] 4 0 := tw_word (c := 105) (y := [110]) (by decide) (by decide) (by decide) (by decide +kernel) rfl (by decide) (by decide) (by decide) (by decide)
theorem tk_5 : TW 1 [100, 101, 101, 112] 5 0 := tw_word (c := 100) (y := [101, 101, 112]) (by decide) (by decide) (by decide) (by decide +kernel) rfl (by decide) (by decide) (by decide) (by decide)
theorem tk_6 : TW 1 [99, 114, 101, 118, 97, 115, 115, 101] 6 0 := tw_word (c := 99) (y := [114, 101, 118, 97, 115, 115, 101]) (by decide) (by decide) (by decide) (by decide +kernel) rfl (by decide) (by decide) (by decide) (by decide)
theorem tk_7 : TW 1 [97, 98, 111, 118, 101] 7 0 := tw_word (c := 97) (y := [98, 111, 118, 101]) (by decide) (by decide) (by decide) (by decide +kernel) rfl (by decide) (by decide) (by decide) (by decide)
theorem tk_8 : TW 1 [98, 114, 105, 100, 103, 101] 8 0 := tw_word (c := 98) (y := [114, 105, 100, 103, 101]) (by decide) (by decide) (by decide) (by decide +kernel) rfl (by decide) (by decide) (by decide) (by decide)
theorem tk_9 : TW 1 [100, 101, 112, 111, 116] 9 0 := tw_word (c := 100) (y := [101, 112, 111, 116]) (by decide) (by decide) (by decide) (by decide +kernel) rfl (by decide) (by decide) (by decide) (by decide)
theorem tk_10 : TW 1 [102, 111, 111, 100] 10 0 := tw_word (c := 102) (y := [111, 111, 100]) (by decide) (by decide) (by decide) (by decide +kernel) rfl (by decide) (by decide) (by decide) (by decide)
theorem tk_11 : TW 1 [116, 101, 97, 109] 11 0 := tw_word (c := 116) (y := [101, 97, 109]) (by decide) (by decide) (by decide) (by decide +kernel) rfl (by decide) (by decide) (by decide) (by decide)
theorem tk_12 : TW 1 [115, 105, 122, 101] 12 0 := tw_word (c := 115) (y := [105, 122, 101]) (by decide) (by decide) (by decide) (by decide +kernel) rfl (by decide) (by decide) (by decide) (by decide)
theorem tk_13 : TW 1 [100, 97, 121] 13 0 := tw_word (c := 100) (y := [97, 121]) (by decide) (by decide) (by decide) (by decide +kernel) rfl (by decide) (by decide) (by decide) (by decide)
theorem tk_14 : TW 1 [119, 97, 114, 109] 14 0 := tw_word (c := 119) (y := [97, 114, 109]) (by decide) (by decide) (by decide) (by decide +kernel) rfl (by decide) (by decide) (by decide) (by decide)
theorem tk_15 : TW 1 [99, 108, 105, 109, 98] 15 0 := tw_word (c := 99) (y := [108, 105, 109, 98]) (by decide) (by decide) (by decide) (by decide +kernel) rfl (by decide) (by decide) (by decide) (by decide)
theorem tk_16 : TW 1 [100, 101, 115, 99, 101, 110, 100] 16 0 := tw_word (c := 100) (y := [101, 115, 99, 101, 110, 100]) (by decide) (by decide) (by decide) (by decide +kernel) rfl (by decide) (by decide) (by decide) (by decide)
theorem tk_17 : TW 1 [112, 114, 111, 98, 101] 17 0 := tw_word (c := 112) (y := [114, 111, 98, 101]) (by decide) (by decide) (by decide) (by decide +kernel) rfl (by decide) (by decide) (by decide) (by decide)
theorem tk_18 : TW 1 [98, 121] 18 0 := tw_word (c := 98) (y := [121]) (by decide) (by decide) (by decide) (by decide +kernel) rfl (by decide) (by decide) (by decide) (by decide)
theorem tk_19 : TW 1 [102, 105, 108, 108] 19 0 := tw_word (c := 102) (y := [105, 108, 108]) (by decide) (by decide) (by decide) (by decide +kernel) rfl (by decide) (by decide) (by decide) (by decide)
theorem tk_20 : TW 1 [119, 105, 116, 104] 20 0 := tw_word (c := 119) (y := [105, 116, 104]) (by decide) (by decide) (by decide) (by decide +kernel) rfl (by decide) (by decide) (by decide) (by decide)
theorem tk_21 : TW 1 [100, 114, 105, 108, 108] 21 0 := tw_word (c := 100) (y := [114, 105, 108, 108]) (by decide) (by decide) (by decide) (by decide +kernel) rfl (by decide) (by decide) (by decide) (by decide)
theorem tk_22 : TW 1 [119, 104, 101, 110] 22 0 := tw_word (c := 119) (y := [104, 101, 110]) (by decide) (by decide) (by decide) (by decide +kernel) rfl (by decide) (by decide) (by decide) (by decide)
theorem tk_23 : TW 1 [111, 117, 116] 23 0 := tw_word (c := 111) (y := [117, 116]) (by decide) (by decide) (by decide) (by decide +kernel) rfl (by decide) (by decide) (by decide) (by decide)
theorem tk_24 : TW 1 [115, 116, 111, 99, 107] 24 0 := tw_word (c := 115) (y := [116, 111, 99, 107]) (by decide) (by decide) (by decide) (by decide +kernel) rfl (by decide) (by decide) (by decide) (by decide)
theorem tk_25 : TW 1 [115, 97, 99, 107] 25 0 := tw_word (c := 115) (y := [97, 99, 107]) (by decide) (by decide) (by decide) (by decide +kernel) rfl (by decide) (by decide) (by decide) (by decide)
theorem tk_26 : TW 1 [112, 108, 97, 99, 101] 26 0 := tw_word (c := 112) (y := [108, 97, 99, 101]) (by decide) (by decide) (by decide) (by decide +kernel) rfl (by decide) (by decide) (by decide) (by decide)
theorem tk_27 : TW 1 [115, 116, 97, 110, 100, 105, 110, 103] 27 0 := tw_word (c := 115) (y := [116, 97, 110, 100, 105, 110, 103]) (by decide) (by decide) (by decide) (by decide +kernel) rfl (by decide) (by decide) (by decide) (by decide)
theorem tk_28 : TW 1 [104, 101, 114, 101] 28 0 := tw_word (c := 104) (y := [101, 114, 101]) (by decide) (by decide) (by decide) (by decide +kernel) rfl (by decide) (by decide) (by decide) (by decide)
theorem tk_29 : TW 1 [107, 110, 111, 119, 110] 29 0 := tw_word (c := 107) (y := [110, 111, 119, 110]) (by decide) (by decide) (by decide) (by decide +kernel) rfl (by decide) (by decide) (by decide) (by decide)
theorem tk_30 : TW 1 [110, 111, 116] 30 0 := tw_word (c := 110) (y := [111, 116]) (by decide) (by decide) (by decide) (by decide +kernel) rfl (by decide) (by decide) (by decide) (by decide)
theorem tk_31 : TW 1 [97, 110, 100] 31 0 := tw_word (c := 97) (y := [110, 100]) (by decide) (by decide) (by decide) (by decide +kernel) rfl (by decide) (by decide) (by decide) (by decide)
theorem tk_32 : TW 1 [111, 114] 32 0 := tw_word (c := 111) (y := [114]) (by decide) (by decide) (by decide) (by decide +kernel) rfl (by decide) (by decide) (by decide) (by decide)
theorem tk_33 : TW 1 [109, 105, 110] 33 0 := tw_word (c := 109) (y := [105, 110]) (by decide) (by decide) (by decide) (by decide +kernel) rfl (by decide) (by decide) (by decide) (by decide)
theorem tk_34 : TW 1 [109, 97, 120] 34 0 := tw_word (c := 109) (y := [97, 120]) (by decide) (by decide) (by decide) (by decide +kernel) rfl (by decide) (by decide) (by decide) (by decide)
theorem tk_35 : TW 0 [40] 35 0 := tw_sym (by decide) (by decide) (by decide) (by decide) (by decide +kernel) (by decide) (by decide) (by decide)
theorem tk_36 : TW 0 [41] 36 0 := tw_sym (by decide) (by decide) (by decide) (by decide) (by decide +kernel) (by decide) (by decide) (by decide)
theorem tk_37 : TW 0 [91] 37 0 := tw_sym (by decide) (by decide) (by decide) (by decide) (by decide +kernel) (by decide) (by decide) (by decide)
theorem tk_38 : TW 0 [93] 38 0 := tw_sym (by decide) (by decide) (by decide) (by decide) (by decide +kernel) (by decide) (by decide) (by decide)
theorem tk_39 : TW 0 [59] 39 0 := tw_sym (by decide) (by decide) (by decide) (by decide) (by decide +kernel) (by decide) (by decide) (by decide)
theorem tk_40 : TW 0 [44] 40 0 := tw_sym (by decide) (by decide) (by decide) (by decide) (by decide +kernel) (by decide) (by decide) (by decide)
theorem tk_41 : TW 0 [43] 41 0 := tw_sym (by decide) (by decide) (by decide) (by decide) (by decide +kernel) (by decide) (by decide) (by decide)
theorem tk_42 : TW 0 [45] 42 0 := tw_sym (by decide) (by decide) (by decide) (by decide) (by decide +kernel) (by decide) (by decide) (by decide)
theorem tk_43 : TW 0 [42] 43 0 := tw_sym (by decide) (by decide) (by decide) (by decide) (by decide +kernel) (by decide) (by decide) (by decide)
theorem tk_44 : TW 0 [47] 44 0 := tw_sym (by decide) (by decide) (by decide) (by decide) (by decide +kernel) (by decide) (by decide) (by decide)
theorem tk_45 : TW 2 [60] 45 0 := tw_lt (by decide) (by decide) (by decide +kernel) (by decide) (by decide) (by decide)
theorem tk_46 : TW 2 [62] 46 0 := tw_lt (by decide) (by decide) (by decide +kernel) (by decide) (by decide) (by decide)
theorem tk_47 : TW 0 [61] 47 0 := tw_sym (by decide) (by decide) (by decide) (by decide) (by decide +kernel) (by decide) (by decide) (by decide)
theorem tk_48 : TW 0 [60, 61] 48 0 := tw_le (by decide) (by decide) (by decide) (by decide +kernel) (by decide) (by decide) (by decide)
theorem tk_49 : TW 0 [62, 61] 49 0 := tw_le (by decide) (by decide) (by decide) (by decide +kernel) (by decide) (by decide) (by decide)
theorem tl_0 : TW 1 [48] 51 (lJ 0) := tw_num (c := 48) (y := []) (by decide) (by decide) (by decide) (by decide) (by decide +kernel) (by decide)
theorem tl_2 : TW 1 [50] 51 (lJ 2) := tw_num (c := 50) (y := []) (by decide) (by decide) (by decide) (by decide) (by decide +kernel) (by decide)
theorem tl_3 : TW 1 [51] 51 (lJ 3) := tw_num (c := 51) (y := []) (by decide) (by decide) (by decide) (by decide) (by decide +kernel) (by decide)
theorem tl_40 : TW 1 [52, 48] 51 (lJ 40) := tw_num (c := 52) (y := [48]) (by decide) (by decide) (by decide) (by decide) (by decide +kernel) (by decide)
theorem tl_9 : TW 1 [57] 51 (lJ 9) := tw_num (c := 57) (y := []) (by decide) (by decide) (by decide) (by decide) (by decide +kernel) (by decide)
def kBand (k : Nat) (a : R2) : List TKN := [(0, 0), (50, nmv 98 k), (1, 0), (51, lJ a.1), (2, 0), (51, lJ a.2), (39, 0)]
theorem lx_Band {k : Nat} {a : R2} {l : List TKN} {t : List Int32} (hk : k < 10) (h1 : a.1 < 1000) (h2 : a.2 < 1000) (hl : Lx l t) : Lx (kBand k a ++ l) (tBand k a ++ t) := by
  unfold tBand
  by_cases e : k % 2 = 0
  · rw [if_pos e]
    simp only [List.append_assoc]
    show Lx ((0, 0) :: (50, nmv 98 k) :: (1, 0) :: (51, lJ a.1) :: (2, 0) :: (51, lJ a.2) :: (39, 0) :: l) (([98, 97, 110, 100] : List Int32) ++ ((32 : Int32) :: (((98 : Int32) :: dec k) ++ ((32 : Int32) :: (([104, 101, 105, 103, 104, 116] : List Int32) ++ ((32 : Int32) :: (dec a.1 ++ ((32 : Int32) :: (([115, 110, 111, 119] : List Int32) ++ ((32 : Int32) :: (dec a.2 ++ (([59] : List Int32) ++ t))))))))))))
    refine lx_t tk_0 (fo1c (by decide)) ?_
    refine lx_b (by decide) ?_
    refine lx_t (tw_nm (c := 98) (by decide) hk) (fo1c (by decide)) ?_
    refine lx_b (by decide) ?_
    refine lx_t tk_1 (fo1c (by decide)) ?_
    refine lx_b (by decide) ?_
    refine lx_t (tw_dec h1) (fo1c (by decide)) ?_
    refine lx_b (by decide) ?_
    refine lx_t tk_2 (fo1c (by decide)) ?_
    refine lx_b (by decide) ?_
    refine lx_t (tw_dec h2) (fo1c (by decide)) ?_
    refine lx_t tk_39 trivial ?_
    exact hl
  · rw [if_neg e]
    simp only [List.append_assoc]
    show Lx ((0, 0) :: (50, nmv 98 k) :: (1, 0) :: (51, lJ a.1) :: (2, 0) :: (51, lJ a.2) :: (39, 0) :: l) (([98, 97, 110, 100] : List Int32) ++ ((32 : Int32) :: (((98 : Int32) :: dec k) ++ ((32 : Int32) :: (([104, 101, 105, 103, 104, 116] : List Int32) ++ ((32 : Int32) :: (dec a.1 ++ ((32 : Int32) :: (([115, 110, 111, 119] : List Int32) ++ ((32 : Int32) :: (dec a.2 ++ ((32 : Int32) :: (([59] : List Int32) ++ ((10 : Int32) :: t))))))))))))))
    refine lx_t tk_0 (fo1c (by decide)) ?_
    refine lx_b (by decide) ?_
    refine lx_t (tw_nm (c := 98) (by decide) hk) (fo1c (by decide)) ?_
    refine lx_b (by decide) ?_
    refine lx_t tk_1 (fo1c (by decide)) ?_
    refine lx_b (by decide) ?_
    refine lx_t (tw_dec h1) (fo1c (by decide)) ?_
    refine lx_b (by decide) ?_
    refine lx_t tk_2 (fo1c (by decide)) ?_
    refine lx_b (by decide) ?_
    refine lx_t (tw_dec h2) (fo1c (by decide)) ?_
    refine lx_b (by decide) ?_
    refine lx_t tk_39 trivial ?_
    refine lx_b (by decide) ?_
    exact hl
def kStake (k : Nat) (a : R2) : List TKN := [(3, 0), (50, nmv 115 k), (4, 0), (50, nmv 98 a.1), (5, 0), (51, lJ a.2), (39, 0)]
theorem lx_Stake {k : Nat} {a : R2} {l : List TKN} {t : List Int32} (hk : k < 10) (h1 : a.1 < 10) (h2 : a.2 < 1000) (hl : Lx l t) : Lx (kStake k a ++ l) (tStake k a ++ t) := by
  unfold tStake
  simp only [List.append_assoc]
  show Lx ((3, 0) :: (50, nmv 115 k) :: (4, 0) :: (50, nmv 98 a.1) :: (5, 0) :: (51, lJ a.2) :: (39, 0) :: l) (([115, 116, 97, 107, 101] : List Int32) ++ ((32 : Int32) :: (((115 : Int32) :: dec k) ++ ((32 : Int32) :: (([105, 110] : List Int32) ++ ((32 : Int32) :: (((98 : Int32) :: dec a.1) ++ ((32 : Int32) :: (([100, 101, 101, 112] : List Int32) ++ ((32 : Int32) :: (dec a.2 ++ (([59] : List Int32) ++ t))))))))))))
  refine lx_t tk_3 (fo1c (by decide)) ?_
  refine lx_b (by decide) ?_
  refine lx_t (tw_nm (c := 115) (by decide) hk) (fo1c (by decide)) ?_
  refine lx_b (by decide) ?_
  refine lx_t tk_4 (fo1c (by decide)) ?_
  refine lx_b (by decide) ?_
  refine lx_t (tw_nm (c := 98) (by decide) h1) (fo1c (by decide)) ?_
  refine lx_b (by decide) ?_
  refine lx_t tk_5 (fo1c (by decide)) ?_
  refine lx_b (by decide) ?_
  refine lx_t (tw_dec h2) (fo1c (by decide)) ?_
  refine lx_t tk_39 trivial ?_
  exact hl
def kCrev (k : Nat) (a : R2) : List TKN := [(6, 0), (50, nmv 99 k), (7, 0), (50, nmv 98 a.1), (8, 0), (51, lJ a.2), (39, 0)]
theorem lx_Crev {k : Nat} {a : R2} {l : List TKN} {t : List Int32} (hk : k < 10) (h1 : a.1 < 10) (h2 : a.2 < 1000) (hl : Lx l t) : Lx (kCrev k a ++ l) (tCrev k a ++ t) := by
  unfold tCrev
  simp only [List.append_assoc]
  show Lx ((6, 0) :: (50, nmv 99 k) :: (7, 0) :: (50, nmv 98 a.1) :: (8, 0) :: (51, lJ a.2) :: (39, 0) :: l) (([99, 114, 101, 118, 97, 115, 115, 101] : List Int32) ++ ((32 : Int32) :: (((99 : Int32) :: dec k) ++ ((32 : Int32) :: (([97, 98, 111, 118, 101] : List Int32) ++ ((32 : Int32) :: (((98 : Int32) :: dec a.1) ++ ((32 : Int32) :: (([98, 114, 105, 100, 103, 101] : List Int32) ++ ((32 : Int32) :: (dec a.2 ++ (([59] : List Int32) ++ t))))))))))))
  refine lx_t tk_6 (fo1c (by decide)) ?_
  refine lx_b (by decide) ?_
  refine lx_t (tw_nm (c := 99) (by decide) hk) (fo1c (by decide)) ?_
  refine lx_b (by decide) ?_
  refine lx_t tk_7 (fo1c (by decide)) ?_
  refine lx_b (by decide) ?_
  refine lx_t (tw_nm (c := 98) (by decide) h1) (fo1c (by decide)) ?_
  refine lx_b (by decide) ?_
  refine lx_t tk_8 (fo1c (by decide)) ?_
  refine lx_b (by decide) ?_
  refine lx_t (tw_dec h2) (fo1c (by decide)) ?_
  refine lx_t tk_39 trivial ?_
  exact hl
def kDepot (k : Nat) (a : R2) : List TKN := [(9, 0), (50, nmv 100 k), (4, 0), (50, nmv 98 a.1), (10, 0), (51, lJ a.2), (39, 0)]
theorem lx_Depot {k : Nat} {a : R2} {l : List TKN} {t : List Int32} (hk : k < 10) (h1 : a.1 < 10) (h2 : a.2 < 1000) (hl : Lx l t) : Lx (kDepot k a ++ l) (tDepot k a ++ t) := by
  unfold tDepot
  simp only [List.append_assoc]
  show Lx ((9, 0) :: (50, nmv 100 k) :: (4, 0) :: (50, nmv 98 a.1) :: (10, 0) :: (51, lJ a.2) :: (39, 0) :: l) (([100, 101, 112, 111, 116] : List Int32) ++ ((32 : Int32) :: (((100 : Int32) :: dec k) ++ ((32 : Int32) :: (([105, 110] : List Int32) ++ ((32 : Int32) :: (((98 : Int32) :: dec a.1) ++ ((32 : Int32) :: (([102, 111, 111, 100] : List Int32) ++ ((32 : Int32) :: (dec a.2 ++ (([59] : List Int32) ++ t))))))))))))
  refine lx_t tk_9 (fo1c (by decide)) ?_
  refine lx_b (by decide) ?_
  refine lx_t (tw_nm (c := 100) (by decide) hk) (fo1c (by decide)) ?_
  refine lx_b (by decide) ?_
  refine lx_t tk_4 (fo1c (by decide)) ?_
  refine lx_b (by decide) ?_
  refine lx_t (tw_nm (c := 98) (by decide) h1) (fo1c (by decide)) ?_
  refine lx_b (by decide) ?_
  refine lx_t tk_10 (fo1c (by decide)) ?_
  refine lx_b (by decide) ?_
  refine lx_t (tw_dec h2) (fo1c (by decide)) ?_
  refine lx_t tk_39 trivial ?_
  exact hl
def kTeam (k : Nat) (a : R3) : List TKN := [(11, 0), (50, nmv 116 k), (4, 0), (50, nmv 98 a.2.2), (12, 0), (51, lJ a.1), (10, 0), (51, lJ a.2.1), (39, 0)]
theorem lx_Team {k : Nat} {a : R3} {l : List TKN} {t : List Int32} (hk : k < 10) (h1 : a.1 < 1000) (h2 : a.2.1 < 1000) (h3 : a.2.2 < 10) (hl : Lx l t) : Lx (kTeam k a ++ l) (tTeam k a ++ t) := by
  unfold tTeam
  simp only [List.append_assoc]
  show Lx ((11, 0) :: (50, nmv 116 k) :: (4, 0) :: (50, nmv 98 a.2.2) :: (12, 0) :: (51, lJ a.1) :: (10, 0) :: (51, lJ a.2.1) :: (39, 0) :: l) (([116, 101, 97, 109] : List Int32) ++ ((32 : Int32) :: (((116 : Int32) :: dec k) ++ ((32 : Int32) :: (([105, 110] : List Int32) ++ ((32 : Int32) :: (((98 : Int32) :: dec a.2.2) ++ ((32 : Int32) :: (([115, 105, 122, 101] : List Int32) ++ ((32 : Int32) :: (dec a.1 ++ ((32 : Int32) :: (([102, 111, 111, 100] : List Int32) ++ ((32 : Int32) :: (dec a.2.1 ++ (([59] : List Int32) ++ t))))))))))))))))
  refine lx_t tk_11 (fo1c (by decide)) ?_
  refine lx_b (by decide) ?_
  refine lx_t (tw_nm (c := 116) (by decide) hk) (fo1c (by decide)) ?_
  refine lx_b (by decide) ?_
  refine lx_t tk_4 (fo1c (by decide)) ?_
  refine lx_b (by decide) ?_
  refine lx_t (tw_nm (c := 98) (by decide) h3) (fo1c (by decide)) ?_
  refine lx_b (by decide) ?_
  refine lx_t tk_12 (fo1c (by decide)) ?_
  refine lx_b (by decide) ?_
  refine lx_t (tw_dec h1) (fo1c (by decide)) ?_
  refine lx_b (by decide) ?_
  refine lx_t tk_10 (fo1c (by decide)) ?_
  refine lx_b (by decide) ?_
  refine lx_t (tw_dec h2) (fo1c (by decide)) ?_
  refine lx_t tk_39 trivial ?_
  exact hl
def kDay (_ : Nat) (a : R2) : List TKN := [(13, 0), (51, lJ a.1), (14, 0), (51, lJ a.2), (39, 0)]
theorem lx_Day {k : Nat} {a : R2} {l : List TKN} {t : List Int32} (h1 : a.1 < 1000) (h2 : a.2 < 1000) (hl : Lx l t) : Lx (kDay k a ++ l) (tDay k a ++ t) := by
  unfold tDay
  simp only [List.append_assoc]
  show Lx ((13, 0) :: (51, lJ a.1) :: (14, 0) :: (51, lJ a.2) :: (39, 0) :: l) (([100, 97, 121] : List Int32) ++ ((32 : Int32) :: (dec a.1 ++ ((32 : Int32) :: (([119, 97, 114, 109] : List Int32) ++ ((32 : Int32) :: (dec a.2 ++ (([59] : List Int32) ++ t))))))))
  refine lx_t tk_13 (fo1c (by decide)) ?_
  refine lx_b (by decide) ?_
  refine lx_t (tw_dec h1) (fo1c (by decide)) ?_
  refine lx_b (by decide) ?_
  refine lx_t tk_14 (fo1c (by decide)) ?_
  refine lx_b (by decide) ?_
  refine lx_t (tw_dec h2) (fo1c (by decide)) ?_
  refine lx_t tk_39 trivial ?_
  exact hl
def kSum (o : Nat → Nat) : List TKN := if o 3 = 0 then [(51, lJ (o 4))] else if o 3 = 1 then [(51, lJ 40), (42, 0), (25, 0), (50, nmv 116 (o 9))] else if o 3 = 2 then [(33, 0), (35, 0), (24, 0), (50, nmv 100 (o 10)), (40, 0), (51, lJ (o 4)), (36, 0)] else if o 3 = 3 then [(13, 0), (41, 0), (51, lJ (o 4))] else if o 3 = 4 then [(26, 0), (50, nmv 116 (o 9)), (43, 0), (51, lJ (o 4))] else if o 3 = 5 then [(23, 0), (50, nmv 115 (o 7)), (44, 0), (51, lJ (o 4))] else if o 3 = 6 then [(2, 0), (50, nmv 98 (o 11)), (44, 0), (51, lJ 9), (42, 0), (51, lJ (o 4))] else [(34, 0), (35, 0), (8, 0), (50, nmv 99 (o 8)), (40, 0), (51, lJ (o 4)), (36, 0)]
theorem lx_sum {o : Nat → Nat} {l : List TKN} {t : List Int32} (h4 : o 4 < 1000) (h7 : o 7 < 10) (h8 : o 8 < 10) (h9 : o 9 < 10) (h10 : o 10 < 10) (h11 : o 11 < 10) (h3 : o 3 < 8) (hf : fo 1 t) (hl : Lx l t) : Lx (kSum o ++ l) (sumT o ++ t) := by
  unfold kSum sumT
  rcases (show o 3 = 0 ∨ o 3 = 1 ∨ o 3 = 2 ∨ o 3 = 3 ∨ o 3 = 4 ∨ o 3 = 5 ∨ o 3 = 6 ∨ o 3 = 7 by omega) with e | e | e | e | e | e | e | e <;> rw [e]
  · show Lx ([(51, lJ (o 4))] ++ l) ((([] ++ tx35) ++ dec (o 4)) ++ t)
    simp only [List.append_assoc]
    show Lx ((51, lJ (o 4)) :: l) ((32 : Int32) :: (dec (o 4) ++ t))
    refine lx_b (by decide) ?_
    refine lx_t (tw_dec h4) hf ?_
    exact hl
  · show Lx ([(51, lJ 40), (42, 0), (25, 0), (50, nmv 116 (o 9))] ++ l) ((([] ++ tx48) ++ dec (o 9)) ++ t)
    simp only [List.append_assoc]
    show Lx ((51, lJ 40) :: (42, 0) :: (25, 0) :: (50, nmv 116 (o 9)) :: l) ((32 : Int32) :: (([52, 48] : List Int32) ++ (([45] : List Int32) ++ (([115, 97, 99, 107] : List Int32) ++ ((32 : Int32) :: (((116 : Int32) :: dec (o 9)) ++ t))))))
    refine lx_b (by decide) ?_
    refine lx_t tl_40 (fo1c (by decide)) ?_
    refine lx_t tk_42 trivial ?_
    refine lx_t tk_25 (fo1c (by decide)) ?_
    refine lx_b (by decide) ?_
    refine lx_t (tw_nm (c := 116) (by decide) h9) hf ?_
    exact hl
  · show Lx ([(33, 0), (35, 0), (24, 0), (50, nmv 100 (o 10)), (40, 0), (51, lJ (o 4)), (36, 0)] ++ l) (((((([] ++ tx50) ++ dec (o 10)) ++ tx52) ++ dec (o 4)) ++ tx54) ++ t)
    simp only [List.append_assoc]
    show Lx ((33, 0) :: (35, 0) :: (24, 0) :: (50, nmv 100 (o 10)) :: (40, 0) :: (51, lJ (o 4)) :: (36, 0) :: l) ((32 : Int32) :: (([109, 105, 110] : List Int32) ++ (([40] : List Int32) ++ (([115, 116, 111, 99, 107] : List Int32) ++ ((32 : Int32) :: (((100 : Int32) :: dec (o 10)) ++ (([44] : List Int32) ++ (dec (o 4) ++ (([41] : List Int32) ++ t)))))))))
    refine lx_b (by decide) ?_
    refine lx_t tk_33 (fo1c (by decide)) ?_
    refine lx_t tk_35 trivial ?_
    refine lx_t tk_24 (fo1c (by decide)) ?_
    refine lx_b (by decide) ?_
    refine lx_t (tw_nm (c := 100) (by decide) h10) (fo1c (by decide)) ?_
    refine lx_t tk_40 trivial ?_
    refine lx_t (tw_dec h4) (fo1c (by decide)) ?_
    refine lx_t tk_36 trivial ?_
    exact hl
  · show Lx ([(13, 0), (41, 0), (51, lJ (o 4))] ++ l) ((([] ++ tx56) ++ dec (o 4)) ++ t)
    simp only [List.append_assoc]
    show Lx ((13, 0) :: (41, 0) :: (51, lJ (o 4)) :: l) ((32 : Int32) :: (([100, 97, 121] : List Int32) ++ (([43] : List Int32) ++ (dec (o 4) ++ t))))
    refine lx_b (by decide) ?_
    refine lx_t tk_13 (fo1c (by decide)) ?_
    refine lx_t tk_41 trivial ?_
    refine lx_t (tw_dec h4) hf ?_
    exact hl
  · show Lx ([(26, 0), (50, nmv 116 (o 9)), (43, 0), (51, lJ (o 4))] ++ l) ((((([] ++ tx58) ++ dec (o 9)) ++ tx60) ++ dec (o 4)) ++ t)
    simp only [List.append_assoc]
    show Lx ((26, 0) :: (50, nmv 116 (o 9)) :: (43, 0) :: (51, lJ (o 4)) :: l) ((32 : Int32) :: (([112, 108, 97, 99, 101] : List Int32) ++ ((32 : Int32) :: (((116 : Int32) :: dec (o 9)) ++ (([42] : List Int32) ++ (dec (o 4) ++ t))))))
    refine lx_b (by decide) ?_
    refine lx_t tk_26 (fo1c (by decide)) ?_
    refine lx_b (by decide) ?_
    refine lx_t (tw_nm (c := 116) (by decide) h9) (fo1c (by decide)) ?_
    refine lx_t tk_43 trivial ?_
    refine lx_t (tw_dec h4) hf ?_
    exact hl
  · show Lx ([(23, 0), (50, nmv 115 (o 7)), (44, 0), (51, lJ (o 4))] ++ l) ((((([] ++ tx62) ++ dec (o 7)) ++ tx64) ++ dec (o 4)) ++ t)
    simp only [List.append_assoc]
    show Lx ((23, 0) :: (50, nmv 115 (o 7)) :: (44, 0) :: (51, lJ (o 4)) :: l) ((32 : Int32) :: (([111, 117, 116] : List Int32) ++ ((32 : Int32) :: (((115 : Int32) :: dec (o 7)) ++ (([47] : List Int32) ++ (dec (o 4) ++ t))))))
    refine lx_b (by decide) ?_
    refine lx_t tk_23 (fo1c (by decide)) ?_
    refine lx_b (by decide) ?_
    refine lx_t (tw_nm (c := 115) (by decide) h7) (fo1c (by decide)) ?_
    refine lx_t tk_44 trivial ?_
    refine lx_t (tw_dec h4) hf ?_
    exact hl
  · show Lx ([(2, 0), (50, nmv 98 (o 11)), (44, 0), (51, lJ 9), (42, 0), (51, lJ (o 4))] ++ l) ((((([] ++ tx66) ++ dec (o 11)) ++ tx68) ++ dec (o 4)) ++ t)
    simp only [List.append_assoc]
    show Lx ((2, 0) :: (50, nmv 98 (o 11)) :: (44, 0) :: (51, lJ 9) :: (42, 0) :: (51, lJ (o 4)) :: l) ((32 : Int32) :: (([115, 110, 111, 119] : List Int32) ++ ((32 : Int32) :: (((98 : Int32) :: dec (o 11)) ++ (([47] : List Int32) ++ (([57] : List Int32) ++ ((32 : Int32) :: (([45] : List Int32) ++ ((32 : Int32) :: (dec (o 4) ++ t))))))))))
    refine lx_b (by decide) ?_
    refine lx_t tk_2 (fo1c (by decide)) ?_
    refine lx_b (by decide) ?_
    refine lx_t (tw_nm (c := 98) (by decide) h11) (fo1c (by decide)) ?_
    refine lx_t tk_44 trivial ?_
    refine lx_t tl_9 (fo1c (by decide)) ?_
    refine lx_b (by decide) ?_
    refine lx_t tk_42 trivial ?_
    refine lx_b (by decide) ?_
    refine lx_t (tw_dec h4) hf ?_
    exact hl
  · show Lx ([(34, 0), (35, 0), (8, 0), (50, nmv 99 (o 8)), (40, 0), (51, lJ (o 4)), (36, 0)] ++ l) (((((([] ++ tx70) ++ dec (o 8)) ++ tx72) ++ dec (o 4)) ++ tx54) ++ t)
    simp only [List.append_assoc]
    show Lx ((34, 0) :: (35, 0) :: (8, 0) :: (50, nmv 99 (o 8)) :: (40, 0) :: (51, lJ (o 4)) :: (36, 0) :: l) ((32 : Int32) :: (([109, 97, 120] : List Int32) ++ (([40] : List Int32) ++ (([98, 114, 105, 100, 103, 101] : List Int32) ++ ((32 : Int32) :: (((99 : Int32) :: dec (o 8)) ++ (([44] : List Int32) ++ ((32 : Int32) :: (dec (o 4) ++ (([41] : List Int32) ++ t))))))))))
    refine lx_b (by decide) ?_
    refine lx_t tk_34 (fo1c (by decide)) ?_
    refine lx_t tk_35 trivial ?_
    refine lx_t tk_8 (fo1c (by decide)) ?_
    refine lx_b (by decide) ?_
    refine lx_t (tw_nm (c := 99) (by decide) h8) (fo1c (by decide)) ?_
    refine lx_t tk_40 trivial ?_
    refine lx_b (by decide) ?_
    refine lx_t (tw_dec h4) (fo1c (by decide)) ?_
    refine lx_t tk_36 trivial ?_
    exact hl
def kWhen (o : Nat → Nat) (x : Int32) : List TKN := if x = -1 then [] else if x = 0 then [(22, 0), (13, 0), (46, 0), (51, lJ (o 6))] else if x = 1 then [(22, 0), (25, 0), (50, nmv 116 (o 9)), (45, 0), (51, lJ (o 6)), (43, 0), (51, lJ 3)] else if x = 2 then [(22, 0), (27, 0), (50, nmv 115 (o 7))] else if x = 3 then [(22, 0), (30, 0), (27, 0), (50, nmv 115 (o 7)), (32, 0), (23, 0), (50, nmv 115 (o 7)), (46, 0), (51, lJ 9), (43, 0), (51, lJ (o 6))] else if x = 4 then [(22, 0), (29, 0), (50, nmv 99 (o 8)), (31, 0), (8, 0), (50, nmv 99 (o 8)), (49, 0), (51, lJ (6 * o 6))] else if x = 5 then [(22, 0), (30, 0), (29, 0), (50, nmv 99 (o 8)), (31, 0), (13, 0), (42, 0), (13, 0), (44, 0), (51, lJ 3), (43, 0), (51, lJ 3), (47, 0), (51, lJ 0)] else if x = 6 then [(22, 0), (37, 0), (28, 0), (50, nmv 116 (o 9)), (32, 0), (51, lJ (o 6)), (46, 0), (51, lJ 3), (38, 0), (31, 0), (14, 0), (49, 0), (51, lJ 2), (43, 0), (51, lJ (o 6))] else if x = 7 then [(22, 0), (30, 0), (26, 0), (50, nmv 116 (o 9)), (47, 0), (51, lJ (o 6 % 3))] else [(22, 0), (51, lJ (o 6)), (48, 0), (51, lJ (o 6))]
theorem lx_when {o : Nat → Nat} {x : Int32} {l : List TKN} {t : List Int32} (h6 : o 6 < 1000) (h66 : 6 * o 6 < 1000) (h63 : o 6 % 3 < 1000) (h7 : o 7 < 10) (h8 : o 8 < 10) (h9 : o 9 < 10) (hx : o5Ok x) (hf : fo 1 t) (hl : Lx l t) : Lx (kWhen o x ++ l) (whenT o x ++ t) := by
  unfold kWhen whenT
  rcases hx with e | e | e | e | e | e | e | e | e | e <;> rw [e]
  · show Lx ([] ++ l) (tx74 ++ t)
    show Lx (l) t
    exact hl
  · show Lx ([(22, 0), (13, 0), (46, 0), (51, lJ (o 6))] ++ l) ((([] ++ tx76) ++ dec (o 6)) ++ t)
    simp only [List.append_assoc]
    show Lx ((22, 0) :: (13, 0) :: (46, 0) :: (51, lJ (o 6)) :: l) ((32 : Int32) :: (([119, 104, 101, 110] : List Int32) ++ ((32 : Int32) :: (([100, 97, 121] : List Int32) ++ (([62] : List Int32) ++ (dec (o 6) ++ t))))))
    refine lx_b (by decide) ?_
    refine lx_t tk_22 (fo1c (by decide)) ?_
    refine lx_b (by decide) ?_
    refine lx_t tk_13 (fo1c (by decide)) ?_
    refine lx_t tk_46 (fo2d h6) ?_
    refine lx_t (tw_dec h6) hf ?_
    exact hl
  · show Lx ([(22, 0), (25, 0), (50, nmv 116 (o 9)), (45, 0), (51, lJ (o 6)), (43, 0), (51, lJ 3)] ++ l) (((((([] ++ tx78) ++ dec (o 9)) ++ tx80) ++ dec (o 6)) ++ tx82) ++ t)
    simp only [List.append_assoc]
    show Lx ((22, 0) :: (25, 0) :: (50, nmv 116 (o 9)) :: (45, 0) :: (51, lJ (o 6)) :: (43, 0) :: (51, lJ 3) :: l) ((32 : Int32) :: (([119, 104, 101, 110] : List Int32) ++ ((32 : Int32) :: (([115, 97, 99, 107] : List Int32) ++ ((32 : Int32) :: (((116 : Int32) :: dec (o 9)) ++ (([60] : List Int32) ++ (dec (o 6) ++ (([42] : List Int32) ++ (([51] : List Int32) ++ t))))))))))
    refine lx_b (by decide) ?_
    refine lx_t tk_22 (fo1c (by decide)) ?_
    refine lx_b (by decide) ?_
    refine lx_t tk_25 (fo1c (by decide)) ?_
    refine lx_b (by decide) ?_
    refine lx_t (tw_nm (c := 116) (by decide) h9) (fo1c (by decide)) ?_
    refine lx_t tk_45 (fo2d h6) ?_
    refine lx_t (tw_dec h6) (fo1c (by decide)) ?_
    refine lx_t tk_43 trivial ?_
    refine lx_t tl_3 hf ?_
    exact hl
  · show Lx ([(22, 0), (27, 0), (50, nmv 115 (o 7))] ++ l) ((([] ++ tx84) ++ dec (o 7)) ++ t)
    simp only [List.append_assoc]
    show Lx ((22, 0) :: (27, 0) :: (50, nmv 115 (o 7)) :: l) ((32 : Int32) :: (([119, 104, 101, 110] : List Int32) ++ ((32 : Int32) :: (([115, 116, 97, 110, 100, 105, 110, 103] : List Int32) ++ ((32 : Int32) :: (((115 : Int32) :: dec (o 7)) ++ t))))))
    refine lx_b (by decide) ?_
    refine lx_t tk_22 (fo1c (by decide)) ?_
    refine lx_b (by decide) ?_
    refine lx_t tk_27 (fo1c (by decide)) ?_
    refine lx_b (by decide) ?_
    refine lx_t (tw_nm (c := 115) (by decide) h7) hf ?_
    exact hl
  · show Lx ([(22, 0), (30, 0), (27, 0), (50, nmv 115 (o 7)), (32, 0), (23, 0), (50, nmv 115 (o 7)), (46, 0), (51, lJ 9), (43, 0), (51, lJ (o 6))] ++ l) ((((((([] ++ tx86) ++ dec (o 7)) ++ tx88) ++ dec (o 7)) ++ tx90) ++ dec (o 6)) ++ t)
    simp only [List.append_assoc]
    show Lx ((22, 0) :: (30, 0) :: (27, 0) :: (50, nmv 115 (o 7)) :: (32, 0) :: (23, 0) :: (50, nmv 115 (o 7)) :: (46, 0) :: (51, lJ 9) :: (43, 0) :: (51, lJ (o 6)) :: l) ((32 : Int32) :: (([119, 104, 101, 110] : List Int32) ++ ((32 : Int32) :: (([110, 111, 116] : List Int32) ++ ((32 : Int32) :: (([115, 116, 97, 110, 100, 105, 110, 103] : List Int32) ++ ((32 : Int32) :: (((115 : Int32) :: dec (o 7)) ++ ((32 : Int32) :: (([111, 114] : List Int32) ++ ((32 : Int32) :: (([111, 117, 116] : List Int32) ++ ((32 : Int32) :: (((115 : Int32) :: dec (o 7)) ++ (([62] : List Int32) ++ (([57] : List Int32) ++ (([42] : List Int32) ++ (dec (o 6) ++ t))))))))))))))))))
    refine lx_b (by decide) ?_
    refine lx_t tk_22 (fo1c (by decide)) ?_
    refine lx_b (by decide) ?_
    refine lx_t tk_30 (fo1c (by decide)) ?_
    refine lx_b (by decide) ?_
    refine lx_t tk_27 (fo1c (by decide)) ?_
    refine lx_b (by decide) ?_
    refine lx_t (tw_nm (c := 115) (by decide) h7) (fo1c (by decide)) ?_
    refine lx_b (by decide) ?_
    refine lx_t tk_32 (fo1c (by decide)) ?_
    refine lx_b (by decide) ?_
    refine lx_t tk_23 (fo1c (by decide)) ?_
    refine lx_b (by decide) ?_
    refine lx_t (tw_nm (c := 115) (by decide) h7) (fo1c (by decide)) ?_
    refine lx_t tk_46 (fo2c (by decide)) ?_
    refine lx_t tl_9 (fo1c (by decide)) ?_
    refine lx_t tk_43 trivial ?_
    refine lx_t (tw_dec h6) hf ?_
    exact hl
  · show Lx ([(22, 0), (29, 0), (50, nmv 99 (o 8)), (31, 0), (8, 0), (50, nmv 99 (o 8)), (49, 0), (51, lJ (6 * o 6))] ++ l) ((((((([] ++ tx92) ++ dec (o 8)) ++ tx94) ++ dec (o 8)) ++ tx96) ++ dec (6 * o 6)) ++ t)
    simp only [List.append_assoc]
    show Lx ((22, 0) :: (29, 0) :: (50, nmv 99 (o 8)) :: (31, 0) :: (8, 0) :: (50, nmv 99 (o 8)) :: (49, 0) :: (51, lJ (6 * o 6)) :: l) ((32 : Int32) :: (([119, 104, 101, 110] : List Int32) ++ ((32 : Int32) :: (([107, 110, 111, 119, 110] : List Int32) ++ ((32 : Int32) :: (((99 : Int32) :: dec (o 8)) ++ ((32 : Int32) :: (([97, 110, 100] : List Int32) ++ ((32 : Int32) :: (([98, 114, 105, 100, 103, 101] : List Int32) ++ ((32 : Int32) :: (((99 : Int32) :: dec (o 8)) ++ (([62, 61] : List Int32) ++ (dec (6 * o 6) ++ t))))))))))))))
    refine lx_b (by decide) ?_
    refine lx_t tk_22 (fo1c (by decide)) ?_
    refine lx_b (by decide) ?_
    refine lx_t tk_29 (fo1c (by decide)) ?_
    refine lx_b (by decide) ?_
    refine lx_t (tw_nm (c := 99) (by decide) h8) (fo1c (by decide)) ?_
    refine lx_b (by decide) ?_
    refine lx_t tk_31 (fo1c (by decide)) ?_
    refine lx_b (by decide) ?_
    refine lx_t tk_8 (fo1c (by decide)) ?_
    refine lx_b (by decide) ?_
    refine lx_t (tw_nm (c := 99) (by decide) h8) (fo1c (by decide)) ?_
    refine lx_t tk_49 trivial ?_
    refine lx_t (tw_dec h66) hf ?_
    exact hl
  · show Lx ([(22, 0), (30, 0), (29, 0), (50, nmv 99 (o 8)), (31, 0), (13, 0), (42, 0), (13, 0), (44, 0), (51, lJ 3), (43, 0), (51, lJ 3), (47, 0), (51, lJ 0)] ++ l) (((([] ++ tx98) ++ dec (o 8)) ++ tx100) ++ t)
    simp only [List.append_assoc]
    show Lx ((22, 0) :: (30, 0) :: (29, 0) :: (50, nmv 99 (o 8)) :: (31, 0) :: (13, 0) :: (42, 0) :: (13, 0) :: (44, 0) :: (51, lJ 3) :: (43, 0) :: (51, lJ 3) :: (47, 0) :: (51, lJ 0) :: l) ((32 : Int32) :: (([119, 104, 101, 110] : List Int32) ++ ((32 : Int32) :: (([110, 111, 116] : List Int32) ++ ((32 : Int32) :: (([107, 110, 111, 119, 110] : List Int32) ++ ((32 : Int32) :: (((99 : Int32) :: dec (o 8)) ++ ((32 : Int32) :: (([97, 110, 100] : List Int32) ++ ((32 : Int32) :: (([100, 97, 121] : List Int32) ++ (([45] : List Int32) ++ (([100, 97, 121] : List Int32) ++ (([47] : List Int32) ++ (([51] : List Int32) ++ (([42] : List Int32) ++ (([51] : List Int32) ++ (([61] : List Int32) ++ (([48] : List Int32) ++ t))))))))))))))))))))
    refine lx_b (by decide) ?_
    refine lx_t tk_22 (fo1c (by decide)) ?_
    refine lx_b (by decide) ?_
    refine lx_t tk_30 (fo1c (by decide)) ?_
    refine lx_b (by decide) ?_
    refine lx_t tk_29 (fo1c (by decide)) ?_
    refine lx_b (by decide) ?_
    refine lx_t (tw_nm (c := 99) (by decide) h8) (fo1c (by decide)) ?_
    refine lx_b (by decide) ?_
    refine lx_t tk_31 (fo1c (by decide)) ?_
    refine lx_b (by decide) ?_
    refine lx_t tk_13 (fo1c (by decide)) ?_
    refine lx_t tk_42 trivial ?_
    refine lx_t tk_13 (fo1c (by decide)) ?_
    refine lx_t tk_44 trivial ?_
    refine lx_t tl_3 (fo1c (by decide)) ?_
    refine lx_t tk_43 trivial ?_
    refine lx_t tl_3 (fo1c (by decide)) ?_
    refine lx_t tk_47 trivial ?_
    refine lx_t tl_0 hf ?_
    exact hl
  · show Lx ([(22, 0), (37, 0), (28, 0), (50, nmv 116 (o 9)), (32, 0), (51, lJ (o 6)), (46, 0), (51, lJ 3), (38, 0), (31, 0), (14, 0), (49, 0), (51, lJ 2), (43, 0), (51, lJ (o 6))] ++ l) ((((((([] ++ tx102) ++ dec (o 9)) ++ tx104) ++ dec (o 6)) ++ tx106) ++ dec (o 6)) ++ t)
    simp only [List.append_assoc]
    show Lx ((22, 0) :: (37, 0) :: (28, 0) :: (50, nmv 116 (o 9)) :: (32, 0) :: (51, lJ (o 6)) :: (46, 0) :: (51, lJ 3) :: (38, 0) :: (31, 0) :: (14, 0) :: (49, 0) :: (51, lJ 2) :: (43, 0) :: (51, lJ (o 6)) :: l) ((32 : Int32) :: (([119, 104, 101, 110] : List Int32) ++ ((32 : Int32) :: (([91] : List Int32) ++ (([104, 101, 114, 101] : List Int32) ++ ((32 : Int32) :: (((116 : Int32) :: dec (o 9)) ++ ((32 : Int32) :: (([111, 114] : List Int32) ++ ((32 : Int32) :: (dec (o 6) ++ (([62] : List Int32) ++ (([51] : List Int32) ++ (([93] : List Int32) ++ (([97, 110, 100] : List Int32) ++ ((32 : Int32) :: (([119, 97, 114, 109] : List Int32) ++ (([62, 61] : List Int32) ++ (([50] : List Int32) ++ (([42] : List Int32) ++ (dec (o 6) ++ t)))))))))))))))))))))
    refine lx_b (by decide) ?_
    refine lx_t tk_22 (fo1c (by decide)) ?_
    refine lx_b (by decide) ?_
    refine lx_t tk_37 trivial ?_
    refine lx_t tk_28 (fo1c (by decide)) ?_
    refine lx_b (by decide) ?_
    refine lx_t (tw_nm (c := 116) (by decide) h9) (fo1c (by decide)) ?_
    refine lx_b (by decide) ?_
    refine lx_t tk_32 (fo1c (by decide)) ?_
    refine lx_b (by decide) ?_
    refine lx_t (tw_dec h6) (fo1c (by decide)) ?_
    refine lx_t tk_46 (fo2c (by decide)) ?_
    refine lx_t tl_3 (fo1c (by decide)) ?_
    refine lx_t tk_38 trivial ?_
    refine lx_t tk_31 (fo1c (by decide)) ?_
    refine lx_b (by decide) ?_
    refine lx_t tk_14 (fo1c (by decide)) ?_
    refine lx_t tk_49 trivial ?_
    refine lx_t tl_2 (fo1c (by decide)) ?_
    refine lx_t tk_43 trivial ?_
    refine lx_t (tw_dec h6) hf ?_
    exact hl
  · show Lx ([(22, 0), (30, 0), (26, 0), (50, nmv 116 (o 9)), (47, 0), (51, lJ (o 6 % 3))] ++ l) ((((([] ++ tx108) ++ dec (o 9)) ++ tx110) ++ dec (o 6 % 3)) ++ t)
    simp only [List.append_assoc]
    show Lx ((22, 0) :: (30, 0) :: (26, 0) :: (50, nmv 116 (o 9)) :: (47, 0) :: (51, lJ (o 6 % 3)) :: l) ((32 : Int32) :: (([119, 104, 101, 110] : List Int32) ++ ((32 : Int32) :: (([110, 111, 116] : List Int32) ++ ((32 : Int32) :: (([112, 108, 97, 99, 101] : List Int32) ++ ((32 : Int32) :: (((116 : Int32) :: dec (o 9)) ++ (([61] : List Int32) ++ (dec (o 6 % 3) ++ t))))))))))
    refine lx_b (by decide) ?_
    refine lx_t tk_22 (fo1c (by decide)) ?_
    refine lx_b (by decide) ?_
    refine lx_t tk_30 (fo1c (by decide)) ?_
    refine lx_b (by decide) ?_
    refine lx_t tk_26 (fo1c (by decide)) ?_
    refine lx_b (by decide) ?_
    refine lx_t (tw_nm (c := 116) (by decide) h9) (fo1c (by decide)) ?_
    refine lx_t tk_47 trivial ?_
    refine lx_t (tw_dec h63) hf ?_
    exact hl
  · show Lx ([(22, 0), (51, lJ (o 6)), (48, 0), (51, lJ (o 6))] ++ l) ((((([] ++ tx112) ++ dec (o 6)) ++ tx114) ++ dec (o 6)) ++ t)
    simp only [List.append_assoc]
    show Lx ((22, 0) :: (51, lJ (o 6)) :: (48, 0) :: (51, lJ (o 6)) :: l) ((32 : Int32) :: (([119, 104, 101, 110] : List Int32) ++ ((32 : Int32) :: (dec (o 6) ++ (([60, 61] : List Int32) ++ (dec (o 6) ++ t))))))
    refine lx_b (by decide) ?_
    refine lx_t tk_22 (fo1c (by decide)) ?_
    refine lx_b (by decide) ?_
    refine lx_t (tw_dec h6) (fo1c (by decide)) ?_
    refine lx_t tk_48 trivial ?_
    refine lx_t (tw_dec h6) hf ?_
    exact hl
theorem fo_when {o : Nat → Nat} {x : Int32} {t : List Int32} (hx : o5Ok x) (hf : fo 1 t) : fo 1 (whenT o x ++ t) := by
  unfold whenT
  rcases hx with e | e | e | e | e | e | e | e | e | e <;> rw [e]
  · exact hf
  · show fo 1 ((([] ++ tx76) ++ dec (o 6)) ++ t)
    simp only [List.append_assoc]
    exact fo1c (c := 32) (by decide)
  · show fo 1 (((((([] ++ tx78) ++ dec (o 9)) ++ tx80) ++ dec (o 6)) ++ tx82) ++ t)
    simp only [List.append_assoc]
    exact fo1c (c := 32) (by decide)
  · show fo 1 ((([] ++ tx84) ++ dec (o 7)) ++ t)
    simp only [List.append_assoc]
    exact fo1c (c := 32) (by decide)
  · show fo 1 ((((((([] ++ tx86) ++ dec (o 7)) ++ tx88) ++ dec (o 7)) ++ tx90) ++ dec (o 6)) ++ t)
    simp only [List.append_assoc]
    exact fo1c (c := 32) (by decide)
  · show fo 1 ((((((([] ++ tx92) ++ dec (o 8)) ++ tx94) ++ dec (o 8)) ++ tx96) ++ dec (6 * o 6)) ++ t)
    simp only [List.append_assoc]
    exact fo1c (c := 32) (by decide)
  · show fo 1 (((([] ++ tx98) ++ dec (o 8)) ++ tx100) ++ t)
    simp only [List.append_assoc]
    exact fo1c (c := 32) (by decide)
  · show fo 1 ((((((([] ++ tx102) ++ dec (o 9)) ++ tx104) ++ dec (o 6)) ++ tx106) ++ dec (o 6)) ++ t)
    simp only [List.append_assoc]
    exact fo1c (c := 32) (by decide)
  · show fo 1 ((((([] ++ tx108) ++ dec (o 9)) ++ tx110) ++ dec (o 6 % 3)) ++ t)
    simp only [List.append_assoc]
    exact fo1c (c := 32) (by decide)
  · show fo 1 ((((([] ++ tx112) ++ dec (o 6)) ++ tx114) ++ dec (o 6)) ++ t)
    simp only [List.append_assoc]
    exact fo1c (c := 32) (by decide)
theorem lx_w0 {o : Nat → Nat} {l : List TKN} {t : List Int32} (h1 : o 1 < 10) (hf : fo 1 t) (hl : Lx l t) : Lx ((15, 0) :: (50, nmv 116 (o 1)) :: l) (w0T (o 1) ++ t) := by
  unfold w0T
  simp only [List.append_assoc]
  show Lx ((15, 0) :: (50, nmv 116 (o 1)) :: l) (([99, 108, 105, 109, 98] : List Int32) ++ ((32 : Int32) :: (((116 : Int32) :: dec (o 1)) ++ t)))
  refine lx_t tk_15 (fo1c (by decide)) ?_
  refine lx_b (by decide) ?_
  refine lx_t (tw_nm (c := 116) (by decide) h1) hf ?_
  exact hl
theorem lx_w1 {o : Nat → Nat} {l : List TKN} {t : List Int32} (h1 : o 1 < 10) (hf : fo 1 t) (hl : Lx l t) : Lx ((16, 0) :: (50, nmv 116 (o 1)) :: l) (w1T (o 1) ++ t) := by
  unfold w1T
  simp only [List.append_assoc]
  show Lx ((16, 0) :: (50, nmv 116 (o 1)) :: l) (([100, 101, 115, 99, 101, 110, 100] : List Int32) ++ ((32 : Int32) :: (((116 : Int32) :: dec (o 1)) ++ t)))
  refine lx_t tk_16 (fo1c (by decide)) ?_
  refine lx_b (by decide) ?_
  refine lx_t (tw_nm (c := 116) (by decide) h1) hf ?_
  exact hl
theorem lx_w2 {o : Nat → Nat} {l : List TKN} {t : List Int32} (h1 : o 1 < 10) (h2 : o 2 < 10) (hf : fo 1 t) (hl : Lx l t) : Lx ((17, 0) :: (50, nmv 99 (o 1)) :: (18, 0) :: (50, nmv 116 (o 2)) :: l) (w2T (o 1) (o 2) ++ t) := by
  unfold w2T
  simp only [List.append_assoc]
  show Lx ((17, 0) :: (50, nmv 99 (o 1)) :: (18, 0) :: (50, nmv 116 (o 2)) :: l) (([112, 114, 111, 98, 101] : List Int32) ++ ((32 : Int32) :: (((99 : Int32) :: dec (o 1)) ++ ((32 : Int32) :: (([98, 121] : List Int32) ++ ((32 : Int32) :: (((116 : Int32) :: dec (o 2)) ++ t)))))))
  refine lx_t tk_17 (fo1c (by decide)) ?_
  refine lx_b (by decide) ?_
  refine lx_t (tw_nm (c := 99) (by decide) h1) (fo1c (by decide)) ?_
  refine lx_b (by decide) ?_
  refine lx_t tk_18 (fo1c (by decide)) ?_
  refine lx_b (by decide) ?_
  refine lx_t (tw_nm (c := 116) (by decide) h2) hf ?_
  exact hl
theorem fo_sum {o : Nat → Nat} {t : List Int32} (h3 : o 3 < 8) : fo 1 (sumT o ++ t) := by
  unfold sumT
  rcases (show o 3 = 0 ∨ o 3 = 1 ∨ o 3 = 2 ∨ o 3 = 3 ∨ o 3 = 4 ∨ o 3 = 5 ∨ o 3 = 6 ∨ o 3 = 7 by omega) with e | e | e | e | e | e | e | e <;> rw [e]
  · show fo 1 ((([] ++ tx35) ++ dec (o 4)) ++ t)
    simp only [List.append_assoc]
    exact fo1c (c := 32) (by decide)
  · show fo 1 ((([] ++ tx48) ++ dec (o 9)) ++ t)
    simp only [List.append_assoc]
    exact fo1c (c := 32) (by decide)
  · show fo 1 (((((([] ++ tx50) ++ dec (o 10)) ++ tx52) ++ dec (o 4)) ++ tx54) ++ t)
    simp only [List.append_assoc]
    exact fo1c (c := 32) (by decide)
  · show fo 1 ((([] ++ tx56) ++ dec (o 4)) ++ t)
    simp only [List.append_assoc]
    exact fo1c (c := 32) (by decide)
  · show fo 1 ((((([] ++ tx58) ++ dec (o 9)) ++ tx60) ++ dec (o 4)) ++ t)
    simp only [List.append_assoc]
    exact fo1c (c := 32) (by decide)
  · show fo 1 ((((([] ++ tx62) ++ dec (o 7)) ++ tx64) ++ dec (o 4)) ++ t)
    simp only [List.append_assoc]
    exact fo1c (c := 32) (by decide)
  · show fo 1 ((((([] ++ tx66) ++ dec (o 11)) ++ tx68) ++ dec (o 4)) ++ t)
    simp only [List.append_assoc]
    exact fo1c (c := 32) (by decide)
  · show fo 1 (((((([] ++ tx70) ++ dec (o 8)) ++ tx72) ++ dec (o 4)) ++ tx54) ++ t)
    simp only [List.append_assoc]
    exact fo1c (c := 32) (by decide)
theorem lx_w3 {o : Nat → Nat} {l : List TKN} {t : List Int32} (h1 : o 1 < 10) (h4 : o 4 < 1000) (h7 : o 7 < 10) (h8 : o 8 < 10) (h9 : o 9 < 10) (h10 : o 10 < 10) (h11 : o 11 < 10) (h3 : o 3 < 8) (hf : fo 1 t) (hl : Lx l t) : Lx ((19, 0) :: (50, nmv 116 (o 1)) :: (20, 0) :: (kSum o ++ l)) (w3T (o 1) (sumT o) ++ t) := by
  unfold w3T
  simp only [List.append_assoc]
  show Lx ((19, 0) :: (50, nmv 116 (o 1)) :: (20, 0) :: (kSum o ++ l)) (([102, 105, 108, 108] : List Int32) ++ ((32 : Int32) :: (((116 : Int32) :: dec (o 1)) ++ ((32 : Int32) :: (([119, 105, 116, 104] : List Int32) ++ (sumT o ++ t))))))
  refine lx_t tk_19 (fo1c (by decide)) ?_
  refine lx_b (by decide) ?_
  refine lx_t (tw_nm (c := 116) (by decide) h1) (fo1c (by decide)) ?_
  refine lx_b (by decide) ?_
  refine lx_t tk_20 (fo_sum h3) ?_
  exact (lx_sum h4 h7 h8 h9 h10 h11 h3 hf hl)
theorem lx_w4 {o : Nat → Nat} {l : List TKN} {t : List Int32} (h1 : o 1 < 10) (hf : fo 1 t) (hl : Lx l t) : Lx ((21, 0) :: (50, nmv 115 (o 1)) :: l) (w4T (o 1) ++ t) := by
  unfold w4T
  simp only [List.append_assoc]
  show Lx ((21, 0) :: (50, nmv 115 (o 1)) :: l) (([100, 114, 105, 108, 108] : List Int32) ++ ((32 : Int32) :: (((115 : Int32) :: dec (o 1)) ++ t)))
  refine lx_t tk_21 (fo1c (by decide)) ?_
  refine lx_b (by decide) ?_
  refine lx_t (tw_nm (c := 115) (by decide) h1) hf ?_
  exact hl
def kWd (o : Nat → Nat) : List TKN := if o 0 = 0 then [(15, 0), (50, nmv 116 (o 1))] else if o 0 = 1 then [(16, 0), (50, nmv 116 (o 1))] else if o 0 = 2 then [(17, 0), (50, nmv 99 (o 1)), (18, 0), (50, nmv 116 (o 2))] else if o 0 = 3 then (19, 0) :: (50, nmv 116 (o 1)) :: (20, 0) :: kSum o else [(21, 0), (50, nmv 115 (o 1))]
def kOrd (_ : Nat) (a : RO) : List TKN := kWd (oF a) ++ (kWhen (oF a) a.2 ++ [(39, 0)])
theorem lx_Ord {nb ns nc nd nt k : Nat} {a : RO} {l : List TKN} {t : List Int32} (hm : nb ≤ 4 ∧ ns ≤ 4 ∧ nc ≤ 4 ∧ nd ≤ 4 ∧ nt ≤ 4) (ha : okOrd nb ns nc nd nt a) (hl : Lx l t) : Lx (kOrd k a ++ l) (tOrd k a ++ t) := by
  obtain ⟨hob, q0, q1, q2, q3, q4, q5, q6, q7, q8, q9, q10, q11, q12, q13, q14, q15⟩ := ha
  have hb := fun j => hob j
  have h6 := hob 6
  have hl2 : Lx ((39, 0) :: l) (tx208 ++ t) := by
    show Lx ((39, 0) :: l) (([59] : List Int32) ++ ((10 : Int32) :: t))
    exact lx_t tk_39 trivial (lx_b (by decide) hl)
  have hf2 : fo 1 (tx208 ++ t) := fo1c (c := 59) (by decide)
  have hw := lx_when (o := oF a) (x := a.2) (by omega) (by omega) (by omega) (by omega) (by omega) (by omega) q8 hf2 hl2
  have hfw := fo_when (o := oF a) (x := a.2) q8 hf2
  unfold tOrd kOrd
  rw [List.append_assoc, List.append_assoc, List.append_assoc, List.append_assoc]
  show Lx (kWd (oF a) ++ (kWhen (oF a) a.2 ++ ((39, 0) :: l))) _
  unfold kWd
  rcases (show oF a 0 = 0 ∨ oF a 0 = 1 ∨ oF a 0 = 2 ∨ oF a 0 = 3 ∨ oF a 0 = 4 by omega) with e | e | e | e | e <;> rw [e]
  · exact lx_w0 q4 hfw hw
  · exact lx_w1 q4 hfw hw
  · exact lx_w2 q4 (by omega) hfw hw
  · exact lx_w3 q4 (Nat.lt_trans (hob 4) (by decide)) (by omega) (by omega) (by omega) (by omega) (by omega) q6 hfw hw
  · exact lx_w4 q4 hfw hw
theorem len_kSum (o : Nat → Nat) : (kSum o).length ≤ 7 := by
  unfold kSum
  (repeat' split) <;> exact Nat.le_of_ble_eq_true rfl
theorem len_kWhen (o : Nat → Nat) (x : Int32) : (kWhen o x).length ≤ 15 := by
  unfold kWhen
  (repeat' split) <;> exact Nat.le_of_ble_eq_true rfl
theorem len_kOrd (k : Nat) (a : RO) : (kOrd k a).length ≤ 26 := by
  have h1 := len_kSum (oF a)
  have h2 := len_kWhen (oF a) a.2
  unfold kOrd
  rw [List.length_append, List.length_append, List.length_singleton]
  have h3 : (kWd (oF a)).length ≤ 10 := by
    unfold kWd
    (repeat' split) <;> first | exact Nat.le_of_ble_eq_true rfl | (simp only [List.length_cons]; omega)
  omega
/-- the tokens of a list's lines -/
def kAllF {α : Type} (f : Nat → α → List TKN) : Nat → List α → List TKN
  | _, [] => []
  | k, a :: l => f k a ++ kAllF f (k + 1) l
theorem lx_all {α : Type} {f : Nat → α → List Int32} {g : Nat → α → List TKN} {ok : α → Prop} {L : List TKN} {t : List Int32} (hfg : ∀ k a l t, k < 10 → ok a → Lx l t → Lx (g k a ++ l) (f k a ++ t)) (hl : Lx L t) : ∀ (l : List α) (k : Nat), k + l.length ≤ 10 → (∀ a ∈ l, ok a) → Lx (kAllF g k l ++ L) (tAllF f k l ++ t)
  | [], _, _, _ => hl
  | a :: l, k, hk, ha => by
    rw [List.length_cons] at hk
    unfold kAllF tAllF
    rw [List.append_assoc, List.append_assoc]
    exact hfg k a _ _ (by omega) (ha a List.mem_cons_self) (lx_all hfg hl l (k + 1) (by omega) (fun b hb => ha b (List.mem_cons_of_mem _ hb)))
theorem len_kAll {α : Type} {g : Nat → α → List TKN} {c : Nat} (hg : ∀ k a, (g k a).length ≤ c) : ∀ (l : List α) (k : Nat), (kAllF g k l).length ≤ c * l.length
  | [], _ => Nat.zero_le _
  | a :: l, k => by
    have h1 := hg k a
    have h2 := len_kAll hg l (k + 1)
    unfold kAllF
    rw [List.length_append, List.length_cons, Nat.mul_succ]
    omega
/-- the tokens of the whole list -/
def dTk (D : DL) : List TKN := kAllF kBand 0 (d_b D) ++ (kAllF kStake 0 (d_s D) ++ (kAllF kCrev 0 (d_c D) ++ (kAllF kDepot 0 (d_d D) ++ (kAllF kTeam 0 (d_t D) ++ (kAllF kDay 0 (d_w D) ++ (kAllF kOrd 0 (d_o D) ++ []))))))
theorem dTk_lx {D : DL} (hD : DOk D) : Lx (dTk D) (dTx D) ∧ (dTk D).length ≤ 400 := by
  obtain ⟨h0, h1, h2, h3, h4, h5, h6, k0, -, k1, k2, k3, k4, k5, k6⟩ := hD
  have e : dTx D = tAllF tBand 0 (d_b D) ++ (tAllF tStake 0 (d_s D) ++ (tAllF tCrev 0 (d_c D) ++ (tAllF tDepot 0 (d_d D) ++ (tAllF tTeam 0 (d_t D) ++ (tAllF tDay 0 (d_w D) ++ (tAllF tOrd 0 (d_o D) ++ [])))))) := by
    unfold dTx tAll
    rw [List.append_nil]
    simp only [List.append_assoc]
  have n0 := len_kAll (g := kBand) (c := 7) (fun _ _ => Nat.le_of_ble_eq_true rfl) (d_b D) 0
  have n1 := len_kAll (g := kStake) (c := 7) (fun _ _ => Nat.le_of_ble_eq_true rfl) (d_s D) 0
  have n2 := len_kAll (g := kCrev) (c := 7) (fun _ _ => Nat.le_of_ble_eq_true rfl) (d_c D) 0
  have n3 := len_kAll (g := kDepot) (c := 7) (fun _ _ => Nat.le_of_ble_eq_true rfl) (d_d D) 0
  have n4 := len_kAll (g := kTeam) (c := 9) (fun _ _ => Nat.le_of_ble_eq_true rfl) (d_t D) 0
  have n5 := len_kAll (g := kDay) (c := 5) (fun _ _ => Nat.le_of_ble_eq_true rfl) (d_w D) 0
  have n6 := len_kAll (g := kOrd) (c := 26) len_kOrd (d_o D) 0
  refine ⟨?_, ?_⟩
  · rw [e]
    unfold dTk
    refine lx_all (ok := okBand) (fun k a l t hk ha hl => lx_Band hk (Nat.lt_of_le_of_lt ha.1 (by decide)) (Nat.lt_of_le_of_lt ha.2 (by decide)) hl) ?_ _ 0 (by omega) k0
    refine lx_all (ok := okStake (d_b D).length) (fun k a l t hk ha hl => lx_Stake hk (Nat.lt_of_lt_of_le ha.1 (by omega)) (Nat.lt_of_le_of_lt ha.2.2 (by decide)) hl) ?_ _ 0 (by omega) k1
    refine lx_all (ok := okCrev (d_b D).length) (fun k a l t hk ha hl => lx_Crev hk (Nat.lt_of_lt_of_le ha.1 (by omega)) (Nat.lt_of_le_of_lt ha.2 (by decide)) hl) ?_ _ 0 (by omega) k2
    refine lx_all (ok := okCrev (d_b D).length) (fun k a l t hk ha hl => lx_Depot hk (Nat.lt_of_lt_of_le ha.1 (by omega)) (Nat.lt_of_le_of_lt ha.2 (by decide)) hl) ?_ _ 0 (by omega) k3
    refine lx_all (ok := okTeam (d_b D).length) (fun k a l t hk ha hl => lx_Team hk (Nat.lt_of_le_of_lt ha.2.1 (by decide)) (Nat.lt_of_le_of_lt ha.2.2.1 (by decide)) (Nat.lt_of_lt_of_le ha.2.2.2 (by omega)) hl) ?_ _ 0 (by omega) k4
    refine lx_all (ok := okDay) (fun k a l t hk ha hl => lx_Day (Nat.lt_trans ha.1 (by decide)) (Nat.lt_of_le_of_lt ha.2 (by decide)) hl) ?_ _ 0 (by omega) k5
    exact lx_all (ok := okOrd (d_b D).length (d_s D).length (d_c D).length (d_d D).length (d_t D).length) (fun k a l t hk ha hl => lx_Ord ⟨h0.2, h1.2, h2.2, by omega, by omega⟩ ha hl) lx_nil _ 0 (by omega) k6
  · unfold dTk
    simp only [List.length_append, List.length_nil]
    omega
