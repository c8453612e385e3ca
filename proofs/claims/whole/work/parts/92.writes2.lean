/-! lines: what the reference writes at each name and number -/
theorem err_n {M : MO} {H : SH} {i : Nat} (hi : 1 ≤ i) (h400 : i ≤ 400) (h44 : ¬ sh_kd H (i - 1) = 44) (hk : sh_kd H i = 37) : s_Model_errorOf M H i = (s_Model_errorOfNumber M H i).bind fun p => some (p.1, p.2) := by
  rw [err_in hi h400 h44, l_Model_errorOf_27, hk, if_pos (by omega), if_pos (by decide), if_neg (by decide), if_neg (by decide), if_neg (by decide), if_pos rfl, if_pos (by omega)]
theorem okI_pred {r n : Nat} (h : r < n) (hn : n ≤ 1000) : okI (nI (r + 1) - 1) n = true ∧ (nI (r + 1) - 1).toNatClampNeg = r := by
  rw [nI_pred, nI_clamp (by omega)]
  exact ⟨ok_nI h hn, rfl⟩
theorem en_1 {M : MO} {H : SH} {i v r lo : Nat} (hi : 1 ≤ i) (h400 : i ≤ 400) (hp : sh_kd H (i - 1) = 1) (hk : sh_kd H i = 37) (hn : s_Model_number M H i = some (nI v)) (hr : sh_ha H 0 = r + 1) (hr5 : r < 5) (hlo : nI lo = if r = 0 then 0 else sh_hg H (r - 1) + 1) : s_Model_errorOf M H i = some (s_Model_errorOfRange (nI v) (nI lo) (nI 20), sh_hg' (sh_me' H (upd (sh_me H) i (nI v))) (upd (sh_hg H) r (nI v))) := by
  rw [err_n hi h400 (by rw [hp]; decide) hk]
  unfold s_Model_errorOfNumber
  rw [if_pos (show i ≤ 2500 by omega), hn]
  show ((if i < 401 then _ else none) : Option (Int32 × SH)).bind _ = _
  rw [if_pos (show i < 401 by omega), if_pos hi, if_pos (show i - 1 < 401 by omega), hp, if_pos (show (1 : Int32) = 1 from rfl)]
  rw [hr, if_pos (show 1 ≤ r + 1 by omega), Nat.add_sub_cancel, if_pos (show r < 5 from hr5)]
  by_cases z : r = 0
  · rw [if_pos (show nI r = 0 by rw [z]; rfl)]
    rw [if_pos z] at hlo
    rw [hlo]
    rfl
  · rw [if_neg (show ¬ nI r = 0 from nI_ne0 (by omega) (by omega)), if_pos (show 1 ≤ r by omega), if_pos (show r - 1 < 5 by omega), upd_ne _ _ (show r - 1 ≠ r by omega)]
    rw [if_neg z] at hlo
    rw [hlo]
    rfl
theorem en_2 {M : MO} {H : SH} {i v r : Nat} (hi : 1 ≤ i) (h400 : i ≤ 400) (hp : sh_kd H (i - 1) = 2) (hk : sh_kd H i = 37) (hn : s_Model_number M H i = some (nI v)) (hr : sh_ha H 0 = r + 1) (hr5 : r < 5) : s_Model_errorOf M H i = some (s_Model_errorOfRange (nI v) (nI 0) (nI 300), sh_sn' (sh_me' H (upd (sh_me H) i (nI v))) (upd (sh_sn H) r (nI v))) := by
  rw [err_n hi h400 (by rw [hp]; decide) hk]
  unfold s_Model_errorOfNumber
  rw [if_pos (show i ≤ 2500 by omega), hn]
  show ((if i < 401 then _ else none) : Option (Int32 × SH)).bind _ = _
  rw [if_pos (show i < 401 by omega), if_pos hi, if_pos (show i - 1 < 401 by omega), hp, if_neg (show ¬ (2 : Int32) = 1 by decide), if_pos (show (2 : Int32) = 2 from rfl)]
  obtain ⟨k1, k2⟩ := okI_pred hr5 (by decide)
  rw [hr, if_pos k1, k2]
  rfl
theorem en_5 {M : MO} {H : SH} {i v r : Nat} (hi : 1 ≤ i) (h400 : i ≤ 400) (hp : sh_kd H (i - 1) = 5) (hk : sh_kd H i = 37) (hn : s_Model_number M H i = some (nI v)) (hr : sh_ha H 3 = r + 1) (hr5 : r < 6) : s_Model_errorOf M H i = some (s_Model_errorOfRange (nI v) (nI 1) (nI 200), sh_dp' (sh_me' H (upd (sh_me H) i (nI v))) (upd (sh_dp H) r (nI v))) := by
  rw [err_n hi h400 (by rw [hp]; decide) hk]
  unfold s_Model_errorOfNumber
  rw [if_pos (show i ≤ 2500 by omega), hn]
  show ((if i < 401 then _ else none) : Option (Int32 × SH)).bind _ = _
  rw [if_pos (show i < 401 by omega), if_pos hi, if_pos (show i - 1 < 401 by omega), hp, if_neg (show ¬ (5 : Int32) = 1 by decide), if_neg (show ¬ (5 : Int32) = 2 by decide), if_pos (show (5 : Int32) = 5 from rfl)]
  rw [hr, if_pos (show 1 ≤ r + 1 by omega), Nat.add_sub_cancel, if_pos (show r < 6 from hr5)]
  rfl
theorem en_8 {M : MO} {H : SH} {i v r : Nat} (hi : 1 ≤ i) (h400 : i ≤ 400) (hp : sh_kd H (i - 1) = 8) (hk : sh_kd H i = 37) (hn : s_Model_number M H i = some (nI v)) (hr : sh_ha H 6 = r + 1) (hr5 : r < 4) : s_Model_errorOf M H i = some (s_Model_errorOfRange (nI v) (nI 0) (nI 99), sh_br' (sh_me' H (upd (sh_me H) i (nI v))) (upd (sh_br H) r (nI v))) := by
  rw [err_n hi h400 (by rw [hp]; decide) hk]
  unfold s_Model_errorOfNumber
  rw [if_pos (show i ≤ 2500 by omega), hn]
  show ((if i < 401 then _ else none) : Option (Int32 × SH)).bind _ = _
  rw [if_pos (show i < 401 by omega), if_pos hi, if_pos (show i - 1 < 401 by omega), hp, if_neg (show ¬ (8 : Int32) = 1 by decide), if_neg (show ¬ (8 : Int32) = 2 by decide), if_neg (show ¬ (8 : Int32) = 5 by decide), if_pos (show (8 : Int32) = 8 from rfl)]
  rw [hr, if_pos (show 1 ≤ r + 1 by omega), Nat.add_sub_cancel, if_pos (show r < 4 from hr5)]
  rfl
theorem en_12 {M : MO} {H : SH} {i v r : Nat} (hi : 1 ≤ i) (h400 : i ≤ 400) (hp : sh_kd H (i - 1) = 12) (hk : sh_kd H i = 37) (hn : s_Model_number M H i = some (nI v)) (hr : sh_ha H 11 = r + 1) (hr5 : r < 4) : s_Model_errorOf M H i = some (s_Model_errorOfRange (nI v) (nI 2) (nI 6), sh_sz' (sh_me' H (upd (sh_me H) i (nI v))) (upd (sh_sz H) r (nI v))) := by
  rw [err_n hi h400 (by rw [hp]; decide) hk]
  unfold s_Model_errorOfNumber
  rw [if_pos (show i ≤ 2500 by omega), hn]
  show ((if i < 401 then _ else none) : Option (Int32 × SH)).bind _ = _
  rw [if_pos (show i < 401 by omega), if_pos hi, if_pos (show i - 1 < 401 by omega), hp, if_neg (show ¬ (12 : Int32) = 1 by decide), if_neg (show ¬ (12 : Int32) = 2 by decide), if_neg (show ¬ (12 : Int32) = 5 by decide), if_neg (show ¬ (12 : Int32) = 8 by decide), if_neg (show ¬ (12 : Int32) = 10 by decide), if_pos (show (12 : Int32) = 12 from rfl)]
  rw [hr, if_pos (show 1 ≤ r + 1 by omega), Nat.add_sub_cancel, if_pos (show r < 4 from hr5)]
  rfl
theorem en_10d {M : MO} {H : SH} {i v r : Nat} (hi : 1 ≤ i) (h400 : i ≤ 400) (hp : sh_kd H (i - 1) = 10) (hk : sh_kd H i = 37) (hn : s_Model_number M H i = some (nI v)) (hl : sh_ln H = 9) (hr : sh_ha H 9 = r + 1) (hr5 : r < 4) : s_Model_errorOf M H i = some (s_Model_errorOfRange (nI v) (nI 0) (nI 99), sh_fo' (sh_me' H (upd (sh_me H) i (nI v))) (upd (sh_fo H) r (nI v))) := by
  rw [err_n hi h400 (by rw [hp]; decide) hk]
  unfold s_Model_errorOfNumber
  rw [if_pos (show i ≤ 2500 by omega), hn]
  show ((if i < 401 then _ else none) : Option (Int32 × SH)).bind _ = _
  rw [if_pos (show i < 401 by omega), if_pos hi, if_pos (show i - 1 < 401 by omega), hp, if_neg (show ¬ (10 : Int32) = 1 by decide), if_neg (show ¬ (10 : Int32) = 2 by decide), if_neg (show ¬ (10 : Int32) = 5 by decide), if_neg (show ¬ (10 : Int32) = 8 by decide), if_pos (show (10 : Int32) = 10 from rfl)]
  rw [if_pos hl, hr, if_pos (show 1 ≤ r + 1 by omega), Nat.add_sub_cancel, if_pos (show r < 4 from hr5)]
  rfl
theorem en_10t {M : MO} {H : SH} {i v r : Nat} (hi : 1 ≤ i) (h400 : i ≤ 400) (hp : sh_kd H (i - 1) = 10) (hk : sh_kd H i = 37) (hn : s_Model_number M H i = some (nI v)) (hl : sh_ln H = 11) (hr : sh_ha H 11 = r + 1) (hr5 : r < 4) : s_Model_errorOf M H i = some (s_Model_errorOfRange (nI v) (nI 0) (nI 40), sh_sk' (sh_me' H (upd (sh_me H) i (nI v))) (upd (sh_sk H) r (nI v))) := by
  rw [err_n hi h400 (by rw [hp]; decide) hk]
  unfold s_Model_errorOfNumber
  rw [if_pos (show i ≤ 2500 by omega), hn]
  show ((if i < 401 then _ else none) : Option (Int32 × SH)).bind _ = _
  rw [if_pos (show i < 401 by omega), if_pos hi, if_pos (show i - 1 < 401 by omega), hp, if_neg (show ¬ (10 : Int32) = 1 by decide), if_neg (show ¬ (10 : Int32) = 2 by decide), if_neg (show ¬ (10 : Int32) = 5 by decide), if_neg (show ¬ (10 : Int32) = 8 by decide), if_pos (show (10 : Int32) = 10 from rfl)]
  rw [if_neg (show ¬ sh_ln H = 9 by rw [hl]; decide), hr, if_pos (show 1 ≤ r + 1 by omega), Nat.add_sub_cancel, if_pos (show r < 4 from hr5)]
  rfl
theorem en_13 {M : MO} {H : SH} {i v : Nat} (hi : 1 ≤ i) (h400 : i ≤ 400) (hp : sh_kd H (i - 1) = 13) (hk : sh_kd H i = 37) (hn : s_Model_number M H i = some (nI v)) : s_Model_errorOf M H i = some (s_Model_errorOfRange (nI v) (nI 0) (nI 7), sh_dt' (sh_me' H (upd (sh_me H) i (nI v))) (nI v)) := by
  rw [err_n hi h400 (by rw [hp]; decide) hk]
  unfold s_Model_errorOfNumber
  rw [if_pos (show i ≤ 2500 by omega), hn]
  show ((if i < 401 then _ else none) : Option (Int32 × SH)).bind _ = _
  rw [if_pos (show i < 401 by omega), if_pos hi, if_pos (show i - 1 < 401 by omega), hp, if_neg (show ¬ (13 : Int32) = 1 by decide), if_neg (show ¬ (13 : Int32) = 2 by decide), if_neg (show ¬ (13 : Int32) = 5 by decide), if_neg (show ¬ (13 : Int32) = 8 by decide), if_neg (show ¬ (13 : Int32) = 10 by decide), if_neg (show ¬ (13 : Int32) = 12 by decide), if_pos (show (13 : Int32) = 13 from rfl)]
  rfl
theorem en_14 {M : MO} {H : SH} {i v d : Nat} (hi : 1 ≤ i) (h400 : i ≤ 400) (hp : sh_kd H (i - 1) = 14) (hk : sh_kd H i = 37) (hn : s_Model_number M H i = some (nI v)) (hd : sh_dt H = nI d) (h8 : d < 8) : s_Model_errorOf M H i = some (s_Model_errorOfRange (nI v) (nI 0) (nI 30), sh_wa' (sh_me' H (upd (sh_me H) i (nI v))) (upd (sh_wa H) d (nI v))) := by
  rw [err_n hi h400 (by rw [hp]; decide) hk]
  unfold s_Model_errorOfNumber
  rw [if_pos (show i ≤ 2500 by omega), hn]
  show ((if i < 401 then _ else none) : Option (Int32 × SH)).bind _ = _
  rw [if_pos (show i < 401 by omega), if_pos hi, if_pos (show i - 1 < 401 by omega), hp, if_neg (show ¬ (14 : Int32) = 1 by decide), if_neg (show ¬ (14 : Int32) = 2 by decide), if_neg (show ¬ (14 : Int32) = 5 by decide), if_neg (show ¬ (14 : Int32) = 8 by decide), if_neg (show ¬ (14 : Int32) = 10 by decide), if_neg (show ¬ (14 : Int32) = 12 by decide), if_neg (show ¬ (14 : Int32) = 13 by decide), if_pos (show (14 : Int32) = 14 from rfl)]
  rw [hd, if_pos (ok_nI h8 (by decide)), nI_clamp (by omega)]
  rfl
theorem eo_in3 {M : MO} {H : SH} {i r x : Nat} (hi : 1 ≤ i) (h400 : i ≤ 400) (hx : x < 2 ^ 31) (hp : sh_kd H (i - 1) = 4) (hf : s_Model_find M H 0 i = some (nI x)) (hl : sh_ln H = 3) (hr : sh_ha H 3 = r + 1) (hr5 : r < 6) : s_Model_errorOfName M H i = some (0, sh_si' (sh_me' H (upd (sh_me H) i (nI x))) (upd (sh_si H) r (nI x))) := by
  unfold s_Model_errorOfName
  rw [if_pos hi, if_pos (show i - 1 < 401 by omega), hp, if_pos (show s_Model_isSort 4 = 0 by decide), show s_Model_sortBehind 4 = nI 0 by decide, if_pos (ok_nI (by decide) (by decide)), if_pos (show i ≤ 2500 by omega), nI_clamp (by decide), hf]
  show (if i < 401 then (if nI x = -1 then _ else _) else none) = _
  rw [if_pos (show i < 401 by omega), if_neg (fun w => nI_pos hx (by rw [w]; decide)), if_pos (show (4 : Int32) = 4 from rfl)]
  rw [if_pos hl, hr]
  obtain ⟨k1, k2⟩ := okI_pred hr5 (by decide)
  rw [if_pos k1, k2, if_neg (show ¬ sh_ln H = 9 by rw [hl]; decide), if_neg (show ¬ sh_ln H = 11 by rw [hl]; decide)]
theorem eo_in9 {M : MO} {H : SH} {i r x : Nat} (hi : 1 ≤ i) (h400 : i ≤ 400) (hx : x < 2 ^ 31) (hp : sh_kd H (i - 1) = 4) (hf : s_Model_find M H 0 i = some (nI x)) (hl : sh_ln H = 9) (hr : sh_ha H 9 = r + 1) (hr5 : r < 4) : s_Model_errorOfName M H i = some (0, sh_di' (sh_me' H (upd (sh_me H) i (nI x))) (upd (sh_di H) r (nI x))) := by
  unfold s_Model_errorOfName
  rw [if_pos hi, if_pos (show i - 1 < 401 by omega), hp, if_pos (show s_Model_isSort 4 = 0 by decide), show s_Model_sortBehind 4 = nI 0 by decide, if_pos (ok_nI (by decide) (by decide)), if_pos (show i ≤ 2500 by omega), nI_clamp (by decide), hf]
  show (if i < 401 then (if nI x = -1 then _ else _) else none) = _
  rw [if_pos (show i < 401 by omega), if_neg (fun w => nI_pos hx (by rw [w]; decide)), if_pos (show (4 : Int32) = 4 from rfl)]
  rw [if_neg (show ¬ sh_ln H = 3 by rw [hl]; decide), if_pos hl, hr]
  obtain ⟨k1, k2⟩ := okI_pred hr5 (by decide)
  rw [if_pos k1, k2, if_neg (show ¬ sh_ln H = 11 by rw [hl]; decide)]
theorem eo_in11 {M : MO} {H : SH} {i r x : Nat} (hi : 1 ≤ i) (h400 : i ≤ 400) (hx : x < 2 ^ 31) (hp : sh_kd H (i - 1) = 4) (hf : s_Model_find M H 0 i = some (nI x)) (hl : sh_ln H = 11) (hr : sh_ha H 11 = r + 1) (hr5 : r < 4) : s_Model_errorOfName M H i = some (0, sh_ti' (sh_me' H (upd (sh_me H) i (nI x))) (upd (sh_ti H) r (nI x))) := by
  unfold s_Model_errorOfName
  rw [if_pos hi, if_pos (show i - 1 < 401 by omega), hp, if_pos (show s_Model_isSort 4 = 0 by decide), show s_Model_sortBehind 4 = nI 0 by decide, if_pos (ok_nI (by decide) (by decide)), if_pos (show i ≤ 2500 by omega), nI_clamp (by decide), hf]
  show (if i < 401 then (if nI x = -1 then _ else _) else none) = _
  rw [if_pos (show i < 401 by omega), if_neg (fun w => nI_pos hx (by rw [w]; decide)), if_pos (show (4 : Int32) = 4 from rfl)]
  rw [if_neg (show ¬ sh_ln H = 3 by rw [hl]; decide), if_neg (show ¬ sh_ln H = 9 by rw [hl]; decide), if_pos hl, hr]
  obtain ⟨k1, k2⟩ := okI_pred hr5 (by decide)
  rw [if_pos k1, k2]
theorem eo_7 {M : MO} {H : SH} {i r x : Nat} (hi : 1 ≤ i) (h400 : i ≤ 400) (hx : x < 2 ^ 31) (hp : sh_kd H (i - 1) = 7) (hf : s_Model_find M H 0 i = some (nI x)) (hr : sh_ha H 6 = r + 1) (hr5 : r < 4) : s_Model_errorOfName M H i = some (0, sh_ab' (sh_me' H (upd (sh_me H) i (nI x))) (upd (sh_ab H) r (nI x))) := by
  unfold s_Model_errorOfName
  rw [if_pos hi, if_pos (show i - 1 < 401 by omega), hp, if_pos (show s_Model_isSort 7 = 0 by decide), show s_Model_sortBehind 7 = nI 0 by decide, if_pos (ok_nI (by decide) (by decide)), if_pos (show i ≤ 2500 by omega), nI_clamp (by decide), hf]
  show (if i < 401 then (if nI x = -1 then _ else _) else none) = _
  rw [if_pos (show i < 401 by omega), if_neg (fun w => nI_pos hx (by rw [w]; decide)), if_neg (show ¬ (7 : Int32) = 4 by decide), if_pos (show (7 : Int32) = 7 from rfl)]
  rw [hr, if_pos (show 1 ≤ r + 1 by omega), Nat.add_sub_cancel, if_pos (show r < 4 from hr5)]
theorem eo_15 {M : MO} {H : SH} {i r x : Nat} (hi : 1 ≤ i) (h400 : i ≤ 400) (hx : x < 2 ^ 31) (hp : sh_kd H (i - 1) = 15) (hf : s_Model_find M H 11 i = some (nI x)) (hr : sh_or H = r + 1) (hr5 : r < 20) : s_Model_errorOfName M H i = some (0, sh_on' (sh_me' H (upd (sh_me H) i (nI x))) (upd (sh_on H) r (nI x))) := by
  unfold s_Model_errorOfName
  rw [if_pos hi, if_pos (show i - 1 < 401 by omega), hp, if_pos (show s_Model_isSort 15 = 0 by decide), show s_Model_sortBehind 15 = nI 11 by decide, if_pos (ok_nI (by decide) (by decide)), if_pos (show i ≤ 2500 by omega), nI_clamp (by decide), hf]
  show (if i < 401 then (if nI x = -1 then _ else _) else none) = _
  rw [if_pos (show i < 401 by omega), if_neg (fun w => nI_pos hx (by rw [w]; decide)), if_neg (show ¬ (15 : Int32) = 4 by decide), if_neg (show ¬ (15 : Int32) = 7 by decide), if_pos (show (15 : Int32) = 15 from rfl)]
  rw [hr]
  obtain ⟨k1, k2⟩ := okI_pred hr5 (by decide)
  rw [if_pos k1, k2]
theorem eo_16 {M : MO} {H : SH} {i r x : Nat} (hi : 1 ≤ i) (h400 : i ≤ 400) (hx : x < 2 ^ 31) (hp : sh_kd H (i - 1) = 16) (hf : s_Model_find M H 11 i = some (nI x)) (hr : sh_or H = r + 1) (hr5 : r < 20) : s_Model_errorOfName M H i = some (0, sh_on' (sh_me' H (upd (sh_me H) i (nI x))) (upd (sh_on H) r (nI x))) := by
  unfold s_Model_errorOfName
  rw [if_pos hi, if_pos (show i - 1 < 401 by omega), hp, if_pos (show s_Model_isSort 16 = 0 by decide), show s_Model_sortBehind 16 = nI 11 by decide, if_pos (ok_nI (by decide) (by decide)), if_pos (show i ≤ 2500 by omega), nI_clamp (by decide), hf]
  show (if i < 401 then (if nI x = -1 then _ else _) else none) = _
  rw [if_pos (show i < 401 by omega), if_neg (fun w => nI_pos hx (by rw [w]; decide)), if_neg (show ¬ (16 : Int32) = 4 by decide), if_neg (show ¬ (16 : Int32) = 7 by decide), if_neg (show ¬ (16 : Int32) = 15 by decide), if_pos (show (16 : Int32) = 16 from rfl)]
  rw [hr]
  obtain ⟨k1, k2⟩ := okI_pred hr5 (by decide)
  rw [if_pos k1, k2]
theorem eo_17 {M : MO} {H : SH} {i r x : Nat} (hi : 1 ≤ i) (h400 : i ≤ 400) (hx : x < 2 ^ 31) (hp : sh_kd H (i - 1) = 17) (hf : s_Model_find M H 6 i = some (nI x)) (hr : sh_or H = r + 1) (hr5 : r < 20) : s_Model_errorOfName M H i = some (0, sh_on' (sh_me' H (upd (sh_me H) i (nI x))) (upd (sh_on H) r (nI x))) := by
  unfold s_Model_errorOfName
  rw [if_pos hi, if_pos (show i - 1 < 401 by omega), hp, if_pos (show s_Model_isSort 17 = 0 by decide), show s_Model_sortBehind 17 = nI 6 by decide, if_pos (ok_nI (by decide) (by decide)), if_pos (show i ≤ 2500 by omega), nI_clamp (by decide), hf]
  show (if i < 401 then (if nI x = -1 then _ else _) else none) = _
  rw [if_pos (show i < 401 by omega), if_neg (fun w => nI_pos hx (by rw [w]; decide)), if_neg (show ¬ (17 : Int32) = 4 by decide), if_neg (show ¬ (17 : Int32) = 7 by decide), if_neg (show ¬ (17 : Int32) = 15 by decide), if_neg (show ¬ (17 : Int32) = 16 by decide), if_pos (show (17 : Int32) = 17 from rfl)]
  rw [hr]
  obtain ⟨k1, k2⟩ := okI_pred hr5 (by decide)
  rw [if_pos k1, k2]
theorem eo_18 {M : MO} {H : SH} {i r x : Nat} (hi : 1 ≤ i) (h400 : i ≤ 400) (hx : x < 2 ^ 31) (hp : sh_kd H (i - 1) = 18) (hf : s_Model_find M H 11 i = some (nI x)) (hr : sh_or H = r + 1) (hr5 : r < 20) : s_Model_errorOfName M H i = some (0, sh_ot' (sh_me' H (upd (sh_me H) i (nI x))) (upd (sh_ot H) r (nI x))) := by
  unfold s_Model_errorOfName
  rw [if_pos hi, if_pos (show i - 1 < 401 by omega), hp, if_pos (show s_Model_isSort 18 = 0 by decide), show s_Model_sortBehind 18 = nI 11 by decide, if_pos (ok_nI (by decide) (by decide)), if_pos (show i ≤ 2500 by omega), nI_clamp (by decide), hf]
  show (if i < 401 then (if nI x = -1 then _ else _) else none) = _
  rw [if_pos (show i < 401 by omega), if_neg (fun w => nI_pos hx (by rw [w]; decide)), if_neg (show ¬ (18 : Int32) = 4 by decide), if_neg (show ¬ (18 : Int32) = 7 by decide), if_neg (show ¬ (18 : Int32) = 15 by decide), if_neg (show ¬ (18 : Int32) = 16 by decide), if_neg (show ¬ (18 : Int32) = 17 by decide), if_pos (show (18 : Int32) = 18 from rfl)]
  rw [hr]
  obtain ⟨k1, k2⟩ := okI_pred hr5 (by decide)
  rw [if_pos k1, k2]
theorem eo_19 {M : MO} {H : SH} {i r x : Nat} (hi : 1 ≤ i) (h400 : i ≤ 400) (hx : x < 2 ^ 31) (hp : sh_kd H (i - 1) = 19) (hf : s_Model_find M H 11 i = some (nI x)) (hr : sh_or H = r + 1) (hr5 : r < 20) : s_Model_errorOfName M H i = some (0, sh_on' (sh_me' H (upd (sh_me H) i (nI x))) (upd (sh_on H) r (nI x))) := by
  unfold s_Model_errorOfName
  rw [if_pos hi, if_pos (show i - 1 < 401 by omega), hp, if_pos (show s_Model_isSort 19 = 0 by decide), show s_Model_sortBehind 19 = nI 11 by decide, if_pos (ok_nI (by decide) (by decide)), if_pos (show i ≤ 2500 by omega), nI_clamp (by decide), hf]
  show (if i < 401 then (if nI x = -1 then _ else _) else none) = _
  rw [if_pos (show i < 401 by omega), if_neg (fun w => nI_pos hx (by rw [w]; decide)), if_neg (show ¬ (19 : Int32) = 4 by decide), if_neg (show ¬ (19 : Int32) = 7 by decide), if_neg (show ¬ (19 : Int32) = 15 by decide), if_neg (show ¬ (19 : Int32) = 16 by decide), if_neg (show ¬ (19 : Int32) = 17 by decide), if_neg (show ¬ (19 : Int32) = 18 by decide), if_pos (show (19 : Int32) = 19 from rfl)]
  rw [hr]
  obtain ⟨k1, k2⟩ := okI_pred hr5 (by decide)
  rw [if_pos k1, k2]
theorem eo_21 {M : MO} {H : SH} {i r x : Nat} (hi : 1 ≤ i) (h400 : i ≤ 400) (hx : x < 2 ^ 31) (hp : sh_kd H (i - 1) = 21) (hf : s_Model_find M H 3 i = some (nI x)) (hr : sh_or H = r + 1) (hr5 : r < 20) : s_Model_errorOfName M H i = some (0, sh_on' (sh_me' H (upd (sh_me H) i (nI x))) (upd (sh_on H) r (nI x))) := by
  unfold s_Model_errorOfName
  rw [if_pos hi, if_pos (show i - 1 < 401 by omega), hp, if_pos (show s_Model_isSort 21 = 0 by decide), show s_Model_sortBehind 21 = nI 3 by decide, if_pos (ok_nI (by decide) (by decide)), if_pos (show i ≤ 2500 by omega), nI_clamp (by decide), hf]
  show (if i < 401 then (if nI x = -1 then _ else _) else none) = _
  rw [if_pos (show i < 401 by omega), if_neg (fun w => nI_pos hx (by rw [w]; decide)), if_neg (show ¬ (21 : Int32) = 4 by decide), if_neg (show ¬ (21 : Int32) = 7 by decide), if_neg (show ¬ (21 : Int32) = 15 by decide), if_neg (show ¬ (21 : Int32) = 16 by decide), if_neg (show ¬ (21 : Int32) = 17 by decide), if_neg (show ¬ (21 : Int32) = 18 by decide), if_neg (show ¬ (21 : Int32) = 19 by decide), if_pos (show (21 : Int32) = 21 from rfl)]
  rw [hr]
  obtain ⟨k1, k2⟩ := okI_pred hr5 (by decide)
  rw [if_pos k1, k2]
/-! a line: what both make of it -/
def LINE (K : TK) (H : SH) (n : Nat) (M : MO) (d : Int32) (t : Nat) (F : FM) (E : TE) (N : Nat → NM) (T : TM) (σ : GL) (M1 : MO) (K' : TK) (F' : FM) (E' : TE) (N' : Nat → NM) (T' : TM) (σ' : GL) (rm : Option (Int32 × MO)) : Prop := ∃ (s : Bool × Nat) (d' : Nat), K' = st K s ∧ rm = some (if s.1 = true then 1 else 0, mS M1 s.2 d') ∧ t ≤ s.2 ∧ s.2 ≤ n ∧ (s.1 = true → d' = 0 ∧ t < s.2 ∧ (gk K (s.2 - 1)).val = 39 ∧ (¬ te_er E = 0 → E' = E) ∧ (te_er E = 0 → ∀ H1, LREL K H n d t F N T σ H1 → (t = 0 ∨ (gk K (t - 1)).val = 39) → ERR K M n t H1 E' ∨ (E' = E ∧ ∃ H2, RDm M n t H1 = RDm M n s.2 H2 ∧ LREL K H n d s.2 F' N' T' σ' H2)))
def isL (H : SH) (M1 : MO) : Option (Int32 × MO) := (s_Model_isLine H M1).bind fun p16_3 => (if p16_3.1 = 0 then some (0, p16_3.2) else ((s_Model_eat_0 H 44 p16_3.2).bind fun p26_5 => (if p26_5.1 = 0 then some (0, p26_5.2) else some (1, p26_5.2))))
theorem ERR.back {K : TK} {M : MO} {n t t2 : Nat} {H1 H2 : SH} {E E' : TE} (h : ERR K M n t2 H2 E) (hr : RDm M n t H1 = RDm M n t2 H2) (he : E' = E) : ERR K M n t H1 E' := by
  subst he
  obtain ⟨a, b, c⟩ := h
  exact ⟨a, b, hr.trans c⟩
theorem NRel.congr {K : TK} {H H' : SH} {N : Nat → NM} {n : Nat} (h : NRel K H N n) (h1 : sh_ha H' = sh_ha H) (h2 : sh_na H' = sh_na H) : NRel K H' N n := by
  intro i hi
  rw [h1, h2]
  exact h i hi
theorem OREL.keep {H : SH} {T : TM} {F : FM} {H1 H2 : SH} {t t' a : Nat} (h : OREL H T F H1 t) (ht : t ≤ t') (ha : fm_sz F = nI a) (h800 : a ≤ 800) (hm : ∀ j, j < t → sh_me H2 j = sh_me H1 j) (hh : ∀ k, sh_ha H1 k ≤ sh_ha H2 k) (h0 : sh_or H2 = sh_or H1) (h1 : sh_ds H2 = sh_ds H1) (h2 : sh_on H2 = sh_on H1) (h3 : sh_ot H2 = sh_ot H1) (h4 : sh_su H2 = sh_su H1) (h5 : sh_wh H2 = sh_wh H1) : OREL H T F H2 t' := by
  refine ⟨h.1.trans h0.symm, fun i hi => ?_⟩
  exact KL.keep (h.2 i (by omega)) ht ha ha (Nat.le_refl _) h800 (fun j _ => ⟨rfl, rfl⟩) hm hh (fun c _ => rfl) (by rw [h1]) (by rw [h2]) (by rw [h3]) (by rw [h4]) (by rw [h5])
theorem V1.mono {nb nb' m : Nat} {si dp : Nat → Int32} (h : V1 nb m si dp) (hn : nb ≤ nb') : V1 nb' m si dp := fun r hr => by
  obtain ⟨⟨b, b1, b2⟩, h2⟩ := h r hr
  exact ⟨⟨b, by omega, b2⟩, h2⟩
theorem V2.mono {nb nb' m : Nat} {si dp : Nat → Int32} (h : V2 nb m si dp) (hn : nb ≤ nb') : V2 nb' m si dp := fun r hr => by
  obtain ⟨⟨b, b1, b2⟩, h2⟩ := h r hr
  exact ⟨⟨b, by omega, b2⟩, h2⟩
theorem V3.mono {nb nb' m : Nat} {si dp : Nat → Int32} (h : V3 nb m si dp) (hn : nb ≤ nb') : V3 nb' m si dp := fun r hr => by
  obtain ⟨⟨b, b1, b2⟩, h2⟩ := h r hr
  exact ⟨⟨b, by omega, b2⟩, h2⟩
theorem V4.mono {nb nb' m : Nat} {sz sk ti : Nat → Int32} (h : V4 nb m sz sk ti) (hn : nb ≤ nb') : V4 nb' m sz sk ti := fun r hr => by
  obtain ⟨h1, h2, b, b1, b2⟩ := h r hr
  exact ⟨h1, h2, b, by omega, b2⟩
def NN (N0 N1 N2 N3 N4 : NM) : Nat → NM
  | 0 => N0
  | 1 => N1
  | 2 => N2
  | 3 => N3
  | _ => N4
theorem readBand_eq {K : TK} {F : FM} {E : TE} {N0 N1 N2 N3 N4 : NM} {T : TM} {σ : GL} {low : Int32} (h : low = if 0 ≤ ((nI (gN σ 0)) - 1) then (gG σ 0 ((nI (gN σ 0)) - 1) 0) + 1 else 0) : s_Teacher_readBand K F E N0 N1 N2 N3 N4 T σ = ((s_Teacher_number (s_Teacher_number (s_Teacher_newName K E N0 5).1 (s_Teacher_newName K E N0 5).2.1 1 low 20).2.1 (s_Teacher_number (s_Teacher_newName K E N0 5).1 (s_Teacher_newName K E N0 5).2.1 1 low 20).2.2 2 0 300).2.1, (s_Teacher_number (s_Teacher_number (s_Teacher_newName K E N0 5).1 (s_Teacher_newName K E N0 5).2.1 1 low 20).2.1 (s_Teacher_number (s_Teacher_newName K E N0 5).1 (s_Teacher_newName K E N0 5).2.1 1 low 20).2.2 2 0 300).2.2, (s_Teacher_newName K E N0 5).2.2, s_Glacier_addBand σ (s_Teacher_number (s_Teacher_newName K E N0 5).1 (s_Teacher_newName K E N0 5).2.1 1 low 20).1 (s_Teacher_number (s_Teacher_number (s_Teacher_newName K E N0 5).1 (s_Teacher_newName K E N0 5).2.1 1 low 20).2.1 (s_Teacher_number (s_Teacher_newName K E N0 5).1 (s_Teacher_newName K E N0 5).2.1 1 low 20).2.2 2 0 300).1) := by
  unfold s_Teacher_readBand
  by_cases h0 : 0 ≤ ((nI (gN σ 0)) - 1)
  · rw [if_pos h0] at h
    rw [if_pos h0, h]
  · rw [if_neg h0] at h
    rw [if_neg h0, h]
