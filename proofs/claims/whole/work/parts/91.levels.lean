/-! the four loops, each by itself -/
def i32 (g : Fin 54) : Bool := decide (g.val = 32)
def i31 (g : Fin 54) : Bool := decide (g.val = 31)
def i41 (g : Fin 54) : Bool := decide (g.val = 41 ∨ g.val = 42)
def i43 (g : Fin 54) : Bool := decide (g.val = 43 ∨ g.val = 44)
def o32 (k : Int32) : Bool := decide (k = 32)
def o31 (k : Int32) : Bool := decide (k = 31)
def o46 (k : Int32) : Bool := decide (¬ s_Model_isIn k 46 47 = 0)
def o48 (k : Int32) : Bool := decide (¬ s_Model_isIn k 48 49 = 0)
def c32 (_ a b : Int32) : Int32 := a ||| b
def c31 (_ a b : Int32) : Int32 := a &&& b
def c46 (k a b : Int32) : Int32 := if k = 46 then a + b else a - b
def c48 (k a b : Int32) : Int32 := if k = 48 then a * b else if b = 0 then 0 else a / b
def ckT (_ : Int32) : Bool := true
theorem ops32 : OPS 0 i32 o32 c32 b01 := by
  refine ⟨by decide +kernel, by decide +kernel, fun g u v h => ?_, fun g u v h h1 h2 => ?_, fun v h => b01_of (h (by decide))⟩
  · have : g = 32 := Fin.ext (of_decide_eq_true h)
    subst this
    rfl
  · intro _
    rcases h1 (by decide) with rfl | rfl <;> rcases h2 (by decide) with rfl | rfl <;> (unfold c32; decide)
theorem ops31 : OPS 1 i31 o31 c31 b01 := by
  refine ⟨by decide +kernel, by decide +kernel, fun g u v h => ?_, fun g u v h h1 h2 => ?_, fun v h => b01_of (h (by decide))⟩
  · have : g = 31 := Fin.ext (of_decide_eq_true h)
    subst this
    rfl
  · intro _
    rcases h1 (by decide) with rfl | rfl <;> rcases h2 (by decide) with rfl | rfl <;> (unfold c31; decide)
theorem ops41 : OPS 3 i41 o46 c46 ckT := by
  refine ⟨by decide +kernel, by decide +kernel, fun g u v h => ?_, fun g u v h h1 h2 w => absurd w (by decide), fun v h => rfl⟩
  rcases of_decide_eq_true h with e | e
  · have : g = 41 := Fin.ext e
    subst this
    rfl
  · have : g = 42 := Fin.ext e
    subst this
    rfl
theorem ops43 : OPS 4 i43 o48 c48 ckT := by
  refine ⟨by decide +kernel, by decide +kernel, fun g u v h => ?_, fun g u v h h1 h2 w => absurd w (by decide), fun v h => rfl⟩
  rcases of_decide_eq_true h with e | e
  · have : g = 43 := Fin.ext e
    subst this
    rfl
  · have : g = 44 := Fin.ext e
    subst this
    rfl
theorem gl32 {N0 N1 N2 N3 N4 : NM} {rec : Nat → Nat → Fin 54 → RS → RS} {x : Nat} : ∀ k i K F E, l_Teacher_readTest_7 N0 N1 N2 N3 N4 rec x k i K F E = gl (fun S => rec 1 x 0 S) i32 k (K, F, E)
  | 0, _, _, _, _ => rfl
  | k + 1, i, K, F, E => by
    rw [l_Teacher_readTest_7, gl, gl32 k]
    by_cases e : (s_Tokens_sign K).val = 32
    · rw [if_pos e, if_pos (show i32 (s_Tokens_sign (K, F, E).1) = true from decide_eq_true e), show (32 : Fin 54) = s_Tokens_sign K from (Fin.ext e).symm]
    · rw [if_neg e, if_neg (show ¬ i32 (s_Tokens_sign (K, F, E).1) = true from fun w => e (of_decide_eq_true w))]
theorem gl31 {N0 N1 N2 N3 N4 : NM} {rec : Nat → Nat → Fin 54 → RS → RS} {x : Nat} : ∀ k i K F E, l_Teacher_readBoth_7 N0 N1 N2 N3 N4 rec x k i K F E = gl (fun S => rec 2 x 0 S) i31 k (K, F, E)
  | 0, _, _, _, _ => rfl
  | k + 1, i, K, F, E => by
    rw [l_Teacher_readBoth_7, gl, gl31 k]
    by_cases e : (s_Tokens_sign K).val = 31
    · rw [if_pos e, if_pos (show i31 (s_Tokens_sign (K, F, E).1) = true from decide_eq_true e), show (31 : Fin 54) = s_Tokens_sign K from (Fin.ext e).symm]
    · rw [if_neg e, if_neg (show ¬ i31 (s_Tokens_sign (K, F, E).1) = true from fun w => e (of_decide_eq_true w))]
theorem gl41 {N0 N1 N2 N3 N4 : NM} {rec : Nat → Nat → Fin 54 → RS → RS} {x : Nat} : ∀ k i K F E, l_Teacher_readSum_15 N0 N1 N2 N3 N4 rec x k i (s_Tokens_sign K) K F E = gl (fun S => rec 4 x 0 S) i41 k (K, F, E)
  | 0, _, _, _, _ => rfl
  | k + 1, i, K, F, E => by
    rw [l_Teacher_readSum_15, gl, gl41 k]
    by_cases e : (s_Tokens_sign K).val = 41
    · rw [if_pos e, if_pos (show i41 (s_Tokens_sign (K, F, E).1) = true from decide_eq_true (.inl e))]
    · rw [if_neg e]
      by_cases e2 : (s_Tokens_sign K).val = 42
      · rw [if_pos e2, if_pos (show i41 (s_Tokens_sign (K, F, E).1) = true from decide_eq_true (.inr e2))]
      · rw [if_neg e2, if_neg (show ¬ i41 (s_Tokens_sign (K, F, E).1) = true from fun w => (of_decide_eq_true w).elim e e2)]
theorem gl43 {N0 N1 N2 N3 N4 : NM} {rec : Nat → Nat → Fin 54 → RS → RS} {x : Nat} : ∀ k i K F E, l_Teacher_readProduct_15 N0 N1 N2 N3 N4 rec x k i (s_Tokens_sign K) K F E = gl (fun S => rec 5 x 0 S) i43 k (K, F, E)
  | 0, _, _, _, _ => rfl
  | k + 1, i, K, F, E => by
    rw [l_Teacher_readProduct_15, gl, gl43 k]
    by_cases e : (s_Tokens_sign K).val = 43
    · rw [if_pos e, if_pos (show i43 (s_Tokens_sign (K, F, E).1) = true from decide_eq_true (.inl e))]
    · rw [if_neg e]
      by_cases e2 : (s_Tokens_sign K).val = 44
      · rw [if_pos e2, if_pos (show i43 (s_Tokens_sign (K, F, E).1) = true from decide_eq_true (.inr e2))]
      · rw [if_neg e2, if_neg (show ¬ i43 (s_Tokens_sign (K, F, E).1) = true from fun w => (of_decide_eq_true w).elim e e2)]
theorem ml_eat {H : SH} {x : Int32} {M : MO} {f : MO → Option (Int32 × MO)} : ((s_Model_eat_0 H x M).bind fun p => if p.1 = 0 then some (1, p.2) else f p.2) = if mo_tk M < 401 then (if sh_kd H (mo_tk M) = x then f (mo_tk' M (mo_tk M + 1)) else some (1, M)) else none := by
  unfold s_Model_eat_0
  by_cases h : mo_tk M < 401
  · rw [if_pos h, if_pos h]
    by_cases e : sh_kd H (mo_tk M) = x
    · rw [if_pos e, if_pos e]; rfl
    · rw [if_neg e, if_neg e]; rfl
  · rw [if_neg h, if_neg h]; rfl
theorem ml_eatIn {H : SH} {x y : Int32} {M : MO} {f : MO → Option (Int32 × MO)} : ((s_Model_eatIn H x y M).bind fun p => if p.1 = 0 then some (1, p.2) else f p.2) = if mo_tk M < 401 then (if ¬ s_Model_isIn (sh_kd H (mo_tk M)) x y = 0 then f (mo_tk' M (mo_tk M + 1)) else some (1, M)) else none := by
  unfold s_Model_eatIn
  by_cases h : mo_tk M < 401
  · rw [if_pos h, if_pos h]
    by_cases e : s_Model_isIn (sh_kd H (mo_tk M)) x y = 0
    · rw [if_pos e, if_neg (fun w => w e)]; rfl
    · rw [if_neg e, if_pos e]; rfl
  · rw [if_neg h, if_neg h]; rfl
theorem ite_b {α : Type} {c : Prop} [Decidable c] {a b : α} : (if c then a else b) = if decide c = true then a else b := by
  by_cases h : c
  · rw [if_pos h, if_pos (decide_eq_true h)]
  · rw [if_neg h, if_neg (fun w => h (of_decide_eq_true w))]
theorem ml32 {H : SH} {rec : EV} : ∀ k M, l_Model_isTest H rec k M = ml H (rec 1) o32 k M
  | 0, _ => rfl
  | k + 1, M => by
    rw [l_Model_isTest, ml]
    congr 1
    funext p
    rw [ml_eat, ite_b (c := sh_kd H (mo_tk p.2) = 32), ml32 k]
    rfl
theorem ml31 {H : SH} {rec : EV} : ∀ k M, l_Model_isBoth H rec k M = ml H (rec 2) o31 k M
  | 0, _ => rfl
  | k + 1, M => by
    rw [l_Model_isBoth, ml]
    congr 1
    funext p
    rw [ml_eat, ite_b (c := sh_kd H (mo_tk p.2) = 31), ml31 k]
    rfl
theorem ml46 {H : SH} {rec : EV} : ∀ k M, l_Model_isSum H rec k M = ml H (rec 4) o46 k M
  | 0, _ => rfl
  | k + 1, M => by
    rw [l_Model_isSum, ml]
    congr 1
    funext p
    rw [ml_eatIn, ite_b (c := ¬ s_Model_isIn (sh_kd H (mo_tk p.2)) 46 47 = 0), ml46 k]
    rfl
theorem ml48 {H : SH} {rec : EV} : ∀ k M, l_Model_isProduct H rec k M = ml H (rec 5) o48 k M
  | 0, _ => rfl
  | k + 1, M => by
    rw [l_Model_isProduct, ml]
    congr 1
    funext p
    rw [ml_eatIn, ite_b (c := ¬ s_Model_isIn (sh_kd H (mo_tk p.2)) 48 49 = 0), ml48 k]
    rfl
theorem el_by {H : SH} {x : Int32} {M : MO} {f g : MO → Option (Int32 × MO)} : ((s_Model_goesBy H x M).bind fun p => if p.1 = 0 then g p.2 else f p.2) = if okI (mo_wk M) 401 = true then (if sh_kd H (mo_wk M).toNatClampNeg = x then f (mo_wk' M (mo_wk M + 1)) else g M) else none := by
  unfold s_Model_goesBy
  by_cases h : okI (mo_wk M) 401 = true
  · rw [if_pos h, if_pos h]
    by_cases e : sh_kd H (mo_wk M).toNatClampNeg = x
    · rw [if_pos e, if_pos e]; rfl
    · rw [if_neg e, if_neg e]; rfl
  · rw [if_neg h, if_neg h]; rfl
theorem el32 {H : SH} {Y : SX} {rec : EV} : ∀ k b M, l_Model_test H Y rec k b M = el H (rec 1) o32 c32 b01 k b M
  | 0, _, _ => rfl
  | k + 1, b, M => by
    rw [l_Model_test, el, el_by (g := fun M => if b01 b = true then some (b, M) else none) (f := fun M => (rec 1 M).bind fun p16_4 => l_Model_test H Y rec k (b ||| p16_4.1) p16_4.2), ite_b (c := sh_kd H (mo_wk M).toNatClampNeg = 32)]
    simp only [el32 k]
    rfl
theorem el31 {H : SH} {Y : SX} {rec : EV} : ∀ k b M, l_Model_both H Y rec k b M = el H (rec 2) o31 c31 b01 k b M
  | 0, _, _ => rfl
  | k + 1, b, M => by
    rw [l_Model_both, el, el_by (g := fun M => if b01 b = true then some (b, M) else none) (f := fun M => (rec 2 M).bind fun p16_4 => l_Model_both H Y rec k (b &&& p16_4.1) p16_4.2), ite_b (c := sh_kd H (mo_wk M).toNatClampNeg = 31)]
    simp only [el31 k]
    rfl
theorem el46 {H : SH} {Y : SX} {rec : EV} : ∀ k b M, l_Model_sum H Y rec k b M = el H (rec 4) o46 c46 ckT k b M
  | 0, _, _ => rfl
  | k + 1, v, M => by
    rw [l_Model_sum, el]
    by_cases h : okI (mo_wk M) 401 = true
    · simp only [if_pos h]
      by_cases e : s_Model_isIn (sh_kd H (mo_wk M).toNatClampNeg) 46 47 = 0
      · rw [if_pos e, if_neg (show ¬ o46 (sh_kd H (mo_wk M).toNatClampNeg) = true from fun w => of_decide_eq_true w e), if_pos (show ckT v = true from rfl)]
      · rw [if_neg e, if_pos (show o46 (sh_kd H (mo_wk M).toNatClampNeg) = true from decide_eq_true e)]
        congr 1
        funext p
        rw [el46 k, el46 k]
        unfold c46
        by_cases e2 : sh_kd H (mo_wk M).toNatClampNeg = 46
        · rw [if_pos e2, if_pos e2]
        · rw [if_neg e2, if_neg e2]
    · rw [if_neg h, if_neg h]
theorem el48 {H : SH} {Y : SX} {rec : EV} : ∀ k b M, l_Model_product H Y rec k b M = el H (rec 5) o48 c48 ckT k b M
  | 0, _, _ => rfl
  | k + 1, v, M => by
    rw [l_Model_product, el]
    by_cases h : okI (mo_wk M) 401 = true
    · simp only [if_pos h]
      by_cases e : s_Model_isIn (sh_kd H (mo_wk M).toNatClampNeg) 48 49 = 0
      · rw [if_pos e, if_neg (show ¬ o48 (sh_kd H (mo_wk M).toNatClampNeg) = true from fun w => of_decide_eq_true w e), if_pos (show ckT v = true from rfl)]
      · rw [if_neg e, if_pos (show o48 (sh_kd H (mo_wk M).toNatClampNeg) = true from decide_eq_true e)]
        congr 1
        funext p
        rw [el48 k, el48 k, el48 k]
        unfold c48
        by_cases e2 : sh_kd H (mo_wk M).toNatClampNeg = 48
        · rw [if_pos e2, if_pos e2]
        · rw [if_neg e2, if_neg e2]
          by_cases e3 : p.1 = 0
          · rw [if_pos e3, if_pos e3]
          · rw [if_neg e3, if_neg e3]
    · rw [if_neg h, if_neg h]
theorem ev32 (Hs : SH) (Y : SX) (fe : Nat) (M' : MO) : ev_ Hs Y (fe + 1) 0 M' = (ev_ Hs Y fe (0 + 1) M').bind fun p => el Hs (ev_ Hs Y fe (0 + 1)) o32 c32 b01 401 p.1 p.2 := by
  show (ev_ Hs Y fe 1 M').bind (fun p => l_Model_test Hs Y (ev_ Hs Y fe) 401 p.1 p.2) = _
  simp only [el32]
theorem ev31 (Hs : SH) (Y : SX) (fe : Nat) (M' : MO) : ev_ Hs Y (fe + 1) 1 M' = (ev_ Hs Y fe (1 + 1) M').bind fun p => el Hs (ev_ Hs Y fe (1 + 1)) o31 c31 b01 401 p.1 p.2 := by
  show (ev_ Hs Y fe 2 M').bind (fun p => l_Model_both Hs Y (ev_ Hs Y fe) 401 p.1 p.2) = _
  simp only [el31]
theorem ev46 (Hs : SH) (Y : SX) (fe : Nat) (M' : MO) : ev_ Hs Y (fe + 1) 3 M' = (ev_ Hs Y fe (3 + 1) M').bind fun p => el Hs (ev_ Hs Y fe (3 + 1)) o46 c46 ckT 401 p.1 p.2 := by
  show (ev_ Hs Y fe 4 M').bind (fun p => l_Model_sum Hs Y (ev_ Hs Y fe) 401 p.1 p.2) = _
  simp only [el46]
theorem ev48 (Hs : SH) (Y : SX) (fe : Nat) (M' : MO) : ev_ Hs Y (fe + 1) 4 M' = (ev_ Hs Y fe (4 + 1) M').bind fun p => el Hs (ev_ Hs Y fe (4 + 1)) o48 c48 ckT 401 p.1 p.2 := by
  show (ev_ Hs Y fe 5 M').bind (fun p => l_Model_product Hs Y (ev_ Hs Y fe) 401 p.1 p.2) = _
  simp only [el48]
