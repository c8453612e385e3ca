/-! the law's own glacier: ways, going -/
section SmHup
variable {Γ : G9} {A : AD} {h : AH} {Y : SM}
theorem sm_hup {a : Nat} {e : va_E} (ha : tg A a = none) : hup (smC Γ A h Y) a e = smC Γ A (hup h a e) Y := by
  funext x
  by_cases hx : x = a
  · rw [hx, hup_at, sm_no ha, hup_at]
  · rw [hup_ne hx]
    unfold smC
    cases tg A x with
    | none => exact (hup_ne hx).symm
    | some kr => rfl
theorem sm_drop {h' : AH} (hs : ∀ (x : Nat) (e : va_E), h' x = some e → h x = some e) : ∀ (x : Nat) (e : va_E), smC Γ A h' Y x = some e → smC Γ A h Y x = some e := by
  intro x e hx
  unfold smC at hx ⊢
  cases ht : tg A x with
  | none => rw [ht] at hx; exact hs x e hx
  | some kr => rw [ht] at hx; exact hx
theorem sm_low {z : Nat} (hl : ∀ x, z ≤ x → smC Γ A h Y x = none) : ∀ x, z ≤ x → tg A x = none ∧ h x = none := by
  intro x hx
  have h1 := hl x hx
  unfold smC at h1
  cases ht : tg A x with
  | none => rw [ht] at h1; exact ⟨rfl, h1⟩
  | some kr => rw [ht] at h1; cases h1
theorem up_drop {a : Nat} {e : va_E} (ha : h a = none) : ∀ (x : Nat) (e' : va_E), h x = some e' → hup h a e x = some e' := Ext.up ha
theorem up_drop2 {a b : Nat} {e e' : va_E} (ha : h a = none) : ∀ (x : Nat) (w : va_E), hup h b e' x = some w → hup (hup h a e) b e' x = some w := by
  intro x w hx
  by_cases hb : x = b
  · rw [hb, hup_at] at hx ⊢
    exact hx
  · rw [hup_ne hb] at hx ⊢
    exact Ext.up ha x w hx
end SmHup
/-- the crevasses above low, in the order that a team meets them -/
def wayF (Y : SM) (low up : Int32) : Nat → Nat → List Nat → List Nat
  | 0, _, l => l
  | k + 1, i, l => if sm_v Y 2 i 0 = low then wayF Y low up k (i + 1) (if up = 0 then i :: l else l ++ [i]) else wayF Y low up k (i + 1) l
def wayR (A : AD) (Y : SM) (low up : Int32) : Option (List Nat) := if low < 0 then none else if low ≤ nI (cn A 0) - 2 then some (wayF Y low up (cn A 2) 0 []) else none
def wayO (A : AD) (Y : SM) (t : Nat) (up : Int32) : Option (List Nat) := wayR A Y (if up = 0 then sm_v Y 4 t 2 - 1 else sm_v Y 4 t 2) up
def lf (l : List Nat) : Nat → Int32 := fun j => nI (l.getD j 0)
def WayQ (Γ : G9) (A : AD) (h : AH) (Y : SM) (o : Option (List Nat)) : QT := fun w h2 _ => match o with
  | none => w = some .null ∧ h2 = smC Γ A h Y
  | some l => ∃ a : Nat, w = some (.ref a) ∧ tg A a = none ∧ h a = none ∧ h2 = smC Γ A (hup h a (aI Γ l.length (lf l))) Y
/-- the first j places copied, one further on if down -/
def cpU (up : Int32) (f : Nat → Int32) (j : Nat) : Nat → Int32 := fun q => if up = 0 then (if 1 ≤ q ∧ q ≤ j then f (q - 1) else 0) else (if q < j then f q else 0)
theorem cpU_down {f : Nat → Int32} {j : Nat} : upd (cpU 0 f j) (j + 1) (f j) = cpU 0 f (j + 1) := by
  funext q
  unfold upd cpU
  rw [if_pos rfl, if_pos rfl]
  by_cases h : q = j + 1
  · rw [if_pos h, if_pos (by omega), show q - 1 = j by omega]
  · rw [if_neg h]
    by_cases h2 : 1 ≤ q ∧ q ≤ j
    · rw [if_pos h2, if_pos (by omega)]
    · rw [if_neg h2, if_neg (by omega)]
theorem cpU_up {up : Int32} {f : Nat → Int32} {j : Nat} (hu : ¬ up = 0) : upd (cpU up f j) j (f j) = cpU up f (j + 1) := by
  funext q
  unfold upd cpU
  rw [if_neg hu, if_neg hu]
  by_cases h : q = j
  · rw [if_pos h, if_pos (by omega), h]
  · rw [if_neg h]
    by_cases h2 : q < j
    · rw [if_pos h2, if_pos (by omega)]
    · rw [if_neg h2, if_neg (by omega)]
theorem lf_cons {i : Nat} {l : List Nat} : ∀ q, q < l.length + 1 → upd (cpU 0 (lf l) l.length) 0 (nI i) q = lf (i :: l) q := by
  intro q hq
  unfold upd cpU lf
  cases q with
  | zero => rfl
  | succ q =>
    rw [if_neg (by omega), if_pos rfl, if_pos (by omega)]
    rfl
theorem lf_app {up : Int32} {i : Nat} {l : List Nat} (hu : ¬ up = 0) : ∀ q, q < l.length + 1 → upd (cpU up (lf l) l.length) l.length (nI i) q = lf (l ++ [i]) q := by
  intro q hq
  unfold upd cpU lf
  rw [if_neg hu, List.getD_eq_getElem?_getD, List.getD_eq_getElem?_getD]
  by_cases h : q = l.length
  · rw [if_pos h, h, List.getElem?_append_right (Nat.le_refl _), Nat.sub_self]
    rfl
  · rw [if_neg h, if_pos (by omega), List.getElem?_append_left (by omega)]
theorem d_Sim_way_0 : decode M_Sim_way.2.1 0 = .ok (.iload_n 2, 1) := by decide +kernel
theorem d_Sim_way_1 : decode M_Sim_way.2.1 1 = .ok (.ifCond .eq 9, 3) := by decide +kernel
theorem d_Sim_way_4 : decode M_Sim_way.2.1 4 = .ok (.aload_n 1, 1) := by decide +kernel
theorem d_Sim_way_5 : decode M_Sim_way.2.1 5 = .ok (.iconst 2, 1) := by decide +kernel
theorem d_Sim_way_6 : decode M_Sim_way.2.1 6 = .ok (.iaload, 1) := by decide +kernel
theorem d_Sim_way_7 : decode M_Sim_way.2.1 7 = .ok (.goto 8, 3) := by decide +kernel
theorem d_Sim_way_10 : decode M_Sim_way.2.1 10 = .ok (.aload_n 1, 1) := by decide +kernel
theorem d_Sim_way_11 : decode M_Sim_way.2.1 11 = .ok (.iconst 2, 1) := by decide +kernel
theorem d_Sim_way_12 : decode M_Sim_way.2.1 12 = .ok (.iaload, 1) := by decide +kernel
theorem d_Sim_way_13 : decode M_Sim_way.2.1 13 = .ok (.iconst 1, 1) := by decide +kernel
theorem d_Sim_way_14 : decode M_Sim_way.2.1 14 = .ok (.isub, 1) := by decide +kernel
theorem d_Sim_way_15 : decode M_Sim_way.2.1 15 = .ok (.istore_n 3, 1) := by decide +kernel
theorem d_Sim_way_16 : decode M_Sim_way.2.1 16 = .ok (.iload_n 3, 1) := by decide +kernel
theorem d_Sim_way_17 : decode M_Sim_way.2.1 17 = .ok (.ifCond .lt 14, 3) := by decide +kernel
theorem d_Sim_way_20 : decode M_Sim_way.2.1 20 = .ok (.iload_n 3, 1) := by decide +kernel
theorem d_Sim_way_21 : decode M_Sim_way.2.1 21 = .ok (.aload_n 0, 1) := by decide +kernel
theorem d_Sim_way_22 : decode M_Sim_way.2.1 22 = .ok (.getfield 14, 3) := by decide +kernel
theorem d_Sim_way_25 : decode M_Sim_way.2.1 25 = .ok (.arraylength, 1) := by decide +kernel
theorem d_Sim_way_26 : decode M_Sim_way.2.1 26 = .ok (.iconst 2, 1) := by decide +kernel
theorem d_Sim_way_27 : decode M_Sim_way.2.1 27 = .ok (.isub, 1) := by decide +kernel
theorem d_Sim_way_28 : decode M_Sim_way.2.1 28 = .ok (.if_icmp .le 5, 3) := by decide +kernel
theorem d_Sim_way_31 : decode M_Sim_way.2.1 31 = .ok (.aconst_null, 1) := by decide +kernel
theorem d_Sim_way_32 : decode M_Sim_way.2.1 32 = .ok (.areturn, 1) := by decide +kernel
theorem d_Sim_way_33 : decode M_Sim_way.2.1 33 = .ok (.iconst 0, 1) := by decide +kernel
theorem d_Sim_way_34 : decode M_Sim_way.2.1 34 = .ok (.newarray .int, 2) := by decide +kernel
theorem d_Sim_way_36 : decode M_Sim_way.2.1 36 = .ok (.astore 4, 2) := by decide +kernel
theorem d_Sim_way_38 : decode M_Sim_way.2.1 38 = .ok (.iconst 0, 1) := by decide +kernel
theorem d_Sim_way_39 : decode M_Sim_way.2.1 39 = .ok (.istore 5, 2) := by decide +kernel
theorem d_Sim_way_41 : decode M_Sim_way.2.1 41 = .ok (.iload 5, 2) := by decide +kernel
theorem d_Sim_way_43 : decode M_Sim_way.2.1 43 = .ok (.aload_n 0, 1) := by decide +kernel
theorem d_Sim_way_44 : decode M_Sim_way.2.1 44 = .ok (.getfield 21, 3) := by decide +kernel
theorem d_Sim_way_47 : decode M_Sim_way.2.1 47 = .ok (.arraylength, 1) := by decide +kernel
theorem d_Sim_way_48 : decode M_Sim_way.2.1 48 = .ok (.if_icmp .ge 92, 3) := by decide +kernel
theorem d_Sim_way_51 : decode M_Sim_way.2.1 51 = .ok (.aload_n 0, 1) := by decide +kernel
theorem d_Sim_way_52 : decode M_Sim_way.2.1 52 = .ok (.getfield 21, 3) := by decide +kernel
theorem d_Sim_way_55 : decode M_Sim_way.2.1 55 = .ok (.iload 5, 2) := by decide +kernel
theorem d_Sim_way_57 : decode M_Sim_way.2.1 57 = .ok (.aaload, 1) := by decide +kernel
theorem d_Sim_way_58 : decode M_Sim_way.2.1 58 = .ok (.iconst 0, 1) := by decide +kernel
theorem d_Sim_way_59 : decode M_Sim_way.2.1 59 = .ok (.iaload, 1) := by decide +kernel
theorem d_Sim_way_60 : decode M_Sim_way.2.1 60 = .ok (.iload_n 3, 1) := by decide +kernel
theorem d_Sim_way_61 : decode M_Sim_way.2.1 61 = .ok (.if_icmp .eq 6, 3) := by decide +kernel
theorem d_Sim_way_64 : decode M_Sim_way.2.1 64 = .ok (.goto 70, 3) := by decide +kernel
theorem d_Sim_way_67 : decode M_Sim_way.2.1 67 = .ok (.aload 4, 2) := by decide +kernel
theorem d_Sim_way_69 : decode M_Sim_way.2.1 69 = .ok (.arraylength, 1) := by decide +kernel
theorem d_Sim_way_70 : decode M_Sim_way.2.1 70 = .ok (.iconst 1, 1) := by decide +kernel
theorem d_Sim_way_71 : decode M_Sim_way.2.1 71 = .ok (.iadd, 1) := by decide +kernel
theorem d_Sim_way_72 : decode M_Sim_way.2.1 72 = .ok (.newarray .int, 2) := by decide +kernel
theorem d_Sim_way_74 : decode M_Sim_way.2.1 74 = .ok (.astore 6, 2) := by decide +kernel
theorem d_Sim_way_76 : decode M_Sim_way.2.1 76 = .ok (.iconst 0, 1) := by decide +kernel
theorem d_Sim_way_77 : decode M_Sim_way.2.1 77 = .ok (.istore 7, 2) := by decide +kernel
theorem d_Sim_way_79 : decode M_Sim_way.2.1 79 = .ok (.iload 7, 2) := by decide +kernel
theorem d_Sim_way_81 : decode M_Sim_way.2.1 81 = .ok (.aload 4, 2) := by decide +kernel
theorem d_Sim_way_83 : decode M_Sim_way.2.1 83 = .ok (.arraylength, 1) := by decide +kernel
theorem d_Sim_way_84 : decode M_Sim_way.2.1 84 = .ok (.if_icmp .ge 30, 3) := by decide +kernel
theorem d_Sim_way_87 : decode M_Sim_way.2.1 87 = .ok (.aload 6, 2) := by decide +kernel
theorem d_Sim_way_89 : decode M_Sim_way.2.1 89 = .ok (.iload_n 2, 1) := by decide +kernel
theorem d_Sim_way_90 : decode M_Sim_way.2.1 90 = .ok (.ifCond .eq 8, 3) := by decide +kernel
theorem d_Sim_way_93 : decode M_Sim_way.2.1 93 = .ok (.iload 7, 2) := by decide +kernel
theorem d_Sim_way_95 : decode M_Sim_way.2.1 95 = .ok (.goto 7, 3) := by decide +kernel
theorem d_Sim_way_98 : decode M_Sim_way.2.1 98 = .ok (.iload 7, 2) := by decide +kernel
theorem d_Sim_way_100 : decode M_Sim_way.2.1 100 = .ok (.iconst 1, 1) := by decide +kernel
theorem d_Sim_way_101 : decode M_Sim_way.2.1 101 = .ok (.iadd, 1) := by decide +kernel
theorem d_Sim_way_102 : decode M_Sim_way.2.1 102 = .ok (.aload 4, 2) := by decide +kernel
theorem d_Sim_way_104 : decode M_Sim_way.2.1 104 = .ok (.iload 7, 2) := by decide +kernel
theorem d_Sim_way_106 : decode M_Sim_way.2.1 106 = .ok (.iaload, 1) := by decide +kernel
theorem d_Sim_way_107 : decode M_Sim_way.2.1 107 = .ok (.iastore, 1) := by decide +kernel
theorem d_Sim_way_108 : decode M_Sim_way.2.1 108 = .ok (.iinc 7 1, 3) := by decide +kernel
theorem d_Sim_way_111 : decode M_Sim_way.2.1 111 = .ok (.goto (-32), 3) := by decide +kernel
theorem d_Sim_way_114 : decode M_Sim_way.2.1 114 = .ok (.aload 6, 2) := by decide +kernel
theorem d_Sim_way_116 : decode M_Sim_way.2.1 116 = .ok (.iload_n 2, 1) := by decide +kernel
theorem d_Sim_way_117 : decode M_Sim_way.2.1 117 = .ok (.ifCond .eq 9, 3) := by decide +kernel
theorem d_Sim_way_120 : decode M_Sim_way.2.1 120 = .ok (.aload 4, 2) := by decide +kernel
theorem d_Sim_way_122 : decode M_Sim_way.2.1 122 = .ok (.arraylength, 1) := by decide +kernel
theorem d_Sim_way_123 : decode M_Sim_way.2.1 123 = .ok (.goto 4, 3) := by decide +kernel
theorem d_Sim_way_126 : decode M_Sim_way.2.1 126 = .ok (.iconst 0, 1) := by decide +kernel
theorem d_Sim_way_127 : decode M_Sim_way.2.1 127 = .ok (.iload 5, 2) := by decide +kernel
theorem d_Sim_way_129 : decode M_Sim_way.2.1 129 = .ok (.iastore, 1) := by decide +kernel
theorem d_Sim_way_130 : decode M_Sim_way.2.1 130 = .ok (.aload 6, 2) := by decide +kernel
theorem d_Sim_way_132 : decode M_Sim_way.2.1 132 = .ok (.astore 4, 2) := by decide +kernel
theorem d_Sim_way_134 : decode M_Sim_way.2.1 134 = .ok (.iinc 5 1, 3) := by decide +kernel
theorem d_Sim_way_137 : decode M_Sim_way.2.1 137 = .ok (.goto (-96), 3) := by decide +kernel
theorem d_Sim_way_140 : decode M_Sim_way.2.1 140 = .ok (.aload 4, 2) := by decide +kernel
theorem d_Sim_way_142 : decode M_Sim_way.2.1 142 = .ok (.areturn, 1) := by decide +kernel
set_option maxRecDepth 100000 in
set_option maxHeartbeats 4000000 in
theorem way_cp {Γ : G9} {A : AD} {h : AH} {Y : SM} {C S z t i a a2 n : Nat} {up low : Int32} {f : Nat → Int32} {Q : QT} {X : XT} (ha : tg A a = none) (ha2 : tg A a2 = none) (haa : a ≠ a2) (hn : n < 2 ^ 20) : ∀ (k j : Nat), j + k = n → Go Γ M_Sim_way 0 C S 114 [some (.ref (ad A 6 0)), some (.ref (ad A 4 t)), some (.int up), some (.int low), some (.ref a), some (.int (nI i)), some (.ref a2), some (.int (nI n))] [] (smC Γ A (hup (hup h a (aI Γ n f)) a2 (aI Γ (n + 1) (cpU up f n))) Y) z Q X → Go Γ M_Sim_way 0 C S 79 [some (.ref (ad A 6 0)), some (.ref (ad A 4 t)), some (.int up), some (.int low), some (.ref a), some (.int (nI i)), some (.ref a2), some (.int (nI j))] [] (smC Γ A (hup (hup h a (aI Γ n f)) a2 (aI Γ (n + 1) (cpU up f j))) Y) z Q X := by
  have e1 : ∀ {g : Nat → Int32}, smC Γ A (hup (hup h a (aI Γ n f)) a2 (aI Γ (n + 1) g)) Y a = some (aI Γ n f) := fun {g} => (sm_no ha).trans ((hup_ne haa).trans hup_at)
  have e2 : ∀ {g : Nat → Int32}, smC Γ A (hup (hup h a (aI Γ n f)) a2 (aI Γ (n + 1) g)) Y a2 = some (aI Γ (n + 1) g) := fun {g} => (sm_no ha2).trans hup_at
  intro k
  induction k with
  | zero =>
    intro j hj hk
    obtain rfl : j = n := by omega
    refine Go.iload_7 d_Sim_way_79 rfl ?_
    refine Go.aload_4 d_Sim_way_81 rfl ?_
    refine Go.alen (t := 0) (n := nI j) d_Sim_way_83 rfl e1 rfl rfl ?_
    refine Go.icmp_ge (t := 114) d_Sim_way_84 (by decide) rfl (fun _ => ?_) (fun w => absurd (nI_le (Nat.le_refl _) (by omega)) w)
    exact hk
  | succ k ih =>
    intro j hj hk
    refine Go.iload_7 d_Sim_way_79 rfl ?_
    refine Go.aload_4 d_Sim_way_81 rfl ?_
    refine Go.alen (t := 0) (n := nI n) d_Sim_way_83 rfl e1 rfl rfl ?_
    refine Go.icmp_ge (t := 114) d_Sim_way_84 (by decide) rfl (fun w => absurd w (nI_ge (by omega) (by omega))) (fun _ => ?_)
    refine Go.aload_6 d_Sim_way_87 rfl ?_
    refine Go.iload_2 d_Sim_way_89 rfl ?_
    by_cases hu : up = 0
    · subst hu
      refine Go.if_eq (t := 98) d_Sim_way_90 (by decide) rfl (fun _ => ?_) (fun w => absurd rfl w)
      refine Go.iload_7 d_Sim_way_98 rfl ?_
      refine Go.iconst (v := 1) d_Sim_way_100 rfl (by decide) ?_
      refine Go.iadd d_Sim_way_101 rfl ?_
      rw [nI_1]
      refine Go.aload_4 d_Sim_way_102 rfl ?_
      refine Go.iload_7 d_Sim_way_104 rfl ?_
      refine Go.iaload d_Sim_way_106 rfl e1 (vp_in_nI (by omega) (by omega)) ?_
      refine Go.iastore d_Sim_way_107 rfl e2 (vp_in_nI (by omega) (by omega)) ?_
      rw [nI_clamp (show j < 2 ^ 31 by omega), nI_clamp (show j + 1 < 2 ^ 31 by omega), sm_hup ha2, hup_hup, cpU_down]
      refine Go.iinc_7 d_Sim_way_108 rfl (by rfl) (nI_inc _) ?_
      refine Go.goto (t := 79) d_Sim_way_111 (by decide) ?_
      exact ih (j + 1) (by omega) hk
    · refine Go.if_eq (t := 98) d_Sim_way_90 (by decide) rfl (fun w => absurd w hu) (fun _ => ?_)
      refine Go.iload_7 d_Sim_way_93 rfl ?_
      refine Go.goto (t := 102) d_Sim_way_95 (by decide) ?_
      refine Go.aload_4 d_Sim_way_102 rfl ?_
      refine Go.iload_7 d_Sim_way_104 rfl ?_
      refine Go.iaload d_Sim_way_106 rfl e1 (vp_in_nI (by omega) (by omega)) ?_
      refine Go.iastore d_Sim_way_107 rfl e2 (vp_in_nI (by omega) (by omega)) ?_
      rw [nI_clamp (show j < 2 ^ 31 by omega), sm_hup ha2, hup_hup, cpU_up hu]
      refine Go.iinc_7 d_Sim_way_108 rfl (by rfl) (nI_inc _) ?_
      refine Go.goto (t := 79) d_Sim_way_111 (by decide) ?_
      exact ih (j + 1) (by omega) hk
set_option maxRecDepth 100000 in
set_option maxHeartbeats 4000000 in
theorem way_go {Γ : G9} {A : AD} {h : AH} {Y : SM} {t : Nat} {up low : Int32} (hA : AOk A) : ∀ (k i a z : Nat) (l : List Nat), i + k = cn A 2 → l.length ≤ i → tg A a = none → h a = none → Go Γ M_Sim_way 0 k (k * 8) 41 [some (.ref (ad A 6 0)), some (.ref (ad A 4 t)), some (.int up), some (.int low), some (.ref a), some (.int (nI i)), none, none] [] (smC Γ A (hup h a (aI Γ l.length (lf l))) Y) z (WayQ Γ A h Y (some (wayF Y low up k i l))) noX := by
  intro k
  have h8 := hA.2.2 2 (by decide)
  induction k with
  | zero =>
    intro i a z l hi hl hta hha
    refine Go.iload_5 d_Sim_way_41 rfl ?_
    refine Go.aload_0 d_Sim_way_43 rfl ?_
    refine Go.getfield d_Sim_way_44 rfl f_Sim_21 (sm_obj hA) rfl ?_
    refine Go.alen (t := 4) (n := nI (cn A 2)) d_Sim_way_47 rfl (sm_out hA (by decide)) rfl rfl ?_
    refine Go.icmp_ge (t := 140) d_Sim_way_48 (by decide) rfl (fun _ => ?_) (fun w => absurd (nI_le (by omega) (by omega)) w)
    refine Go.aload_4 d_Sim_way_140 rfl ?_
    exact Go.aretA d_Sim_way_142 rfl ⟨a, rfl, hta, hha, rfl⟩
  | succ k ih =>
    intro i a z l hi hl hta hha
    refine Go.low (fun hlow => ?_)
    have hz := sm_low hlow z (Nat.le_refl z)
    have hza : a ≠ z := fun w => (by have := hz.2; rw [← w, hup_at] at this; cases this)
    have hhz : h z = none := by have := hz.2; rw [hup_ne (Ne.symm hza)] at this; exact this
    refine Go.iload_5 d_Sim_way_41 rfl ?_
    refine Go.aload_0 d_Sim_way_43 rfl ?_
    refine Go.getfield d_Sim_way_44 rfl f_Sim_21 (sm_obj hA) rfl ?_
    refine Go.alen (t := 4) (n := nI (cn A 2)) d_Sim_way_47 rfl (sm_out hA (by decide)) rfl rfl ?_
    refine Go.icmp_ge (t := 140) d_Sim_way_48 (by decide) rfl (fun w => absurd w (nI_ge (by omega) (by omega))) (fun _ => ?_)
    refine Go.aload_0 d_Sim_way_51 rfl ?_
    refine Go.getfield d_Sim_way_52 rfl f_Sim_21 (sm_obj hA) rfl ?_
    refine Go.iload_5 d_Sim_way_55 rfl ?_
    refine Go.aaldA d_Sim_way_57 rfl (sm_out hA (by decide)) (vp_in_nI (by omega) (Nat.lt_of_le_of_lt (hA.2.2 2 (by decide)) (by decide))) ?_
    rw [nI_clamp (show i < 2 ^ 31 from Nat.lt_trans (Nat.lt_of_lt_of_le (show i < cn A 2 by first | assumption | omega) (hA.2.2 2 (by decide))) (by decide))]
    refine Go.iconst (v := 0) d_Sim_way_58 rfl (by decide) ?_
    refine Go.iaload d_Sim_way_59 rfl (sm_row hA (by decide) (by omega)) (okI_in (by decide)) ?_
    rw [show (0 : Int32).toNatClampNeg = 0 from by decide]
    refine Go.iload_3 d_Sim_way_60 rfl ?_
    unfold wayF
    refine Go.icmp_eq (t := 67) d_Sim_way_61 (by decide) rfl (fun hc => ?_) (fun hc => ?_)
    · rw [if_pos hc]
      refine Go.aload_4 d_Sim_way_67 rfl ?_
      refine Go.alen (t := 0) (n := nI l.length) d_Sim_way_69 rfl ((sm_no hta).trans hup_at) rfl rfl ?_
      refine Go.iconst (v := 1) d_Sim_way_70 rfl (by decide) ?_
      refine Go.iadd d_Sim_way_71 rfl ?_
      rw [nI_1]
      refine Go.newarr (C1 := k) (S1 := k * 8) (t := 0) (N := l.length + 1) (a0 := (l.length + 1, .inl (fun _ => 0))) d_Sim_way_72 rfl q_arr_int rfl (fun _ w => by cases w) (fun _ => rfl) (nI_pos (by omega)) (nI_clamp (by omega)) (by show (l.length + 1) * 4 ≤ _; omega) (by omega) (by omega) ?_
      rw [sm_hup hz.1, show (fun _ => (0 : Int32)) = cpU up (lf l) 0 from by funext q; unfold cpU; by_cases hu : up = 0 <;> simp [hu] <;> omega]
      refine Go.astore_6 d_Sim_way_74 rfl (by rfl) ?_
      refine Go.iconst (v := 0) d_Sim_way_76 rfl (by decide) ?_
      refine Go.istore_7 d_Sim_way_77 rfl (by rfl) ?_
      refine way_cp hta hz.1 hza (by omega) l.length 0 (by omega) ?_
      by_cases hu : up = 0
      · subst hu
        rw [if_pos rfl]
        refine Go.aload_6 d_Sim_way_114 rfl ?_
        refine Go.iload_2 d_Sim_way_116 rfl ?_
        refine Go.if_eq (t := 126) d_Sim_way_117 (by decide) rfl (fun _ => ?_) (fun w => absurd rfl w)
        refine Go.iconst (v := 0) d_Sim_way_126 rfl (by decide) ?_
        refine Go.iload_5 d_Sim_way_127 rfl ?_
        refine Go.iastore d_Sim_way_129 rfl ((sm_no hz.1).trans hup_at) (show vp_in (nI 0) (l.length + 1) from vp_in_nI (by omega) (by omega)) ?_
        rw [show (0 : Int32).toNatClampNeg = 0 from by decide, sm_hup hz.1, hup_hup]
        refine Go.pic (g := lf (i :: l)) ((sm_no hz.1).trans hup_at) lf_cons ?_
        rw [sm_hup hz.1, hup_hup]
        refine Go.drop (sm_drop (up_drop2 hha)) ?_
        refine Go.aload_6 d_Sim_way_130 rfl ?_
        refine Go.astore_4 d_Sim_way_132 rfl (by rfl) ?_
        refine Go.iinc_5 d_Sim_way_134 rfl (by rfl) (nI_inc _) ?_
        refine Go.goto (t := 41) d_Sim_way_137 (by decide) ?_
        refine Go.fgt [some (.ref (ad A 6 0)), some (.ref (ad A 4 t)), some (.int 0), some (.int low), some (.ref z), some (.int (nI (i + 1))), none, none] (by repeat' (first | exact trivial | refine ⟨rfl, ?_⟩)) ?_
        exact ih (i + 1) z (z + 1) (i :: l) (by omega) (by rw [List.length_cons]; omega) hz.1 hhz
      · rw [if_neg hu]
        refine Go.aload_6 d_Sim_way_114 rfl ?_
        refine Go.iload_2 d_Sim_way_116 rfl ?_
        refine Go.if_eq (t := 126) d_Sim_way_117 (by decide) rfl (fun w => absurd w hu) (fun _ => ?_)
        refine Go.aload_4 d_Sim_way_120 rfl ?_
        refine Go.alen (t := 0) (n := nI l.length) d_Sim_way_122 rfl ((sm_no hta).trans ((hup_ne hza).trans hup_at)) rfl rfl ?_
        refine Go.goto (t := 127) d_Sim_way_123 (by decide) ?_
        refine Go.iload_5 d_Sim_way_127 rfl ?_
        refine Go.iastore d_Sim_way_129 rfl ((sm_no hz.1).trans hup_at) (vp_in_nI (by omega) (by omega)) ?_
        rw [nI_clamp (show l.length < 2 ^ 31 by omega), sm_hup hz.1, hup_hup]
        refine Go.pic (g := lf (l ++ [i])) ((sm_no hz.1).trans hup_at) (lf_app hu) ?_
        rw [sm_hup hz.1, hup_hup]
        refine Go.drop (sm_drop (up_drop2 hha)) ?_
        refine Go.aload_6 d_Sim_way_130 rfl ?_
        refine Go.astore_4 d_Sim_way_132 rfl (by rfl) ?_
        refine Go.iinc_5 d_Sim_way_134 rfl (by rfl) (nI_inc _) ?_
        refine Go.goto (t := 41) d_Sim_way_137 (by decide) ?_
        have := ih (i + 1) z (z + 1) (l ++ [i]) (by omega) (by rw [List.length_append]; exact Nat.succ_le_succ hl) hz.1 hhz
        rw [List.length_append] at this
        refine Go.fgt [some (.ref (ad A 6 0)), some (.ref (ad A 4 t)), some (.int up), some (.int low), some (.ref z), some (.int (nI (i + 1))), none, none] (by repeat' (first | exact trivial | refine ⟨rfl, ?_⟩)) ?_
        exact this
    · rw [if_neg hc]
      refine Go.room (C' := k) (S' := k * 8) ?_ (Nat.le_refl _) (by omega) (by omega)
      refine Go.goto (t := 134) d_Sim_way_64 (by decide) ?_
      refine Go.iinc_5 d_Sim_way_134 rfl (by rfl) (nI_inc _) ?_
      refine Go.goto (t := 41) d_Sim_way_137 (by decide) ?_
      exact ih (i + 1) a z l (by omega) (by omega) hta hha
set_option maxRecDepth 100000 in
set_option maxHeartbeats 4000000 in
theorem way_15 {Γ : G9} {A : AD} {h : AH} {Y : SM} {z t : Nat} {up low : Int32} (hA : AOk A) : Go Γ M_Sim_way 0 9 64 15 [some (.ref (ad A 6 0)), some (.ref (ad A 4 t)), some (.int up), none, none, none, none, none] [.int low] (smC Γ A h Y) z (WayQ Γ A h Y (wayR A Y low up)) noX := by
  have h8 := hA.2.2 2 (by decide)
  refine Go.low (fun hlow => ?_)
  have hz := sm_low hlow z (Nat.le_refl z)
  unfold wayR
  by_cases c1 : low < 0
  · rw [if_pos c1]
    refine Go.istore_3 d_Sim_way_15 rfl (by rfl) ?_
    refine Go.iload_3 d_Sim_way_16 rfl ?_
    refine Go.if_lt (t := 31) d_Sim_way_17 (by decide) rfl (fun _ => ?_) (fun w => absurd c1 w)
    refine Go.aconst_null d_Sim_way_31 rfl ?_
    exact Go.aretN d_Sim_way_32 rfl ⟨rfl, rfl⟩
  rw [if_neg c1]
  by_cases c2 : low ≤ nI (cn A 0) - 2
  · rw [if_pos c2]
    refine Go.istore_3 d_Sim_way_15 rfl (by rfl) ?_
    refine Go.iload_3 d_Sim_way_16 rfl ?_
    refine Go.if_lt (t := 31) d_Sim_way_17 (by decide) rfl (fun w => absurd w c1) (fun _ => ?_)
    refine Go.iload_3 d_Sim_way_20 rfl ?_
    refine Go.aload_0 d_Sim_way_21 rfl ?_
    refine Go.getfield d_Sim_way_22 rfl f_Sim_14 (sm_obj hA) rfl ?_
    refine Go.alen (t := 4) (n := nI (cn A 0)) d_Sim_way_25 rfl (sm_out hA (by decide)) rfl rfl ?_
    refine Go.iconst (v := 2) d_Sim_way_26 rfl (by decide) ?_
    refine Go.isub d_Sim_way_27 rfl ?_
    refine Go.icmp_le (t := 33) d_Sim_way_28 (by decide) rfl (fun _ => ?_) (fun w => absurd c2 w)
    refine Go.iconst (v := 0) d_Sim_way_33 rfl (by decide) ?_
    refine Go.newarr (C1 := 8) (S1 := 64) (t := 0) (N := 0) (a0 := (0, .inl (lf []))) d_Sim_way_34 rfl q_arr_int rfl (fun _ w => by cases w) (fun _ => by rw [vp_cell_i]; exact arrV_ext (fun j hj => absurd hj (Nat.not_lt_zero j))) (by decide) (by decide) (by decide) (by omega) (by omega) ?_
    rw [sm_hup hz.1]
    refine Go.astore_4 d_Sim_way_36 rfl (by rfl) ?_
    refine Go.iconst (v := 0) d_Sim_way_38 rfl (by decide) ?_
    refine Go.istore_5 d_Sim_way_39 rfl (by rfl) ?_
    refine Go.room (C' := cn A 2) (S' := cn A 2 * 8) ?_ (Nat.le_refl _) (by omega) (by omega)
    exact way_go hA (cn A 2) 0 z (z + 1) [] (by omega) (Nat.le_refl _) hz.1 hz.2
  · rw [if_neg c2]
    refine Go.istore_3 d_Sim_way_15 rfl (by rfl) ?_
    refine Go.iload_3 d_Sim_way_16 rfl ?_
    refine Go.if_lt (t := 31) d_Sim_way_17 (by decide) rfl (fun w => absurd w c1) (fun _ => ?_)
    refine Go.iload_3 d_Sim_way_20 rfl ?_
    refine Go.aload_0 d_Sim_way_21 rfl ?_
    refine Go.getfield d_Sim_way_22 rfl f_Sim_14 (sm_obj hA) rfl ?_
    refine Go.alen (t := 4) (n := nI (cn A 0)) d_Sim_way_25 rfl (sm_out hA (by decide)) rfl rfl ?_
    refine Go.iconst (v := 2) d_Sim_way_26 rfl (by decide) ?_
    refine Go.isub d_Sim_way_27 rfl ?_
    refine Go.icmp_le (t := 33) d_Sim_way_28 (by decide) rfl (fun w => absurd w c2) (fun _ => ?_)
    refine Go.aconst_null d_Sim_way_31 rfl ?_
    exact Go.aretN d_Sim_way_32 rfl ⟨rfl, rfl⟩
set_option maxRecDepth 100000 in
set_option maxHeartbeats 4000000 in
theorem c_Sim_way {Γ : G9} {A : AD} {h : AH} {Y : SM} {z t : Nat} {up : Int32} (hA : AOk A) (bt : t < cn A 4) : Call Γ M_Sim_way 0 9 64 [.ref (ad A 6 0), .ref (ad A 4 t), .int up] (smC Γ A h Y) z (WayQ Γ A h Y (wayO A Y t up)) noX := by
  refine Call.of_go (L := [some (.ref (ad A 6 0)), some (.ref (ad A 4 t)), some (.int up), none, none, none, none, none]) (by decide +kernel) rfl (by exact Nat.le_of_ble_eq_true rfl) ?_
  unfold wayO
  by_cases hu : up = 0
  · rw [if_pos hu]
    refine Go.iload_2 d_Sim_way_0 rfl ?_
    refine Go.if_eq (t := 10) d_Sim_way_1 (by decide) rfl (fun _ => ?_) (fun w => absurd hu w)
    refine Go.aload_1 d_Sim_way_10 rfl ?_
    refine Go.iconst (v := 2) d_Sim_way_11 rfl (by decide) ?_
    refine Go.iaload d_Sim_way_12 rfl (sm_row hA (by decide) bt) (okI_in (by decide)) ?_
    rw [show (2 : Int32).toNatClampNeg = 2 from by decide]
    refine Go.iconst (v := 1) d_Sim_way_13 rfl (by decide) ?_
    refine Go.isub d_Sim_way_14 rfl ?_
    exact way_15 hA
  · rw [if_neg hu]
    refine Go.iload_2 d_Sim_way_0 rfl ?_
    refine Go.if_eq (t := 10) d_Sim_way_1 (by decide) rfl (fun w => absurd w hu) (fun _ => ?_)
    refine Go.aload_1 d_Sim_way_4 rfl ?_
    refine Go.iconst (v := 2) d_Sim_way_5 rfl (by decide) ?_
    refine Go.iaload d_Sim_way_6 rfl (sm_row hA (by decide) bt) (okI_in (by decide)) ?_
    rw [show (2 : Int32).toNatClampNeg = 2 from by decide]
    refine Go.goto (t := 15) d_Sim_way_7 (by decide) ?_
    exact way_15 hA
