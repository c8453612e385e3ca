/-! the builder: what is appended, and the text that comes out -/
theorem pr_0 : M_AbstractStringBuilder_ensureCapacityInternal.1 ∈ prvL := List.mem_cons_self
theorem pr_1 : M_AbstractStringBuilder_newCapacity.1 ∈ prvL := List.mem_cons_of_mem _ List.mem_cons_self
theorem pr_2 : M_AbstractStringBuilder_putStringAt.1 ∈ prvL := List.mem_cons_of_mem _ (List.mem_cons_of_mem _ List.mem_cons_self)
theorem pr_3 : M_AbstractStringBuilder_inflateIfNeededFor.1 ∈ prvL := List.mem_cons_of_mem _ (List.mem_cons_of_mem _ (List.mem_cons_of_mem _ List.mem_cons_self))
def sbH (Γ : G9) (h0 : AH) (b v n m : Nat) (a : Nat → Int32) : AH := hup (hup h0 b (sbO v n)) v (aB Γ m a)
/-- letters that fit a byte -/
def LB (l : List Int32) : Prop := ∀ j, fits .byte (.int (l.getD j 0)) = true
/-- the builder at b holds the text t, in a row of q places at least; else the heap is h0 -/
def SB (Γ : G9) (h : AH) (b : Nat) (h0 : AH) (t : List Int32) (q : Nat) : Prop := ∃ (v m : Nat) (a : Nat → Int32), h = sbH Γ h0 b v t.length m a ∧ b ≠ v ∧ h0 b = none ∧ h0 v = none ∧ t.length ≤ m ∧ q ≤ m ∧ m ≤ 2402 ∧ (∀ j, j < t.length → a j = t.getD j 0) ∧ ∀ j, fits .byte (.int (a j)) = true
section SbH
variable {Γ : G9} {h0 : AH} {b v n m z : Nat} {a : Nat → Int32}
theorem bd_b (hbv : b ≠ v) : sbH Γ h0 b v n m a b = some (sbO v n) := (hup_ne hbv).trans hup_at
theorem bd_v : sbH Γ h0 b v n m a v = some (aB Γ m a) := hup_at
theorem bd_out {x : Nat} (h1 : x ≠ b) (h2 : x ≠ v) : sbH Γ h0 b v n m a x = h0 x := (hup_ne h2).trans (hup_ne h1)
theorem bd_ext (h1 : h0 b = none) (h2 : h0 v = none) : Ext h0 (sbH Γ h0 b v n m a) := by
  intro x e hx
  rw [bd_out (fun w => by rw [w, h1] at hx; cases hx) (fun w => by rw [w, h2] at hx; cases hx)]
  exact hx
theorem bd_low (hbv : b ≠ v) (hl : ∀ x, z ≤ x → sbH Γ h0 b v n m a x = none) : b < z ∧ v < z ∧ ∀ x, z ≤ x → h0 x = none := by
  have h1 : b < z := Nat.not_le.mp fun w => by have := hl b w; rw [bd_b hbv] at this; cases this
  have h2 : v < z := Nat.not_le.mp fun w => by have := hl v w; rw [bd_v] at this; cases this
  exact ⟨h1, h2, fun x hx => by rw [← bd_out (Γ := Γ) (h0 := h0) (n := n) (m := m) (a := a) (show x ≠ b by omega) (show x ≠ v by omega)]; exact hl x hx⟩
theorem bd_grow {N : Nat} {a' : Nat → Int32} (hv : h0 v = none) (hbz : b ≠ z) : ∀ (x : Nat) (e : va_E), sbH Γ h0 b z n N a' x = some e → hup (hup (sbH Γ h0 b v n m a) z (aB Γ N a')) b (sbO z n) x = some e := by
  intro x e hx
  by_cases h2 : x = b
  · subst h2
    rw [bd_b hbz] at hx
    rw [hup_at]
    exact hx
  · rw [hup_ne h2]
    by_cases h1 : x = z
    · subst h1
      rw [bd_v] at hx
      rw [hup_at]
      exact hx
    · rw [hup_ne h1]
      rw [bd_out h2 h1] at hx
      rw [bd_out h2 (fun w => by rw [w, hv] at hx; cases hx)]
      exact hx
theorem bd_cnt {n' : Nat} (hbv : b ≠ v) : hup (sbH Γ h0 b v n m a) b (sbO v n') = sbH Γ h0 b v n' m a := by
  unfold sbH
  rw [hup_comm (Ne.symm hbv), hup_hup]
theorem bd_arr {a' : Nat → Int32} : hup (sbH Γ h0 b v n m a) v (aB Γ m a') = sbH Γ h0 b v n m a' := hup_hup
end SbH
theorem n9_fs_Str : ∀ j, j < 4 → defaultValue (ty_String j) = vp_V [.null, .int 0, .int 0, .int 0] j := by
  intro j hj
  match j, hj with
  | 0, _ => rfl
  | 1, _ => rfl
  | 2, _ => rfl
  | 3, _ => rfl
  | _ + 4, w => exact absurd w (by omega)
theorem d_AbstractStringBuilder_ensureCapacityInternal_0 : decode M_AbstractStringBuilder_ensureCapacityInternal.2.1 0 = .ok (.aload_n 0, 1) := by decide +kernel
theorem d_AbstractStringBuilder_ensureCapacityInternal_1 : decode M_AbstractStringBuilder_ensureCapacityInternal.2.1 1 = .ok (.getfield 15, 3) := by decide +kernel
theorem d_AbstractStringBuilder_ensureCapacityInternal_4 : decode M_AbstractStringBuilder_ensureCapacityInternal.2.1 4 = .ok (.arraylength, 1) := by decide +kernel
theorem d_AbstractStringBuilder_ensureCapacityInternal_5 : decode M_AbstractStringBuilder_ensureCapacityInternal.2.1 5 = .ok (.aload_n 0, 1) := by decide +kernel
theorem d_AbstractStringBuilder_ensureCapacityInternal_6 : decode M_AbstractStringBuilder_ensureCapacityInternal.2.1 6 = .ok (.getfield 22, 3) := by decide +kernel
theorem d_AbstractStringBuilder_ensureCapacityInternal_9 : decode M_AbstractStringBuilder_ensureCapacityInternal.2.1 9 = .ok (.ishr, 1) := by decide +kernel
theorem d_AbstractStringBuilder_ensureCapacityInternal_10 : decode M_AbstractStringBuilder_ensureCapacityInternal.2.1 10 = .ok (.istore_n 2, 1) := by decide +kernel
theorem d_AbstractStringBuilder_ensureCapacityInternal_11 : decode M_AbstractStringBuilder_ensureCapacityInternal.2.1 11 = .ok (.iload_n 1, 1) := by decide +kernel
theorem d_AbstractStringBuilder_ensureCapacityInternal_12 : decode M_AbstractStringBuilder_ensureCapacityInternal.2.1 12 = .ok (.iload_n 2, 1) := by decide +kernel
theorem d_AbstractStringBuilder_ensureCapacityInternal_13 : decode M_AbstractStringBuilder_ensureCapacityInternal.2.1 13 = .ok (.isub, 1) := by decide +kernel
theorem d_AbstractStringBuilder_ensureCapacityInternal_14 : decode M_AbstractStringBuilder_ensureCapacityInternal.2.1 14 = .ok (.ifCond .le 24, 3) := by decide +kernel
theorem d_AbstractStringBuilder_ensureCapacityInternal_17 : decode M_AbstractStringBuilder_ensureCapacityInternal.2.1 17 = .ok (.aload_n 0, 1) := by decide +kernel
theorem d_AbstractStringBuilder_ensureCapacityInternal_18 : decode M_AbstractStringBuilder_ensureCapacityInternal.2.1 18 = .ok (.aload_n 0, 1) := by decide +kernel
theorem d_AbstractStringBuilder_ensureCapacityInternal_19 : decode M_AbstractStringBuilder_ensureCapacityInternal.2.1 19 = .ok (.getfield 15, 3) := by decide +kernel
theorem d_AbstractStringBuilder_ensureCapacityInternal_22 : decode M_AbstractStringBuilder_ensureCapacityInternal.2.1 22 = .ok (.aload_n 0, 1) := by decide +kernel
theorem d_AbstractStringBuilder_ensureCapacityInternal_23 : decode M_AbstractStringBuilder_ensureCapacityInternal.2.1 23 = .ok (.iload_n 1, 1) := by decide +kernel
theorem d_AbstractStringBuilder_ensureCapacityInternal_24 : decode M_AbstractStringBuilder_ensureCapacityInternal.2.1 24 = .ok (.invokevirtual 104, 3) := by decide +kernel
theorem d_AbstractStringBuilder_ensureCapacityInternal_27 : decode M_AbstractStringBuilder_ensureCapacityInternal.2.1 27 = .ok (.aload_n 0, 1) := by decide +kernel
theorem d_AbstractStringBuilder_ensureCapacityInternal_28 : decode M_AbstractStringBuilder_ensureCapacityInternal.2.1 28 = .ok (.getfield 22, 3) := by decide +kernel
theorem d_AbstractStringBuilder_ensureCapacityInternal_31 : decode M_AbstractStringBuilder_ensureCapacityInternal.2.1 31 = .ok (.ishl, 1) := by decide +kernel
theorem d_AbstractStringBuilder_ensureCapacityInternal_32 : decode M_AbstractStringBuilder_ensureCapacityInternal.2.1 32 = .ok (.invokestatic 108, 3) := by decide +kernel
theorem d_AbstractStringBuilder_ensureCapacityInternal_35 : decode M_AbstractStringBuilder_ensureCapacityInternal.2.1 35 = .ok (.putfield 15, 3) := by decide +kernel
theorem d_AbstractStringBuilder_ensureCapacityInternal_38 : decode M_AbstractStringBuilder_ensureCapacityInternal.2.1 38 = .ok (.return_, 1) := by decide +kernel
set_option maxRecDepth 100000 in
set_option maxHeartbeats 4000000 in
theorem c_ensure {Γ : G9} {h h0 : AH} {z b q q0 : Nat} {t : List Int32} (hp : PrOk Γ) (hs : SB Γ h b h0 t q0) (hq : q ≤ 1200) (htq : t.length ≤ q) : Call Γ M_AbstractStringBuilder_ensureCapacityInternal 4 1 2402 [.ref b, .int (nI q)] h z (fun w h2 z2 => w = none ∧ SB Γ h2 b h0 t q ∧ z ≤ z2) noX := by
  obtain ⟨v, m, a, rfl, hbv, h0b, h0v, hn, hq0, hm, ha, hf⟩ := hs
  by_cases hqm : m < q
  · have hc1 : m < cap2 m q ∧ q ≤ cap2 m q ∧ cap2 m q ≤ 2402 := by unfold cap2; omega
    obtain ⟨hc1, hc2, hc3⟩ := hc1
    refine Call.of_go (L := [some (.ref b), some (.int (nI q)), none]) (by decide +kernel) rfl (by exact Nat.le_of_ble_eq_true rfl) ?_
    refine Go.low (fun hl => ?_)
    have hl := bd_low hbv hl
    have hbz : b ≠ z := by omega
    refine Go.aload_0 d_AbstractStringBuilder_ensureCapacityInternal_0 rfl ?_
    refine Go.getfield d_AbstractStringBuilder_ensureCapacityInternal_1 rfl f_AbstractStringBuilder_15 (bd_b hbv) rfl ?_
    refine Go.alen (t := 2) (n := nI m) d_AbstractStringBuilder_ensureCapacityInternal_4 rfl bd_v rfl rfl ?_
    refine Go.aload_0 d_AbstractStringBuilder_ensureCapacityInternal_5 rfl ?_
    refine Go.getfield d_AbstractStringBuilder_ensureCapacityInternal_6 rfl f_AbstractStringBuilder_22 (bd_b hbv) rfl ?_
    refine Go.ishr d_AbstractStringBuilder_ensureCapacityInternal_9 rfl ?_
    rw [nI_shr0]
    refine Go.istore_2 d_AbstractStringBuilder_ensureCapacityInternal_10 rfl (by rfl) ?_
    refine Go.iload_1 d_AbstractStringBuilder_ensureCapacityInternal_11 rfl ?_
    refine Go.iload_2 d_AbstractStringBuilder_ensureCapacityInternal_12 rfl ?_
    refine Go.isub d_AbstractStringBuilder_ensureCapacityInternal_13 rfl ?_
    refine Go.if_le (t := 38) d_AbstractStringBuilder_ensureCapacityInternal_14 (by decide) rfl (fun w => absurd w (fun w9 => by rw [Int32.le_iff_toInt_le, pk_sub_toInt (by omega) (by omega), Int32.toInt_zero] at w9; omega)) (fun _ => ?_)
    refine Go.aload_0 d_AbstractStringBuilder_ensureCapacityInternal_17 rfl ?_
    refine Go.aload_0 d_AbstractStringBuilder_ensureCapacityInternal_18 rfl ?_
    refine Go.getfield d_AbstractStringBuilder_ensureCapacityInternal_19 rfl f_AbstractStringBuilder_15 (bd_b hbv) rfl ?_
    refine Go.aload_0 d_AbstractStringBuilder_ensureCapacityInternal_22 rfl ?_
    refine Go.iload_1 d_AbstractStringBuilder_ensureCapacityInternal_23 rfl ?_
    refine Go.callB (C1 := 1) (S1 := 2402) (as := [.int (nI q)]) d_AbstractStringBuilder_ensureCapacityInternal_24 rfl l_AbstractStringBuilder_104 u_AbstractStringBuilder_newCapacity (Or.inr (hp _ pr_1)) rfl (bd_b hbv) rfl (c_newCapacity (bd_b hbv) bd_v hqm (by omega)) (by omega) (by decide) (by omega) (by omega) (by exact Nat.le_of_ble_eq_true rfl) (fun _ _ _ w _ => w.elim) (fun v9 h9 z9 w9 hz9 => ?_)
    obtain ⟨rfl, rfl, rfl⟩ := w9
    refine Go.aload_0 d_AbstractStringBuilder_ensureCapacityInternal_27 rfl ?_
    refine Go.getfield d_AbstractStringBuilder_ensureCapacityInternal_28 rfl f_AbstractStringBuilder_22 (bd_b hbv) rfl ?_
    refine Go.ishl d_AbstractStringBuilder_ensureCapacityInternal_31 rfl ?_
    rw [sh0]
    refine Go.callS (C1 := 0) (S1 := 0) (as := [.ref v, .int (nI (cap2 m q))]) d_AbstractStringBuilder_ensureCapacityInternal_32 rfl l_AbstractStringBuilder_108 k_Arrays_copyOf_s rfl rfl rfl (c_copyOf bd_v hf hc1 (by omega)) (by omega) (by decide) (by omega) (by omega) (by exact Nat.le_of_ble_eq_true rfl) (fun _ _ _ w _ => w.elim) (fun v9 h9 z9 w9 hz9 => ?_)
    obtain ⟨rfl, rfl, rfl⟩ := w9
    refine Go.putfield2 d_AbstractStringBuilder_ensureCapacityInternal_35 rfl f_AbstractStringBuilder_15_p ((hup_ne hbz).trans (bd_b hbv)) (by exact Nat.le_of_ble_eq_true rfl) rfl rfl ?_
    refine Go.drop (bd_grow (n := t.length) h0v hbz) ?_
    refine Go.vret d_AbstractStringBuilder_ensureCapacityInternal_38 rfl ⟨rfl, ⟨_, _, _, rfl, hbz, h0b, hl.2.2 _ (Nat.le_refl _), by omega, by omega, by omega, fun j hj => ?_, fun j => ?_⟩, by omega⟩
    · unfold va_cpy
      rw [if_pos (by omega), show 0 + (j - 0) = j by omega]
      exact ha j hj
    · unfold va_cpy
      by_cases h9 : 0 ≤ j ∧ j < 0 + m
      · rw [if_pos h9]
        exact hf _
      · rw [if_neg h9]
        exact (by decide : fits .byte (.int 0) = true)
  · refine Call.of_go (L := [some (.ref b), some (.int (nI q)), none]) (by decide +kernel) rfl (by exact Nat.le_of_ble_eq_true rfl) ?_
    refine Go.aload_0 d_AbstractStringBuilder_ensureCapacityInternal_0 rfl ?_
    refine Go.getfield d_AbstractStringBuilder_ensureCapacityInternal_1 rfl f_AbstractStringBuilder_15 (bd_b hbv) rfl ?_
    refine Go.alen (t := 2) (n := nI m) d_AbstractStringBuilder_ensureCapacityInternal_4 rfl bd_v rfl rfl ?_
    refine Go.aload_0 d_AbstractStringBuilder_ensureCapacityInternal_5 rfl ?_
    refine Go.getfield d_AbstractStringBuilder_ensureCapacityInternal_6 rfl f_AbstractStringBuilder_22 (bd_b hbv) rfl ?_
    refine Go.ishr d_AbstractStringBuilder_ensureCapacityInternal_9 rfl ?_
    rw [nI_shr0]
    refine Go.istore_2 d_AbstractStringBuilder_ensureCapacityInternal_10 rfl (by rfl) ?_
    refine Go.iload_1 d_AbstractStringBuilder_ensureCapacityInternal_11 rfl ?_
    refine Go.iload_2 d_AbstractStringBuilder_ensureCapacityInternal_12 rfl ?_
    refine Go.isub d_AbstractStringBuilder_ensureCapacityInternal_13 rfl ?_
    refine Go.if_le (t := 38) d_AbstractStringBuilder_ensureCapacityInternal_14 (by decide) rfl (fun _ => ?_) (fun w => absurd (by rw [Int32.le_iff_toInt_le, pk_sub_toInt (by omega) (by omega), Int32.toInt_zero]; omega) w)
    exact Go.vret d_AbstractStringBuilder_ensureCapacityInternal_38 rfl ⟨rfl, ⟨v, m, a, rfl, hbv, h0b, h0v, hn, by omega, hm, ha, hf⟩, Nat.le_refl _⟩
theorem d_String_getBytes_0 : decode M_String_getBytes.2.1 0 = .ok (.aload_n 0, 1) := by decide +kernel
theorem d_String_getBytes_1 : decode M_String_getBytes.2.1 1 = .ok (.invokevirtual 335, 3) := by decide +kernel
theorem d_String_getBytes_4 : decode M_String_getBytes.2.1 4 = .ok (.iload_n 3, 1) := by decide +kernel
theorem d_String_getBytes_5 : decode M_String_getBytes.2.1 5 = .ok (.if_icmp .ne 23, 3) := by decide +kernel
theorem d_String_getBytes_8 : decode M_String_getBytes.2.1 8 = .ok (.aload_n 0, 1) := by decide +kernel
theorem d_String_getBytes_9 : decode M_String_getBytes.2.1 9 = .ok (.getfield 9, 3) := by decide +kernel
theorem d_String_getBytes_12 : decode M_String_getBytes.2.1 12 = .ok (.iconst 0, 1) := by decide +kernel
theorem d_String_getBytes_13 : decode M_String_getBytes.2.1 13 = .ok (.aload_n 1, 1) := by decide +kernel
theorem d_String_getBytes_14 : decode M_String_getBytes.2.1 14 = .ok (.iload_n 2, 1) := by decide +kernel
theorem d_String_getBytes_15 : decode M_String_getBytes.2.1 15 = .ok (.iload_n 3, 1) := by decide +kernel
theorem d_String_getBytes_16 : decode M_String_getBytes.2.1 16 = .ok (.ishl, 1) := by decide +kernel
theorem d_String_getBytes_17 : decode M_String_getBytes.2.1 17 = .ok (.aload_n 0, 1) := by decide +kernel
theorem d_String_getBytes_18 : decode M_String_getBytes.2.1 18 = .ok (.getfield 9, 3) := by decide +kernel
theorem d_String_getBytes_21 : decode M_String_getBytes.2.1 21 = .ok (.arraylength, 1) := by decide +kernel
theorem d_String_getBytes_22 : decode M_String_getBytes.2.1 22 = .ok (.invokestatic 212, 3) := by decide +kernel
theorem d_String_getBytes_25 : decode M_String_getBytes.2.1 25 = .ok (.goto 18, 3) := by decide +kernel
theorem d_String_getBytes_43 : decode M_String_getBytes.2.1 43 = .ok (.return_, 1) := by decide +kernel
set_option maxRecDepth 100000 in
set_option maxHeartbeats 4000000 in
theorem c_getBytes {Γ : G9} {h : AH} {z s a1 dp m : Nat} {l : List Int32} {g : Nat → Int32} (hk : CsOk Γ) (hs : STR Γ h s l) (hl : LB l) (h1 : h a1 = some (aB Γ m g)) (hm : dp + l.length ≤ m) (hM : m ≤ 2402) : CallR Γ M_String_getBytes 3 [.ref s, .ref a1, .int (nI dp), .int 0] h z none (hup h a1 (aB Γ m (va_cpy (fun j => l.getD j 0) g 0 dp l.length))) := by
  refine Call.of_go (L := [some (.ref s), some (.ref a1), some (.int (nI dp)), some (.int 0)]) (by decide +kernel) rfl (by exact Nat.le_of_ble_eq_true rfl) ?_
  refine Go.aload_0 d_String_getBytes_0 rfl ?_
  refine Go.callStr (as := []) rfl d_String_getBytes_1 rfl l_String_335 k_String_coder_v rfl hs rfl (c2_coder hk hs) rfl rfl rfl ?_
  refine Go.iload_3 d_String_getBytes_4 rfl ?_
  refine Go.icmp_ne (t := 28) d_String_getBytes_5 (by decide) rfl (fun w => absurd w (by decide)) (fun _ => ?_)
  refine Go.aload_0 d_String_getBytes_8 rfl ?_
  refine Go.strval rfl d_String_getBytes_9 rfl hs (fun v hv => ?_)
  refine Go.iconst (v := 0) d_String_getBytes_12 rfl (by decide) ?_
  refine Go.aload_1 d_String_getBytes_13 rfl ?_
  refine Go.iload_2 d_String_getBytes_14 rfl ?_
  refine Go.iload_3 d_String_getBytes_15 rfl ?_
  refine Go.ishl d_String_getBytes_16 rfl ?_
  rw [sh0]
  refine Go.aload_0 d_String_getBytes_17 rfl ?_
  refine Go.strval rfl d_String_getBytes_18 rfl hs (fun v2 hv2 => ?_)
  refine Go.bylen d_String_getBytes_21 rfl hv2 rfl ?_
  refine Go.bcopy d_String_getBytes_22 rfl x_acS hv (fun j _ => hl j) h1 (Nat.le_refl _) hm (by omega) rfl rfl ?_
  refine Go.goto (t := 43) d_String_getBytes_25 (by decide) ?_
  exact Go.vret d_String_getBytes_43 rfl ⟨rfl, rfl, rfl⟩
theorem d_AbstractStringBuilder_inflateIfNeededFor_0 : decode M_AbstractStringBuilder_inflateIfNeededFor.2.1 0 = .ok (.getstatic 18, 3) := by decide +kernel
theorem d_AbstractStringBuilder_inflateIfNeededFor_3 : decode M_AbstractStringBuilder_inflateIfNeededFor.2.1 3 = .ok (.ifCond .eq 18, 3) := by decide +kernel
theorem d_AbstractStringBuilder_inflateIfNeededFor_6 : decode M_AbstractStringBuilder_inflateIfNeededFor.2.1 6 = .ok (.aload_n 0, 1) := by decide +kernel
theorem d_AbstractStringBuilder_inflateIfNeededFor_7 : decode M_AbstractStringBuilder_inflateIfNeededFor.2.1 7 = .ok (.getfield 22, 3) := by decide +kernel
theorem d_AbstractStringBuilder_inflateIfNeededFor_10 : decode M_AbstractStringBuilder_inflateIfNeededFor.2.1 10 = .ok (.aload_n 1, 1) := by decide +kernel
theorem d_AbstractStringBuilder_inflateIfNeededFor_11 : decode M_AbstractStringBuilder_inflateIfNeededFor.2.1 11 = .ok (.invokevirtual 40, 3) := by decide +kernel
theorem d_AbstractStringBuilder_inflateIfNeededFor_14 : decode M_AbstractStringBuilder_inflateIfNeededFor.2.1 14 = .ok (.if_icmp .eq 7, 3) := by decide +kernel
theorem d_AbstractStringBuilder_inflateIfNeededFor_21 : decode M_AbstractStringBuilder_inflateIfNeededFor.2.1 21 = .ok (.return_, 1) := by decide +kernel
set_option maxRecDepth 100000 in
set_option maxHeartbeats 4000000 in
theorem c_inflateIf {Γ : G9} {h : AH} {z b v n s : Nat} {l : List Int32} (hk : CsOk Γ) (hb : h b = some (sbO v n)) (hs : STR Γ h s l) : CallR Γ M_AbstractStringBuilder_inflateIfNeededFor 1 [.ref b, .ref s] h z none h := by
  refine Call.of_go (L := [some (.ref b), some (.ref s)]) (by decide +kernel) rfl (by exact Nat.le_of_ble_eq_true rfl) ?_
  refine Go.gets d_AbstractStringBuilder_inflateIfNeededFor_0 rfl x_AbstractStringBuilder_18 hk.1 ?_
  refine Go.if_eq (t := 21) d_AbstractStringBuilder_inflateIfNeededFor_3 (by decide) rfl (fun w => absurd w (by decide)) (fun _ => ?_)
  refine Go.aload_0 d_AbstractStringBuilder_inflateIfNeededFor_6 rfl ?_
  refine Go.getfield d_AbstractStringBuilder_inflateIfNeededFor_7 rfl f_AbstractStringBuilder_22 hb rfl ?_
  refine Go.aload_1 d_AbstractStringBuilder_inflateIfNeededFor_10 rfl ?_
  refine Go.callStr (as := []) rfl d_AbstractStringBuilder_inflateIfNeededFor_11 rfl l_AbstractStringBuilder_40 k_String_coder_v rfl hs rfl (c2_coder hk hs) rfl rfl rfl ?_
  refine Go.icmp_eq (t := 21) d_AbstractStringBuilder_inflateIfNeededFor_14 (by decide) rfl (fun _ => ?_) (fun w => absurd rfl w)
  exact Go.vret d_AbstractStringBuilder_inflateIfNeededFor_21 rfl ⟨rfl, rfl, rfl⟩
theorem d_AbstractStringBuilder_putStringAt_0 : decode M_AbstractStringBuilder_putStringAt.2.1 0 = .ok (.aload_n 0, 1) := by decide +kernel
theorem d_AbstractStringBuilder_putStringAt_1 : decode M_AbstractStringBuilder_putStringAt.2.1 1 = .ok (.aload_n 2, 1) := by decide +kernel
theorem d_AbstractStringBuilder_putStringAt_2 : decode M_AbstractStringBuilder_putStringAt.2.1 2 = .ok (.invokevirtual 397, 3) := by decide +kernel
theorem d_AbstractStringBuilder_putStringAt_5 : decode M_AbstractStringBuilder_putStringAt.2.1 5 = .ok (.aload_n 2, 1) := by decide +kernel
theorem d_AbstractStringBuilder_putStringAt_6 : decode M_AbstractStringBuilder_putStringAt.2.1 6 = .ok (.aload_n 0, 1) := by decide +kernel
theorem d_AbstractStringBuilder_putStringAt_7 : decode M_AbstractStringBuilder_putStringAt.2.1 7 = .ok (.getfield 15, 3) := by decide +kernel
theorem d_AbstractStringBuilder_putStringAt_10 : decode M_AbstractStringBuilder_putStringAt.2.1 10 = .ok (.iload_n 1, 1) := by decide +kernel
theorem d_AbstractStringBuilder_putStringAt_11 : decode M_AbstractStringBuilder_putStringAt.2.1 11 = .ok (.aload_n 0, 1) := by decide +kernel
theorem d_AbstractStringBuilder_putStringAt_12 : decode M_AbstractStringBuilder_putStringAt.2.1 12 = .ok (.getfield 22, 3) := by decide +kernel
theorem d_AbstractStringBuilder_putStringAt_15 : decode M_AbstractStringBuilder_putStringAt.2.1 15 = .ok (.invokevirtual 399, 3) := by decide +kernel
theorem d_AbstractStringBuilder_putStringAt_18 : decode M_AbstractStringBuilder_putStringAt.2.1 18 = .ok (.return_, 1) := by decide +kernel
set_option maxRecDepth 100000 in
set_option maxHeartbeats 4000000 in
theorem c_putStringAt {Γ : G9} {h : AH} {z b v n s m dp : Nat} {a : Nat → Int32} {l : List Int32} (hk : CsOk Γ) (hp : PrOk Γ) (hb : h b = some (sbO v n)) (hv : h v = some (aB Γ m a)) (hs : STR Γ h s l) (hl : LB l) (hm : dp + l.length ≤ m) (hM : m ≤ 2402) : CallR Γ M_AbstractStringBuilder_putStringAt 4 [.ref b, .int (nI dp), .ref s] h z none (hup h v (aB Γ m (va_cpy (fun j => l.getD j 0) a 0 dp l.length))) := by
  refine Call.of_go (L := [some (.ref b), some (.int (nI dp)), some (.ref s)]) (by decide +kernel) rfl (by exact Nat.le_of_ble_eq_true rfl) ?_
  refine Go.aload_0 d_AbstractStringBuilder_putStringAt_0 rfl ?_
  refine Go.aload_2 d_AbstractStringBuilder_putStringAt_1 rfl ?_
  refine Go.callB (C1 := 0) (S1 := 0) (as := [.ref s]) d_AbstractStringBuilder_putStringAt_2 rfl l_AbstractStringBuilder_397 u_AbstractStringBuilder_inflateIfNeededFor (Or.inr (hp _ pr_3)) rfl hb rfl (c_inflateIf hk hb hs) (by omega) (by decide) (by omega) (by omega) (by exact Nat.le_of_ble_eq_true rfl) (fun _ _ _ w _ => w.elim) (fun v9 h9 z9 w9 hz9 => ?_)
  obtain ⟨rfl, rfl, rfl⟩ := w9
  refine Go.aload_2 d_AbstractStringBuilder_putStringAt_5 rfl ?_
  refine Go.aload_0 d_AbstractStringBuilder_putStringAt_6 rfl ?_
  refine Go.getfield d_AbstractStringBuilder_putStringAt_7 rfl f_AbstractStringBuilder_15 hb rfl ?_
  refine Go.iload_1 d_AbstractStringBuilder_putStringAt_10 rfl ?_
  refine Go.aload_0 d_AbstractStringBuilder_putStringAt_11 rfl ?_
  refine Go.getfield d_AbstractStringBuilder_putStringAt_12 rfl f_AbstractStringBuilder_22 hb rfl ?_
  refine Go.callStr (as := [.ref v, .int (nI dp), .int 0]) rfl d_AbstractStringBuilder_putStringAt_15 rfl l_AbstractStringBuilder_399 k_String_getBytes_v rfl hs rfl (c_getBytes hk hs hl hv hm hM) rfl rfl rfl ?_
  exact Go.vret d_AbstractStringBuilder_putStringAt_18 rfl ⟨rfl, rfl, rfl⟩
theorem cat_text {t l : List Int32} {a : Nat → Int32} (ha : ∀ j, j < t.length → a j = t.getD j 0) : ∀ j, j < (t ++ l).length → va_cpy (fun j => l.getD j 0) a 0 t.length l.length j = (t ++ l).getD j 0 := by
  intro j hj
  rw [List.length_append] at hj
  unfold va_cpy
  by_cases h : t.length ≤ j ∧ j < t.length + l.length
  · rw [if_pos h, Nat.zero_add]
    show l.getD (j - t.length) 0 = _
    rw [List.getD_eq_getElem?_getD, List.getD_eq_getElem?_getD, List.getElem?_append_right h.1]
  · rw [if_neg h, ha j (by omega), List.getD_eq_getElem?_getD, List.getD_eq_getElem?_getD, List.getElem?_append_left (by omega)]
theorem cat_fit {l : List Int32} {a : Nat → Int32} {n : Nat} (hl : LB l) (hf : ∀ j, fits .byte (.int (a j)) = true) : ∀ j, fits .byte (.int (va_cpy (fun j => l.getD j 0) a 0 n l.length j)) = true := by
  intro j
  unfold va_cpy
  split
  · exact hl _
  · exact hf _
theorem d_AbstractStringBuilder_append_1_0 : decode M_AbstractStringBuilder_append_1.2.1 0 = .ok (.aload_n 1, 1) := by decide +kernel
theorem d_AbstractStringBuilder_append_1_1 : decode M_AbstractStringBuilder_append_1.2.1 1 = .ok (.ifnonnull 8, 3) := by decide +kernel
theorem d_AbstractStringBuilder_append_1_9 : decode M_AbstractStringBuilder_append_1.2.1 9 = .ok (.aload_n 1, 1) := by decide +kernel
theorem d_AbstractStringBuilder_append_1_10 : decode M_AbstractStringBuilder_append_1.2.1 10 = .ok (.invokevirtual 32, 3) := by decide +kernel
theorem d_AbstractStringBuilder_append_1_13 : decode M_AbstractStringBuilder_append_1.2.1 13 = .ok (.istore_n 2, 1) := by decide +kernel
theorem d_AbstractStringBuilder_append_1_14 : decode M_AbstractStringBuilder_append_1.2.1 14 = .ok (.aload_n 0, 1) := by decide +kernel
theorem d_AbstractStringBuilder_append_1_15 : decode M_AbstractStringBuilder_append_1.2.1 15 = .ok (.aload_n 0, 1) := by decide +kernel
theorem d_AbstractStringBuilder_append_1_16 : decode M_AbstractStringBuilder_append_1.2.1 16 = .ok (.getfield 79, 3) := by decide +kernel
theorem d_AbstractStringBuilder_append_1_19 : decode M_AbstractStringBuilder_append_1.2.1 19 = .ok (.iload_n 2, 1) := by decide +kernel
theorem d_AbstractStringBuilder_append_1_20 : decode M_AbstractStringBuilder_append_1.2.1 20 = .ok (.iadd, 1) := by decide +kernel
theorem d_AbstractStringBuilder_append_1_21 : decode M_AbstractStringBuilder_append_1.2.1 21 = .ok (.invokevirtual 100, 3) := by decide +kernel
theorem d_AbstractStringBuilder_append_1_24 : decode M_AbstractStringBuilder_append_1.2.1 24 = .ok (.aload_n 0, 1) := by decide +kernel
theorem d_AbstractStringBuilder_append_1_25 : decode M_AbstractStringBuilder_append_1.2.1 25 = .ok (.aload_n 0, 1) := by decide +kernel
theorem d_AbstractStringBuilder_append_1_26 : decode M_AbstractStringBuilder_append_1.2.1 26 = .ok (.getfield 79, 3) := by decide +kernel
theorem d_AbstractStringBuilder_append_1_29 : decode M_AbstractStringBuilder_append_1.2.1 29 = .ok (.aload_n 1, 1) := by decide +kernel
theorem d_AbstractStringBuilder_append_1_30 : decode M_AbstractStringBuilder_append_1.2.1 30 = .ok (.invokevirtual 208, 3) := by decide +kernel
theorem d_AbstractStringBuilder_append_1_33 : decode M_AbstractStringBuilder_append_1.2.1 33 = .ok (.aload_n 0, 1) := by decide +kernel
theorem d_AbstractStringBuilder_append_1_34 : decode M_AbstractStringBuilder_append_1.2.1 34 = .ok (.dup, 1) := by decide +kernel
theorem d_AbstractStringBuilder_append_1_35 : decode M_AbstractStringBuilder_append_1.2.1 35 = .ok (.getfield 79, 3) := by decide +kernel
theorem d_AbstractStringBuilder_append_1_38 : decode M_AbstractStringBuilder_append_1.2.1 38 = .ok (.iload_n 2, 1) := by decide +kernel
theorem d_AbstractStringBuilder_append_1_39 : decode M_AbstractStringBuilder_append_1.2.1 39 = .ok (.iadd, 1) := by decide +kernel
theorem d_AbstractStringBuilder_append_1_40 : decode M_AbstractStringBuilder_append_1.2.1 40 = .ok (.putfield 79, 3) := by decide +kernel
theorem d_AbstractStringBuilder_append_1_43 : decode M_AbstractStringBuilder_append_1.2.1 43 = .ok (.aload_n 0, 1) := by decide +kernel
theorem d_AbstractStringBuilder_append_1_44 : decode M_AbstractStringBuilder_append_1.2.1 44 = .ok (.areturn, 1) := by decide +kernel
set_option maxRecDepth 100000 in
set_option maxHeartbeats 4000000 in
theorem c_asb_append {Γ : G9} {h h0 : AH} {z b s q : Nat} {t l : List Int32} (hk : CsOk Γ) (hp : PrOk Γ) (hs : SB Γ h b h0 t q) (hs1 : STR Γ h0 s l) (hl : LB l) (hlen : t.length + l.length ≤ 1200) : Call Γ M_AbstractStringBuilder_append_1 6 1 2402 [.ref b, .ref s] h z (fun w h2 z2 => w = some (.ref b) ∧ SB Γ h2 b h0 (t ++ l) 0 ∧ z ≤ z2) noX := by
  obtain ⟨v, m, a, rfl, hbv, h0b, h0v, hn, hq0, hm, ha, hf⟩ := hs
  refine Call.of_go (L := [some (.ref b), some (.ref s), none]) (by decide +kernel) rfl (by exact Nat.le_of_ble_eq_true rfl) ?_
  refine Go.aload_1 d_AbstractStringBuilder_append_1_0 rfl ?_
  refine Go.ifnonnull (t := 9) d_AbstractStringBuilder_append_1_1 (by decide) ?_
  refine Go.aload_1 d_AbstractStringBuilder_append_1_9 rfl ?_
  refine Go.callStr (as := []) rfl d_AbstractStringBuilder_append_1_10 rfl l_AbstractStringBuilder_32 k_String_length_v rfl (hs1.ext (bd_ext h0b h0v)) rfl (c2_length hk (hs1.ext (bd_ext h0b h0v))) rfl rfl rfl ?_
  refine Go.istore_2 d_AbstractStringBuilder_append_1_13 rfl (by rfl) ?_
  refine Go.aload_0 d_AbstractStringBuilder_append_1_14 rfl ?_
  refine Go.aload_0 d_AbstractStringBuilder_append_1_15 rfl ?_
  refine Go.getfield d_AbstractStringBuilder_append_1_16 rfl f_AbstractStringBuilder_79 (bd_b hbv) rfl ?_
  refine Go.iload_2 d_AbstractStringBuilder_append_1_19 rfl ?_
  refine Go.iadd d_AbstractStringBuilder_append_1_20 rfl ?_
  rw [nI_add]
  refine Go.callB (C1 := 0) (S1 := 0) (as := [.int (nI (t.length + l.length))]) d_AbstractStringBuilder_append_1_21 rfl l_AbstractStringBuilder_100 u_AbstractStringBuilder_ensureCapacityInternal (Or.inr (hp _ pr_0)) rfl (bd_b hbv) rfl (c_ensure hp (q0 := q) ⟨v, m, a, rfl, hbv, h0b, h0v, hn, hq0, hm, ha, hf⟩ hlen (by omega)) (by omega) (by decide) (by omega) (by omega) (by exact Nat.le_of_ble_eq_true rfl) (fun _ _ _ w _ => w.elim) (fun v9 h9 z9 w9 hz9 => ?_)
  obtain ⟨rfl, ⟨v2, m2, a2, rfl, hbv2, h0b2, h0v2, hn2, hq2, hm2, ha2, hf2⟩, hz2⟩ := w9
  refine Go.aload_0 d_AbstractStringBuilder_append_1_24 rfl ?_
  refine Go.aload_0 d_AbstractStringBuilder_append_1_25 rfl ?_
  refine Go.getfield d_AbstractStringBuilder_append_1_26 rfl f_AbstractStringBuilder_79 (bd_b hbv2) rfl ?_
  refine Go.aload_1 d_AbstractStringBuilder_append_1_29 rfl ?_
  refine Go.callB (C1 := 0) (S1 := 0) (as := [.int (nI t.length), .ref s]) d_AbstractStringBuilder_append_1_30 rfl l_AbstractStringBuilder_208 u_AbstractStringBuilder_putStringAt (Or.inr (hp _ pr_2)) rfl (bd_b hbv2) rfl (c_putStringAt hk hp (bd_b hbv2) bd_v (hs1.ext (bd_ext h0b2 h0v2)) hl hq2 hm2) (by omega) (by decide) (by omega) (by omega) (by exact Nat.le_of_ble_eq_true rfl) (fun _ _ _ w _ => w.elim) (fun v8 h8 z8 w8 hz8 => ?_)
  obtain ⟨rfl, rfl, rfl⟩ := w8
  rw [bd_arr]
  refine Go.aload_0 d_AbstractStringBuilder_append_1_33 rfl ?_
  refine Go.dup d_AbstractStringBuilder_append_1_34 rfl rfl ?_
  refine Go.getfield d_AbstractStringBuilder_append_1_35 rfl f_AbstractStringBuilder_79 (bd_b hbv2) rfl ?_
  refine Go.iload_2 d_AbstractStringBuilder_append_1_38 rfl ?_
  refine Go.iadd d_AbstractStringBuilder_append_1_39 rfl ?_
  rw [nI_add]
  refine Go.putfield2 d_AbstractStringBuilder_append_1_40 rfl f_AbstractStringBuilder_79_p (bd_b hbv2) (by exact Nat.le_of_ble_eq_true rfl) rfl rfl ?_
  refine Go.heq (h' := sbH Γ h0 b v2 (t.length + l.length) m2 _) (bd_cnt hbv2) ?_
  refine Go.aload_0 d_AbstractStringBuilder_append_1_43 rfl ?_
  refine Go.aret d_AbstractStringBuilder_append_1_44 rfl ⟨rfl, ⟨v2, m2, _, by rw [List.length_append], hbv2, h0b, h0v2, by rw [List.length_append]; exact hq2, Nat.zero_le _, hm2, cat_text ha2, cat_fit hl hf2⟩, by omega⟩
theorem d_StringBuilder_append_1_0 : decode M_StringBuilder_append_1.2.1 0 = .ok (.aload_n 0, 1) := by decide +kernel
theorem d_StringBuilder_append_1_1 : decode M_StringBuilder_append_1.2.1 1 = .ok (.aload_n 1, 1) := by decide +kernel
theorem d_StringBuilder_append_1_2 : decode M_StringBuilder_append_1.2.1 2 = .ok (.invokespecial 29, 3) := by decide +kernel
theorem d_StringBuilder_append_1_5 : decode M_StringBuilder_append_1.2.1 5 = .ok (.pop, 1) := by decide +kernel
theorem d_StringBuilder_append_1_6 : decode M_StringBuilder_append_1.2.1 6 = .ok (.aload_n 0, 1) := by decide +kernel
theorem d_StringBuilder_append_1_7 : decode M_StringBuilder_append_1.2.1 7 = .ok (.areturn, 1) := by decide +kernel
set_option maxRecDepth 100000 in
set_option maxHeartbeats 4000000 in
theorem c_append {Γ : G9} {h h0 : AH} {z b s q : Nat} {t l : List Int32} (hk : CsOk Γ) (hp : PrOk Γ) (hs : SB Γ h b h0 t q) (hs1 : STR Γ h0 s l) (hl : LB l) (hlen : t.length + l.length ≤ 1200) : Call Γ M_StringBuilder_append_1 7 1 2402 [.ref b, .ref s] h z (fun w h2 z2 => w = some (.ref b) ∧ SB Γ h2 b h0 (t ++ l) 0 ∧ z ≤ z2) noX := by
  refine Call.of_go (L := [some (.ref b), some (.ref s)]) (by decide +kernel) rfl (by exact Nat.le_of_ble_eq_true rfl) ?_
  have hb : ∃ v n, h b = some (sbO v n) := by obtain ⟨v, m, a, rfl, hbv, -⟩ := hs; exact ⟨_, _, bd_b hbv⟩
  obtain ⟨v, n, hb⟩ := hb
  refine Go.aload_0 d_StringBuilder_append_1_0 rfl ?_
  refine Go.aload_1 d_StringBuilder_append_1_1 rfl ?_
  refine Go.callBs (C1 := 0) (S1 := 0) (as := [.ref s]) d_StringBuilder_append_1_2 rfl l_StringBuilder_29 x_sup su_AbstractStringBuilder_append_1 rfl hb rfl (c_asb_append hk hp hs hs1 hl hlen) (by omega) (by decide) (by omega) (by omega) (by exact Nat.le_of_ble_eq_true rfl) (fun _ _ _ w _ => w.elim) (fun v9 h9 z9 w9 hz9 => ?_)
  obtain ⟨rfl, w9⟩ := w9
  refine Go.pop d_StringBuilder_append_1_5 rfl rfl ?_
  refine Go.aload_0 d_StringBuilder_append_1_6 rfl ?_
  exact Go.aret d_StringBuilder_append_1_7 rfl ⟨rfl, w9⟩
