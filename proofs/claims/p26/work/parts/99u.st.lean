/-! what the start holds: the statics, the constants, the script, carried along -/
theorem fl_sg : ∀ i, i < 54 → Cond.laysStatic clSign (sgN.getD i "") "LGlacierCamp$Sign;" ∈ lw_tbl := by
  intro i hi
  match i, hi with
  | 0, _ => exact (List.mem_append_right _ (gt_7 (List.mem_of_getElem? (i := 77) rfl)))
  | 1, _ => exact (List.mem_append_right _ (gt_4 (List.mem_of_getElem? (i := 194) rfl)))
  | 2, _ => exact (List.mem_append_right _ (gt_4 (List.mem_of_getElem? (i := 206) rfl)))
  | 3, _ => exact (List.mem_append_right _ (gt_7 (List.mem_of_getElem? (i := 78) rfl)))
  | 4, _ => exact (List.mem_append_right _ (gt_4 (List.mem_of_getElem? (i := 220) rfl)))
  | 5, _ => exact (List.mem_append_right _ (gt_4 (List.mem_of_getElem? (i := 226) rfl)))
  | 6, _ => exact (List.mem_append_right _ (gt_7 (List.mem_of_getElem? (i := 79) rfl)))
  | 7, _ => exact (List.mem_append_right _ (gt_4 (List.mem_of_getElem? (i := 236) rfl)))
  | 8, _ => exact (List.mem_append_right _ (gt_4 (List.mem_of_getElem? (i := 238) rfl)))
  | 9, _ => exact (List.mem_append_right _ (gt_7 (List.mem_of_getElem? (i := 80) rfl)))
  | 10, _ => exact (List.mem_append_right _ (gt_5 (List.mem_of_getElem? (i := 8) rfl)))
  | 11, _ => exact (List.mem_append_right _ (gt_7 (List.mem_of_getElem? (i := 81) rfl)))
  | 12, _ => exact (List.mem_append_right _ (gt_5 (List.mem_of_getElem? (i := 18) rfl)))
  | 13, _ => exact (List.mem_append_right _ (gt_5 (List.mem_of_getElem? (i := 28) rfl)))
  | 14, _ => exact (List.mem_append_right _ (gt_5 (List.mem_of_getElem? (i := 30) rfl)))
  | 15, _ => exact (List.mem_append_right _ (gt_7 (List.mem_of_getElem? (i := 82) rfl)))
  | 16, _ => exact (List.mem_append_right _ (gt_7 (List.mem_of_getElem? (i := 83) rfl)))
  | 17, _ => exact (List.mem_append_right _ (gt_5 (List.mem_of_getElem? (i := 151) rfl)))
  | 18, _ => exact (List.mem_append_right _ (gt_5 (List.mem_of_getElem? (i := 153) rfl)))
  | 19, _ => exact (List.mem_append_right _ (gt_5 (List.mem_of_getElem? (i := 159) rfl)))
  | 20, _ => exact (List.mem_append_right _ (gt_5 (List.mem_of_getElem? (i := 161) rfl)))
  | 21, _ => exact (List.mem_append_right _ (gt_5 (List.mem_of_getElem? (i := 167) rfl)))
  | 22, _ => exact (List.mem_append_right _ (gt_5 (List.mem_of_getElem? (i := 58) rfl)))
  | 23, _ => exact (List.mem_append_right _ (gt_7 (List.mem_of_getElem? (i := 84) rfl)))
  | 24, _ => exact (List.mem_append_right _ (gt_7 (List.mem_of_getElem? (i := 85) rfl)))
  | 25, _ => exact (List.mem_append_right _ (gt_7 (List.mem_of_getElem? (i := 86) rfl)))
  | 26, _ => exact (List.mem_append_right _ (gt_7 (List.mem_of_getElem? (i := 87) rfl)))
  | 27, _ => exact (List.mem_append_right _ (gt_5 (List.mem_of_getElem? (i := 90) rfl)))
  | 28, _ => exact (List.mem_append_right _ (gt_5 (List.mem_of_getElem? (i := 92) rfl)))
  | 29, _ => exact (List.mem_append_right _ (gt_5 (List.mem_of_getElem? (i := 94) rfl)))
  | 30, _ => exact (List.mem_append_right _ (gt_5 (List.mem_of_getElem? (i := 76) rfl)))
  | 31, _ => exact (List.mem_append_right _ (gt_5 (List.mem_of_getElem? (i := 143) rfl)))
  | 32, _ => exact (List.mem_append_right _ (gt_5 (List.mem_of_getElem? (i := 145) rfl)))
  | 33, _ => exact (List.mem_append_right _ (gt_5 (List.mem_of_getElem? (i := 118) rfl)))
  | 34, _ => exact (List.mem_append_right _ (gt_5 (List.mem_of_getElem? (i := 120) rfl)))
  | 35, _ => exact (List.mem_append_right _ (gt_5 (List.mem_of_getElem? (i := 114) rfl)))
  | 36, _ => exact (List.mem_append_right _ (gt_5 (List.mem_of_getElem? (i := 116) rfl)))
  | 37, _ => exact (List.mem_append_right _ (gt_5 (List.mem_of_getElem? (i := 86) rfl)))
  | 38, _ => exact (List.mem_append_right _ (gt_5 (List.mem_of_getElem? (i := 88) rfl)))
  | 39, _ => exact (List.mem_append_right _ (gt_5 (List.mem_of_getElem? (i := 169) rfl)))
  | 40, _ => exact (List.mem_append_right _ (gt_5 (List.mem_of_getElem? (i := 122) rfl)))
  | 41, _ => exact (List.mem_append_right _ (gt_5 (List.mem_of_getElem? (i := 128) rfl)))
  | 42, _ => exact (List.mem_append_right _ (gt_5 (List.mem_of_getElem? (i := 112) rfl)))
  | 43, _ => exact (List.mem_append_right _ (gt_5 (List.mem_of_getElem? (i := 124) rfl)))
  | 44, _ => exact (List.mem_append_right _ (gt_5 (List.mem_of_getElem? (i := 126) rfl)))
  | 45, _ => exact (List.mem_append_right _ (gt_5 (List.mem_of_getElem? (i := 133) rfl)))
  | 46, _ => exact (List.mem_append_right _ (gt_5 (List.mem_of_getElem? (i := 135) rfl)))
  | 47, _ => exact (List.mem_append_right _ (gt_5 (List.mem_of_getElem? (i := 137) rfl)))
  | 48, _ => exact (List.mem_append_right _ (gt_5 (List.mem_of_getElem? (i := 139) rfl)))
  | 49, _ => exact (List.mem_append_right _ (gt_5 (List.mem_of_getElem? (i := 141) rfl)))
  | 50, _ => exact (List.mem_append_right _ (gt_4 (List.mem_of_getElem? (i := 64) rfl)))
  | 51, _ => exact (List.mem_append_right _ (gt_2 (List.mem_of_getElem? (i := 225) rfl)))
  | 52, _ => exact (List.mem_append_right _ (gt_1 (List.mem_of_getElem? (i := 62) rfl)))
  | 53, _ => exact (List.mem_append_right _ (gt_4 (List.mem_of_getElem? (i := 55) rfl)))
  | _ + 54, w => exact absurd w (by omega)
theorem aoA_moved {t : FieldType} {u U : State} (hvm : u.vm.Alike U.vm) (h : (Cond.arrayOver (.array t)).before #[] u = true) : (Cond.arrayOver (.array t)).before #[] U = true := by
  simp only [Cond.before, Cond.holds, Cond.value, beq_iff_eq] at h
  cases hc : u.vm.findClass (FieldType.array t).toString with
  | none => simp [hc] at h
  | some comp =>
    simp only [hc, Option.bind_some, Option.bind_eq_some_iff, Option.map_eq_some_iff] at h
    obtain ⟨c, hf, hh⟩ := h
    cases hk : u.vm.classes[c]? with
    | none => simp [hk] at hh
    | some k =>
      simp only [hk, Option.some.injEq, exists_eq_left'] at hh
      cases hkind : k.kind with
      | array component ty =>
        simp [hkind] at hh
        obtain ⟨k', hk', he⟩ := hvm.2.2 _ _ hk
        have hi : (U.vm.classes.findIdx? fun (x : Class) => match x.kind with | .array component _ => component == comp | _ => false) = some c := by
          refine (va_idx_bare U.vm comp).symm.trans ?_
          first | rw [hvm.bare_eq] | rw [← hvm.bare_eq]
          exact (va_idx_bare u.vm comp).trans hf
        have hkind2 : k'.kind = .array component ty := by rw [he]; exact hkind
        have f1 : U.vm.findClass (FieldType.array t).toString = some comp := by rw [hvm.findClass]; exact hc
        have f2 : U.vm.findClass ("[" ++ (FieldType.array t).toString) = some c := by rw [hvm.findClass]; exact hh.2
        unfold Cond.before Cond.holds
        simp only [Cond.value]
        rw [f1, Option.bind_some]
        refine (congrArg (fun o : Option Nat => (o.bind (fun c => (U.vm.classes[c]?).map fun (k : Class) => match k.kind with | .array _ ty => decide (ty = FieldType.array t) && decide (U.vm.findClass ("[" ++ (FieldType.array t).toString) = some c) | _ => false) == some true)) hi).trans ?_
        simp [hk', hkind2, f2, hh.1]
      | _ => simp [hkind] at hh
theorem aoA_any {t : FieldType} {A A' : Array Value} {u : State} (h : (Cond.arrayOver (.array t)).before A u = true) : (Cond.arrayOver (.array t)).before A' u = true := by
  simpa only [Cond.before, Cond.holds, Cond.value] using h
theorem ao_any {C : String} {A : Array Value} {u : State} (h : (Cond.arrayOver (.object C)).before A u = true) : va_AO C u := by
  unfold va_AO
  simpa only [Cond.before, Cond.holds, Cond.value] using h
section FACTS
variable {s : State} {args : Array Value} {l : Launch} {D : va_G} {kf : Nat → ClassId}
theorem ev_str (hg : (Jvm.Cond.and given_1 narrow_1).before args s = true) {own : String} {k i : Nat} (h : NA[i]? = some (.exactly (.string own k) "java/lang/String")) : ∃ a : Nat, (Term.string own k).eval args s none [] s = some (.ref a) := by
  obtain ⟨a, c, cell, kk, q1, -⟩ := Cond.exactly_spec (na_at hg h)
  exact ⟨a, q1⟩
theorem st_str (hg : (Jvm.Cond.and given_1 narrow_1).before args s = true) {own : String} {k i : Nat} {w : List Int32} (h : naS own k i w) {a : Nat} (ht : (Term.string own k).eval args s none [] s = some (.ref a)) : StOk (gOf l D kf s) a w := by
  have hA : ∀ a : Nat, a < s.heap.size → ¬ (fun q : Nat => s.heap.size ≤ q) a := fun a h => Nat.not_le.mpr h
  obtain ⟨h0, h1, h2, h3, h4, h5⟩ := h
  obtain ⟨t, e1, e2⟩ := va_Tof (N := w.length) (f := fun j => .int (w.getD j 0)) (by omega) (na_at hg h3) (va_eqt (na_at hg h4)) (fun j hj => va_eqt (na_at hg (h5 j hj))) hA
  exact ⟨h0, SF.of va_O.moved va_O.kept (va_Oof (na_at hg h1) ht hA), SF.of va_OF.moved va_OF.kept (vk_OFof ht (va_eqt (na_at hg h2)) hA), t, SF.of va_OF.moved va_OF.kept (vk_OFof ht e1 hA), SF.of va_T.moved va_T.kept e2⟩
theorem ev_sg (hg : (Jvm.Cond.and given_1 narrow_1).before args s = true) : ∃ sg : Nat → Nat, ∀ i, i < 54 → (fSt i).eval args s none [] s = some (.ref (sg i)) := by
  refine Classical.axiomOfChoice (r := fun i a => i < 54 → (fSt i).eval args s none [] s = some (.ref a)) fun i => ?_
  by_cases hi : i < 54
  · obtain ⟨a, c, cell, k, q1, -⟩ := Cond.exactly_spec (na_at hg (na_ex i hi))
    exact ⟨a, fun _ => q1⟩
  · exact ⟨0, fun h => absurd h hi⟩
theorem ev_strs (hg : (Jvm.Cond.and given_1 narrow_1).before args s = true) {own : String} {n : Nat} {ks is : Nat → Nat} (h : ∀ i, i < n → NA[is i]? = some (.exactly (.string own (ks i)) "java/lang/String")) : ∃ tx : Nat → Nat, ∀ i, i < n → (Term.string own (ks i)).eval args s none [] s = some (.ref (tx i)) := by
  refine Classical.axiomOfChoice (r := fun i a => i < n → (Term.string own (ks i)).eval args s none [] s = some (.ref a)) fun i => ?_
  by_cases hi : i < n
  · obtain ⟨a, q⟩ := ev_str hg (h i hi)
    exact ⟨a, fun _ => q⟩
  · exact ⟨0, fun h => absurd h hi⟩
theorem sg_ne (hg : (Jvm.Cond.and given_1 narrow_1).before args s = true) {sg : Nat → Nat} (h : ∀ i, i < 54 → (fSt i).eval args s none [] s = some (.ref (sg i))) : SgNe sg := by
  intro i j hi hj e
  have h1 := va_eqt (na_at hg (na_or i hi))
  have h2 := va_eqt (na_at hg (na_or j hj))
  rw [va_fe (h i hi)] at h1
  rw [va_fe (h j hj), ← e, h1] at h2
  have h3 : sgO.getD i 0 = sgO.getD j 0 := by injection h2 with h2; injection h2
  rw [sgO_at ⟨i, hi⟩, sgO_at ⟨j, hj⟩] at h3
  have h4 := congrArg Int32.toNatClampNeg h3
  rwa [nI_clamp (by show i < 2 ^ 31; omega), nI_clamp (by show j < 2 ^ 31; omega)] at h4
theorem sg_ok (hg : (Jvm.Cond.and given_1 narrow_1).before args s = true) (hts : ∀ w ∈ lw_tbl, w.before args s = true) {sg : Nat → Nat} (h : ∀ i, i < 54 → (fSt i).eval args s none [] s = some (.ref (sg i))) : SgOk (gOf l D kf s) sg := by
  have hA : ∀ a : Nat, a < s.heap.size → ¬ (fun q : Nat => s.heap.size ≤ q) a := fun a h => Nat.not_le.mpr h
  refine SF.of va_En.moved va_En.kept ⟨fun i hi => ⟨va_Zref (hts _ (fl_sg i hi)) (hts _ (List.mem_append_right _ (gt_1 (List.mem_of_getElem? (i := 5) rfl)))) (h i hi) hA, va_Oof (na_at hg (na_ex i hi)) (h i hi) hA, fun q hq => ?_⟩, sg_ne hg h⟩
  rcases List.mem_cons.mp hq with rfl | hq
  · exact vk_OFof (h i hi) (va_eqt (na_at hg (na_or i hi))) hA
  · rcases List.mem_cons.mp hq with rfl | hq
    · exact vk_OFof (h i hi) (va_eqt (na_at hg (na_tk i hi))) hA
    · cases hq
theorem st_ms (hg : (Jvm.Cond.and given_1 narrow_1).before args s = true) (hts : ∀ w ∈ lw_tbl, w.before args s = true) : ∃ ms : Nat → Nat, MsOk (gOf l D kf s) ms := by
  obtain ⟨m0, hm0⟩ := ev_strs hg (own := "GlacierCamp") (n := 9) (ks := fun i => fxMs.getD i 0) (is := fun i => fxMi.getD i 0) na_ms
  refine ⟨fun k => if k = 53 then m0 0 else if k = 64 then m0 1 else if k = 155 then m0 2 else if k = 158 then m0 3 else if k = 160 then m0 4 else if k = 166 then m0 5 else if k = 172 then m0 6 else if k = 181 then m0 7 else if k = 211 then m0 8 else 0, ?_⟩
  intro k t hk
  simp only [msL, List.mem_cons, Prod.mk.injEq, List.not_mem_nil, or_false] at hk
  rcases hk with ⟨rfl, rfl⟩ | ⟨rfl, rfl⟩ | ⟨rfl, rfl⟩ | ⟨rfl, rfl⟩ | ⟨rfl, rfl⟩ | ⟨rfl, rfl⟩ | ⟨rfl, rfl⟩ | ⟨rfl, rfl⟩ | ⟨rfl, rfl⟩
  · exact SF.ofW vk_R.warm (vk_R.of (hts _ (List.mem_append_right _ (gt_4 (List.mem_of_getElem? (i := 10) rfl)))) (hm0 0 (by decide)))
  · exact SF.ofW vk_R.warm (vk_R.of (hts _ (List.mem_append_right _ (gt_3 (List.mem_of_getElem? (i := 193) rfl)))) (hm0 1 (by decide)))
  · exact SF.ofW vk_R.warm (vk_R.of (hts _ (List.mem_append_right _ (gt_2 (List.mem_of_getElem? (i := 99) rfl)))) (hm0 2 (by decide)))
  · exact SF.ofW vk_R.warm (vk_R.of (hts _ (List.mem_append_right _ (gt_2 (List.mem_of_getElem? (i := 20) rfl)))) (hm0 3 (by decide)))
  · exact SF.ofW vk_R.warm (vk_R.of (hts _ (List.mem_append_right _ (gt_2 (List.mem_of_getElem? (i := 202) rfl)))) (hm0 4 (by decide)))
  · exact SF.ofW vk_R.warm (vk_R.of (hts _ (List.mem_append_right _ (gt_2 (List.mem_of_getElem? (i := 179) rfl)))) (hm0 5 (by decide)))
  · exact SF.ofW vk_R.warm (vk_R.of (hts _ (List.mem_append_right _ (gt_7 (List.mem_of_getElem? (i := 41) rfl)))) (hm0 6 (by decide)))
  · exact SF.ofW vk_R.warm (vk_R.of (hts _ (List.mem_append_right _ (gt_7 (List.mem_of_getElem? (i := 48) rfl)))) (hm0 7 (by decide)))
  · exact SF.ofW vk_R.warm (vk_R.of (hts _ (List.mem_append_right _ (gt_3 (List.mem_of_getElem? (i := 85) rfl)))) (hm0 8 (by decide)))
theorem st_txs (hg : (Jvm.Cond.and given_1 narrow_1).before args s = true) (hts : ∀ w ∈ lw_tbl, w.before args s = true) : ∃ ls : Nat → Nat, LsOk (gOf l D kf s) ls := by
  obtain ⟨l0, hl0⟩ := ev_strs hg (own := "GlacierCampLaw") (n := 60) (ks := fun i => fxLs.getD i 0) (is := fun i => fxLi.getD i 0) (fun i hi => (na_ls i hi).2.1)
  refine ⟨fun k => if k = 35 then l0 0 else if k = 48 then l0 1 else if k = 50 then l0 2 else if k = 52 then l0 3 else if k = 54 then l0 4 else if k = 56 then l0 5 else if k = 58 then l0 6 else if k = 60 then l0 7 else if k = 62 then l0 8 else if k = 64 then l0 9 else if k = 66 then l0 10 else if k = 68 then l0 11 else if k = 70 then l0 12 else if k = 72 then l0 13 else if k = 74 then l0 14 else if k = 76 then l0 15 else if k = 78 then l0 16 else if k = 80 then l0 17 else if k = 82 then l0 18 else if k = 84 then l0 19 else if k = 86 then l0 20 else if k = 88 then l0 21 else if k = 90 then l0 22 else if k = 92 then l0 23 else if k = 94 then l0 24 else if k = 96 then l0 25 else if k = 98 then l0 26 else if k = 100 then l0 27 else if k = 102 then l0 28 else if k = 104 then l0 29 else if k = 106 then l0 30 else if k = 108 then l0 31 else if k = 110 then l0 32 else if k = 112 then l0 33 else if k = 114 then l0 34 else if k = 135 then l0 35 else if k = 137 then l0 36 else if k = 139 then l0 37 else if k = 141 then l0 38 else if k = 143 then l0 39 else if k = 148 then l0 40 else if k = 150 then l0 41 else if k = 152 then l0 42 else if k = 157 then l0 43 else if k = 159 then l0 44 else if k = 161 then l0 45 else if k = 166 then l0 46 else if k = 168 then l0 47 else if k = 173 then l0 48 else if k = 175 then l0 49 else if k = 180 then l0 50 else if k = 182 then l0 51 else if k = 187 then l0 52 else if k = 189 then l0 53 else if k = 191 then l0 54 else if k = 193 then l0 55 else if k = 195 then l0 56 else if k = 197 then l0 57 else if k = 203 then l0 58 else if k = 208 then l0 59 else 0, ?_⟩
  refine ⟨⟨SF.ofW vk_R.warm (vk_R.of (hts _ (List.mem_append_right _ (gt_6 (List.mem_of_getElem? (i := 231) rfl)))) (hl0 0 (by decide))), st_str hg (na_ls 0 (by decide)) (hl0 0 (by decide))⟩,
    ⟨SF.ofW vk_R.warm (vk_R.of (hts _ (List.mem_append_right _ (gt_6 (List.mem_of_getElem? (i := 232) rfl)))) (hl0 1 (by decide))), st_str hg (na_ls 1 (by decide)) (hl0 1 (by decide))⟩,
    ⟨SF.ofW vk_R.warm (vk_R.of (hts _ (List.mem_append_right _ (gt_6 (List.mem_of_getElem? (i := 233) rfl)))) (hl0 2 (by decide))), st_str hg (na_ls 2 (by decide)) (hl0 2 (by decide))⟩,
    ⟨SF.ofW vk_R.warm (vk_R.of (hts _ (List.mem_append_right _ (gt_6 (List.mem_of_getElem? (i := 234) rfl)))) (hl0 3 (by decide))), st_str hg (na_ls 3 (by decide)) (hl0 3 (by decide))⟩,
    ⟨SF.ofW vk_R.warm (vk_R.of (hts _ (List.mem_append_right _ (gt_6 (List.mem_of_getElem? (i := 235) rfl)))) (hl0 4 (by decide))), st_str hg (na_ls 4 (by decide)) (hl0 4 (by decide))⟩,
    ⟨SF.ofW vk_R.warm (vk_R.of (hts _ (List.mem_append_right _ (gt_6 (List.mem_of_getElem? (i := 236) rfl)))) (hl0 5 (by decide))), st_str hg (na_ls 5 (by decide)) (hl0 5 (by decide))⟩,
    ⟨SF.ofW vk_R.warm (vk_R.of (hts _ (List.mem_append_right _ (gt_6 (List.mem_of_getElem? (i := 237) rfl)))) (hl0 6 (by decide))), st_str hg (na_ls 6 (by decide)) (hl0 6 (by decide))⟩,
    ⟨SF.ofW vk_R.warm (vk_R.of (hts _ (List.mem_append_right _ (gt_6 (List.mem_of_getElem? (i := 238) rfl)))) (hl0 7 (by decide))), st_str hg (na_ls 7 (by decide)) (hl0 7 (by decide))⟩,
    ⟨SF.ofW vk_R.warm (vk_R.of (hts _ (List.mem_append_right _ (gt_6 (List.mem_of_getElem? (i := 239) rfl)))) (hl0 8 (by decide))), st_str hg (na_ls 8 (by decide)) (hl0 8 (by decide))⟩,
    ⟨SF.ofW vk_R.warm (vk_R.of (hts _ (List.mem_append_right _ (gt_7 (List.mem_of_getElem? (i := 0) rfl)))) (hl0 9 (by decide))), st_str hg (na_ls 9 (by decide)) (hl0 9 (by decide))⟩,
    ⟨SF.ofW vk_R.warm (vk_R.of (hts _ (List.mem_append_right _ (gt_7 (List.mem_of_getElem? (i := 1) rfl)))) (hl0 10 (by decide))), st_str hg (na_ls 10 (by decide)) (hl0 10 (by decide))⟩,
    ⟨SF.ofW vk_R.warm (vk_R.of (hts _ (List.mem_append_right _ (gt_7 (List.mem_of_getElem? (i := 2) rfl)))) (hl0 11 (by decide))), st_str hg (na_ls 11 (by decide)) (hl0 11 (by decide))⟩,
    ⟨SF.ofW vk_R.warm (vk_R.of (hts _ (List.mem_append_right _ (gt_7 (List.mem_of_getElem? (i := 3) rfl)))) (hl0 12 (by decide))), st_str hg (na_ls 12 (by decide)) (hl0 12 (by decide))⟩,
    ⟨SF.ofW vk_R.warm (vk_R.of (hts _ (List.mem_append_right _ (gt_7 (List.mem_of_getElem? (i := 4) rfl)))) (hl0 13 (by decide))), st_str hg (na_ls 13 (by decide)) (hl0 13 (by decide))⟩,
    ⟨SF.ofW vk_R.warm (vk_R.of (hts _ (List.mem_append_right _ (gt_7 (List.mem_of_getElem? (i := 9) rfl)))) (hl0 14 (by decide))), st_str hg (na_ls 14 (by decide)) (hl0 14 (by decide))⟩,
    ⟨SF.ofW vk_R.warm (vk_R.of (hts _ (List.mem_append_right _ (gt_7 (List.mem_of_getElem? (i := 10) rfl)))) (hl0 15 (by decide))), st_str hg (na_ls 15 (by decide)) (hl0 15 (by decide))⟩,
    ⟨SF.ofW vk_R.warm (vk_R.of (hts _ (List.mem_append_right _ (gt_7 (List.mem_of_getElem? (i := 11) rfl)))) (hl0 16 (by decide))), st_str hg (na_ls 16 (by decide)) (hl0 16 (by decide))⟩,
    ⟨SF.ofW vk_R.warm (vk_R.of (hts _ (List.mem_append_right _ (gt_7 (List.mem_of_getElem? (i := 12) rfl)))) (hl0 17 (by decide))), st_str hg (na_ls 17 (by decide)) (hl0 17 (by decide))⟩,
    ⟨SF.ofW vk_R.warm (vk_R.of (hts _ (List.mem_append_right _ (gt_7 (List.mem_of_getElem? (i := 13) rfl)))) (hl0 18 (by decide))), st_str hg (na_ls 18 (by decide)) (hl0 18 (by decide))⟩,
    ⟨SF.ofW vk_R.warm (vk_R.of (hts _ (List.mem_append_right _ (gt_7 (List.mem_of_getElem? (i := 14) rfl)))) (hl0 19 (by decide))), st_str hg (na_ls 19 (by decide)) (hl0 19 (by decide))⟩,
    ⟨SF.ofW vk_R.warm (vk_R.of (hts _ (List.mem_append_right _ (gt_7 (List.mem_of_getElem? (i := 15) rfl)))) (hl0 20 (by decide))), st_str hg (na_ls 20 (by decide)) (hl0 20 (by decide))⟩,
    ⟨SF.ofW vk_R.warm (vk_R.of (hts _ (List.mem_append_right _ (gt_7 (List.mem_of_getElem? (i := 16) rfl)))) (hl0 21 (by decide))), st_str hg (na_ls 21 (by decide)) (hl0 21 (by decide))⟩,
    ⟨SF.ofW vk_R.warm (vk_R.of (hts _ (List.mem_append_right _ (gt_7 (List.mem_of_getElem? (i := 17) rfl)))) (hl0 22 (by decide))), st_str hg (na_ls 22 (by decide)) (hl0 22 (by decide))⟩,
    ⟨SF.ofW vk_R.warm (vk_R.of (hts _ (List.mem_append_right _ (gt_7 (List.mem_of_getElem? (i := 18) rfl)))) (hl0 23 (by decide))), st_str hg (na_ls 23 (by decide)) (hl0 23 (by decide))⟩,
    ⟨SF.ofW vk_R.warm (vk_R.of (hts _ (List.mem_append_right _ (gt_7 (List.mem_of_getElem? (i := 19) rfl)))) (hl0 24 (by decide))), st_str hg (na_ls 24 (by decide)) (hl0 24 (by decide))⟩,
    ⟨SF.ofW vk_R.warm (vk_R.of (hts _ (List.mem_append_right _ (gt_7 (List.mem_of_getElem? (i := 20) rfl)))) (hl0 25 (by decide))), st_str hg (na_ls 25 (by decide)) (hl0 25 (by decide))⟩,
    ⟨SF.ofW vk_R.warm (vk_R.of (hts _ (List.mem_append_right _ (gt_7 (List.mem_of_getElem? (i := 21) rfl)))) (hl0 26 (by decide))), st_str hg (na_ls 26 (by decide)) (hl0 26 (by decide))⟩,
    ⟨SF.ofW vk_R.warm (vk_R.of (hts _ (List.mem_append_right _ (gt_7 (List.mem_of_getElem? (i := 22) rfl)))) (hl0 27 (by decide))), st_str hg (na_ls 27 (by decide)) (hl0 27 (by decide))⟩,
    ⟨SF.ofW vk_R.warm (vk_R.of (hts _ (List.mem_append_right _ (gt_7 (List.mem_of_getElem? (i := 23) rfl)))) (hl0 28 (by decide))), st_str hg (na_ls 28 (by decide)) (hl0 28 (by decide))⟩,
    ⟨SF.ofW vk_R.warm (vk_R.of (hts _ (List.mem_append_right _ (gt_7 (List.mem_of_getElem? (i := 24) rfl)))) (hl0 29 (by decide))), st_str hg (na_ls 29 (by decide)) (hl0 29 (by decide))⟩,
    ⟨SF.ofW vk_R.warm (vk_R.of (hts _ (List.mem_append_right _ (gt_7 (List.mem_of_getElem? (i := 25) rfl)))) (hl0 30 (by decide))), st_str hg (na_ls 30 (by decide)) (hl0 30 (by decide))⟩,
    ⟨SF.ofW vk_R.warm (vk_R.of (hts _ (List.mem_append_right _ (gt_7 (List.mem_of_getElem? (i := 26) rfl)))) (hl0 31 (by decide))), st_str hg (na_ls 31 (by decide)) (hl0 31 (by decide))⟩,
    ⟨SF.ofW vk_R.warm (vk_R.of (hts _ (List.mem_append_right _ (gt_7 (List.mem_of_getElem? (i := 27) rfl)))) (hl0 32 (by decide))), st_str hg (na_ls 32 (by decide)) (hl0 32 (by decide))⟩,
    ⟨SF.ofW vk_R.warm (vk_R.of (hts _ (List.mem_append_right _ (gt_7 (List.mem_of_getElem? (i := 28) rfl)))) (hl0 33 (by decide))), st_str hg (na_ls 33 (by decide)) (hl0 33 (by decide))⟩,
    ⟨SF.ofW vk_R.warm (vk_R.of (hts _ (List.mem_append_right _ (gt_7 (List.mem_of_getElem? (i := 29) rfl)))) (hl0 34 (by decide))), st_str hg (na_ls 34 (by decide)) (hl0 34 (by decide))⟩,
    ⟨SF.ofW vk_R.warm (vk_R.of (hts _ (List.mem_append_right _ (gt_5 (List.mem_of_getElem? (i := 234) rfl)))) (hl0 35 (by decide))), st_str hg (na_ls 35 (by decide)) (hl0 35 (by decide))⟩,
    ⟨SF.ofW vk_R.warm (vk_R.of (hts _ (List.mem_append_right _ (gt_6 (List.mem_of_getElem? (i := 126) rfl)))) (hl0 36 (by decide))), st_str hg (na_ls 36 (by decide)) (hl0 36 (by decide))⟩,
    ⟨SF.ofW vk_R.warm (vk_R.of (hts _ (List.mem_append_right _ (gt_6 (List.mem_of_getElem? (i := 127) rfl)))) (hl0 37 (by decide))), st_str hg (na_ls 37 (by decide)) (hl0 37 (by decide))⟩,
    ⟨SF.ofW vk_R.warm (vk_R.of (hts _ (List.mem_append_right _ (gt_6 (List.mem_of_getElem? (i := 128) rfl)))) (hl0 38 (by decide))), st_str hg (na_ls 38 (by decide)) (hl0 38 (by decide))⟩,
    ⟨SF.ofW vk_R.warm (vk_R.of (hts _ (List.mem_append_right _ (gt_6 (List.mem_of_getElem? (i := 129) rfl)))) (hl0 39 (by decide))), st_str hg (na_ls 39 (by decide)) (hl0 39 (by decide))⟩,
    ⟨SF.ofW vk_R.warm (vk_R.of (hts _ (List.mem_append_right _ (gt_6 (List.mem_of_getElem? (i := 130) rfl)))) (hl0 40 (by decide))), st_str hg (na_ls 40 (by decide)) (hl0 40 (by decide))⟩,
    ⟨SF.ofW vk_R.warm (vk_R.of (hts _ (List.mem_append_right _ (gt_6 (List.mem_of_getElem? (i := 131) rfl)))) (hl0 41 (by decide))), st_str hg (na_ls 41 (by decide)) (hl0 41 (by decide))⟩,
    ⟨SF.ofW vk_R.warm (vk_R.of (hts _ (List.mem_append_right _ (gt_6 (List.mem_of_getElem? (i := 132) rfl)))) (hl0 42 (by decide))), st_str hg (na_ls 42 (by decide)) (hl0 42 (by decide))⟩,
    ⟨SF.ofW vk_R.warm (vk_R.of (hts _ (List.mem_append_right _ (gt_6 (List.mem_of_getElem? (i := 133) rfl)))) (hl0 43 (by decide))), st_str hg (na_ls 43 (by decide)) (hl0 43 (by decide))⟩,
    ⟨SF.ofW vk_R.warm (vk_R.of (hts _ (List.mem_append_right _ (gt_6 (List.mem_of_getElem? (i := 134) rfl)))) (hl0 44 (by decide))), st_str hg (na_ls 44 (by decide)) (hl0 44 (by decide))⟩,
    ⟨SF.ofW vk_R.warm (vk_R.of (hts _ (List.mem_append_right _ (gt_6 (List.mem_of_getElem? (i := 135) rfl)))) (hl0 45 (by decide))), st_str hg (na_ls 45 (by decide)) (hl0 45 (by decide))⟩,
    ⟨SF.ofW vk_R.warm (vk_R.of (hts _ (List.mem_append_right _ (gt_6 (List.mem_of_getElem? (i := 136) rfl)))) (hl0 46 (by decide))), st_str hg (na_ls 46 (by decide)) (hl0 46 (by decide))⟩,
    ⟨SF.ofW vk_R.warm (vk_R.of (hts _ (List.mem_append_right _ (gt_6 (List.mem_of_getElem? (i := 137) rfl)))) (hl0 47 (by decide))), st_str hg (na_ls 47 (by decide)) (hl0 47 (by decide))⟩,
    ⟨SF.ofW vk_R.warm (vk_R.of (hts _ (List.mem_append_right _ (gt_6 (List.mem_of_getElem? (i := 138) rfl)))) (hl0 48 (by decide))), st_str hg (na_ls 48 (by decide)) (hl0 48 (by decide))⟩,
    ⟨SF.ofW vk_R.warm (vk_R.of (hts _ (List.mem_append_right _ (gt_6 (List.mem_of_getElem? (i := 139) rfl)))) (hl0 49 (by decide))), st_str hg (na_ls 49 (by decide)) (hl0 49 (by decide))⟩,
    ⟨SF.ofW vk_R.warm (vk_R.of (hts _ (List.mem_append_right _ (gt_6 (List.mem_of_getElem? (i := 140) rfl)))) (hl0 50 (by decide))), st_str hg (na_ls 50 (by decide)) (hl0 50 (by decide))⟩,
    ⟨SF.ofW vk_R.warm (vk_R.of (hts _ (List.mem_append_right _ (gt_6 (List.mem_of_getElem? (i := 141) rfl)))) (hl0 51 (by decide))), st_str hg (na_ls 51 (by decide)) (hl0 51 (by decide))⟩,
    ⟨SF.ofW vk_R.warm (vk_R.of (hts _ (List.mem_append_right _ (gt_6 (List.mem_of_getElem? (i := 165) rfl)))) (hl0 52 (by decide))), st_str hg (na_ls 52 (by decide)) (hl0 52 (by decide))⟩,
    ⟨SF.ofW vk_R.warm (vk_R.of (hts _ (List.mem_append_right _ (gt_6 (List.mem_of_getElem? (i := 223) rfl)))) (hl0 53 (by decide))), st_str hg (na_ls 53 (by decide)) (hl0 53 (by decide))⟩,
    ⟨SF.ofW vk_R.warm (vk_R.of (hts _ (List.mem_append_right _ (gt_6 (List.mem_of_getElem? (i := 224) rfl)))) (hl0 54 (by decide))), st_str hg (na_ls 54 (by decide)) (hl0 54 (by decide))⟩,
    ⟨SF.ofW vk_R.warm (vk_R.of (hts _ (List.mem_append_right _ (gt_6 (List.mem_of_getElem? (i := 225) rfl)))) (hl0 55 (by decide))), st_str hg (na_ls 55 (by decide)) (hl0 55 (by decide))⟩,
    ⟨SF.ofW vk_R.warm (vk_R.of (hts _ (List.mem_append_right _ (gt_6 (List.mem_of_getElem? (i := 226) rfl)))) (hl0 56 (by decide))), st_str hg (na_ls 56 (by decide)) (hl0 56 (by decide))⟩,
    ⟨SF.ofW vk_R.warm (vk_R.of (hts _ (List.mem_append_right _ (gt_6 (List.mem_of_getElem? (i := 227) rfl)))) (hl0 57 (by decide))), st_str hg (na_ls 57 (by decide)) (hl0 57 (by decide))⟩,
    ⟨SF.ofW vk_R.warm (vk_R.of (hts _ (List.mem_append_right _ (gt_7 (List.mem_of_getElem? (i := 5) rfl)))) (hl0 58 (by decide))), st_str hg (na_ls 58 (by decide)) (hl0 58 (by decide))⟩,
    ⟨SF.ofW vk_R.warm (vk_R.of (hts _ (List.mem_append_right _ (gt_7 (List.mem_of_getElem? (i := 30) rfl)))) (hl0 59 (by decide))), st_str hg (na_ls 59 (by decide)) (hl0 59 (by decide))⟩⟩
theorem st_dg (hg : (Jvm.Cond.and given_1 narrow_1).before args s = true) (hts : ∀ w ∈ lw_tbl, w.before args s = true) : DgOk (gOf l D kf s) := by
  have hA : ∀ a : Nat, a < s.heap.size → ¬ (fun q : Nat => s.heap.size ≤ q) a := fun a h => Nat.not_le.mpr h
  obtain ⟨a1, e1, e2⟩ := va_Tof (N := 100) (f := fun j => .int (nI (48 + j % 10))) (by decide) (na_at hg na_nD1) (va_eqt (na_at hg na_nE1)) (fun j hj => va_eqt (na_at hg (na_d1 j hj))) hA
  obtain ⟨a2, e3, e4⟩ := va_Tof (N := 100) (f := fun j => .int (nI (48 + j / 10))) (by decide) (na_at hg na_nD2) (va_eqt (na_at hg na_nE2)) (fun j hj => va_eqt (na_at hg (na_d2 j hj))) hA
  exact ⟨a1, a2, SF.of va_Z.moved va_Z.kept (va_Zref (hts _ (List.mem_append_right _ (gt_6 (List.mem_of_getElem? (i := 115) rfl)))) (hts _ (List.mem_append_right _ (gt_1 (List.mem_of_getElem? (i := 21) rfl)))) e1 hA), SF.of va_Z.moved va_Z.kept (va_Zref (hts _ (List.mem_append_right _ (gt_6 (List.mem_of_getElem? (i := 117) rfl)))) (hts _ (List.mem_append_right _ (gt_1 (List.mem_of_getElem? (i := 21) rfl)))) e3 hA), SF.of va_T.moved va_T.kept e2, SF.of va_T.moved va_T.kept e4⟩
theorem st_pr (hg : (Jvm.Cond.and given_1 narrow_1).before args s = true) (hts : ∀ w ∈ lw_tbl, w.before args s = true) : PrOk (gOf l D kf s) := by
  intro y hy
  simp only [prvL, List.mem_cons, List.not_mem_nil, or_false] at hy
  rcases hy with rfl | rfl | rfl | rfl
  · exact SF.ofW (P := fun U => (Cond.selects "java/lang/StringBuilder" M_AbstractStringBuilder_ensureCapacityInternal.1 M_AbstractStringBuilder_ensureCapacityInternal.1).before #[] U = true) (fun hW h => word_at hW (Or.inl (by first | rfl | simp [Cond.onTables, Cond.keeps, Cond.steady])) h) (sel_args (sel_priv (x := M_AbstractStringBuilder_isLatin1.1) rfl (hts _ (List.mem_append_right _ (gt_6 (List.mem_of_getElem? (i := 41) rfl)))) (by decide +kernel) (hts _ (List.mem_append_right _ (gt_6 (List.mem_of_getElem? (i := 8) rfl)))) (hts _ (List.mem_append_right _ (gt_6 (List.mem_of_getElem? (i := 9) rfl))))))
  · exact SF.ofW (P := fun U => (Cond.selects "java/lang/StringBuilder" M_AbstractStringBuilder_newCapacity.1 M_AbstractStringBuilder_newCapacity.1).before #[] U = true) (fun hW h => word_at hW (Or.inl (by first | rfl | simp [Cond.onTables, Cond.keeps, Cond.steady])) h) (sel_args (sel_priv (x := M_AbstractStringBuilder_isLatin1.1) rfl (hts _ (List.mem_append_right _ (gt_6 (List.mem_of_getElem? (i := 41) rfl)))) (by decide +kernel) (hts _ (List.mem_append_right _ (gt_6 (List.mem_of_getElem? (i := 12) rfl)))) (hts _ (List.mem_append_right _ (gt_6 (List.mem_of_getElem? (i := 13) rfl))))))
  · exact SF.ofW (P := fun U => (Cond.selects "java/lang/StringBuilder" M_AbstractStringBuilder_putStringAt.1 M_AbstractStringBuilder_putStringAt.1).before #[] U = true) (fun hW h => word_at hW (Or.inl (by first | rfl | simp [Cond.onTables, Cond.keeps, Cond.steady])) h) (sel_args (sel_priv (x := M_AbstractStringBuilder_isLatin1.1) rfl (hts _ (List.mem_append_right _ (gt_6 (List.mem_of_getElem? (i := 41) rfl)))) (by decide +kernel) (hts _ (List.mem_append_right _ (gt_6 (List.mem_of_getElem? (i := 61) rfl)))) (hts _ (List.mem_append_right _ (gt_6 (List.mem_of_getElem? (i := 62) rfl))))))
  · exact SF.ofW (P := fun U => (Cond.selects "java/lang/StringBuilder" M_AbstractStringBuilder_inflateIfNeededFor.1 M_AbstractStringBuilder_inflateIfNeededFor.1).before #[] U = true) (fun hW h => word_at hW (Or.inl (by first | rfl | simp [Cond.onTables, Cond.keeps, Cond.steady])) h) (sel_args (sel_priv (x := M_AbstractStringBuilder_isLatin1.1) rfl (hts _ (List.mem_append_right _ (gt_6 (List.mem_of_getElem? (i := 41) rfl)))) (by decide +kernel) (hts _ (List.mem_append_right _ (gt_6 (List.mem_of_getElem? (i := 65) rfl)))) (hts _ (List.mem_append_right _ (gt_6 (List.mem_of_getElem? (i := 66) rfl))))))
theorem st_of (hg : (Jvm.Cond.and given_1 narrow_1).before args s = true) (hts : ∀ w ∈ lw_tbl, w.before args s = true) {b L : Nat} {xs : Nat → Int32} (hX : va_X b L xs s s.heap) (hbl : b < s.heap.size) : ∃ (sg tx : Nat → Nat) (sw sa : Nat), (SgOk (gOf l D kf s) sg ∧ SgNe sg ∧ SwOk (gOf l D kf s) sw ∧ SaOk (gOf l D kf s) sg sa) ∧ TxOk (gOf l D kf s) sg tx ∧ ThOk (gOf l D kf s) ∧ CsOk (gOf l D kf s) ∧ AoOk (gOf l D kf s) ∧ AtOk (gOf l D kf s) ∧ ScOk (gOf l D kf s) b L xs := by
  have hA : ∀ a : Nat, a < s.heap.size → ¬ (fun q : Nat => s.heap.size ≤ q) a := fun a h => Nat.not_le.mpr h
  obtain ⟨sg, hsg⟩ := ev_sg hg
  obtain ⟨tx, htx⟩ := ev_strs hg (own := clSign) (n := 54) (ks := fun i => fxTs.getD i 0) (is := fun i => fxTi.getD i 0) (fun i hi => (na_ts i hi).2.1)
  obtain ⟨sw, e1, e2⟩ := va_Tof (N := 54) (f := fun j => .int (swf j)) (by decide) (na_at hg na_nWa) (va_eqt (na_at hg na_nWl)) (fun j hj => va_eqt (na_at hg (na_sw j hj))) hA
  obtain ⟨sa, e3, e4⟩ := va_Tof (N := 54) (f := fun j => .ref (sg j)) (by decide) (na_at hg na_nSa) (va_eqt (na_at hg na_nSl)) (fun j hj => va_eqv (na_at hg (na_sa j hj)) (hsg j hj)) hA
  refine ⟨sg, tx, sw, sa, ⟨sg_ok hg hts hsg, sg_ne hg hsg, ⟨SF.of va_Z.moved va_Z.kept (va_Zref (hts _ (List.mem_append_right _ (gt_2 (List.mem_of_getElem? (i := 235) rfl)))) (hts _ (List.mem_append_right _ (gt_1 (List.mem_of_getElem? (i := 29) rfl)))) e1 hA), SF.of va_T.moved va_T.kept e2⟩, SF.of va_Z.moved va_Z.kept (va_Zref (hts _ (List.mem_append_right _ (gt_4 (List.mem_of_getElem? (i := 57) rfl)))) (hts _ (List.mem_append_right _ (gt_1 (List.mem_of_getElem? (i := 3) rfl)))) e3 hA), SF.of va_T.moved va_T.kept e4⟩, fun i hi => ⟨SF.of va_OF.moved va_OF.kept (vk_OFof (hsg i hi) (va_eqv (na_at hg (na_tx i hi)) (htx i hi)) hA), st_str hg (na_ts i hi) (htx i hi)⟩, ?_, ?_, ⟨SF.ofU va_AO.moved (ao_any (hts _ (List.mem_append_right _ (gt_1 (List.mem_of_getElem? (i := 60) rfl))))), SF.ofU aoA_moved (aoA_any (hts _ (List.mem_append_right _ (gt_5 (List.mem_of_getElem? (i := 191) rfl)))))⟩, SF.ofU va_AO.moved (ao_any (hts _ (List.mem_append_right _ (gt_6 (List.mem_of_getElem? (i := 143) rfl))))), ?_⟩
  · exact ⟨fun U H hU => vx_Zq.moved hU.1.alike (vx_Zq.kept (vx_Zqof (hts _ (List.mem_append_right _ (gt_2 (List.mem_of_getElem? (i := 6) rfl)))) (hts _ (List.mem_append_right _ (gt_1 (List.mem_of_getElem? (i := 22) rfl)))) (na_at hg na_nT1) hA) (fun a ha _ => hU.2 a ha)), fun U H hU => vx_Zq.moved hU.1.alike (vx_Zq.kept (vx_Zqof (hts _ (List.mem_append_right _ (gt_2 (List.mem_of_getElem? (i := 8) rfl)))) (hts _ (List.mem_append_right _ (gt_1 (List.mem_of_getElem? (i := 22) rfl)))) (na_at hg na_nT2) hA) (fun a ha _ => hU.2 a ha))⟩
  · exact ⟨SF.of va_Z.moved va_Z.kept (va_Zof (hts _ (List.mem_append_right _ (gt_3 (List.mem_of_getElem? (i := 207) rfl)))) (hts _ (List.mem_append_right _ (gt_1 (List.mem_of_getElem? (i := 12) rfl)))) (va_eqi (na_at hg na_nCs)) hA), fun U H hU => va_Zq.moved hU.1.alike (va_Zq.kept (va_Zqof (hts _ (List.mem_append_right _ (gt_3 (List.mem_of_getElem? (i := 223) rfl)))) (hts _ (List.mem_append_right _ (gt_1 (List.mem_of_getElem? (i := 19) rfl)))) (na_at hg na_nSi) hA) (fun a ha _ => hU.2 a ha))⟩
  · intro U H hU
    have hk := va_X.moved hU.1.alike (va_X.kept hX (hU.2 b hbl))
    refine ⟨hk, ?_, Nat.not_le.mpr hbl⟩
    obtain ⟨scr, h1, -⟩ := hk
    exact (Array.getElem?_eq_some_iff.mp h1).1
end FACTS
