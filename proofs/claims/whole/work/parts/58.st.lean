/-! what the start holds: the statics, the constants, the script, carried along (ST) -/
theorem fl_sg : ∀ i, i < 54 → Cond.laysStatic clSign (sgN.getD i "") "LGlacierCamp$Sign;" ∈ lw_tbl := by
  intro i hi
  match i, hi with
  | 0, _ => exact (List.mem_append_right _ (gt_8 (List.mem_of_getElem? (i := 208) rfl)))
  | 1, _ => exact (List.mem_append_right _ (gt_2 (List.mem_of_getElem? (i := 215) rfl)))
  | 2, _ => exact (List.mem_append_right _ (gt_2 (List.mem_of_getElem? (i := 227) rfl)))
  | 3, _ => exact (List.mem_append_right _ (gt_8 (List.mem_of_getElem? (i := 209) rfl)))
  | 4, _ => exact (List.mem_append_right _ (gt_3 (List.mem_of_getElem? (i := 5) rfl)))
  | 5, _ => exact (List.mem_append_right _ (gt_3 (List.mem_of_getElem? (i := 11) rfl)))
  | 6, _ => exact (List.mem_append_right _ (gt_8 (List.mem_of_getElem? (i := 210) rfl)))
  | 7, _ => exact (List.mem_append_right _ (gt_3 (List.mem_of_getElem? (i := 21) rfl)))
  | 8, _ => exact (List.mem_append_right _ (gt_3 (List.mem_of_getElem? (i := 23) rfl)))
  | 9, _ => exact (List.mem_append_right _ (gt_8 (List.mem_of_getElem? (i := 211) rfl)))
  | 10, _ => exact (List.mem_append_right _ (gt_3 (List.mem_of_getElem? (i := 33) rfl)))
  | 11, _ => exact (List.mem_append_right _ (gt_8 (List.mem_of_getElem? (i := 212) rfl)))
  | 12, _ => exact (List.mem_append_right _ (gt_3 (List.mem_of_getElem? (i := 43) rfl)))
  | 13, _ => exact (List.mem_append_right _ (gt_3 (List.mem_of_getElem? (i := 53) rfl)))
  | 14, _ => exact (List.mem_append_right _ (gt_3 (List.mem_of_getElem? (i := 55) rfl)))
  | 15, _ => exact (List.mem_append_right _ (gt_8 (List.mem_of_getElem? (i := 213) rfl)))
  | 16, _ => exact (List.mem_append_right _ (gt_8 (List.mem_of_getElem? (i := 214) rfl)))
  | 17, _ => exact (List.mem_append_right _ (gt_3 (List.mem_of_getElem? (i := 177) rfl)))
  | 18, _ => exact (List.mem_append_right _ (gt_3 (List.mem_of_getElem? (i := 179) rfl)))
  | 19, _ => exact (List.mem_append_right _ (gt_3 (List.mem_of_getElem? (i := 185) rfl)))
  | 20, _ => exact (List.mem_append_right _ (gt_3 (List.mem_of_getElem? (i := 187) rfl)))
  | 21, _ => exact (List.mem_append_right _ (gt_3 (List.mem_of_getElem? (i := 193) rfl)))
  | 22, _ => exact (List.mem_append_right _ (gt_3 (List.mem_of_getElem? (i := 84) rfl)))
  | 23, _ => exact (List.mem_append_right _ (gt_8 (List.mem_of_getElem? (i := 215) rfl)))
  | 24, _ => exact (List.mem_append_right _ (gt_8 (List.mem_of_getElem? (i := 216) rfl)))
  | 25, _ => exact (List.mem_append_right _ (gt_8 (List.mem_of_getElem? (i := 217) rfl)))
  | 26, _ => exact (List.mem_append_right _ (gt_8 (List.mem_of_getElem? (i := 218) rfl)))
  | 27, _ => exact (List.mem_append_right _ (gt_3 (List.mem_of_getElem? (i := 116) rfl)))
  | 28, _ => exact (List.mem_append_right _ (gt_3 (List.mem_of_getElem? (i := 118) rfl)))
  | 29, _ => exact (List.mem_append_right _ (gt_3 (List.mem_of_getElem? (i := 120) rfl)))
  | 30, _ => exact (List.mem_append_right _ (gt_3 (List.mem_of_getElem? (i := 102) rfl)))
  | 31, _ => exact (List.mem_append_right _ (gt_3 (List.mem_of_getElem? (i := 169) rfl)))
  | 32, _ => exact (List.mem_append_right _ (gt_3 (List.mem_of_getElem? (i := 171) rfl)))
  | 33, _ => exact (List.mem_append_right _ (gt_3 (List.mem_of_getElem? (i := 144) rfl)))
  | 34, _ => exact (List.mem_append_right _ (gt_3 (List.mem_of_getElem? (i := 146) rfl)))
  | 35, _ => exact (List.mem_append_right _ (gt_3 (List.mem_of_getElem? (i := 140) rfl)))
  | 36, _ => exact (List.mem_append_right _ (gt_3 (List.mem_of_getElem? (i := 142) rfl)))
  | 37, _ => exact (List.mem_append_right _ (gt_3 (List.mem_of_getElem? (i := 112) rfl)))
  | 38, _ => exact (List.mem_append_right _ (gt_3 (List.mem_of_getElem? (i := 114) rfl)))
  | 39, _ => exact (List.mem_append_right _ (gt_3 (List.mem_of_getElem? (i := 195) rfl)))
  | 40, _ => exact (List.mem_append_right _ (gt_3 (List.mem_of_getElem? (i := 148) rfl)))
  | 41, _ => exact (List.mem_append_right _ (gt_3 (List.mem_of_getElem? (i := 154) rfl)))
  | 42, _ => exact (List.mem_append_right _ (gt_3 (List.mem_of_getElem? (i := 138) rfl)))
  | 43, _ => exact (List.mem_append_right _ (gt_3 (List.mem_of_getElem? (i := 150) rfl)))
  | 44, _ => exact (List.mem_append_right _ (gt_3 (List.mem_of_getElem? (i := 152) rfl)))
  | 45, _ => exact (List.mem_append_right _ (gt_3 (List.mem_of_getElem? (i := 159) rfl)))
  | 46, _ => exact (List.mem_append_right _ (gt_3 (List.mem_of_getElem? (i := 161) rfl)))
  | 47, _ => exact (List.mem_append_right _ (gt_3 (List.mem_of_getElem? (i := 163) rfl)))
  | 48, _ => exact (List.mem_append_right _ (gt_3 (List.mem_of_getElem? (i := 165) rfl)))
  | 49, _ => exact (List.mem_append_right _ (gt_3 (List.mem_of_getElem? (i := 167) rfl)))
  | 50, _ => exact (List.mem_append_right _ (gt_2 (List.mem_of_getElem? (i := 73) rfl)))
  | 51, _ => exact (List.mem_append_right _ (gt_2 (List.mem_of_getElem? (i := 16) rfl)))
  | 52, _ => exact (List.mem_append_right _ (gt_1 (List.mem_of_getElem? (i := 60) rfl)))
  | 53, _ => exact (List.mem_append_right _ (gt_2 (List.mem_of_getElem? (i := 18) rfl)))
  | _ + 54, w => exact absurd w (by omega)
theorem aoA_moved {t : FieldType} {u U : State} (hvm : u.vm.Alike U.vm) (h : (Cond.arrayOver (.array t)).before #[] u = true) : (Cond.arrayOver (.array t)).before #[] U = true := by
  simp only [Cond.before, Cond.holds, Cond.value, beq_iff_eq] at h
  cases hc : u.vm.findClass (FieldType.array t).toString with
  | none => simp [hc] at h
  | some comp =>
    simp only [hc, Option.bind_some, Option.bind_eq_some_iff, Option.map_eq_some_iff] at h
    obtain ⟨c, hf, hh⟩ := h
    cases hk : u.vm.classes[c]? with
    | none => simp [hk] at hh
    | some k =>
      simp only [hk, Option.some.injEq, exists_eq_left'] at hh
      cases hkind : k.kind with
      | array component ty =>
        simp [hkind] at hh
        obtain ⟨k', hk', he⟩ := hvm.2.2 _ _ hk
        have hi : (U.vm.classes.findIdx? fun (x : Class) => match x.kind with | .array component _ => component == comp | _ => false) = some c := by
          refine (va_idx_bare U.vm comp).symm.trans ?_
          first | rw [hvm.bare_eq] | rw [← hvm.bare_eq]
          exact (va_idx_bare u.vm comp).trans hf
        have hkind2 : k'.kind = .array component ty := by rw [he]; exact hkind
        have f1 : U.vm.findClass (FieldType.array t).toString = some comp := by rw [hvm.findClass]; exact hc
        have f2 : U.vm.findClass ("[" ++ (FieldType.array t).toString) = some c := by rw [hvm.findClass]; exact hh.2
        unfold Cond.before Cond.holds
        simp only [Cond.value]
        rw [f1, Option.bind_some]
        refine (congrArg (fun o : Option Nat => (o.bind (fun c => (U.vm.classes[c]?).map fun (k : Class) => match k.kind with | .array _ ty => decide (ty = FieldType.array t) && decide (U.vm.findClass ("[" ++ (FieldType.array t).toString) = some c) | _ => false) == some true)) hi).trans ?_
        simp [hk', hkind2, f2, hh.1]
      | _ => simp [hkind] at hh
theorem aoA_any {t : FieldType} {A A' : Array Value} {u : State} (h : (Cond.arrayOver (.array t)).before A u = true) : (Cond.arrayOver (.array t)).before A' u = true := by
  simpa only [Cond.before, Cond.holds, Cond.value] using h
theorem ao_any {C : String} {A : Array Value} {u : State} (h : (Cond.arrayOver (.object C)).before A u = true) : va_AO C u := by
  unfold va_AO
  simpa only [Cond.before, Cond.holds, Cond.value] using h
section FACTS
variable {s : State} {args : Array Value} {l : Launch} {D : va_G} {kf : Nat → ClassId}
theorem ev_str (hg : (Jvm.Cond.and given_1 narrow_1).before args s = true) {own : String} {k i : Nat} (h : NA[i]? = some (.exactly (.string own k) "java/lang/String")) : ∃ a : Nat, (Term.string own k).eval args s none [] s = some (.ref a) := by
  obtain ⟨a, c, cell, kk, q1, -⟩ := Cond.exactly_spec (na_at hg h)
  exact ⟨a, q1⟩
theorem st_str (hg : (Jvm.Cond.and given_1 narrow_1).before args s = true) {own : String} {k i : Nat} {w : List Int32} (h : naS own k i w) {a : Nat} (ht : (Term.string own k).eval args s none [] s = some (.ref a)) : StOk (gOf l D kf s) a w := by
  have hA : ∀ a : Nat, a < s.heap.size → ¬ (fun q : Nat => s.heap.size ≤ q) a := fun a h => Nat.not_le.mpr h
  obtain ⟨h0, h1, h2, h3, h4, h5⟩ := h
  obtain ⟨t, e1, e2⟩ := va_Tof (N := w.length) (f := fun j => .int (w.getD j 0)) (by omega) (na_at hg h3) (va_eqt (na_at hg h4)) (fun j hj => va_eqt (na_at hg (h5 j hj))) hA
  exact ⟨h0, SF.of va_O.moved va_O.kept (va_Oof (na_at hg h1) ht hA), SF.of va_OF.moved va_OF.kept (vk_OFof ht (va_eqt (na_at hg h2)) hA), t, SF.of va_OF.moved va_OF.kept (vk_OFof ht e1 hA), SF.of va_T.moved va_T.kept e2⟩
theorem ev_sg (hg : (Jvm.Cond.and given_1 narrow_1).before args s = true) : ∃ sg : Nat → Nat, ∀ i, i < 54 → (fSt i).eval args s none [] s = some (.ref (sg i)) := by
  refine Classical.axiomOfChoice (r := fun i a => i < 54 → (fSt i).eval args s none [] s = some (.ref a)) fun i => ?_
  by_cases hi : i < 54
  · obtain ⟨a, c, cell, k, q1, -⟩ := Cond.exactly_spec (na_at hg (na_ex i hi))
    exact ⟨a, fun _ => q1⟩
  · exact ⟨0, fun h => absurd h hi⟩
theorem ev_strs (hg : (Jvm.Cond.and given_1 narrow_1).before args s = true) {own : String} {n : Nat} {ks is : Nat → Nat} (h : ∀ i, i < n → NA[is i]? = some (.exactly (.string own (ks i)) "java/lang/String")) : ∃ tx : Nat → Nat, ∀ i, i < n → (Term.string own (ks i)).eval args s none [] s = some (.ref (tx i)) := by
  refine Classical.axiomOfChoice (r := fun i a => i < n → (Term.string own (ks i)).eval args s none [] s = some (.ref a)) fun i => ?_
  by_cases hi : i < n
  · obtain ⟨a, q⟩ := ev_str hg (h i hi)
    exact ⟨a, fun _ => q⟩
  · exact ⟨0, fun h => absurd h hi⟩
theorem sg_ne (hg : (Jvm.Cond.and given_1 narrow_1).before args s = true) {sg : Nat → Nat} (h : ∀ i, i < 54 → (fSt i).eval args s none [] s = some (.ref (sg i))) : SgNe sg := by
  intro i j hi hj e
  have h1 := va_eqt (na_at hg (na_or i hi))
  have h2 := va_eqt (na_at hg (na_or j hj))
  rw [va_fe (h i hi)] at h1
  rw [va_fe (h j hj), ← e, h1] at h2
  have h3 : sgO.getD i 0 = sgO.getD j 0 := by injection h2 with h2; injection h2
  rw [sgO_at ⟨i, hi⟩, sgO_at ⟨j, hj⟩] at h3
  have h4 := congrArg Int32.toNatClampNeg h3
  rwa [nI_clamp (by show i < 2 ^ 31; omega), nI_clamp (by show j < 2 ^ 31; omega)] at h4
theorem sg_ok (hg : (Jvm.Cond.and given_1 narrow_1).before args s = true) (hts : ∀ w ∈ lw_tbl, w.before args s = true) {sg : Nat → Nat} (h : ∀ i, i < 54 → (fSt i).eval args s none [] s = some (.ref (sg i))) : SgOk (gOf l D kf s) sg := by
  have hA : ∀ a : Nat, a < s.heap.size → ¬ (fun q : Nat => s.heap.size ≤ q) a := fun a h => Nat.not_le.mpr h
  refine SF.of va_En.moved va_En.kept ⟨fun i hi => ⟨va_Zref (hts _ (fl_sg i hi)) (hts _ (List.mem_append_right _ (gt_1 (List.mem_of_getElem? (i := 5) rfl)))) (h i hi) hA, va_Oof (na_at hg (na_ex i hi)) (h i hi) hA, fun q hq => ?_⟩, sg_ne hg h⟩
  rcases List.mem_cons.mp hq with rfl | hq
  · exact vk_OFof (h i hi) (va_eqt (na_at hg (na_or i hi))) hA
  · rcases List.mem_cons.mp hq with rfl | hq
    · exact vk_OFof (h i hi) (va_eqt (na_at hg (na_tk i hi))) hA
    · cases hq
theorem st_of (hg : (Jvm.Cond.and given_1 narrow_1).before args s = true) (hts : ∀ w ∈ lw_tbl, w.before args s = true) {b L : Nat} {xs : Nat → Int32} (hX : va_X b L xs s s.heap) (hbl : b < s.heap.size) : ∃ (sg tx wd ms : Nat → Nat) (sw sa wa sn : Nat), ST (gOf l D kf s) sg tx wd ms sw sa wa sn b L xs := by
  have hA : ∀ a : Nat, a < s.heap.size → ¬ (fun q : Nat => s.heap.size ≤ q) a := fun a h => Nat.not_le.mpr h
  obtain ⟨sg, hsg⟩ := ev_sg hg
  obtain ⟨tx, htx⟩ := ev_strs hg (own := clSign) (n := 54) (ks := fun i => fxTs.getD i 0) (is := fun i => fxTi.getD i 0) (fun i hi => (na_ts i hi).2.1)
  obtain ⟨wd, hwd⟩ := ev_strs hg (own := "GlacierCampModel") (n := 35) (ks := fun i => fxWs.getD i 0) (is := fun i => fxWi.getD i 0) (fun i hi => (na_ws i hi).2.1)
  obtain ⟨m0, hm0⟩ := ev_strs hg (own := "GlacierCamp") (n := 10) (ks := fun i => fxMs.getD i 0) (is := fun i => fxMi.getD i 0) na_ms
  obtain ⟨sn, hsn⟩ := ev_str hg na_sn.2.1
  obtain ⟨sw, e1, e2⟩ := va_Tof (N := 54) (f := fun j => .int (swf j)) (by decide) (na_at hg na_n83) (va_eqt (na_at hg na_n84)) (fun j hj => va_eqt (na_at hg (na_sw j hj))) hA
  obtain ⟨sa, e3, e4⟩ := va_Tof (N := 54) (f := fun j => .ref (sg j)) (by decide) (na_at hg na_n16) (va_eqt (na_at hg na_n17)) (fun j hj => va_eqv (na_at hg (na_sa j hj)) (hsg j hj)) hA
  obtain ⟨wa, e5, e6⟩ := va_Tof (N := 35) (f := fun j => .ref (wd j)) (by decide) (na_at hg na_n298) (va_eqt (na_at hg na_n299)) (fun j hj => va_eqv (na_at hg (na_wd j hj)) (hwd j hj)) hA
  refine ⟨sg, tx, wd, fun k => if k = 53 then m0 0 else if k = 64 then m0 1 else if k = 155 then m0 2 else if k = 158 then m0 3 else if k = 160 then m0 4 else if k = 166 then m0 5 else if k = 172 then m0 6 else if k = 181 then m0 7 else if k = 211 then m0 8 else if k = 223 then m0 9 else 0, sw, sa, wa, sn, sg_ok hg hts hsg, sg_ne hg hsg, ⟨SF.of va_Z.moved va_Z.kept (va_Zref (hts _ (List.mem_append_right _ (gt_2 (List.mem_of_getElem? (i := 161) rfl)))) (hts _ (List.mem_append_right _ (gt_1 (List.mem_of_getElem? (i := 24) rfl)))) e1 hA), SF.of va_T.moved va_T.kept e2⟩, ?_, ?_, ?_, ?_, fun i hi => ⟨SF.of va_OF.moved va_OF.kept (vk_OFof (hsg i hi) (va_eqv (na_at hg (na_tx i hi)) (htx i hi)) hA), st_str hg (na_ts i hi) (htx i hi)⟩, ⟨SF.of va_Z.moved va_Z.kept (va_Zref (hts _ (List.mem_append_right _ (gt_2 (List.mem_of_getElem? (i := 20) rfl)))) (hts _ (List.mem_append_right _ (gt_1 (List.mem_of_getElem? (i := 3) rfl)))) e3 hA), SF.of va_T.moved va_T.kept e4⟩, ⟨SF.of va_Z.moved va_Z.kept (va_Zref (hts _ (List.mem_append_right _ (gt_7 (List.mem_of_getElem? (i := 16) rfl)))) (hts _ (List.mem_append_right _ (gt_1 (List.mem_of_getElem? (i := 10) rfl)))) e5 hA), SF.of va_T.moved va_T.kept e6, fun i hi => st_str hg (na_ws i hi) (hwd i hi)⟩, ⟨SF.ofW vk_R.warm (vk_R.of (hts _ (List.mem_append_right _ (gt_7 (List.mem_of_getElem? (i := 19) rfl)))) hsn), st_str hg na_sn hsn⟩, ⟨SF.ofU va_AO.moved (ao_any (hts _ (List.mem_append_right _ (gt_1 (List.mem_of_getElem? (i := 58) rfl))))), SF.ofU aoA_moved (aoA_any (hts _ (List.mem_append_right _ (gt_7 (List.mem_of_getElem? (i := 189) rfl)))))⟩, ?_⟩
  · intro k t hk
    simp only [msL, List.mem_cons, Prod.mk.injEq, List.not_mem_nil, or_false] at hk
    rcases hk with ⟨rfl, rfl⟩ | ⟨rfl, rfl⟩ | ⟨rfl, rfl⟩ | ⟨rfl, rfl⟩ | ⟨rfl, rfl⟩ | ⟨rfl, rfl⟩ | ⟨rfl, rfl⟩ | ⟨rfl, rfl⟩ | ⟨rfl, rfl⟩ | ⟨rfl, rfl⟩
    · exact SF.ofW vk_R.warm (vk_R.of (hts _ (List.mem_append_right _ (gt_4 (List.mem_of_getElem? (i := 84) rfl)))) (hm0 0 (by decide)))
    · exact SF.ofW vk_R.warm (vk_R.of (hts _ (List.mem_append_right _ (gt_4 (List.mem_of_getElem? (i := 131) rfl)))) (hm0 1 (by decide)))
    · exact SF.ofW vk_R.warm (vk_R.of (hts _ (List.mem_append_right _ (gt_4 (List.mem_of_getElem? (i := 179) rfl)))) (hm0 2 (by decide)))
    · exact SF.ofW vk_R.warm (vk_R.of (hts _ (List.mem_append_right _ (gt_4 (List.mem_of_getElem? (i := 158) rfl)))) (hm0 3 (by decide)))
    · exact SF.ofW vk_R.warm (vk_R.of (hts _ (List.mem_append_right _ (gt_5 (List.mem_of_getElem? (i := 31) rfl)))) (hm0 4 (by decide)))
    · exact SF.ofW vk_R.warm (vk_R.of (hts _ (List.mem_append_right _ (gt_5 (List.mem_of_getElem? (i := 8) rfl)))) (hm0 5 (by decide)))
    · exact SF.ofW vk_R.warm (vk_R.of (hts _ (List.mem_append_right _ (gt_5 (List.mem_of_getElem? (i := 20) rfl)))) (hm0 6 (by decide)))
    · exact SF.ofW vk_R.warm (vk_R.of (hts _ (List.mem_append_right _ (gt_5 (List.mem_of_getElem? (i := 47) rfl)))) (hm0 7 (by decide)))
    · exact SF.ofW vk_R.warm (vk_R.of (hts _ (List.mem_append_right _ (gt_5 (List.mem_of_getElem? (i := 172) rfl)))) (hm0 8 (by decide)))
    · exact SF.ofW vk_R.warm (vk_R.of (hts _ (List.mem_append_right _ (gt_5 (List.mem_of_getElem? (i := 190) rfl)))) (hm0 9 (by decide)))
  · exact ⟨fun U H hU => vx_Zq.moved hU.1.alike (vx_Zq.kept (vx_Zqof (hts _ (List.mem_append_right _ (gt_4 (List.mem_of_getElem? (i := 70) rfl)))) (hts _ (List.mem_append_right _ (gt_1 (List.mem_of_getElem? (i := 13) rfl)))) (na_at hg na_n295) hA) (fun a ha _ => hU.2 a ha)), fun U H hU => vx_Zq.moved hU.1.alike (vx_Zq.kept (vx_Zqof (hts _ (List.mem_append_right _ (gt_4 (List.mem_of_getElem? (i := 72) rfl)))) (hts _ (List.mem_append_right _ (gt_1 (List.mem_of_getElem? (i := 13) rfl)))) (na_at hg na_n296) hA) (fun a ha _ => hU.2 a ha))⟩
  · exact fun U H hU => ⟨va_Nc.moved hU.1.alike (va_Nc.of (na_at hg na_n420)), va_Nc.moved hU.1.alike (va_Nc.of (na_at hg na_n421)), va_Nc.moved hU.1.alike (va_Nc.of (na_at hg na_n405)), va_Nc.moved hU.1.alike (va_Nc.of (na_at hg na_n408))⟩
  · exact ⟨SF.of va_Z.moved va_Z.kept (va_Zof (hts _ (List.mem_append_right _ (gt_2 (List.mem_of_getElem? (i := 33) rfl)))) (hts _ (List.mem_append_right _ (gt_1 (List.mem_of_getElem? (i := 18) rfl)))) (va_eqi (na_at hg na_n73)) hA), fun U H hU => va_Zq.moved hU.1.alike (va_Zq.kept (va_Zqof (hts _ (List.mem_append_right _ (gt_2 (List.mem_of_getElem? (i := 49) rfl)))) (hts _ (List.mem_append_right _ (gt_1 (List.mem_of_getElem? (i := 20) rfl)))) (na_at hg na_n74) hA) (fun a ha _ => hU.2 a ha))⟩
  · intro U H hU
    have hk := va_X.moved hU.1.alike (va_X.kept hX (hU.2 b hbl))
    refine ⟨hk, ?_, Nat.not_le.mpr hbl⟩
    obtain ⟨scr, h1, -⟩ := hk
    exact (Array.getElem?_eq_some_iff.mp h1).1
end FACTS
