/-! the lines that tell what there is -/
theorem line_band {K : TK} {H : SH} {n : Nat} {M : MO} {d : Int32} {t : Nat} {F : FM} {E : TE} {N0 N1 N2 N3 N4 : NM} {T : TM} {σ : GL} {M1 : MO} (hX : LX K H n) (hW : LW (mo_tk' M n) K (sh_fr H) (sh_mn H) n) (ht : t < n) (hg : gk K t = 0) : LINE K H n M d t F E (NN N0 N1 N2 N3 N4) T σ M1 (s_Tokens_expect (s_Teacher_readBand (tA K t) F E N0 N1 N2 N3 N4 T σ).1 39) F (s_Teacher_readBand (tA K t) F E N0 N1 N2 N3 N4 T σ).2.1 (NN (s_Teacher_readBand (tA K t) F E N0 N1 N2 N3 N4 T σ).2.2.1 N1 N2 N3 N4) T (s_Teacher_readBand (tA K t) F E N0 N1 N2 N3 N4 T σ).2.2.2 (isL H (mS M1 t 0)) := by
  have h400 := hX.1
  obtain ⟨low, elow⟩ : ∃ z, z = (if 0 ≤ ((nI (gN σ 0)) - 1) then (gG σ 0 ((nI (gN σ 0)) - 1) 0) + 1 else 0) := ⟨_, rfl⟩
  rw [readBand_eq elow]
  obtain ⟨a, ea⟩ : ∃ z, z = s_Teacher_newName (tA K t) E N0 5 := ⟨_, rfl⟩
  rw [← ea]
  obtain ⟨b, eb⟩ : ∃ z, z = s_Teacher_number a.1 a.2.1 1 low 20 := ⟨_, rfl⟩
  rw [← eb]
  obtain ⟨c, ec⟩ : ∃ z, z = s_Teacher_number b.2.1 b.2.2 2 0 300 := ⟨_, rfl⟩
  rw [← ec]
  obtain ⟨s1, es1⟩ : ∃ z, z = nx K 0 50 (true, t) := ⟨_, rfl⟩
  have l1 : t ≤ s1.2 ∧ s1.2 ≤ n := by rw [es1]; exact nx_le (s := (true, t)) hX (by decide) (by decide) (Nat.le_of_lt ht)
  obtain ⟨s2, es2⟩ : ∃ z, z = nx K 1 51 s1 := ⟨_, rfl⟩
  have l2 : s1.2 ≤ s2.2 ∧ s2.2 ≤ n := by rw [es2]; exact nx_le hX (by decide) (by decide) l1.2
  obtain ⟨s3, es3⟩ : ∃ z, z = nx K 2 51 s2 := ⟨_, rfl⟩
  have l3 : s2.2 ≤ s3.2 ∧ s3.2 ≤ n := by rw [es3]; exact nx_le hX (by decide) (by decide) l2.2
  obtain ⟨s4, es4⟩ : ∃ z, z = nx1 K 39 s3 := ⟨_, rfl⟩
  have l4 : s3.2 ≤ s4.2 ∧ s4.2 ≤ n := by rw [es4]; exact nx1_le hX (by decide) l3.2
  have ka : a.1 = st K s1 := by rw [ea, new_st hX ht, hg, es1]; rfl
  have kb : b.2.1 = st K s2 := by rw [eb, ka, es2]; exact num_st hX (by decide) l1.2
  have kc : c.2.1 = st K s3 := by rw [ec, kb, es3]; exact num_st hX (by decide) l2.2
  have ke : s_Tokens_expect c.2.1 39 = st K s4 := by rw [kc, es4]; exact exp_st hX (by decide) l3.2
  have hm : isL H (mS M1 t 0) = md s4 M1 := by
    have hl : s_Model_isLine H (mS M1 t 0) = md s3 M1 := by
      unfold s_Model_isLine
      rw [if_pos (show mo_tk (mS M1 t 0) < 401 by show t < 401; omega), show sh_kd H (mo_tk (mS M1 t 0)) = 0 by (show sh_kd H t = _; rw [(hX.2.2 t (by omega)).2.1, hg]; rfl), if_pos (show (0 : Int32) = 0 from rfl)]
      rw [isNam_md hX (Nat.le_of_lt ht) (k := 0) (y := 0) (by decide) rfl, ← es1, md_num hX l1.2 (k := 1) (y := 1) (by decide) rfl, ← es2, md_num hX l2.2 (k := 2) (y := 2) (by decide) rfl, ← es3, md_end]
    unfold isL
    rw [hl, md_eat hX l3.2 (k := 44) (y := 39) (by decide) rfl, ← es4, md_end]
  refine ⟨s4, 0, ke, hm, by omega, by omega, fun hok => ?_⟩
  obtain ⟨o3, g39, p4⟩ : s3.1 = true ∧ (gk K s3.2).val = 39 ∧ s4.2 = s3.2 + 1 := by rw [es4] at hok ⊢; exact nx1_true hok
  obtain ⟨o2, x3, y3, p3⟩ : s2.1 = true ∧ (gk K s2.2).val = 2 ∧ (gk K (s2.2 + 1)).val = 51 ∧ s3.2 = s2.2 + 2 := by rw [es3] at o3 ⊢; exact nx_true o3
  obtain ⟨o1, x2, y2, p2⟩ : s1.1 = true ∧ (gk K s1.2).val = 1 ∧ (gk K (s1.2 + 1)).val = 51 ∧ s2.2 = s1.2 + 2 := by rw [es2] at o2 ⊢; exact nx_true o2
  obtain ⟨-, x1, y1, p1⟩ : true = true ∧ (gk K t).val = 0 ∧ (gk K (t + 1)).val = 50 ∧ s1.2 = t + 2 := by rw [es1] at o1 ⊢; exact nx_true o1
  replace p2 : s2.2 = t + 4 := by omega
  rw [p1] at x2 y2
  replace y2 : (gk K (t + 3)).val = 51 := y2
  replace p3 : s3.2 = t + 6 := by omega
  rw [p2] at x3 y3
  replace y3 : (gk K (t + 5)).val = 51 := y3
  replace p4 : s4.2 = t + 7 := by omega
  rw [p3] at g39
  replace ka : a.1 = tA K (t + 2) := by rw [ka]; unfold st; rw [if_pos o1, p1]
  replace kb : b.2.1 = tA K (t + 4) := by rw [kb]; unfold st; rw [if_pos o2, p2]
  refine ⟨rfl, by omega, by rw [show s4.2 - 1 = t + 6 by omega]; exact g39, fun hE => ?_, fun hE H1 hL h0 => ?_⟩
  · have z1 : a.2.1 = E := by rw [ea]; exact new_sticky hE
    have z2 : b.2.2 = E := by rw [eb, z1]; exact num_sticky hE
    have z3 : c.2.2 = E := by rw [ec, z2]; exact num_sticky hE
    exact z3
  · obtain ⟨lS, lN, lC, lG, lV, lO, aa, la1, la2⟩ := hL
    obtain ⟨c0, c3, c6, c9, c11, c20⟩ := lC
    obtain ⟨lG0, lG1, lG2, lG3, lG4, lG5, lG6, lG7⟩ := lG
    obtain ⟨lV0, lV1, lV2, lV3, lV4, lV5⟩ := lV
    have r0 := start_k (M := M) hX ht lS h0 hg (by decide)
    obtain ⟨Ha, eHa⟩ : ∃ z, z = sh_ln' H1 (kOf 0) := ⟨_, rfl⟩
    rw [← eHa] at r0
    have sa := sh_set_ln eHa
    have Sa : SameT H Ha := by unfold SameT; simp only [sa]; exact lS
    have na : NRel K Ha (NN N0 N1 N2 N3 N4) n := lN.congr (by simp only [sa]) (by simp only [sa])
    have haa : sh_ha Ha = sh_ha H1 := by simp only [sa]
    have er_ : ∀ p Hx E2, ERR K M n p Hx E2 → RDm M n t H1 = RDm M n p Hx → c.2.2 = E2 → ERR K M n t H1 c.2.2 ∨ (c.2.2 = E ∧ ∃ H2, RDm M n t H1 = RDm M n s4.2 H2 ∧ LREL K H n d s4.2 F (NN a.2.2 N1 N2 N3 N4) T (s_Glacier_addBand σ b.1 c.1) H2) := fun p Hx E2 w1 w2 w3 => .inl (w1.back w2 w3)
    rcases new_step (M := M) (i := 0) hX hW (show t + 1 < n by omega) Sa na (by decide) (by rw [haa]; exact c0) (by rw [hg]; rfl) y1 hE with er | ⟨u1, u2, u3⟩
    · refine er_ (t + 1) Ha _ er (r0) ?_
      have w0 : ¬ te_er a.2.1 = 0 := by rw [show a.2.1 = (s_Teacher_newName (tA K t) E (NN N0 N1 N2 N3 N4 0) (nI (mst 0))).2.1 by rw [ea]; rfl]; exact ne_le er.1
      have w1 : b.2.2 = a.2.1 := by rw [eb]; exact num_sticky w0
      have w2 : c.2.2 = a.2.1 := by rw [ec, w1]; exact num_sticky w0
      rw [w2, show a.2.1 = (s_Teacher_newName (tA K t) E (NN N0 N1 N2 N3 N4 0) (nI (mst 0))).2.1 by rw [ea]; rfl]
    have a2 : a.2 = (E, s_Names_add N0 (tk_wo K (t + 1))) := by rw [ea]; exact u2
    obtain ⟨Hb0, eHb0⟩ : ∃ z, z = sh_na' Ha (updN (sh_na Ha) (6 * srt 0 + sh_ha Ha (srt 0)) (t + 1)) := ⟨_, rfl⟩
    rw [← eHb0] at u3
    obtain ⟨Hb, eHb⟩ : ∃ z, z = sh_ha' Hb0 (updN (sh_ha Ha) (srt 0) (sh_ha Ha (srt 0) + 1)) := ⟨_, rfl⟩
    rw [← eHb] at u3
    have sb0 := sh_set_na eHb0
    have sb := sh_set_ha eHb
    have Sb : SameT H Hb := by unfold SameT; simp only [sb, sb0, sa]; exact lS
    have nb : NRel K Hb (NN (s_Names_add N0 (tk_wo K (t + 1))) N1 N2 N3 N4) n := nrel_add (N := NN N0 N1 N2 N3 N4) (i := 0) (x := t + 1) na (by decide) u1 (by omega) y1 rfl (fun j hj hne => by
      match j, hj, hne with
      | 0, _, h => exact absurd rfl h
      | 1, _, h => rfl
      | 2, _, h => rfl
      | 3, _, h => rfl
      | 4, _, h => rfl
      | _ + 5, w, _ => exact absurd w (by omega)) (by simp only [sb, sb0]) (by simp only [sb, sb0])
    obtain ⟨r, er0⟩ : ∃ z, z = sh_ha H1 0 := ⟨_, rfl⟩
    have hr : sh_ha Hb 0 = r + 1 := by
      simp only [sb]
      rw [haa, er0]
      exact updN_at _ _ _
    have hr5 : r < 5 := by rw [er0, ← haa]; exact u1
    have hao : ∀ k, k ≠ 0 → sh_ha Hb k = sh_ha H1 k := fun k hk => by
      simp only [sb]
      rw [haa]
      exact updN_ne _ _ hk
    have R1 := r0.trans u3
    have E1 : a.2.1 = E := by rw [a2]
    have Nb := neu_k (M := M) (g := 1) hX (show t + 2 < n by omega) Sb (by omega) (by rw [show t + 2 - 1 = t + 1 by omega]; omega) (Fin.ext x2) (by decide)
    obtain ⟨v0, va0, vb0, vc0⟩ := hW.2 (t + 3) (by omega) y2 Hb Sb.2.1 Sb.2.2
    obtain ⟨lo, hlo, hlo2, hlo3⟩ : ∃ lo, lo < 2 ^ 31 ∧ low = nI lo ∧ nI lo = if r = 0 then 0 else sh_hg Hb (r - 1) + 1 := by
      have hgn : gN σ 0 = r := lG0.1.trans er0.symm
      have hhg : sh_hg Hb = sh_hg H1 := by simp only [sb, sb0, sa]
      rw [elow, hgn, hhg]
      by_cases z : r = 0
      · rw [if_pos z, z, if_neg (by decide)]
        exact ⟨0, by decide, rfl, rfl⟩
      · rw [nI_pred1 (by omega), if_pos (nI_pos' (by omega)), if_neg z]
        have q := (lG0.2 (r - 1) (by omega)).1
        obtain ⟨k, k1, -, k3⟩ := (lV0 (r - 1) (by omega)).2
        refine ⟨k + 1, by omega, ?_, ?_⟩
        · show tgI (σ.1 0) (nI (r - 1)) 0 + 1 = _
          rw [tgI_at (by show r - 1 < gN σ 0; omega) (by show gN σ 0 < _; omega), q, k1, nI_1]
        · rw [k1, nI_1]
    have HR0 : sh_ha Hb 0 = r + 1 := hr
    have eb_ := en_1 (M := mo_tk' M n) (i := t + 3) (v := v0) (by omega) (by omega) (by rw [show t + 3 - 1 = t + 2 by omega, Sb.1, (hX.2.2 (t + 2) (by omega)).2.1, show gk K (t + 2) = 1 from Fin.ext x2]; rfl) (by rw [Sb.1, (hX.2.2 (t + 3) (by omega)).2.1, show gk K (t + 3) = 51 from Fin.ext y2]; rfl) vb0 HR0 hr5 hlo3
    have db : b = s_Teacher_number (tA K (t + 2)) E (gk K (t + 2)) (nI lo) (nI 20) := by rw [eb, ka, E1, show gk K (t + 2) = 1 from Fin.ext x2]; rw [hlo2]; rfl
    rcases num_step (M := M) (Ha := Hb) (Hw := sh_hg' (sh_me' Hb (upd (sh_me Hb) (t + 3) (nI v0))) (upd (sh_hg Hb) r (nI v0))) (t := t + 2) (k := v0) (l := lo) (h := 20) (E := E) hX (show t + 2 + 1 < n by omega) Sb (by omega) (by decide) va0 vc0 y2 hE rfl eb_ with er | ⟨n0a, n0b, n0c, n0d, n0e⟩
    · refine er_ (t + 2 + 1) Hb _ er ((R1.trans Nb)) ?_
      have w0 : ¬ te_er b.2.2 = 0 := by rw [show b.2.2 = (s_Teacher_number (tA K (t + 2)) E (gk K (t + 2)) (nI lo) (nI 20)).2.2 by rw [db]]; exact ne_le er.1
      have w2 : c.2.2 = b.2.2 := by rw [ec]; exact num_sticky w0
      rw [w2, show b.2.2 = (s_Teacher_number (tA K (t + 2)) E (gk K (t + 2)) (nI lo) (nI 20)).2.2 by rw [db]]
    have qb : b.1 = nI v0 := by rw [db]; exact n0c
    have E2 : b.2.2 = E := by rw [db]; exact n0d
    obtain ⟨Hc0, eHc0⟩ : ∃ z, z = sh_me' Hb (upd (sh_me Hb) (t + 3) (nI v0)) := ⟨_, rfl⟩
    obtain ⟨Hc, eHc⟩ : ∃ z, z = sh_hg' Hc0 (upd (sh_hg Hb) r (nI v0)) := ⟨_, rfl⟩
    have n0f : RDm M n (t + 3) Hb = RDm M n (t + 4) Hc := by rw [eHc, eHc0]; exact n0e
    have tb := sh_set_hg eHc
    have tb0 := sh_set_me eHc0
    have Sb : SameT H Hc := by unfold SameT; simp only [tb, tb0, sb, sb0, sa]; exact lS
    have nb_ : NRel K Hc (NN (s_Names_add N0 (tk_wo K (t + 1))) N1 N2 N3 N4) n := nb.congr (by simp only [tb, tb0]) (by simp only [tb, tb0])
    have R2 := (R1.trans Nb).trans n0f
    have Nc := neu_k (M := M) (g := 2) hX (show t + 4 < n by omega) Sb (by omega) (by rw [show t + 4 - 1 = t + 3 by omega]; omega) (Fin.ext x3) (by decide)
    obtain ⟨v1, va1, vb1, vc1⟩ := hW.2 (t + 5) (by omega) y3 Hc Sb.2.1 Sb.2.2
    have HR1 : sh_ha Hc 0 = r + 1 := by simp only [tb, tb0]; exact hr
    have ec_ := en_2 (M := mo_tk' M n) (i := t + 5) (v := v1) (by omega) (by omega) (by rw [show t + 5 - 1 = t + 4 by omega, Sb.1, (hX.2.2 (t + 4) (by omega)).2.1, show gk K (t + 4) = 2 from Fin.ext x3]; rfl) (by rw [Sb.1, (hX.2.2 (t + 5) (by omega)).2.1, show gk K (t + 5) = 51 from Fin.ext y3]; rfl) vb1 HR1 hr5
    have dc : c = s_Teacher_number (tA K (t + 4)) E (gk K (t + 4)) (nI 0) (nI 300) := by rw [ec, kb, E2, show gk K (t + 4) = 2 from Fin.ext x3]; rfl
    rcases num_step (M := M) (Ha := Hc) (Hw := sh_sn' (sh_me' Hc (upd (sh_me Hc) (t + 5) (nI v1))) (upd (sh_sn Hc) r (nI v1))) (t := t + 4) (k := v1) (l := 0) (h := 300) (E := E) hX (show t + 4 + 1 < n by omega) Sb (by omega) (by decide) va1 vc1 y3 hE rfl ec_ with er | ⟨n1a, n1b, n1c, n1d, n1e⟩
    · refine er_ (t + 4 + 1) Hc _ er ((R2.trans Nc)) ?_
      have w0 : ¬ te_er c.2.2 = 0 := by rw [show c.2.2 = (s_Teacher_number (tA K (t + 4)) E (gk K (t + 4)) (nI 0) (nI 300)).2.2 by rw [dc]]; exact ne_le er.1
      rw [show c.2.2 = (s_Teacher_number (tA K (t + 4)) E (gk K (t + 4)) (nI 0) (nI 300)).2.2 by rw [dc]]
    have qc : c.1 = nI v1 := by rw [dc]; exact n1c
    have E3 : c.2.2 = E := by rw [dc]; exact n1d
    obtain ⟨Hd0, eHd0⟩ : ∃ z, z = sh_me' Hc (upd (sh_me Hc) (t + 5) (nI v1)) := ⟨_, rfl⟩
    obtain ⟨Hd, eHd⟩ : ∃ z, z = sh_sn' Hd0 (upd (sh_sn Hc) r (nI v1)) := ⟨_, rfl⟩
    have n1f : RDm M n (t + 5) Hc = RDm M n (t + 6) Hd := by rw [eHd, eHd0]; exact n1e
    have tc := sh_set_sn eHd
    have tc0 := sh_set_me eHd0
    have Sc : SameT H Hd := by unfold SameT; simp only [tc, tc0, tb, tb0, sb, sb0, sa]; exact lS
    have nc_ : NRel K Hd (NN (s_Names_add N0 (tk_wo K (t + 1))) N1 N2 N3 N4) n := nb_.congr (by simp only [tc, tc0]) (by simp only [tc, tc0])
    have R3 := (R2.trans Nc).trans n1f
    have NZ := neu_k (M := M) (g := 39) hX (show t + 6 < n by omega) Sc (by omega) (by rw [show t + 6 - 1 = t + 5 by omega]; omega) (Fin.ext g39) (by decide)
    have fha : sh_ha Hd = sh_ha Hb := by simp only [tc, tc0, tb, tb0]
    have har : sh_ha Hd 0 = r + 1 := by rw [fha]; exact hr
    have hak : ∀ k, k ≠ 0 → sh_ha Hd k = sh_ha H1 k := fun k hk => by rw [fha]; exact hao k hk
    have fhg : sh_hg Hd = upd (sh_hg H1) r (nI v0) := by simp only [tc, tc0, tb, tb0, sb, sb0, sa]
    have fsn : sh_sn Hd = upd (sh_sn H1) r (nI v1) := by simp only [tc, tc0, tb, tb0, sb, sb0, sa]
    have fsi : sh_si Hd = sh_si H1 := by simp only [tc, tc0, tb, tb0, sb, sb0, sa]
    have fdp : sh_dp Hd = sh_dp H1 := by simp only [tc, tc0, tb, tb0, sb, sb0, sa]
    have fab : sh_ab Hd = sh_ab H1 := by simp only [tc, tc0, tb, tb0, sb, sb0, sa]
    have fbr : sh_br Hd = sh_br H1 := by simp only [tc, tc0, tb, tb0, sb, sb0, sa]
    have fdi : sh_di Hd = sh_di H1 := by simp only [tc, tc0, tb, tb0, sb, sb0, sa]
    have ffo : sh_fo Hd = sh_fo H1 := by simp only [tc, tc0, tb, tb0, sb, sb0, sa]
    have fsz : sh_sz Hd = sh_sz H1 := by simp only [tc, tc0, tb, tb0, sb, sb0, sa]
    have fsk : sh_sk Hd = sh_sk H1 := by simp only [tc, tc0, tb, tb0, sb, sb0, sa]
    have fti : sh_ti Hd = sh_ti H1 := by simp only [tc, tc0, tb, tb0, sb, sb0, sa]
    have fwa : sh_wa Hd = sh_wa H1 := by simp only [tc, tc0, tb, tb0, sb, sb0, sa]
    have for_ : sh_or Hd = sh_or H1 := by simp only [tc, tc0, tb, tb0, sb, sb0, sa]
    have fds : sh_ds Hd = sh_ds H1 := by simp only [tc, tc0, tb, tb0, sb, sb0, sa]
    have fon : sh_on Hd = sh_on H1 := by simp only [tc, tc0, tb, tb0, sb, sb0, sa]
    have fot : sh_ot Hd = sh_ot H1 := by simp only [tc, tc0, tb, tb0, sb, sb0, sa]
    have fsu : sh_su Hd = sh_su H1 := by simp only [tc, tc0, tb, tb0, sb, sb0, sa]
    have fwh : sh_wh Hd = sh_wh H1 := by simp only [tc, tc0, tb, tb0, sb, sb0, sa]
    have fme : ∀ j, j < t → sh_me Hd j = sh_me H1 j := fun j hj => by
      simp only [tc, tc0, tb, tb0, sb, sb0, sa]
      rw [upd_ne _ _ (by omega), upd_ne _ _ (by omega)]
    have tb := addBand_t (σ := σ) (h1 := b.1) (h2 := c.1) (show gN σ 0 < 5 by rw [show gN σ 0 = sh_ha H1 0 from lG0.1, ← er0]; exact hr5)
    have RN := R0_add (h1 := b.1) (h2 := c.1) (hg' := sh_hg Hd) (sn' := sh_sn Hd) (m := r) (by rw [er0]; exact lG0) hr5 (by rw [fhg, upd_at, qb]) (by rw [fsn, upd_at, qc]) (fun j hj => ⟨by rw [fhg]; exact upd_ne _ _ (by omega), by rw [fsn]; exact upd_ne _ _ (by omega)⟩)
    have hM : ∀ k, sh_ha H1 k ≤ sh_ha Hd k := fun k => by
      by_cases z : k = 0
      · rw [z, har]; omega
      · rw [hak k z]; exact Nat.le_refl _
    have VN0 : V0 (r + 1) (sh_hg Hd) (sh_sn Hd) := by
      intro x hx
      rw [fhg, fsn]
      by_cases z : x = r
      · rw [z, upd_at, upd_at]
        exact ⟨⟨v1, rfl, by omega, n1b⟩, ⟨v0, rfl, by omega, n0b⟩⟩
      · rw [upd_ne _ _ z, upd_ne _ _ z]
        exact lV0 x (by omega)
    refine .inr ⟨E3, Hd, ?_, Sc, ?_, ⟨by rw [har]; omega, by rw [hak 3 (by decide)]; exact c3, by rw [hak 6 (by decide)]; exact c6, by rw [hak 9 (by decide)]; exact c9, by rw [hak 11 (by decide)]; exact c11, by rw [for_]; exact c20⟩, ⟨by rw [har]; exact RN, by rw [tb.2.1 1 (by decide), hak 3 (by decide), fsi, fdp]; exact lG1, by rw [tb.2.1 2 (by decide), hak 6 (by decide), fab, fbr]; exact lG2, by rw [tb.2.1 3 (by decide), hak 9 (by decide), fdi, ffo]; exact lG3, by rw [tb.2.1 4 (by decide), hak 11 (by decide), fsz, fsk, fti]; exact lG4, by rw [fwa]; show ∀ i, i < 8 → (s_Glacier_addBand σ b.1 c.1).2.1 i = _; rw [tb.2.2]; exact lG5, by show (s_Glacier_addBand σ b.1 c.1).2.2.1 = d; rw [tb.2.2]; exact lG6, by show (s_Glacier_addBand σ b.1 c.1).2.2.2 = 0; rw [tb.2.2]; exact lG7⟩, ⟨by rw [har]; exact VN0, by rw [hak 3 (by decide), fsi, fdp]; exact lV1.mono (hM 0), by rw [hak 6 (by decide), fab, fbr]; exact lV2.mono (hM 0), by rw [hak 9 (by decide), fdi, ffo]; exact lV3.mono (hM 0), by rw [hak 11 (by decide), fsz, fsk, fti]; exact lV4.mono (hM 0), by rw [fwa]; exact lV5⟩, ?_, aa, la1, by omega⟩
    · rw [p4]
      exact (R3.trans NZ)
    · rw [show a.2.2 = s_Names_add N0 (tk_wo K (t + 1)) by rw [a2]]
      exact nc_
    · exact lO.keep (by omega) la1 (by omega) fme hM for_ fds fon fot fsu fwh
theorem line_stake {K : TK} {H : SH} {n : Nat} {M : MO} {d : Int32} {t : Nat} {F : FM} {E : TE} {N0 N1 N2 N3 N4 : NM} {T : TM} {σ : GL} {M1 : MO} (hX : LX K H n) (hW : LW (mo_tk' M n) K (sh_fr H) (sh_mn H) n) (ht : t < n) (hg : gk K t = 3) : LINE K H n M d t F E (NN N0 N1 N2 N3 N4) T σ M1 (s_Tokens_expect (s_Teacher_readStake (tA K t) F E N0 N1 N2 N3 N4 T σ).1 39) F (s_Teacher_readStake (tA K t) F E N0 N1 N2 N3 N4 T σ).2.1 (NN N0 (s_Teacher_readStake (tA K t) F E N0 N1 N2 N3 N4 T σ).2.2.1 N2 N3 N4) T (s_Teacher_readStake (tA K t) F E N0 N1 N2 N3 N4 T σ).2.2.2 (isL H (mS M1 t 0)) := by
  have h400 := hX.1
  unfold s_Teacher_readStake
  obtain ⟨a, ea⟩ : ∃ z, z = s_Teacher_newName (tA K t) E N1 6 := ⟨_, rfl⟩
  rw [← ea]
  obtain ⟨b, eb⟩ : ∃ z, z = s_Teacher_oldName a.1 a.2.1 N0 4 := ⟨_, rfl⟩
  rw [← eb]
  obtain ⟨c, ec⟩ : ∃ z, z = s_Teacher_number b.2.1 b.2.2 5 1 200 := ⟨_, rfl⟩
  rw [← ec]
  obtain ⟨s1, es1⟩ : ∃ z, z = nx K 3 50 (true, t) := ⟨_, rfl⟩
  have l1 : t ≤ s1.2 ∧ s1.2 ≤ n := by rw [es1]; exact nx_le (s := (true, t)) hX (by decide) (by decide) (Nat.le_of_lt ht)
  obtain ⟨s2, es2⟩ : ∃ z, z = nx K 4 50 s1 := ⟨_, rfl⟩
  have l2 : s1.2 ≤ s2.2 ∧ s2.2 ≤ n := by rw [es2]; exact nx_le hX (by decide) (by decide) l1.2
  obtain ⟨s3, es3⟩ : ∃ z, z = nx K 5 51 s2 := ⟨_, rfl⟩
  have l3 : s2.2 ≤ s3.2 ∧ s3.2 ≤ n := by rw [es3]; exact nx_le hX (by decide) (by decide) l2.2
  obtain ⟨s4, es4⟩ : ∃ z, z = nx1 K 39 s3 := ⟨_, rfl⟩
  have l4 : s3.2 ≤ s4.2 ∧ s4.2 ≤ n := by rw [es4]; exact nx1_le hX (by decide) l3.2
  have ka : a.1 = st K s1 := by rw [ea, new_st hX ht, hg, es1]; rfl
  have kb : b.2.1 = st K s2 := by rw [eb, ka, es2]; exact old_st hX (by decide) l1.2
  have kc : c.2.1 = st K s3 := by rw [ec, kb, es3]; exact num_st hX (by decide) l2.2
  have ke : s_Tokens_expect c.2.1 39 = st K s4 := by rw [kc, es4]; exact exp_st hX (by decide) l3.2
  have hm : isL H (mS M1 t 0) = md s4 M1 := by
    have hl : s_Model_isLine H (mS M1 t 0) = md s3 M1 := by
      unfold s_Model_isLine
      rw [if_pos (show mo_tk (mS M1 t 0) < 401 by show t < 401; omega), show sh_kd H (mo_tk (mS M1 t 0)) = 3 by (show sh_kd H t = _; rw [(hX.2.2 t (by omega)).2.1, hg]; rfl), if_neg (show ¬ (3 : Int32) = 0 by decide), if_pos (show (3 : Int32) = 3 from rfl)]
      rw [isNam_md hX (Nat.le_of_lt ht) (k := 3) (y := 3) (by decide) rfl, ← es1, md_nam hX l1.2 (k := 4) (y := 4) (by decide) rfl, ← es2, md_num hX l2.2 (k := 5) (y := 5) (by decide) rfl, ← es3, md_end]
    unfold isL
    rw [hl, md_eat hX l3.2 (k := 44) (y := 39) (by decide) rfl, ← es4, md_end]
  refine ⟨s4, 0, ke, hm, by omega, by omega, fun hok => ?_⟩
  obtain ⟨o3, g39, p4⟩ : s3.1 = true ∧ (gk K s3.2).val = 39 ∧ s4.2 = s3.2 + 1 := by rw [es4] at hok ⊢; exact nx1_true hok
  obtain ⟨o2, x3, y3, p3⟩ : s2.1 = true ∧ (gk K s2.2).val = 5 ∧ (gk K (s2.2 + 1)).val = 51 ∧ s3.2 = s2.2 + 2 := by rw [es3] at o3 ⊢; exact nx_true o3
  obtain ⟨o1, x2, y2, p2⟩ : s1.1 = true ∧ (gk K s1.2).val = 4 ∧ (gk K (s1.2 + 1)).val = 50 ∧ s2.2 = s1.2 + 2 := by rw [es2] at o2 ⊢; exact nx_true o2
  obtain ⟨-, x1, y1, p1⟩ : true = true ∧ (gk K t).val = 3 ∧ (gk K (t + 1)).val = 50 ∧ s1.2 = t + 2 := by rw [es1] at o1 ⊢; exact nx_true o1
  replace p2 : s2.2 = t + 4 := by omega
  rw [p1] at x2 y2
  replace y2 : (gk K (t + 3)).val = 50 := y2
  replace p3 : s3.2 = t + 6 := by omega
  rw [p2] at x3 y3
  replace y3 : (gk K (t + 5)).val = 51 := y3
  replace p4 : s4.2 = t + 7 := by omega
  rw [p3] at g39
  replace ka : a.1 = tA K (t + 2) := by rw [ka]; unfold st; rw [if_pos o1, p1]
  replace kb : b.2.1 = tA K (t + 4) := by rw [kb]; unfold st; rw [if_pos o2, p2]
  refine ⟨rfl, by omega, by rw [show s4.2 - 1 = t + 6 by omega]; exact g39, fun hE => ?_, fun hE H1 hL h0 => ?_⟩
  · have z1 : a.2.1 = E := by rw [ea]; exact new_sticky hE
    have z2 : b.2.2 = E := by rw [eb, z1]; exact old_sticky hE
    have z3 : c.2.2 = E := by rw [ec, z2]; exact num_sticky hE
    exact z3
  · obtain ⟨lS, lN, lC, lG, lV, lO, aa, la1, la2⟩ := hL
    obtain ⟨c0, c3, c6, c9, c11, c20⟩ := lC
    obtain ⟨lG0, lG1, lG2, lG3, lG4, lG5, lG6, lG7⟩ := lG
    obtain ⟨lV0, lV1, lV2, lV3, lV4, lV5⟩ := lV
    have r0 := start_k (M := M) hX ht lS h0 hg (by decide)
    obtain ⟨Ha, eHa⟩ : ∃ z, z = sh_ln' H1 (kOf 3) := ⟨_, rfl⟩
    rw [← eHa] at r0
    have sa := sh_set_ln eHa
    have Sa : SameT H Ha := by unfold SameT; simp only [sa]; exact lS
    have na : NRel K Ha (NN N0 N1 N2 N3 N4) n := lN.congr (by simp only [sa]) (by simp only [sa])
    have haa : sh_ha Ha = sh_ha H1 := by simp only [sa]
    have er_ : ∀ p Hx E2, ERR K M n p Hx E2 → RDm M n t H1 = RDm M n p Hx → c.2.2 = E2 → ERR K M n t H1 c.2.2 ∨ (c.2.2 = E ∧ ∃ H2, RDm M n t H1 = RDm M n s4.2 H2 ∧ LREL K H n d s4.2 F (NN N0 a.2.2 N2 N3 N4) T (s_Glacier_addStake σ b.1 c.1) H2) := fun p Hx E2 w1 w2 w3 => .inl (w1.back w2 w3)
    rcases new_step (M := M) (i := 1) hX hW (show t + 1 < n by omega) Sa na (by decide) (by rw [haa]; exact c3) (by rw [hg]; rfl) y1 hE with er | ⟨u1, u2, u3⟩
    · refine er_ (t + 1) Ha _ er (r0) ?_
      have w0 : ¬ te_er a.2.1 = 0 := by rw [show a.2.1 = (s_Teacher_newName (tA K t) E (NN N0 N1 N2 N3 N4 1) (nI (mst 1))).2.1 by rw [ea]; rfl]; exact ne_le er.1
      have w1 : b.2.2 = a.2.1 := by rw [eb]; exact old_sticky w0
      have w2 : c.2.2 = a.2.1 := by rw [ec, w1]; exact num_sticky w0
      rw [w2, show a.2.1 = (s_Teacher_newName (tA K t) E (NN N0 N1 N2 N3 N4 1) (nI (mst 1))).2.1 by rw [ea]; rfl]
    have a2 : a.2 = (E, s_Names_add N1 (tk_wo K (t + 1))) := by rw [ea]; exact u2
    obtain ⟨Hb0, eHb0⟩ : ∃ z, z = sh_na' Ha (updN (sh_na Ha) (6 * srt 1 + sh_ha Ha (srt 1)) (t + 1)) := ⟨_, rfl⟩
    rw [← eHb0] at u3
    obtain ⟨Hb, eHb⟩ : ∃ z, z = sh_ha' Hb0 (updN (sh_ha Ha) (srt 1) (sh_ha Ha (srt 1) + 1)) := ⟨_, rfl⟩
    rw [← eHb] at u3
    have sb0 := sh_set_na eHb0
    have sb := sh_set_ha eHb
    have Sb : SameT H Hb := by unfold SameT; simp only [sb, sb0, sa]; exact lS
    have nb : NRel K Hb (NN N0 (s_Names_add N1 (tk_wo K (t + 1))) N2 N3 N4) n := nrel_add (N := NN N0 N1 N2 N3 N4) (i := 1) (x := t + 1) na (by decide) u1 (by omega) y1 rfl (fun j hj hne => by
      match j, hj, hne with
      | 0, _, h => rfl
      | 1, _, h => exact absurd rfl h
      | 2, _, h => rfl
      | 3, _, h => rfl
      | 4, _, h => rfl
      | _ + 5, w, _ => exact absurd w (by omega)) (by simp only [sb, sb0]) (by simp only [sb, sb0])
    obtain ⟨r, er0⟩ : ∃ z, z = sh_ha H1 3 := ⟨_, rfl⟩
    have hr : sh_ha Hb 3 = r + 1 := by
      simp only [sb]
      rw [haa, er0]
      exact updN_at _ _ _
    have hr5 : r < 6 := by rw [er0, ← haa]; exact u1
    have hao : ∀ k, k ≠ 3 → sh_ha Hb k = sh_ha H1 k := fun k hk => by
      simp only [sb]
      rw [haa]
      exact updN_ne _ _ hk
    have R1 := r0.trans u3
    have E1 : a.2.1 = E := by rw [a2]
    have Nb := neu_k (M := M) (g := 4) hX (show t + 2 < n by omega) Sb (by omega) (by rw [show t + 2 - 1 = t + 1 by omega]; omega) (Fin.ext x2) (by decide)
    have HR0 : sh_ha Hb 3 = r + 1 := hr
    have db : b = s_Teacher_oldName (tA K (t + 2)) E ((NN N0 (s_Names_add N1 (tk_wo K (t + 1))) N2 N3 N4) 0) (gk K (t + 2)) := by rw [eb, ka, E1, show gk K (t + 2) = 4 from Fin.ext x2]; rfl
    rcases old_step (M := M) (Ha := Hb) (t := t + 2) (i := 0) (E := E) (W := fun x => sh_si' (sh_me' Hb (upd (sh_me Hb) (t + 2 + 1) x)) (upd (sh_si Hb) r x)) hX hW (show t + 2 + 1 < n by omega) Sb nb (by decide) y2 hE (by rw [show gk K (t + 2) = 4 from Fin.ext x2]; decide) (fun x hx hfx => eo_in3 (M := mo_tk' M n) (i := t + 2 + 1) (x := x) (by omega) (by omega) (by have := (nb 0 (by decide)).1; have := (nb 0 (by decide)).2.1; omega) (by rw [Nat.add_sub_cancel, Sb.1, (hX.2.2 (t + 2) (by omega)).2.1, show gk K (t + 2) = 4 from Fin.ext x2]; rfl) hfx (by simp only [sb, sb0, sa]; rfl) HR0 hr5) with er | ⟨v0, n0a, n0c, n0d, n0e⟩
    · refine er_ (t + 2 + 1) Hb _ er ((R1.trans Nb)) ?_
      have w0 : ¬ te_er b.2.2 = 0 := by rw [show b.2.2 = (s_Teacher_oldName (tA K (t + 2)) E ((NN N0 (s_Names_add N1 (tk_wo K (t + 1))) N2 N3 N4) 0) (gk K (t + 2))).2.2 by rw [db]]; exact ne_le er.1
      have w2 : c.2.2 = b.2.2 := by rw [ec]; exact num_sticky w0
      rw [w2, show b.2.2 = (s_Teacher_oldName (tA K (t + 2)) E ((NN N0 (s_Names_add N1 (tk_wo K (t + 1))) N2 N3 N4) 0) (gk K (t + 2))).2.2 by rw [db]]
    have qb : b.1 = nI v0 := by rw [db]; exact n0c
    have E2 : b.2.2 = E := by rw [db]; exact n0d
    have nb0 : v0 < sh_ha H1 0 := by rw [← hao 0 (by decide)]; exact n0a
    obtain ⟨Hc0, eHc0⟩ : ∃ z, z = sh_me' Hb (upd (sh_me Hb) (t + 2 + 1) (nI v0)) := ⟨_, rfl⟩
    obtain ⟨Hc, eHc⟩ : ∃ z, z = sh_si' Hc0 (upd (sh_si Hb) r (nI v0)) := ⟨_, rfl⟩
    have n0f : RDm M n (t + 3) Hb = RDm M n (t + 4) Hc := by rw [eHc, eHc0]; exact n0e
    have tb := sh_set_si eHc
    have tb0 := sh_set_me eHc0
    have Sb : SameT H Hc := by unfold SameT; simp only [tb, tb0, sb, sb0, sa]; exact lS
    have nb_ : NRel K Hc (NN N0 (s_Names_add N1 (tk_wo K (t + 1))) N2 N3 N4) n := nb.congr (by simp only [tb, tb0]) (by simp only [tb, tb0])
    have R2 := (R1.trans Nb).trans n0f
    have Nc := neu_k (M := M) (g := 5) hX (show t + 4 < n by omega) Sb (by omega) (by rw [show t + 4 - 1 = t + 3 by omega]; omega) (Fin.ext x3) (by decide)
    obtain ⟨v1, va1, vb1, vc1⟩ := hW.2 (t + 5) (by omega) y3 Hc Sb.2.1 Sb.2.2
    have HR1 : sh_ha Hc 3 = r + 1 := by simp only [tb, tb0]; exact hr
    have ec_ := en_5 (M := mo_tk' M n) (i := t + 5) (v := v1) (by omega) (by omega) (by rw [show t + 5 - 1 = t + 4 by omega, Sb.1, (hX.2.2 (t + 4) (by omega)).2.1, show gk K (t + 4) = 5 from Fin.ext x3]; rfl) (by rw [Sb.1, (hX.2.2 (t + 5) (by omega)).2.1, show gk K (t + 5) = 51 from Fin.ext y3]; rfl) vb1 HR1 hr5
    have dc : c = s_Teacher_number (tA K (t + 4)) E (gk K (t + 4)) (nI 1) (nI 200) := by rw [ec, kb, E2, show gk K (t + 4) = 5 from Fin.ext x3]; rfl
    rcases num_step (M := M) (Ha := Hc) (Hw := sh_dp' (sh_me' Hc (upd (sh_me Hc) (t + 5) (nI v1))) (upd (sh_dp Hc) r (nI v1))) (t := t + 4) (k := v1) (l := 1) (h := 200) (E := E) hX (show t + 4 + 1 < n by omega) Sb (by omega) (by decide) va1 vc1 y3 hE rfl ec_ with er | ⟨n1a, n1b, n1c, n1d, n1e⟩
    · refine er_ (t + 4 + 1) Hc _ er ((R2.trans Nc)) ?_
      have w0 : ¬ te_er c.2.2 = 0 := by rw [show c.2.2 = (s_Teacher_number (tA K (t + 4)) E (gk K (t + 4)) (nI 1) (nI 200)).2.2 by rw [dc]]; exact ne_le er.1
      rw [show c.2.2 = (s_Teacher_number (tA K (t + 4)) E (gk K (t + 4)) (nI 1) (nI 200)).2.2 by rw [dc]]
    have qc : c.1 = nI v1 := by rw [dc]; exact n1c
    have E3 : c.2.2 = E := by rw [dc]; exact n1d
    obtain ⟨Hd0, eHd0⟩ : ∃ z, z = sh_me' Hc (upd (sh_me Hc) (t + 5) (nI v1)) := ⟨_, rfl⟩
    obtain ⟨Hd, eHd⟩ : ∃ z, z = sh_dp' Hd0 (upd (sh_dp Hc) r (nI v1)) := ⟨_, rfl⟩
    have n1f : RDm M n (t + 5) Hc = RDm M n (t + 6) Hd := by rw [eHd, eHd0]; exact n1e
    have tc := sh_set_dp eHd
    have tc0 := sh_set_me eHd0
    have Sc : SameT H Hd := by unfold SameT; simp only [tc, tc0, tb, tb0, sb, sb0, sa]; exact lS
    have nc_ : NRel K Hd (NN N0 (s_Names_add N1 (tk_wo K (t + 1))) N2 N3 N4) n := nb_.congr (by simp only [tc, tc0]) (by simp only [tc, tc0])
    have R3 := (R2.trans Nc).trans n1f
    have NZ := neu_k (M := M) (g := 39) hX (show t + 6 < n by omega) Sc (by omega) (by rw [show t + 6 - 1 = t + 5 by omega]; omega) (Fin.ext g39) (by decide)
    have fha : sh_ha Hd = sh_ha Hb := by simp only [tc, tc0, tb, tb0]
    have har : sh_ha Hd 3 = r + 1 := by rw [fha]; exact hr
    have hak : ∀ k, k ≠ 3 → sh_ha Hd k = sh_ha H1 k := fun k hk => by rw [fha]; exact hao k hk
    have fhg : sh_hg Hd = sh_hg H1 := by simp only [tc, tc0, tb, tb0, sb, sb0, sa]
    have fsn : sh_sn Hd = sh_sn H1 := by simp only [tc, tc0, tb, tb0, sb, sb0, sa]
    have fsi : sh_si Hd = upd (sh_si H1) r (nI v0) := by simp only [tc, tc0, tb, tb0, sb, sb0, sa]
    have fdp : sh_dp Hd = upd (sh_dp H1) r (nI v1) := by simp only [tc, tc0, tb, tb0, sb, sb0, sa]
    have fab : sh_ab Hd = sh_ab H1 := by simp only [tc, tc0, tb, tb0, sb, sb0, sa]
    have fbr : sh_br Hd = sh_br H1 := by simp only [tc, tc0, tb, tb0, sb, sb0, sa]
    have fdi : sh_di Hd = sh_di H1 := by simp only [tc, tc0, tb, tb0, sb, sb0, sa]
    have ffo : sh_fo Hd = sh_fo H1 := by simp only [tc, tc0, tb, tb0, sb, sb0, sa]
    have fsz : sh_sz Hd = sh_sz H1 := by simp only [tc, tc0, tb, tb0, sb, sb0, sa]
    have fsk : sh_sk Hd = sh_sk H1 := by simp only [tc, tc0, tb, tb0, sb, sb0, sa]
    have fti : sh_ti Hd = sh_ti H1 := by simp only [tc, tc0, tb, tb0, sb, sb0, sa]
    have fwa : sh_wa Hd = sh_wa H1 := by simp only [tc, tc0, tb, tb0, sb, sb0, sa]
    have for_ : sh_or Hd = sh_or H1 := by simp only [tc, tc0, tb, tb0, sb, sb0, sa]
    have fds : sh_ds Hd = sh_ds H1 := by simp only [tc, tc0, tb, tb0, sb, sb0, sa]
    have fon : sh_on Hd = sh_on H1 := by simp only [tc, tc0, tb, tb0, sb, sb0, sa]
    have fot : sh_ot Hd = sh_ot H1 := by simp only [tc, tc0, tb, tb0, sb, sb0, sa]
    have fsu : sh_su Hd = sh_su H1 := by simp only [tc, tc0, tb, tb0, sb, sb0, sa]
    have fwh : sh_wh Hd = sh_wh H1 := by simp only [tc, tc0, tb, tb0, sb, sb0, sa]
    have fme : ∀ j, j < t → sh_me Hd j = sh_me H1 j := fun j hj => by
      simp only [tc, tc0, tb, tb0, sb, sb0, sa]
      rw [upd_ne _ _ (by omega), upd_ne _ _ (by omega)]
    have tb := addStake_t (σ := σ) (h1 := b.1) (h2 := c.1) (show gN σ 1 < 6 by rw [show gN σ 1 = sh_ha H1 3 from lG1.1, ← er0]; exact hr5)
    have RN := R1_add (h1 := b.1) (h2 := c.1) (si' := sh_si Hd) (dp' := sh_dp Hd) (m := r) (by rw [er0]; exact lG1) hr5 (by rw [fsi, upd_at, qb]) (by rw [fdp, upd_at, qc]) (fun j hj => ⟨by rw [fsi]; exact upd_ne _ _ (by omega), by rw [fdp]; exact upd_ne _ _ (by omega)⟩)
    have hM : ∀ k, sh_ha H1 k ≤ sh_ha Hd k := fun k => by
      by_cases z : k = 3
      · rw [z, har]; omega
      · rw [hak k z]; exact Nat.le_refl _
    have VN0 : V1 (sh_ha Hd 0) (r + 1) (sh_si Hd) (sh_dp Hd) := by
      intro x hx
      rw [fsi, fdp, hak 0 (by decide)]
      by_cases z : x = r
      · rw [z, upd_at, upd_at]
        exact ⟨⟨v0, nb0, rfl⟩, ⟨v1, rfl, by omega, by omega⟩⟩
      · rw [upd_ne _ _ z, upd_ne _ _ z]
        exact lV1 x (by omega)
    refine .inr ⟨E3, Hd, ?_, Sc, ?_, ⟨by rw [hak 0 (by decide)]; exact c0, by rw [har]; omega, by rw [hak 6 (by decide)]; exact c6, by rw [hak 9 (by decide)]; exact c9, by rw [hak 11 (by decide)]; exact c11, by rw [for_]; exact c20⟩, ⟨by rw [tb.2.1 0 (by decide), hak 0 (by decide), fhg, fsn]; exact lG0, by rw [har]; exact RN, by rw [tb.2.1 2 (by decide), hak 6 (by decide), fab, fbr]; exact lG2, by rw [tb.2.1 3 (by decide), hak 9 (by decide), fdi, ffo]; exact lG3, by rw [tb.2.1 4 (by decide), hak 11 (by decide), fsz, fsk, fti]; exact lG4, by rw [fwa]; show ∀ i, i < 8 → (s_Glacier_addStake σ b.1 c.1).2.1 i = _; rw [tb.2.2]; exact lG5, by show (s_Glacier_addStake σ b.1 c.1).2.2.1 = d; rw [tb.2.2]; exact lG6, by show (s_Glacier_addStake σ b.1 c.1).2.2.2 = 0; rw [tb.2.2]; exact lG7⟩, ⟨by rw [hak 0 (by decide), fhg, fsn]; exact lV0, by rw [har]; exact VN0, by rw [hak 6 (by decide), fab, fbr]; exact lV2.mono (hM 0), by rw [hak 9 (by decide), fdi, ffo]; exact lV3.mono (hM 0), by rw [hak 11 (by decide), fsz, fsk, fti]; exact lV4.mono (hM 0), by rw [fwa]; exact lV5⟩, ?_, aa, la1, by omega⟩
    · rw [p4]
      exact (R3.trans NZ)
    · rw [show a.2.2 = s_Names_add N1 (tk_wo K (t + 1)) by rw [a2]]
      exact nc_
    · exact lO.keep (by omega) la1 (by omega) fme hM for_ fds fon fot fsu fwh
theorem line_crevasse {K : TK} {H : SH} {n : Nat} {M : MO} {d : Int32} {t : Nat} {F : FM} {E : TE} {N0 N1 N2 N3 N4 : NM} {T : TM} {σ : GL} {M1 : MO} (hX : LX K H n) (hW : LW (mo_tk' M n) K (sh_fr H) (sh_mn H) n) (ht : t < n) (hg : gk K t = 6) : LINE K H n M d t F E (NN N0 N1 N2 N3 N4) T σ M1 (s_Tokens_expect (s_Teacher_readCrevasse (tA K t) F E N0 N1 N2 N3 N4 T σ).1 39) F (s_Teacher_readCrevasse (tA K t) F E N0 N1 N2 N3 N4 T σ).2.1 (NN N0 N1 (s_Teacher_readCrevasse (tA K t) F E N0 N1 N2 N3 N4 T σ).2.2.1 N3 N4) T (s_Teacher_readCrevasse (tA K t) F E N0 N1 N2 N3 N4 T σ).2.2.2 (isL H (mS M1 t 0)) := by
  have h400 := hX.1
  unfold s_Teacher_readCrevasse
  obtain ⟨a, ea⟩ : ∃ z, z = s_Teacher_newName (tA K t) E N2 4 := ⟨_, rfl⟩
  rw [← ea]
  obtain ⟨b, eb⟩ : ∃ z, z = s_Teacher_oldName a.1 a.2.1 N0 7 := ⟨_, rfl⟩
  rw [← eb]
  obtain ⟨c, ec⟩ : ∃ z, z = s_Teacher_number b.2.1 b.2.2 8 0 99 := ⟨_, rfl⟩
  rw [← ec]
  obtain ⟨s1, es1⟩ : ∃ z, z = nx K 6 50 (true, t) := ⟨_, rfl⟩
  have l1 : t ≤ s1.2 ∧ s1.2 ≤ n := by rw [es1]; exact nx_le (s := (true, t)) hX (by decide) (by decide) (Nat.le_of_lt ht)
  obtain ⟨s2, es2⟩ : ∃ z, z = nx K 7 50 s1 := ⟨_, rfl⟩
  have l2 : s1.2 ≤ s2.2 ∧ s2.2 ≤ n := by rw [es2]; exact nx_le hX (by decide) (by decide) l1.2
  obtain ⟨s3, es3⟩ : ∃ z, z = nx K 8 51 s2 := ⟨_, rfl⟩
  have l3 : s2.2 ≤ s3.2 ∧ s3.2 ≤ n := by rw [es3]; exact nx_le hX (by decide) (by decide) l2.2
  obtain ⟨s4, es4⟩ : ∃ z, z = nx1 K 39 s3 := ⟨_, rfl⟩
  have l4 : s3.2 ≤ s4.2 ∧ s4.2 ≤ n := by rw [es4]; exact nx1_le hX (by decide) l3.2
  have ka : a.1 = st K s1 := by rw [ea, new_st hX ht, hg, es1]; rfl
  have kb : b.2.1 = st K s2 := by rw [eb, ka, es2]; exact old_st hX (by decide) l1.2
  have kc : c.2.1 = st K s3 := by rw [ec, kb, es3]; exact num_st hX (by decide) l2.2
  have ke : s_Tokens_expect c.2.1 39 = st K s4 := by rw [kc, es4]; exact exp_st hX (by decide) l3.2
  have hm : isL H (mS M1 t 0) = md s4 M1 := by
    have hl : s_Model_isLine H (mS M1 t 0) = md s3 M1 := by
      unfold s_Model_isLine
      rw [if_pos (show mo_tk (mS M1 t 0) < 401 by show t < 401; omega), show sh_kd H (mo_tk (mS M1 t 0)) = 6 by (show sh_kd H t = _; rw [(hX.2.2 t (by omega)).2.1, hg]; rfl), if_neg (show ¬ (6 : Int32) = 0 by decide), if_neg (show ¬ (6 : Int32) = 3 by decide), if_pos (show (6 : Int32) = 6 from rfl)]
      rw [isNam_md hX (Nat.le_of_lt ht) (k := 6) (y := 6) (by decide) rfl, ← es1, md_nam hX l1.2 (k := 7) (y := 7) (by decide) rfl, ← es2, md_num hX l2.2 (k := 8) (y := 8) (by decide) rfl, ← es3, md_end]
    unfold isL
    rw [hl, md_eat hX l3.2 (k := 44) (y := 39) (by decide) rfl, ← es4, md_end]
  refine ⟨s4, 0, ke, hm, by omega, by omega, fun hok => ?_⟩
  obtain ⟨o3, g39, p4⟩ : s3.1 = true ∧ (gk K s3.2).val = 39 ∧ s4.2 = s3.2 + 1 := by rw [es4] at hok ⊢; exact nx1_true hok
  obtain ⟨o2, x3, y3, p3⟩ : s2.1 = true ∧ (gk K s2.2).val = 8 ∧ (gk K (s2.2 + 1)).val = 51 ∧ s3.2 = s2.2 + 2 := by rw [es3] at o3 ⊢; exact nx_true o3
  obtain ⟨o1, x2, y2, p2⟩ : s1.1 = true ∧ (gk K s1.2).val = 7 ∧ (gk K (s1.2 + 1)).val = 50 ∧ s2.2 = s1.2 + 2 := by rw [es2] at o2 ⊢; exact nx_true o2
  obtain ⟨-, x1, y1, p1⟩ : true = true ∧ (gk K t).val = 6 ∧ (gk K (t + 1)).val = 50 ∧ s1.2 = t + 2 := by rw [es1] at o1 ⊢; exact nx_true o1
  replace p2 : s2.2 = t + 4 := by omega
  rw [p1] at x2 y2
  replace y2 : (gk K (t + 3)).val = 50 := y2
  replace p3 : s3.2 = t + 6 := by omega
  rw [p2] at x3 y3
  replace y3 : (gk K (t + 5)).val = 51 := y3
  replace p4 : s4.2 = t + 7 := by omega
  rw [p3] at g39
  replace ka : a.1 = tA K (t + 2) := by rw [ka]; unfold st; rw [if_pos o1, p1]
  replace kb : b.2.1 = tA K (t + 4) := by rw [kb]; unfold st; rw [if_pos o2, p2]
  refine ⟨rfl, by omega, by rw [show s4.2 - 1 = t + 6 by omega]; exact g39, fun hE => ?_, fun hE H1 hL h0 => ?_⟩
  · have z1 : a.2.1 = E := by rw [ea]; exact new_sticky hE
    have z2 : b.2.2 = E := by rw [eb, z1]; exact old_sticky hE
    have z3 : c.2.2 = E := by rw [ec, z2]; exact num_sticky hE
    exact z3
  · obtain ⟨lS, lN, lC, lG, lV, lO, aa, la1, la2⟩ := hL
    obtain ⟨c0, c3, c6, c9, c11, c20⟩ := lC
    obtain ⟨lG0, lG1, lG2, lG3, lG4, lG5, lG6, lG7⟩ := lG
    obtain ⟨lV0, lV1, lV2, lV3, lV4, lV5⟩ := lV
    have r0 := start_k (M := M) hX ht lS h0 hg (by decide)
    obtain ⟨Ha, eHa⟩ : ∃ z, z = sh_ln' H1 (kOf 6) := ⟨_, rfl⟩
    rw [← eHa] at r0
    have sa := sh_set_ln eHa
    have Sa : SameT H Ha := by unfold SameT; simp only [sa]; exact lS
    have na : NRel K Ha (NN N0 N1 N2 N3 N4) n := lN.congr (by simp only [sa]) (by simp only [sa])
    have haa : sh_ha Ha = sh_ha H1 := by simp only [sa]
    have er_ : ∀ p Hx E2, ERR K M n p Hx E2 → RDm M n t H1 = RDm M n p Hx → c.2.2 = E2 → ERR K M n t H1 c.2.2 ∨ (c.2.2 = E ∧ ∃ H2, RDm M n t H1 = RDm M n s4.2 H2 ∧ LREL K H n d s4.2 F (NN N0 N1 a.2.2 N3 N4) T (s_Glacier_addCrevasse σ b.1 c.1) H2) := fun p Hx E2 w1 w2 w3 => .inl (w1.back w2 w3)
    rcases new_step (M := M) (i := 2) hX hW (show t + 1 < n by omega) Sa na (by decide) (by rw [haa]; exact c6) (by rw [hg]; rfl) y1 hE with er | ⟨u1, u2, u3⟩
    · refine er_ (t + 1) Ha _ er (r0) ?_
      have w0 : ¬ te_er a.2.1 = 0 := by rw [show a.2.1 = (s_Teacher_newName (tA K t) E (NN N0 N1 N2 N3 N4 2) (nI (mst 2))).2.1 by rw [ea]; rfl]; exact ne_le er.1
      have w1 : b.2.2 = a.2.1 := by rw [eb]; exact old_sticky w0
      have w2 : c.2.2 = a.2.1 := by rw [ec, w1]; exact num_sticky w0
      rw [w2, show a.2.1 = (s_Teacher_newName (tA K t) E (NN N0 N1 N2 N3 N4 2) (nI (mst 2))).2.1 by rw [ea]; rfl]
    have a2 : a.2 = (E, s_Names_add N2 (tk_wo K (t + 1))) := by rw [ea]; exact u2
    obtain ⟨Hb0, eHb0⟩ : ∃ z, z = sh_na' Ha (updN (sh_na Ha) (6 * srt 2 + sh_ha Ha (srt 2)) (t + 1)) := ⟨_, rfl⟩
    rw [← eHb0] at u3
    obtain ⟨Hb, eHb⟩ : ∃ z, z = sh_ha' Hb0 (updN (sh_ha Ha) (srt 2) (sh_ha Ha (srt 2) + 1)) := ⟨_, rfl⟩
    rw [← eHb] at u3
    have sb0 := sh_set_na eHb0
    have sb := sh_set_ha eHb
    have Sb : SameT H Hb := by unfold SameT; simp only [sb, sb0, sa]; exact lS
    have nb : NRel K Hb (NN N0 N1 (s_Names_add N2 (tk_wo K (t + 1))) N3 N4) n := nrel_add (N := NN N0 N1 N2 N3 N4) (i := 2) (x := t + 1) na (by decide) u1 (by omega) y1 rfl (fun j hj hne => by
      match j, hj, hne with
      | 0, _, h => rfl
      | 1, _, h => rfl
      | 2, _, h => exact absurd rfl h
      | 3, _, h => rfl
      | 4, _, h => rfl
      | _ + 5, w, _ => exact absurd w (by omega)) (by simp only [sb, sb0]) (by simp only [sb, sb0])
    obtain ⟨r, er0⟩ : ∃ z, z = sh_ha H1 6 := ⟨_, rfl⟩
    have hr : sh_ha Hb 6 = r + 1 := by
      simp only [sb]
      rw [haa, er0]
      exact updN_at _ _ _
    have hr5 : r < 4 := by rw [er0, ← haa]; exact u1
    have hao : ∀ k, k ≠ 6 → sh_ha Hb k = sh_ha H1 k := fun k hk => by
      simp only [sb]
      rw [haa]
      exact updN_ne _ _ hk
    have R1 := r0.trans u3
    have E1 : a.2.1 = E := by rw [a2]
    have Nb := neu_k (M := M) (g := 7) hX (show t + 2 < n by omega) Sb (by omega) (by rw [show t + 2 - 1 = t + 1 by omega]; omega) (Fin.ext x2) (by decide)
    have HR0 : sh_ha Hb 6 = r + 1 := hr
    have db : b = s_Teacher_oldName (tA K (t + 2)) E ((NN N0 N1 (s_Names_add N2 (tk_wo K (t + 1))) N3 N4) 0) (gk K (t + 2)) := by rw [eb, ka, E1, show gk K (t + 2) = 7 from Fin.ext x2]; rfl
    rcases old_step (M := M) (Ha := Hb) (t := t + 2) (i := 0) (E := E) (W := fun x => sh_ab' (sh_me' Hb (upd (sh_me Hb) (t + 2 + 1) x)) (upd (sh_ab Hb) r x)) hX hW (show t + 2 + 1 < n by omega) Sb nb (by decide) y2 hE (by rw [show gk K (t + 2) = 7 from Fin.ext x2]; decide) (fun x hx hfx => eo_7 (M := mo_tk' M n) (i := t + 2 + 1) (x := x) (by omega) (by omega) (by have := (nb 0 (by decide)).1; have := (nb 0 (by decide)).2.1; omega) (by rw [Nat.add_sub_cancel, Sb.1, (hX.2.2 (t + 2) (by omega)).2.1, show gk K (t + 2) = 7 from Fin.ext x2]; rfl) hfx HR0 hr5) with er | ⟨v0, n0a, n0c, n0d, n0e⟩
    · refine er_ (t + 2 + 1) Hb _ er ((R1.trans Nb)) ?_
      have w0 : ¬ te_er b.2.2 = 0 := by rw [show b.2.2 = (s_Teacher_oldName (tA K (t + 2)) E ((NN N0 N1 (s_Names_add N2 (tk_wo K (t + 1))) N3 N4) 0) (gk K (t + 2))).2.2 by rw [db]]; exact ne_le er.1
      have w2 : c.2.2 = b.2.2 := by rw [ec]; exact num_sticky w0
      rw [w2, show b.2.2 = (s_Teacher_oldName (tA K (t + 2)) E ((NN N0 N1 (s_Names_add N2 (tk_wo K (t + 1))) N3 N4) 0) (gk K (t + 2))).2.2 by rw [db]]
    have qb : b.1 = nI v0 := by rw [db]; exact n0c
    have E2 : b.2.2 = E := by rw [db]; exact n0d
    have nb0 : v0 < sh_ha H1 0 := by rw [← hao 0 (by decide)]; exact n0a
    obtain ⟨Hc0, eHc0⟩ : ∃ z, z = sh_me' Hb (upd (sh_me Hb) (t + 2 + 1) (nI v0)) := ⟨_, rfl⟩
    obtain ⟨Hc, eHc⟩ : ∃ z, z = sh_ab' Hc0 (upd (sh_ab Hb) r (nI v0)) := ⟨_, rfl⟩
    have n0f : RDm M n (t + 3) Hb = RDm M n (t + 4) Hc := by rw [eHc, eHc0]; exact n0e
    have tb := sh_set_ab eHc
    have tb0 := sh_set_me eHc0
    have Sb : SameT H Hc := by unfold SameT; simp only [tb, tb0, sb, sb0, sa]; exact lS
    have nb_ : NRel K Hc (NN N0 N1 (s_Names_add N2 (tk_wo K (t + 1))) N3 N4) n := nb.congr (by simp only [tb, tb0]) (by simp only [tb, tb0])
    have R2 := (R1.trans Nb).trans n0f
    have Nc := neu_k (M := M) (g := 8) hX (show t + 4 < n by omega) Sb (by omega) (by rw [show t + 4 - 1 = t + 3 by omega]; omega) (Fin.ext x3) (by decide)
    obtain ⟨v1, va1, vb1, vc1⟩ := hW.2 (t + 5) (by omega) y3 Hc Sb.2.1 Sb.2.2
    have HR1 : sh_ha Hc 6 = r + 1 := by simp only [tb, tb0]; exact hr
    have ec_ := en_8 (M := mo_tk' M n) (i := t + 5) (v := v1) (by omega) (by omega) (by rw [show t + 5 - 1 = t + 4 by omega, Sb.1, (hX.2.2 (t + 4) (by omega)).2.1, show gk K (t + 4) = 8 from Fin.ext x3]; rfl) (by rw [Sb.1, (hX.2.2 (t + 5) (by omega)).2.1, show gk K (t + 5) = 51 from Fin.ext y3]; rfl) vb1 HR1 hr5
    have dc : c = s_Teacher_number (tA K (t + 4)) E (gk K (t + 4)) (nI 0) (nI 99) := by rw [ec, kb, E2, show gk K (t + 4) = 8 from Fin.ext x3]; rfl
    rcases num_step (M := M) (Ha := Hc) (Hw := sh_br' (sh_me' Hc (upd (sh_me Hc) (t + 5) (nI v1))) (upd (sh_br Hc) r (nI v1))) (t := t + 4) (k := v1) (l := 0) (h := 99) (E := E) hX (show t + 4 + 1 < n by omega) Sb (by omega) (by decide) va1 vc1 y3 hE rfl ec_ with er | ⟨n1a, n1b, n1c, n1d, n1e⟩
    · refine er_ (t + 4 + 1) Hc _ er ((R2.trans Nc)) ?_
      have w0 : ¬ te_er c.2.2 = 0 := by rw [show c.2.2 = (s_Teacher_number (tA K (t + 4)) E (gk K (t + 4)) (nI 0) (nI 99)).2.2 by rw [dc]]; exact ne_le er.1
      rw [show c.2.2 = (s_Teacher_number (tA K (t + 4)) E (gk K (t + 4)) (nI 0) (nI 99)).2.2 by rw [dc]]
    have qc : c.1 = nI v1 := by rw [dc]; exact n1c
    have E3 : c.2.2 = E := by rw [dc]; exact n1d
    obtain ⟨Hd0, eHd0⟩ : ∃ z, z = sh_me' Hc (upd (sh_me Hc) (t + 5) (nI v1)) := ⟨_, rfl⟩
    obtain ⟨Hd, eHd⟩ : ∃ z, z = sh_br' Hd0 (upd (sh_br Hc) r (nI v1)) := ⟨_, rfl⟩
    have n1f : RDm M n (t + 5) Hc = RDm M n (t + 6) Hd := by rw [eHd, eHd0]; exact n1e
    have tc := sh_set_br eHd
    have tc0 := sh_set_me eHd0
    have Sc : SameT H Hd := by unfold SameT; simp only [tc, tc0, tb, tb0, sb, sb0, sa]; exact lS
    have nc_ : NRel K Hd (NN N0 N1 (s_Names_add N2 (tk_wo K (t + 1))) N3 N4) n := nb_.congr (by simp only [tc, tc0]) (by simp only [tc, tc0])
    have R3 := (R2.trans Nc).trans n1f
    have NZ := neu_k (M := M) (g := 39) hX (show t + 6 < n by omega) Sc (by omega) (by rw [show t + 6 - 1 = t + 5 by omega]; omega) (Fin.ext g39) (by decide)
    have fha : sh_ha Hd = sh_ha Hb := by simp only [tc, tc0, tb, tb0]
    have har : sh_ha Hd 6 = r + 1 := by rw [fha]; exact hr
    have hak : ∀ k, k ≠ 6 → sh_ha Hd k = sh_ha H1 k := fun k hk => by rw [fha]; exact hao k hk
    have fhg : sh_hg Hd = sh_hg H1 := by simp only [tc, tc0, tb, tb0, sb, sb0, sa]
    have fsn : sh_sn Hd = sh_sn H1 := by simp only [tc, tc0, tb, tb0, sb, sb0, sa]
    have fsi : sh_si Hd = sh_si H1 := by simp only [tc, tc0, tb, tb0, sb, sb0, sa]
    have fdp : sh_dp Hd = sh_dp H1 := by simp only [tc, tc0, tb, tb0, sb, sb0, sa]
    have fab : sh_ab Hd = upd (sh_ab H1) r (nI v0) := by simp only [tc, tc0, tb, tb0, sb, sb0, sa]
    have fbr : sh_br Hd = upd (sh_br H1) r (nI v1) := by simp only [tc, tc0, tb, tb0, sb, sb0, sa]
    have fdi : sh_di Hd = sh_di H1 := by simp only [tc, tc0, tb, tb0, sb, sb0, sa]
    have ffo : sh_fo Hd = sh_fo H1 := by simp only [tc, tc0, tb, tb0, sb, sb0, sa]
    have fsz : sh_sz Hd = sh_sz H1 := by simp only [tc, tc0, tb, tb0, sb, sb0, sa]
    have fsk : sh_sk Hd = sh_sk H1 := by simp only [tc, tc0, tb, tb0, sb, sb0, sa]
    have fti : sh_ti Hd = sh_ti H1 := by simp only [tc, tc0, tb, tb0, sb, sb0, sa]
    have fwa : sh_wa Hd = sh_wa H1 := by simp only [tc, tc0, tb, tb0, sb, sb0, sa]
    have for_ : sh_or Hd = sh_or H1 := by simp only [tc, tc0, tb, tb0, sb, sb0, sa]
    have fds : sh_ds Hd = sh_ds H1 := by simp only [tc, tc0, tb, tb0, sb, sb0, sa]
    have fon : sh_on Hd = sh_on H1 := by simp only [tc, tc0, tb, tb0, sb, sb0, sa]
    have fot : sh_ot Hd = sh_ot H1 := by simp only [tc, tc0, tb, tb0, sb, sb0, sa]
    have fsu : sh_su Hd = sh_su H1 := by simp only [tc, tc0, tb, tb0, sb, sb0, sa]
    have fwh : sh_wh Hd = sh_wh H1 := by simp only [tc, tc0, tb, tb0, sb, sb0, sa]
    have fme : ∀ j, j < t → sh_me Hd j = sh_me H1 j := fun j hj => by
      simp only [tc, tc0, tb, tb0, sb, sb0, sa]
      rw [upd_ne _ _ (by omega), upd_ne _ _ (by omega)]
    have tb := addCrevasse_t (σ := σ) (h1 := b.1) (h2 := c.1) (show gN σ 2 < 4 by rw [show gN σ 2 = sh_ha H1 6 from lG2.1, ← er0]; exact hr5)
    have RN := R2_add (h1 := b.1) (h2 := c.1) (ab' := sh_ab Hd) (br' := sh_br Hd) (m := r) (by rw [er0]; exact lG2) hr5 (by rw [fab, upd_at, qb]) (by rw [fbr, upd_at, qc]) (fun j hj => ⟨by rw [fab]; exact upd_ne _ _ (by omega), by rw [fbr]; exact upd_ne _ _ (by omega)⟩)
    have hM : ∀ k, sh_ha H1 k ≤ sh_ha Hd k := fun k => by
      by_cases z : k = 6
      · rw [z, har]; omega
      · rw [hak k z]; exact Nat.le_refl _
    have VN0 : V2 (sh_ha Hd 0) (r + 1) (sh_ab Hd) (sh_br Hd) := by
      intro x hx
      rw [fab, fbr, hak 0 (by decide)]
      by_cases z : x = r
      · rw [z, upd_at, upd_at]
        exact ⟨⟨v0, nb0, rfl⟩, ⟨v1, rfl, by omega, by omega⟩⟩
      · rw [upd_ne _ _ z, upd_ne _ _ z]
        exact lV2 x (by omega)
    refine .inr ⟨E3, Hd, ?_, Sc, ?_, ⟨by rw [hak 0 (by decide)]; exact c0, by rw [hak 3 (by decide)]; exact c3, by rw [har]; omega, by rw [hak 9 (by decide)]; exact c9, by rw [hak 11 (by decide)]; exact c11, by rw [for_]; exact c20⟩, ⟨by rw [tb.2.1 0 (by decide), hak 0 (by decide), fhg, fsn]; exact lG0, by rw [tb.2.1 1 (by decide), hak 3 (by decide), fsi, fdp]; exact lG1, by rw [har]; exact RN, by rw [tb.2.1 3 (by decide), hak 9 (by decide), fdi, ffo]; exact lG3, by rw [tb.2.1 4 (by decide), hak 11 (by decide), fsz, fsk, fti]; exact lG4, by rw [fwa]; show ∀ i, i < 8 → (s_Glacier_addCrevasse σ b.1 c.1).2.1 i = _; rw [tb.2.2]; exact lG5, by show (s_Glacier_addCrevasse σ b.1 c.1).2.2.1 = d; rw [tb.2.2]; exact lG6, by show (s_Glacier_addCrevasse σ b.1 c.1).2.2.2 = 0; rw [tb.2.2]; exact lG7⟩, ⟨by rw [hak 0 (by decide), fhg, fsn]; exact lV0, by rw [hak 3 (by decide), fsi, fdp]; exact lV1.mono (hM 0), by rw [har]; exact VN0, by rw [hak 9 (by decide), fdi, ffo]; exact lV3.mono (hM 0), by rw [hak 11 (by decide), fsz, fsk, fti]; exact lV4.mono (hM 0), by rw [fwa]; exact lV5⟩, ?_, aa, la1, by omega⟩
    · rw [p4]
      exact (R3.trans NZ)
    · rw [show a.2.2 = s_Names_add N2 (tk_wo K (t + 1)) by rw [a2]]
      exact nc_
    · exact lO.keep (by omega) la1 (by omega) fme hM for_ fds fon fot fsu fwh
theorem line_depot {K : TK} {H : SH} {n : Nat} {M : MO} {d : Int32} {t : Nat} {F : FM} {E : TE} {N0 N1 N2 N3 N4 : NM} {T : TM} {σ : GL} {M1 : MO} (hX : LX K H n) (hW : LW (mo_tk' M n) K (sh_fr H) (sh_mn H) n) (ht : t < n) (hg : gk K t = 9) : LINE K H n M d t F E (NN N0 N1 N2 N3 N4) T σ M1 (s_Tokens_expect (s_Teacher_readDepot (tA K t) F E N0 N1 N2 N3 N4 T σ).1 39) F (s_Teacher_readDepot (tA K t) F E N0 N1 N2 N3 N4 T σ).2.1 (NN N0 N1 N2 (s_Teacher_readDepot (tA K t) F E N0 N1 N2 N3 N4 T σ).2.2.1 N4) T (s_Teacher_readDepot (tA K t) F E N0 N1 N2 N3 N4 T σ).2.2.2 (isL H (mS M1 t 0)) := by
  have h400 := hX.1
  unfold s_Teacher_readDepot
  obtain ⟨a, ea⟩ : ∃ z, z = s_Teacher_newName (tA K t) E N3 4 := ⟨_, rfl⟩
  rw [← ea]
  obtain ⟨b, eb⟩ : ∃ z, z = s_Teacher_oldName a.1 a.2.1 N0 4 := ⟨_, rfl⟩
  rw [← eb]
  obtain ⟨c, ec⟩ : ∃ z, z = s_Teacher_number b.2.1 b.2.2 10 0 99 := ⟨_, rfl⟩
  rw [← ec]
  obtain ⟨s1, es1⟩ : ∃ z, z = nx K 9 50 (true, t) := ⟨_, rfl⟩
  have l1 : t ≤ s1.2 ∧ s1.2 ≤ n := by rw [es1]; exact nx_le (s := (true, t)) hX (by decide) (by decide) (Nat.le_of_lt ht)
  obtain ⟨s2, es2⟩ : ∃ z, z = nx K 4 50 s1 := ⟨_, rfl⟩
  have l2 : s1.2 ≤ s2.2 ∧ s2.2 ≤ n := by rw [es2]; exact nx_le hX (by decide) (by decide) l1.2
  obtain ⟨s3, es3⟩ : ∃ z, z = nx K 10 51 s2 := ⟨_, rfl⟩
  have l3 : s2.2 ≤ s3.2 ∧ s3.2 ≤ n := by rw [es3]; exact nx_le hX (by decide) (by decide) l2.2
  obtain ⟨s4, es4⟩ : ∃ z, z = nx1 K 39 s3 := ⟨_, rfl⟩
  have l4 : s3.2 ≤ s4.2 ∧ s4.2 ≤ n := by rw [es4]; exact nx1_le hX (by decide) l3.2
  have ka : a.1 = st K s1 := by rw [ea, new_st hX ht, hg, es1]; rfl
  have kb : b.2.1 = st K s2 := by rw [eb, ka, es2]; exact old_st hX (by decide) l1.2
  have kc : c.2.1 = st K s3 := by rw [ec, kb, es3]; exact num_st hX (by decide) l2.2
  have ke : s_Tokens_expect c.2.1 39 = st K s4 := by rw [kc, es4]; exact exp_st hX (by decide) l3.2
  have hm : isL H (mS M1 t 0) = md s4 M1 := by
    have hl : s_Model_isLine H (mS M1 t 0) = md s3 M1 := by
      unfold s_Model_isLine
      rw [if_pos (show mo_tk (mS M1 t 0) < 401 by show t < 401; omega), show sh_kd H (mo_tk (mS M1 t 0)) = 9 by (show sh_kd H t = _; rw [(hX.2.2 t (by omega)).2.1, hg]; rfl), if_neg (show ¬ (9 : Int32) = 0 by decide), if_neg (show ¬ (9 : Int32) = 3 by decide), if_neg (show ¬ (9 : Int32) = 6 by decide), if_pos (show (9 : Int32) = 9 from rfl)]
      rw [isNam_md hX (Nat.le_of_lt ht) (k := 9) (y := 9) (by decide) rfl, ← es1, md_nam hX l1.2 (k := 4) (y := 4) (by decide) rfl, ← es2, md_num hX l2.2 (k := 10) (y := 10) (by decide) rfl, ← es3, md_end]
    unfold isL
    rw [hl, md_eat hX l3.2 (k := 44) (y := 39) (by decide) rfl, ← es4, md_end]
  refine ⟨s4, 0, ke, hm, by omega, by omega, fun hok => ?_⟩
  obtain ⟨o3, g39, p4⟩ : s3.1 = true ∧ (gk K s3.2).val = 39 ∧ s4.2 = s3.2 + 1 := by rw [es4] at hok ⊢; exact nx1_true hok
  obtain ⟨o2, x3, y3, p3⟩ : s2.1 = true ∧ (gk K s2.2).val = 10 ∧ (gk K (s2.2 + 1)).val = 51 ∧ s3.2 = s2.2 + 2 := by rw [es3] at o3 ⊢; exact nx_true o3
  obtain ⟨o1, x2, y2, p2⟩ : s1.1 = true ∧ (gk K s1.2).val = 4 ∧ (gk K (s1.2 + 1)).val = 50 ∧ s2.2 = s1.2 + 2 := by rw [es2] at o2 ⊢; exact nx_true o2
  obtain ⟨-, x1, y1, p1⟩ : true = true ∧ (gk K t).val = 9 ∧ (gk K (t + 1)).val = 50 ∧ s1.2 = t + 2 := by rw [es1] at o1 ⊢; exact nx_true o1
  replace p2 : s2.2 = t + 4 := by omega
  rw [p1] at x2 y2
  replace y2 : (gk K (t + 3)).val = 50 := y2
  replace p3 : s3.2 = t + 6 := by omega
  rw [p2] at x3 y3
  replace y3 : (gk K (t + 5)).val = 51 := y3
  replace p4 : s4.2 = t + 7 := by omega
  rw [p3] at g39
  replace ka : a.1 = tA K (t + 2) := by rw [ka]; unfold st; rw [if_pos o1, p1]
  replace kb : b.2.1 = tA K (t + 4) := by rw [kb]; unfold st; rw [if_pos o2, p2]
  refine ⟨rfl, by omega, by rw [show s4.2 - 1 = t + 6 by omega]; exact g39, fun hE => ?_, fun hE H1 hL h0 => ?_⟩
  · have z1 : a.2.1 = E := by rw [ea]; exact new_sticky hE
    have z2 : b.2.2 = E := by rw [eb, z1]; exact old_sticky hE
    have z3 : c.2.2 = E := by rw [ec, z2]; exact num_sticky hE
    exact z3
  · obtain ⟨lS, lN, lC, lG, lV, lO, aa, la1, la2⟩ := hL
    obtain ⟨c0, c3, c6, c9, c11, c20⟩ := lC
    obtain ⟨lG0, lG1, lG2, lG3, lG4, lG5, lG6, lG7⟩ := lG
    obtain ⟨lV0, lV1, lV2, lV3, lV4, lV5⟩ := lV
    have r0 := start_k (M := M) hX ht lS h0 hg (by decide)
    obtain ⟨Ha, eHa⟩ : ∃ z, z = sh_ln' H1 (kOf 9) := ⟨_, rfl⟩
    rw [← eHa] at r0
    have sa := sh_set_ln eHa
    have Sa : SameT H Ha := by unfold SameT; simp only [sa]; exact lS
    have na : NRel K Ha (NN N0 N1 N2 N3 N4) n := lN.congr (by simp only [sa]) (by simp only [sa])
    have haa : sh_ha Ha = sh_ha H1 := by simp only [sa]
    have er_ : ∀ p Hx E2, ERR K M n p Hx E2 → RDm M n t H1 = RDm M n p Hx → c.2.2 = E2 → ERR K M n t H1 c.2.2 ∨ (c.2.2 = E ∧ ∃ H2, RDm M n t H1 = RDm M n s4.2 H2 ∧ LREL K H n d s4.2 F (NN N0 N1 N2 a.2.2 N4) T (s_Glacier_addDepot σ b.1 c.1) H2) := fun p Hx E2 w1 w2 w3 => .inl (w1.back w2 w3)
    rcases new_step (M := M) (i := 3) hX hW (show t + 1 < n by omega) Sa na (by decide) (by rw [haa]; exact c9) (by rw [hg]; rfl) y1 hE with er | ⟨u1, u2, u3⟩
    · refine er_ (t + 1) Ha _ er (r0) ?_
      have w0 : ¬ te_er a.2.1 = 0 := by rw [show a.2.1 = (s_Teacher_newName (tA K t) E (NN N0 N1 N2 N3 N4 3) (nI (mst 3))).2.1 by rw [ea]; rfl]; exact ne_le er.1
      have w1 : b.2.2 = a.2.1 := by rw [eb]; exact old_sticky w0
      have w2 : c.2.2 = a.2.1 := by rw [ec, w1]; exact num_sticky w0
      rw [w2, show a.2.1 = (s_Teacher_newName (tA K t) E (NN N0 N1 N2 N3 N4 3) (nI (mst 3))).2.1 by rw [ea]; rfl]
    have a2 : a.2 = (E, s_Names_add N3 (tk_wo K (t + 1))) := by rw [ea]; exact u2
    obtain ⟨Hb0, eHb0⟩ : ∃ z, z = sh_na' Ha (updN (sh_na Ha) (6 * srt 3 + sh_ha Ha (srt 3)) (t + 1)) := ⟨_, rfl⟩
    rw [← eHb0] at u3
    obtain ⟨Hb, eHb⟩ : ∃ z, z = sh_ha' Hb0 (updN (sh_ha Ha) (srt 3) (sh_ha Ha (srt 3) + 1)) := ⟨_, rfl⟩
    rw [← eHb] at u3
    have sb0 := sh_set_na eHb0
    have sb := sh_set_ha eHb
    have Sb : SameT H Hb := by unfold SameT; simp only [sb, sb0, sa]; exact lS
    have nb : NRel K Hb (NN N0 N1 N2 (s_Names_add N3 (tk_wo K (t + 1))) N4) n := nrel_add (N := NN N0 N1 N2 N3 N4) (i := 3) (x := t + 1) na (by decide) u1 (by omega) y1 rfl (fun j hj hne => by
      match j, hj, hne with
      | 0, _, h => rfl
      | 1, _, h => rfl
      | 2, _, h => rfl
      | 3, _, h => exact absurd rfl h
      | 4, _, h => rfl
      | _ + 5, w, _ => exact absurd w (by omega)) (by simp only [sb, sb0]) (by simp only [sb, sb0])
    obtain ⟨r, er0⟩ : ∃ z, z = sh_ha H1 9 := ⟨_, rfl⟩
    have hr : sh_ha Hb 9 = r + 1 := by
      simp only [sb]
      rw [haa, er0]
      exact updN_at _ _ _
    have hr5 : r < 4 := by rw [er0, ← haa]; exact u1
    have hao : ∀ k, k ≠ 9 → sh_ha Hb k = sh_ha H1 k := fun k hk => by
      simp only [sb]
      rw [haa]
      exact updN_ne _ _ hk
    have R1 := r0.trans u3
    have E1 : a.2.1 = E := by rw [a2]
    have Nb := neu_k (M := M) (g := 4) hX (show t + 2 < n by omega) Sb (by omega) (by rw [show t + 2 - 1 = t + 1 by omega]; omega) (Fin.ext x2) (by decide)
    have HR0 : sh_ha Hb 9 = r + 1 := hr
    have db : b = s_Teacher_oldName (tA K (t + 2)) E ((NN N0 N1 N2 (s_Names_add N3 (tk_wo K (t + 1))) N4) 0) (gk K (t + 2)) := by rw [eb, ka, E1, show gk K (t + 2) = 4 from Fin.ext x2]; rfl
    rcases old_step (M := M) (Ha := Hb) (t := t + 2) (i := 0) (E := E) (W := fun x => sh_di' (sh_me' Hb (upd (sh_me Hb) (t + 2 + 1) x)) (upd (sh_di Hb) r x)) hX hW (show t + 2 + 1 < n by omega) Sb nb (by decide) y2 hE (by rw [show gk K (t + 2) = 4 from Fin.ext x2]; decide) (fun x hx hfx => eo_in9 (M := mo_tk' M n) (i := t + 2 + 1) (x := x) (by omega) (by omega) (by have := (nb 0 (by decide)).1; have := (nb 0 (by decide)).2.1; omega) (by rw [Nat.add_sub_cancel, Sb.1, (hX.2.2 (t + 2) (by omega)).2.1, show gk K (t + 2) = 4 from Fin.ext x2]; rfl) hfx (by simp only [sb, sb0, sa]; rfl) HR0 hr5) with er | ⟨v0, n0a, n0c, n0d, n0e⟩
    · refine er_ (t + 2 + 1) Hb _ er ((R1.trans Nb)) ?_
      have w0 : ¬ te_er b.2.2 = 0 := by rw [show b.2.2 = (s_Teacher_oldName (tA K (t + 2)) E ((NN N0 N1 N2 (s_Names_add N3 (tk_wo K (t + 1))) N4) 0) (gk K (t + 2))).2.2 by rw [db]]; exact ne_le er.1
      have w2 : c.2.2 = b.2.2 := by rw [ec]; exact num_sticky w0
      rw [w2, show b.2.2 = (s_Teacher_oldName (tA K (t + 2)) E ((NN N0 N1 N2 (s_Names_add N3 (tk_wo K (t + 1))) N4) 0) (gk K (t + 2))).2.2 by rw [db]]
    have qb : b.1 = nI v0 := by rw [db]; exact n0c
    have E2 : b.2.2 = E := by rw [db]; exact n0d
    have nb0 : v0 < sh_ha H1 0 := by rw [← hao 0 (by decide)]; exact n0a
    obtain ⟨Hc0, eHc0⟩ : ∃ z, z = sh_me' Hb (upd (sh_me Hb) (t + 2 + 1) (nI v0)) := ⟨_, rfl⟩
    obtain ⟨Hc, eHc⟩ : ∃ z, z = sh_di' Hc0 (upd (sh_di Hb) r (nI v0)) := ⟨_, rfl⟩
    have n0f : RDm M n (t + 3) Hb = RDm M n (t + 4) Hc := by rw [eHc, eHc0]; exact n0e
    have tb := sh_set_di eHc
    have tb0 := sh_set_me eHc0
    have Sb : SameT H Hc := by unfold SameT; simp only [tb, tb0, sb, sb0, sa]; exact lS
    have nb_ : NRel K Hc (NN N0 N1 N2 (s_Names_add N3 (tk_wo K (t + 1))) N4) n := nb.congr (by simp only [tb, tb0]) (by simp only [tb, tb0])
    have R2 := (R1.trans Nb).trans n0f
    have Nc := neu_k (M := M) (g := 10) hX (show t + 4 < n by omega) Sb (by omega) (by rw [show t + 4 - 1 = t + 3 by omega]; omega) (Fin.ext x3) (by decide)
    obtain ⟨v1, va1, vb1, vc1⟩ := hW.2 (t + 5) (by omega) y3 Hc Sb.2.1 Sb.2.2
    have HR1 : sh_ha Hc 9 = r + 1 := by simp only [tb, tb0]; exact hr
    have ec_ := en_10d (M := mo_tk' M n) (i := t + 5) (v := v1) (by omega) (by omega) (by rw [show t + 5 - 1 = t + 4 by omega, Sb.1, (hX.2.2 (t + 4) (by omega)).2.1, show gk K (t + 4) = 10 from Fin.ext x3]; rfl) (by rw [Sb.1, (hX.2.2 (t + 5) (by omega)).2.1, show gk K (t + 5) = 51 from Fin.ext y3]; rfl) vb1 (by simp only [tb, tb0, sb, sb0, sa]; rfl) HR1 hr5
    have dc : c = s_Teacher_number (tA K (t + 4)) E (gk K (t + 4)) (nI 0) (nI 99) := by rw [ec, kb, E2, show gk K (t + 4) = 10 from Fin.ext x3]; rfl
    rcases num_step (M := M) (Ha := Hc) (Hw := sh_fo' (sh_me' Hc (upd (sh_me Hc) (t + 5) (nI v1))) (upd (sh_fo Hc) r (nI v1))) (t := t + 4) (k := v1) (l := 0) (h := 99) (E := E) hX (show t + 4 + 1 < n by omega) Sb (by omega) (by decide) va1 vc1 y3 hE rfl ec_ with er | ⟨n1a, n1b, n1c, n1d, n1e⟩
    · refine er_ (t + 4 + 1) Hc _ er ((R2.trans Nc)) ?_
      have w0 : ¬ te_er c.2.2 = 0 := by rw [show c.2.2 = (s_Teacher_number (tA K (t + 4)) E (gk K (t + 4)) (nI 0) (nI 99)).2.2 by rw [dc]]; exact ne_le er.1
      rw [show c.2.2 = (s_Teacher_number (tA K (t + 4)) E (gk K (t + 4)) (nI 0) (nI 99)).2.2 by rw [dc]]
    have qc : c.1 = nI v1 := by rw [dc]; exact n1c
    have E3 : c.2.2 = E := by rw [dc]; exact n1d
    obtain ⟨Hd0, eHd0⟩ : ∃ z, z = sh_me' Hc (upd (sh_me Hc) (t + 5) (nI v1)) := ⟨_, rfl⟩
    obtain ⟨Hd, eHd⟩ : ∃ z, z = sh_fo' Hd0 (upd (sh_fo Hc) r (nI v1)) := ⟨_, rfl⟩
    have n1f : RDm M n (t + 5) Hc = RDm M n (t + 6) Hd := by rw [eHd, eHd0]; exact n1e
    have tc := sh_set_fo eHd
    have tc0 := sh_set_me eHd0
    have Sc : SameT H Hd := by unfold SameT; simp only [tc, tc0, tb, tb0, sb, sb0, sa]; exact lS
    have nc_ : NRel K Hd (NN N0 N1 N2 (s_Names_add N3 (tk_wo K (t + 1))) N4) n := nb_.congr (by simp only [tc, tc0]) (by simp only [tc, tc0])
    have R3 := (R2.trans Nc).trans n1f
    have NZ := neu_k (M := M) (g := 39) hX (show t + 6 < n by omega) Sc (by omega) (by rw [show t + 6 - 1 = t + 5 by omega]; omega) (Fin.ext g39) (by decide)
    have fha : sh_ha Hd = sh_ha Hb := by simp only [tc, tc0, tb, tb0]
    have har : sh_ha Hd 9 = r + 1 := by rw [fha]; exact hr
    have hak : ∀ k, k ≠ 9 → sh_ha Hd k = sh_ha H1 k := fun k hk => by rw [fha]; exact hao k hk
    have fhg : sh_hg Hd = sh_hg H1 := by simp only [tc, tc0, tb, tb0, sb, sb0, sa]
    have fsn : sh_sn Hd = sh_sn H1 := by simp only [tc, tc0, tb, tb0, sb, sb0, sa]
    have fsi : sh_si Hd = sh_si H1 := by simp only [tc, tc0, tb, tb0, sb, sb0, sa]
    have fdp : sh_dp Hd = sh_dp H1 := by simp only [tc, tc0, tb, tb0, sb, sb0, sa]
    have fab : sh_ab Hd = sh_ab H1 := by simp only [tc, tc0, tb, tb0, sb, sb0, sa]
    have fbr : sh_br Hd = sh_br H1 := by simp only [tc, tc0, tb, tb0, sb, sb0, sa]
    have fdi : sh_di Hd = upd (sh_di H1) r (nI v0) := by simp only [tc, tc0, tb, tb0, sb, sb0, sa]
    have ffo : sh_fo Hd = upd (sh_fo H1) r (nI v1) := by simp only [tc, tc0, tb, tb0, sb, sb0, sa]
    have fsz : sh_sz Hd = sh_sz H1 := by simp only [tc, tc0, tb, tb0, sb, sb0, sa]
    have fsk : sh_sk Hd = sh_sk H1 := by simp only [tc, tc0, tb, tb0, sb, sb0, sa]
    have fti : sh_ti Hd = sh_ti H1 := by simp only [tc, tc0, tb, tb0, sb, sb0, sa]
    have fwa : sh_wa Hd = sh_wa H1 := by simp only [tc, tc0, tb, tb0, sb, sb0, sa]
    have for_ : sh_or Hd = sh_or H1 := by simp only [tc, tc0, tb, tb0, sb, sb0, sa]
    have fds : sh_ds Hd = sh_ds H1 := by simp only [tc, tc0, tb, tb0, sb, sb0, sa]
    have fon : sh_on Hd = sh_on H1 := by simp only [tc, tc0, tb, tb0, sb, sb0, sa]
    have fot : sh_ot Hd = sh_ot H1 := by simp only [tc, tc0, tb, tb0, sb, sb0, sa]
    have fsu : sh_su Hd = sh_su H1 := by simp only [tc, tc0, tb, tb0, sb, sb0, sa]
    have fwh : sh_wh Hd = sh_wh H1 := by simp only [tc, tc0, tb, tb0, sb, sb0, sa]
    have fme : ∀ j, j < t → sh_me Hd j = sh_me H1 j := fun j hj => by
      simp only [tc, tc0, tb, tb0, sb, sb0, sa]
      rw [upd_ne _ _ (by omega), upd_ne _ _ (by omega)]
    have tb := addDepot_t (σ := σ) (h1 := b.1) (h2 := c.1) (show gN σ 3 < 4 by rw [show gN σ 3 = sh_ha H1 9 from lG3.1, ← er0]; exact hr5)
    have RN := R3_add (h1 := b.1) (h2 := c.1) (di' := sh_di Hd) (fo' := sh_fo Hd) (m := r) (by rw [er0]; exact lG3) hr5 (by rw [fdi, upd_at, qb]) (by rw [ffo, upd_at, qc]) (fun j hj => ⟨by rw [fdi]; exact upd_ne _ _ (by omega), by rw [ffo]; exact upd_ne _ _ (by omega)⟩)
    have hM : ∀ k, sh_ha H1 k ≤ sh_ha Hd k := fun k => by
      by_cases z : k = 9
      · rw [z, har]; omega
      · rw [hak k z]; exact Nat.le_refl _
    have VN0 : V3 (sh_ha Hd 0) (r + 1) (sh_di Hd) (sh_fo Hd) := by
      intro x hx
      rw [fdi, ffo, hak 0 (by decide)]
      by_cases z : x = r
      · rw [z, upd_at, upd_at]
        exact ⟨⟨v0, nb0, rfl⟩, ⟨v1, rfl, by omega, by omega⟩⟩
      · rw [upd_ne _ _ z, upd_ne _ _ z]
        exact lV3 x (by omega)
    refine .inr ⟨E3, Hd, ?_, Sc, ?_, ⟨by rw [hak 0 (by decide)]; exact c0, by rw [hak 3 (by decide)]; exact c3, by rw [hak 6 (by decide)]; exact c6, by rw [har]; omega, by rw [hak 11 (by decide)]; exact c11, by rw [for_]; exact c20⟩, ⟨by rw [tb.2.1 0 (by decide), hak 0 (by decide), fhg, fsn]; exact lG0, by rw [tb.2.1 1 (by decide), hak 3 (by decide), fsi, fdp]; exact lG1, by rw [tb.2.1 2 (by decide), hak 6 (by decide), fab, fbr]; exact lG2, by rw [har]; exact RN, by rw [tb.2.1 4 (by decide), hak 11 (by decide), fsz, fsk, fti]; exact lG4, by rw [fwa]; show ∀ i, i < 8 → (s_Glacier_addDepot σ b.1 c.1).2.1 i = _; rw [tb.2.2]; exact lG5, by show (s_Glacier_addDepot σ b.1 c.1).2.2.1 = d; rw [tb.2.2]; exact lG6, by show (s_Glacier_addDepot σ b.1 c.1).2.2.2 = 0; rw [tb.2.2]; exact lG7⟩, ⟨by rw [hak 0 (by decide), fhg, fsn]; exact lV0, by rw [hak 3 (by decide), fsi, fdp]; exact lV1.mono (hM 0), by rw [hak 6 (by decide), fab, fbr]; exact lV2.mono (hM 0), by rw [har]; exact VN0, by rw [hak 11 (by decide), fsz, fsk, fti]; exact lV4.mono (hM 0), by rw [fwa]; exact lV5⟩, ?_, aa, la1, by omega⟩
    · rw [p4]
      exact (R3.trans NZ)
    · rw [show a.2.2 = s_Names_add N3 (tk_wo K (t + 1)) by rw [a2]]
      exact nc_
    · exact lO.keep (by omega) la1 (by omega) fme hM for_ fds fon fot fsu fwh
theorem line_team {K : TK} {H : SH} {n : Nat} {M : MO} {d : Int32} {t : Nat} {F : FM} {E : TE} {N0 N1 N2 N3 N4 : NM} {T : TM} {σ : GL} {M1 : MO} (hX : LX K H n) (hW : LW (mo_tk' M n) K (sh_fr H) (sh_mn H) n) (ht : t < n) (hg : gk K t = 11) : LINE K H n M d t F E (NN N0 N1 N2 N3 N4) T σ M1 (s_Tokens_expect (s_Teacher_readTeam (tA K t) F E N0 N1 N2 N3 N4 T σ).1 39) F (s_Teacher_readTeam (tA K t) F E N0 N1 N2 N3 N4 T σ).2.1 (NN N0 N1 N2 N3 (s_Teacher_readTeam (tA K t) F E N0 N1 N2 N3 N4 T σ).2.2.1) T (s_Teacher_readTeam (tA K t) F E N0 N1 N2 N3 N4 T σ).2.2.2 (isL H (mS M1 t 0)) := by
  have h400 := hX.1
  unfold s_Teacher_readTeam
  obtain ⟨a, ea⟩ : ∃ z, z = s_Teacher_newName (tA K t) E N4 4 := ⟨_, rfl⟩
  rw [← ea]
  obtain ⟨b, eb⟩ : ∃ z, z = s_Teacher_oldName a.1 a.2.1 N0 4 := ⟨_, rfl⟩
  rw [← eb]
  obtain ⟨c, ec⟩ : ∃ z, z = s_Teacher_number b.2.1 b.2.2 12 2 6 := ⟨_, rfl⟩
  rw [← ec]
  obtain ⟨g, eg⟩ : ∃ z, z = s_Teacher_number c.2.1 c.2.2 10 0 40 := ⟨_, rfl⟩
  rw [← eg]
  obtain ⟨s1, es1⟩ : ∃ z, z = nx K 11 50 (true, t) := ⟨_, rfl⟩
  have l1 : t ≤ s1.2 ∧ s1.2 ≤ n := by rw [es1]; exact nx_le (s := (true, t)) hX (by decide) (by decide) (Nat.le_of_lt ht)
  obtain ⟨s2, es2⟩ : ∃ z, z = nx K 4 50 s1 := ⟨_, rfl⟩
  have l2 : s1.2 ≤ s2.2 ∧ s2.2 ≤ n := by rw [es2]; exact nx_le hX (by decide) (by decide) l1.2
  obtain ⟨s3, es3⟩ : ∃ z, z = nx K 12 51 s2 := ⟨_, rfl⟩
  have l3 : s2.2 ≤ s3.2 ∧ s3.2 ≤ n := by rw [es3]; exact nx_le hX (by decide) (by decide) l2.2
  obtain ⟨s4, es4⟩ : ∃ z, z = nx K 10 51 s3 := ⟨_, rfl⟩
  have l4 : s3.2 ≤ s4.2 ∧ s4.2 ≤ n := by rw [es4]; exact nx_le hX (by decide) (by decide) l3.2
  obtain ⟨s5, es5⟩ : ∃ z, z = nx1 K 39 s4 := ⟨_, rfl⟩
  have l5 : s4.2 ≤ s5.2 ∧ s5.2 ≤ n := by rw [es5]; exact nx1_le hX (by decide) l4.2
  have ka : a.1 = st K s1 := by rw [ea, new_st hX ht, hg, es1]; rfl
  have kb : b.2.1 = st K s2 := by rw [eb, ka, es2]; exact old_st hX (by decide) l1.2
  have kc : c.2.1 = st K s3 := by rw [ec, kb, es3]; exact num_st hX (by decide) l2.2
  have kg : g.2.1 = st K s4 := by rw [eg, kc, es4]; exact num_st hX (by decide) l3.2
  have ke : s_Tokens_expect g.2.1 39 = st K s5 := by rw [kg, es5]; exact exp_st hX (by decide) l4.2
  have hm : isL H (mS M1 t 0) = md s5 M1 := by
    have hl : s_Model_isLine H (mS M1 t 0) = md s4 M1 := by
      unfold s_Model_isLine
      rw [if_pos (show mo_tk (mS M1 t 0) < 401 by show t < 401; omega), show sh_kd H (mo_tk (mS M1 t 0)) = 11 by (show sh_kd H t = _; rw [(hX.2.2 t (by omega)).2.1, hg]; rfl), if_neg (show ¬ (11 : Int32) = 0 by decide), if_neg (show ¬ (11 : Int32) = 3 by decide), if_neg (show ¬ (11 : Int32) = 6 by decide), if_neg (show ¬ (11 : Int32) = 9 by decide), if_pos (show (11 : Int32) = 11 from rfl)]
      rw [isNam_md hX (Nat.le_of_lt ht) (k := 11) (y := 11) (by decide) rfl, ← es1, md_nam hX l1.2 (k := 4) (y := 4) (by decide) rfl, ← es2, md_num hX l2.2 (k := 12) (y := 12) (by decide) rfl, ← es3, md_num hX l3.2 (k := 10) (y := 10) (by decide) rfl, ← es4, md_end]
    unfold isL
    rw [hl, md_eat hX l4.2 (k := 44) (y := 39) (by decide) rfl, ← es5, md_end]
  refine ⟨s5, 0, ke, hm, by omega, by omega, fun hok => ?_⟩
  obtain ⟨o4, g39, p5⟩ : s4.1 = true ∧ (gk K s4.2).val = 39 ∧ s5.2 = s4.2 + 1 := by rw [es5] at hok ⊢; exact nx1_true hok
  obtain ⟨o3, x4, y4, p4⟩ : s3.1 = true ∧ (gk K s3.2).val = 10 ∧ (gk K (s3.2 + 1)).val = 51 ∧ s4.2 = s3.2 + 2 := by rw [es4] at o4 ⊢; exact nx_true o4
  obtain ⟨o2, x3, y3, p3⟩ : s2.1 = true ∧ (gk K s2.2).val = 12 ∧ (gk K (s2.2 + 1)).val = 51 ∧ s3.2 = s2.2 + 2 := by rw [es3] at o3 ⊢; exact nx_true o3
  obtain ⟨o1, x2, y2, p2⟩ : s1.1 = true ∧ (gk K s1.2).val = 4 ∧ (gk K (s1.2 + 1)).val = 50 ∧ s2.2 = s1.2 + 2 := by rw [es2] at o2 ⊢; exact nx_true o2
  obtain ⟨-, x1, y1, p1⟩ : true = true ∧ (gk K t).val = 11 ∧ (gk K (t + 1)).val = 50 ∧ s1.2 = t + 2 := by rw [es1] at o1 ⊢; exact nx_true o1
  replace p2 : s2.2 = t + 4 := by omega
  rw [p1] at x2 y2
  replace y2 : (gk K (t + 3)).val = 50 := y2
  replace p3 : s3.2 = t + 6 := by omega
  rw [p2] at x3 y3
  replace y3 : (gk K (t + 5)).val = 51 := y3
  replace p4 : s4.2 = t + 8 := by omega
  rw [p3] at x4 y4
  replace y4 : (gk K (t + 7)).val = 51 := y4
  replace p5 : s5.2 = t + 9 := by omega
  rw [p4] at g39
  replace ka : a.1 = tA K (t + 2) := by rw [ka]; unfold st; rw [if_pos o1, p1]
  replace kb : b.2.1 = tA K (t + 4) := by rw [kb]; unfold st; rw [if_pos o2, p2]
  replace kc : c.2.1 = tA K (t + 6) := by rw [kc]; unfold st; rw [if_pos o3, p3]
  refine ⟨rfl, by omega, by rw [show s5.2 - 1 = t + 8 by omega]; exact g39, fun hE => ?_, fun hE H1 hL h0 => ?_⟩
  · have z1 : a.2.1 = E := by rw [ea]; exact new_sticky hE
    have z2 : b.2.2 = E := by rw [eb, z1]; exact old_sticky hE
    have z3 : c.2.2 = E := by rw [ec, z2]; exact num_sticky hE
    have z4 : g.2.2 = E := by rw [eg, z3]; exact num_sticky hE
    exact z4
  · obtain ⟨lS, lN, lC, lG, lV, lO, aa, la1, la2⟩ := hL
    obtain ⟨c0, c3, c6, c9, c11, c20⟩ := lC
    obtain ⟨lG0, lG1, lG2, lG3, lG4, lG5, lG6, lG7⟩ := lG
    obtain ⟨lV0, lV1, lV2, lV3, lV4, lV5⟩ := lV
    have r0 := start_k (M := M) hX ht lS h0 hg (by decide)
    obtain ⟨Ha, eHa⟩ : ∃ z, z = sh_ln' H1 (kOf 11) := ⟨_, rfl⟩
    rw [← eHa] at r0
    have sa := sh_set_ln eHa
    have Sa : SameT H Ha := by unfold SameT; simp only [sa]; exact lS
    have na : NRel K Ha (NN N0 N1 N2 N3 N4) n := lN.congr (by simp only [sa]) (by simp only [sa])
    have haa : sh_ha Ha = sh_ha H1 := by simp only [sa]
    have er_ : ∀ p Hx E2, ERR K M n p Hx E2 → RDm M n t H1 = RDm M n p Hx → g.2.2 = E2 → ERR K M n t H1 g.2.2 ∨ (g.2.2 = E ∧ ∃ H2, RDm M n t H1 = RDm M n s5.2 H2 ∧ LREL K H n d s5.2 F (NN N0 N1 N2 N3 a.2.2) T (s_Glacier_addTeam σ b.1 c.1 g.1) H2) := fun p Hx E2 w1 w2 w3 => .inl (w1.back w2 w3)
    rcases new_step (M := M) (i := 4) hX hW (show t + 1 < n by omega) Sa na (by decide) (by rw [haa]; exact c11) (by rw [hg]; rfl) y1 hE with er | ⟨u1, u2, u3⟩
    · refine er_ (t + 1) Ha _ er (r0) ?_
      have w0 : ¬ te_er a.2.1 = 0 := by rw [show a.2.1 = (s_Teacher_newName (tA K t) E (NN N0 N1 N2 N3 N4 4) (nI (mst 4))).2.1 by rw [ea]; rfl]; exact ne_le er.1
      have w1 : b.2.2 = a.2.1 := by rw [eb]; exact old_sticky w0
      have w2 : c.2.2 = a.2.1 := by rw [ec, w1]; exact num_sticky w0
      have w3 : g.2.2 = a.2.1 := by rw [eg, w2]; exact num_sticky w0
      rw [w3, show a.2.1 = (s_Teacher_newName (tA K t) E (NN N0 N1 N2 N3 N4 4) (nI (mst 4))).2.1 by rw [ea]; rfl]
    have a2 : a.2 = (E, s_Names_add N4 (tk_wo K (t + 1))) := by rw [ea]; exact u2
    obtain ⟨Hb0, eHb0⟩ : ∃ z, z = sh_na' Ha (updN (sh_na Ha) (6 * srt 4 + sh_ha Ha (srt 4)) (t + 1)) := ⟨_, rfl⟩
    rw [← eHb0] at u3
    obtain ⟨Hb, eHb⟩ : ∃ z, z = sh_ha' Hb0 (updN (sh_ha Ha) (srt 4) (sh_ha Ha (srt 4) + 1)) := ⟨_, rfl⟩
    rw [← eHb] at u3
    have sb0 := sh_set_na eHb0
    have sb := sh_set_ha eHb
    have Sb : SameT H Hb := by unfold SameT; simp only [sb, sb0, sa]; exact lS
    have nb : NRel K Hb (NN N0 N1 N2 N3 (s_Names_add N4 (tk_wo K (t + 1)))) n := nrel_add (N := NN N0 N1 N2 N3 N4) (i := 4) (x := t + 1) na (by decide) u1 (by omega) y1 rfl (fun j hj hne => by
      match j, hj, hne with
      | 0, _, h => rfl
      | 1, _, h => rfl
      | 2, _, h => rfl
      | 3, _, h => rfl
      | 4, _, h => exact absurd rfl h
      | _ + 5, w, _ => exact absurd w (by omega)) (by simp only [sb, sb0]) (by simp only [sb, sb0])
    obtain ⟨r, er0⟩ : ∃ z, z = sh_ha H1 11 := ⟨_, rfl⟩
    have hr : sh_ha Hb 11 = r + 1 := by
      simp only [sb]
      rw [haa, er0]
      exact updN_at _ _ _
    have hr5 : r < 4 := by rw [er0, ← haa]; exact u1
    have hao : ∀ k, k ≠ 11 → sh_ha Hb k = sh_ha H1 k := fun k hk => by
      simp only [sb]
      rw [haa]
      exact updN_ne _ _ hk
    have R1 := r0.trans u3
    have E1 : a.2.1 = E := by rw [a2]
    have Nb := neu_k (M := M) (g := 4) hX (show t + 2 < n by omega) Sb (by omega) (by rw [show t + 2 - 1 = t + 1 by omega]; omega) (Fin.ext x2) (by decide)
    have HR0 : sh_ha Hb 11 = r + 1 := hr
    have db : b = s_Teacher_oldName (tA K (t + 2)) E ((NN N0 N1 N2 N3 (s_Names_add N4 (tk_wo K (t + 1)))) 0) (gk K (t + 2)) := by rw [eb, ka, E1, show gk K (t + 2) = 4 from Fin.ext x2]; rfl
    rcases old_step (M := M) (Ha := Hb) (t := t + 2) (i := 0) (E := E) (W := fun x => sh_ti' (sh_me' Hb (upd (sh_me Hb) (t + 2 + 1) x)) (upd (sh_ti Hb) r x)) hX hW (show t + 2 + 1 < n by omega) Sb nb (by decide) y2 hE (by rw [show gk K (t + 2) = 4 from Fin.ext x2]; decide) (fun x hx hfx => eo_in11 (M := mo_tk' M n) (i := t + 2 + 1) (x := x) (by omega) (by omega) (by have := (nb 0 (by decide)).1; have := (nb 0 (by decide)).2.1; omega) (by rw [Nat.add_sub_cancel, Sb.1, (hX.2.2 (t + 2) (by omega)).2.1, show gk K (t + 2) = 4 from Fin.ext x2]; rfl) hfx (by simp only [sb, sb0, sa]; rfl) HR0 hr5) with er | ⟨v0, n0a, n0c, n0d, n0e⟩
    · refine er_ (t + 2 + 1) Hb _ er ((R1.trans Nb)) ?_
      have w0 : ¬ te_er b.2.2 = 0 := by rw [show b.2.2 = (s_Teacher_oldName (tA K (t + 2)) E ((NN N0 N1 N2 N3 (s_Names_add N4 (tk_wo K (t + 1)))) 0) (gk K (t + 2))).2.2 by rw [db]]; exact ne_le er.1
      have w2 : c.2.2 = b.2.2 := by rw [ec]; exact num_sticky w0
      have w3 : g.2.2 = b.2.2 := by rw [eg, w2]; exact num_sticky w0
      rw [w3, show b.2.2 = (s_Teacher_oldName (tA K (t + 2)) E ((NN N0 N1 N2 N3 (s_Names_add N4 (tk_wo K (t + 1)))) 0) (gk K (t + 2))).2.2 by rw [db]]
    have qb : b.1 = nI v0 := by rw [db]; exact n0c
    have E2 : b.2.2 = E := by rw [db]; exact n0d
    have nb0 : v0 < sh_ha H1 0 := by rw [← hao 0 (by decide)]; exact n0a
    obtain ⟨Hc0, eHc0⟩ : ∃ z, z = sh_me' Hb (upd (sh_me Hb) (t + 2 + 1) (nI v0)) := ⟨_, rfl⟩
    obtain ⟨Hc, eHc⟩ : ∃ z, z = sh_ti' Hc0 (upd (sh_ti Hb) r (nI v0)) := ⟨_, rfl⟩
    have n0f : RDm M n (t + 3) Hb = RDm M n (t + 4) Hc := by rw [eHc, eHc0]; exact n0e
    have tb := sh_set_ti eHc
    have tb0 := sh_set_me eHc0
    have Sb : SameT H Hc := by unfold SameT; simp only [tb, tb0, sb, sb0, sa]; exact lS
    have nb_ : NRel K Hc (NN N0 N1 N2 N3 (s_Names_add N4 (tk_wo K (t + 1)))) n := nb.congr (by simp only [tb, tb0]) (by simp only [tb, tb0])
    have R2 := (R1.trans Nb).trans n0f
    have Nc := neu_k (M := M) (g := 12) hX (show t + 4 < n by omega) Sb (by omega) (by rw [show t + 4 - 1 = t + 3 by omega]; omega) (Fin.ext x3) (by decide)
    obtain ⟨v1, va1, vb1, vc1⟩ := hW.2 (t + 5) (by omega) y3 Hc Sb.2.1 Sb.2.2
    have HR1 : sh_ha Hc 11 = r + 1 := by simp only [tb, tb0]; exact hr
    have ec_ := en_12 (M := mo_tk' M n) (i := t + 5) (v := v1) (by omega) (by omega) (by rw [show t + 5 - 1 = t + 4 by omega, Sb.1, (hX.2.2 (t + 4) (by omega)).2.1, show gk K (t + 4) = 12 from Fin.ext x3]; rfl) (by rw [Sb.1, (hX.2.2 (t + 5) (by omega)).2.1, show gk K (t + 5) = 51 from Fin.ext y3]; rfl) vb1 HR1 hr5
    have dc : c = s_Teacher_number (tA K (t + 4)) E (gk K (t + 4)) (nI 2) (nI 6) := by rw [ec, kb, E2, show gk K (t + 4) = 12 from Fin.ext x3]; rfl
    rcases num_step (M := M) (Ha := Hc) (Hw := sh_sz' (sh_me' Hc (upd (sh_me Hc) (t + 5) (nI v1))) (upd (sh_sz Hc) r (nI v1))) (t := t + 4) (k := v1) (l := 2) (h := 6) (E := E) hX (show t + 4 + 1 < n by omega) Sb (by omega) (by decide) va1 vc1 y3 hE rfl ec_ with er | ⟨n1a, n1b, n1c, n1d, n1e⟩
    · refine er_ (t + 4 + 1) Hc _ er ((R2.trans Nc)) ?_
      have w0 : ¬ te_er c.2.2 = 0 := by rw [show c.2.2 = (s_Teacher_number (tA K (t + 4)) E (gk K (t + 4)) (nI 2) (nI 6)).2.2 by rw [dc]]; exact ne_le er.1
      have w3 : g.2.2 = c.2.2 := by rw [eg]; exact num_sticky w0
      rw [w3, show c.2.2 = (s_Teacher_number (tA K (t + 4)) E (gk K (t + 4)) (nI 2) (nI 6)).2.2 by rw [dc]]
    have qc : c.1 = nI v1 := by rw [dc]; exact n1c
    have E3 : c.2.2 = E := by rw [dc]; exact n1d
    obtain ⟨Hd0, eHd0⟩ : ∃ z, z = sh_me' Hc (upd (sh_me Hc) (t + 5) (nI v1)) := ⟨_, rfl⟩
    obtain ⟨Hd, eHd⟩ : ∃ z, z = sh_sz' Hd0 (upd (sh_sz Hc) r (nI v1)) := ⟨_, rfl⟩
    have n1f : RDm M n (t + 5) Hc = RDm M n (t + 6) Hd := by rw [eHd, eHd0]; exact n1e
    have tc := sh_set_sz eHd
    have tc0 := sh_set_me eHd0
    have Sc : SameT H Hd := by unfold SameT; simp only [tc, tc0, tb, tb0, sb, sb0, sa]; exact lS
    have nc_ : NRel K Hd (NN N0 N1 N2 N3 (s_Names_add N4 (tk_wo K (t + 1)))) n := nb_.congr (by simp only [tc, tc0]) (by simp only [tc, tc0])
    have R3 := (R2.trans Nc).trans n1f
    have Ng := neu_k (M := M) (g := 10) hX (show t + 6 < n by omega) Sc (by omega) (by rw [show t + 6 - 1 = t + 5 by omega]; omega) (Fin.ext x4) (by decide)
    obtain ⟨v2, va2, vb2, vc2⟩ := hW.2 (t + 7) (by omega) y4 Hd Sc.2.1 Sc.2.2
    have HR2 : sh_ha Hd 11 = r + 1 := by simp only [tc, tc0, tb, tb0]; exact hr
    have eg_ := en_10t (M := mo_tk' M n) (i := t + 7) (v := v2) (by omega) (by omega) (by rw [show t + 7 - 1 = t + 6 by omega, Sc.1, (hX.2.2 (t + 6) (by omega)).2.1, show gk K (t + 6) = 10 from Fin.ext x4]; rfl) (by rw [Sc.1, (hX.2.2 (t + 7) (by omega)).2.1, show gk K (t + 7) = 51 from Fin.ext y4]; rfl) vb2 (by simp only [tc, tc0, tb, tb0, sb, sb0, sa]; rfl) HR2 hr5
    have dg : g = s_Teacher_number (tA K (t + 6)) E (gk K (t + 6)) (nI 0) (nI 40) := by rw [eg, kc, E3, show gk K (t + 6) = 10 from Fin.ext x4]; rfl
    rcases num_step (M := M) (Ha := Hd) (Hw := sh_sk' (sh_me' Hd (upd (sh_me Hd) (t + 7) (nI v2))) (upd (sh_sk Hd) r (nI v2))) (t := t + 6) (k := v2) (l := 0) (h := 40) (E := E) hX (show t + 6 + 1 < n by omega) Sc (by omega) (by decide) va2 vc2 y4 hE rfl eg_ with er | ⟨n2a, n2b, n2c, n2d, n2e⟩
    · refine er_ (t + 6 + 1) Hd _ er ((R3.trans Ng)) ?_
      have w0 : ¬ te_er g.2.2 = 0 := by rw [show g.2.2 = (s_Teacher_number (tA K (t + 6)) E (gk K (t + 6)) (nI 0) (nI 40)).2.2 by rw [dg]]; exact ne_le er.1
      rw [show g.2.2 = (s_Teacher_number (tA K (t + 6)) E (gk K (t + 6)) (nI 0) (nI 40)).2.2 by rw [dg]]
    have qg : g.1 = nI v2 := by rw [dg]; exact n2c
    have E4 : g.2.2 = E := by rw [dg]; exact n2d
    obtain ⟨He0, eHe0⟩ : ∃ z, z = sh_me' Hd (upd (sh_me Hd) (t + 7) (nI v2)) := ⟨_, rfl⟩
    obtain ⟨He, eHe⟩ : ∃ z, z = sh_sk' He0 (upd (sh_sk Hd) r (nI v2)) := ⟨_, rfl⟩
    have n2f : RDm M n (t + 7) Hd = RDm M n (t + 8) He := by rw [eHe, eHe0]; exact n2e
    have tg := sh_set_sk eHe
    have tg0 := sh_set_me eHe0
    have Sg : SameT H He := by unfold SameT; simp only [tg, tg0, tc, tc0, tb, tb0, sb, sb0, sa]; exact lS
    have ng_ : NRel K He (NN N0 N1 N2 N3 (s_Names_add N4 (tk_wo K (t + 1)))) n := nc_.congr (by simp only [tg, tg0]) (by simp only [tg, tg0])
    have R4 := (R3.trans Ng).trans n2f
    have NZ := neu_k (M := M) (g := 39) hX (show t + 8 < n by omega) Sg (by omega) (by rw [show t + 8 - 1 = t + 7 by omega]; omega) (Fin.ext g39) (by decide)
    have fha : sh_ha He = sh_ha Hb := by simp only [tg, tg0, tc, tc0, tb, tb0]
    have har : sh_ha He 11 = r + 1 := by rw [fha]; exact hr
    have hak : ∀ k, k ≠ 11 → sh_ha He k = sh_ha H1 k := fun k hk => by rw [fha]; exact hao k hk
    have fhg : sh_hg He = sh_hg H1 := by simp only [tg, tg0, tc, tc0, tb, tb0, sb, sb0, sa]
    have fsn : sh_sn He = sh_sn H1 := by simp only [tg, tg0, tc, tc0, tb, tb0, sb, sb0, sa]
    have fsi : sh_si He = sh_si H1 := by simp only [tg, tg0, tc, tc0, tb, tb0, sb, sb0, sa]
    have fdp : sh_dp He = sh_dp H1 := by simp only [tg, tg0, tc, tc0, tb, tb0, sb, sb0, sa]
    have fab : sh_ab He = sh_ab H1 := by simp only [tg, tg0, tc, tc0, tb, tb0, sb, sb0, sa]
    have fbr : sh_br He = sh_br H1 := by simp only [tg, tg0, tc, tc0, tb, tb0, sb, sb0, sa]
    have fdi : sh_di He = sh_di H1 := by simp only [tg, tg0, tc, tc0, tb, tb0, sb, sb0, sa]
    have ffo : sh_fo He = sh_fo H1 := by simp only [tg, tg0, tc, tc0, tb, tb0, sb, sb0, sa]
    have fsz : sh_sz He = upd (sh_sz H1) r (nI v1) := by simp only [tg, tg0, tc, tc0, tb, tb0, sb, sb0, sa]
    have fsk : sh_sk He = upd (sh_sk H1) r (nI v2) := by simp only [tg, tg0, tc, tc0, tb, tb0, sb, sb0, sa]
    have fti : sh_ti He = upd (sh_ti H1) r (nI v0) := by simp only [tg, tg0, tc, tc0, tb, tb0, sb, sb0, sa]
    have fwa : sh_wa He = sh_wa H1 := by simp only [tg, tg0, tc, tc0, tb, tb0, sb, sb0, sa]
    have for_ : sh_or He = sh_or H1 := by simp only [tg, tg0, tc, tc0, tb, tb0, sb, sb0, sa]
    have fds : sh_ds He = sh_ds H1 := by simp only [tg, tg0, tc, tc0, tb, tb0, sb, sb0, sa]
    have fon : sh_on He = sh_on H1 := by simp only [tg, tg0, tc, tc0, tb, tb0, sb, sb0, sa]
    have fot : sh_ot He = sh_ot H1 := by simp only [tg, tg0, tc, tc0, tb, tb0, sb, sb0, sa]
    have fsu : sh_su He = sh_su H1 := by simp only [tg, tg0, tc, tc0, tb, tb0, sb, sb0, sa]
    have fwh : sh_wh He = sh_wh H1 := by simp only [tg, tg0, tc, tc0, tb, tb0, sb, sb0, sa]
    have fme : ∀ j, j < t → sh_me He j = sh_me H1 j := fun j hj => by
      simp only [tg, tg0, tc, tc0, tb, tb0, sb, sb0, sa]
      rw [upd_ne _ _ (by omega), upd_ne _ _ (by omega), upd_ne _ _ (by omega)]
    have tb := addTeam_t (σ := σ) (h1 := b.1) (h2 := c.1) (h3 := g.1) (show gN σ 4 < 4 by rw [show gN σ 4 = sh_ha H1 11 from lG4.1, ← er0]; exact hr5)
    have RN := R4_add (h1 := b.1) (h2 := c.1) (h3 := g.1) (sz' := sh_sz He) (sk' := sh_sk He) (ti' := sh_ti He) (m := r) (by rw [er0]; exact lG4) hr5 (by rw [fsz, upd_at, qc]) (by rw [fsk, upd_at, qg]) (by rw [fti, upd_at, qb]) (fun j hj => ⟨by rw [fsz]; exact upd_ne _ _ (by omega), by rw [fsk]; exact upd_ne _ _ (by omega), by rw [fti]; exact upd_ne _ _ (by omega)⟩)
    have hM : ∀ k, sh_ha H1 k ≤ sh_ha He k := fun k => by
      by_cases z : k = 11
      · rw [z, har]; omega
      · rw [hak k z]; exact Nat.le_refl _
    have VN0 : V4 (sh_ha He 0) (r + 1) (sh_sz He) (sh_sk He) (sh_ti He) := by
      intro x hx
      rw [fsz, fsk, fti, hak 0 (by decide)]
      by_cases z : x = r
      · rw [z, upd_at, upd_at, upd_at]
        exact ⟨⟨v1, rfl, by omega, by omega⟩, ⟨v2, rfl, by omega, by omega⟩, v0, nb0, rfl⟩
      · rw [upd_ne _ _ z, upd_ne _ _ z, upd_ne _ _ z]
        exact lV4 x (by omega)
    refine .inr ⟨E4, He, ?_, Sg, ?_, ⟨by rw [hak 0 (by decide)]; exact c0, by rw [hak 3 (by decide)]; exact c3, by rw [hak 6 (by decide)]; exact c6, by rw [hak 9 (by decide)]; exact c9, by rw [har]; omega, by rw [for_]; exact c20⟩, ⟨by rw [tb.2.1 0 (by decide), hak 0 (by decide), fhg, fsn]; exact lG0, by rw [tb.2.1 1 (by decide), hak 3 (by decide), fsi, fdp]; exact lG1, by rw [tb.2.1 2 (by decide), hak 6 (by decide), fab, fbr]; exact lG2, by rw [tb.2.1 3 (by decide), hak 9 (by decide), fdi, ffo]; exact lG3, by rw [har]; exact RN, by rw [fwa]; show ∀ i, i < 8 → (s_Glacier_addTeam σ b.1 c.1 g.1).2.1 i = _; rw [tb.2.2]; exact lG5, by show (s_Glacier_addTeam σ b.1 c.1 g.1).2.2.1 = d; rw [tb.2.2]; exact lG6, by show (s_Glacier_addTeam σ b.1 c.1 g.1).2.2.2 = 0; rw [tb.2.2]; exact lG7⟩, ⟨by rw [hak 0 (by decide), fhg, fsn]; exact lV0, by rw [hak 3 (by decide), fsi, fdp]; exact lV1.mono (hM 0), by rw [hak 6 (by decide), fab, fbr]; exact lV2.mono (hM 0), by rw [hak 9 (by decide), fdi, ffo]; exact lV3.mono (hM 0), by rw [har]; exact VN0, by rw [fwa]; exact lV5⟩, ?_, aa, la1, by omega⟩
    · rw [p5]
      exact (R4.trans NZ)
    · rw [show a.2.2 = s_Names_add N4 (tk_wo K (t + 1)) by rw [a2]]
      exact ng_
    · exact lO.keep (by omega) la1 (by omega) fme hM for_ fds fon fot fsu fwh
