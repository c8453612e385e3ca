/-! the law's list: its loops -/
section Lq
variable {Γ : G9} {C S pc q : Nat} {L : List (Option Value)} {st : List Value} {h hb : AH} {z b sim : Nat} {t : List Int32} {B : BS} {Q : QT} {X : XT}
theorem Go.lnewI {C1 S1 N : Nat} {n : Int32} (hd : decode M_Law_list.2.1 pc = .ok (.newarray .int, 2)) (hq : pc + 2 = q) (hn : n = nI N) (hN : N < 2 ^ 20) (hC : C1 + 1 ≤ C) (hS : S1 + N ≤ S) (kk : Go Γ M_Law_list 9 C1 S1 q L (.ref z :: st) (hup h z (aI Γ N (rL []))) (z + 1) Q X) : Go Γ M_Law_list 9 C S pc L (.int n :: st) h z Q X := by
  refine Go.newI hd hq hn hN hC hS ?_
  rw [rL_nil]
  exact kk
theorem Go.lini {N y j : Nat} {l : List Int32} {x vj : Int32} (hd : decode M_Law_list.2.1 pc = .ok (.iastore, 1)) (hq : pc + 1 = q) (hl : l.length = j) (ej : vj.toNatClampNeg = j) (hin : okI vj N = true) (kk : Go Γ M_Law_list 9 C S q L st (hup h y (aI Γ N (rL (l ++ [x])))) z Q X) : Go Γ M_Law_list 9 C S pc L (.int x :: .int vj :: .ref y :: st) (hup h y (aI Γ N (rL l))) z Q X := by
  refine Go.iastore hd hq hup_at (okI_in hin) ?_
  rw [ej, rL_upd hl, hup_hup]
  exact kk
theorem Go.str1 {u : Value} (T : List Int32) (kk : ∀ a : Nat, STR Γ hb a T → LB T → Go Γ M_Law_list 9 C S q L (.ref a :: st) h z Q X) (hb' : (∀ a : Nat, STR Γ hb a T → LB T → Go Γ M_Law_list 9 C S q L (.ref a :: st) h z Q X) → Go Γ M_Law_list 9 C S pc L (u :: st) h z Q X) : Go Γ M_Law_list 9 C S pc L (u :: st) h z Q X := hb' kk
theorem Go.lwst {i : Nat} {vi x : Int32} (hd : decode M_Law_list.2.1 pc = .ok (.iastore, 1)) (hq : pc + 1 = q) (hs : LSt Γ h b hb t B) (es : b_ad B 6 0 = sim) (ei : vi = nI i) (hi : i < 8) (kk : ∀ (h2 : AH) (B' : BS), LSt Γ h2 b hb t B' → b_rs B' = b_rs B → b_cn B' = b_cn B → b_wa B' = upd (b_wa B) i x → b_ad B' 6 0 = sim → b_ad B' 7 0 = b_ad B 7 0 → Go Γ M_Law_list 9 C S q L st h2 z Q X) : Go Γ M_Law_list 9 C S pc L (.int x :: .int vi :: .ref (b_ad B 7 0) :: st) h z Q X := by
  subst ei
  refine Go.iastore hd hq hs.war (vp_in_nI hi (by decide)) ?_
  rw [nI_clamp (by omega)]
  exact kk _ (bsWar B (upd (b_wa B) i x)) hs.setWar rfl rfl rfl es rfl
theorem Go.lwld {i : Nat} {vi x : Int32} (hd : decode M_Law_list.2.1 pc = .ok (.iaload, 1)) (hq : pc + 1 = q) (hs : LSt Γ h b hb t B) (ei : vi = nI i) (hi : i < 8) (hx : b_wa B i = x) (kk : Go Γ M_Law_list 9 C S q L (.int x :: st) h z Q X) : Go Γ M_Law_list 9 C S pc L (.int vi :: .ref (b_ad B 7 0) :: st) h z Q X := by
  subst ei
  refine Go.iaload hd hq hs.war (vp_in_nI hi (by decide)) ?_
  rw [nI_clamp (by omega), hx]
  exact kk
end Lq
theorem tAllF_len {α : Type} {f : Nat → α → List Int32} {ok : α → Prop} {c K : Nat} (hf : ∀ k a, k < K → ok a → (f k a).length ≤ c) : ∀ (l : List α) (k : Nat), k + l.length ≤ K → (∀ a ∈ l, ok a) → (tAllF f k l).length ≤ c * l.length
  | [], k, _, _ => Nat.zero_le _
  | a :: l, k, h, ho => by
    have h1 : k + (l.length + 1) ≤ K := h
    have i1 := tAllF_len hf l (k + 1) (by omega) (fun x hx => ho x (List.mem_cons_of_mem _ hx))
    have i2 := hf k a (by omega) (ho a List.mem_cons_self)
    show (f k a ++ tAllF f (k + 1) l).length ≤ c * (l.length + 1)
    rw [List.length_append, Nat.mul_succ]
    omega
theorem tAll_len {α : Type} {f : Nat → α → List Int32} {ok : α → Prop} {c K i : Nat} (hf : ∀ k a, k < K → ok a → (f k a).length ≤ c) {l : List α} (hl : l.length = i) (hK : i ≤ K) (ho : ∀ a ∈ l, ok a) : (tAll f l).length ≤ c * i := by
  have := tAllF_len hf l 0 (by omega) ho
  rw [hl] at this
  exact this
theorem all_snoc {α : Type} {ok : α → Prop} {l : List α} {a : α} (h : ∀ x ∈ l, ok x) (ha : ok a) : ∀ x ∈ l ++ [a], ok x := by
  intro x hx
  rcases List.mem_append.mp hx with h1 | h1
  · exact h x h1
  · rw [List.mem_singleton.mp h1]
    exact ha
theorem len_snoc {α : Type} {l : List α} {a : α} {i : Nat} (h : l.length = i) : (l ++ [a]).length = i + 1 := by rw [List.length_append, List.length_singleton, h]
abbrev R2 := Nat × Nat
abbrev R3 := Nat × Nat × Nat
def rBand (a : R2) : Nat → Int32 := rL [nI a.1, nI a.2, 0]
def rStake (a : R2) : Nat → Int32 := rL [nI a.1, nI a.2, 0, 1, -1, 0]
def rCrev (a : R2) : Nat → Int32 := rL [nI a.1, nI a.2, 0, -1, 0, 0]
def rDepot (a : R2) : Nat → Int32 := rL [nI a.1, nI a.2]
def rTeam (a : R3) : Nat → Int32 := rL [nI a.1, nI a.2.1, nI a.2.2, 0, 1, 0, 0, 0]
def tBand (k : Nat) (a : R2) : List Int32 := tx135 ++ dec k ++ tx137 ++ dec a.1 ++ tx139 ++ dec a.2 ++ (if k % 2 = 0 then tx141 else tx143)
def tStake (k : Nat) (a : R2) : List Int32 := tx148 ++ dec k ++ tx150 ++ dec a.1 ++ tx152 ++ dec a.2 ++ tx141
def tCrev (k : Nat) (a : R2) : List Int32 := tx157 ++ dec k ++ tx159 ++ dec a.1 ++ tx161 ++ dec a.2 ++ tx141
def tDepot (k : Nat) (a : R2) : List Int32 := tx166 ++ dec k ++ tx150 ++ dec a.1 ++ tx168 ++ dec a.2 ++ tx141
def tTeam (k : Nat) (a : R3) : List Int32 := tx173 ++ dec k ++ tx150 ++ dec a.2.2 ++ tx175 ++ dec a.1 ++ tx168 ++ dec a.2.1 ++ tx141
def tDay (_ : Nat) (a : R2) : List Int32 := tx180 ++ dec a.1 ++ tx182 ++ dec a.2 ++ tx141
def okBand (a : R2) : Prop := a.1 ≤ 17 ∧ a.2 ≤ 300
def okStake (nb : Nat) (a : R2) : Prop := a.1 < nb ∧ 1 ≤ a.2 ∧ a.2 ≤ 200
def okCrev (nb : Nat) (a : R2) : Prop := a.1 < nb ∧ a.2 ≤ 99
def okTeam (nb : Nat) (a : R3) : Prop := 2 ≤ a.1 ∧ a.1 ≤ 6 ∧ a.2.1 ≤ 40 ∧ a.2.2 < nb
def okDay (a : R2) : Prop := a.1 < 8 ∧ a.2 ≤ 30
/-- the warmths told -/
def wF (l : List R2) : Nat → Int32 := l.foldl (fun w a => upd w a.1 (nI a.2)) (fun _ => 10)
theorem wF_snoc {l : List R2} {a : R2} : wF (l ++ [a]) = upd (wF l) a.1 (nI a.2) := by
  unfold wF
  rw [List.foldl_append]
  rfl
theorem len_tBand {k : Nat} {a : R2} (hk : k < 10) (ha : okBand a) : (tBand k a).length ≤ 29 := by
  unfold okBand at ha
  have e0 := dec_1 (show k < 10 by omega)
  have e1 := dec_2 (show a.1 < 100 by omega)
  have e2 := @dec_le a.2
  unfold tBand
  by_cases h : k % 2 = 0
  · rw [if_pos h]
    simp only [List.length_append, List.length_nil, len_tx35, len_tx48, len_tx50, len_tx52, len_tx54, len_tx56, len_tx58, len_tx60, len_tx62, len_tx64, len_tx66, len_tx68, len_tx70, len_tx72, len_tx74, len_tx76, len_tx78, len_tx80, len_tx82, len_tx84, len_tx86, len_tx88, len_tx90, len_tx92, len_tx94, len_tx96, len_tx98, len_tx100, len_tx102, len_tx104, len_tx106, len_tx108, len_tx110, len_tx112, len_tx114, len_tx135, len_tx137, len_tx139, len_tx141, len_tx143, len_tx148, len_tx150, len_tx152, len_tx157, len_tx159, len_tx161, len_tx166, len_tx168, len_tx173, len_tx175, len_tx180, len_tx182, len_tx187, len_tx189, len_tx191, len_tx193, len_tx195, len_tx197, len_tx203, len_tx208]
    omega
  · rw [if_neg h]
    simp only [List.length_append, List.length_nil, len_tx35, len_tx48, len_tx50, len_tx52, len_tx54, len_tx56, len_tx58, len_tx60, len_tx62, len_tx64, len_tx66, len_tx68, len_tx70, len_tx72, len_tx74, len_tx76, len_tx78, len_tx80, len_tx82, len_tx84, len_tx86, len_tx88, len_tx90, len_tx92, len_tx94, len_tx96, len_tx98, len_tx100, len_tx102, len_tx104, len_tx106, len_tx108, len_tx110, len_tx112, len_tx114, len_tx135, len_tx137, len_tx139, len_tx141, len_tx143, len_tx148, len_tx150, len_tx152, len_tx157, len_tx159, len_tx161, len_tx166, len_tx168, len_tx173, len_tx175, len_tx180, len_tx182, len_tx187, len_tx189, len_tx191, len_tx193, len_tx195, len_tx197, len_tx203, len_tx208]
    omega
theorem len_tStake {nb k : Nat} {a : R2} (hnb : nb ≤ 4) (hk : k < 10) (ha : okStake nb a) : (tStake k a).length ≤ 24 := by
  unfold okStake at ha
  have e0 := dec_1 (show k < 10 by omega)
  have e1 := dec_1 (show a.1 < 10 by omega)
  have e2 := @dec_le a.2
  unfold tStake
  simp only [List.length_append, List.length_nil, len_tx35, len_tx48, len_tx50, len_tx52, len_tx54, len_tx56, len_tx58, len_tx60, len_tx62, len_tx64, len_tx66, len_tx68, len_tx70, len_tx72, len_tx74, len_tx76, len_tx78, len_tx80, len_tx82, len_tx84, len_tx86, len_tx88, len_tx90, len_tx92, len_tx94, len_tx96, len_tx98, len_tx100, len_tx102, len_tx104, len_tx106, len_tx108, len_tx110, len_tx112, len_tx114, len_tx135, len_tx137, len_tx139, len_tx141, len_tx143, len_tx148, len_tx150, len_tx152, len_tx157, len_tx159, len_tx161, len_tx166, len_tx168, len_tx173, len_tx175, len_tx180, len_tx182, len_tx187, len_tx189, len_tx191, len_tx193, len_tx195, len_tx197, len_tx203, len_tx208]
  omega
theorem len_tCrev {nb k : Nat} {a : R2} (hnb : nb ≤ 4) (hk : k < 10) (ha : okCrev nb a) : (tCrev k a).length ≤ 31 := by
  unfold okCrev at ha
  have e0 := dec_1 (show k < 10 by omega)
  have e1 := dec_1 (show a.1 < 10 by omega)
  have e2 := dec_2 (show a.2 < 100 by omega)
  unfold tCrev
  simp only [List.length_append, List.length_nil, len_tx35, len_tx48, len_tx50, len_tx52, len_tx54, len_tx56, len_tx58, len_tx60, len_tx62, len_tx64, len_tx66, len_tx68, len_tx70, len_tx72, len_tx74, len_tx76, len_tx78, len_tx80, len_tx82, len_tx84, len_tx86, len_tx88, len_tx90, len_tx92, len_tx94, len_tx96, len_tx98, len_tx100, len_tx102, len_tx104, len_tx106, len_tx108, len_tx110, len_tx112, len_tx114, len_tx135, len_tx137, len_tx139, len_tx141, len_tx143, len_tx148, len_tx150, len_tx152, len_tx157, len_tx159, len_tx161, len_tx166, len_tx168, len_tx173, len_tx175, len_tx180, len_tx182, len_tx187, len_tx189, len_tx191, len_tx193, len_tx195, len_tx197, len_tx203, len_tx208]
  omega
theorem len_tDepot {nb k : Nat} {a : R2} (hnb : nb ≤ 4) (hk : k < 10) (ha : okCrev nb a) : (tDepot k a).length ≤ 23 := by
  unfold okCrev at ha
  have e0 := dec_1 (show k < 10 by omega)
  have e1 := dec_1 (show a.1 < 10 by omega)
  have e2 := dec_2 (show a.2 < 100 by omega)
  unfold tDepot
  simp only [List.length_append, List.length_nil, len_tx35, len_tx48, len_tx50, len_tx52, len_tx54, len_tx56, len_tx58, len_tx60, len_tx62, len_tx64, len_tx66, len_tx68, len_tx70, len_tx72, len_tx74, len_tx76, len_tx78, len_tx80, len_tx82, len_tx84, len_tx86, len_tx88, len_tx90, len_tx92, len_tx94, len_tx96, len_tx98, len_tx100, len_tx102, len_tx104, len_tx106, len_tx108, len_tx110, len_tx112, len_tx114, len_tx135, len_tx137, len_tx139, len_tx141, len_tx143, len_tx148, len_tx150, len_tx152, len_tx157, len_tx159, len_tx161, len_tx166, len_tx168, len_tx173, len_tx175, len_tx180, len_tx182, len_tx187, len_tx189, len_tx191, len_tx193, len_tx195, len_tx197, len_tx203, len_tx208]
  omega
theorem len_tTeam {nb k : Nat} {a : R3} (hnb : nb ≤ 4) (hk : k < 10) (ha : okTeam nb a) : (tTeam k a).length ≤ 29 := by
  unfold okTeam at ha
  have e0 := dec_1 (show k < 10 by omega)
  have e1 := dec_1 (show a.1 < 10 by omega)
  have e2 := dec_2 (show a.2.1 < 100 by omega)
  have e3 := dec_1 (show a.2.2 < 10 by omega)
  unfold tTeam
  simp only [List.length_append, List.length_nil, len_tx35, len_tx48, len_tx50, len_tx52, len_tx54, len_tx56, len_tx58, len_tx60, len_tx62, len_tx64, len_tx66, len_tx68, len_tx70, len_tx72, len_tx74, len_tx76, len_tx78, len_tx80, len_tx82, len_tx84, len_tx86, len_tx88, len_tx90, len_tx92, len_tx94, len_tx96, len_tx98, len_tx100, len_tx102, len_tx104, len_tx106, len_tx108, len_tx110, len_tx112, len_tx114, len_tx135, len_tx137, len_tx139, len_tx141, len_tx143, len_tx148, len_tx150, len_tx152, len_tx157, len_tx159, len_tx161, len_tx166, len_tx168, len_tx173, len_tx175, len_tx180, len_tx182, len_tx187, len_tx189, len_tx191, len_tx193, len_tx195, len_tx197, len_tx203, len_tx208]
  omega
theorem len_tDay {k : Nat} {a : R2} (hk : k < 10) (ha : okDay a) : (tDay k a).length ≤ 14 := by
  unfold okDay at ha
  have e0 := dec_1 (show a.1 < 10 by omega)
  have e1 := dec_2 (show a.2 < 100 by omega)
  unfold tDay
  simp only [List.length_append, List.length_nil, len_tx35, len_tx48, len_tx50, len_tx52, len_tx54, len_tx56, len_tx58, len_tx60, len_tx62, len_tx64, len_tx66, len_tx68, len_tx70, len_tx72, len_tx74, len_tx76, len_tx78, len_tx80, len_tx82, len_tx84, len_tx86, len_tx88, len_tx90, len_tx92, len_tx94, len_tx96, len_tx98, len_tx100, len_tx102, len_tx104, len_tx106, len_tx108, len_tx110, len_tx112, len_tx114, len_tx135, len_tx137, len_tx139, len_tx141, len_tx143, len_tx148, len_tx150, len_tx152, len_tx157, len_tx159, len_tx161, len_tx166, len_tx168, len_tx173, len_tx175, len_tx180, len_tx182, len_tx187, len_tx189, len_tx191, len_tx193, len_tx195, len_tx197, len_tx203, len_tx208]
  omega
theorem d_Law_list_45 : decode M_Law_list.2.1 45 = .ok (.iload 5, 2) := by decide +kernel
theorem d_Law_list_47 : decode M_Law_list.2.1 47 = .ok (.iload_n 3, 1) := by decide +kernel
theorem d_Law_list_48 : decode M_Law_list.2.1 48 = .ok (.if_icmp .ge 138, 3) := by decide +kernel
theorem d_Law_list_51 : decode M_Law_list.2.1 51 = .ok (.aload_n 0, 1) := by decide +kernel
theorem d_Law_list_52 : decode M_Law_list.2.1 52 = .ok (.iconst 1, 1) := by decide +kernel
theorem d_Law_list_53 : decode M_Law_list.2.1 53 = .ok (.invokestatic 119, 3) := by decide +kernel
theorem d_Law_list_56 : decode M_Law_list.2.1 56 = .ok (.iconst 4, 1) := by decide +kernel
theorem d_Law_list_57 : decode M_Law_list.2.1 57 = .ok (.iload 5, 2) := by decide +kernel
theorem d_Law_list_59 : decode M_Law_list.2.1 59 = .ok (.imul, 1) := by decide +kernel
theorem d_Law_list_60 : decode M_Law_list.2.1 60 = .ok (.ishr, 1) := by decide +kernel
theorem d_Law_list_61 : decode M_Law_list.2.1 61 = .ok (.istore 6, 2) := by decide +kernel
theorem d_Law_list_63 : decode M_Law_list.2.1 63 = .ok (.aload_n 2, 1) := by decide +kernel
theorem d_Law_list_64 : decode M_Law_list.2.1 64 = .ok (.getfield 131, 3) := by decide +kernel
theorem d_Law_list_67 : decode M_Law_list.2.1 67 = .ok (.iload 5, 2) := by decide +kernel
theorem d_Law_list_69 : decode M_Law_list.2.1 69 = .ok (.iconst 3, 1) := by decide +kernel
theorem d_Law_list_70 : decode M_Law_list.2.1 70 = .ok (.newarray .int, 2) := by decide +kernel
theorem d_Law_list_72 : decode M_Law_list.2.1 72 = .ok (.dup, 1) := by decide +kernel
theorem d_Law_list_73 : decode M_Law_list.2.1 73 = .ok (.iconst 0, 1) := by decide +kernel
theorem d_Law_list_74 : decode M_Law_list.2.1 74 = .ok (.iload 4, 2) := by decide +kernel
theorem d_Law_list_76 : decode M_Law_list.2.1 76 = .ok (.iastore, 1) := by decide +kernel
theorem d_Law_list_77 : decode M_Law_list.2.1 77 = .ok (.dup, 1) := by decide +kernel
theorem d_Law_list_78 : decode M_Law_list.2.1 78 = .ok (.iconst 1, 1) := by decide +kernel
theorem d_Law_list_79 : decode M_Law_list.2.1 79 = .ok (.iload 6, 2) := by decide +kernel
theorem d_Law_list_81 : decode M_Law_list.2.1 81 = .ok (.iload 6, 2) := by decide +kernel
theorem d_Law_list_83 : decode M_Law_list.2.1 83 = .ok (.iconst 3, 1) := by decide +kernel
theorem d_Law_list_84 : decode M_Law_list.2.1 84 = .ok (.ishr, 1) := by decide +kernel
theorem d_Law_list_85 : decode M_Law_list.2.1 85 = .ok (.iconst 3, 1) := by decide +kernel
theorem d_Law_list_86 : decode M_Law_list.2.1 86 = .ok (.invokestatic 125, 3) := by decide +kernel
theorem d_Law_list_89 : decode M_Law_list.2.1 89 = .ok (.ifCond .ne 9, 3) := by decide +kernel
theorem d_Law_list_98 : decode M_Law_list.2.1 98 = .ok (.bipush 40, 2) := by decide +kernel
theorem d_Law_list_100 : decode M_Law_list.2.1 100 = .ok (.invokestatic 125, 3) := by decide +kernel
theorem d_Law_list_92 : decode M_Law_list.2.1 92 = .ok (.sipush 301, 3) := by decide +kernel
theorem d_Law_list_95 : decode M_Law_list.2.1 95 = .ok (.goto 5, 3) := by decide +kernel
theorem d_Law_list_103 : decode M_Law_list.2.1 103 = .ok (.iastore, 1) := by decide +kernel
theorem d_Law_list_104 : decode M_Law_list.2.1 104 = .ok (.dup, 1) := by decide +kernel
theorem d_Law_list_105 : decode M_Law_list.2.1 105 = .ok (.iconst 2, 1) := by decide +kernel
theorem d_Law_list_106 : decode M_Law_list.2.1 106 = .ok (.iconst 0, 1) := by decide +kernel
theorem d_Law_list_107 : decode M_Law_list.2.1 107 = .ok (.iastore, 1) := by decide +kernel
theorem d_Law_list_108 : decode M_Law_list.2.1 108 = .ok (.aastore, 1) := by decide +kernel
theorem d_Law_list_109 : decode M_Law_list.2.1 109 = .ok (.aload_n 1, 1) := by decide +kernel
theorem d_Law_list_110 : decode M_Law_list.2.1 110 = .ok (.ldc 135, 2) := by decide +kernel
theorem d_Law_list_112 : decode M_Law_list.2.1 112 = .ok (.invokevirtual 37, 3) := by decide +kernel
theorem d_Law_list_115 : decode M_Law_list.2.1 115 = .ok (.iload 5, 2) := by decide +kernel
theorem d_Law_list_117 : decode M_Law_list.2.1 117 = .ok (.invokevirtual 41, 3) := by decide +kernel
theorem d_Law_list_120 : decode M_Law_list.2.1 120 = .ok (.ldc 137, 2) := by decide +kernel
theorem d_Law_list_122 : decode M_Law_list.2.1 122 = .ok (.invokevirtual 37, 3) := by decide +kernel
theorem d_Law_list_125 : decode M_Law_list.2.1 125 = .ok (.iload 4, 2) := by decide +kernel
theorem d_Law_list_127 : decode M_Law_list.2.1 127 = .ok (.invokevirtual 41, 3) := by decide +kernel
theorem d_Law_list_130 : decode M_Law_list.2.1 130 = .ok (.ldc 139, 2) := by decide +kernel
theorem d_Law_list_132 : decode M_Law_list.2.1 132 = .ok (.invokevirtual 37, 3) := by decide +kernel
theorem d_Law_list_135 : decode M_Law_list.2.1 135 = .ok (.aload_n 2, 1) := by decide +kernel
theorem d_Law_list_136 : decode M_Law_list.2.1 136 = .ok (.getfield 131, 3) := by decide +kernel
theorem d_Law_list_139 : decode M_Law_list.2.1 139 = .ok (.iload 5, 2) := by decide +kernel
theorem d_Law_list_141 : decode M_Law_list.2.1 141 = .ok (.aaload, 1) := by decide +kernel
theorem d_Law_list_142 : decode M_Law_list.2.1 142 = .ok (.iconst 1, 1) := by decide +kernel
theorem d_Law_list_143 : decode M_Law_list.2.1 143 = .ok (.iaload, 1) := by decide +kernel
theorem d_Law_list_144 : decode M_Law_list.2.1 144 = .ok (.invokevirtual 41, 3) := by decide +kernel
theorem d_Law_list_147 : decode M_Law_list.2.1 147 = .ok (.iload 5, 2) := by decide +kernel
theorem d_Law_list_149 : decode M_Law_list.2.1 149 = .ok (.iconst 2, 1) := by decide +kernel
theorem d_Law_list_150 : decode M_Law_list.2.1 150 = .ok (.irem, 1) := by decide +kernel
theorem d_Law_list_151 : decode M_Law_list.2.1 151 = .ok (.ifCond .ne 8, 3) := by decide +kernel
theorem d_Law_list_154 : decode M_Law_list.2.1 154 = .ok (.ldc 141, 2) := by decide +kernel
theorem d_Law_list_156 : decode M_Law_list.2.1 156 = .ok (.goto 5, 3) := by decide +kernel
theorem d_Law_list_159 : decode M_Law_list.2.1 159 = .ok (.ldc 143, 2) := by decide +kernel
theorem d_Law_list_161 : decode M_Law_list.2.1 161 = .ok (.invokevirtual 37, 3) := by decide +kernel
theorem d_Law_list_164 : decode M_Law_list.2.1 164 = .ok (.pop, 1) := by decide +kernel
theorem d_Law_list_165 : decode M_Law_list.2.1 165 = .ok (.iload 4, 2) := by decide +kernel
theorem d_Law_list_167 : decode M_Law_list.2.1 167 = .ok (.iconst 1, 1) := by decide +kernel
theorem d_Law_list_168 : decode M_Law_list.2.1 168 = .ok (.iload 6, 2) := by decide +kernel
theorem d_Law_list_170 : decode M_Law_list.2.1 170 = .ok (.iconst 2, 1) := by decide +kernel
theorem d_Law_list_171 : decode M_Law_list.2.1 171 = .ok (.ishr, 1) := by decide +kernel
theorem d_Law_list_172 : decode M_Law_list.2.1 172 = .ok (.iconst 4, 1) := by decide +kernel
theorem d_Law_list_173 : decode M_Law_list.2.1 173 = .ok (.invokestatic 125, 3) := by decide +kernel
theorem d_Law_list_176 : decode M_Law_list.2.1 176 = .ok (.iadd, 1) := by decide +kernel
theorem d_Law_list_177 : decode M_Law_list.2.1 177 = .ok (.iadd, 1) := by decide +kernel
theorem d_Law_list_178 : decode M_Law_list.2.1 178 = .ok (.istore 4, 2) := by decide +kernel
theorem d_Law_list_180 : decode M_Law_list.2.1 180 = .ok (.iinc 5 1, 3) := by decide +kernel
theorem d_Law_list_183 : decode M_Law_list.2.1 183 = .ok (.goto (-138), 3) := by decide +kernel
set_option maxRecDepth 100000 in
set_option maxHeartbeats 4000000 in
theorem li_bands {Γ : G9} {ls : Nat → Nat} {sa n : Nat} {xs : Nat → Int32} {b sim nb m C' S' : Nat} {hb : AH} {Q : QT} {X : XT} {p : List Int32} (hk : CsOk Γ) (hp : PrOk Γ) (hdg : DgOk Γ) (hls : LsOk Γ ls) (hao : AoOk Γ) (hsc : ScOk Γ sa n xs) (hn : n < 2 ^ 31) (hnb : 1 ≤ nb ∧ nb ≤ 4) (hm : m ≤ 4) (hmn : m = nb) (hpl : p.length ≤ 0) (kx : ∀ (l : List R2) (h : AH) (z : Nat), l.length = m → (∀ a ∈ l, okBand a) → l.Pairwise (fun a c => a.1 < c.1) → LX Γ h b hb sim (p ++ tAll tBand l) (RSF (l.map rBand) [] [] [] [] []) (CN m 0 0 0 0 0) (fun _ => 10) → Go Γ M_Law_list 9 C' S' 186 [some (.ref sa), some (.ref b), some (.ref sim), some (.int (nI nb)), none, none, none, none, none, none, none, none, none] [] h z Q X) : ∀ (k i : Nat) (l : List R2) (h : AH) (z hg C S : Nat), i + k = m → l.length = i → (∀ a ∈ l, okBand a) → hg ≤ 5 + 4 * i → (∀ a ∈ l, a.1 < hg) → l.Pairwise (fun a c => a.1 < c.1) → LX Γ h b hb sim (p ++ tAll tBand l) (RSF (l.map rBand) [] [] [] [] []) (CN m 0 0 0 0 0) (fun _ => 10) → C' + k * 9 ≤ C → S' + k * 20000 ≤ S → Go Γ M_Law_list 9 C S 45 [some (.ref sa), some (.ref b), some (.ref sim), some (.int (nI nb)), some (.int (nI hg)), some (.int (nI i)), none, none, none, none, none, none, none] [] h z Q X := by
  intro k
  induction k with
  | zero =>
    intro i l h z hg C S hi hl hok hhg hlt hpw ⟨B, hs, hr, hc, hw, hsim⟩ hC hS
    rw [Nat.zero_mul] at hC hS
    refine Go.room (C' := C') (S' := S') ?_ (Nat.le_refl _) hC hS
    refine Go.iload_5 d_Law_list_45 rfl ?_
    refine Go.iload_3 d_Law_list_47 rfl ?_
    refine Go.icmp_ge (t := 186) d_Law_list_48 (by decide) rfl (fun _ => ?_) (fun w => absurd (nI_le (by omega) (by omega)) w)
    refine Go.fgt [some (.ref sa), some (.ref b), some (.ref sim), some (.int (nI nb)), none, none, none, none, none, none, none, none, none] (by repeat' (first | exact trivial | refine ⟨rfl, ?_⟩)) ?_
    exact kx l h z (by omega) hok hpw ⟨B, hs, hr, hc, hw, hsim⟩
  | succ k ih =>
    intro i l h z hg C S hi hl hok hhg hlt hpw ⟨B, hs, hr, hc, hw, hsim⟩ hC hS
    rw [Nat.succ_mul] at hC hS
    have htl : (tAll tBand l).length ≤ 29 * i := tAll_len (K := 10) (fun k a => len_tBand) hl (by omega) hok
    refine Go.iload_5 d_Law_list_45 rfl ?_
    refine Go.iload_3 d_Law_list_47 rfl ?_
    refine Go.icmp_ge (t := 186) d_Law_list_48 (by decide) rfl (fun w => absurd w (nI_ge (by omega) (by omega))) (fun _ => ?_)
    refine Go.aload_0 d_Law_list_51 rfl ?_
    refine Go.iconst (v := 1) d_Law_list_52 rfl (by decide) ?_
    refine Go.lcell d_Law_list_53 rfl hsc hn (k := 1) rfl (by omega) rfl (fun x0 => ?_)
    refine Go.iconst (v := 4) d_Law_list_56 rfl (by decide) ?_
    refine Go.iload_5 d_Law_list_57 rfl ?_
    refine Go.imul d_Law_list_59 rfl ?_
    refine Go.ishr d_Law_list_60 rfl ?_
    refine Go.istore_6 d_Law_list_61 rfl (by rfl) ?_
    refine Go.aload_2 d_Law_list_63 rfl ?_
    refine Go.lget (k := 0) d_Law_list_64 rfl f_Law_131 (by decide) hs hsim ?_
    refine Go.iload_5 d_Law_list_67 rfl ?_
    refine Go.iconst (v := 3) d_Law_list_69 rfl (by decide) ?_
    refine Go.low (fun hlow => ?_)
    refine Go.lnewI (C1 := C - 1) (S1 := S - 3) (N := 3) d_Law_list_70 rfl rfl (by decide) (by omega) (by omega) ?_
    refine Go.dup d_Law_list_72 rfl rfl ?_
    refine Go.iconst (v := 0) d_Law_list_73 rfl (by decide) ?_
    refine Go.iload_4 d_Law_list_74 rfl ?_
    refine Go.lini d_Law_list_76 rfl (j := 0) rfl (by decide) (by decide) ?_
    refine Go.dup d_Law_list_77 rfl rfl ?_
    refine Go.iconst (v := 1) d_Law_list_78 rfl (by decide) ?_
    refine Go.iload_6 d_Law_list_79 rfl ?_
    refine Go.iload_6 d_Law_list_81 rfl ?_
    refine Go.iconst (v := 3) d_Law_list_83 rfl (by decide) ?_
    refine Go.ishr d_Law_list_84 rfl ?_
    refine Go.iconst (v := 3) d_Law_list_85 rfl (by decide) ?_
    refine Go.lbel d_Law_list_86 rfl (n := 3) rfl (by omega) (by omega) rfl (fun y1 by1 => ?_)
    refine Go.bel2 (q := 103) 301 (fun y2 by2 => ?_) (fun hkk => ?_)
    rotate_left
    · refine Go.if_ne (t := 98) d_Law_list_89 (by decide) rfl (fun _ => ?_) (fun _ => ?_)
      · skip
        refine Go.bipush (v := 40) d_Law_list_98 rfl (by decide) ?_
        exact Go.lbel d_Law_list_100 rfl (n := 40) rfl (by omega) (by omega) rfl (fun y by_ => hkk y (by omega))
      · skip
        refine Go.sipush (v := 301) d_Law_list_92 rfl (by decide) ?_
        refine Go.goto (t := 100) d_Law_list_95 (by decide) ?_
        exact Go.lbel d_Law_list_100 rfl (n := 301) rfl (by omega) (by omega) rfl (fun y by_ => hkk y (by omega))
    refine Go.lini d_Law_list_103 rfl (j := 1) rfl (by decide) (by decide) ?_
    refine Go.dup d_Law_list_104 rfl rfl ?_
    refine Go.iconst (v := 2) d_Law_list_105 rfl (by decide) ?_
    refine Go.iconst (v := 0) d_Law_list_106 rfl (by decide) ?_
    refine Go.lini d_Law_list_107 rfl (j := 2) rfl (by decide) (by decide) ?_
    refine Go.laas (k := 0) d_Law_list_108 rfl hao hs hsim hlow (by decide) (i := i) rfl (by rw [hr]; exact (List.length_map ..).trans hl) (by rw [hc]; show i < m; omega) (by rw [hc]; show m < 100; omega) (fun h B hs e1 hc1 hw1 hsim hlen hf => ?_)
    have hc := hc1.trans hc
    have hw := hw1.trans hw
    have hr : b_rs B = RSF ((l ++ [(hg, y2)]).map rBand) [] [] [] [] [] := by
      rw [e1, hr, RS_row0, List.map_append]
      rfl
    refine Go.aload_1 d_Law_list_109 rfl ?_
    refine Go.ldcS d_Law_list_110 rfl rfl (hls.t135).1 ?_
    refine Go.lapp d_Law_list_112 rfl hk hp hs (Or.inl (hls.t135).2) LB_tx135 (by simp only [List.length_append, List.length_nil, len_tx35, len_tx48, len_tx50, len_tx52, len_tx54, len_tx56, len_tx58, len_tx60, len_tx62, len_tx64, len_tx66, len_tx68, len_tx70, len_tx72, len_tx74, len_tx76, len_tx78, len_tx80, len_tx82, len_tx84, len_tx86, len_tx88, len_tx90, len_tx92, len_tx94, len_tx96, len_tx98, len_tx100, len_tx102, len_tx104, len_tx106, len_tx108, len_tx110, len_tx112, len_tx114, len_tx135, len_tx137, len_tx139, len_tx141, len_tx143, len_tx148, len_tx150, len_tx152, len_tx157, len_tx159, len_tx161, len_tx166, len_tx168, len_tx173, len_tx175, len_tx180, len_tx182, len_tx187, len_tx189, len_tx191, len_tx193, len_tx195, len_tx197, len_tx203, len_tx208]; omega) (by omega) (by omega) rfl (fun h z hs => ?_)
    refine Go.iload_5 d_Law_list_115 rfl ?_
    have g3 := dec_2 (show i < 100 by omega)
    have g4 := dec_1 (show i < 10 by omega)
    refine Go.lappI (v := i) d_Law_list_117 rfl hk hp hdg hs (by omega) (by simp only [List.length_append, List.length_nil, len_tx35, len_tx48, len_tx50, len_tx52, len_tx54, len_tx56, len_tx58, len_tx60, len_tx62, len_tx64, len_tx66, len_tx68, len_tx70, len_tx72, len_tx74, len_tx76, len_tx78, len_tx80, len_tx82, len_tx84, len_tx86, len_tx88, len_tx90, len_tx92, len_tx94, len_tx96, len_tx98, len_tx100, len_tx102, len_tx104, len_tx106, len_tx108, len_tx110, len_tx112, len_tx114, len_tx135, len_tx137, len_tx139, len_tx141, len_tx143, len_tx148, len_tx150, len_tx152, len_tx157, len_tx159, len_tx161, len_tx166, len_tx168, len_tx173, len_tx175, len_tx180, len_tx182, len_tx187, len_tx189, len_tx191, len_tx193, len_tx195, len_tx197, len_tx203, len_tx208]; omega) (by omega) (by omega) rfl (fun h z hs => ?_)
    refine Go.ldcS d_Law_list_120 rfl rfl (hls.t137).1 ?_
    refine Go.lapp d_Law_list_122 rfl hk hp hs (Or.inl (hls.t137).2) LB_tx137 (by simp only [List.length_append, List.length_nil, len_tx35, len_tx48, len_tx50, len_tx52, len_tx54, len_tx56, len_tx58, len_tx60, len_tx62, len_tx64, len_tx66, len_tx68, len_tx70, len_tx72, len_tx74, len_tx76, len_tx78, len_tx80, len_tx82, len_tx84, len_tx86, len_tx88, len_tx90, len_tx92, len_tx94, len_tx96, len_tx98, len_tx100, len_tx102, len_tx104, len_tx106, len_tx108, len_tx110, len_tx112, len_tx114, len_tx135, len_tx137, len_tx139, len_tx141, len_tx143, len_tx148, len_tx150, len_tx152, len_tx157, len_tx159, len_tx161, len_tx166, len_tx168, len_tx173, len_tx175, len_tx180, len_tx182, len_tx187, len_tx189, len_tx191, len_tx193, len_tx195, len_tx197, len_tx203, len_tx208]; omega) (by omega) (by omega) rfl (fun h z hs => ?_)
    refine Go.iload_4 d_Law_list_125 rfl ?_
    have g5 := dec_2 (show hg < 100 by omega)
    refine Go.lappI (v := hg) d_Law_list_127 rfl hk hp hdg hs (by omega) (by simp only [List.length_append, List.length_nil, len_tx35, len_tx48, len_tx50, len_tx52, len_tx54, len_tx56, len_tx58, len_tx60, len_tx62, len_tx64, len_tx66, len_tx68, len_tx70, len_tx72, len_tx74, len_tx76, len_tx78, len_tx80, len_tx82, len_tx84, len_tx86, len_tx88, len_tx90, len_tx92, len_tx94, len_tx96, len_tx98, len_tx100, len_tx102, len_tx104, len_tx106, len_tx108, len_tx110, len_tx112, len_tx114, len_tx135, len_tx137, len_tx139, len_tx141, len_tx143, len_tx148, len_tx150, len_tx152, len_tx157, len_tx159, len_tx161, len_tx166, len_tx168, len_tx173, len_tx175, len_tx180, len_tx182, len_tx187, len_tx189, len_tx191, len_tx193, len_tx195, len_tx197, len_tx203, len_tx208]; omega) (by omega) (by omega) rfl (fun h z hs => ?_)
    refine Go.ldcS d_Law_list_130 rfl rfl (hls.t139).1 ?_
    refine Go.lapp d_Law_list_132 rfl hk hp hs (Or.inl (hls.t139).2) LB_tx139 (by simp only [List.length_append, List.length_nil, len_tx35, len_tx48, len_tx50, len_tx52, len_tx54, len_tx56, len_tx58, len_tx60, len_tx62, len_tx64, len_tx66, len_tx68, len_tx70, len_tx72, len_tx74, len_tx76, len_tx78, len_tx80, len_tx82, len_tx84, len_tx86, len_tx88, len_tx90, len_tx92, len_tx94, len_tx96, len_tx98, len_tx100, len_tx102, len_tx104, len_tx106, len_tx108, len_tx110, len_tx112, len_tx114, len_tx135, len_tx137, len_tx139, len_tx141, len_tx143, len_tx148, len_tx150, len_tx152, len_tx157, len_tx159, len_tx161, len_tx166, len_tx168, len_tx173, len_tx175, len_tx180, len_tx182, len_tx187, len_tx189, len_tx191, len_tx193, len_tx195, len_tx197, len_tx203, len_tx208]; omega) (by omega) (by omega) rfl (fun h z hs => ?_)
    refine Go.aload_2 d_Law_list_135 rfl ?_
    refine Go.lget (k := 0) d_Law_list_136 rfl f_Law_131 (by decide) hs hsim ?_
    refine Go.iload_5 d_Law_list_139 rfl ?_
    refine Go.lrow d_Law_list_141 rfl hs (by decide) (i := i) rfl hlen (by rw [hc]; show i < m; omega) (by rw [hc]; show m < 100; omega) ?_
    refine Go.iconst (v := 1) d_Law_list_142 rfl (by decide) ?_
    refine Go.lld d_Law_list_143 rfl hs (by decide) hlen hf (j := 1) (by decide) (by decide) (x := nI (y2)) rfl ?_
    have g6 := @dec_le (y2)
    refine Go.lappI (v := y2) d_Law_list_144 rfl hk hp hdg hs (by omega) (by simp only [List.length_append, List.length_nil, len_tx35, len_tx48, len_tx50, len_tx52, len_tx54, len_tx56, len_tx58, len_tx60, len_tx62, len_tx64, len_tx66, len_tx68, len_tx70, len_tx72, len_tx74, len_tx76, len_tx78, len_tx80, len_tx82, len_tx84, len_tx86, len_tx88, len_tx90, len_tx92, len_tx94, len_tx96, len_tx98, len_tx100, len_tx102, len_tx104, len_tx106, len_tx108, len_tx110, len_tx112, len_tx114, len_tx135, len_tx137, len_tx139, len_tx141, len_tx143, len_tx148, len_tx150, len_tx152, len_tx157, len_tx159, len_tx161, len_tx166, len_tx168, len_tx173, len_tx175, len_tx180, len_tx182, len_tx187, len_tx189, len_tx191, len_tx193, len_tx195, len_tx197, len_tx203, len_tx208]; omega) (by omega) (by omega) rfl (fun h z hs => ?_)
    refine Go.iload_5 d_Law_list_147 rfl ?_
    refine Go.iconst (v := 2) d_Law_list_149 rfl (by decide) ?_
    refine Go.irem d_Law_list_150 rfl (by decide) ?_
    rw [show nI (i) - nI (i) / 2 * 2 = nI (i % 2) from nI_remm (m := 2) (by omega) (by decide) (by decide) rfl]
    refine Go.str1 (hb := hb) (q := 161) (if (i % 2) = 0 then tx141 else tx143) (fun a9 ha9 hl9 => ?_) (fun hkk => ?_)
    rotate_left
    · by_cases e : (i % 2) = 0
      · rw [if_pos e] at hkk
        rw [e]
        refine Go.if_ne (t := 159) d_Law_list_151 (by decide) rfl (fun w => absurd rfl w) (fun _ => ?_)
        refine Go.ldcS d_Law_list_154 rfl rfl (hls.t141).1 ?_
        refine Go.goto (t := 161) d_Law_list_156 (by decide) ?_
        exact hkk _ (Or.inl (hls.t141).2) LB_tx141
      · rw [if_neg e] at hkk
        rw [show (i % 2) = 1 by omega]
        refine Go.if_ne (t := 159) d_Law_list_151 (by decide) rfl (fun _ => ?_) (fun w => absurd w (by decide))
        refine Go.ldcS d_Law_list_159 rfl rfl (hls.t143).1 ?_
        exact hkk _ (Or.inl (hls.t143).2) LB_tx143
    have glen : (if (i % 2) = 0 then tx141 else tx143).length ≤ 3 := by
      by_cases e : (i % 2) = 0
      · rw [if_pos e]
        decide
      · rw [if_neg e]
        decide
    refine Go.lapp d_Law_list_161 rfl hk hp hs ha9 hl9 (by simp only [List.length_append, List.length_nil, len_tx35, len_tx48, len_tx50, len_tx52, len_tx54, len_tx56, len_tx58, len_tx60, len_tx62, len_tx64, len_tx66, len_tx68, len_tx70, len_tx72, len_tx74, len_tx76, len_tx78, len_tx80, len_tx82, len_tx84, len_tx86, len_tx88, len_tx90, len_tx92, len_tx94, len_tx96, len_tx98, len_tx100, len_tx102, len_tx104, len_tx106, len_tx108, len_tx110, len_tx112, len_tx114, len_tx135, len_tx137, len_tx139, len_tx141, len_tx143, len_tx148, len_tx150, len_tx152, len_tx157, len_tx159, len_tx161, len_tx166, len_tx168, len_tx173, len_tx175, len_tx180, len_tx182, len_tx187, len_tx189, len_tx191, len_tx193, len_tx195, len_tx197, len_tx203, len_tx208]; omega) (by omega) (by omega) rfl (fun h z hs => ?_)
    refine Go.pop d_Law_list_164 rfl rfl ?_
    refine Go.iload_4 d_Law_list_165 rfl ?_
    refine Go.iconst (v := 1) d_Law_list_167 rfl (by decide) ?_
    refine Go.iload_6 d_Law_list_168 rfl ?_
    refine Go.iconst (v := 2) d_Law_list_170 rfl (by decide) ?_
    refine Go.ishr d_Law_list_171 rfl ?_
    refine Go.iconst (v := 4) d_Law_list_172 rfl (by decide) ?_
    refine Go.lbel d_Law_list_173 rfl (n := 4) rfl (by omega) (by omega) rfl (fun y7 by7 => ?_)
    refine Go.iadd d_Law_list_176 rfl ?_
    rw [show (1 : Int32) + nI (y7) = nI (1 + y7) from nI_ad _ _]
    refine Go.iadd d_Law_list_177 rfl ?_
    rw [show nI (hg) + nI ((1 + y7)) = nI (hg + (1 + y7)) from nI_ad _ _]
    refine Go.istore_4 d_Law_list_178 rfl (by rfl) ?_
    refine Go.iinc_5 (v := nI (i + 1)) d_Law_list_180 rfl (by rfl) (nI_inc _) ?_
    refine Go.goto (t := 45) d_Law_list_183 (by decide) ?_
    refine Go.fgt [some (.ref sa), some (.ref b), some (.ref sim), some (.int (nI nb)), some (.int (nI (hg + (1 + y7)))), some (.int (nI (i + 1))), none, none, none, none, none, none, none] (by repeat' (first | exact trivial | refine ⟨rfl, ?_⟩)) ?_
    have et : ((((((((p ++ tAll tBand l) ++ tx135) ++ dec (i)) ++ tx137) ++ dec (hg)) ++ tx139) ++ dec (y2)) ++ (if (i % 2) = 0 then tx141 else tx143)) = p ++ tAll tBand (l ++ [(hg, y2)]) := by
      rw [tAll_snoc, hl]
      simp only [tBand, List.append_assoc]
    rw [et] at hs
    exact ih (i + 1) (l ++ [(hg, y2)]) h _ ((hg + (1 + y7))) _ _ (by omega) (len_snoc hl) (all_snoc hok (by unfold okBand; dsimp only; omega)) (by omega) (fun x hx => (List.mem_append.mp hx).elim (fun h1 => Nat.lt_of_lt_of_le (hlt x h1) (by omega)) (fun h1 => by rw [List.mem_singleton.mp h1]; show hg < _; omega)) (List.pairwise_append.mpr ⟨hpw, List.pairwise_singleton _ _, fun x hx y hy => by rw [List.mem_singleton.mp hy]; exact hlt x hx⟩) ⟨B, hs, hr, hc, hw, hsim⟩ (by omega) (by omega)
theorem d_Law_list_207 : decode M_Law_list.2.1 207 = .ok (.iload 5, 2) := by decide +kernel
theorem d_Law_list_209 : decode M_Law_list.2.1 209 = .ok (.aload_n 2, 1) := by decide +kernel
theorem d_Law_list_210 : decode M_Law_list.2.1 210 = .ok (.getfield 145, 3) := by decide +kernel
theorem d_Law_list_213 : decode M_Law_list.2.1 213 = .ok (.arraylength, 1) := by decide +kernel
theorem d_Law_list_214 : decode M_Law_list.2.1 214 = .ok (.if_icmp .ge 141, 3) := by decide +kernel
theorem d_Law_list_217 : decode M_Law_list.2.1 217 = .ok (.aload_n 0, 1) := by decide +kernel
theorem d_Law_list_218 : decode M_Law_list.2.1 218 = .ok (.iconst 2, 1) := by decide +kernel
theorem d_Law_list_219 : decode M_Law_list.2.1 219 = .ok (.invokestatic 119, 3) := by decide +kernel
theorem d_Law_list_222 : decode M_Law_list.2.1 222 = .ok (.iconst 2, 1) := by decide +kernel
theorem d_Law_list_223 : decode M_Law_list.2.1 223 = .ok (.iconst 5, 1) := by decide +kernel
theorem d_Law_list_224 : decode M_Law_list.2.1 224 = .ok (.iload 5, 2) := by decide +kernel
theorem d_Law_list_226 : decode M_Law_list.2.1 226 = .ok (.imul, 1) := by decide +kernel
theorem d_Law_list_227 : decode M_Law_list.2.1 227 = .ok (.iadd, 1) := by decide +kernel
theorem d_Law_list_228 : decode M_Law_list.2.1 228 = .ok (.ishr, 1) := by decide +kernel
theorem d_Law_list_229 : decode M_Law_list.2.1 229 = .ok (.istore 6, 2) := by decide +kernel
theorem d_Law_list_231 : decode M_Law_list.2.1 231 = .ok (.aload_n 2, 1) := by decide +kernel
theorem d_Law_list_232 : decode M_Law_list.2.1 232 = .ok (.getfield 145, 3) := by decide +kernel
theorem d_Law_list_235 : decode M_Law_list.2.1 235 = .ok (.iload 5, 2) := by decide +kernel
theorem d_Law_list_237 : decode M_Law_list.2.1 237 = .ok (.bipush 6, 2) := by decide +kernel
theorem d_Law_list_239 : decode M_Law_list.2.1 239 = .ok (.newarray .int, 2) := by decide +kernel
theorem d_Law_list_241 : decode M_Law_list.2.1 241 = .ok (.dup, 1) := by decide +kernel
theorem d_Law_list_242 : decode M_Law_list.2.1 242 = .ok (.iconst 0, 1) := by decide +kernel
theorem d_Law_list_243 : decode M_Law_list.2.1 243 = .ok (.iload 6, 2) := by decide +kernel
theorem d_Law_list_245 : decode M_Law_list.2.1 245 = .ok (.iload_n 3, 1) := by decide +kernel
theorem d_Law_list_246 : decode M_Law_list.2.1 246 = .ok (.invokestatic 125, 3) := by decide +kernel
theorem d_Law_list_249 : decode M_Law_list.2.1 249 = .ok (.iastore, 1) := by decide +kernel
theorem d_Law_list_250 : decode M_Law_list.2.1 250 = .ok (.dup, 1) := by decide +kernel
theorem d_Law_list_251 : decode M_Law_list.2.1 251 = .ok (.iconst 1, 1) := by decide +kernel
theorem d_Law_list_252 : decode M_Law_list.2.1 252 = .ok (.iconst 1, 1) := by decide +kernel
theorem d_Law_list_253 : decode M_Law_list.2.1 253 = .ok (.iload 6, 2) := by decide +kernel
theorem d_Law_list_255 : decode M_Law_list.2.1 255 = .ok (.iconst 3, 1) := by decide +kernel
theorem d_Law_list_256 : decode M_Law_list.2.1 256 = .ok (.ishr, 1) := by decide +kernel
theorem d_Law_list_257 : decode M_Law_list.2.1 257 = .ok (.iload 6, 2) := by decide +kernel
theorem d_Law_list_259 : decode M_Law_list.2.1 259 = .ok (.iconst 5, 1) := by decide +kernel
theorem d_Law_list_260 : decode M_Law_list.2.1 260 = .ok (.ishr, 1) := by decide +kernel
theorem d_Law_list_261 : decode M_Law_list.2.1 261 = .ok (.iconst 3, 1) := by decide +kernel
theorem d_Law_list_262 : decode M_Law_list.2.1 262 = .ok (.invokestatic 125, 3) := by decide +kernel
theorem d_Law_list_265 : decode M_Law_list.2.1 265 = .ok (.ifCond .ne 9, 3) := by decide +kernel
theorem d_Law_list_274 : decode M_Law_list.2.1 274 = .ok (.bipush 90, 2) := by decide +kernel
theorem d_Law_list_276 : decode M_Law_list.2.1 276 = .ok (.invokestatic 125, 3) := by decide +kernel
theorem d_Law_list_268 : decode M_Law_list.2.1 268 = .ok (.sipush 200, 3) := by decide +kernel
theorem d_Law_list_271 : decode M_Law_list.2.1 271 = .ok (.goto 5, 3) := by decide +kernel
theorem d_Law_list_279 : decode M_Law_list.2.1 279 = .ok (.iadd, 1) := by decide +kernel
theorem d_Law_list_280 : decode M_Law_list.2.1 280 = .ok (.iastore, 1) := by decide +kernel
theorem d_Law_list_281 : decode M_Law_list.2.1 281 = .ok (.dup, 1) := by decide +kernel
theorem d_Law_list_282 : decode M_Law_list.2.1 282 = .ok (.iconst 2, 1) := by decide +kernel
theorem d_Law_list_283 : decode M_Law_list.2.1 283 = .ok (.iconst 0, 1) := by decide +kernel
theorem d_Law_list_284 : decode M_Law_list.2.1 284 = .ok (.iastore, 1) := by decide +kernel
theorem d_Law_list_285 : decode M_Law_list.2.1 285 = .ok (.dup, 1) := by decide +kernel
theorem d_Law_list_286 : decode M_Law_list.2.1 286 = .ok (.iconst 3, 1) := by decide +kernel
theorem d_Law_list_287 : decode M_Law_list.2.1 287 = .ok (.iconst 1, 1) := by decide +kernel
theorem d_Law_list_288 : decode M_Law_list.2.1 288 = .ok (.iastore, 1) := by decide +kernel
theorem d_Law_list_289 : decode M_Law_list.2.1 289 = .ok (.dup, 1) := by decide +kernel
theorem d_Law_list_290 : decode M_Law_list.2.1 290 = .ok (.iconst 4, 1) := by decide +kernel
theorem d_Law_list_291 : decode M_Law_list.2.1 291 = .ok (.iconst (-1), 1) := by decide +kernel
theorem d_Law_list_292 : decode M_Law_list.2.1 292 = .ok (.iastore, 1) := by decide +kernel
theorem d_Law_list_293 : decode M_Law_list.2.1 293 = .ok (.dup, 1) := by decide +kernel
theorem d_Law_list_294 : decode M_Law_list.2.1 294 = .ok (.iconst 5, 1) := by decide +kernel
theorem d_Law_list_295 : decode M_Law_list.2.1 295 = .ok (.iconst 0, 1) := by decide +kernel
theorem d_Law_list_296 : decode M_Law_list.2.1 296 = .ok (.iastore, 1) := by decide +kernel
theorem d_Law_list_297 : decode M_Law_list.2.1 297 = .ok (.aastore, 1) := by decide +kernel
theorem d_Law_list_298 : decode M_Law_list.2.1 298 = .ok (.aload_n 1, 1) := by decide +kernel
theorem d_Law_list_299 : decode M_Law_list.2.1 299 = .ok (.ldc 148, 2) := by decide +kernel
theorem d_Law_list_301 : decode M_Law_list.2.1 301 = .ok (.invokevirtual 37, 3) := by decide +kernel
theorem d_Law_list_304 : decode M_Law_list.2.1 304 = .ok (.iload 5, 2) := by decide +kernel
theorem d_Law_list_306 : decode M_Law_list.2.1 306 = .ok (.invokevirtual 41, 3) := by decide +kernel
theorem d_Law_list_309 : decode M_Law_list.2.1 309 = .ok (.ldc 150, 2) := by decide +kernel
theorem d_Law_list_311 : decode M_Law_list.2.1 311 = .ok (.invokevirtual 37, 3) := by decide +kernel
theorem d_Law_list_314 : decode M_Law_list.2.1 314 = .ok (.aload_n 2, 1) := by decide +kernel
theorem d_Law_list_315 : decode M_Law_list.2.1 315 = .ok (.getfield 145, 3) := by decide +kernel
theorem d_Law_list_318 : decode M_Law_list.2.1 318 = .ok (.iload 5, 2) := by decide +kernel
theorem d_Law_list_320 : decode M_Law_list.2.1 320 = .ok (.aaload, 1) := by decide +kernel
theorem d_Law_list_321 : decode M_Law_list.2.1 321 = .ok (.iconst 0, 1) := by decide +kernel
theorem d_Law_list_322 : decode M_Law_list.2.1 322 = .ok (.iaload, 1) := by decide +kernel
theorem d_Law_list_323 : decode M_Law_list.2.1 323 = .ok (.invokevirtual 41, 3) := by decide +kernel
theorem d_Law_list_326 : decode M_Law_list.2.1 326 = .ok (.ldc 152, 2) := by decide +kernel
theorem d_Law_list_328 : decode M_Law_list.2.1 328 = .ok (.invokevirtual 37, 3) := by decide +kernel
theorem d_Law_list_331 : decode M_Law_list.2.1 331 = .ok (.aload_n 2, 1) := by decide +kernel
theorem d_Law_list_332 : decode M_Law_list.2.1 332 = .ok (.getfield 145, 3) := by decide +kernel
theorem d_Law_list_335 : decode M_Law_list.2.1 335 = .ok (.iload 5, 2) := by decide +kernel
theorem d_Law_list_337 : decode M_Law_list.2.1 337 = .ok (.aaload, 1) := by decide +kernel
theorem d_Law_list_338 : decode M_Law_list.2.1 338 = .ok (.iconst 1, 1) := by decide +kernel
theorem d_Law_list_339 : decode M_Law_list.2.1 339 = .ok (.iaload, 1) := by decide +kernel
theorem d_Law_list_340 : decode M_Law_list.2.1 340 = .ok (.invokevirtual 41, 3) := by decide +kernel
theorem d_Law_list_343 : decode M_Law_list.2.1 343 = .ok (.ldc 141, 2) := by decide +kernel
theorem d_Law_list_345 : decode M_Law_list.2.1 345 = .ok (.invokevirtual 37, 3) := by decide +kernel
theorem d_Law_list_348 : decode M_Law_list.2.1 348 = .ok (.pop, 1) := by decide +kernel
theorem d_Law_list_349 : decode M_Law_list.2.1 349 = .ok (.iinc 5 1, 3) := by decide +kernel
theorem d_Law_list_352 : decode M_Law_list.2.1 352 = .ok (.goto (-145), 3) := by decide +kernel
set_option maxRecDepth 100000 in
set_option maxHeartbeats 4000000 in
theorem li_stakes {Γ : G9} {ls : Nat → Nat} {sa n : Nat} {xs : Nat → Int32} {b sim nb m C' S' : Nat} {hb : AH} {Q : QT} {X : XT} {p : List Int32} {n0 : Nat} {r0 : List (Nat → Int32)} (hk : CsOk Γ) (hp : PrOk Γ) (hdg : DgOk Γ) (hls : LsOk Γ ls) (hao : AoOk Γ) (hsc : ScOk Γ sa n xs) (hn : n < 2 ^ 31) (hnb : 1 ≤ nb ∧ nb ≤ 4) (hm : m ≤ 4) (hpl : p.length ≤ 116) (hn0 : n0 ≤ 4) (kx : ∀ (l : List R2) (h : AH) (z : Nat), l.length = m → (∀ a ∈ l, okStake nb a) → LX Γ h b hb sim (p ++ tAll tStake l) (RSF r0 (l.map rStake) [] [] [] []) (CN n0 m 0 0 0 0) (fun _ => 10) → Go Γ M_Law_list 9 C' S' 355 [some (.ref sa), some (.ref b), some (.ref sim), some (.int (nI nb)), none, none, none, none, none, none, none, none, none] [] h z Q X) : ∀ (k i : Nat) (l : List R2) (h : AH) (z C S : Nat), i + k = m → l.length = i → (∀ a ∈ l, okStake nb a) → LX Γ h b hb sim (p ++ tAll tStake l) (RSF r0 (l.map rStake) [] [] [] []) (CN n0 m 0 0 0 0) (fun _ => 10) → C' + k * 9 ≤ C → S' + k * 20000 ≤ S → Go Γ M_Law_list 9 C S 207 [some (.ref sa), some (.ref b), some (.ref sim), some (.int (nI nb)), none, some (.int (nI i)), none, none, none, none, none, none, none] [] h z Q X := by
  intro k
  induction k with
  | zero =>
    intro i l h z C S hi hl hok ⟨B, hs, hr, hc, hw, hsim⟩ hC hS
    rw [Nat.zero_mul] at hC hS
    refine Go.room (C' := C') (S' := S') ?_ (Nat.le_refl _) hC hS
    refine Go.iload_5 d_Law_list_207 rfl ?_
    refine Go.aload_2 d_Law_list_209 rfl ?_
    refine Go.lget (k := 1) d_Law_list_210 rfl f_Law_145 (by decide) hs hsim ?_
    refine Go.llen d_Law_list_213 rfl (by decide) hs (n := m) (by rw [hc]; rfl) ?_
    refine Go.icmp_ge (t := 355) d_Law_list_214 (by decide) rfl (fun _ => ?_) (fun w => absurd (nI_le (by omega) (by omega)) w)
    refine Go.fgt [some (.ref sa), some (.ref b), some (.ref sim), some (.int (nI nb)), none, none, none, none, none, none, none, none, none] (by repeat' (first | exact trivial | refine ⟨rfl, ?_⟩)) ?_
    exact kx l h z (by omega) hok ⟨B, hs, hr, hc, hw, hsim⟩
  | succ k ih =>
    intro i l h z C S hi hl hok ⟨B, hs, hr, hc, hw, hsim⟩ hC hS
    rw [Nat.succ_mul] at hC hS
    have htl : (tAll tStake l).length ≤ 24 * i := tAll_len (K := 10) (fun k a => len_tStake hnb.2) hl (by omega) hok
    refine Go.iload_5 d_Law_list_207 rfl ?_
    refine Go.aload_2 d_Law_list_209 rfl ?_
    refine Go.lget (k := 1) d_Law_list_210 rfl f_Law_145 (by decide) hs hsim ?_
    refine Go.llen d_Law_list_213 rfl (by decide) hs (n := m) (by rw [hc]; rfl) ?_
    refine Go.icmp_ge (t := 355) d_Law_list_214 (by decide) rfl (fun w => absurd w (nI_ge (by omega) (by omega))) (fun _ => ?_)
    refine Go.aload_0 d_Law_list_217 rfl ?_
    refine Go.iconst (v := 2) d_Law_list_218 rfl (by decide) ?_
    refine Go.lcell d_Law_list_219 rfl hsc hn (k := 2) rfl (by omega) rfl (fun x0 => ?_)
    refine Go.iconst (v := 2) d_Law_list_222 rfl (by decide) ?_
    refine Go.iconst (v := 5) d_Law_list_223 rfl (by decide) ?_
    refine Go.iload_5 d_Law_list_224 rfl ?_
    refine Go.imul d_Law_list_226 rfl ?_
    refine Go.iadd d_Law_list_227 rfl ?_
    refine Go.ishr d_Law_list_228 rfl ?_
    refine Go.istore_6 d_Law_list_229 rfl (by rfl) ?_
    refine Go.aload_2 d_Law_list_231 rfl ?_
    refine Go.lget (k := 1) d_Law_list_232 rfl f_Law_145 (by decide) hs hsim ?_
    refine Go.iload_5 d_Law_list_235 rfl ?_
    refine Go.bipush (v := 6) d_Law_list_237 rfl (by decide) ?_
    refine Go.low (fun hlow => ?_)
    refine Go.lnewI (C1 := C - 1) (S1 := S - 6) (N := 6) d_Law_list_239 rfl rfl (by decide) (by omega) (by omega) ?_
    refine Go.dup d_Law_list_241 rfl rfl ?_
    refine Go.iconst (v := 0) d_Law_list_242 rfl (by decide) ?_
    refine Go.iload_6 d_Law_list_243 rfl ?_
    refine Go.iload_3 d_Law_list_245 rfl ?_
    refine Go.lbel d_Law_list_246 rfl (n := nb) rfl (by omega) (by omega) rfl (fun y1 by1 => ?_)
    refine Go.lini d_Law_list_249 rfl (j := 0) rfl (by decide) (by decide) ?_
    refine Go.dup d_Law_list_250 rfl rfl ?_
    refine Go.iconst (v := 1) d_Law_list_251 rfl (by decide) ?_
    refine Go.iconst (v := 1) d_Law_list_252 rfl (by decide) ?_
    refine Go.iload_6 d_Law_list_253 rfl ?_
    refine Go.iconst (v := 3) d_Law_list_255 rfl (by decide) ?_
    refine Go.ishr d_Law_list_256 rfl ?_
    refine Go.iload_6 d_Law_list_257 rfl ?_
    refine Go.iconst (v := 5) d_Law_list_259 rfl (by decide) ?_
    refine Go.ishr d_Law_list_260 rfl ?_
    refine Go.iconst (v := 3) d_Law_list_261 rfl (by decide) ?_
    refine Go.lbel d_Law_list_262 rfl (n := 3) rfl (by omega) (by omega) rfl (fun y2 by2 => ?_)
    refine Go.bel2 (q := 279) 200 (fun y3 by3 => ?_) (fun hkk => ?_)
    rotate_left
    · refine Go.if_ne (t := 274) d_Law_list_265 (by decide) rfl (fun _ => ?_) (fun _ => ?_)
      · skip
        refine Go.bipush (v := 90) d_Law_list_274 rfl (by decide) ?_
        exact Go.lbel d_Law_list_276 rfl (n := 90) rfl (by omega) (by omega) rfl (fun y by_ => hkk y (by omega))
      · skip
        refine Go.sipush (v := 200) d_Law_list_268 rfl (by decide) ?_
        refine Go.goto (t := 276) d_Law_list_271 (by decide) ?_
        exact Go.lbel d_Law_list_276 rfl (n := 200) rfl (by omega) (by omega) rfl (fun y by_ => hkk y (by omega))
    refine Go.iadd d_Law_list_279 rfl ?_
    rw [show (1 : Int32) + nI (y3) = nI (1 + y3) from nI_ad _ _]
    refine Go.lini d_Law_list_280 rfl (j := 1) rfl (by decide) (by decide) ?_
    refine Go.dup d_Law_list_281 rfl rfl ?_
    refine Go.iconst (v := 2) d_Law_list_282 rfl (by decide) ?_
    refine Go.iconst (v := 0) d_Law_list_283 rfl (by decide) ?_
    refine Go.lini d_Law_list_284 rfl (j := 2) rfl (by decide) (by decide) ?_
    refine Go.dup d_Law_list_285 rfl rfl ?_
    refine Go.iconst (v := 3) d_Law_list_286 rfl (by decide) ?_
    refine Go.iconst (v := 1) d_Law_list_287 rfl (by decide) ?_
    refine Go.lini d_Law_list_288 rfl (j := 3) rfl (by decide) (by decide) ?_
    refine Go.dup d_Law_list_289 rfl rfl ?_
    refine Go.iconst (v := 4) d_Law_list_290 rfl (by decide) ?_
    refine Go.iconst (v := (-1)) d_Law_list_291 rfl (by decide) ?_
    refine Go.lini d_Law_list_292 rfl (j := 4) rfl (by decide) (by decide) ?_
    refine Go.dup d_Law_list_293 rfl rfl ?_
    refine Go.iconst (v := 5) d_Law_list_294 rfl (by decide) ?_
    refine Go.iconst (v := 0) d_Law_list_295 rfl (by decide) ?_
    refine Go.lini d_Law_list_296 rfl (j := 5) rfl (by decide) (by decide) ?_
    refine Go.laas (k := 1) d_Law_list_297 rfl hao hs hsim hlow (by decide) (i := i) rfl (by rw [hr]; exact (List.length_map ..).trans hl) (by rw [hc]; show i < m; omega) (by rw [hc]; show m < 100; omega) (fun h B hs e1 hc1 hw1 hsim hlen hf => ?_)
    have hc := hc1.trans hc
    have hw := hw1.trans hw
    have hr : b_rs B = RSF r0 ((l ++ [(y1, (1 + y3))]).map rStake) [] [] [] [] := by
      rw [e1, hr, RS_row1, List.map_append]
      rfl
    refine Go.aload_1 d_Law_list_298 rfl ?_
    refine Go.ldcS d_Law_list_299 rfl rfl (hls.t148).1 ?_
    refine Go.lapp d_Law_list_301 rfl hk hp hs (Or.inl (hls.t148).2) LB_tx148 (by simp only [List.length_append, List.length_nil, len_tx35, len_tx48, len_tx50, len_tx52, len_tx54, len_tx56, len_tx58, len_tx60, len_tx62, len_tx64, len_tx66, len_tx68, len_tx70, len_tx72, len_tx74, len_tx76, len_tx78, len_tx80, len_tx82, len_tx84, len_tx86, len_tx88, len_tx90, len_tx92, len_tx94, len_tx96, len_tx98, len_tx100, len_tx102, len_tx104, len_tx106, len_tx108, len_tx110, len_tx112, len_tx114, len_tx135, len_tx137, len_tx139, len_tx141, len_tx143, len_tx148, len_tx150, len_tx152, len_tx157, len_tx159, len_tx161, len_tx166, len_tx168, len_tx173, len_tx175, len_tx180, len_tx182, len_tx187, len_tx189, len_tx191, len_tx193, len_tx195, len_tx197, len_tx203, len_tx208]; omega) (by omega) (by omega) rfl (fun h z hs => ?_)
    refine Go.iload_5 d_Law_list_304 rfl ?_
    have g4 := dec_2 (show i < 100 by omega)
    have g5 := dec_1 (show i < 10 by omega)
    refine Go.lappI (v := i) d_Law_list_306 rfl hk hp hdg hs (by omega) (by simp only [List.length_append, List.length_nil, len_tx35, len_tx48, len_tx50, len_tx52, len_tx54, len_tx56, len_tx58, len_tx60, len_tx62, len_tx64, len_tx66, len_tx68, len_tx70, len_tx72, len_tx74, len_tx76, len_tx78, len_tx80, len_tx82, len_tx84, len_tx86, len_tx88, len_tx90, len_tx92, len_tx94, len_tx96, len_tx98, len_tx100, len_tx102, len_tx104, len_tx106, len_tx108, len_tx110, len_tx112, len_tx114, len_tx135, len_tx137, len_tx139, len_tx141, len_tx143, len_tx148, len_tx150, len_tx152, len_tx157, len_tx159, len_tx161, len_tx166, len_tx168, len_tx173, len_tx175, len_tx180, len_tx182, len_tx187, len_tx189, len_tx191, len_tx193, len_tx195, len_tx197, len_tx203, len_tx208]; omega) (by omega) (by omega) rfl (fun h z hs => ?_)
    refine Go.ldcS d_Law_list_309 rfl rfl (hls.t150).1 ?_
    refine Go.lapp d_Law_list_311 rfl hk hp hs (Or.inl (hls.t150).2) LB_tx150 (by simp only [List.length_append, List.length_nil, len_tx35, len_tx48, len_tx50, len_tx52, len_tx54, len_tx56, len_tx58, len_tx60, len_tx62, len_tx64, len_tx66, len_tx68, len_tx70, len_tx72, len_tx74, len_tx76, len_tx78, len_tx80, len_tx82, len_tx84, len_tx86, len_tx88, len_tx90, len_tx92, len_tx94, len_tx96, len_tx98, len_tx100, len_tx102, len_tx104, len_tx106, len_tx108, len_tx110, len_tx112, len_tx114, len_tx135, len_tx137, len_tx139, len_tx141, len_tx143, len_tx148, len_tx150, len_tx152, len_tx157, len_tx159, len_tx161, len_tx166, len_tx168, len_tx173, len_tx175, len_tx180, len_tx182, len_tx187, len_tx189, len_tx191, len_tx193, len_tx195, len_tx197, len_tx203, len_tx208]; omega) (by omega) (by omega) rfl (fun h z hs => ?_)
    refine Go.aload_2 d_Law_list_314 rfl ?_
    refine Go.lget (k := 1) d_Law_list_315 rfl f_Law_145 (by decide) hs hsim ?_
    refine Go.iload_5 d_Law_list_318 rfl ?_
    refine Go.lrow d_Law_list_320 rfl hs (by decide) (i := i) rfl hlen (by rw [hc]; show i < m; omega) (by rw [hc]; show m < 100; omega) ?_
    refine Go.iconst (v := 0) d_Law_list_321 rfl (by decide) ?_
    refine Go.lld d_Law_list_322 rfl hs (by decide) hlen hf (j := 0) (by decide) (by decide) (x := nI (y1)) rfl ?_
    have g6 := dec_2 (show y1 < 100 by omega)
    have g7 := dec_1 (show y1 < 10 by omega)
    refine Go.lappI (v := y1) d_Law_list_323 rfl hk hp hdg hs (by omega) (by simp only [List.length_append, List.length_nil, len_tx35, len_tx48, len_tx50, len_tx52, len_tx54, len_tx56, len_tx58, len_tx60, len_tx62, len_tx64, len_tx66, len_tx68, len_tx70, len_tx72, len_tx74, len_tx76, len_tx78, len_tx80, len_tx82, len_tx84, len_tx86, len_tx88, len_tx90, len_tx92, len_tx94, len_tx96, len_tx98, len_tx100, len_tx102, len_tx104, len_tx106, len_tx108, len_tx110, len_tx112, len_tx114, len_tx135, len_tx137, len_tx139, len_tx141, len_tx143, len_tx148, len_tx150, len_tx152, len_tx157, len_tx159, len_tx161, len_tx166, len_tx168, len_tx173, len_tx175, len_tx180, len_tx182, len_tx187, len_tx189, len_tx191, len_tx193, len_tx195, len_tx197, len_tx203, len_tx208]; omega) (by omega) (by omega) rfl (fun h z hs => ?_)
    refine Go.ldcS d_Law_list_326 rfl rfl (hls.t152).1 ?_
    refine Go.lapp d_Law_list_328 rfl hk hp hs (Or.inl (hls.t152).2) LB_tx152 (by simp only [List.length_append, List.length_nil, len_tx35, len_tx48, len_tx50, len_tx52, len_tx54, len_tx56, len_tx58, len_tx60, len_tx62, len_tx64, len_tx66, len_tx68, len_tx70, len_tx72, len_tx74, len_tx76, len_tx78, len_tx80, len_tx82, len_tx84, len_tx86, len_tx88, len_tx90, len_tx92, len_tx94, len_tx96, len_tx98, len_tx100, len_tx102, len_tx104, len_tx106, len_tx108, len_tx110, len_tx112, len_tx114, len_tx135, len_tx137, len_tx139, len_tx141, len_tx143, len_tx148, len_tx150, len_tx152, len_tx157, len_tx159, len_tx161, len_tx166, len_tx168, len_tx173, len_tx175, len_tx180, len_tx182, len_tx187, len_tx189, len_tx191, len_tx193, len_tx195, len_tx197, len_tx203, len_tx208]; omega) (by omega) (by omega) rfl (fun h z hs => ?_)
    refine Go.aload_2 d_Law_list_331 rfl ?_
    refine Go.lget (k := 1) d_Law_list_332 rfl f_Law_145 (by decide) hs hsim ?_
    refine Go.iload_5 d_Law_list_335 rfl ?_
    refine Go.lrow d_Law_list_337 rfl hs (by decide) (i := i) rfl hlen (by rw [hc]; show i < m; omega) (by rw [hc]; show m < 100; omega) ?_
    refine Go.iconst (v := 1) d_Law_list_338 rfl (by decide) ?_
    refine Go.lld d_Law_list_339 rfl hs (by decide) hlen hf (j := 1) (by decide) (by decide) (x := nI ((1 + y3))) rfl ?_
    have g8 := @dec_le ((1 + y3))
    refine Go.lappI (v := (1 + y3)) d_Law_list_340 rfl hk hp hdg hs (by omega) (by simp only [List.length_append, List.length_nil, len_tx35, len_tx48, len_tx50, len_tx52, len_tx54, len_tx56, len_tx58, len_tx60, len_tx62, len_tx64, len_tx66, len_tx68, len_tx70, len_tx72, len_tx74, len_tx76, len_tx78, len_tx80, len_tx82, len_tx84, len_tx86, len_tx88, len_tx90, len_tx92, len_tx94, len_tx96, len_tx98, len_tx100, len_tx102, len_tx104, len_tx106, len_tx108, len_tx110, len_tx112, len_tx114, len_tx135, len_tx137, len_tx139, len_tx141, len_tx143, len_tx148, len_tx150, len_tx152, len_tx157, len_tx159, len_tx161, len_tx166, len_tx168, len_tx173, len_tx175, len_tx180, len_tx182, len_tx187, len_tx189, len_tx191, len_tx193, len_tx195, len_tx197, len_tx203, len_tx208]; omega) (by omega) (by omega) rfl (fun h z hs => ?_)
    refine Go.ldcS d_Law_list_343 rfl rfl (hls.t141).1 ?_
    refine Go.lapp d_Law_list_345 rfl hk hp hs (Or.inl (hls.t141).2) LB_tx141 (by simp only [List.length_append, List.length_nil, len_tx35, len_tx48, len_tx50, len_tx52, len_tx54, len_tx56, len_tx58, len_tx60, len_tx62, len_tx64, len_tx66, len_tx68, len_tx70, len_tx72, len_tx74, len_tx76, len_tx78, len_tx80, len_tx82, len_tx84, len_tx86, len_tx88, len_tx90, len_tx92, len_tx94, len_tx96, len_tx98, len_tx100, len_tx102, len_tx104, len_tx106, len_tx108, len_tx110, len_tx112, len_tx114, len_tx135, len_tx137, len_tx139, len_tx141, len_tx143, len_tx148, len_tx150, len_tx152, len_tx157, len_tx159, len_tx161, len_tx166, len_tx168, len_tx173, len_tx175, len_tx180, len_tx182, len_tx187, len_tx189, len_tx191, len_tx193, len_tx195, len_tx197, len_tx203, len_tx208]; omega) (by omega) (by omega) rfl (fun h z hs => ?_)
    refine Go.pop d_Law_list_348 rfl rfl ?_
    refine Go.iinc_5 (v := nI (i + 1)) d_Law_list_349 rfl (by rfl) (nI_inc _) ?_
    refine Go.goto (t := 207) d_Law_list_352 (by decide) ?_
    refine Go.fgt [some (.ref sa), some (.ref b), some (.ref sim), some (.int (nI nb)), none, some (.int (nI (i + 1))), none, none, none, none, none, none, none] (by repeat' (first | exact trivial | refine ⟨rfl, ?_⟩)) ?_
    have et : ((((((((p ++ tAll tStake l) ++ tx148) ++ dec (i)) ++ tx150) ++ dec (y1)) ++ tx152) ++ dec ((1 + y3))) ++ tx141) = p ++ tAll tStake (l ++ [(y1, (1 + y3))]) := by
      rw [tAll_snoc, hl]
      simp only [tStake, List.append_assoc]
    rw [et] at hs
    exact ih (i + 1) (l ++ [(y1, (1 + y3))]) h _ _ _ (by omega) (len_snoc hl) (all_snoc hok (by unfold okStake; dsimp only; omega)) ⟨B, hs, hr, hc, hw, hsim⟩ (by omega) (by omega)
theorem d_Law_list_376 : decode M_Law_list.2.1 376 = .ok (.iload 5, 2) := by decide +kernel
theorem d_Law_list_378 : decode M_Law_list.2.1 378 = .ok (.aload_n 2, 1) := by decide +kernel
theorem d_Law_list_379 : decode M_Law_list.2.1 379 = .ok (.getfield 154, 3) := by decide +kernel
theorem d_Law_list_382 : decode M_Law_list.2.1 382 = .ok (.arraylength, 1) := by decide +kernel
theorem d_Law_list_383 : decode M_Law_list.2.1 383 = .ok (.if_icmp .ge 148, 3) := by decide +kernel
theorem d_Law_list_386 : decode M_Law_list.2.1 386 = .ok (.aload_n 0, 1) := by decide +kernel
theorem d_Law_list_387 : decode M_Law_list.2.1 387 = .ok (.iconst 3, 1) := by decide +kernel
theorem d_Law_list_388 : decode M_Law_list.2.1 388 = .ok (.invokestatic 119, 3) := by decide +kernel
theorem d_Law_list_391 : decode M_Law_list.2.1 391 = .ok (.iconst 2, 1) := by decide +kernel
theorem d_Law_list_392 : decode M_Law_list.2.1 392 = .ok (.iconst 5, 1) := by decide +kernel
theorem d_Law_list_393 : decode M_Law_list.2.1 393 = .ok (.iload 5, 2) := by decide +kernel
theorem d_Law_list_395 : decode M_Law_list.2.1 395 = .ok (.imul, 1) := by decide +kernel
theorem d_Law_list_396 : decode M_Law_list.2.1 396 = .ok (.iadd, 1) := by decide +kernel
theorem d_Law_list_397 : decode M_Law_list.2.1 397 = .ok (.ishr, 1) := by decide +kernel
theorem d_Law_list_398 : decode M_Law_list.2.1 398 = .ok (.istore 6, 2) := by decide +kernel
theorem d_Law_list_400 : decode M_Law_list.2.1 400 = .ok (.aload_n 2, 1) := by decide +kernel
theorem d_Law_list_401 : decode M_Law_list.2.1 401 = .ok (.getfield 154, 3) := by decide +kernel
theorem d_Law_list_404 : decode M_Law_list.2.1 404 = .ok (.iload 5, 2) := by decide +kernel
theorem d_Law_list_406 : decode M_Law_list.2.1 406 = .ok (.bipush 6, 2) := by decide +kernel
theorem d_Law_list_408 : decode M_Law_list.2.1 408 = .ok (.newarray .int, 2) := by decide +kernel
theorem d_Law_list_410 : decode M_Law_list.2.1 410 = .ok (.dup, 1) := by decide +kernel
theorem d_Law_list_411 : decode M_Law_list.2.1 411 = .ok (.iconst 0, 1) := by decide +kernel
theorem d_Law_list_412 : decode M_Law_list.2.1 412 = .ok (.iload 6, 2) := by decide +kernel
theorem d_Law_list_414 : decode M_Law_list.2.1 414 = .ok (.iload_n 3, 1) := by decide +kernel
theorem d_Law_list_415 : decode M_Law_list.2.1 415 = .ok (.invokestatic 125, 3) := by decide +kernel
theorem d_Law_list_418 : decode M_Law_list.2.1 418 = .ok (.iastore, 1) := by decide +kernel
theorem d_Law_list_419 : decode M_Law_list.2.1 419 = .ok (.dup, 1) := by decide +kernel
theorem d_Law_list_420 : decode M_Law_list.2.1 420 = .ok (.iconst 1, 1) := by decide +kernel
theorem d_Law_list_421 : decode M_Law_list.2.1 421 = .ok (.iload 6, 2) := by decide +kernel
theorem d_Law_list_423 : decode M_Law_list.2.1 423 = .ok (.iconst 2, 1) := by decide +kernel
theorem d_Law_list_424 : decode M_Law_list.2.1 424 = .ok (.ishr, 1) := by decide +kernel
theorem d_Law_list_425 : decode M_Law_list.2.1 425 = .ok (.iconst 4, 1) := by decide +kernel
theorem d_Law_list_426 : decode M_Law_list.2.1 426 = .ok (.invokestatic 125, 3) := by decide +kernel
theorem d_Law_list_429 : decode M_Law_list.2.1 429 = .ok (.ifCond .ne 15, 3) := by decide +kernel
theorem d_Law_list_444 : decode M_Law_list.2.1 444 = .ok (.bipush 40, 2) := by decide +kernel
theorem d_Law_list_446 : decode M_Law_list.2.1 446 = .ok (.iload 6, 2) := by decide +kernel
theorem d_Law_list_448 : decode M_Law_list.2.1 448 = .ok (.iconst 4, 1) := by decide +kernel
theorem d_Law_list_449 : decode M_Law_list.2.1 449 = .ok (.ishr, 1) := by decide +kernel
theorem d_Law_list_450 : decode M_Law_list.2.1 450 = .ok (.bipush 60, 2) := by decide +kernel
theorem d_Law_list_452 : decode M_Law_list.2.1 452 = .ok (.invokestatic 125, 3) := by decide +kernel
theorem d_Law_list_455 : decode M_Law_list.2.1 455 = .ok (.iadd, 1) := by decide +kernel
theorem d_Law_list_432 : decode M_Law_list.2.1 432 = .ok (.iload 6, 2) := by decide +kernel
theorem d_Law_list_434 : decode M_Law_list.2.1 434 = .ok (.iconst 4, 1) := by decide +kernel
theorem d_Law_list_435 : decode M_Law_list.2.1 435 = .ok (.ishr, 1) := by decide +kernel
theorem d_Law_list_436 : decode M_Law_list.2.1 436 = .ok (.bipush 100, 2) := by decide +kernel
theorem d_Law_list_438 : decode M_Law_list.2.1 438 = .ok (.invokestatic 125, 3) := by decide +kernel
theorem d_Law_list_441 : decode M_Law_list.2.1 441 = .ok (.goto 15, 3) := by decide +kernel
theorem d_Law_list_456 : decode M_Law_list.2.1 456 = .ok (.iastore, 1) := by decide +kernel
theorem d_Law_list_457 : decode M_Law_list.2.1 457 = .ok (.dup, 1) := by decide +kernel
theorem d_Law_list_458 : decode M_Law_list.2.1 458 = .ok (.iconst 2, 1) := by decide +kernel
theorem d_Law_list_459 : decode M_Law_list.2.1 459 = .ok (.iconst 0, 1) := by decide +kernel
theorem d_Law_list_460 : decode M_Law_list.2.1 460 = .ok (.iastore, 1) := by decide +kernel
theorem d_Law_list_461 : decode M_Law_list.2.1 461 = .ok (.dup, 1) := by decide +kernel
theorem d_Law_list_462 : decode M_Law_list.2.1 462 = .ok (.iconst 3, 1) := by decide +kernel
theorem d_Law_list_463 : decode M_Law_list.2.1 463 = .ok (.iconst (-1), 1) := by decide +kernel
theorem d_Law_list_464 : decode M_Law_list.2.1 464 = .ok (.iastore, 1) := by decide +kernel
theorem d_Law_list_465 : decode M_Law_list.2.1 465 = .ok (.dup, 1) := by decide +kernel
theorem d_Law_list_466 : decode M_Law_list.2.1 466 = .ok (.iconst 4, 1) := by decide +kernel
theorem d_Law_list_467 : decode M_Law_list.2.1 467 = .ok (.iconst 0, 1) := by decide +kernel
theorem d_Law_list_468 : decode M_Law_list.2.1 468 = .ok (.iastore, 1) := by decide +kernel
theorem d_Law_list_469 : decode M_Law_list.2.1 469 = .ok (.dup, 1) := by decide +kernel
theorem d_Law_list_470 : decode M_Law_list.2.1 470 = .ok (.iconst 5, 1) := by decide +kernel
theorem d_Law_list_471 : decode M_Law_list.2.1 471 = .ok (.iconst 0, 1) := by decide +kernel
theorem d_Law_list_472 : decode M_Law_list.2.1 472 = .ok (.iastore, 1) := by decide +kernel
theorem d_Law_list_473 : decode M_Law_list.2.1 473 = .ok (.aastore, 1) := by decide +kernel
theorem d_Law_list_474 : decode M_Law_list.2.1 474 = .ok (.aload_n 1, 1) := by decide +kernel
theorem d_Law_list_475 : decode M_Law_list.2.1 475 = .ok (.ldc 157, 2) := by decide +kernel
theorem d_Law_list_477 : decode M_Law_list.2.1 477 = .ok (.invokevirtual 37, 3) := by decide +kernel
theorem d_Law_list_480 : decode M_Law_list.2.1 480 = .ok (.iload 5, 2) := by decide +kernel
theorem d_Law_list_482 : decode M_Law_list.2.1 482 = .ok (.invokevirtual 41, 3) := by decide +kernel
theorem d_Law_list_485 : decode M_Law_list.2.1 485 = .ok (.ldc 159, 2) := by decide +kernel
theorem d_Law_list_487 : decode M_Law_list.2.1 487 = .ok (.invokevirtual 37, 3) := by decide +kernel
theorem d_Law_list_490 : decode M_Law_list.2.1 490 = .ok (.aload_n 2, 1) := by decide +kernel
theorem d_Law_list_491 : decode M_Law_list.2.1 491 = .ok (.getfield 154, 3) := by decide +kernel
theorem d_Law_list_494 : decode M_Law_list.2.1 494 = .ok (.iload 5, 2) := by decide +kernel
theorem d_Law_list_496 : decode M_Law_list.2.1 496 = .ok (.aaload, 1) := by decide +kernel
theorem d_Law_list_497 : decode M_Law_list.2.1 497 = .ok (.iconst 0, 1) := by decide +kernel
theorem d_Law_list_498 : decode M_Law_list.2.1 498 = .ok (.iaload, 1) := by decide +kernel
theorem d_Law_list_499 : decode M_Law_list.2.1 499 = .ok (.invokevirtual 41, 3) := by decide +kernel
theorem d_Law_list_502 : decode M_Law_list.2.1 502 = .ok (.ldc 161, 2) := by decide +kernel
theorem d_Law_list_504 : decode M_Law_list.2.1 504 = .ok (.invokevirtual 37, 3) := by decide +kernel
theorem d_Law_list_507 : decode M_Law_list.2.1 507 = .ok (.aload_n 2, 1) := by decide +kernel
theorem d_Law_list_508 : decode M_Law_list.2.1 508 = .ok (.getfield 154, 3) := by decide +kernel
theorem d_Law_list_511 : decode M_Law_list.2.1 511 = .ok (.iload 5, 2) := by decide +kernel
theorem d_Law_list_513 : decode M_Law_list.2.1 513 = .ok (.aaload, 1) := by decide +kernel
theorem d_Law_list_514 : decode M_Law_list.2.1 514 = .ok (.iconst 1, 1) := by decide +kernel
theorem d_Law_list_515 : decode M_Law_list.2.1 515 = .ok (.iaload, 1) := by decide +kernel
theorem d_Law_list_516 : decode M_Law_list.2.1 516 = .ok (.invokevirtual 41, 3) := by decide +kernel
theorem d_Law_list_519 : decode M_Law_list.2.1 519 = .ok (.ldc 141, 2) := by decide +kernel
theorem d_Law_list_521 : decode M_Law_list.2.1 521 = .ok (.invokevirtual 37, 3) := by decide +kernel
theorem d_Law_list_524 : decode M_Law_list.2.1 524 = .ok (.pop, 1) := by decide +kernel
theorem d_Law_list_525 : decode M_Law_list.2.1 525 = .ok (.iinc 5 1, 3) := by decide +kernel
theorem d_Law_list_528 : decode M_Law_list.2.1 528 = .ok (.goto (-152), 3) := by decide +kernel
set_option maxRecDepth 100000 in
set_option maxHeartbeats 4000000 in
theorem li_crev {Γ : G9} {ls : Nat → Nat} {sa n : Nat} {xs : Nat → Int32} {b sim nb m C' S' : Nat} {hb : AH} {Q : QT} {X : XT} {p : List Int32} {n0 : Nat} {n1 : Nat} {r0 : List (Nat → Int32)} {r1 : List (Nat → Int32)} (hk : CsOk Γ) (hp : PrOk Γ) (hdg : DgOk Γ) (hls : LsOk Γ ls) (hao : AoOk Γ) (hsc : ScOk Γ sa n xs) (hn : n < 2 ^ 31) (hnb : 1 ≤ nb ∧ nb ≤ 4) (hm : m ≤ 4) (hpl : p.length ≤ 212) (hn0 : n0 ≤ 4) (hn1 : n1 ≤ 4) (kx : ∀ (l : List R2) (h : AH) (z : Nat), l.length = m → (∀ a ∈ l, okCrev nb a) → LX Γ h b hb sim (p ++ tAll tCrev l) (RSF r0 r1 (l.map rCrev) [] [] []) (CN n0 n1 m 0 0 0) (fun _ => 10) → Go Γ M_Law_list 9 C' S' 531 [some (.ref sa), some (.ref b), some (.ref sim), some (.int (nI nb)), none, none, none, none, none, none, none, none, none] [] h z Q X) : ∀ (k i : Nat) (l : List R2) (h : AH) (z C S : Nat), i + k = m → l.length = i → (∀ a ∈ l, okCrev nb a) → LX Γ h b hb sim (p ++ tAll tCrev l) (RSF r0 r1 (l.map rCrev) [] [] []) (CN n0 n1 m 0 0 0) (fun _ => 10) → C' + k * 9 ≤ C → S' + k * 20000 ≤ S → Go Γ M_Law_list 9 C S 376 [some (.ref sa), some (.ref b), some (.ref sim), some (.int (nI nb)), none, some (.int (nI i)), none, none, none, none, none, none, none] [] h z Q X := by
  intro k
  induction k with
  | zero =>
    intro i l h z C S hi hl hok ⟨B, hs, hr, hc, hw, hsim⟩ hC hS
    rw [Nat.zero_mul] at hC hS
    refine Go.room (C' := C') (S' := S') ?_ (Nat.le_refl _) hC hS
    refine Go.iload_5 d_Law_list_376 rfl ?_
    refine Go.aload_2 d_Law_list_378 rfl ?_
    refine Go.lget (k := 2) d_Law_list_379 rfl f_Law_154 (by decide) hs hsim ?_
    refine Go.llen d_Law_list_382 rfl (by decide) hs (n := m) (by rw [hc]; rfl) ?_
    refine Go.icmp_ge (t := 531) d_Law_list_383 (by decide) rfl (fun _ => ?_) (fun w => absurd (nI_le (by omega) (by omega)) w)
    refine Go.fgt [some (.ref sa), some (.ref b), some (.ref sim), some (.int (nI nb)), none, none, none, none, none, none, none, none, none] (by repeat' (first | exact trivial | refine ⟨rfl, ?_⟩)) ?_
    exact kx l h z (by omega) hok ⟨B, hs, hr, hc, hw, hsim⟩
  | succ k ih =>
    intro i l h z C S hi hl hok ⟨B, hs, hr, hc, hw, hsim⟩ hC hS
    rw [Nat.succ_mul] at hC hS
    have htl : (tAll tCrev l).length ≤ 31 * i := tAll_len (K := 10) (fun k a => len_tCrev hnb.2) hl (by omega) hok
    refine Go.iload_5 d_Law_list_376 rfl ?_
    refine Go.aload_2 d_Law_list_378 rfl ?_
    refine Go.lget (k := 2) d_Law_list_379 rfl f_Law_154 (by decide) hs hsim ?_
    refine Go.llen d_Law_list_382 rfl (by decide) hs (n := m) (by rw [hc]; rfl) ?_
    refine Go.icmp_ge (t := 531) d_Law_list_383 (by decide) rfl (fun w => absurd w (nI_ge (by omega) (by omega))) (fun _ => ?_)
    refine Go.aload_0 d_Law_list_386 rfl ?_
    refine Go.iconst (v := 3) d_Law_list_387 rfl (by decide) ?_
    refine Go.lcell d_Law_list_388 rfl hsc hn (k := 3) rfl (by omega) rfl (fun x0 => ?_)
    refine Go.iconst (v := 2) d_Law_list_391 rfl (by decide) ?_
    refine Go.iconst (v := 5) d_Law_list_392 rfl (by decide) ?_
    refine Go.iload_5 d_Law_list_393 rfl ?_
    refine Go.imul d_Law_list_395 rfl ?_
    refine Go.iadd d_Law_list_396 rfl ?_
    refine Go.ishr d_Law_list_397 rfl ?_
    refine Go.istore_6 d_Law_list_398 rfl (by rfl) ?_
    refine Go.aload_2 d_Law_list_400 rfl ?_
    refine Go.lget (k := 2) d_Law_list_401 rfl f_Law_154 (by decide) hs hsim ?_
    refine Go.iload_5 d_Law_list_404 rfl ?_
    refine Go.bipush (v := 6) d_Law_list_406 rfl (by decide) ?_
    refine Go.low (fun hlow => ?_)
    refine Go.lnewI (C1 := C - 1) (S1 := S - 6) (N := 6) d_Law_list_408 rfl rfl (by decide) (by omega) (by omega) ?_
    refine Go.dup d_Law_list_410 rfl rfl ?_
    refine Go.iconst (v := 0) d_Law_list_411 rfl (by decide) ?_
    refine Go.iload_6 d_Law_list_412 rfl ?_
    refine Go.iload_3 d_Law_list_414 rfl ?_
    refine Go.lbel d_Law_list_415 rfl (n := nb) rfl (by omega) (by omega) rfl (fun y1 by1 => ?_)
    refine Go.lini d_Law_list_418 rfl (j := 0) rfl (by decide) (by decide) ?_
    refine Go.dup d_Law_list_419 rfl rfl ?_
    refine Go.iconst (v := 1) d_Law_list_420 rfl (by decide) ?_
    refine Go.iload_6 d_Law_list_421 rfl ?_
    refine Go.iconst (v := 2) d_Law_list_423 rfl (by decide) ?_
    refine Go.ishr d_Law_list_424 rfl ?_
    refine Go.iconst (v := 4) d_Law_list_425 rfl (by decide) ?_
    refine Go.lbel d_Law_list_426 rfl (n := 4) rfl (by omega) (by omega) rfl (fun y2 by2 => ?_)
    refine Go.bel1 (q := 456) 100 (fun y3 by3 => ?_) (fun hkk => ?_)
    rotate_left
    · refine Go.if_ne (t := 444) d_Law_list_429 (by decide) rfl (fun _ => ?_) (fun _ => ?_)
      · skip
        refine Go.bipush (v := 40) d_Law_list_444 rfl (by decide) ?_
        refine Go.iload_6 d_Law_list_446 rfl ?_
        refine Go.iconst (v := 4) d_Law_list_448 rfl (by decide) ?_
        refine Go.ishr d_Law_list_449 rfl ?_
        refine Go.bipush (v := 60) d_Law_list_450 rfl (by decide) ?_
        refine Go.lbel d_Law_list_452 rfl (n := 60) rfl (by omega) (by omega) rfl (fun y4 by4 => ?_)
        refine Go.iadd d_Law_list_455 rfl ?_
        rw [show (40 : Int32) + nI (y4) = nI (40 + y4) from nI_ad _ _]
        exact hkk _ (by omega)
      · skip
        refine Go.iload_6 d_Law_list_432 rfl ?_
        refine Go.iconst (v := 4) d_Law_list_434 rfl (by decide) ?_
        refine Go.ishr d_Law_list_435 rfl ?_
        refine Go.bipush (v := 100) d_Law_list_436 rfl (by decide) ?_
        refine Go.lbel d_Law_list_438 rfl (n := 100) rfl (by omega) (by omega) rfl (fun y5 by5 => ?_)
        refine Go.goto (t := 456) d_Law_list_441 (by decide) ?_
        exact hkk _ (by omega)
    refine Go.lini d_Law_list_456 rfl (j := 1) rfl (by decide) (by decide) ?_
    refine Go.dup d_Law_list_457 rfl rfl ?_
    refine Go.iconst (v := 2) d_Law_list_458 rfl (by decide) ?_
    refine Go.iconst (v := 0) d_Law_list_459 rfl (by decide) ?_
    refine Go.lini d_Law_list_460 rfl (j := 2) rfl (by decide) (by decide) ?_
    refine Go.dup d_Law_list_461 rfl rfl ?_
    refine Go.iconst (v := 3) d_Law_list_462 rfl (by decide) ?_
    refine Go.iconst (v := (-1)) d_Law_list_463 rfl (by decide) ?_
    refine Go.lini d_Law_list_464 rfl (j := 3) rfl (by decide) (by decide) ?_
    refine Go.dup d_Law_list_465 rfl rfl ?_
    refine Go.iconst (v := 4) d_Law_list_466 rfl (by decide) ?_
    refine Go.iconst (v := 0) d_Law_list_467 rfl (by decide) ?_
    refine Go.lini d_Law_list_468 rfl (j := 4) rfl (by decide) (by decide) ?_
    refine Go.dup d_Law_list_469 rfl rfl ?_
    refine Go.iconst (v := 5) d_Law_list_470 rfl (by decide) ?_
    refine Go.iconst (v := 0) d_Law_list_471 rfl (by decide) ?_
    refine Go.lini d_Law_list_472 rfl (j := 5) rfl (by decide) (by decide) ?_
    refine Go.laas (k := 2) d_Law_list_473 rfl hao hs hsim hlow (by decide) (i := i) rfl (by rw [hr]; exact (List.length_map ..).trans hl) (by rw [hc]; show i < m; omega) (by rw [hc]; show m < 100; omega) (fun h B hs e1 hc1 hw1 hsim hlen hf => ?_)
    have hc := hc1.trans hc
    have hw := hw1.trans hw
    have hr : b_rs B = RSF r0 r1 ((l ++ [(y1, y3)]).map rCrev) [] [] [] := by
      rw [e1, hr, RS_row2, List.map_append]
      rfl
    refine Go.aload_1 d_Law_list_474 rfl ?_
    refine Go.ldcS d_Law_list_475 rfl rfl (hls.t157).1 ?_
    refine Go.lapp d_Law_list_477 rfl hk hp hs (Or.inl (hls.t157).2) LB_tx157 (by simp only [List.length_append, List.length_nil, len_tx35, len_tx48, len_tx50, len_tx52, len_tx54, len_tx56, len_tx58, len_tx60, len_tx62, len_tx64, len_tx66, len_tx68, len_tx70, len_tx72, len_tx74, len_tx76, len_tx78, len_tx80, len_tx82, len_tx84, len_tx86, len_tx88, len_tx90, len_tx92, len_tx94, len_tx96, len_tx98, len_tx100, len_tx102, len_tx104, len_tx106, len_tx108, len_tx110, len_tx112, len_tx114, len_tx135, len_tx137, len_tx139, len_tx141, len_tx143, len_tx148, len_tx150, len_tx152, len_tx157, len_tx159, len_tx161, len_tx166, len_tx168, len_tx173, len_tx175, len_tx180, len_tx182, len_tx187, len_tx189, len_tx191, len_tx193, len_tx195, len_tx197, len_tx203, len_tx208]; omega) (by omega) (by omega) rfl (fun h z hs => ?_)
    refine Go.iload_5 d_Law_list_480 rfl ?_
    have g6 := dec_2 (show i < 100 by omega)
    have g7 := dec_1 (show i < 10 by omega)
    refine Go.lappI (v := i) d_Law_list_482 rfl hk hp hdg hs (by omega) (by simp only [List.length_append, List.length_nil, len_tx35, len_tx48, len_tx50, len_tx52, len_tx54, len_tx56, len_tx58, len_tx60, len_tx62, len_tx64, len_tx66, len_tx68, len_tx70, len_tx72, len_tx74, len_tx76, len_tx78, len_tx80, len_tx82, len_tx84, len_tx86, len_tx88, len_tx90, len_tx92, len_tx94, len_tx96, len_tx98, len_tx100, len_tx102, len_tx104, len_tx106, len_tx108, len_tx110, len_tx112, len_tx114, len_tx135, len_tx137, len_tx139, len_tx141, len_tx143, len_tx148, len_tx150, len_tx152, len_tx157, len_tx159, len_tx161, len_tx166, len_tx168, len_tx173, len_tx175, len_tx180, len_tx182, len_tx187, len_tx189, len_tx191, len_tx193, len_tx195, len_tx197, len_tx203, len_tx208]; omega) (by omega) (by omega) rfl (fun h z hs => ?_)
    refine Go.ldcS d_Law_list_485 rfl rfl (hls.t159).1 ?_
    refine Go.lapp d_Law_list_487 rfl hk hp hs (Or.inl (hls.t159).2) LB_tx159 (by simp only [List.length_append, List.length_nil, len_tx35, len_tx48, len_tx50, len_tx52, len_tx54, len_tx56, len_tx58, len_tx60, len_tx62, len_tx64, len_tx66, len_tx68, len_tx70, len_tx72, len_tx74, len_tx76, len_tx78, len_tx80, len_tx82, len_tx84, len_tx86, len_tx88, len_tx90, len_tx92, len_tx94, len_tx96, len_tx98, len_tx100, len_tx102, len_tx104, len_tx106, len_tx108, len_tx110, len_tx112, len_tx114, len_tx135, len_tx137, len_tx139, len_tx141, len_tx143, len_tx148, len_tx150, len_tx152, len_tx157, len_tx159, len_tx161, len_tx166, len_tx168, len_tx173, len_tx175, len_tx180, len_tx182, len_tx187, len_tx189, len_tx191, len_tx193, len_tx195, len_tx197, len_tx203, len_tx208]; omega) (by omega) (by omega) rfl (fun h z hs => ?_)
    refine Go.aload_2 d_Law_list_490 rfl ?_
    refine Go.lget (k := 2) d_Law_list_491 rfl f_Law_154 (by decide) hs hsim ?_
    refine Go.iload_5 d_Law_list_494 rfl ?_
    refine Go.lrow d_Law_list_496 rfl hs (by decide) (i := i) rfl hlen (by rw [hc]; show i < m; omega) (by rw [hc]; show m < 100; omega) ?_
    refine Go.iconst (v := 0) d_Law_list_497 rfl (by decide) ?_
    refine Go.lld d_Law_list_498 rfl hs (by decide) hlen hf (j := 0) (by decide) (by decide) (x := nI (y1)) rfl ?_
    have g8 := dec_2 (show y1 < 100 by omega)
    have g9 := dec_1 (show y1 < 10 by omega)
    refine Go.lappI (v := y1) d_Law_list_499 rfl hk hp hdg hs (by omega) (by simp only [List.length_append, List.length_nil, len_tx35, len_tx48, len_tx50, len_tx52, len_tx54, len_tx56, len_tx58, len_tx60, len_tx62, len_tx64, len_tx66, len_tx68, len_tx70, len_tx72, len_tx74, len_tx76, len_tx78, len_tx80, len_tx82, len_tx84, len_tx86, len_tx88, len_tx90, len_tx92, len_tx94, len_tx96, len_tx98, len_tx100, len_tx102, len_tx104, len_tx106, len_tx108, len_tx110, len_tx112, len_tx114, len_tx135, len_tx137, len_tx139, len_tx141, len_tx143, len_tx148, len_tx150, len_tx152, len_tx157, len_tx159, len_tx161, len_tx166, len_tx168, len_tx173, len_tx175, len_tx180, len_tx182, len_tx187, len_tx189, len_tx191, len_tx193, len_tx195, len_tx197, len_tx203, len_tx208]; omega) (by omega) (by omega) rfl (fun h z hs => ?_)
    refine Go.ldcS d_Law_list_502 rfl rfl (hls.t161).1 ?_
    refine Go.lapp d_Law_list_504 rfl hk hp hs (Or.inl (hls.t161).2) LB_tx161 (by simp only [List.length_append, List.length_nil, len_tx35, len_tx48, len_tx50, len_tx52, len_tx54, len_tx56, len_tx58, len_tx60, len_tx62, len_tx64, len_tx66, len_tx68, len_tx70, len_tx72, len_tx74, len_tx76, len_tx78, len_tx80, len_tx82, len_tx84, len_tx86, len_tx88, len_tx90, len_tx92, len_tx94, len_tx96, len_tx98, len_tx100, len_tx102, len_tx104, len_tx106, len_tx108, len_tx110, len_tx112, len_tx114, len_tx135, len_tx137, len_tx139, len_tx141, len_tx143, len_tx148, len_tx150, len_tx152, len_tx157, len_tx159, len_tx161, len_tx166, len_tx168, len_tx173, len_tx175, len_tx180, len_tx182, len_tx187, len_tx189, len_tx191, len_tx193, len_tx195, len_tx197, len_tx203, len_tx208]; omega) (by omega) (by omega) rfl (fun h z hs => ?_)
    refine Go.aload_2 d_Law_list_507 rfl ?_
    refine Go.lget (k := 2) d_Law_list_508 rfl f_Law_154 (by decide) hs hsim ?_
    refine Go.iload_5 d_Law_list_511 rfl ?_
    refine Go.lrow d_Law_list_513 rfl hs (by decide) (i := i) rfl hlen (by rw [hc]; show i < m; omega) (by rw [hc]; show m < 100; omega) ?_
    refine Go.iconst (v := 1) d_Law_list_514 rfl (by decide) ?_
    refine Go.lld d_Law_list_515 rfl hs (by decide) hlen hf (j := 1) (by decide) (by decide) (x := nI (y3)) rfl ?_
    have g10 := dec_2 (show y3 < 100 by omega)
    refine Go.lappI (v := y3) d_Law_list_516 rfl hk hp hdg hs (by omega) (by simp only [List.length_append, List.length_nil, len_tx35, len_tx48, len_tx50, len_tx52, len_tx54, len_tx56, len_tx58, len_tx60, len_tx62, len_tx64, len_tx66, len_tx68, len_tx70, len_tx72, len_tx74, len_tx76, len_tx78, len_tx80, len_tx82, len_tx84, len_tx86, len_tx88, len_tx90, len_tx92, len_tx94, len_tx96, len_tx98, len_tx100, len_tx102, len_tx104, len_tx106, len_tx108, len_tx110, len_tx112, len_tx114, len_tx135, len_tx137, len_tx139, len_tx141, len_tx143, len_tx148, len_tx150, len_tx152, len_tx157, len_tx159, len_tx161, len_tx166, len_tx168, len_tx173, len_tx175, len_tx180, len_tx182, len_tx187, len_tx189, len_tx191, len_tx193, len_tx195, len_tx197, len_tx203, len_tx208]; omega) (by omega) (by omega) rfl (fun h z hs => ?_)
    refine Go.ldcS d_Law_list_519 rfl rfl (hls.t141).1 ?_
    refine Go.lapp d_Law_list_521 rfl hk hp hs (Or.inl (hls.t141).2) LB_tx141 (by simp only [List.length_append, List.length_nil, len_tx35, len_tx48, len_tx50, len_tx52, len_tx54, len_tx56, len_tx58, len_tx60, len_tx62, len_tx64, len_tx66, len_tx68, len_tx70, len_tx72, len_tx74, len_tx76, len_tx78, len_tx80, len_tx82, len_tx84, len_tx86, len_tx88, len_tx90, len_tx92, len_tx94, len_tx96, len_tx98, len_tx100, len_tx102, len_tx104, len_tx106, len_tx108, len_tx110, len_tx112, len_tx114, len_tx135, len_tx137, len_tx139, len_tx141, len_tx143, len_tx148, len_tx150, len_tx152, len_tx157, len_tx159, len_tx161, len_tx166, len_tx168, len_tx173, len_tx175, len_tx180, len_tx182, len_tx187, len_tx189, len_tx191, len_tx193, len_tx195, len_tx197, len_tx203, len_tx208]; omega) (by omega) (by omega) rfl (fun h z hs => ?_)
    refine Go.pop d_Law_list_524 rfl rfl ?_
    refine Go.iinc_5 (v := nI (i + 1)) d_Law_list_525 rfl (by rfl) (nI_inc _) ?_
    refine Go.goto (t := 376) d_Law_list_528 (by decide) ?_
    refine Go.fgt [some (.ref sa), some (.ref b), some (.ref sim), some (.int (nI nb)), none, some (.int (nI (i + 1))), none, none, none, none, none, none, none] (by repeat' (first | exact trivial | refine ⟨rfl, ?_⟩)) ?_
    have et : ((((((((p ++ tAll tCrev l) ++ tx157) ++ dec (i)) ++ tx159) ++ dec (y1)) ++ tx161) ++ dec (y3)) ++ tx141) = p ++ tAll tCrev (l ++ [(y1, y3)]) := by
      rw [tAll_snoc, hl]
      simp only [tCrev, List.append_assoc]
    rw [et] at hs
    exact ih (i + 1) (l ++ [(y1, y3)]) h _ _ _ (by omega) (len_snoc hl) (all_snoc hok (by unfold okCrev; dsimp only; omega)) ⟨B, hs, hr, hc, hw, hsim⟩ (by omega) (by omega)
theorem d_Law_list_552 : decode M_Law_list.2.1 552 = .ok (.iload 5, 2) := by decide +kernel
theorem d_Law_list_554 : decode M_Law_list.2.1 554 = .ok (.aload_n 2, 1) := by decide +kernel
theorem d_Law_list_555 : decode M_Law_list.2.1 555 = .ok (.getfield 163, 3) := by decide +kernel
theorem d_Law_list_558 : decode M_Law_list.2.1 558 = .ok (.arraylength, 1) := by decide +kernel
theorem d_Law_list_559 : decode M_Law_list.2.1 559 = .ok (.if_icmp .ge 106, 3) := by decide +kernel
theorem d_Law_list_562 : decode M_Law_list.2.1 562 = .ok (.aload_n 0, 1) := by decide +kernel
theorem d_Law_list_563 : decode M_Law_list.2.1 563 = .ok (.iconst 4, 1) := by decide +kernel
theorem d_Law_list_564 : decode M_Law_list.2.1 564 = .ok (.invokestatic 119, 3) := by decide +kernel
theorem d_Law_list_567 : decode M_Law_list.2.1 567 = .ok (.iconst 2, 1) := by decide +kernel
theorem d_Law_list_568 : decode M_Law_list.2.1 568 = .ok (.bipush 6, 2) := by decide +kernel
theorem d_Law_list_570 : decode M_Law_list.2.1 570 = .ok (.iload 5, 2) := by decide +kernel
theorem d_Law_list_572 : decode M_Law_list.2.1 572 = .ok (.imul, 1) := by decide +kernel
theorem d_Law_list_573 : decode M_Law_list.2.1 573 = .ok (.iadd, 1) := by decide +kernel
theorem d_Law_list_574 : decode M_Law_list.2.1 574 = .ok (.ishr, 1) := by decide +kernel
theorem d_Law_list_575 : decode M_Law_list.2.1 575 = .ok (.istore 6, 2) := by decide +kernel
theorem d_Law_list_577 : decode M_Law_list.2.1 577 = .ok (.aload_n 2, 1) := by decide +kernel
theorem d_Law_list_578 : decode M_Law_list.2.1 578 = .ok (.getfield 163, 3) := by decide +kernel
theorem d_Law_list_581 : decode M_Law_list.2.1 581 = .ok (.iload 5, 2) := by decide +kernel
theorem d_Law_list_583 : decode M_Law_list.2.1 583 = .ok (.iconst 2, 1) := by decide +kernel
theorem d_Law_list_584 : decode M_Law_list.2.1 584 = .ok (.newarray .int, 2) := by decide +kernel
theorem d_Law_list_586 : decode M_Law_list.2.1 586 = .ok (.dup, 1) := by decide +kernel
theorem d_Law_list_587 : decode M_Law_list.2.1 587 = .ok (.iconst 0, 1) := by decide +kernel
theorem d_Law_list_588 : decode M_Law_list.2.1 588 = .ok (.iload 6, 2) := by decide +kernel
theorem d_Law_list_590 : decode M_Law_list.2.1 590 = .ok (.iload_n 3, 1) := by decide +kernel
theorem d_Law_list_591 : decode M_Law_list.2.1 591 = .ok (.invokestatic 125, 3) := by decide +kernel
theorem d_Law_list_594 : decode M_Law_list.2.1 594 = .ok (.iastore, 1) := by decide +kernel
theorem d_Law_list_595 : decode M_Law_list.2.1 595 = .ok (.dup, 1) := by decide +kernel
theorem d_Law_list_596 : decode M_Law_list.2.1 596 = .ok (.iconst 1, 1) := by decide +kernel
theorem d_Law_list_597 : decode M_Law_list.2.1 597 = .ok (.iload 6, 2) := by decide +kernel
theorem d_Law_list_599 : decode M_Law_list.2.1 599 = .ok (.iconst 2, 1) := by decide +kernel
theorem d_Law_list_600 : decode M_Law_list.2.1 600 = .ok (.ishr, 1) := by decide +kernel
theorem d_Law_list_601 : decode M_Law_list.2.1 601 = .ok (.bipush 100, 2) := by decide +kernel
theorem d_Law_list_603 : decode M_Law_list.2.1 603 = .ok (.invokestatic 125, 3) := by decide +kernel
theorem d_Law_list_606 : decode M_Law_list.2.1 606 = .ok (.iastore, 1) := by decide +kernel
theorem d_Law_list_607 : decode M_Law_list.2.1 607 = .ok (.aastore, 1) := by decide +kernel
theorem d_Law_list_608 : decode M_Law_list.2.1 608 = .ok (.aload_n 1, 1) := by decide +kernel
theorem d_Law_list_609 : decode M_Law_list.2.1 609 = .ok (.ldc 166, 2) := by decide +kernel
theorem d_Law_list_611 : decode M_Law_list.2.1 611 = .ok (.invokevirtual 37, 3) := by decide +kernel
theorem d_Law_list_614 : decode M_Law_list.2.1 614 = .ok (.iload 5, 2) := by decide +kernel
theorem d_Law_list_616 : decode M_Law_list.2.1 616 = .ok (.invokevirtual 41, 3) := by decide +kernel
theorem d_Law_list_619 : decode M_Law_list.2.1 619 = .ok (.ldc 150, 2) := by decide +kernel
theorem d_Law_list_621 : decode M_Law_list.2.1 621 = .ok (.invokevirtual 37, 3) := by decide +kernel
theorem d_Law_list_624 : decode M_Law_list.2.1 624 = .ok (.aload_n 2, 1) := by decide +kernel
theorem d_Law_list_625 : decode M_Law_list.2.1 625 = .ok (.getfield 163, 3) := by decide +kernel
theorem d_Law_list_628 : decode M_Law_list.2.1 628 = .ok (.iload 5, 2) := by decide +kernel
theorem d_Law_list_630 : decode M_Law_list.2.1 630 = .ok (.aaload, 1) := by decide +kernel
theorem d_Law_list_631 : decode M_Law_list.2.1 631 = .ok (.iconst 0, 1) := by decide +kernel
theorem d_Law_list_632 : decode M_Law_list.2.1 632 = .ok (.iaload, 1) := by decide +kernel
theorem d_Law_list_633 : decode M_Law_list.2.1 633 = .ok (.invokevirtual 41, 3) := by decide +kernel
theorem d_Law_list_636 : decode M_Law_list.2.1 636 = .ok (.ldc 168, 2) := by decide +kernel
theorem d_Law_list_638 : decode M_Law_list.2.1 638 = .ok (.invokevirtual 37, 3) := by decide +kernel
theorem d_Law_list_641 : decode M_Law_list.2.1 641 = .ok (.aload_n 2, 1) := by decide +kernel
theorem d_Law_list_642 : decode M_Law_list.2.1 642 = .ok (.getfield 163, 3) := by decide +kernel
theorem d_Law_list_645 : decode M_Law_list.2.1 645 = .ok (.iload 5, 2) := by decide +kernel
theorem d_Law_list_647 : decode M_Law_list.2.1 647 = .ok (.aaload, 1) := by decide +kernel
theorem d_Law_list_648 : decode M_Law_list.2.1 648 = .ok (.iconst 1, 1) := by decide +kernel
theorem d_Law_list_649 : decode M_Law_list.2.1 649 = .ok (.iaload, 1) := by decide +kernel
theorem d_Law_list_650 : decode M_Law_list.2.1 650 = .ok (.invokevirtual 41, 3) := by decide +kernel
theorem d_Law_list_653 : decode M_Law_list.2.1 653 = .ok (.ldc 141, 2) := by decide +kernel
theorem d_Law_list_655 : decode M_Law_list.2.1 655 = .ok (.invokevirtual 37, 3) := by decide +kernel
theorem d_Law_list_658 : decode M_Law_list.2.1 658 = .ok (.pop, 1) := by decide +kernel
theorem d_Law_list_659 : decode M_Law_list.2.1 659 = .ok (.iinc 5 1, 3) := by decide +kernel
theorem d_Law_list_662 : decode M_Law_list.2.1 662 = .ok (.goto (-110), 3) := by decide +kernel
set_option maxRecDepth 100000 in
set_option maxHeartbeats 4000000 in
theorem li_depots {Γ : G9} {ls : Nat → Nat} {sa n : Nat} {xs : Nat → Int32} {b sim nb m C' S' : Nat} {hb : AH} {Q : QT} {X : XT} {p : List Int32} {n0 : Nat} {n1 : Nat} {n2 : Nat} {r0 : List (Nat → Int32)} {r1 : List (Nat → Int32)} {r2 : List (Nat → Int32)} (hk : CsOk Γ) (hp : PrOk Γ) (hdg : DgOk Γ) (hls : LsOk Γ ls) (hao : AoOk Γ) (hsc : ScOk Γ sa n xs) (hn : n < 2 ^ 31) (hnb : 1 ≤ nb ∧ nb ≤ 4) (hm : m ≤ 4) (hpl : p.length ≤ 336) (hn0 : n0 ≤ 4) (hn1 : n1 ≤ 4) (hn2 : n2 ≤ 4) (kx : ∀ (l : List R2) (h : AH) (z : Nat), l.length = m → (∀ a ∈ l, okCrev nb a) → LX Γ h b hb sim (p ++ tAll tDepot l) (RSF r0 r1 r2 (l.map rDepot) [] []) (CN n0 n1 n2 m 0 0) (fun _ => 10) → Go Γ M_Law_list 9 C' S' 665 [some (.ref sa), some (.ref b), some (.ref sim), some (.int (nI nb)), none, none, none, none, none, none, none, none, none] [] h z Q X) : ∀ (k i : Nat) (l : List R2) (h : AH) (z C S : Nat), i + k = m → l.length = i → (∀ a ∈ l, okCrev nb a) → LX Γ h b hb sim (p ++ tAll tDepot l) (RSF r0 r1 r2 (l.map rDepot) [] []) (CN n0 n1 n2 m 0 0) (fun _ => 10) → C' + k * 9 ≤ C → S' + k * 20000 ≤ S → Go Γ M_Law_list 9 C S 552 [some (.ref sa), some (.ref b), some (.ref sim), some (.int (nI nb)), none, some (.int (nI i)), none, none, none, none, none, none, none] [] h z Q X := by
  intro k
  induction k with
  | zero =>
    intro i l h z C S hi hl hok ⟨B, hs, hr, hc, hw, hsim⟩ hC hS
    rw [Nat.zero_mul] at hC hS
    refine Go.room (C' := C') (S' := S') ?_ (Nat.le_refl _) hC hS
    refine Go.iload_5 d_Law_list_552 rfl ?_
    refine Go.aload_2 d_Law_list_554 rfl ?_
    refine Go.lget (k := 3) d_Law_list_555 rfl f_Law_163 (by decide) hs hsim ?_
    refine Go.llen d_Law_list_558 rfl (by decide) hs (n := m) (by rw [hc]; rfl) ?_
    refine Go.icmp_ge (t := 665) d_Law_list_559 (by decide) rfl (fun _ => ?_) (fun w => absurd (nI_le (by omega) (by omega)) w)
    refine Go.fgt [some (.ref sa), some (.ref b), some (.ref sim), some (.int (nI nb)), none, none, none, none, none, none, none, none, none] (by repeat' (first | exact trivial | refine ⟨rfl, ?_⟩)) ?_
    exact kx l h z (by omega) hok ⟨B, hs, hr, hc, hw, hsim⟩
  | succ k ih =>
    intro i l h z C S hi hl hok ⟨B, hs, hr, hc, hw, hsim⟩ hC hS
    rw [Nat.succ_mul] at hC hS
    have htl : (tAll tDepot l).length ≤ 23 * i := tAll_len (K := 10) (fun k a => len_tDepot hnb.2) hl (by omega) hok
    refine Go.iload_5 d_Law_list_552 rfl ?_
    refine Go.aload_2 d_Law_list_554 rfl ?_
    refine Go.lget (k := 3) d_Law_list_555 rfl f_Law_163 (by decide) hs hsim ?_
    refine Go.llen d_Law_list_558 rfl (by decide) hs (n := m) (by rw [hc]; rfl) ?_
    refine Go.icmp_ge (t := 665) d_Law_list_559 (by decide) rfl (fun w => absurd w (nI_ge (by omega) (by omega))) (fun _ => ?_)
    refine Go.aload_0 d_Law_list_562 rfl ?_
    refine Go.iconst (v := 4) d_Law_list_563 rfl (by decide) ?_
    refine Go.lcell d_Law_list_564 rfl hsc hn (k := 4) rfl (by omega) rfl (fun x0 => ?_)
    refine Go.iconst (v := 2) d_Law_list_567 rfl (by decide) ?_
    refine Go.bipush (v := 6) d_Law_list_568 rfl (by decide) ?_
    refine Go.iload_5 d_Law_list_570 rfl ?_
    refine Go.imul d_Law_list_572 rfl ?_
    refine Go.iadd d_Law_list_573 rfl ?_
    refine Go.ishr d_Law_list_574 rfl ?_
    refine Go.istore_6 d_Law_list_575 rfl (by rfl) ?_
    refine Go.aload_2 d_Law_list_577 rfl ?_
    refine Go.lget (k := 3) d_Law_list_578 rfl f_Law_163 (by decide) hs hsim ?_
    refine Go.iload_5 d_Law_list_581 rfl ?_
    refine Go.iconst (v := 2) d_Law_list_583 rfl (by decide) ?_
    refine Go.low (fun hlow => ?_)
    refine Go.lnewI (C1 := C - 1) (S1 := S - 2) (N := 2) d_Law_list_584 rfl rfl (by decide) (by omega) (by omega) ?_
    refine Go.dup d_Law_list_586 rfl rfl ?_
    refine Go.iconst (v := 0) d_Law_list_587 rfl (by decide) ?_
    refine Go.iload_6 d_Law_list_588 rfl ?_
    refine Go.iload_3 d_Law_list_590 rfl ?_
    refine Go.lbel d_Law_list_591 rfl (n := nb) rfl (by omega) (by omega) rfl (fun y1 by1 => ?_)
    refine Go.lini d_Law_list_594 rfl (j := 0) rfl (by decide) (by decide) ?_
    refine Go.dup d_Law_list_595 rfl rfl ?_
    refine Go.iconst (v := 1) d_Law_list_596 rfl (by decide) ?_
    refine Go.iload_6 d_Law_list_597 rfl ?_
    refine Go.iconst (v := 2) d_Law_list_599 rfl (by decide) ?_
    refine Go.ishr d_Law_list_600 rfl ?_
    refine Go.bipush (v := 100) d_Law_list_601 rfl (by decide) ?_
    refine Go.lbel d_Law_list_603 rfl (n := 100) rfl (by omega) (by omega) rfl (fun y2 by2 => ?_)
    refine Go.lini d_Law_list_606 rfl (j := 1) rfl (by decide) (by decide) ?_
    refine Go.laas (k := 3) d_Law_list_607 rfl hao hs hsim hlow (by decide) (i := i) rfl (by rw [hr]; exact (List.length_map ..).trans hl) (by rw [hc]; show i < m; omega) (by rw [hc]; show m < 100; omega) (fun h B hs e1 hc1 hw1 hsim hlen hf => ?_)
    have hc := hc1.trans hc
    have hw := hw1.trans hw
    have hr : b_rs B = RSF r0 r1 r2 ((l ++ [(y1, y2)]).map rDepot) [] [] := by
      rw [e1, hr, RS_row3, List.map_append]
      rfl
    refine Go.aload_1 d_Law_list_608 rfl ?_
    refine Go.ldcS d_Law_list_609 rfl rfl (hls.t166).1 ?_
    refine Go.lapp d_Law_list_611 rfl hk hp hs (Or.inl (hls.t166).2) LB_tx166 (by simp only [List.length_append, List.length_nil, len_tx35, len_tx48, len_tx50, len_tx52, len_tx54, len_tx56, len_tx58, len_tx60, len_tx62, len_tx64, len_tx66, len_tx68, len_tx70, len_tx72, len_tx74, len_tx76, len_tx78, len_tx80, len_tx82, len_tx84, len_tx86, len_tx88, len_tx90, len_tx92, len_tx94, len_tx96, len_tx98, len_tx100, len_tx102, len_tx104, len_tx106, len_tx108, len_tx110, len_tx112, len_tx114, len_tx135, len_tx137, len_tx139, len_tx141, len_tx143, len_tx148, len_tx150, len_tx152, len_tx157, len_tx159, len_tx161, len_tx166, len_tx168, len_tx173, len_tx175, len_tx180, len_tx182, len_tx187, len_tx189, len_tx191, len_tx193, len_tx195, len_tx197, len_tx203, len_tx208]; omega) (by omega) (by omega) rfl (fun h z hs => ?_)
    refine Go.iload_5 d_Law_list_614 rfl ?_
    have g3 := dec_2 (show i < 100 by omega)
    have g4 := dec_1 (show i < 10 by omega)
    refine Go.lappI (v := i) d_Law_list_616 rfl hk hp hdg hs (by omega) (by simp only [List.length_append, List.length_nil, len_tx35, len_tx48, len_tx50, len_tx52, len_tx54, len_tx56, len_tx58, len_tx60, len_tx62, len_tx64, len_tx66, len_tx68, len_tx70, len_tx72, len_tx74, len_tx76, len_tx78, len_tx80, len_tx82, len_tx84, len_tx86, len_tx88, len_tx90, len_tx92, len_tx94, len_tx96, len_tx98, len_tx100, len_tx102, len_tx104, len_tx106, len_tx108, len_tx110, len_tx112, len_tx114, len_tx135, len_tx137, len_tx139, len_tx141, len_tx143, len_tx148, len_tx150, len_tx152, len_tx157, len_tx159, len_tx161, len_tx166, len_tx168, len_tx173, len_tx175, len_tx180, len_tx182, len_tx187, len_tx189, len_tx191, len_tx193, len_tx195, len_tx197, len_tx203, len_tx208]; omega) (by omega) (by omega) rfl (fun h z hs => ?_)
    refine Go.ldcS d_Law_list_619 rfl rfl (hls.t150).1 ?_
    refine Go.lapp d_Law_list_621 rfl hk hp hs (Or.inl (hls.t150).2) LB_tx150 (by simp only [List.length_append, List.length_nil, len_tx35, len_tx48, len_tx50, len_tx52, len_tx54, len_tx56, len_tx58, len_tx60, len_tx62, len_tx64, len_tx66, len_tx68, len_tx70, len_tx72, len_tx74, len_tx76, len_tx78, len_tx80, len_tx82, len_tx84, len_tx86, len_tx88, len_tx90, len_tx92, len_tx94, len_tx96, len_tx98, len_tx100, len_tx102, len_tx104, len_tx106, len_tx108, len_tx110, len_tx112, len_tx114, len_tx135, len_tx137, len_tx139, len_tx141, len_tx143, len_tx148, len_tx150, len_tx152, len_tx157, len_tx159, len_tx161, len_tx166, len_tx168, len_tx173, len_tx175, len_tx180, len_tx182, len_tx187, len_tx189, len_tx191, len_tx193, len_tx195, len_tx197, len_tx203, len_tx208]; omega) (by omega) (by omega) rfl (fun h z hs => ?_)
    refine Go.aload_2 d_Law_list_624 rfl ?_
    refine Go.lget (k := 3) d_Law_list_625 rfl f_Law_163 (by decide) hs hsim ?_
    refine Go.iload_5 d_Law_list_628 rfl ?_
    refine Go.lrow d_Law_list_630 rfl hs (by decide) (i := i) rfl hlen (by rw [hc]; show i < m; omega) (by rw [hc]; show m < 100; omega) ?_
    refine Go.iconst (v := 0) d_Law_list_631 rfl (by decide) ?_
    refine Go.lld d_Law_list_632 rfl hs (by decide) hlen hf (j := 0) (by decide) (by decide) (x := nI (y1)) rfl ?_
    have g5 := dec_2 (show y1 < 100 by omega)
    have g6 := dec_1 (show y1 < 10 by omega)
    refine Go.lappI (v := y1) d_Law_list_633 rfl hk hp hdg hs (by omega) (by simp only [List.length_append, List.length_nil, len_tx35, len_tx48, len_tx50, len_tx52, len_tx54, len_tx56, len_tx58, len_tx60, len_tx62, len_tx64, len_tx66, len_tx68, len_tx70, len_tx72, len_tx74, len_tx76, len_tx78, len_tx80, len_tx82, len_tx84, len_tx86, len_tx88, len_tx90, len_tx92, len_tx94, len_tx96, len_tx98, len_tx100, len_tx102, len_tx104, len_tx106, len_tx108, len_tx110, len_tx112, len_tx114, len_tx135, len_tx137, len_tx139, len_tx141, len_tx143, len_tx148, len_tx150, len_tx152, len_tx157, len_tx159, len_tx161, len_tx166, len_tx168, len_tx173, len_tx175, len_tx180, len_tx182, len_tx187, len_tx189, len_tx191, len_tx193, len_tx195, len_tx197, len_tx203, len_tx208]; omega) (by omega) (by omega) rfl (fun h z hs => ?_)
    refine Go.ldcS d_Law_list_636 rfl rfl (hls.t168).1 ?_
    refine Go.lapp d_Law_list_638 rfl hk hp hs (Or.inl (hls.t168).2) LB_tx168 (by simp only [List.length_append, List.length_nil, len_tx35, len_tx48, len_tx50, len_tx52, len_tx54, len_tx56, len_tx58, len_tx60, len_tx62, len_tx64, len_tx66, len_tx68, len_tx70, len_tx72, len_tx74, len_tx76, len_tx78, len_tx80, len_tx82, len_tx84, len_tx86, len_tx88, len_tx90, len_tx92, len_tx94, len_tx96, len_tx98, len_tx100, len_tx102, len_tx104, len_tx106, len_tx108, len_tx110, len_tx112, len_tx114, len_tx135, len_tx137, len_tx139, len_tx141, len_tx143, len_tx148, len_tx150, len_tx152, len_tx157, len_tx159, len_tx161, len_tx166, len_tx168, len_tx173, len_tx175, len_tx180, len_tx182, len_tx187, len_tx189, len_tx191, len_tx193, len_tx195, len_tx197, len_tx203, len_tx208]; omega) (by omega) (by omega) rfl (fun h z hs => ?_)
    refine Go.aload_2 d_Law_list_641 rfl ?_
    refine Go.lget (k := 3) d_Law_list_642 rfl f_Law_163 (by decide) hs hsim ?_
    refine Go.iload_5 d_Law_list_645 rfl ?_
    refine Go.lrow d_Law_list_647 rfl hs (by decide) (i := i) rfl hlen (by rw [hc]; show i < m; omega) (by rw [hc]; show m < 100; omega) ?_
    refine Go.iconst (v := 1) d_Law_list_648 rfl (by decide) ?_
    refine Go.lld d_Law_list_649 rfl hs (by decide) hlen hf (j := 1) (by decide) (by decide) (x := nI (y2)) rfl ?_
    have g7 := dec_2 (show y2 < 100 by omega)
    refine Go.lappI (v := y2) d_Law_list_650 rfl hk hp hdg hs (by omega) (by simp only [List.length_append, List.length_nil, len_tx35, len_tx48, len_tx50, len_tx52, len_tx54, len_tx56, len_tx58, len_tx60, len_tx62, len_tx64, len_tx66, len_tx68, len_tx70, len_tx72, len_tx74, len_tx76, len_tx78, len_tx80, len_tx82, len_tx84, len_tx86, len_tx88, len_tx90, len_tx92, len_tx94, len_tx96, len_tx98, len_tx100, len_tx102, len_tx104, len_tx106, len_tx108, len_tx110, len_tx112, len_tx114, len_tx135, len_tx137, len_tx139, len_tx141, len_tx143, len_tx148, len_tx150, len_tx152, len_tx157, len_tx159, len_tx161, len_tx166, len_tx168, len_tx173, len_tx175, len_tx180, len_tx182, len_tx187, len_tx189, len_tx191, len_tx193, len_tx195, len_tx197, len_tx203, len_tx208]; omega) (by omega) (by omega) rfl (fun h z hs => ?_)
    refine Go.ldcS d_Law_list_653 rfl rfl (hls.t141).1 ?_
    refine Go.lapp d_Law_list_655 rfl hk hp hs (Or.inl (hls.t141).2) LB_tx141 (by simp only [List.length_append, List.length_nil, len_tx35, len_tx48, len_tx50, len_tx52, len_tx54, len_tx56, len_tx58, len_tx60, len_tx62, len_tx64, len_tx66, len_tx68, len_tx70, len_tx72, len_tx74, len_tx76, len_tx78, len_tx80, len_tx82, len_tx84, len_tx86, len_tx88, len_tx90, len_tx92, len_tx94, len_tx96, len_tx98, len_tx100, len_tx102, len_tx104, len_tx106, len_tx108, len_tx110, len_tx112, len_tx114, len_tx135, len_tx137, len_tx139, len_tx141, len_tx143, len_tx148, len_tx150, len_tx152, len_tx157, len_tx159, len_tx161, len_tx166, len_tx168, len_tx173, len_tx175, len_tx180, len_tx182, len_tx187, len_tx189, len_tx191, len_tx193, len_tx195, len_tx197, len_tx203, len_tx208]; omega) (by omega) (by omega) rfl (fun h z hs => ?_)
    refine Go.pop d_Law_list_658 rfl rfl ?_
    refine Go.iinc_5 (v := nI (i + 1)) d_Law_list_659 rfl (by rfl) (nI_inc _) ?_
    refine Go.goto (t := 552) d_Law_list_662 (by decide) ?_
    refine Go.fgt [some (.ref sa), some (.ref b), some (.ref sim), some (.int (nI nb)), none, some (.int (nI (i + 1))), none, none, none, none, none, none, none] (by repeat' (first | exact trivial | refine ⟨rfl, ?_⟩)) ?_
    have et : ((((((((p ++ tAll tDepot l) ++ tx166) ++ dec (i)) ++ tx150) ++ dec (y1)) ++ tx168) ++ dec (y2)) ++ tx141) = p ++ tAll tDepot (l ++ [(y1, y2)]) := by
      rw [tAll_snoc, hl]
      simp only [tDepot, List.append_assoc]
    rw [et] at hs
    exact ih (i + 1) (l ++ [(y1, y2)]) h _ _ _ (by omega) (len_snoc hl) (all_snoc hok (by unfold okCrev; dsimp only; omega)) ⟨B, hs, hr, hc, hw, hsim⟩ (by omega) (by omega)
theorem d_Law_list_686 : decode M_Law_list.2.1 686 = .ok (.iload 5, 2) := by decide +kernel
theorem d_Law_list_688 : decode M_Law_list.2.1 688 = .ok (.aload_n 2, 1) := by decide +kernel
theorem d_Law_list_689 : decode M_Law_list.2.1 689 = .ok (.getfield 170, 3) := by decide +kernel
theorem d_Law_list_692 : decode M_Law_list.2.1 692 = .ok (.arraylength, 1) := by decide +kernel
theorem d_Law_list_693 : decode M_Law_list.2.1 693 = .ok (.if_icmp .ge 159, 3) := by decide +kernel
theorem d_Law_list_696 : decode M_Law_list.2.1 696 = .ok (.aload_n 0, 1) := by decide +kernel
theorem d_Law_list_697 : decode M_Law_list.2.1 697 = .ok (.iconst 5, 1) := by decide +kernel
theorem d_Law_list_698 : decode M_Law_list.2.1 698 = .ok (.invokestatic 119, 3) := by decide +kernel
theorem d_Law_list_701 : decode M_Law_list.2.1 701 = .ok (.iconst 2, 1) := by decide +kernel
theorem d_Law_list_702 : decode M_Law_list.2.1 702 = .ok (.bipush 6, 2) := by decide +kernel
theorem d_Law_list_704 : decode M_Law_list.2.1 704 = .ok (.iload 5, 2) := by decide +kernel
theorem d_Law_list_706 : decode M_Law_list.2.1 706 = .ok (.imul, 1) := by decide +kernel
theorem d_Law_list_707 : decode M_Law_list.2.1 707 = .ok (.iadd, 1) := by decide +kernel
theorem d_Law_list_708 : decode M_Law_list.2.1 708 = .ok (.ishr, 1) := by decide +kernel
theorem d_Law_list_709 : decode M_Law_list.2.1 709 = .ok (.istore 6, 2) := by decide +kernel
theorem d_Law_list_711 : decode M_Law_list.2.1 711 = .ok (.aload_n 2, 1) := by decide +kernel
theorem d_Law_list_712 : decode M_Law_list.2.1 712 = .ok (.getfield 170, 3) := by decide +kernel
theorem d_Law_list_715 : decode M_Law_list.2.1 715 = .ok (.iload 5, 2) := by decide +kernel
theorem d_Law_list_717 : decode M_Law_list.2.1 717 = .ok (.bipush 8, 2) := by decide +kernel
theorem d_Law_list_719 : decode M_Law_list.2.1 719 = .ok (.newarray .int, 2) := by decide +kernel
theorem d_Law_list_721 : decode M_Law_list.2.1 721 = .ok (.dup, 1) := by decide +kernel
theorem d_Law_list_722 : decode M_Law_list.2.1 722 = .ok (.iconst 0, 1) := by decide +kernel
theorem d_Law_list_723 : decode M_Law_list.2.1 723 = .ok (.iconst 2, 1) := by decide +kernel
theorem d_Law_list_724 : decode M_Law_list.2.1 724 = .ok (.iload 6, 2) := by decide +kernel
theorem d_Law_list_726 : decode M_Law_list.2.1 726 = .ok (.iconst 5, 1) := by decide +kernel
theorem d_Law_list_727 : decode M_Law_list.2.1 727 = .ok (.invokestatic 125, 3) := by decide +kernel
theorem d_Law_list_730 : decode M_Law_list.2.1 730 = .ok (.iadd, 1) := by decide +kernel
theorem d_Law_list_731 : decode M_Law_list.2.1 731 = .ok (.iastore, 1) := by decide +kernel
theorem d_Law_list_732 : decode M_Law_list.2.1 732 = .ok (.dup, 1) := by decide +kernel
theorem d_Law_list_733 : decode M_Law_list.2.1 733 = .ok (.iconst 1, 1) := by decide +kernel
theorem d_Law_list_734 : decode M_Law_list.2.1 734 = .ok (.iload 6, 2) := by decide +kernel
theorem d_Law_list_736 : decode M_Law_list.2.1 736 = .ok (.iconst 2, 1) := by decide +kernel
theorem d_Law_list_737 : decode M_Law_list.2.1 737 = .ok (.ishr, 1) := by decide +kernel
theorem d_Law_list_738 : decode M_Law_list.2.1 738 = .ok (.bipush 41, 2) := by decide +kernel
theorem d_Law_list_740 : decode M_Law_list.2.1 740 = .ok (.invokestatic 125, 3) := by decide +kernel
theorem d_Law_list_743 : decode M_Law_list.2.1 743 = .ok (.iastore, 1) := by decide +kernel
theorem d_Law_list_744 : decode M_Law_list.2.1 744 = .ok (.dup, 1) := by decide +kernel
theorem d_Law_list_745 : decode M_Law_list.2.1 745 = .ok (.iconst 2, 1) := by decide +kernel
theorem d_Law_list_746 : decode M_Law_list.2.1 746 = .ok (.iload 6, 2) := by decide +kernel
theorem d_Law_list_748 : decode M_Law_list.2.1 748 = .ok (.iconst 4, 1) := by decide +kernel
theorem d_Law_list_749 : decode M_Law_list.2.1 749 = .ok (.ishr, 1) := by decide +kernel
theorem d_Law_list_750 : decode M_Law_list.2.1 750 = .ok (.iload_n 3, 1) := by decide +kernel
theorem d_Law_list_751 : decode M_Law_list.2.1 751 = .ok (.invokestatic 125, 3) := by decide +kernel
theorem d_Law_list_754 : decode M_Law_list.2.1 754 = .ok (.iastore, 1) := by decide +kernel
theorem d_Law_list_755 : decode M_Law_list.2.1 755 = .ok (.dup, 1) := by decide +kernel
theorem d_Law_list_756 : decode M_Law_list.2.1 756 = .ok (.iconst 3, 1) := by decide +kernel
theorem d_Law_list_757 : decode M_Law_list.2.1 757 = .ok (.iconst 0, 1) := by decide +kernel
theorem d_Law_list_758 : decode M_Law_list.2.1 758 = .ok (.iastore, 1) := by decide +kernel
theorem d_Law_list_759 : decode M_Law_list.2.1 759 = .ok (.dup, 1) := by decide +kernel
theorem d_Law_list_760 : decode M_Law_list.2.1 760 = .ok (.iconst 4, 1) := by decide +kernel
theorem d_Law_list_761 : decode M_Law_list.2.1 761 = .ok (.iconst 1, 1) := by decide +kernel
theorem d_Law_list_762 : decode M_Law_list.2.1 762 = .ok (.iastore, 1) := by decide +kernel
theorem d_Law_list_763 : decode M_Law_list.2.1 763 = .ok (.dup, 1) := by decide +kernel
theorem d_Law_list_764 : decode M_Law_list.2.1 764 = .ok (.iconst 5, 1) := by decide +kernel
theorem d_Law_list_765 : decode M_Law_list.2.1 765 = .ok (.iconst 0, 1) := by decide +kernel
theorem d_Law_list_766 : decode M_Law_list.2.1 766 = .ok (.iastore, 1) := by decide +kernel
theorem d_Law_list_767 : decode M_Law_list.2.1 767 = .ok (.dup, 1) := by decide +kernel
theorem d_Law_list_768 : decode M_Law_list.2.1 768 = .ok (.bipush 6, 2) := by decide +kernel
theorem d_Law_list_770 : decode M_Law_list.2.1 770 = .ok (.iconst 0, 1) := by decide +kernel
theorem d_Law_list_771 : decode M_Law_list.2.1 771 = .ok (.iastore, 1) := by decide +kernel
theorem d_Law_list_772 : decode M_Law_list.2.1 772 = .ok (.dup, 1) := by decide +kernel
theorem d_Law_list_773 : decode M_Law_list.2.1 773 = .ok (.bipush 7, 2) := by decide +kernel
theorem d_Law_list_775 : decode M_Law_list.2.1 775 = .ok (.iconst 0, 1) := by decide +kernel
theorem d_Law_list_776 : decode M_Law_list.2.1 776 = .ok (.iastore, 1) := by decide +kernel
theorem d_Law_list_777 : decode M_Law_list.2.1 777 = .ok (.aastore, 1) := by decide +kernel
theorem d_Law_list_778 : decode M_Law_list.2.1 778 = .ok (.aload_n 1, 1) := by decide +kernel
theorem d_Law_list_779 : decode M_Law_list.2.1 779 = .ok (.ldc 173, 2) := by decide +kernel
theorem d_Law_list_781 : decode M_Law_list.2.1 781 = .ok (.invokevirtual 37, 3) := by decide +kernel
theorem d_Law_list_784 : decode M_Law_list.2.1 784 = .ok (.iload 5, 2) := by decide +kernel
theorem d_Law_list_786 : decode M_Law_list.2.1 786 = .ok (.invokevirtual 41, 3) := by decide +kernel
theorem d_Law_list_789 : decode M_Law_list.2.1 789 = .ok (.ldc 150, 2) := by decide +kernel
theorem d_Law_list_791 : decode M_Law_list.2.1 791 = .ok (.invokevirtual 37, 3) := by decide +kernel
theorem d_Law_list_794 : decode M_Law_list.2.1 794 = .ok (.aload_n 2, 1) := by decide +kernel
theorem d_Law_list_795 : decode M_Law_list.2.1 795 = .ok (.getfield 170, 3) := by decide +kernel
theorem d_Law_list_798 : decode M_Law_list.2.1 798 = .ok (.iload 5, 2) := by decide +kernel
theorem d_Law_list_800 : decode M_Law_list.2.1 800 = .ok (.aaload, 1) := by decide +kernel
theorem d_Law_list_801 : decode M_Law_list.2.1 801 = .ok (.iconst 2, 1) := by decide +kernel
theorem d_Law_list_802 : decode M_Law_list.2.1 802 = .ok (.iaload, 1) := by decide +kernel
theorem d_Law_list_803 : decode M_Law_list.2.1 803 = .ok (.invokevirtual 41, 3) := by decide +kernel
theorem d_Law_list_806 : decode M_Law_list.2.1 806 = .ok (.ldc 175, 2) := by decide +kernel
theorem d_Law_list_808 : decode M_Law_list.2.1 808 = .ok (.invokevirtual 37, 3) := by decide +kernel
theorem d_Law_list_811 : decode M_Law_list.2.1 811 = .ok (.aload_n 2, 1) := by decide +kernel
theorem d_Law_list_812 : decode M_Law_list.2.1 812 = .ok (.getfield 170, 3) := by decide +kernel
theorem d_Law_list_815 : decode M_Law_list.2.1 815 = .ok (.iload 5, 2) := by decide +kernel
theorem d_Law_list_817 : decode M_Law_list.2.1 817 = .ok (.aaload, 1) := by decide +kernel
theorem d_Law_list_818 : decode M_Law_list.2.1 818 = .ok (.iconst 0, 1) := by decide +kernel
theorem d_Law_list_819 : decode M_Law_list.2.1 819 = .ok (.iaload, 1) := by decide +kernel
theorem d_Law_list_820 : decode M_Law_list.2.1 820 = .ok (.invokevirtual 41, 3) := by decide +kernel
theorem d_Law_list_823 : decode M_Law_list.2.1 823 = .ok (.ldc 168, 2) := by decide +kernel
theorem d_Law_list_825 : decode M_Law_list.2.1 825 = .ok (.invokevirtual 37, 3) := by decide +kernel
theorem d_Law_list_828 : decode M_Law_list.2.1 828 = .ok (.aload_n 2, 1) := by decide +kernel
theorem d_Law_list_829 : decode M_Law_list.2.1 829 = .ok (.getfield 170, 3) := by decide +kernel
theorem d_Law_list_832 : decode M_Law_list.2.1 832 = .ok (.iload 5, 2) := by decide +kernel
theorem d_Law_list_834 : decode M_Law_list.2.1 834 = .ok (.aaload, 1) := by decide +kernel
theorem d_Law_list_835 : decode M_Law_list.2.1 835 = .ok (.iconst 1, 1) := by decide +kernel
theorem d_Law_list_836 : decode M_Law_list.2.1 836 = .ok (.iaload, 1) := by decide +kernel
theorem d_Law_list_837 : decode M_Law_list.2.1 837 = .ok (.invokevirtual 41, 3) := by decide +kernel
theorem d_Law_list_840 : decode M_Law_list.2.1 840 = .ok (.ldc 141, 2) := by decide +kernel
theorem d_Law_list_842 : decode M_Law_list.2.1 842 = .ok (.invokevirtual 37, 3) := by decide +kernel
theorem d_Law_list_845 : decode M_Law_list.2.1 845 = .ok (.pop, 1) := by decide +kernel
theorem d_Law_list_846 : decode M_Law_list.2.1 846 = .ok (.iinc 5 1, 3) := by decide +kernel
theorem d_Law_list_849 : decode M_Law_list.2.1 849 = .ok (.goto (-163), 3) := by decide +kernel
set_option maxRecDepth 100000 in
set_option maxHeartbeats 4000000 in
theorem li_teams {Γ : G9} {ls : Nat → Nat} {sa n : Nat} {xs : Nat → Int32} {b sim nb m C' S' : Nat} {hb : AH} {Q : QT} {X : XT} {p : List Int32} {n0 : Nat} {n1 : Nat} {n2 : Nat} {n3 : Nat} {r0 : List (Nat → Int32)} {r1 : List (Nat → Int32)} {r2 : List (Nat → Int32)} {r3 : List (Nat → Int32)} (hk : CsOk Γ) (hp : PrOk Γ) (hdg : DgOk Γ) (hls : LsOk Γ ls) (hao : AoOk Γ) (hsc : ScOk Γ sa n xs) (hn : n < 2 ^ 31) (hnb : 1 ≤ nb ∧ nb ≤ 4) (hm : m ≤ 4) (hpl : p.length ≤ 428) (hn0 : n0 ≤ 4) (hn1 : n1 ≤ 4) (hn2 : n2 ≤ 4) (hn3 : n3 ≤ 4) (kx : ∀ (l : List R3) (h : AH) (z : Nat), l.length = m → (∀ a ∈ l, okTeam nb a) → LX Γ h b hb sim (p ++ tAll tTeam l) (RSF r0 r1 r2 r3 (l.map rTeam) []) (CN n0 n1 n2 n3 m 0) (fun _ => 10) → Go Γ M_Law_list 9 C' S' 852 [some (.ref sa), some (.ref b), some (.ref sim), some (.int (nI nb)), none, none, none, none, none, none, none, none, none] [] h z Q X) : ∀ (k i : Nat) (l : List R3) (h : AH) (z C S : Nat), i + k = m → l.length = i → (∀ a ∈ l, okTeam nb a) → LX Γ h b hb sim (p ++ tAll tTeam l) (RSF r0 r1 r2 r3 (l.map rTeam) []) (CN n0 n1 n2 n3 m 0) (fun _ => 10) → C' + k * 11 ≤ C → S' + k * 22000 ≤ S → Go Γ M_Law_list 9 C S 686 [some (.ref sa), some (.ref b), some (.ref sim), some (.int (nI nb)), none, some (.int (nI i)), none, none, none, none, none, none, none] [] h z Q X := by
  intro k
  induction k with
  | zero =>
    intro i l h z C S hi hl hok ⟨B, hs, hr, hc, hw, hsim⟩ hC hS
    rw [Nat.zero_mul] at hC hS
    refine Go.room (C' := C') (S' := S') ?_ (Nat.le_refl _) hC hS
    refine Go.iload_5 d_Law_list_686 rfl ?_
    refine Go.aload_2 d_Law_list_688 rfl ?_
    refine Go.lget (k := 4) d_Law_list_689 rfl f_Law_170 (by decide) hs hsim ?_
    refine Go.llen d_Law_list_692 rfl (by decide) hs (n := m) (by rw [hc]; rfl) ?_
    refine Go.icmp_ge (t := 852) d_Law_list_693 (by decide) rfl (fun _ => ?_) (fun w => absurd (nI_le (by omega) (by omega)) w)
    refine Go.fgt [some (.ref sa), some (.ref b), some (.ref sim), some (.int (nI nb)), none, none, none, none, none, none, none, none, none] (by repeat' (first | exact trivial | refine ⟨rfl, ?_⟩)) ?_
    exact kx l h z (by omega) hok ⟨B, hs, hr, hc, hw, hsim⟩
  | succ k ih =>
    intro i l h z C S hi hl hok ⟨B, hs, hr, hc, hw, hsim⟩ hC hS
    rw [Nat.succ_mul] at hC hS
    have htl : (tAll tTeam l).length ≤ 29 * i := tAll_len (K := 10) (fun k a => len_tTeam hnb.2) hl (by omega) hok
    refine Go.iload_5 d_Law_list_686 rfl ?_
    refine Go.aload_2 d_Law_list_688 rfl ?_
    refine Go.lget (k := 4) d_Law_list_689 rfl f_Law_170 (by decide) hs hsim ?_
    refine Go.llen d_Law_list_692 rfl (by decide) hs (n := m) (by rw [hc]; rfl) ?_
    refine Go.icmp_ge (t := 852) d_Law_list_693 (by decide) rfl (fun w => absurd w (nI_ge (by omega) (by omega))) (fun _ => ?_)
    refine Go.aload_0 d_Law_list_696 rfl ?_
    refine Go.iconst (v := 5) d_Law_list_697 rfl (by decide) ?_
    refine Go.lcell d_Law_list_698 rfl hsc hn (k := 5) rfl (by omega) rfl (fun x0 => ?_)
    refine Go.iconst (v := 2) d_Law_list_701 rfl (by decide) ?_
    refine Go.bipush (v := 6) d_Law_list_702 rfl (by decide) ?_
    refine Go.iload_5 d_Law_list_704 rfl ?_
    refine Go.imul d_Law_list_706 rfl ?_
    refine Go.iadd d_Law_list_707 rfl ?_
    refine Go.ishr d_Law_list_708 rfl ?_
    refine Go.istore_6 d_Law_list_709 rfl (by rfl) ?_
    refine Go.aload_2 d_Law_list_711 rfl ?_
    refine Go.lget (k := 4) d_Law_list_712 rfl f_Law_170 (by decide) hs hsim ?_
    refine Go.iload_5 d_Law_list_715 rfl ?_
    refine Go.bipush (v := 8) d_Law_list_717 rfl (by decide) ?_
    refine Go.low (fun hlow => ?_)
    refine Go.lnewI (C1 := C - 1) (S1 := S - 8) (N := 8) d_Law_list_719 rfl rfl (by decide) (by omega) (by omega) ?_
    refine Go.dup d_Law_list_721 rfl rfl ?_
    refine Go.iconst (v := 0) d_Law_list_722 rfl (by decide) ?_
    refine Go.iconst (v := 2) d_Law_list_723 rfl (by decide) ?_
    refine Go.iload_6 d_Law_list_724 rfl ?_
    refine Go.iconst (v := 5) d_Law_list_726 rfl (by decide) ?_
    refine Go.lbel d_Law_list_727 rfl (n := 5) rfl (by omega) (by omega) rfl (fun y1 by1 => ?_)
    refine Go.iadd d_Law_list_730 rfl ?_
    rw [show (2 : Int32) + nI (y1) = nI (2 + y1) from nI_ad _ _]
    refine Go.lini d_Law_list_731 rfl (j := 0) rfl (by decide) (by decide) ?_
    refine Go.dup d_Law_list_732 rfl rfl ?_
    refine Go.iconst (v := 1) d_Law_list_733 rfl (by decide) ?_
    refine Go.iload_6 d_Law_list_734 rfl ?_
    refine Go.iconst (v := 2) d_Law_list_736 rfl (by decide) ?_
    refine Go.ishr d_Law_list_737 rfl ?_
    refine Go.bipush (v := 41) d_Law_list_738 rfl (by decide) ?_
    refine Go.lbel d_Law_list_740 rfl (n := 41) rfl (by omega) (by omega) rfl (fun y2 by2 => ?_)
    refine Go.lini d_Law_list_743 rfl (j := 1) rfl (by decide) (by decide) ?_
    refine Go.dup d_Law_list_744 rfl rfl ?_
    refine Go.iconst (v := 2) d_Law_list_745 rfl (by decide) ?_
    refine Go.iload_6 d_Law_list_746 rfl ?_
    refine Go.iconst (v := 4) d_Law_list_748 rfl (by decide) ?_
    refine Go.ishr d_Law_list_749 rfl ?_
    refine Go.iload_3 d_Law_list_750 rfl ?_
    refine Go.lbel d_Law_list_751 rfl (n := nb) rfl (by omega) (by omega) rfl (fun y3 by3 => ?_)
    refine Go.lini d_Law_list_754 rfl (j := 2) rfl (by decide) (by decide) ?_
    refine Go.dup d_Law_list_755 rfl rfl ?_
    refine Go.iconst (v := 3) d_Law_list_756 rfl (by decide) ?_
    refine Go.iconst (v := 0) d_Law_list_757 rfl (by decide) ?_
    refine Go.lini d_Law_list_758 rfl (j := 3) rfl (by decide) (by decide) ?_
    refine Go.dup d_Law_list_759 rfl rfl ?_
    refine Go.iconst (v := 4) d_Law_list_760 rfl (by decide) ?_
    refine Go.iconst (v := 1) d_Law_list_761 rfl (by decide) ?_
    refine Go.lini d_Law_list_762 rfl (j := 4) rfl (by decide) (by decide) ?_
    refine Go.dup d_Law_list_763 rfl rfl ?_
    refine Go.iconst (v := 5) d_Law_list_764 rfl (by decide) ?_
    refine Go.iconst (v := 0) d_Law_list_765 rfl (by decide) ?_
    refine Go.lini d_Law_list_766 rfl (j := 5) rfl (by decide) (by decide) ?_
    refine Go.dup d_Law_list_767 rfl rfl ?_
    refine Go.bipush (v := 6) d_Law_list_768 rfl (by decide) ?_
    refine Go.iconst (v := 0) d_Law_list_770 rfl (by decide) ?_
    refine Go.lini d_Law_list_771 rfl (j := 6) rfl (by decide) (by decide) ?_
    refine Go.dup d_Law_list_772 rfl rfl ?_
    refine Go.bipush (v := 7) d_Law_list_773 rfl (by decide) ?_
    refine Go.iconst (v := 0) d_Law_list_775 rfl (by decide) ?_
    refine Go.lini d_Law_list_776 rfl (j := 7) rfl (by decide) (by decide) ?_
    refine Go.laas (k := 4) d_Law_list_777 rfl hao hs hsim hlow (by decide) (i := i) rfl (by rw [hr]; exact (List.length_map ..).trans hl) (by rw [hc]; show i < m; omega) (by rw [hc]; show m < 100; omega) (fun h B hs e1 hc1 hw1 hsim hlen hf => ?_)
    have hc := hc1.trans hc
    have hw := hw1.trans hw
    have hr : b_rs B = RSF r0 r1 r2 r3 ((l ++ [((2 + y1), y2, y3)]).map rTeam) [] := by
      rw [e1, hr, RS_row4, List.map_append]
      rfl
    refine Go.aload_1 d_Law_list_778 rfl ?_
    refine Go.ldcS d_Law_list_779 rfl rfl (hls.t173).1 ?_
    refine Go.lapp d_Law_list_781 rfl hk hp hs (Or.inl (hls.t173).2) LB_tx173 (by simp only [List.length_append, List.length_nil, len_tx35, len_tx48, len_tx50, len_tx52, len_tx54, len_tx56, len_tx58, len_tx60, len_tx62, len_tx64, len_tx66, len_tx68, len_tx70, len_tx72, len_tx74, len_tx76, len_tx78, len_tx80, len_tx82, len_tx84, len_tx86, len_tx88, len_tx90, len_tx92, len_tx94, len_tx96, len_tx98, len_tx100, len_tx102, len_tx104, len_tx106, len_tx108, len_tx110, len_tx112, len_tx114, len_tx135, len_tx137, len_tx139, len_tx141, len_tx143, len_tx148, len_tx150, len_tx152, len_tx157, len_tx159, len_tx161, len_tx166, len_tx168, len_tx173, len_tx175, len_tx180, len_tx182, len_tx187, len_tx189, len_tx191, len_tx193, len_tx195, len_tx197, len_tx203, len_tx208]; omega) (by omega) (by omega) rfl (fun h z hs => ?_)
    refine Go.iload_5 d_Law_list_784 rfl ?_
    have g4 := dec_2 (show i < 100 by omega)
    have g5 := dec_1 (show i < 10 by omega)
    refine Go.lappI (v := i) d_Law_list_786 rfl hk hp hdg hs (by omega) (by simp only [List.length_append, List.length_nil, len_tx35, len_tx48, len_tx50, len_tx52, len_tx54, len_tx56, len_tx58, len_tx60, len_tx62, len_tx64, len_tx66, len_tx68, len_tx70, len_tx72, len_tx74, len_tx76, len_tx78, len_tx80, len_tx82, len_tx84, len_tx86, len_tx88, len_tx90, len_tx92, len_tx94, len_tx96, len_tx98, len_tx100, len_tx102, len_tx104, len_tx106, len_tx108, len_tx110, len_tx112, len_tx114, len_tx135, len_tx137, len_tx139, len_tx141, len_tx143, len_tx148, len_tx150, len_tx152, len_tx157, len_tx159, len_tx161, len_tx166, len_tx168, len_tx173, len_tx175, len_tx180, len_tx182, len_tx187, len_tx189, len_tx191, len_tx193, len_tx195, len_tx197, len_tx203, len_tx208]; omega) (by omega) (by omega) rfl (fun h z hs => ?_)
    refine Go.ldcS d_Law_list_789 rfl rfl (hls.t150).1 ?_
    refine Go.lapp d_Law_list_791 rfl hk hp hs (Or.inl (hls.t150).2) LB_tx150 (by simp only [List.length_append, List.length_nil, len_tx35, len_tx48, len_tx50, len_tx52, len_tx54, len_tx56, len_tx58, len_tx60, len_tx62, len_tx64, len_tx66, len_tx68, len_tx70, len_tx72, len_tx74, len_tx76, len_tx78, len_tx80, len_tx82, len_tx84, len_tx86, len_tx88, len_tx90, len_tx92, len_tx94, len_tx96, len_tx98, len_tx100, len_tx102, len_tx104, len_tx106, len_tx108, len_tx110, len_tx112, len_tx114, len_tx135, len_tx137, len_tx139, len_tx141, len_tx143, len_tx148, len_tx150, len_tx152, len_tx157, len_tx159, len_tx161, len_tx166, len_tx168, len_tx173, len_tx175, len_tx180, len_tx182, len_tx187, len_tx189, len_tx191, len_tx193, len_tx195, len_tx197, len_tx203, len_tx208]; omega) (by omega) (by omega) rfl (fun h z hs => ?_)
    refine Go.aload_2 d_Law_list_794 rfl ?_
    refine Go.lget (k := 4) d_Law_list_795 rfl f_Law_170 (by decide) hs hsim ?_
    refine Go.iload_5 d_Law_list_798 rfl ?_
    refine Go.lrow d_Law_list_800 rfl hs (by decide) (i := i) rfl hlen (by rw [hc]; show i < m; omega) (by rw [hc]; show m < 100; omega) ?_
    refine Go.iconst (v := 2) d_Law_list_801 rfl (by decide) ?_
    refine Go.lld d_Law_list_802 rfl hs (by decide) hlen hf (j := 2) (by decide) (by decide) (x := nI (y3)) rfl ?_
    have g6 := dec_2 (show y3 < 100 by omega)
    have g7 := dec_1 (show y3 < 10 by omega)
    refine Go.lappI (v := y3) d_Law_list_803 rfl hk hp hdg hs (by omega) (by simp only [List.length_append, List.length_nil, len_tx35, len_tx48, len_tx50, len_tx52, len_tx54, len_tx56, len_tx58, len_tx60, len_tx62, len_tx64, len_tx66, len_tx68, len_tx70, len_tx72, len_tx74, len_tx76, len_tx78, len_tx80, len_tx82, len_tx84, len_tx86, len_tx88, len_tx90, len_tx92, len_tx94, len_tx96, len_tx98, len_tx100, len_tx102, len_tx104, len_tx106, len_tx108, len_tx110, len_tx112, len_tx114, len_tx135, len_tx137, len_tx139, len_tx141, len_tx143, len_tx148, len_tx150, len_tx152, len_tx157, len_tx159, len_tx161, len_tx166, len_tx168, len_tx173, len_tx175, len_tx180, len_tx182, len_tx187, len_tx189, len_tx191, len_tx193, len_tx195, len_tx197, len_tx203, len_tx208]; omega) (by omega) (by omega) rfl (fun h z hs => ?_)
    refine Go.ldcS d_Law_list_806 rfl rfl (hls.t175).1 ?_
    refine Go.lapp d_Law_list_808 rfl hk hp hs (Or.inl (hls.t175).2) LB_tx175 (by simp only [List.length_append, List.length_nil, len_tx35, len_tx48, len_tx50, len_tx52, len_tx54, len_tx56, len_tx58, len_tx60, len_tx62, len_tx64, len_tx66, len_tx68, len_tx70, len_tx72, len_tx74, len_tx76, len_tx78, len_tx80, len_tx82, len_tx84, len_tx86, len_tx88, len_tx90, len_tx92, len_tx94, len_tx96, len_tx98, len_tx100, len_tx102, len_tx104, len_tx106, len_tx108, len_tx110, len_tx112, len_tx114, len_tx135, len_tx137, len_tx139, len_tx141, len_tx143, len_tx148, len_tx150, len_tx152, len_tx157, len_tx159, len_tx161, len_tx166, len_tx168, len_tx173, len_tx175, len_tx180, len_tx182, len_tx187, len_tx189, len_tx191, len_tx193, len_tx195, len_tx197, len_tx203, len_tx208]; omega) (by omega) (by omega) rfl (fun h z hs => ?_)
    refine Go.aload_2 d_Law_list_811 rfl ?_
    refine Go.lget (k := 4) d_Law_list_812 rfl f_Law_170 (by decide) hs hsim ?_
    refine Go.iload_5 d_Law_list_815 rfl ?_
    refine Go.lrow d_Law_list_817 rfl hs (by decide) (i := i) rfl hlen (by rw [hc]; show i < m; omega) (by rw [hc]; show m < 100; omega) ?_
    refine Go.iconst (v := 0) d_Law_list_818 rfl (by decide) ?_
    refine Go.lld d_Law_list_819 rfl hs (by decide) hlen hf (j := 0) (by decide) (by decide) (x := nI ((2 + y1))) rfl ?_
    have g8 := dec_2 (show (2 + y1) < 100 by omega)
    have g9 := dec_1 (show (2 + y1) < 10 by omega)
    refine Go.lappI (v := (2 + y1)) d_Law_list_820 rfl hk hp hdg hs (by omega) (by simp only [List.length_append, List.length_nil, len_tx35, len_tx48, len_tx50, len_tx52, len_tx54, len_tx56, len_tx58, len_tx60, len_tx62, len_tx64, len_tx66, len_tx68, len_tx70, len_tx72, len_tx74, len_tx76, len_tx78, len_tx80, len_tx82, len_tx84, len_tx86, len_tx88, len_tx90, len_tx92, len_tx94, len_tx96, len_tx98, len_tx100, len_tx102, len_tx104, len_tx106, len_tx108, len_tx110, len_tx112, len_tx114, len_tx135, len_tx137, len_tx139, len_tx141, len_tx143, len_tx148, len_tx150, len_tx152, len_tx157, len_tx159, len_tx161, len_tx166, len_tx168, len_tx173, len_tx175, len_tx180, len_tx182, len_tx187, len_tx189, len_tx191, len_tx193, len_tx195, len_tx197, len_tx203, len_tx208]; omega) (by omega) (by omega) rfl (fun h z hs => ?_)
    refine Go.ldcS d_Law_list_823 rfl rfl (hls.t168).1 ?_
    refine Go.lapp d_Law_list_825 rfl hk hp hs (Or.inl (hls.t168).2) LB_tx168 (by simp only [List.length_append, List.length_nil, len_tx35, len_tx48, len_tx50, len_tx52, len_tx54, len_tx56, len_tx58, len_tx60, len_tx62, len_tx64, len_tx66, len_tx68, len_tx70, len_tx72, len_tx74, len_tx76, len_tx78, len_tx80, len_tx82, len_tx84, len_tx86, len_tx88, len_tx90, len_tx92, len_tx94, len_tx96, len_tx98, len_tx100, len_tx102, len_tx104, len_tx106, len_tx108, len_tx110, len_tx112, len_tx114, len_tx135, len_tx137, len_tx139, len_tx141, len_tx143, len_tx148, len_tx150, len_tx152, len_tx157, len_tx159, len_tx161, len_tx166, len_tx168, len_tx173, len_tx175, len_tx180, len_tx182, len_tx187, len_tx189, len_tx191, len_tx193, len_tx195, len_tx197, len_tx203, len_tx208]; omega) (by omega) (by omega) rfl (fun h z hs => ?_)
    refine Go.aload_2 d_Law_list_828 rfl ?_
    refine Go.lget (k := 4) d_Law_list_829 rfl f_Law_170 (by decide) hs hsim ?_
    refine Go.iload_5 d_Law_list_832 rfl ?_
    refine Go.lrow d_Law_list_834 rfl hs (by decide) (i := i) rfl hlen (by rw [hc]; show i < m; omega) (by rw [hc]; show m < 100; omega) ?_
    refine Go.iconst (v := 1) d_Law_list_835 rfl (by decide) ?_
    refine Go.lld d_Law_list_836 rfl hs (by decide) hlen hf (j := 1) (by decide) (by decide) (x := nI (y2)) rfl ?_
    have g10 := dec_2 (show y2 < 100 by omega)
    refine Go.lappI (v := y2) d_Law_list_837 rfl hk hp hdg hs (by omega) (by simp only [List.length_append, List.length_nil, len_tx35, len_tx48, len_tx50, len_tx52, len_tx54, len_tx56, len_tx58, len_tx60, len_tx62, len_tx64, len_tx66, len_tx68, len_tx70, len_tx72, len_tx74, len_tx76, len_tx78, len_tx80, len_tx82, len_tx84, len_tx86, len_tx88, len_tx90, len_tx92, len_tx94, len_tx96, len_tx98, len_tx100, len_tx102, len_tx104, len_tx106, len_tx108, len_tx110, len_tx112, len_tx114, len_tx135, len_tx137, len_tx139, len_tx141, len_tx143, len_tx148, len_tx150, len_tx152, len_tx157, len_tx159, len_tx161, len_tx166, len_tx168, len_tx173, len_tx175, len_tx180, len_tx182, len_tx187, len_tx189, len_tx191, len_tx193, len_tx195, len_tx197, len_tx203, len_tx208]; omega) (by omega) (by omega) rfl (fun h z hs => ?_)
    refine Go.ldcS d_Law_list_840 rfl rfl (hls.t141).1 ?_
    refine Go.lapp d_Law_list_842 rfl hk hp hs (Or.inl (hls.t141).2) LB_tx141 (by simp only [List.length_append, List.length_nil, len_tx35, len_tx48, len_tx50, len_tx52, len_tx54, len_tx56, len_tx58, len_tx60, len_tx62, len_tx64, len_tx66, len_tx68, len_tx70, len_tx72, len_tx74, len_tx76, len_tx78, len_tx80, len_tx82, len_tx84, len_tx86, len_tx88, len_tx90, len_tx92, len_tx94, len_tx96, len_tx98, len_tx100, len_tx102, len_tx104, len_tx106, len_tx108, len_tx110, len_tx112, len_tx114, len_tx135, len_tx137, len_tx139, len_tx141, len_tx143, len_tx148, len_tx150, len_tx152, len_tx157, len_tx159, len_tx161, len_tx166, len_tx168, len_tx173, len_tx175, len_tx180, len_tx182, len_tx187, len_tx189, len_tx191, len_tx193, len_tx195, len_tx197, len_tx203, len_tx208]; omega) (by omega) (by omega) rfl (fun h z hs => ?_)
    refine Go.pop d_Law_list_845 rfl rfl ?_
    refine Go.iinc_5 (v := nI (i + 1)) d_Law_list_846 rfl (by rfl) (nI_inc _) ?_
    refine Go.goto (t := 686) d_Law_list_849 (by decide) ?_
    refine Go.fgt [some (.ref sa), some (.ref b), some (.ref sim), some (.int (nI nb)), none, some (.int (nI (i + 1))), none, none, none, none, none, none, none] (by repeat' (first | exact trivial | refine ⟨rfl, ?_⟩)) ?_
    have et : ((((((((((p ++ tAll tTeam l) ++ tx173) ++ dec (i)) ++ tx150) ++ dec (y3)) ++ tx175) ++ dec ((2 + y1))) ++ tx168) ++ dec (y2)) ++ tx141) = p ++ tAll tTeam (l ++ [((2 + y1), y2, y3)]) := by
      rw [tAll_snoc, hl]
      simp only [tTeam, List.append_assoc]
    rw [et] at hs
    exact ih (i + 1) (l ++ [((2 + y1), y2, y3)]) h _ _ _ (by omega) (len_snoc hl) (all_snoc hok (by unfold okTeam; dsimp only; omega)) ⟨B, hs, hr, hc, hw, hsim⟩ (by omega) (by omega)
theorem d_Law_list_868 : decode M_Law_list.2.1 868 = .ok (.iload 6, 2) := by decide +kernel
theorem d_Law_list_870 : decode M_Law_list.2.1 870 = .ok (.iload 5, 2) := by decide +kernel
theorem d_Law_list_872 : decode M_Law_list.2.1 872 = .ok (.if_icmp .ge 105, 3) := by decide +kernel
theorem d_Law_list_875 : decode M_Law_list.2.1 875 = .ok (.aload_n 0, 1) := by decide +kernel
theorem d_Law_list_876 : decode M_Law_list.2.1 876 = .ok (.bipush 6, 2) := by decide +kernel
theorem d_Law_list_878 : decode M_Law_list.2.1 878 = .ok (.invokestatic 119, 3) := by decide +kernel
theorem d_Law_list_881 : decode M_Law_list.2.1 881 = .ok (.iconst 3, 1) := by decide +kernel
theorem d_Law_list_882 : decode M_Law_list.2.1 882 = .ok (.iconst 2, 1) := by decide +kernel
theorem d_Law_list_883 : decode M_Law_list.2.1 883 = .ok (.iload 6, 2) := by decide +kernel
theorem d_Law_list_885 : decode M_Law_list.2.1 885 = .ok (.imul, 1) := by decide +kernel
theorem d_Law_list_886 : decode M_Law_list.2.1 886 = .ok (.iadd, 1) := by decide +kernel
theorem d_Law_list_887 : decode M_Law_list.2.1 887 = .ok (.ishr, 1) := by decide +kernel
theorem d_Law_list_888 : decode M_Law_list.2.1 888 = .ok (.bipush 8, 2) := by decide +kernel
theorem d_Law_list_890 : decode M_Law_list.2.1 890 = .ok (.invokestatic 125, 3) := by decide +kernel
theorem d_Law_list_893 : decode M_Law_list.2.1 893 = .ok (.istore 7, 2) := by decide +kernel
theorem d_Law_list_895 : decode M_Law_list.2.1 895 = .ok (.aload_n 2, 1) := by decide +kernel
theorem d_Law_list_896 : decode M_Law_list.2.1 896 = .ok (.getfield 177, 3) := by decide +kernel
theorem d_Law_list_899 : decode M_Law_list.2.1 899 = .ok (.iload 7, 2) := by decide +kernel
theorem d_Law_list_901 : decode M_Law_list.2.1 901 = .ok (.aload_n 0, 1) := by decide +kernel
theorem d_Law_list_902 : decode M_Law_list.2.1 902 = .ok (.bipush 7, 2) := by decide +kernel
theorem d_Law_list_904 : decode M_Law_list.2.1 904 = .ok (.invokestatic 119, 3) := by decide +kernel
theorem d_Law_list_907 : decode M_Law_list.2.1 907 = .ok (.iconst 2, 1) := by decide +kernel
theorem d_Law_list_908 : decode M_Law_list.2.1 908 = .ok (.iload 6, 2) := by decide +kernel
theorem d_Law_list_910 : decode M_Law_list.2.1 910 = .ok (.imul, 1) := by decide +kernel
theorem d_Law_list_911 : decode M_Law_list.2.1 911 = .ok (.ishr, 1) := by decide +kernel
theorem d_Law_list_912 : decode M_Law_list.2.1 912 = .ok (.aload_n 0, 1) := by decide +kernel
theorem d_Law_list_913 : decode M_Law_list.2.1 913 = .ok (.bipush 7, 2) := by decide +kernel
theorem d_Law_list_915 : decode M_Law_list.2.1 915 = .ok (.invokestatic 119, 3) := by decide +kernel
theorem d_Law_list_918 : decode M_Law_list.2.1 918 = .ok (.iload 6, 2) := by decide +kernel
theorem d_Law_list_920 : decode M_Law_list.2.1 920 = .ok (.ishr, 1) := by decide +kernel
theorem d_Law_list_921 : decode M_Law_list.2.1 921 = .ok (.iconst 2, 1) := by decide +kernel
theorem d_Law_list_922 : decode M_Law_list.2.1 922 = .ok (.invokestatic 125, 3) := by decide +kernel
theorem d_Law_list_925 : decode M_Law_list.2.1 925 = .ok (.ifCond .ne 8, 3) := by decide +kernel
theorem d_Law_list_933 : decode M_Law_list.2.1 933 = .ok (.bipush 31, 2) := by decide +kernel
theorem d_Law_list_935 : decode M_Law_list.2.1 935 = .ok (.invokestatic 125, 3) := by decide +kernel
theorem d_Law_list_928 : decode M_Law_list.2.1 928 = .ok (.bipush 9, 2) := by decide +kernel
theorem d_Law_list_930 : decode M_Law_list.2.1 930 = .ok (.goto 5, 3) := by decide +kernel
theorem d_Law_list_938 : decode M_Law_list.2.1 938 = .ok (.iastore, 1) := by decide +kernel
theorem d_Law_list_939 : decode M_Law_list.2.1 939 = .ok (.aload_n 1, 1) := by decide +kernel
theorem d_Law_list_940 : decode M_Law_list.2.1 940 = .ok (.ldc 180, 2) := by decide +kernel
theorem d_Law_list_942 : decode M_Law_list.2.1 942 = .ok (.invokevirtual 37, 3) := by decide +kernel
theorem d_Law_list_945 : decode M_Law_list.2.1 945 = .ok (.iload 7, 2) := by decide +kernel
theorem d_Law_list_947 : decode M_Law_list.2.1 947 = .ok (.invokevirtual 41, 3) := by decide +kernel
theorem d_Law_list_950 : decode M_Law_list.2.1 950 = .ok (.ldc 182, 2) := by decide +kernel
theorem d_Law_list_952 : decode M_Law_list.2.1 952 = .ok (.invokevirtual 37, 3) := by decide +kernel
theorem d_Law_list_955 : decode M_Law_list.2.1 955 = .ok (.aload_n 2, 1) := by decide +kernel
theorem d_Law_list_956 : decode M_Law_list.2.1 956 = .ok (.getfield 177, 3) := by decide +kernel
theorem d_Law_list_959 : decode M_Law_list.2.1 959 = .ok (.iload 7, 2) := by decide +kernel
theorem d_Law_list_961 : decode M_Law_list.2.1 961 = .ok (.iaload, 1) := by decide +kernel
theorem d_Law_list_962 : decode M_Law_list.2.1 962 = .ok (.invokevirtual 41, 3) := by decide +kernel
theorem d_Law_list_965 : decode M_Law_list.2.1 965 = .ok (.ldc 141, 2) := by decide +kernel
theorem d_Law_list_967 : decode M_Law_list.2.1 967 = .ok (.invokevirtual 37, 3) := by decide +kernel
theorem d_Law_list_970 : decode M_Law_list.2.1 970 = .ok (.pop, 1) := by decide +kernel
theorem d_Law_list_971 : decode M_Law_list.2.1 971 = .ok (.iinc 6 1, 3) := by decide +kernel
theorem d_Law_list_974 : decode M_Law_list.2.1 974 = .ok (.goto (-106), 3) := by decide +kernel
set_option maxRecDepth 100000 in
set_option maxHeartbeats 4000000 in
theorem li_days {Γ : G9} {ls : Nat → Nat} {sa n : Nat} {xs : Nat → Int32} {b sim nb m C' S' : Nat} {hb : AH} {Q : QT} {X : XT} {p : List Int32} {n0 : Nat} {n1 : Nat} {n2 : Nat} {n3 : Nat} {n4 : Nat} {r0 : List (Nat → Int32)} {r1 : List (Nat → Int32)} {r2 : List (Nat → Int32)} {r3 : List (Nat → Int32)} {r4 : List (Nat → Int32)} (hk : CsOk Γ) (hp : PrOk Γ) (hdg : DgOk Γ) (hls : LsOk Γ ls) (hao : AoOk Γ) (hsc : ScOk Γ sa n xs) (hn : n < 2 ^ 31) (hnb : 1 ≤ nb ∧ nb ≤ 4) (hm : m ≤ 6) (hpl : p.length ≤ 544) (hn0 : n0 ≤ 4) (hn1 : n1 ≤ 4) (hn2 : n2 ≤ 4) (hn3 : n3 ≤ 4) (hn4 : n4 ≤ 4) (kx : ∀ (l : List R2) (h : AH) (z : Nat), l.length = m → (∀ a ∈ l, okDay a) → LX Γ h b hb sim (p ++ tAll tDay l) (RSF r0 r1 r2 r3 r4 []) (CN n0 n1 n2 n3 n4 0) (wF l) → Go Γ M_Law_list 9 C' S' 977 [some (.ref sa), some (.ref b), some (.ref sim), some (.int (nI nb)), none, none, none, none, none, none, none, none, none] [] h z Q X) : ∀ (k i : Nat) (l : List R2) (h : AH) (z C S : Nat), i + k = m → l.length = i → (∀ a ∈ l, okDay a) → LX Γ h b hb sim (p ++ tAll tDay l) (RSF r0 r1 r2 r3 r4 []) (CN n0 n1 n2 n3 n4 0) (wF l) → C' + k * 9 ≤ C → S' + k * 20000 ≤ S → Go Γ M_Law_list 9 C S 868 [some (.ref sa), some (.ref b), some (.ref sim), some (.int (nI nb)), none, some (.int (nI m)), some (.int (nI i)), none, none, none, none, none, none] [] h z Q X := by
  intro k
  induction k with
  | zero =>
    intro i l h z C S hi hl hok ⟨B, hs, hr, hc, hw, hsim⟩ hC hS
    rw [Nat.zero_mul] at hC hS
    refine Go.room (C' := C') (S' := S') ?_ (Nat.le_refl _) hC hS
    refine Go.iload_6 d_Law_list_868 rfl ?_
    refine Go.iload_5 d_Law_list_870 rfl ?_
    refine Go.icmp_ge (t := 977) d_Law_list_872 (by decide) rfl (fun _ => ?_) (fun w => absurd (nI_le (by omega) (by omega)) w)
    refine Go.fgt [some (.ref sa), some (.ref b), some (.ref sim), some (.int (nI nb)), none, none, none, none, none, none, none, none, none] (by repeat' (first | exact trivial | refine ⟨rfl, ?_⟩)) ?_
    exact kx l h z (by omega) hok ⟨B, hs, hr, hc, hw, hsim⟩
  | succ k ih =>
    intro i l h z C S hi hl hok ⟨B, hs, hr, hc, hw, hsim⟩ hC hS
    rw [Nat.succ_mul] at hC hS
    have htl : (tAll tDay l).length ≤ 14 * i := tAll_len (K := 10) (fun k a => len_tDay) hl (by omega) hok
    refine Go.iload_6 d_Law_list_868 rfl ?_
    refine Go.iload_5 d_Law_list_870 rfl ?_
    refine Go.icmp_ge (t := 977) d_Law_list_872 (by decide) rfl (fun w => absurd w (nI_ge (by omega) (by omega))) (fun _ => ?_)
    refine Go.aload_0 d_Law_list_875 rfl ?_
    refine Go.bipush (v := 6) d_Law_list_876 rfl (by decide) ?_
    refine Go.lcell d_Law_list_878 rfl hsc hn (k := 6) rfl (by omega) rfl (fun x0 => ?_)
    refine Go.iconst (v := 3) d_Law_list_881 rfl (by decide) ?_
    refine Go.iconst (v := 2) d_Law_list_882 rfl (by decide) ?_
    refine Go.iload_6 d_Law_list_883 rfl ?_
    refine Go.imul d_Law_list_885 rfl ?_
    refine Go.iadd d_Law_list_886 rfl ?_
    refine Go.ishr d_Law_list_887 rfl ?_
    refine Go.bipush (v := 8) d_Law_list_888 rfl (by decide) ?_
    refine Go.lbel d_Law_list_890 rfl (n := 8) rfl (by omega) (by omega) rfl (fun y1 by1 => ?_)
    refine Go.istore_7 d_Law_list_893 rfl (by rfl) ?_
    refine Go.aload_2 d_Law_list_895 rfl ?_
    refine Go.lgetw d_Law_list_896 rfl f_Law_177 hs hsim ?_
    refine Go.iload_7 d_Law_list_899 rfl ?_
    refine Go.aload_0 d_Law_list_901 rfl ?_
    refine Go.bipush (v := 7) d_Law_list_902 rfl (by decide) ?_
    refine Go.lcell d_Law_list_904 rfl hsc hn (k := 7) rfl (by omega) rfl (fun x2 => ?_)
    refine Go.iconst (v := 2) d_Law_list_907 rfl (by decide) ?_
    refine Go.iload_6 d_Law_list_908 rfl ?_
    refine Go.imul d_Law_list_910 rfl ?_
    refine Go.ishr d_Law_list_911 rfl ?_
    refine Go.aload_0 d_Law_list_912 rfl ?_
    refine Go.bipush (v := 7) d_Law_list_913 rfl (by decide) ?_
    refine Go.lcell d_Law_list_915 rfl hsc hn (k := 7) rfl (by omega) rfl (fun x3 => ?_)
    refine Go.iload_6 d_Law_list_918 rfl ?_
    refine Go.ishr d_Law_list_920 rfl ?_
    refine Go.iconst (v := 2) d_Law_list_921 rfl (by decide) ?_
    refine Go.lbel d_Law_list_922 rfl (n := 2) rfl (by omega) (by omega) rfl (fun y4 by4 => ?_)
    refine Go.bel2 (q := 938) 31 (fun y5 by5 => ?_) (fun hkk => ?_)
    rotate_left
    · refine Go.if_ne (t := 933) d_Law_list_925 (by decide) rfl (fun _ => ?_) (fun _ => ?_)
      · skip
        refine Go.bipush (v := 31) d_Law_list_933 rfl (by decide) ?_
        exact Go.lbel d_Law_list_935 rfl (n := 31) rfl (by omega) (by omega) rfl (fun y by_ => hkk y (by omega))
      · skip
        refine Go.bipush (v := 9) d_Law_list_928 rfl (by decide) ?_
        refine Go.goto (t := 935) d_Law_list_930 (by decide) ?_
        exact Go.lbel d_Law_list_935 rfl (n := 9) rfl (by omega) (by omega) rfl (fun y by_ => hkk y (by omega))
    refine Go.lwst d_Law_list_938 rfl hs hsim (i := y1) rfl (by omega) (fun h B hs e1 hc1 hw1 hsim e7 => ?_)
    have hr := e1.trans hr
    have hc := hc1.trans hc
    rw [hw, ← wF_snoc (a := (y1, y5))] at hw1
    have hw := hw1
    refine Go.aload_1 d_Law_list_939 rfl ?_
    refine Go.ldcS d_Law_list_940 rfl rfl (hls.t180).1 ?_
    refine Go.lapp d_Law_list_942 rfl hk hp hs (Or.inl (hls.t180).2) LB_tx180 (by simp only [List.length_append, List.length_nil, len_tx35, len_tx48, len_tx50, len_tx52, len_tx54, len_tx56, len_tx58, len_tx60, len_tx62, len_tx64, len_tx66, len_tx68, len_tx70, len_tx72, len_tx74, len_tx76, len_tx78, len_tx80, len_tx82, len_tx84, len_tx86, len_tx88, len_tx90, len_tx92, len_tx94, len_tx96, len_tx98, len_tx100, len_tx102, len_tx104, len_tx106, len_tx108, len_tx110, len_tx112, len_tx114, len_tx135, len_tx137, len_tx139, len_tx141, len_tx143, len_tx148, len_tx150, len_tx152, len_tx157, len_tx159, len_tx161, len_tx166, len_tx168, len_tx173, len_tx175, len_tx180, len_tx182, len_tx187, len_tx189, len_tx191, len_tx193, len_tx195, len_tx197, len_tx203, len_tx208]; omega) (by omega) (by omega) rfl (fun h z hs => ?_)
    refine Go.iload_7 d_Law_list_945 rfl ?_
    have g6 := dec_2 (show y1 < 100 by omega)
    have g7 := dec_1 (show y1 < 10 by omega)
    refine Go.lappI (v := y1) d_Law_list_947 rfl hk hp hdg hs (by omega) (by simp only [List.length_append, List.length_nil, len_tx35, len_tx48, len_tx50, len_tx52, len_tx54, len_tx56, len_tx58, len_tx60, len_tx62, len_tx64, len_tx66, len_tx68, len_tx70, len_tx72, len_tx74, len_tx76, len_tx78, len_tx80, len_tx82, len_tx84, len_tx86, len_tx88, len_tx90, len_tx92, len_tx94, len_tx96, len_tx98, len_tx100, len_tx102, len_tx104, len_tx106, len_tx108, len_tx110, len_tx112, len_tx114, len_tx135, len_tx137, len_tx139, len_tx141, len_tx143, len_tx148, len_tx150, len_tx152, len_tx157, len_tx159, len_tx161, len_tx166, len_tx168, len_tx173, len_tx175, len_tx180, len_tx182, len_tx187, len_tx189, len_tx191, len_tx193, len_tx195, len_tx197, len_tx203, len_tx208]; omega) (by omega) (by omega) rfl (fun h z hs => ?_)
    refine Go.ldcS d_Law_list_950 rfl rfl (hls.t182).1 ?_
    refine Go.lapp d_Law_list_952 rfl hk hp hs (Or.inl (hls.t182).2) LB_tx182 (by simp only [List.length_append, List.length_nil, len_tx35, len_tx48, len_tx50, len_tx52, len_tx54, len_tx56, len_tx58, len_tx60, len_tx62, len_tx64, len_tx66, len_tx68, len_tx70, len_tx72, len_tx74, len_tx76, len_tx78, len_tx80, len_tx82, len_tx84, len_tx86, len_tx88, len_tx90, len_tx92, len_tx94, len_tx96, len_tx98, len_tx100, len_tx102, len_tx104, len_tx106, len_tx108, len_tx110, len_tx112, len_tx114, len_tx135, len_tx137, len_tx139, len_tx141, len_tx143, len_tx148, len_tx150, len_tx152, len_tx157, len_tx159, len_tx161, len_tx166, len_tx168, len_tx173, len_tx175, len_tx180, len_tx182, len_tx187, len_tx189, len_tx191, len_tx193, len_tx195, len_tx197, len_tx203, len_tx208]; omega) (by omega) (by omega) rfl (fun h z hs => ?_)
    refine Go.aload_2 d_Law_list_955 rfl ?_
    refine Go.lgetw d_Law_list_956 rfl f_Law_177 hs hsim ?_
    refine Go.iload_7 d_Law_list_959 rfl ?_
    refine Go.lwld d_Law_list_961 rfl hs (i := y1) rfl (by omega) (x := nI (y5)) (by rw [hw, wF_snoc]; exact if_pos rfl) ?_
    have g8 := dec_2 (show y5 < 100 by omega)
    refine Go.lappI (v := y5) d_Law_list_962 rfl hk hp hdg hs (by omega) (by simp only [List.length_append, List.length_nil, len_tx35, len_tx48, len_tx50, len_tx52, len_tx54, len_tx56, len_tx58, len_tx60, len_tx62, len_tx64, len_tx66, len_tx68, len_tx70, len_tx72, len_tx74, len_tx76, len_tx78, len_tx80, len_tx82, len_tx84, len_tx86, len_tx88, len_tx90, len_tx92, len_tx94, len_tx96, len_tx98, len_tx100, len_tx102, len_tx104, len_tx106, len_tx108, len_tx110, len_tx112, len_tx114, len_tx135, len_tx137, len_tx139, len_tx141, len_tx143, len_tx148, len_tx150, len_tx152, len_tx157, len_tx159, len_tx161, len_tx166, len_tx168, len_tx173, len_tx175, len_tx180, len_tx182, len_tx187, len_tx189, len_tx191, len_tx193, len_tx195, len_tx197, len_tx203, len_tx208]; omega) (by omega) (by omega) rfl (fun h z hs => ?_)
    refine Go.ldcS d_Law_list_965 rfl rfl (hls.t141).1 ?_
    refine Go.lapp d_Law_list_967 rfl hk hp hs (Or.inl (hls.t141).2) LB_tx141 (by simp only [List.length_append, List.length_nil, len_tx35, len_tx48, len_tx50, len_tx52, len_tx54, len_tx56, len_tx58, len_tx60, len_tx62, len_tx64, len_tx66, len_tx68, len_tx70, len_tx72, len_tx74, len_tx76, len_tx78, len_tx80, len_tx82, len_tx84, len_tx86, len_tx88, len_tx90, len_tx92, len_tx94, len_tx96, len_tx98, len_tx100, len_tx102, len_tx104, len_tx106, len_tx108, len_tx110, len_tx112, len_tx114, len_tx135, len_tx137, len_tx139, len_tx141, len_tx143, len_tx148, len_tx150, len_tx152, len_tx157, len_tx159, len_tx161, len_tx166, len_tx168, len_tx173, len_tx175, len_tx180, len_tx182, len_tx187, len_tx189, len_tx191, len_tx193, len_tx195, len_tx197, len_tx203, len_tx208]; omega) (by omega) (by omega) rfl (fun h z hs => ?_)
    refine Go.pop d_Law_list_970 rfl rfl ?_
    refine Go.iinc_6 (v := nI (i + 1)) d_Law_list_971 rfl (by rfl) (nI_inc _) ?_
    refine Go.goto (t := 868) d_Law_list_974 (by decide) ?_
    refine Go.fgt [some (.ref sa), some (.ref b), some (.ref sim), some (.int (nI nb)), none, some (.int (nI m)), some (.int (nI (i + 1))), none, none, none, none, none, none] (by repeat' (first | exact trivial | refine ⟨rfl, ?_⟩)) ?_
    have et : ((((((p ++ tAll tDay l) ++ tx180) ++ dec (y1)) ++ tx182) ++ dec (y5)) ++ tx141) = p ++ tAll tDay (l ++ [(y1, y5)]) := by
      rw [tAll_snoc, hl]
      simp only [tDay, List.append_assoc]
    rw [et] at hs
    exact ih (i + 1) (l ++ [(y1, y5)]) h _ _ _ (by omega) (len_snoc hl) (all_snoc hok (by unfold okDay; dsimp only; omega)) ⟨B, hs, hr, hc, hw, hsim⟩ (by omega) (by omega)
