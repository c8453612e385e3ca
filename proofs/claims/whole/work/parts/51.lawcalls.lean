/-! the law: its calls one by one; R is what ties the class's state to the reference's -/
abbrev RelT : Type := Nat → TA → GL → TM → FM → CP → MO → SH → SX → Prop
/-- what is wanted of the reckonings alone: that each call answers alike on both sides, and keeps R -/
structure PureOK (R : RelT) : Prop where
  bnd : ∀ {n : Nat} {A : TA} {σ : GL} {T : TM} {F : FM} {P : CP} {M : MO} {H : SH} {Y : SX}, R n A σ T F P M H Y → ta_sz A ≤ 2000 ∧ T.2 ≤ 20 ∧ WFG σ ∧ mo_sz M ≤ 2000 ∧ sh_ha H 0 ≤ 5 ∧ sh_ha H 3 ≤ 6 ∧ sh_ha H 6 ≤ 4 ∧ sh_ha H 9 ≤ 4 ∧ sh_ha H 11 ≤ 4 ∧ sh_or H ≤ 20 ∧ sx_dy Y < 1000000
  feed : ∀ {n : Nat} {A : TA} {K : TK} {σ τ : GL} {T : TM} {F : FM} {U : TM} {G : FM} {P : CP} {M : MO} {H : SH} {Y : SX} {x1 : Int32} {x2 : Int32} {x3 : Int32} {x4 : Int32} {x5 : Int32}, n < 512 → R n A σ T F P M H Y → WFG τ → U.2 ≤ 20 → mo_th (s_Model_feed M H Y x1 x2 x3 x4 x5).2 = (if (s_Camp_feed A K σ τ T F U G P x1 x2 x3 x4 x5).1 = 0 then 0 else 1) ∧ ((s_Camp_feed A K σ τ T F U G P x1 x2 x3 x4 x5).1 = 0 → (nI (s_Camp_feed A K σ τ T F U G P x1 x2 x3 x4 x5).2.1) = (s_Model_feed M H Y x1 x2 x3 x4 x5).1) ∧ R (n + 1) (s_Camp_feed A K σ τ T F U G P x1 x2 x3 x4 x5).2.2 σ T F P (s_Model_feed M H Y x1 x2 x3 x4 x5).2 H Y
  trim : ∀ {n : Nat} {A : TA} {K : TK} {σ τ : GL} {T : TM} {F : FM} {U : TM} {G : FM} {P : CP} {M : MO} {H : SH} {Y : SX} {x1 : Nat}, n < 512 → R n A σ T F P M H Y → WFG τ → U.2 ≤ 20 → x1 < 2 ^ 31 → mo_th (s_Model_trim M H Y x1).2 = (if (s_Camp_trim A K σ τ T F U G P x1).1 = 0 then 0 else 1) ∧ ((s_Camp_trim A K σ τ T F U G P x1).1 = 0 → (s_Camp_trim A K σ τ T F U G P x1).2.1 = (s_Model_trim M H Y x1).1) ∧ R (n + 1) (s_Camp_trim A K σ τ T F U G P x1).2.2 σ T F P (s_Model_trim M H Y x1).2 H Y
  trimN : ∀ {n : Nat} {A : TA} {K : TK} {σ τ : GL} {T : TM} {F : FM} {U : TM} {G : FM} {P : CP} {M : MO} {H : SH} {Y : SX} {x1 : Int32}, n < 512 → R n A σ T F P M H Y → WFG τ → U.2 ≤ 20 → x1 < 0 → mo_th (s_Model_trimN M H Y x1).2 = (if (s_Camp_trimN A K σ τ T F U G P x1).1 = 0 then 0 else 1) ∧ ((s_Camp_trimN A K σ τ T F U G P x1).1 = 0 → (s_Camp_trimN A K σ τ T F U G P x1).2.1 = (s_Model_trimN M H Y x1).1) ∧ R (n + 1) (s_Camp_trimN A K σ τ T F U G P x1).2.2 σ T F P (s_Model_trimN M H Y x1).2 H Y
  count : ∀ {n : Nat} {A : TA} {K : TK} {σ τ : GL} {T : TM} {F : FM} {U : TM} {G : FM} {P : CP} {M : MO} {H : SH} {Y : SX} {x1 : Int32}, n < 512 → R n A σ T F P M H Y → WFG τ → U.2 ≤ 20 → mo_th (s_Model_count M H Y x1).2 = (if (s_Camp_count A K σ τ T F U G P x1).1 = 0 then 0 else 1) ∧ ((s_Camp_count A K σ τ T F U G P x1).1 = 0 → (s_Camp_count A K σ τ T F U G P x1).2 = (s_Model_count M H Y x1).1) ∧ R (n + 1) A σ T F P (s_Model_count M H Y x1).2 H Y
  band : ∀ {n : Nat} {A : TA} {K : TK} {σ τ : GL} {T : TM} {F : FM} {U : TM} {G : FM} {P : CP} {M : MO} {H : SH} {Y : SX} {x1 : Int32} {x2 : Int32}, n < 512 → R n A σ T F P M H Y → WFG τ → U.2 ≤ 20 → mo_th (s_Model_band M H Y x1 x2).2 = (if (s_Camp_band A K σ τ T F U G P x1 x2).1 = 0 then 0 else 1) ∧ ((s_Camp_band A K σ τ T F U G P x1 x2).1 = 0 → (s_Camp_band A K σ τ T F U G P x1 x2).2 = (s_Model_band M H Y x1 x2).1) ∧ R (n + 1) A σ T F P (s_Model_band M H Y x1 x2).2 H Y
  stake : ∀ {n : Nat} {A : TA} {K : TK} {σ τ : GL} {T : TM} {F : FM} {U : TM} {G : FM} {P : CP} {M : MO} {H : SH} {Y : SX} {x1 : Int32} {x2 : Int32}, n < 512 → R n A σ T F P M H Y → WFG τ → U.2 ≤ 20 → mo_th (s_Model_stake M H Y x1 x2).2 = (if (s_Camp_stake A K σ τ T F U G P x1 x2).1 = 0 then 0 else 1) ∧ ((s_Camp_stake A K σ τ T F U G P x1 x2).1 = 0 → (s_Camp_stake A K σ τ T F U G P x1 x2).2 = (s_Model_stake M H Y x1 x2).1) ∧ R (n + 1) A σ T F P (s_Model_stake M H Y x1 x2).2 H Y
  crevasse : ∀ {n : Nat} {A : TA} {K : TK} {σ τ : GL} {T : TM} {F : FM} {U : TM} {G : FM} {P : CP} {M : MO} {H : SH} {Y : SX} {x1 : Int32} {x2 : Int32}, n < 512 → R n A σ T F P M H Y → WFG τ → U.2 ≤ 20 → mo_th (s_Model_crevasse M H Y x1 x2).2 = (if (s_Camp_crevasse A K σ τ T F U G P x1 x2).1 = 0 then 0 else 1) ∧ ((s_Camp_crevasse A K σ τ T F U G P x1 x2).1 = 0 → (s_Camp_crevasse A K σ τ T F U G P x1 x2).2 = (s_Model_crevasse M H Y x1 x2).1) ∧ R (n + 1) A σ T F P (s_Model_crevasse M H Y x1 x2).2 H Y
  depot : ∀ {n : Nat} {A : TA} {K : TK} {σ τ : GL} {T : TM} {F : FM} {U : TM} {G : FM} {P : CP} {M : MO} {H : SH} {Y : SX} {x1 : Int32} {x2 : Int32}, n < 512 → R n A σ T F P M H Y → WFG τ → U.2 ≤ 20 → mo_th (s_Model_depot M H Y x1 x2).2 = (if (s_Camp_depot A K σ τ T F U G P x1 x2).1 = 0 then 0 else 1) ∧ ((s_Camp_depot A K σ τ T F U G P x1 x2).1 = 0 → (s_Camp_depot A K σ τ T F U G P x1 x2).2 = (s_Model_depot M H Y x1 x2).1) ∧ R (n + 1) A σ T F P (s_Model_depot M H Y x1 x2).2 H Y
  team : ∀ {n : Nat} {A : TA} {K : TK} {σ τ : GL} {T : TM} {F : FM} {U : TM} {G : FM} {P : CP} {M : MO} {H : SH} {Y : SX} {x1 : Int32} {x2 : Int32}, n < 512 → R n A σ T F P M H Y → WFG τ → U.2 ≤ 20 → mo_th (s_Model_team M H Y x1 x2).2 = (if (s_Camp_team A K σ τ T F U G P x1 x2).1 = 0 then 0 else 1) ∧ ((s_Camp_team A K σ τ T F U G P x1 x2).1 = 0 → (s_Camp_team A K σ τ T F U G P x1 x2).2 = (s_Model_team M H Y x1 x2).1) ∧ R (n + 1) A σ T F P (s_Model_team M H Y x1 x2).2 H Y
  go : ∀ {n : Nat} {A : TA} {K : TK} {σ τ : GL} {T : TM} {F : FM} {U : TM} {G : FM} {P : CP} {M : MO} {H : SH} {Y : SX} {x1 : Int32} {x2 : Int32}, n < 512 → R n A σ T F P M H Y → WFG τ → U.2 ≤ 20 → mo_th (s_Model_go M H Y x1 x2).2.1 = (if (s_Camp_go A K σ τ T F U G P x1 x2).1 = 0 then 0 else if (s_Camp_go A K σ τ T F U G P x1 x2).1 = 1 then 1 else 2) ∧ ((s_Camp_go A K σ τ T F U G P x1 x2).1 = 0 → (s_Camp_go A K σ τ T F U G P x1 x2).2.1 = (s_Model_go M H Y x1 x2).1) ∧ R (n + 1) A (s_Camp_go A K σ τ T F U G P x1 x2).2.2 T F P (s_Model_go M H Y x1 x2).2.1 H (s_Model_go M H Y x1 x2).2.2
  probe : ∀ {n : Nat} {A : TA} {K : TK} {σ τ : GL} {T : TM} {F : FM} {U : TM} {G : FM} {P : CP} {M : MO} {H : SH} {Y : SX} {x1 : Int32} {x2 : Int32}, n < 512 → R n A σ T F P M H Y → WFG τ → U.2 ≤ 20 → mo_th (s_Model_probe M H Y x1 x2).2.1 = (if (s_Camp_probe A K σ τ T F U G P x1 x2).1 = 0 then 0 else if (s_Camp_probe A K σ τ T F U G P x1 x2).1 = 1 then 1 else 2) ∧ ((s_Camp_probe A K σ τ T F U G P x1 x2).1 = 0 → (s_Camp_probe A K σ τ T F U G P x1 x2).2.1 = (s_Model_probe M H Y x1 x2).1) ∧ R (n + 1) A (s_Camp_probe A K σ τ T F U G P x1 x2).2.2 T F P (s_Model_probe M H Y x1 x2).2.1 H (s_Model_probe M H Y x1 x2).2.2
  fill : ∀ {n : Nat} {A : TA} {K : TK} {σ τ : GL} {T : TM} {F : FM} {U : TM} {G : FM} {P : CP} {M : MO} {H : SH} {Y : SX} {x1 : Int32} {x2 : Int32}, n < 512 → R n A σ T F P M H Y → WFG τ → U.2 ≤ 20 → mo_th (s_Model_fill_0 M H Y x1 x2).2.1 = (if (s_Camp_fill A K σ τ T F U G P x1 x2).1 = 0 then 0 else if (s_Camp_fill A K σ τ T F U G P x1 x2).1 = 1 then 1 else if (s_Camp_fill A K σ τ T F U G P x1 x2).1 = 2 then 2 else 3) ∧ ((s_Camp_fill A K σ τ T F U G P x1 x2).1 = 0 → (s_Camp_fill A K σ τ T F U G P x1 x2).2.1 = (s_Model_fill_0 M H Y x1 x2).1) ∧ R (n + 1) A (s_Camp_fill A K σ τ T F U G P x1 x2).2.2 T F P (s_Model_fill_0 M H Y x1 x2).2.1 H (s_Model_fill_0 M H Y x1 x2).2.2
  stock : ∀ {n : Nat} {A : TA} {K : TK} {σ τ : GL} {T : TM} {F : FM} {U : TM} {G : FM} {P : CP} {M : MO} {H : SH} {Y : SX} {x1 : Int32} {x2 : Int32}, n < 512 → R n A σ T F P M H Y → WFG τ → U.2 ≤ 20 → mo_th (s_Model_stock M H Y x1 x2).2.1 = (if (s_Camp_stock A K σ τ T F U G P x1 x2).1 = 0 then 0 else if (s_Camp_stock A K σ τ T F U G P x1 x2).1 = 1 then 1 else 2) ∧ ((s_Camp_stock A K σ τ T F U G P x1 x2).1 = 0 → (s_Camp_stock A K σ τ T F U G P x1 x2).2.1 = (s_Model_stock M H Y x1 x2).1) ∧ R (n + 1) A (s_Camp_stock A K σ τ T F U G P x1 x2).2.2 T F P (s_Model_stock M H Y x1 x2).2.1 H (s_Model_stock M H Y x1 x2).2.2
  setWarm : ∀ {n : Nat} {A : TA} {K : TK} {σ τ : GL} {T : TM} {F : FM} {U : TM} {G : FM} {P : CP} {M : MO} {H : SH} {Y : SX} {x1 : Int32} {x2 : Int32}, n < 512 → R n A σ T F P M H Y → WFG τ → U.2 ≤ 20 → mo_th (s_Model_setWarm M H Y x1 x2).2.1 = (if (s_Camp_setWarm A K σ τ T F U G P x1 x2).1 = 0 then 0 else if (s_Camp_setWarm A K σ τ T F U G P x1 x2).1 = 1 then 1 else 2) ∧ ((s_Camp_setWarm A K σ τ T F U G P x1 x2).1 = 0 → (s_Camp_setWarm A K σ τ T F U G P x1 x2).2.1 = (s_Model_setWarm M H Y x1 x2).1) ∧ R (n + 1) A (s_Camp_setWarm A K σ τ T F U G P x1 x2).2.2 T F P (s_Model_setWarm M H Y x1 x2).2.1 H (s_Model_setWarm M H Y x1 x2).2.2
  pass : ∀ {n : Nat} {A : TA} {K : TK} {σ τ : GL} {T : TM} {F : FM} {U : TM} {G : FM} {P : CP} {M : MO} {H : SH} {Y Ah : SX} {ow : Nat} {x1 : Int32}, n < 512 → R n A σ T F P M H Y → WFG τ → U.2 ≤ 20 → ∃ p, (s_Model_pass M H Y Ah ow x1) = some p ∧ mo_th p.2.1 = (if (s_Camp_pass A K σ τ T F U G P x1).1 = 0 then 0 else 1) ∧ ((s_Camp_pass A K σ τ T F U G P x1).1 = 0 → (s_Camp_pass A K σ τ T F U G P x1).2.1 = p.1) ∧ R (n + 1) A (s_Camp_pass A K σ τ T F U G P x1).2.2.1 T (s_Camp_pass A K σ τ T F U G P x1).2.2.2 P p.2.1 H p.2.2.1
  melt : ∀ {n : Nat} {A : TA} {K : TK} {σ τ : GL} {T : TM} {F : FM} {U : TM} {G : FM} {P : CP} {M : MO} {H : SH} {Y : SX} {x1 : Int32} {x2 : Int32}, n < 512 → R n A σ T F P M H Y → WFG τ → U.2 ≤ 20 → mo_th (s_Model_melt_0 M H Y x1 x2).2 = (if (s_Camp_melt A K σ τ T F U G P x1 x2).1 = 0 then 0 else if (s_Camp_melt A K σ τ T F U G P x1 x2).1 = 1 then 1 else 2) ∧ ((s_Camp_melt A K σ τ T F U G P x1 x2).1 = 0 → (s_Camp_melt A K σ τ T F U G P x1 x2).2 = (s_Model_melt_0 M H Y x1 x2).1) ∧ R (n + 1) A σ T F P (s_Model_melt_0 M H Y x1 x2).2 H Y
  until : ∀ {n : Nat} {A : TA} {K : TK} {σ τ : GL} {T : TM} {F : FM} {U : TM} {G : FM} {P : CP} {M : MO} {H : SH} {Y Ah : SX} {ow : Nat} {x1 : Int32}, n < 512 → R n A σ T F P M H Y → WFG τ → U.2 ≤ 20 → ∃ p, (s_Model_until M H Y Ah ow x1) = some p ∧ mo_th p.2.1 = (if (s_Camp_until A K σ τ T F U G P x1).1 = 0 then 0 else 1) ∧ ((s_Camp_until A K σ τ T F U G P x1).1 = 0 → (s_Camp_until A K σ τ T F U G P x1).2.1 = p.1) ∧ R (n + 1) A σ T (s_Camp_until A K σ τ T F U G P x1).2.2.2 P p.2.1 H Y ∧ WFG (s_Camp_until A K σ τ T F U G P x1).2.2.1
  foresee : ∀ {n : Nat} {A : TA} {K : TK} {σ τ : GL} {T : TM} {F : FM} {U : TM} {G : FM} {P : CP} {M : MO} {H : SH} {Y Ah : SX} {ow : Nat} {x1 : Int32} {x2 : Int32}, n < 512 → R n A σ T F P M H Y → WFG τ → U.2 ≤ 20 → ∃ p, (s_Model_foresee M H Y Ah ow x1 x2) = some p ∧ mo_th p.2.1 = (if (s_Camp_foresee A K σ τ T F U G P x1 x2).1 = 0 then 0 else if (s_Camp_foresee A K σ τ T F U G P x1 x2).1 = 2 then 1 else 2) ∧ ((s_Camp_foresee A K σ τ T F U G P x1 x2).1 = 0 → (s_Camp_foresee A K σ τ T F U G P x1 x2).2.1 = p.1) ∧ R (n + 1) A σ T (s_Camp_foresee A K σ τ T F U G P x1 x2).2.2.2 P p.2.1 H Y ∧ WFG (s_Camp_foresee A K σ τ T F U G P x1 x2).2.2.1
  safe : ∀ {n : Nat} {A : TA} {K : TK} {σ τ : GL} {T : TM} {F : FM} {U : TM} {G : FM} {P : CP} {M : MO} {H : SH} {Y : SX} {x1 : Int32} {x2 : Int32}, n < 512 → R n A σ T F P M H Y → WFG τ → U.2 ≤ 20 → mo_th (s_Model_safe M H Y x1 x2).2 = (if (s_Camp_safe A K σ τ T F U G P x1 x2).1 = 0 then 0 else 1) ∧ ((s_Camp_safe A K σ τ T F U G P x1 x2).1 = 0 → (s_Camp_safe A K σ τ T F U G P x1 x2).2 = (s_Model_safe M H Y x1 x2).1) ∧ R (n + 1) A σ T F P (s_Model_safe M H Y x1 x2).2 H Y
  advise : ∀ {n : Nat} {A : TA} {K : TK} {σ τ : GL} {T : TM} {F : FM} {U : TM} {G : FM} {P : CP} {M : MO} {H : SH} {Y Ah : SX} {ow : Nat} {x1 : Int32} {x2 : Int32}, n < 512 → R n A σ T F P M H Y → WFG τ → U.2 ≤ 20 → ∃ p, (s_Model_advise M H Y Ah ow x1 x2) = some p ∧ mo_th p.2.1 = (if (s_Camp_advise A K σ τ T F U G P x1 x2).1 = 0 then 0 else if (s_Camp_advise A K σ τ T F U G P x1 x2).1 = 1 then 1 else if (s_Camp_advise A K σ τ T F U G P x1 x2).1 = 2 then 2 else 3) ∧ ((s_Camp_advise A K σ τ T F U G P x1 x2).1 = 0 → (s_Camp_advise A K σ τ T F U G P x1 x2).2.1 = p.1) ∧ R (n + 1) A σ T (s_Camp_advise A K σ τ T F U G P x1 x2).2.2.2 P p.2.1 H Y ∧ WFG (s_Camp_advise A K σ τ T F U G P x1 x2).2.2.1
  teach : ∀ {n : Nat} {A : TA} {K : TK} {σ τ : GL} {T : TM} {F : FM} {U : TM} {G : FM} {P : CP} {M : MO} {H : SH} {Y : SX}, n < 512 → R n A σ T F P M H Y → WFG τ → U.2 ≤ 20 → ∃ p, s_Model_read (mo_ea' (mo_th' M 0) (-1)) sh0 = some p ∧ (p.1 ≤ 0 → sh_ha p.2.2 0 ≤ 5 ∧ sh_ha p.2.2 3 ≤ 6 ∧ sh_ha p.2.2 6 ≤ 4 ∧ sh_ha p.2.2 9 ≤ 4 ∧ sh_ha p.2.2 11 ≤ 4) ∧ ((s_Teacher_error (s_Teacher_readList (s_Tokens_readFrom A K) (s_Orders_clear U G).2 (0, -1) new_nm new_nm new_nm new_nm new_nm (s_Orders_clear U G).1 (s_Glacier_beginAnew τ (s_Glacier_day σ))).1 (s_Teacher_readList (s_Tokens_readFrom A K) (s_Orders_clear U G).2 (0, -1) new_nm new_nm new_nm new_nm new_nm (s_Orders_clear U G).1 (s_Glacier_beginAnew τ (s_Glacier_day σ))).2.2.1) = 0 → p.1 ≤ 0 ∧ R (n + 1) (s_Tape_cut A 0) (s_Teacher_readList (s_Tokens_readFrom A K) (s_Orders_clear U G).2 (0, -1) new_nm new_nm new_nm new_nm new_nm (s_Orders_clear U G).1 (s_Glacier_beginAnew τ (s_Glacier_day σ))).2.2.2.2.2.2.2.2.2 (s_Teacher_readList (s_Tokens_readFrom A K) (s_Orders_clear U G).2 (0, -1) new_nm new_nm new_nm new_nm new_nm (s_Orders_clear U G).1 (s_Glacier_beginAnew τ (s_Glacier_day σ))).2.2.2.2.2.2.2.2.1 (s_Teacher_readList (s_Tokens_readFrom A K) (s_Orders_clear U G).2 (0, -1) new_nm new_nm new_nm new_nm new_nm (s_Orders_clear U G).1 (s_Glacier_beginAnew τ (s_Glacier_day σ))).2.1 (cp_ep' P (s_Teacher_errorPosition (s_Teacher_readList (s_Tokens_readFrom A K) (s_Orders_clear U G).2 (0, -1) new_nm new_nm new_nm new_nm new_nm (s_Orders_clear U G).1 (s_Glacier_beginAnew τ (s_Glacier_day σ))).1 (s_Teacher_readList (s_Tokens_readFrom A K) (s_Orders_clear U G).2 (0, -1) new_nm new_nm new_nm new_nm new_nm (s_Orders_clear U G).1 (s_Glacier_beginAnew τ (s_Glacier_day σ))).2.2.1)) (mo_sz' p.2.1 0) p.2.2 (s_Model_begin p.2.2 Y)) ∧ (¬ (s_Teacher_error (s_Teacher_readList (s_Tokens_readFrom A K) (s_Orders_clear U G).2 (0, -1) new_nm new_nm new_nm new_nm new_nm (s_Orders_clear U G).1 (s_Glacier_beginAnew τ (s_Glacier_day σ))).1 (s_Teacher_readList (s_Tokens_readFrom A K) (s_Orders_clear U G).2 (0, -1) new_nm new_nm new_nm new_nm new_nm (s_Orders_clear U G).1 (s_Glacier_beginAnew τ (s_Glacier_day σ))).2.2.1) = 0 → ¬ p.1 ≤ 0 ∧ (s_Teacher_error (s_Teacher_readList (s_Tokens_readFrom A K) (s_Orders_clear U G).2 (0, -1) new_nm new_nm new_nm new_nm new_nm (s_Orders_clear U G).1 (s_Glacier_beginAnew τ (s_Glacier_day σ))).1 (s_Teacher_readList (s_Tokens_readFrom A K) (s_Orders_clear U G).2 (0, -1) new_nm new_nm new_nm new_nm new_nm (s_Orders_clear U G).1 (s_Glacier_beginAnew τ (s_Glacier_day σ))).2.2.1) = p.1 ∧ R (n + 1) (s_Tape_cut A 0) σ T F (cp_ep' P (s_Teacher_errorPosition (s_Teacher_readList (s_Tokens_readFrom A K) (s_Orders_clear U G).2 (0, -1) new_nm new_nm new_nm new_nm new_nm (s_Orders_clear U G).1 (s_Glacier_beginAnew τ (s_Glacier_day σ))).1 (s_Teacher_readList (s_Tokens_readFrom A K) (s_Orders_clear U G).2 (0, -1) new_nm new_nm new_nm new_nm new_nm (s_Orders_clear U G).1 (s_Glacier_beginAnew τ (s_Glacier_day σ))).2.2.1)) (mo_sz' p.2.1 0) H Y) ∧ WFG (s_Teacher_readList (s_Tokens_readFrom A K) (s_Orders_clear U G).2 (0, -1) new_nm new_nm new_nm new_nm new_nm (s_Orders_clear U G).1 (s_Glacier_beginAnew τ (s_Glacier_day σ))).2.2.2.2.2.2.2.2.2 ∧ (s_Teacher_readList (s_Tokens_readFrom A K) (s_Orders_clear U G).2 (0, -1) new_nm new_nm new_nm new_nm new_nm (s_Orders_clear U G).1 (s_Glacier_beginAnew τ (s_Glacier_day σ))).2.2.2.2.2.2.2.2.1.2 ≤ 20
  errorAt : ∀ {n : Nat} {A : TA} {K : TK} {σ τ : GL} {T : TM} {F : FM} {U : TM} {G : FM} {P : CP} {M : MO} {H : SH} {Y : SX}, n < 512 → R n A σ T F P M H Y → (s_Camp_errorAt A K σ τ T F U G P) = (s_Model_errorAt M H Y).1 ∧ R (n + 1) A σ T F P (s_Model_errorAt M H Y).2 H Y
  mean : ∀ {n : Nat} {A : TA} {K : TK} {σ τ : GL} {T : TM} {F : FM} {U : TM} {G : FM} {P : CP} {M : MO} {H : SH} {Y : SX}, n < 512 → R n A σ T F P M H Y → (s_Camp_mean A K σ τ T F U G P) = (s_Model_mean M H Y).1 ∧ vf_n64 (s_Model_mean M H Y).1 ∧ (¬ nI (gN σ 0) ≤ 0 → vf_n64 (FP.ddiv (FP.i2d (gSum σ 0 1)) (FP.i2d (nI (gN σ 0))))) ∧ (¬ (nI (sh_ha H 0)) = 0 → vf_n64 (FP.ddiv (FP.i2d (l_Model_mean_9 (mo_th' M 0) H Y (sh_ha H 0) 0 0)) (FP.i2d (nI (sh_ha H 0))))) ∧ R (n + 1) A σ T F P (s_Model_mean M H Y).2 H Y
  digest : ∀ {n : Nat} {A : TA} {K : TK} {σ τ : GL} {T : TM} {F : FM} {U : TM} {G : FM} {P : CP} {M : MO} {H : SH} {Y : SX}, n < 512 → R n A σ T F P M H Y → (s_Camp_digest A K σ τ T F U G P) = (s_Model_digest M H Y).1 ∧ R (n + 1) A σ T F P (s_Model_digest M H Y).2 H Y
  none : ∀ {n : Nat} {A : TA} {σ : GL} {T : TM} {F : FM} {P : CP} {M : MO} {H : SH} {Y : SX}, n < 512 → R n A σ T F P M H Y → R (n + 1) A σ T F P M H Y
structure ST (Γ : G9) (sg tx wd ms : Nat → Nat) (sw sa wa sn b L : Nat) (xs : Nat → Int32) : Prop where
  hs : SgOk Γ sg
  hsn : SgNe sg
  hw : SwOk Γ sw
  hms : MsOk Γ ms
  hth : ThOk Γ
  hnc : NcOk Γ
  hcs : CsOk Γ
  htx : TxOk Γ sg tx
  hsa : SaOk Γ sg sa
  hwd : WdOk Γ wa wd
  hsg : SnOk Γ sn
  hao : AoOk Γ
  hsc : ScOk Γ b L xs
structure LF (R : RelT) (Γ : G9) (c m r r2 w n z : Nat) (h : AH) (f : Nat → Int64) (g g2 o o2 q : Nat) (A : TA) (σ τ : GL) (T : TM) (F : FM) (U : TM) (P : CP) (M : MO) (H : SH) (Y : SX) : Prop where
  geo : c + 7 ≤ g ∧ c + 7 ≤ g2 ∧ (g + 12 ≤ g2 ∨ g2 + 12 ≤ g) ∧ g + 12 ≤ o ∧ g + 12 ≤ o2 ∧ g2 + 12 ≤ o ∧ g2 + 12 ≤ o2 ∧ (o + 7 ≤ o2 ∨ o2 + 7 ≤ o) ∧ o + 7 ≤ m ∧ o2 + 7 ≤ m ∧ m + 2 ≤ q ∧ m + 2 ≤ r ∧ r + 21 ≤ r2 ∧ r2 + 21 ≤ w ∧ (q + 24 ≤ r ∨ w + 1 ≤ q)
  hz : q + 24 ≤ z ∧ w + 1 ≤ z
  hw0 : h w = some (aJ Γ 1 f)
  ho : h o = some (.inr (3, [.ref (o + 1), .ref (o + 3)]))
  ho2 : h o2 = some (.inr (3, [.ref (o2 + 1), .ref (o2 + 3)]))
  rel : R n A σ T F P M H Y
  hV : WFG τ
  hU : U.2 ≤ 20
/-- the loop's head, n calls being done -/
def LHead (R : RelT) (Γ : G9) (sg : Nat → Nat) (b c m r r2 w : Nat) (Q : QT) (n i C S : Nat) : Prop := ∀ (z : Nat) (h : AH) (f : Nat → Int64) (g g2 o o2 q : Nat) (A : TA) (K : TK) (σ τ : GL) (T : TM) (F : FM) (U : TM) (G : FM) (P : CP) (M : MO) (H : SH) (Y Ah : SX) (ow : Nat), LF R Γ c m r r2 w n z h f g g2 o o2 q A σ τ T F U P M H Y → Go Γ M_law 200 C S 23 [some (.ref b), some (.ref c), some (.ref m), some (.ref w), some (.int (nI i)), none, none, none, none] [] (cw_ Γ sg (mf_ Γ h m q r r2 M H Y Ah ow) c g g2 o o2 A K σ τ T F U G P) z Q noX
set_option maxRecDepth 100000 in
set_option maxHeartbeats 800000 in
theorem lc_count {R : RelT} {Γ : G9} {sg tx wd ms : Nat → Nat} {sw sa wa sn b L : Nat} {xs : Nat → Int32} {c m r r2 w n i z C S g g2 o o2 q : Nat} {h : AH} {f : Nat → Int64} {Q : QT} {A : TA} {K : TK} {σ τ : GL} {T : TM} {F : FM} {U : TM} {G : FM} {P : CP} {M : MO} {H : SH} {Y Ah : SX} {ow : Nat} (hst : ST Γ sg tx wd ms sw sa wa sn b L xs) (hp : PureOK R) (hi : i + 6 ≤ L) (hL : L ≤ 3072) (hn : n < 512) (k : LHead R Γ sg b c m r r2 w Q (n + 1) (i + 6) C S) (lf : LF R Γ c m r r2 w n z h f g g2 o o2 q A σ τ T F U P M H Y) : Go Γ M_law 200 (C + 40) (S + 2000) 334 [some (.ref b), some (.ref c), some (.ref m), some (.ref w), some (.int (nI i)), none, none, none, none] [] (cw_ Γ sg (mf_ Γ h m q r r2 M H Y Ah ow) c g g2 o o2 A K σ τ T F U G P) z Q noX := by
  obtain ⟨geo, hz, hw0, ho, ho2, rel, hV, hU⟩ := lf
  obtain ⟨hA, hT, hW, hsz, hB, hS, hC, hD, hE, hO, hdy⟩ := hp.bnd rel
  have pf := hp.count (K := K) (τ := τ) (U := U) (G := G) (x1 := (xs (i + 1))) hn rel hV hU
  obtain ⟨hth, hv, hrel⟩ := pf
  refine Go.aload_1 d_law_334 rfl ?_
  refine Go.aload_0 d_law_335 rfl ?_
  refine Go.iload_4 d_law_336 rfl ?_
  refine Go.iconst (v := 1) d_law_338 rfl (by decide) ?_
  refine Go.iadd d_law_339 rfl ?_
  rw [show nI i + 1 = nI (i + 1) from nI_add _ _]
  refine Go.sld d_law_340 rfl hst.hsc (vp_in_nI (by omega) (by omega)) ?_
  rw [nI_clamp (show i + 1 < 2 ^ 31 by omega)]
  refine Go.aload_3 d_law_341 rfl ?_
  refine Go.callSW (C1 := C + 36) (S1 := S + 1976) (as := [.ref c, .int (xs (i + 1)), .ref w]) d_law_342 rfl l_Law_103 k_Law_count_s (List.cons_ne_nil _ _) rfl rfl (w_count hst.hs hst.hsn hst.hw (by omega) hA ((mf_outlo (by omega)).trans ho) ((mf_outlo (by omega)).trans ho2) hT hU hW hV hst.hms hst.hth ((mf_outw (by omega)).trans hw0) hst.hnc) (by decide) (by decide) (by omega) (by omega) (Nat.le_of_ble_eq_true rfl) (fun E h9 z9 hx _ => hx.elim) (fun v9 h9 z9 hx hz9 => ?_)
  obtain ⟨hz1, hx⟩ := hx
  obtain ⟨f1, rfl, rfl, hf⟩ := wr_uni (F := fun hh => (cw_ Γ sg hh c g g2 o o2 A K σ τ T F U G P)) ((mf_outw (by omega)).trans hw0) hx
  refine Go.heq (h' := (cw_ Γ sg (mf_ Γ (hup h w (aJ Γ 1 f1)) m q r r2 M H Y Ah ow) c g g2 o o2 A K σ τ T F U G P)) (congrArg (fun hh => (cw_ Γ sg hh c g g2 o o2 A K σ τ T F U G P)) (mf_hup geo)) ?_
  have ho : (hup h w (aJ Γ 1 f1)) o = _ := (hup_ne (by omega)).trans ho
  have ho2 : (hup h w (aJ Γ 1 f1)) o2 = _ := (hup_ne (by omega)).trans ho2
  refine Go.istore_5 d_law_345 rfl (by rfl) ?_
  refine Go.aload_2 d_law_347 rfl ?_
  refine Go.aload_0 d_law_348 rfl ?_
  refine Go.iload_4 d_law_349 rfl ?_
  refine Go.iconst (v := 1) d_law_351 rfl (by decide) ?_
  refine Go.iadd d_law_352 rfl ?_
  rw [show nI i + 1 = nI (i + 1) from nI_add _ _]
  refine Go.sld d_law_353 rfl hst.hsc (vp_in_nI (by omega) (by omega)) ?_
  rw [nI_clamp (show i + 1 < 2 ^ 31 by omega)]
  refine Go.heq (lw_s geo) ?_
  refine Go.cv1r d_law_354 rfl l_Law_105 k_Model_count_v (ms_at_m (by omega) hB hS hC hD hE) rfl (c_Model_count (by omega) hB hS hC hD hE hdy) (by rfl) rfl rfl ?_
  refine Go.heq (lw_s geo).symm ?_
  refine Go.istore_6 d_law_357 rfl (by rfl) ?_
  refine Go.aload_2 d_law_359 rfl ?_
  refine Go.heq (lw_s geo) ?_
  refine Go.cv0r d_law_360 rfl l_Law_87 k_Model_thrown_v (ms_at_m (by omega) hB hS hC hD hE) rfl (c_Model_thrown (by omega) hB hS hC hD hE) (by rfl) rfl rfl ?_
  refine Go.heq (lw_s geo).symm ?_
  refine Go.iload_5 d_law_363 rfl ?_
  refine Go.icmp_eq (t := 370) d_law_365 (by decide) rfl (fun _ => ?_) (fun ne => absurd hth ne)
  refine Go.iload_5 d_law_370 rfl ?_
  refine Go.if_ne (t := 387) d_law_372 (by decide) rfl (fun c5 => ?_) (fun c5 => ?_)
  · refine Go.goto (t := 1548) d_law_387 (by decide) ?_
    refine Go.iinc_4 d_law_1548 rfl (by rfl) nI_inc6 ?_
    refine Go.goto (t := 23) d_law_1551 (by decide) ?_
    refine Go.fgt [some (.ref b), some (.ref c), some (.ref m), some (.ref w), some (.int (nI (i + 6))), none, none, none, none] (by repeat' (first | exact trivial | refine ⟨rfl, ?_⟩)) ?_
    exact Go.room (k _ _ _ _ _ _ _ _ _ _ _ _ _ _ _ _ _ _ _ _ _ _ ⟨geo, by omega, hup_at, ho, ho2, hrel, hV, hU⟩) (Nat.le_refl _) (by omega) (by omega)
  · have ht : (s_Camp_count A K σ τ T F U G P (xs (i + 1))).1 = 0 := Classical.byContradiction fun w9 => by
      rw [if_neg w9] at c5
      exact absurd c5 (by decide)
    refine Go.aload_3 d_law_375 rfl ?_
    refine Go.iconst (v := 0) d_law_376 rfl (by decide) ?_
    refine Go.laload d_law_377 rfl ((cw_outu (by omega)).trans ((mf_outw (by omega)).trans hup_at)) (show vp_in (nI 0) 1 from vp_in_nI (by decide) (by decide)) ?_
    rw [show (0 : Int32).toNatClampNeg = 0 from by decide, hf ht]
    refine Go.iload_6 d_law_378 rfl ?_
    refine Go.i2l d_law_380 rfl ?_
    refine Go.lcmp d_law_381 rfl ?_
    rw [hv ht, lg_self]
    refine Go.if_eq (t := 387) d_law_382 (by decide) rfl (fun _ => ?_) (fun ne => absurd rfl ne)
    refine Go.goto (t := 1548) d_law_387 (by decide) ?_
    refine Go.iinc_4 d_law_1548 rfl (by rfl) nI_inc6 ?_
    refine Go.goto (t := 23) d_law_1551 (by decide) ?_
    refine Go.fgt [some (.ref b), some (.ref c), some (.ref m), some (.ref w), some (.int (nI (i + 6))), none, none, none, none] (by repeat' (first | exact trivial | refine ⟨rfl, ?_⟩)) ?_
    exact Go.room (k _ _ _ _ _ _ _ _ _ _ _ _ _ _ _ _ _ _ _ _ _ _ ⟨geo, by omega, hup_at, ho, ho2, hrel, hV, hU⟩) (Nat.le_refl _) (by omega) (by omega)
