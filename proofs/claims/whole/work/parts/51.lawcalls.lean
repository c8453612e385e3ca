/-! the law: its calls one by one; R is what ties the class's state to the reference's -/
abbrev RelT : Type := Nat → TA → GL → TM → FM → CP → MO → SH → SX → Prop
def PK_bnd (R : RelT) : Prop := ∀ {n : Nat} {A : TA} {σ : GL} {T : TM} {F : FM} {P : CP} {M : MO} {H : SH} {Y : SX}, R n A σ T F P M H Y → ta_sz A ≤ 2000 ∧ T.2 ≤ 20 ∧ WFG σ ∧ mo_sz M ≤ 2000 ∧ sh_ha H 0 ≤ 5 ∧ sh_ha H 3 ≤ 6 ∧ sh_ha H 6 ≤ 4 ∧ sh_ha H 9 ≤ 4 ∧ sh_ha H 11 ≤ 4 ∧ sh_or H ≤ 20 ∧ sx_dy Y < 1000000
def PK_p_feed (R : RelT) : Prop := ∀ {n : Nat} {A : TA} {K : TK} {σ τ : GL} {T : TM} {F : FM} {U : TM} {G : FM} {P : CP} {M : MO} {H : SH} {Y : SX} {x1 : Int32} {x2 : Int32} {x3 : Int32} {x4 : Int32} {x5 : Int32}, n < 512 → R n A σ T F P M H Y → WFG τ → U.2 ≤ 20 → mo_th (s_Model_feed M H Y x1 x2 x3 x4 x5).2 = (if (s_Camp_feed A K σ τ T F U G P x1 x2 x3 x4 x5).1 = 0 then 0 else 1) ∧ ((s_Camp_feed A K σ τ T F U G P x1 x2 x3 x4 x5).1 = 0 → (nI (s_Camp_feed A K σ τ T F U G P x1 x2 x3 x4 x5).2.1) = (s_Model_feed M H Y x1 x2 x3 x4 x5).1) ∧ R (n + 1) (s_Camp_feed A K σ τ T F U G P x1 x2 x3 x4 x5).2.2 σ T F P (s_Model_feed M H Y x1 x2 x3 x4 x5).2 H Y
def PK_p_trim (R : RelT) : Prop := ∀ {n : Nat} {A : TA} {K : TK} {σ τ : GL} {T : TM} {F : FM} {U : TM} {G : FM} {P : CP} {M : MO} {H : SH} {Y : SX} {x1 : Nat}, n < 512 → R n A σ T F P M H Y → WFG τ → U.2 ≤ 20 → x1 < 2 ^ 31 → mo_th (s_Model_trim M H Y x1).2 = (if (s_Camp_trim A K σ τ T F U G P x1).1 = 0 then 0 else 1) ∧ ((s_Camp_trim A K σ τ T F U G P x1).1 = 0 → (s_Camp_trim A K σ τ T F U G P x1).2.1 = (s_Model_trim M H Y x1).1) ∧ R (n + 1) (s_Camp_trim A K σ τ T F U G P x1).2.2 σ T F P (s_Model_trim M H Y x1).2 H Y
def PK_p_trimN (R : RelT) : Prop := ∀ {n : Nat} {A : TA} {K : TK} {σ τ : GL} {T : TM} {F : FM} {U : TM} {G : FM} {P : CP} {M : MO} {H : SH} {Y : SX} {x1 : Int32}, n < 512 → R n A σ T F P M H Y → WFG τ → U.2 ≤ 20 → x1 < 0 → mo_th (s_Model_trimN M H Y x1).2 = (if (s_Camp_trimN A K σ τ T F U G P x1).1 = 0 then 0 else 1) ∧ ((s_Camp_trimN A K σ τ T F U G P x1).1 = 0 → (s_Camp_trimN A K σ τ T F U G P x1).2.1 = (s_Model_trimN M H Y x1).1) ∧ R (n + 1) (s_Camp_trimN A K σ τ T F U G P x1).2.2 σ T F P (s_Model_trimN M H Y x1).2 H Y
def PK_p_count (R : RelT) : Prop := ∀ {n : Nat} {A : TA} {K : TK} {σ τ : GL} {T : TM} {F : FM} {U : TM} {G : FM} {P : CP} {M : MO} {H : SH} {Y : SX} {x1 : Int32}, n < 512 → R n A σ T F P M H Y → WFG τ → U.2 ≤ 20 → mo_th (s_Model_count M H Y x1).2 = (if (s_Camp_count A K σ τ T F U G P x1).1 = 0 then 0 else 1) ∧ ((s_Camp_count A K σ τ T F U G P x1).1 = 0 → (s_Camp_count A K σ τ T F U G P x1).2 = (s_Model_count M H Y x1).1) ∧ R (n + 1) A σ T F P (s_Model_count M H Y x1).2 H Y
def PK_p_band (R : RelT) : Prop := ∀ {n : Nat} {A : TA} {K : TK} {σ τ : GL} {T : TM} {F : FM} {U : TM} {G : FM} {P : CP} {M : MO} {H : SH} {Y : SX} {x1 : Int32} {x2 : Int32}, n < 512 → R n A σ T F P M H Y → WFG τ → U.2 ≤ 20 → mo_th (s_Model_band M H Y x1 x2).2 = (if (s_Camp_band A K σ τ T F U G P x1 x2).1 = 0 then 0 else 1) ∧ ((s_Camp_band A K σ τ T F U G P x1 x2).1 = 0 → (s_Camp_band A K σ τ T F U G P x1 x2).2 = (s_Model_band M H Y x1 x2).1) ∧ R (n + 1) A σ T F P (s_Model_band M H Y x1 x2).2 H Y
def PK_p_stake (R : RelT) : Prop := ∀ {n : Nat} {A : TA} {K : TK} {σ τ : GL} {T : TM} {F : FM} {U : TM} {G : FM} {P : CP} {M : MO} {H : SH} {Y : SX} {x1 : Int32} {x2 : Int32}, n < 512 → R n A σ T F P M H Y → WFG τ → U.2 ≤ 20 → mo_th (s_Model_stake M H Y x1 x2).2 = (if (s_Camp_stake A K σ τ T F U G P x1 x2).1 = 0 then 0 else 1) ∧ ((s_Camp_stake A K σ τ T F U G P x1 x2).1 = 0 → (s_Camp_stake A K σ τ T F U G P x1 x2).2 = (s_Model_stake M H Y x1 x2).1) ∧ R (n + 1) A σ T F P (s_Model_stake M H Y x1 x2).2 H Y
def PK_p_crevasse (R : RelT) : Prop := ∀ {n : Nat} {A : TA} {K : TK} {σ τ : GL} {T : TM} {F : FM} {U : TM} {G : FM} {P : CP} {M : MO} {H : SH} {Y : SX} {x1 : Int32} {x2 : Int32}, n < 512 → R n A σ T F P M H Y → WFG τ → U.2 ≤ 20 → mo_th (s_Model_crevasse M H Y x1 x2).2 = (if (s_Camp_crevasse A K σ τ T F U G P x1 x2).1 = 0 then 0 else 1) ∧ ((s_Camp_crevasse A K σ τ T F U G P x1 x2).1 = 0 → (s_Camp_crevasse A K σ τ T F U G P x1 x2).2 = (s_Model_crevasse M H Y x1 x2).1) ∧ R (n + 1) A σ T F P (s_Model_crevasse M H Y x1 x2).2 H Y
def PK_p_depot (R : RelT) : Prop := ∀ {n : Nat} {A : TA} {K : TK} {σ τ : GL} {T : TM} {F : FM} {U : TM} {G : FM} {P : CP} {M : MO} {H : SH} {Y : SX} {x1 : Int32} {x2 : Int32}, n < 512 → R n A σ T F P M H Y → WFG τ → U.2 ≤ 20 → mo_th (s_Model_depot M H Y x1 x2).2 = (if (s_Camp_depot A K σ τ T F U G P x1 x2).1 = 0 then 0 else 1) ∧ ((s_Camp_depot A K σ τ T F U G P x1 x2).1 = 0 → (s_Camp_depot A K σ τ T F U G P x1 x2).2 = (s_Model_depot M H Y x1 x2).1) ∧ R (n + 1) A σ T F P (s_Model_depot M H Y x1 x2).2 H Y
def PK_p_team (R : RelT) : Prop := ∀ {n : Nat} {A : TA} {K : TK} {σ τ : GL} {T : TM} {F : FM} {U : TM} {G : FM} {P : CP} {M : MO} {H : SH} {Y : SX} {x1 : Int32} {x2 : Int32}, n < 512 → R n A σ T F P M H Y → WFG τ → U.2 ≤ 20 → mo_th (s_Model_team M H Y x1 x2).2 = (if (s_Camp_team A K σ τ T F U G P x1 x2).1 = 0 then 0 else 1) ∧ ((s_Camp_team A K σ τ T F U G P x1 x2).1 = 0 → (s_Camp_team A K σ τ T F U G P x1 x2).2 = (s_Model_team M H Y x1 x2).1) ∧ R (n + 1) A σ T F P (s_Model_team M H Y x1 x2).2 H Y
def PK_p_go (R : RelT) : Prop := ∀ {n : Nat} {A : TA} {K : TK} {σ τ : GL} {T : TM} {F : FM} {U : TM} {G : FM} {P : CP} {M : MO} {H : SH} {Y : SX} {x1 : Int32} {x2 : Int32}, n < 512 → R n A σ T F P M H Y → WFG τ → U.2 ≤ 20 → mo_th (s_Model_go M H Y x1 x2).2.1 = (if (s_Camp_go A K σ τ T F U G P x1 x2).1 = 0 then 0 else if (s_Camp_go A K σ τ T F U G P x1 x2).1 = 1 then 1 else 2) ∧ ((s_Camp_go A K σ τ T F U G P x1 x2).1 = 0 → (s_Camp_go A K σ τ T F U G P x1 x2).2.1 = (s_Model_go M H Y x1 x2).1) ∧ R (n + 1) A (s_Camp_go A K σ τ T F U G P x1 x2).2.2 T F P (s_Model_go M H Y x1 x2).2.1 H (s_Model_go M H Y x1 x2).2.2
def PK_p_probe (R : RelT) : Prop := ∀ {n : Nat} {A : TA} {K : TK} {σ τ : GL} {T : TM} {F : FM} {U : TM} {G : FM} {P : CP} {M : MO} {H : SH} {Y : SX} {x1 : Int32} {x2 : Int32}, n < 512 → R n A σ T F P M H Y → WFG τ → U.2 ≤ 20 → mo_th (s_Model_probe M H Y x1 x2).2.1 = (if (s_Camp_probe A K σ τ T F U G P x1 x2).1 = 0 then 0 else if (s_Camp_probe A K σ τ T F U G P x1 x2).1 = 1 then 1 else 2) ∧ ((s_Camp_probe A K σ τ T F U G P x1 x2).1 = 0 → (s_Camp_probe A K σ τ T F U G P x1 x2).2.1 = (s_Model_probe M H Y x1 x2).1) ∧ R (n + 1) A (s_Camp_probe A K σ τ T F U G P x1 x2).2.2 T F P (s_Model_probe M H Y x1 x2).2.1 H (s_Model_probe M H Y x1 x2).2.2
def PK_p_fill (R : RelT) : Prop := ∀ {n : Nat} {A : TA} {K : TK} {σ τ : GL} {T : TM} {F : FM} {U : TM} {G : FM} {P : CP} {M : MO} {H : SH} {Y : SX} {x1 : Int32} {x2 : Int32}, n < 512 → R n A σ T F P M H Y → WFG τ → U.2 ≤ 20 → mo_th (s_Model_fill_0 M H Y x1 x2).2.1 = (if (s_Camp_fill A K σ τ T F U G P x1 x2).1 = 0 then 0 else if (s_Camp_fill A K σ τ T F U G P x1 x2).1 = 1 then 1 else if (s_Camp_fill A K σ τ T F U G P x1 x2).1 = 2 then 2 else 3) ∧ ((s_Camp_fill A K σ τ T F U G P x1 x2).1 = 0 → (s_Camp_fill A K σ τ T F U G P x1 x2).2.1 = (s_Model_fill_0 M H Y x1 x2).1) ∧ R (n + 1) A (s_Camp_fill A K σ τ T F U G P x1 x2).2.2 T F P (s_Model_fill_0 M H Y x1 x2).2.1 H (s_Model_fill_0 M H Y x1 x2).2.2
def PK_p_stock (R : RelT) : Prop := ∀ {n : Nat} {A : TA} {K : TK} {σ τ : GL} {T : TM} {F : FM} {U : TM} {G : FM} {P : CP} {M : MO} {H : SH} {Y : SX} {x1 : Int32} {x2 : Int32}, n < 512 → R n A σ T F P M H Y → WFG τ → U.2 ≤ 20 → mo_th (s_Model_stock M H Y x1 x2).2.1 = (if (s_Camp_stock A K σ τ T F U G P x1 x2).1 = 0 then 0 else if (s_Camp_stock A K σ τ T F U G P x1 x2).1 = 1 then 1 else 2) ∧ ((s_Camp_stock A K σ τ T F U G P x1 x2).1 = 0 → (s_Camp_stock A K σ τ T F U G P x1 x2).2.1 = (s_Model_stock M H Y x1 x2).1) ∧ R (n + 1) A (s_Camp_stock A K σ τ T F U G P x1 x2).2.2 T F P (s_Model_stock M H Y x1 x2).2.1 H (s_Model_stock M H Y x1 x2).2.2
def PK_p_setWarm (R : RelT) : Prop := ∀ {n : Nat} {A : TA} {K : TK} {σ τ : GL} {T : TM} {F : FM} {U : TM} {G : FM} {P : CP} {M : MO} {H : SH} {Y : SX} {x1 : Int32} {x2 : Int32}, n < 512 → R n A σ T F P M H Y → WFG τ → U.2 ≤ 20 → mo_th (s_Model_setWarm M H Y x1 x2).2.1 = (if (s_Camp_setWarm A K σ τ T F U G P x1 x2).1 = 0 then 0 else if (s_Camp_setWarm A K σ τ T F U G P x1 x2).1 = 1 then 1 else 2) ∧ ((s_Camp_setWarm A K σ τ T F U G P x1 x2).1 = 0 → (s_Camp_setWarm A K σ τ T F U G P x1 x2).2.1 = (s_Model_setWarm M H Y x1 x2).1) ∧ R (n + 1) A (s_Camp_setWarm A K σ τ T F U G P x1 x2).2.2 T F P (s_Model_setWarm M H Y x1 x2).2.1 H (s_Model_setWarm M H Y x1 x2).2.2
def PK_p_pass (R : RelT) : Prop := ∀ {n : Nat} {A : TA} {K : TK} {σ τ : GL} {T : TM} {F : FM} {U : TM} {G : FM} {P : CP} {M : MO} {H : SH} {Y Ah : SX} {ow : Nat} {x1 : Int32}, n < 512 → R n A σ T F P M H Y → WFG τ → U.2 ≤ 20 → ∃ p, (s_Model_pass M H Y Ah ow x1) = some p ∧ mo_th p.2.1 = (if (s_Camp_pass A K σ τ T F U G P x1).1 = 0 then 0 else 1) ∧ ((s_Camp_pass A K σ τ T F U G P x1).1 = 0 → (s_Camp_pass A K σ τ T F U G P x1).2.1 = p.1) ∧ R (n + 1) A (s_Camp_pass A K σ τ T F U G P x1).2.2.1 T (s_Camp_pass A K σ τ T F U G P x1).2.2.2 P p.2.1 H p.2.2.1
def PK_p_melt (R : RelT) : Prop := ∀ {n : Nat} {A : TA} {K : TK} {σ τ : GL} {T : TM} {F : FM} {U : TM} {G : FM} {P : CP} {M : MO} {H : SH} {Y : SX} {x1 : Int32} {x2 : Int32}, n < 512 → R n A σ T F P M H Y → WFG τ → U.2 ≤ 20 → mo_th (s_Model_melt_0 M H Y x1 x2).2 = (if (s_Camp_melt A K σ τ T F U G P x1 x2).1 = 0 then 0 else if (s_Camp_melt A K σ τ T F U G P x1 x2).1 = 1 then 1 else 2) ∧ ((s_Camp_melt A K σ τ T F U G P x1 x2).1 = 0 → (s_Camp_melt A K σ τ T F U G P x1 x2).2 = (s_Model_melt_0 M H Y x1 x2).1) ∧ R (n + 1) A σ T F P (s_Model_melt_0 M H Y x1 x2).2 H Y
def PK_p_until (R : RelT) : Prop := ∀ {n : Nat} {A : TA} {K : TK} {σ τ : GL} {T : TM} {F : FM} {U : TM} {G : FM} {P : CP} {M : MO} {H : SH} {Y Ah : SX} {ow : Nat} {x1 : Int32}, n < 512 → R n A σ T F P M H Y → WFG τ → U.2 ≤ 20 → ∃ p, (s_Model_until M H Y Ah ow x1) = some p ∧ mo_th p.2.1 = (if (s_Camp_until A K σ τ T F U G P x1).1 = 0 then 0 else 1) ∧ ((s_Camp_until A K σ τ T F U G P x1).1 = 0 → (s_Camp_until A K σ τ T F U G P x1).2.1 = p.1) ∧ R (n + 1) A σ T (s_Camp_until A K σ τ T F U G P x1).2.2.2 P p.2.1 H Y ∧ WFG (s_Camp_until A K σ τ T F U G P x1).2.2.1
def PK_p_foresee (R : RelT) : Prop := ∀ {n : Nat} {A : TA} {K : TK} {σ τ : GL} {T : TM} {F : FM} {U : TM} {G : FM} {P : CP} {M : MO} {H : SH} {Y Ah : SX} {ow : Nat} {x1 : Int32} {x2 : Int32}, n < 512 → R n A σ T F P M H Y → WFG τ → U.2 ≤ 20 → ∃ p, (s_Model_foresee M H Y Ah ow x1 x2) = some p ∧ mo_th p.2.1 = (if (s_Camp_foresee A K σ τ T F U G P x1 x2).1 = 0 then 0 else if (s_Camp_foresee A K σ τ T F U G P x1 x2).1 = 2 then 1 else 2) ∧ ((s_Camp_foresee A K σ τ T F U G P x1 x2).1 = 0 → (s_Camp_foresee A K σ τ T F U G P x1 x2).2.1 = p.1) ∧ R (n + 1) A σ T (s_Camp_foresee A K σ τ T F U G P x1 x2).2.2.2 P p.2.1 H Y ∧ WFG (s_Camp_foresee A K σ τ T F U G P x1 x2).2.2.1
def PK_p_safe (R : RelT) : Prop := ∀ {n : Nat} {A : TA} {K : TK} {σ τ : GL} {T : TM} {F : FM} {U : TM} {G : FM} {P : CP} {M : MO} {H : SH} {Y : SX} {x1 : Int32} {x2 : Int32}, n < 512 → R n A σ T F P M H Y → WFG τ → U.2 ≤ 20 → mo_th (s_Model_safe M H Y x1 x2).2 = (if (s_Camp_safe A K σ τ T F U G P x1 x2).1 = 0 then 0 else 1) ∧ ((s_Camp_safe A K σ τ T F U G P x1 x2).1 = 0 → (s_Camp_safe A K σ τ T F U G P x1 x2).2 = (s_Model_safe M H Y x1 x2).1) ∧ R (n + 1) A σ T F P (s_Model_safe M H Y x1 x2).2 H Y
def PK_p_advise (R : RelT) : Prop := ∀ {n : Nat} {A : TA} {K : TK} {σ τ : GL} {T : TM} {F : FM} {U : TM} {G : FM} {P : CP} {M : MO} {H : SH} {Y Ah : SX} {ow : Nat} {x1 : Int32} {x2 : Int32}, n < 512 → R n A σ T F P M H Y → WFG τ → U.2 ≤ 20 → ∃ p, (s_Model_advise M H Y Ah ow x1 x2) = some p ∧ mo_th p.2.1 = (if (s_Camp_advise A K σ τ T F U G P x1 x2).1 = 0 then 0 else if (s_Camp_advise A K σ τ T F U G P x1 x2).1 = 1 then 1 else if (s_Camp_advise A K σ τ T F U G P x1 x2).1 = 2 then 2 else 3) ∧ ((s_Camp_advise A K σ τ T F U G P x1 x2).1 = 0 → (s_Camp_advise A K σ τ T F U G P x1 x2).2.1 = p.1) ∧ R (n + 1) A σ T (s_Camp_advise A K σ τ T F U G P x1 x2).2.2.2 P p.2.1 H Y ∧ WFG (s_Camp_advise A K σ τ T F U G P x1 x2).2.2.1
def PK_p_teach (R : RelT) : Prop := ∀ {n : Nat} {A : TA} {K : TK} {σ τ : GL} {T : TM} {F : FM} {U : TM} {G : FM} {P : CP} {M : MO} {H : SH} {Y : SX}, n < 512 → R n A σ T F P M H Y → WFG τ → U.2 ≤ 20 → ∃ p, s_Model_read (mo_ea' (mo_th' M 0) (-1)) sh0 = some p ∧ (p.1 ≤ 0 → sh_ha p.2.2 0 ≤ 5 ∧ sh_ha p.2.2 3 ≤ 6 ∧ sh_ha p.2.2 6 ≤ 4 ∧ sh_ha p.2.2 9 ≤ 4 ∧ sh_ha p.2.2 11 ≤ 4) ∧ ((s_Teacher_error (s_Teacher_readList (s_Tokens_readFrom A K) (s_Orders_clear U G).2 (0, -1) new_nm new_nm new_nm new_nm new_nm (s_Orders_clear U G).1 (s_Glacier_beginAnew τ (s_Glacier_day σ))).1 (s_Teacher_readList (s_Tokens_readFrom A K) (s_Orders_clear U G).2 (0, -1) new_nm new_nm new_nm new_nm new_nm (s_Orders_clear U G).1 (s_Glacier_beginAnew τ (s_Glacier_day σ))).2.2.1) = 0 → p.1 ≤ 0 ∧ R (n + 1) (s_Tape_cut A 0) (s_Teacher_readList (s_Tokens_readFrom A K) (s_Orders_clear U G).2 (0, -1) new_nm new_nm new_nm new_nm new_nm (s_Orders_clear U G).1 (s_Glacier_beginAnew τ (s_Glacier_day σ))).2.2.2.2.2.2.2.2.2 (s_Teacher_readList (s_Tokens_readFrom A K) (s_Orders_clear U G).2 (0, -1) new_nm new_nm new_nm new_nm new_nm (s_Orders_clear U G).1 (s_Glacier_beginAnew τ (s_Glacier_day σ))).2.2.2.2.2.2.2.2.1 (s_Teacher_readList (s_Tokens_readFrom A K) (s_Orders_clear U G).2 (0, -1) new_nm new_nm new_nm new_nm new_nm (s_Orders_clear U G).1 (s_Glacier_beginAnew τ (s_Glacier_day σ))).2.1 (cp_ep' P (s_Teacher_errorPosition (s_Teacher_readList (s_Tokens_readFrom A K) (s_Orders_clear U G).2 (0, -1) new_nm new_nm new_nm new_nm new_nm (s_Orders_clear U G).1 (s_Glacier_beginAnew τ (s_Glacier_day σ))).1 (s_Teacher_readList (s_Tokens_readFrom A K) (s_Orders_clear U G).2 (0, -1) new_nm new_nm new_nm new_nm new_nm (s_Orders_clear U G).1 (s_Glacier_beginAnew τ (s_Glacier_day σ))).2.2.1)) (mo_sz' p.2.1 0) p.2.2 (s_Model_begin p.2.2 Y)) ∧ (¬ (s_Teacher_error (s_Teacher_readList (s_Tokens_readFrom A K) (s_Orders_clear U G).2 (0, -1) new_nm new_nm new_nm new_nm new_nm (s_Orders_clear U G).1 (s_Glacier_beginAnew τ (s_Glacier_day σ))).1 (s_Teacher_readList (s_Tokens_readFrom A K) (s_Orders_clear U G).2 (0, -1) new_nm new_nm new_nm new_nm new_nm (s_Orders_clear U G).1 (s_Glacier_beginAnew τ (s_Glacier_day σ))).2.2.1) = 0 → ¬ p.1 ≤ 0 ∧ (s_Teacher_error (s_Teacher_readList (s_Tokens_readFrom A K) (s_Orders_clear U G).2 (0, -1) new_nm new_nm new_nm new_nm new_nm (s_Orders_clear U G).1 (s_Glacier_beginAnew τ (s_Glacier_day σ))).1 (s_Teacher_readList (s_Tokens_readFrom A K) (s_Orders_clear U G).2 (0, -1) new_nm new_nm new_nm new_nm new_nm (s_Orders_clear U G).1 (s_Glacier_beginAnew τ (s_Glacier_day σ))).2.2.1) = p.1 ∧ R (n + 1) (s_Tape_cut A 0) σ T F (cp_ep' P (s_Teacher_errorPosition (s_Teacher_readList (s_Tokens_readFrom A K) (s_Orders_clear U G).2 (0, -1) new_nm new_nm new_nm new_nm new_nm (s_Orders_clear U G).1 (s_Glacier_beginAnew τ (s_Glacier_day σ))).1 (s_Teacher_readList (s_Tokens_readFrom A K) (s_Orders_clear U G).2 (0, -1) new_nm new_nm new_nm new_nm new_nm (s_Orders_clear U G).1 (s_Glacier_beginAnew τ (s_Glacier_day σ))).2.2.1)) (mo_sz' p.2.1 0) H Y) ∧ WFG (s_Teacher_readList (s_Tokens_readFrom A K) (s_Orders_clear U G).2 (0, -1) new_nm new_nm new_nm new_nm new_nm (s_Orders_clear U G).1 (s_Glacier_beginAnew τ (s_Glacier_day σ))).2.2.2.2.2.2.2.2.2 ∧ (s_Teacher_readList (s_Tokens_readFrom A K) (s_Orders_clear U G).2 (0, -1) new_nm new_nm new_nm new_nm new_nm (s_Orders_clear U G).1 (s_Glacier_beginAnew τ (s_Glacier_day σ))).2.2.2.2.2.2.2.2.1.2 ≤ 20
def PK_p_errorAt (R : RelT) : Prop := ∀ {n : Nat} {A : TA} {K : TK} {σ τ : GL} {T : TM} {F : FM} {U : TM} {G : FM} {P : CP} {M : MO} {H : SH} {Y : SX}, n < 512 → R n A σ T F P M H Y → (s_Camp_errorAt A K σ τ T F U G P) = (s_Model_errorAt M H Y).1 ∧ R (n + 1) A σ T F P (s_Model_errorAt M H Y).2 H Y
def PK_p_mean (R : RelT) : Prop := ∀ {n : Nat} {A : TA} {K : TK} {σ τ : GL} {T : TM} {F : FM} {U : TM} {G : FM} {P : CP} {M : MO} {H : SH} {Y : SX}, n < 512 → R n A σ T F P M H Y → (s_Camp_mean A K σ τ T F U G P) = (s_Model_mean M H Y).1 ∧ (¬ nI (gN σ 0) ≤ 0 → vf_n64 (FP.ddiv (FP.i2d (gSum σ 0 1)) (FP.i2d (nI (gN σ 0))))) ∧ (¬ (nI (sh_ha H 0)) = 0 → vf_n64 (FP.ddiv (FP.i2d (l_Model_mean_9 (mo_th' M 0) H Y (sh_ha H 0) 0 0)) (FP.i2d (nI (sh_ha H 0))))) ∧ R (n + 1) A σ T F P (s_Model_mean M H Y).2 H Y
def PK_p_digest (R : RelT) : Prop := ∀ {n : Nat} {A : TA} {K : TK} {σ τ : GL} {T : TM} {F : FM} {U : TM} {G : FM} {P : CP} {M : MO} {H : SH} {Y : SX}, n < 512 → R n A σ T F P M H Y → (s_Camp_digest A K σ τ T F U G P) = (s_Model_digest M H Y).1 ∧ R (n + 1) A σ T F P (s_Model_digest M H Y).2 H Y
def PK_p_none (R : RelT) : Prop := ∀ {n : Nat} {A : TA} {σ : GL} {T : TM} {F : FM} {P : CP} {M : MO} {H : SH} {Y : SX}, n < 512 → R n A σ T F P M H Y → R (n + 1) A σ T F P M H Y
/-- what is wanted of the reckonings alone: that each call answers alike on both sides, and keeps R -/
def PureOK (R : RelT) : Prop := PK_bnd R ∧ PK_p_feed R ∧ PK_p_trim R ∧ PK_p_trimN R ∧ PK_p_count R ∧ PK_p_band R ∧ PK_p_stake R ∧ PK_p_crevasse R ∧ PK_p_depot R ∧ PK_p_team R ∧ PK_p_go R ∧ PK_p_probe R ∧ PK_p_fill R ∧ PK_p_stock R ∧ PK_p_setWarm R ∧ PK_p_pass R ∧ PK_p_melt R ∧ PK_p_until R ∧ PK_p_foresee R ∧ PK_p_safe R ∧ PK_p_advise R ∧ PK_p_teach R ∧ PK_p_errorAt R ∧ PK_p_mean R ∧ PK_p_digest R ∧ PK_p_none R
theorem PureOK.bnd {R : RelT} (hp : PureOK R) : ∀ {n : Nat} {A : TA} {σ : GL} {T : TM} {F : FM} {P : CP} {M : MO} {H : SH} {Y : SX}, R n A σ T F P M H Y → ta_sz A ≤ 2000 ∧ T.2 ≤ 20 ∧ WFG σ ∧ mo_sz M ≤ 2000 ∧ sh_ha H 0 ≤ 5 ∧ sh_ha H 3 ≤ 6 ∧ sh_ha H 6 ≤ 4 ∧ sh_ha H 9 ≤ 4 ∧ sh_ha H 11 ≤ 4 ∧ sh_or H ≤ 20 ∧ sx_dy Y < 1000000 := hp.1
theorem PureOK.p_feed {R : RelT} (hp : PureOK R) : ∀ {n : Nat} {A : TA} {K : TK} {σ τ : GL} {T : TM} {F : FM} {U : TM} {G : FM} {P : CP} {M : MO} {H : SH} {Y : SX} {x1 : Int32} {x2 : Int32} {x3 : Int32} {x4 : Int32} {x5 : Int32}, n < 512 → R n A σ T F P M H Y → WFG τ → U.2 ≤ 20 → mo_th (s_Model_feed M H Y x1 x2 x3 x4 x5).2 = (if (s_Camp_feed A K σ τ T F U G P x1 x2 x3 x4 x5).1 = 0 then 0 else 1) ∧ ((s_Camp_feed A K σ τ T F U G P x1 x2 x3 x4 x5).1 = 0 → (nI (s_Camp_feed A K σ τ T F U G P x1 x2 x3 x4 x5).2.1) = (s_Model_feed M H Y x1 x2 x3 x4 x5).1) ∧ R (n + 1) (s_Camp_feed A K σ τ T F U G P x1 x2 x3 x4 x5).2.2 σ T F P (s_Model_feed M H Y x1 x2 x3 x4 x5).2 H Y := hp.2.1
theorem PureOK.p_trim {R : RelT} (hp : PureOK R) : ∀ {n : Nat} {A : TA} {K : TK} {σ τ : GL} {T : TM} {F : FM} {U : TM} {G : FM} {P : CP} {M : MO} {H : SH} {Y : SX} {x1 : Nat}, n < 512 → R n A σ T F P M H Y → WFG τ → U.2 ≤ 20 → x1 < 2 ^ 31 → mo_th (s_Model_trim M H Y x1).2 = (if (s_Camp_trim A K σ τ T F U G P x1).1 = 0 then 0 else 1) ∧ ((s_Camp_trim A K σ τ T F U G P x1).1 = 0 → (s_Camp_trim A K σ τ T F U G P x1).2.1 = (s_Model_trim M H Y x1).1) ∧ R (n + 1) (s_Camp_trim A K σ τ T F U G P x1).2.2 σ T F P (s_Model_trim M H Y x1).2 H Y := hp.2.2.1
theorem PureOK.p_trimN {R : RelT} (hp : PureOK R) : ∀ {n : Nat} {A : TA} {K : TK} {σ τ : GL} {T : TM} {F : FM} {U : TM} {G : FM} {P : CP} {M : MO} {H : SH} {Y : SX} {x1 : Int32}, n < 512 → R n A σ T F P M H Y → WFG τ → U.2 ≤ 20 → x1 < 0 → mo_th (s_Model_trimN M H Y x1).2 = (if (s_Camp_trimN A K σ τ T F U G P x1).1 = 0 then 0 else 1) ∧ ((s_Camp_trimN A K σ τ T F U G P x1).1 = 0 → (s_Camp_trimN A K σ τ T F U G P x1).2.1 = (s_Model_trimN M H Y x1).1) ∧ R (n + 1) (s_Camp_trimN A K σ τ T F U G P x1).2.2 σ T F P (s_Model_trimN M H Y x1).2 H Y := hp.2.2.2.1
theorem PureOK.p_count {R : RelT} (hp : PureOK R) : ∀ {n : Nat} {A : TA} {K : TK} {σ τ : GL} {T : TM} {F : FM} {U : TM} {G : FM} {P : CP} {M : MO} {H : SH} {Y : SX} {x1 : Int32}, n < 512 → R n A σ T F P M H Y → WFG τ → U.2 ≤ 20 → mo_th (s_Model_count M H Y x1).2 = (if (s_Camp_count A K σ τ T F U G P x1).1 = 0 then 0 else 1) ∧ ((s_Camp_count A K σ τ T F U G P x1).1 = 0 → (s_Camp_count A K σ τ T F U G P x1).2 = (s_Model_count M H Y x1).1) ∧ R (n + 1) A σ T F P (s_Model_count M H Y x1).2 H Y := hp.2.2.2.2.1
theorem PureOK.p_band {R : RelT} (hp : PureOK R) : ∀ {n : Nat} {A : TA} {K : TK} {σ τ : GL} {T : TM} {F : FM} {U : TM} {G : FM} {P : CP} {M : MO} {H : SH} {Y : SX} {x1 : Int32} {x2 : Int32}, n < 512 → R n A σ T F P M H Y → WFG τ → U.2 ≤ 20 → mo_th (s_Model_band M H Y x1 x2).2 = (if (s_Camp_band A K σ τ T F U G P x1 x2).1 = 0 then 0 else 1) ∧ ((s_Camp_band A K σ τ T F U G P x1 x2).1 = 0 → (s_Camp_band A K σ τ T F U G P x1 x2).2 = (s_Model_band M H Y x1 x2).1) ∧ R (n + 1) A σ T F P (s_Model_band M H Y x1 x2).2 H Y := hp.2.2.2.2.2.1
theorem PureOK.p_stake {R : RelT} (hp : PureOK R) : ∀ {n : Nat} {A : TA} {K : TK} {σ τ : GL} {T : TM} {F : FM} {U : TM} {G : FM} {P : CP} {M : MO} {H : SH} {Y : SX} {x1 : Int32} {x2 : Int32}, n < 512 → R n A σ T F P M H Y → WFG τ → U.2 ≤ 20 → mo_th (s_Model_stake M H Y x1 x2).2 = (if (s_Camp_stake A K σ τ T F U G P x1 x2).1 = 0 then 0 else 1) ∧ ((s_Camp_stake A K σ τ T F U G P x1 x2).1 = 0 → (s_Camp_stake A K σ τ T F U G P x1 x2).2 = (s_Model_stake M H Y x1 x2).1) ∧ R (n + 1) A σ T F P (s_Model_stake M H Y x1 x2).2 H Y := hp.2.2.2.2.2.2.1
theorem PureOK.p_crevasse {R : RelT} (hp : PureOK R) : ∀ {n : Nat} {A : TA} {K : TK} {σ τ : GL} {T : TM} {F : FM} {U : TM} {G : FM} {P : CP} {M : MO} {H : SH} {Y : SX} {x1 : Int32} {x2 : Int32}, n < 512 → R n A σ T F P M H Y → WFG τ → U.2 ≤ 20 → mo_th (s_Model_crevasse M H Y x1 x2).2 = (if (s_Camp_crevasse A K σ τ T F U G P x1 x2).1 = 0 then 0 else 1) ∧ ((s_Camp_crevasse A K σ τ T F U G P x1 x2).1 = 0 → (s_Camp_crevasse A K σ τ T F U G P x1 x2).2 = (s_Model_crevasse M H Y x1 x2).1) ∧ R (n + 1) A σ T F P (s_Model_crevasse M H Y x1 x2).2 H Y := hp.2.2.2.2.2.2.2.1
theorem PureOK.p_depot {R : RelT} (hp : PureOK R) : ∀ {n : Nat} {A : TA} {K : TK} {σ τ : GL} {T : TM} {F : FM} {U : TM} {G : FM} {P : CP} {M : MO} {H : SH} {Y : SX} {x1 : Int32} {x2 : Int32}, n < 512 → R n A σ T F P M H Y → WFG τ → U.2 ≤ 20 → mo_th (s_Model_depot M H Y x1 x2).2 = (if (s_Camp_depot A K σ τ T F U G P x1 x2).1 = 0 then 0 else 1) ∧ ((s_Camp_depot A K σ τ T F U G P x1 x2).1 = 0 → (s_Camp_depot A K σ τ T F U G P x1 x2).2 = (s_Model_depot M H Y x1 x2).1) ∧ R (n + 1) A σ T F P (s_Model_depot M H Y x1 x2).2 H Y := hp.2.2.2.2.2.2.2.2.1
theorem PureOK.p_team {R : RelT} (hp : PureOK R) : ∀ {n : Nat} {A : TA} {K : TK} {σ τ : GL} {T : TM} {F : FM} {U : TM} {G : FM} {P : CP} {M : MO} {H : SH} {Y : SX} {x1 : Int32} {x2 : Int32}, n < 512 → R n A σ T F P M H Y → WFG τ → U.2 ≤ 20 → mo_th (s_Model_team M H Y x1 x2).2 = (if (s_Camp_team A K σ τ T F U G P x1 x2).1 = 0 then 0 else 1) ∧ ((s_Camp_team A K σ τ T F U G P x1 x2).1 = 0 → (s_Camp_team A K σ τ T F U G P x1 x2).2 = (s_Model_team M H Y x1 x2).1) ∧ R (n + 1) A σ T F P (s_Model_team M H Y x1 x2).2 H Y := hp.2.2.2.2.2.2.2.2.2.1
theorem PureOK.p_go {R : RelT} (hp : PureOK R) : ∀ {n : Nat} {A : TA} {K : TK} {σ τ : GL} {T : TM} {F : FM} {U : TM} {G : FM} {P : CP} {M : MO} {H : SH} {Y : SX} {x1 : Int32} {x2 : Int32}, n < 512 → R n A σ T F P M H Y → WFG τ → U.2 ≤ 20 → mo_th (s_Model_go M H Y x1 x2).2.1 = (if (s_Camp_go A K σ τ T F U G P x1 x2).1 = 0 then 0 else if (s_Camp_go A K σ τ T F U G P x1 x2).1 = 1 then 1 else 2) ∧ ((s_Camp_go A K σ τ T F U G P x1 x2).1 = 0 → (s_Camp_go A K σ τ T F U G P x1 x2).2.1 = (s_Model_go M H Y x1 x2).1) ∧ R (n + 1) A (s_Camp_go A K σ τ T F U G P x1 x2).2.2 T F P (s_Model_go M H Y x1 x2).2.1 H (s_Model_go M H Y x1 x2).2.2 := hp.2.2.2.2.2.2.2.2.2.2.1
theorem PureOK.p_probe {R : RelT} (hp : PureOK R) : ∀ {n : Nat} {A : TA} {K : TK} {σ τ : GL} {T : TM} {F : FM} {U : TM} {G : FM} {P : CP} {M : MO} {H : SH} {Y : SX} {x1 : Int32} {x2 : Int32}, n < 512 → R n A σ T F P M H Y → WFG τ → U.2 ≤ 20 → mo_th (s_Model_probe M H Y x1 x2).2.1 = (if (s_Camp_probe A K σ τ T F U G P x1 x2).1 = 0 then 0 else if (s_Camp_probe A K σ τ T F U G P x1 x2).1 = 1 then 1 else 2) ∧ ((s_Camp_probe A K σ τ T F U G P x1 x2).1 = 0 → (s_Camp_probe A K σ τ T F U G P x1 x2).2.1 = (s_Model_probe M H Y x1 x2).1) ∧ R (n + 1) A (s_Camp_probe A K σ τ T F U G P x1 x2).2.2 T F P (s_Model_probe M H Y x1 x2).2.1 H (s_Model_probe M H Y x1 x2).2.2 := hp.2.2.2.2.2.2.2.2.2.2.2.1
theorem PureOK.p_fill {R : RelT} (hp : PureOK R) : ∀ {n : Nat} {A : TA} {K : TK} {σ τ : GL} {T : TM} {F : FM} {U : TM} {G : FM} {P : CP} {M : MO} {H : SH} {Y : SX} {x1 : Int32} {x2 : Int32}, n < 512 → R n A σ T F P M H Y → WFG τ → U.2 ≤ 20 → mo_th (s_Model_fill_0 M H Y x1 x2).2.1 = (if (s_Camp_fill A K σ τ T F U G P x1 x2).1 = 0 then 0 else if (s_Camp_fill A K σ τ T F U G P x1 x2).1 = 1 then 1 else if (s_Camp_fill A K σ τ T F U G P x1 x2).1 = 2 then 2 else 3) ∧ ((s_Camp_fill A K σ τ T F U G P x1 x2).1 = 0 → (s_Camp_fill A K σ τ T F U G P x1 x2).2.1 = (s_Model_fill_0 M H Y x1 x2).1) ∧ R (n + 1) A (s_Camp_fill A K σ τ T F U G P x1 x2).2.2 T F P (s_Model_fill_0 M H Y x1 x2).2.1 H (s_Model_fill_0 M H Y x1 x2).2.2 := hp.2.2.2.2.2.2.2.2.2.2.2.2.1
theorem PureOK.p_stock {R : RelT} (hp : PureOK R) : ∀ {n : Nat} {A : TA} {K : TK} {σ τ : GL} {T : TM} {F : FM} {U : TM} {G : FM} {P : CP} {M : MO} {H : SH} {Y : SX} {x1 : Int32} {x2 : Int32}, n < 512 → R n A σ T F P M H Y → WFG τ → U.2 ≤ 20 → mo_th (s_Model_stock M H Y x1 x2).2.1 = (if (s_Camp_stock A K σ τ T F U G P x1 x2).1 = 0 then 0 else if (s_Camp_stock A K σ τ T F U G P x1 x2).1 = 1 then 1 else 2) ∧ ((s_Camp_stock A K σ τ T F U G P x1 x2).1 = 0 → (s_Camp_stock A K σ τ T F U G P x1 x2).2.1 = (s_Model_stock M H Y x1 x2).1) ∧ R (n + 1) A (s_Camp_stock A K σ τ T F U G P x1 x2).2.2 T F P (s_Model_stock M H Y x1 x2).2.1 H (s_Model_stock M H Y x1 x2).2.2 := hp.2.2.2.2.2.2.2.2.2.2.2.2.2.1
theorem PureOK.p_setWarm {R : RelT} (hp : PureOK R) : ∀ {n : Nat} {A : TA} {K : TK} {σ τ : GL} {T : TM} {F : FM} {U : TM} {G : FM} {P : CP} {M : MO} {H : SH} {Y : SX} {x1 : Int32} {x2 : Int32}, n < 512 → R n A σ T F P M H Y → WFG τ → U.2 ≤ 20 → mo_th (s_Model_setWarm M H Y x1 x2).2.1 = (if (s_Camp_setWarm A K σ τ T F U G P x1 x2).1 = 0 then 0 else if (s_Camp_setWarm A K σ τ T F U G P x1 x2).1 = 1 then 1 else 2) ∧ ((s_Camp_setWarm A K σ τ T F U G P x1 x2).1 = 0 → (s_Camp_setWarm A K σ τ T F U G P x1 x2).2.1 = (s_Model_setWarm M H Y x1 x2).1) ∧ R (n + 1) A (s_Camp_setWarm A K σ τ T F U G P x1 x2).2.2 T F P (s_Model_setWarm M H Y x1 x2).2.1 H (s_Model_setWarm M H Y x1 x2).2.2 := hp.2.2.2.2.2.2.2.2.2.2.2.2.2.2.1
theorem PureOK.p_pass {R : RelT} (hp : PureOK R) : ∀ {n : Nat} {A : TA} {K : TK} {σ τ : GL} {T : TM} {F : FM} {U : TM} {G : FM} {P : CP} {M : MO} {H : SH} {Y Ah : SX} {ow : Nat} {x1 : Int32}, n < 512 → R n A σ T F P M H Y → WFG τ → U.2 ≤ 20 → ∃ p, (s_Model_pass M H Y Ah ow x1) = some p ∧ mo_th p.2.1 = (if (s_Camp_pass A K σ τ T F U G P x1).1 = 0 then 0 else 1) ∧ ((s_Camp_pass A K σ τ T F U G P x1).1 = 0 → (s_Camp_pass A K σ τ T F U G P x1).2.1 = p.1) ∧ R (n + 1) A (s_Camp_pass A K σ τ T F U G P x1).2.2.1 T (s_Camp_pass A K σ τ T F U G P x1).2.2.2 P p.2.1 H p.2.2.1 := hp.2.2.2.2.2.2.2.2.2.2.2.2.2.2.2.1
theorem PureOK.p_melt {R : RelT} (hp : PureOK R) : ∀ {n : Nat} {A : TA} {K : TK} {σ τ : GL} {T : TM} {F : FM} {U : TM} {G : FM} {P : CP} {M : MO} {H : SH} {Y : SX} {x1 : Int32} {x2 : Int32}, n < 512 → R n A σ T F P M H Y → WFG τ → U.2 ≤ 20 → mo_th (s_Model_melt_0 M H Y x1 x2).2 = (if (s_Camp_melt A K σ τ T F U G P x1 x2).1 = 0 then 0 else if (s_Camp_melt A K σ τ T F U G P x1 x2).1 = 1 then 1 else 2) ∧ ((s_Camp_melt A K σ τ T F U G P x1 x2).1 = 0 → (s_Camp_melt A K σ τ T F U G P x1 x2).2 = (s_Model_melt_0 M H Y x1 x2).1) ∧ R (n + 1) A σ T F P (s_Model_melt_0 M H Y x1 x2).2 H Y := hp.2.2.2.2.2.2.2.2.2.2.2.2.2.2.2.2.1
theorem PureOK.p_until {R : RelT} (hp : PureOK R) : ∀ {n : Nat} {A : TA} {K : TK} {σ τ : GL} {T : TM} {F : FM} {U : TM} {G : FM} {P : CP} {M : MO} {H : SH} {Y Ah : SX} {ow : Nat} {x1 : Int32}, n < 512 → R n A σ T F P M H Y → WFG τ → U.2 ≤ 20 → ∃ p, (s_Model_until M H Y Ah ow x1) = some p ∧ mo_th p.2.1 = (if (s_Camp_until A K σ τ T F U G P x1).1 = 0 then 0 else 1) ∧ ((s_Camp_until A K σ τ T F U G P x1).1 = 0 → (s_Camp_until A K σ τ T F U G P x1).2.1 = p.1) ∧ R (n + 1) A σ T (s_Camp_until A K σ τ T F U G P x1).2.2.2 P p.2.1 H Y ∧ WFG (s_Camp_until A K σ τ T F U G P x1).2.2.1 := hp.2.2.2.2.2.2.2.2.2.2.2.2.2.2.2.2.2.1
theorem PureOK.p_foresee {R : RelT} (hp : PureOK R) : ∀ {n : Nat} {A : TA} {K : TK} {σ τ : GL} {T : TM} {F : FM} {U : TM} {G : FM} {P : CP} {M : MO} {H : SH} {Y Ah : SX} {ow : Nat} {x1 : Int32} {x2 : Int32}, n < 512 → R n A σ T F P M H Y → WFG τ → U.2 ≤ 20 → ∃ p, (s_Model_foresee M H Y Ah ow x1 x2) = some p ∧ mo_th p.2.1 = (if (s_Camp_foresee A K σ τ T F U G P x1 x2).1 = 0 then 0 else if (s_Camp_foresee A K σ τ T F U G P x1 x2).1 = 2 then 1 else 2) ∧ ((s_Camp_foresee A K σ τ T F U G P x1 x2).1 = 0 → (s_Camp_foresee A K σ τ T F U G P x1 x2).2.1 = p.1) ∧ R (n + 1) A σ T (s_Camp_foresee A K σ τ T F U G P x1 x2).2.2.2 P p.2.1 H Y ∧ WFG (s_Camp_foresee A K σ τ T F U G P x1 x2).2.2.1 := hp.2.2.2.2.2.2.2.2.2.2.2.2.2.2.2.2.2.2.1
theorem PureOK.p_safe {R : RelT} (hp : PureOK R) : ∀ {n : Nat} {A : TA} {K : TK} {σ τ : GL} {T : TM} {F : FM} {U : TM} {G : FM} {P : CP} {M : MO} {H : SH} {Y : SX} {x1 : Int32} {x2 : Int32}, n < 512 → R n A σ T F P M H Y → WFG τ → U.2 ≤ 20 → mo_th (s_Model_safe M H Y x1 x2).2 = (if (s_Camp_safe A K σ τ T F U G P x1 x2).1 = 0 then 0 else 1) ∧ ((s_Camp_safe A K σ τ T F U G P x1 x2).1 = 0 → (s_Camp_safe A K σ τ T F U G P x1 x2).2 = (s_Model_safe M H Y x1 x2).1) ∧ R (n + 1) A σ T F P (s_Model_safe M H Y x1 x2).2 H Y := hp.2.2.2.2.2.2.2.2.2.2.2.2.2.2.2.2.2.2.2.1
theorem PureOK.p_advise {R : RelT} (hp : PureOK R) : ∀ {n : Nat} {A : TA} {K : TK} {σ τ : GL} {T : TM} {F : FM} {U : TM} {G : FM} {P : CP} {M : MO} {H : SH} {Y Ah : SX} {ow : Nat} {x1 : Int32} {x2 : Int32}, n < 512 → R n A σ T F P M H Y → WFG τ → U.2 ≤ 20 → ∃ p, (s_Model_advise M H Y Ah ow x1 x2) = some p ∧ mo_th p.2.1 = (if (s_Camp_advise A K σ τ T F U G P x1 x2).1 = 0 then 0 else if (s_Camp_advise A K σ τ T F U G P x1 x2).1 = 1 then 1 else if (s_Camp_advise A K σ τ T F U G P x1 x2).1 = 2 then 2 else 3) ∧ ((s_Camp_advise A K σ τ T F U G P x1 x2).1 = 0 → (s_Camp_advise A K σ τ T F U G P x1 x2).2.1 = p.1) ∧ R (n + 1) A σ T (s_Camp_advise A K σ τ T F U G P x1 x2).2.2.2 P p.2.1 H Y ∧ WFG (s_Camp_advise A K σ τ T F U G P x1 x2).2.2.1 := hp.2.2.2.2.2.2.2.2.2.2.2.2.2.2.2.2.2.2.2.2.1
theorem PureOK.p_teach {R : RelT} (hp : PureOK R) : ∀ {n : Nat} {A : TA} {K : TK} {σ τ : GL} {T : TM} {F : FM} {U : TM} {G : FM} {P : CP} {M : MO} {H : SH} {Y : SX}, n < 512 → R n A σ T F P M H Y → WFG τ → U.2 ≤ 20 → ∃ p, s_Model_read (mo_ea' (mo_th' M 0) (-1)) sh0 = some p ∧ (p.1 ≤ 0 → sh_ha p.2.2 0 ≤ 5 ∧ sh_ha p.2.2 3 ≤ 6 ∧ sh_ha p.2.2 6 ≤ 4 ∧ sh_ha p.2.2 9 ≤ 4 ∧ sh_ha p.2.2 11 ≤ 4) ∧ ((s_Teacher_error (s_Teacher_readList (s_Tokens_readFrom A K) (s_Orders_clear U G).2 (0, -1) new_nm new_nm new_nm new_nm new_nm (s_Orders_clear U G).1 (s_Glacier_beginAnew τ (s_Glacier_day σ))).1 (s_Teacher_readList (s_Tokens_readFrom A K) (s_Orders_clear U G).2 (0, -1) new_nm new_nm new_nm new_nm new_nm (s_Orders_clear U G).1 (s_Glacier_beginAnew τ (s_Glacier_day σ))).2.2.1) = 0 → p.1 ≤ 0 ∧ R (n + 1) (s_Tape_cut A 0) (s_Teacher_readList (s_Tokens_readFrom A K) (s_Orders_clear U G).2 (0, -1) new_nm new_nm new_nm new_nm new_nm (s_Orders_clear U G).1 (s_Glacier_beginAnew τ (s_Glacier_day σ))).2.2.2.2.2.2.2.2.2 (s_Teacher_readList (s_Tokens_readFrom A K) (s_Orders_clear U G).2 (0, -1) new_nm new_nm new_nm new_nm new_nm (s_Orders_clear U G).1 (s_Glacier_beginAnew τ (s_Glacier_day σ))).2.2.2.2.2.2.2.2.1 (s_Teacher_readList (s_Tokens_readFrom A K) (s_Orders_clear U G).2 (0, -1) new_nm new_nm new_nm new_nm new_nm (s_Orders_clear U G).1 (s_Glacier_beginAnew τ (s_Glacier_day σ))).2.1 (cp_ep' P (s_Teacher_errorPosition (s_Teacher_readList (s_Tokens_readFrom A K) (s_Orders_clear U G).2 (0, -1) new_nm new_nm new_nm new_nm new_nm (s_Orders_clear U G).1 (s_Glacier_beginAnew τ (s_Glacier_day σ))).1 (s_Teacher_readList (s_Tokens_readFrom A K) (s_Orders_clear U G).2 (0, -1) new_nm new_nm new_nm new_nm new_nm (s_Orders_clear U G).1 (s_Glacier_beginAnew τ (s_Glacier_day σ))).2.2.1)) (mo_sz' p.2.1 0) p.2.2 (s_Model_begin p.2.2 Y)) ∧ (¬ (s_Teacher_error (s_Teacher_readList (s_Tokens_readFrom A K) (s_Orders_clear U G).2 (0, -1) new_nm new_nm new_nm new_nm new_nm (s_Orders_clear U G).1 (s_Glacier_beginAnew τ (s_Glacier_day σ))).1 (s_Teacher_readList (s_Tokens_readFrom A K) (s_Orders_clear U G).2 (0, -1) new_nm new_nm new_nm new_nm new_nm (s_Orders_clear U G).1 (s_Glacier_beginAnew τ (s_Glacier_day σ))).2.2.1) = 0 → ¬ p.1 ≤ 0 ∧ (s_Teacher_error (s_Teacher_readList (s_Tokens_readFrom A K) (s_Orders_clear U G).2 (0, -1) new_nm new_nm new_nm new_nm new_nm (s_Orders_clear U G).1 (s_Glacier_beginAnew τ (s_Glacier_day σ))).1 (s_Teacher_readList (s_Tokens_readFrom A K) (s_Orders_clear U G).2 (0, -1) new_nm new_nm new_nm new_nm new_nm (s_Orders_clear U G).1 (s_Glacier_beginAnew τ (s_Glacier_day σ))).2.2.1) = p.1 ∧ R (n + 1) (s_Tape_cut A 0) σ T F (cp_ep' P (s_Teacher_errorPosition (s_Teacher_readList (s_Tokens_readFrom A K) (s_Orders_clear U G).2 (0, -1) new_nm new_nm new_nm new_nm new_nm (s_Orders_clear U G).1 (s_Glacier_beginAnew τ (s_Glacier_day σ))).1 (s_Teacher_readList (s_Tokens_readFrom A K) (s_Orders_clear U G).2 (0, -1) new_nm new_nm new_nm new_nm new_nm (s_Orders_clear U G).1 (s_Glacier_beginAnew τ (s_Glacier_day σ))).2.2.1)) (mo_sz' p.2.1 0) H Y) ∧ WFG (s_Teacher_readList (s_Tokens_readFrom A K) (s_Orders_clear U G).2 (0, -1) new_nm new_nm new_nm new_nm new_nm (s_Orders_clear U G).1 (s_Glacier_beginAnew τ (s_Glacier_day σ))).2.2.2.2.2.2.2.2.2 ∧ (s_Teacher_readList (s_Tokens_readFrom A K) (s_Orders_clear U G).2 (0, -1) new_nm new_nm new_nm new_nm new_nm (s_Orders_clear U G).1 (s_Glacier_beginAnew τ (s_Glacier_day σ))).2.2.2.2.2.2.2.2.1.2 ≤ 20 := hp.2.2.2.2.2.2.2.2.2.2.2.2.2.2.2.2.2.2.2.2.2.1
theorem PureOK.p_errorAt {R : RelT} (hp : PureOK R) : ∀ {n : Nat} {A : TA} {K : TK} {σ τ : GL} {T : TM} {F : FM} {U : TM} {G : FM} {P : CP} {M : MO} {H : SH} {Y : SX}, n < 512 → R n A σ T F P M H Y → (s_Camp_errorAt A K σ τ T F U G P) = (s_Model_errorAt M H Y).1 ∧ R (n + 1) A σ T F P (s_Model_errorAt M H Y).2 H Y := hp.2.2.2.2.2.2.2.2.2.2.2.2.2.2.2.2.2.2.2.2.2.2.1
theorem PureOK.p_mean {R : RelT} (hp : PureOK R) : ∀ {n : Nat} {A : TA} {K : TK} {σ τ : GL} {T : TM} {F : FM} {U : TM} {G : FM} {P : CP} {M : MO} {H : SH} {Y : SX}, n < 512 → R n A σ T F P M H Y → (s_Camp_mean A K σ τ T F U G P) = (s_Model_mean M H Y).1 ∧ (¬ nI (gN σ 0) ≤ 0 → vf_n64 (FP.ddiv (FP.i2d (gSum σ 0 1)) (FP.i2d (nI (gN σ 0))))) ∧ (¬ (nI (sh_ha H 0)) = 0 → vf_n64 (FP.ddiv (FP.i2d (l_Model_mean_9 (mo_th' M 0) H Y (sh_ha H 0) 0 0)) (FP.i2d (nI (sh_ha H 0))))) ∧ R (n + 1) A σ T F P (s_Model_mean M H Y).2 H Y := hp.2.2.2.2.2.2.2.2.2.2.2.2.2.2.2.2.2.2.2.2.2.2.2.1
theorem PureOK.p_digest {R : RelT} (hp : PureOK R) : ∀ {n : Nat} {A : TA} {K : TK} {σ τ : GL} {T : TM} {F : FM} {U : TM} {G : FM} {P : CP} {M : MO} {H : SH} {Y : SX}, n < 512 → R n A σ T F P M H Y → (s_Camp_digest A K σ τ T F U G P) = (s_Model_digest M H Y).1 ∧ R (n + 1) A σ T F P (s_Model_digest M H Y).2 H Y := hp.2.2.2.2.2.2.2.2.2.2.2.2.2.2.2.2.2.2.2.2.2.2.2.2.1
theorem PureOK.p_none {R : RelT} (hp : PureOK R) : ∀ {n : Nat} {A : TA} {σ : GL} {T : TM} {F : FM} {P : CP} {M : MO} {H : SH} {Y : SX}, n < 512 → R n A σ T F P M H Y → R (n + 1) A σ T F P M H Y := hp.2.2.2.2.2.2.2.2.2.2.2.2.2.2.2.2.2.2.2.2.2.2.2.2.2
def ST (Γ : G9) (sg tx wd ms : Nat → Nat) (sw sa wa sn b L : Nat) (xs : Nat → Int32) : Prop := (SgOk Γ sg) ∧ (SgNe sg) ∧ (SwOk Γ sw) ∧ (MsOk Γ ms) ∧ (ThOk Γ) ∧ (NcOk Γ) ∧ (CsOk Γ) ∧ (TxOk Γ sg tx) ∧ (SaOk Γ sg sa) ∧ (WdOk Γ wa wd) ∧ (SnOk Γ sn) ∧ (AoOk Γ) ∧ (ScOk Γ b L xs)
theorem ST.hs {Γ : G9} {sg tx wd ms : Nat → Nat} {sw sa wa sn b L : Nat} {xs : Nat → Int32} (h : ST Γ sg tx wd ms sw sa wa sn b L xs) : SgOk Γ sg := h.1
theorem ST.hsn {Γ : G9} {sg tx wd ms : Nat → Nat} {sw sa wa sn b L : Nat} {xs : Nat → Int32} (h : ST Γ sg tx wd ms sw sa wa sn b L xs) : SgNe sg := h.2.1
theorem ST.hw {Γ : G9} {sg tx wd ms : Nat → Nat} {sw sa wa sn b L : Nat} {xs : Nat → Int32} (h : ST Γ sg tx wd ms sw sa wa sn b L xs) : SwOk Γ sw := h.2.2.1
theorem ST.hms {Γ : G9} {sg tx wd ms : Nat → Nat} {sw sa wa sn b L : Nat} {xs : Nat → Int32} (h : ST Γ sg tx wd ms sw sa wa sn b L xs) : MsOk Γ ms := h.2.2.2.1
theorem ST.hth {Γ : G9} {sg tx wd ms : Nat → Nat} {sw sa wa sn b L : Nat} {xs : Nat → Int32} (h : ST Γ sg tx wd ms sw sa wa sn b L xs) : ThOk Γ := h.2.2.2.2.1
theorem ST.hnc {Γ : G9} {sg tx wd ms : Nat → Nat} {sw sa wa sn b L : Nat} {xs : Nat → Int32} (h : ST Γ sg tx wd ms sw sa wa sn b L xs) : NcOk Γ := h.2.2.2.2.2.1
theorem ST.hcs {Γ : G9} {sg tx wd ms : Nat → Nat} {sw sa wa sn b L : Nat} {xs : Nat → Int32} (h : ST Γ sg tx wd ms sw sa wa sn b L xs) : CsOk Γ := h.2.2.2.2.2.2.1
theorem ST.htx {Γ : G9} {sg tx wd ms : Nat → Nat} {sw sa wa sn b L : Nat} {xs : Nat → Int32} (h : ST Γ sg tx wd ms sw sa wa sn b L xs) : TxOk Γ sg tx := h.2.2.2.2.2.2.2.1
theorem ST.hsa {Γ : G9} {sg tx wd ms : Nat → Nat} {sw sa wa sn b L : Nat} {xs : Nat → Int32} (h : ST Γ sg tx wd ms sw sa wa sn b L xs) : SaOk Γ sg sa := h.2.2.2.2.2.2.2.2.1
theorem ST.hwd {Γ : G9} {sg tx wd ms : Nat → Nat} {sw sa wa sn b L : Nat} {xs : Nat → Int32} (h : ST Γ sg tx wd ms sw sa wa sn b L xs) : WdOk Γ wa wd := h.2.2.2.2.2.2.2.2.2.1
theorem ST.hsg {Γ : G9} {sg tx wd ms : Nat → Nat} {sw sa wa sn b L : Nat} {xs : Nat → Int32} (h : ST Γ sg tx wd ms sw sa wa sn b L xs) : SnOk Γ sn := h.2.2.2.2.2.2.2.2.2.2.1
theorem ST.hao {Γ : G9} {sg tx wd ms : Nat → Nat} {sw sa wa sn b L : Nat} {xs : Nat → Int32} (h : ST Γ sg tx wd ms sw sa wa sn b L xs) : AoOk Γ := h.2.2.2.2.2.2.2.2.2.2.2.1
theorem ST.hsc {Γ : G9} {sg tx wd ms : Nat → Nat} {sw sa wa sn b L : Nat} {xs : Nat → Int32} (h : ST Γ sg tx wd ms sw sa wa sn b L xs) : ScOk Γ b L xs := h.2.2.2.2.2.2.2.2.2.2.2.2
abbrev LF (R : RelT) (Γ : G9) (c m r r2 w n z : Nat) (h : AH) (f : Nat → Int64) (g g2 o o2 q : Nat) (A : TA) (σ τ : GL) (T : TM) (F : FM) (U : TM) (P : CP) (M : MO) (H : SH) (Y : SX) : Prop := (c + 7 ≤ g ∧ c + 7 ≤ g2 ∧ (g + 12 ≤ g2 ∨ g2 + 12 ≤ g) ∧ g + 12 ≤ o ∧ g + 12 ≤ o2 ∧ g2 + 12 ≤ o ∧ g2 + 12 ≤ o2 ∧ (o + 7 ≤ o2 ∨ o2 + 7 ≤ o) ∧ o + 7 ≤ m ∧ o2 + 7 ≤ m ∧ m + 2 ≤ q ∧ m + 2 ≤ r ∧ r + 21 ≤ r2 ∧ r2 + 21 ≤ w ∧ (q + 24 ≤ r ∨ w + 1 ≤ q)) ∧ (q + 24 ≤ z ∧ w + 1 ≤ z) ∧ (h w = some (aJ Γ 1 f)) ∧ (h o = some (.inr (3, [.ref (o + 1), .ref (o + 3)]))) ∧ (h o2 = some (.inr (3, [.ref (o2 + 1), .ref (o2 + 3)]))) ∧ (R n A σ T F P M H Y) ∧ (WFG τ) ∧ (U.2 ≤ 20)
/-- the loop's head, n calls being done -/
def LHead (R : RelT) (Γ : G9) (sg : Nat → Nat) (b c m r r2 w : Nat) (Q : QT) (n i C S : Nat) : Prop := ∀ (z : Nat) (h : AH) (f : Nat → Int64) (g g2 o o2 q : Nat) (A : TA) (K : TK) (σ τ : GL) (T : TM) (F : FM) (U : TM) (G : FM) (P : CP) (M : MO) (H : SH) (Y Ah : SX) (ow : Nat), LF R Γ c m r r2 w n z h f g g2 o o2 q A σ τ T F U P M H Y → Go Γ M_law 200 C S 23 [some (.ref b), some (.ref c), some (.ref m), some (.ref w), some (.int (nI i)), none, none, none, none] [] (cw_ Γ sg (mf_ Γ h m q r r2 M H Y Ah ow) c g g2 o o2 A K σ τ T F U G P) z Q noX
set_option maxRecDepth 100000 in
set_option maxHeartbeats 800000 in
theorem lc_trim {R : RelT} {Γ : G9} {sg tx wd ms : Nat → Nat} {sw sa wa sn b L : Nat} {xs : Nat → Int32} {c m r r2 w n i z C S g g2 o o2 q : Nat} {h : AH} {f : Nat → Int64} {Q : QT} {A : TA} {K : TK} {σ τ : GL} {T : TM} {F : FM} {U : TM} {G : FM} {P : CP} {M : MO} {H : SH} {Y Ah : SX} {ow : Nat} (hst : ST Γ sg tx wd ms sw sa wa sn b L xs) (hp : PureOK R) (hi : i + 6 ≤ L) (hL : L ≤ 3072) (hn : n < 512) (k : LHead R Γ sg b c m r r2 w Q (n + 1) (i + 6) C S) (lf : LF R Γ c m r r2 w n z h f g g2 o o2 q A σ τ T F U P M H Y) {j9 : Nat} (hj9 : j9 < 2 ^ 31) (e9 : xs (i + 1) = nI j9) : Go Γ M_law 200 (C + 40) (S + 2000) 252 [some (.ref b), some (.ref c), some (.ref m), some (.ref w), some (.int (nI i)), none, none, none, none] [] (cw_ Γ sg (mf_ Γ h m q r r2 M H Y Ah ow) c g g2 o o2 A K σ τ T F U G P) z Q noX := by
  obtain ⟨geo, hz, hw0, ho, ho2, rel, hV, hU⟩ := lf
  obtain ⟨hA, hT, hW, hsz, hB, hS, hC, hD, hE, hO, hdy⟩ := hp.bnd rel
  have pf := hp.p_trim (K := K) (τ := τ) (U := U) (G := G) (x1 := j9) hn rel hV hU hj9
  obtain ⟨hth, hv, hrel⟩ := pf
  refine Go.aload_1 d_law_252 rfl ?_
  refine Go.aload_0 d_law_253 rfl ?_
  refine Go.iload_4 d_law_254 rfl ?_
  refine Go.iconst (v := 1) d_law_256 rfl (by decide) ?_
  refine Go.iadd d_law_257 rfl ?_
  rw [show nI i + 1 = nI (i + 1) from nI_add _ _]
  refine Go.sld d_law_258 rfl hst.hsc (vp_in_nI (by omega) (by omega)) ?_
  rw [nI_clamp (show i + 1 < 2 ^ 31 by omega)]
  refine Go.aload_3 d_law_259 rfl ?_
  refine Go.callSW (C1 := C + 36) (S1 := S + 1976) (as := [.ref c, .int (xs (i + 1)), .ref w]) d_law_260 rfl l_Law_91 k_Law_trim_s (List.cons_ne_nil _ _) rfl rfl (w_trim e9 hj9 hst.hs hst.hsn hst.hw (by omega) hA ((mf_outlo (by omega)).trans ho) ((mf_outlo (by omega)).trans ho2) hT hU hW hV hst.hms hst.hth ((mf_outw (by omega)).trans hw0) hst.hnc) (by decide) (by decide) (by omega) (by omega) (Nat.le_of_ble_eq_true rfl) (fun E h9 z9 hx _ => hx.elim) (fun v9 h9 z9 hx hz9 => ?_)
  obtain ⟨hz1, hx⟩ := hx
  obtain ⟨f1, rfl, rfl, hf⟩ := wr_uni (F := fun hh => (cw_ Γ sg hh c g g2 o o2 (s_Camp_trim A K σ τ T F U G P j9).2.2 K σ τ T F U G P)) ((mf_outw (by omega)).trans hw0) hx
  refine Go.heq (h' := (cw_ Γ sg (mf_ Γ (hup h w (aJ Γ 1 f1)) m q r r2 M H Y Ah ow) c g g2 o o2 (s_Camp_trim A K σ τ T F U G P j9).2.2 K σ τ T F U G P)) (congrArg (fun hh => (cw_ Γ sg hh c g g2 o o2 (s_Camp_trim A K σ τ T F U G P j9).2.2 K σ τ T F U G P)) (mf_hup geo)) ?_
  have ho : (hup h w (aJ Γ 1 f1)) o = _ := (hup_ne (by omega)).trans ho
  have ho2 : (hup h w (aJ Γ 1 f1)) o2 = _ := (hup_ne (by omega)).trans ho2
  refine Go.istore_5 d_law_263 rfl (by rfl) ?_
  refine Go.aload_2 d_law_265 rfl ?_
  refine Go.aload_0 d_law_266 rfl ?_
  refine Go.iload_4 d_law_267 rfl ?_
  refine Go.iconst (v := 1) d_law_269 rfl (by decide) ?_
  refine Go.iadd d_law_270 rfl ?_
  rw [show nI i + 1 = nI (i + 1) from nI_add _ _]
  refine Go.sld d_law_271 rfl hst.hsc (vp_in_nI (by omega) (by omega)) ?_
  rw [nI_clamp (show i + 1 < 2 ^ 31 by omega)]
  refine Go.heq (lw_s geo) ?_
  refine Go.cv1r d_law_272 rfl l_Law_94 k_Model_trim_v (ms_at_m (by omega) hB hS hC hD hE) rfl (c_Model_trim e9 hj9 (by omega) hB hS hC hD hE) (by rfl) rfl rfl ?_
  refine Go.heq (lw_s geo).symm ?_
  refine Go.istore_6 d_law_275 rfl (by rfl) ?_
  refine Go.aload_2 d_law_277 rfl ?_
  refine Go.heq (lw_s geo) ?_
  refine Go.cv0r d_law_278 rfl l_Law_87 k_Model_thrown_v (ms_at_m (by omega) hB hS hC hD hE) rfl (c_Model_thrown (by omega) hB hS hC hD hE) (by rfl) rfl rfl ?_
  refine Go.heq (lw_s geo).symm ?_
  refine Go.iload_5 d_law_281 rfl ?_
  refine Go.icmp_eq (t := 288) d_law_283 (by decide) rfl (fun _ => ?_) (fun ne => absurd hth ne)
  refine Go.iload_5 d_law_288 rfl ?_
  refine Go.if_ne (t := 305) d_law_290 (by decide) rfl (fun c5 => ?_) (fun c5 => ?_)
  · refine Go.goto (t := 1548) d_law_305 (by decide) ?_
    refine Go.iinc_4 d_law_1548 rfl (by rfl) nI_inc6 ?_
    refine Go.goto (t := 23) d_law_1551 (by decide) ?_
    refine Go.fgt [some (.ref b), some (.ref c), some (.ref m), some (.ref w), some (.int (nI (i + 6))), none, none, none, none] (by repeat' (first | exact trivial | refine ⟨rfl, ?_⟩)) ?_
    exact Go.room (k _ _ _ _ _ _ _ _ _ _ _ _ _ _ _ _ _ _ _ _ _ _ ⟨geo, by omega, hup_at, ho, ho2, hrel, hV, hU⟩) (Nat.le_refl _) (by omega) (by omega)
  · have ht : (s_Camp_trim A K σ τ T F U G P j9).1 = 0 := Classical.byContradiction fun w9 => by
      rw [if_neg w9] at c5
      exact absurd c5 (by decide)
    refine Go.aload_3 d_law_293 rfl ?_
    refine Go.iconst (v := 0) d_law_294 rfl (by decide) ?_
    refine Go.laload d_law_295 rfl ((cw_outu (by omega)).trans ((mf_outw (by omega)).trans hup_at)) (show vp_in (nI 0) 1 from vp_in_nI (by decide) (by decide)) ?_
    rw [show (0 : Int32).toNatClampNeg = 0 from by decide, hf ht]
    refine Go.iload_6 d_law_296 rfl ?_
    refine Go.i2l d_law_298 rfl ?_
    refine Go.lcmp d_law_299 rfl ?_
    rw [hv ht, lg_self]
    refine Go.if_eq (t := 305) d_law_300 (by decide) rfl (fun _ => ?_) (fun ne => absurd rfl ne)
    refine Go.goto (t := 1548) d_law_305 (by decide) ?_
    refine Go.iinc_4 d_law_1548 rfl (by rfl) nI_inc6 ?_
    refine Go.goto (t := 23) d_law_1551 (by decide) ?_
    refine Go.fgt [some (.ref b), some (.ref c), some (.ref m), some (.ref w), some (.int (nI (i + 6))), none, none, none, none] (by repeat' (first | exact trivial | refine ⟨rfl, ?_⟩)) ?_
    exact Go.room (k _ _ _ _ _ _ _ _ _ _ _ _ _ _ _ _ _ _ _ _ _ _ ⟨geo, by omega, hup_at, ho, ho2, hrel, hV, hU⟩) (Nat.le_refl _) (by omega) (by omega)
set_option maxRecDepth 100000 in
set_option maxHeartbeats 800000 in
theorem lc_trimN {R : RelT} {Γ : G9} {sg tx wd ms : Nat → Nat} {sw sa wa sn b L : Nat} {xs : Nat → Int32} {c m r r2 w n i z C S g g2 o o2 q : Nat} {h : AH} {f : Nat → Int64} {Q : QT} {A : TA} {K : TK} {σ τ : GL} {T : TM} {F : FM} {U : TM} {G : FM} {P : CP} {M : MO} {H : SH} {Y Ah : SX} {ow : Nat} (hst : ST Γ sg tx wd ms sw sa wa sn b L xs) (hp : PureOK R) (hi : i + 6 ≤ L) (hL : L ≤ 3072) (hn : n < 512) (k : LHead R Γ sg b c m r r2 w Q (n + 1) (i + 6) C S) (lf : LF R Γ c m r r2 w n z h f g g2 o o2 q A σ τ T F U P M H Y) (hneg : xs (i + 1) < 0) : Go Γ M_law 200 (C + 40) (S + 2000) 252 [some (.ref b), some (.ref c), some (.ref m), some (.ref w), some (.int (nI i)), none, none, none, none] [] (cw_ Γ sg (mf_ Γ h m q r r2 M H Y Ah ow) c g g2 o o2 A K σ τ T F U G P) z Q noX := by
  obtain ⟨geo, hz, hw0, ho, ho2, rel, hV, hU⟩ := lf
  obtain ⟨hA, hT, hW, hsz, hB, hS, hC, hD, hE, hO, hdy⟩ := hp.bnd rel
  have pf := hp.p_trimN (K := K) (τ := τ) (U := U) (G := G) (x1 := (xs (i + 1))) hn rel hV hU hneg
  obtain ⟨hth, hv, hrel⟩ := pf
  refine Go.aload_1 d_law_252 rfl ?_
  refine Go.aload_0 d_law_253 rfl ?_
  refine Go.iload_4 d_law_254 rfl ?_
  refine Go.iconst (v := 1) d_law_256 rfl (by decide) ?_
  refine Go.iadd d_law_257 rfl ?_
  rw [show nI i + 1 = nI (i + 1) from nI_add _ _]
  refine Go.sld d_law_258 rfl hst.hsc (vp_in_nI (by omega) (by omega)) ?_
  rw [nI_clamp (show i + 1 < 2 ^ 31 by omega)]
  refine Go.aload_3 d_law_259 rfl ?_
  refine Go.callSW (C1 := C + 36) (S1 := S + 1976) (as := [.ref c, .int (xs (i + 1)), .ref w]) d_law_260 rfl l_Law_91 k_Law_trim_s (List.cons_ne_nil _ _) rfl rfl (w_trimN hneg hst.hs hst.hsn hst.hw (by omega) hA ((mf_outlo (by omega)).trans ho) ((mf_outlo (by omega)).trans ho2) hT hU hW hV hst.hms hst.hth ((mf_outw (by omega)).trans hw0) hst.hnc) (by decide) (by decide) (by omega) (by omega) (Nat.le_of_ble_eq_true rfl) (fun E h9 z9 hx _ => hx.elim) (fun v9 h9 z9 hx hz9 => ?_)
  obtain ⟨hz1, hx⟩ := hx
  obtain ⟨f1, rfl, rfl, hf⟩ := wr_uni (F := fun hh => (cw_ Γ sg hh c g g2 o o2 (s_Camp_trimN A K σ τ T F U G P (xs (i + 1))).2.2 K σ τ T F U G P)) ((mf_outw (by omega)).trans hw0) hx
  refine Go.heq (h' := (cw_ Γ sg (mf_ Γ (hup h w (aJ Γ 1 f1)) m q r r2 M H Y Ah ow) c g g2 o o2 (s_Camp_trimN A K σ τ T F U G P (xs (i + 1))).2.2 K σ τ T F U G P)) (congrArg (fun hh => (cw_ Γ sg hh c g g2 o o2 (s_Camp_trimN A K σ τ T F U G P (xs (i + 1))).2.2 K σ τ T F U G P)) (mf_hup geo)) ?_
  have ho : (hup h w (aJ Γ 1 f1)) o = _ := (hup_ne (by omega)).trans ho
  have ho2 : (hup h w (aJ Γ 1 f1)) o2 = _ := (hup_ne (by omega)).trans ho2
  refine Go.istore_5 d_law_263 rfl (by rfl) ?_
  refine Go.aload_2 d_law_265 rfl ?_
  refine Go.aload_0 d_law_266 rfl ?_
  refine Go.iload_4 d_law_267 rfl ?_
  refine Go.iconst (v := 1) d_law_269 rfl (by decide) ?_
  refine Go.iadd d_law_270 rfl ?_
  rw [show nI i + 1 = nI (i + 1) from nI_add _ _]
  refine Go.sld d_law_271 rfl hst.hsc (vp_in_nI (by omega) (by omega)) ?_
  rw [nI_clamp (show i + 1 < 2 ^ 31 by omega)]
  refine Go.heq (lw_s geo) ?_
  refine Go.cv1r d_law_272 rfl l_Law_94 k_Model_trim_v (ms_at_m (by omega) hB hS hC hD hE) rfl (c_Model_trimN (by omega) hB hS hC hD hE hneg) (by rfl) rfl rfl ?_
  refine Go.heq (lw_s geo).symm ?_
  refine Go.istore_6 d_law_275 rfl (by rfl) ?_
  refine Go.aload_2 d_law_277 rfl ?_
  refine Go.heq (lw_s geo) ?_
  refine Go.cv0r d_law_278 rfl l_Law_87 k_Model_thrown_v (ms_at_m (by omega) hB hS hC hD hE) rfl (c_Model_thrown (by omega) hB hS hC hD hE) (by rfl) rfl rfl ?_
  refine Go.heq (lw_s geo).symm ?_
  refine Go.iload_5 d_law_281 rfl ?_
  refine Go.icmp_eq (t := 288) d_law_283 (by decide) rfl (fun _ => ?_) (fun ne => absurd hth ne)
  refine Go.iload_5 d_law_288 rfl ?_
  refine Go.if_ne (t := 305) d_law_290 (by decide) rfl (fun c5 => ?_) (fun c5 => ?_)
  · refine Go.goto (t := 1548) d_law_305 (by decide) ?_
    refine Go.iinc_4 d_law_1548 rfl (by rfl) nI_inc6 ?_
    refine Go.goto (t := 23) d_law_1551 (by decide) ?_
    refine Go.fgt [some (.ref b), some (.ref c), some (.ref m), some (.ref w), some (.int (nI (i + 6))), none, none, none, none] (by repeat' (first | exact trivial | refine ⟨rfl, ?_⟩)) ?_
    exact Go.room (k _ _ _ _ _ _ _ _ _ _ _ _ _ _ _ _ _ _ _ _ _ _ ⟨geo, by omega, hup_at, ho, ho2, hrel, hV, hU⟩) (Nat.le_refl _) (by omega) (by omega)
  · have ht : (s_Camp_trimN A K σ τ T F U G P (xs (i + 1))).1 = 0 := Classical.byContradiction fun w9 => by
      rw [if_neg w9] at c5
      exact absurd c5 (by decide)
    refine Go.aload_3 d_law_293 rfl ?_
    refine Go.iconst (v := 0) d_law_294 rfl (by decide) ?_
    refine Go.laload d_law_295 rfl ((cw_outu (by omega)).trans ((mf_outw (by omega)).trans hup_at)) (show vp_in (nI 0) 1 from vp_in_nI (by decide) (by decide)) ?_
    rw [show (0 : Int32).toNatClampNeg = 0 from by decide, hf ht]
    refine Go.iload_6 d_law_296 rfl ?_
    refine Go.i2l d_law_298 rfl ?_
    refine Go.lcmp d_law_299 rfl ?_
    rw [hv ht, lg_self]
    refine Go.if_eq (t := 305) d_law_300 (by decide) rfl (fun _ => ?_) (fun ne => absurd rfl ne)
    refine Go.goto (t := 1548) d_law_305 (by decide) ?_
    refine Go.iinc_4 d_law_1548 rfl (by rfl) nI_inc6 ?_
    refine Go.goto (t := 23) d_law_1551 (by decide) ?_
    refine Go.fgt [some (.ref b), some (.ref c), some (.ref m), some (.ref w), some (.int (nI (i + 6))), none, none, none, none] (by repeat' (first | exact trivial | refine ⟨rfl, ?_⟩)) ?_
    exact Go.room (k _ _ _ _ _ _ _ _ _ _ _ _ _ _ _ _ _ _ _ _ _ _ ⟨geo, by omega, hup_at, ho, ho2, hrel, hV, hU⟩) (Nat.le_refl _) (by omega) (by omega)
set_option maxRecDepth 100000 in
set_option maxHeartbeats 800000 in
theorem lc_count {R : RelT} {Γ : G9} {sg tx wd ms : Nat → Nat} {sw sa wa sn b L : Nat} {xs : Nat → Int32} {c m r r2 w n i z C S g g2 o o2 q : Nat} {h : AH} {f : Nat → Int64} {Q : QT} {A : TA} {K : TK} {σ τ : GL} {T : TM} {F : FM} {U : TM} {G : FM} {P : CP} {M : MO} {H : SH} {Y Ah : SX} {ow : Nat} (hst : ST Γ sg tx wd ms sw sa wa sn b L xs) (hp : PureOK R) (hi : i + 6 ≤ L) (hL : L ≤ 3072) (hn : n < 512) (k : LHead R Γ sg b c m r r2 w Q (n + 1) (i + 6) C S) (lf : LF R Γ c m r r2 w n z h f g g2 o o2 q A σ τ T F U P M H Y) : Go Γ M_law 200 (C + 40) (S + 2000) 334 [some (.ref b), some (.ref c), some (.ref m), some (.ref w), some (.int (nI i)), none, none, none, none] [] (cw_ Γ sg (mf_ Γ h m q r r2 M H Y Ah ow) c g g2 o o2 A K σ τ T F U G P) z Q noX := by
  obtain ⟨geo, hz, hw0, ho, ho2, rel, hV, hU⟩ := lf
  obtain ⟨hA, hT, hW, hsz, hB, hS, hC, hD, hE, hO, hdy⟩ := hp.bnd rel
  have pf := hp.p_count (K := K) (τ := τ) (U := U) (G := G) (x1 := (xs (i + 1))) hn rel hV hU
  obtain ⟨hth, hv, hrel⟩ := pf
  refine Go.aload_1 d_law_334 rfl ?_
  refine Go.aload_0 d_law_335 rfl ?_
  refine Go.iload_4 d_law_336 rfl ?_
  refine Go.iconst (v := 1) d_law_338 rfl (by decide) ?_
  refine Go.iadd d_law_339 rfl ?_
  rw [show nI i + 1 = nI (i + 1) from nI_add _ _]
  refine Go.sld d_law_340 rfl hst.hsc (vp_in_nI (by omega) (by omega)) ?_
  rw [nI_clamp (show i + 1 < 2 ^ 31 by omega)]
  refine Go.aload_3 d_law_341 rfl ?_
  refine Go.callSW (C1 := C + 36) (S1 := S + 1976) (as := [.ref c, .int (xs (i + 1)), .ref w]) d_law_342 rfl l_Law_103 k_Law_count_s (List.cons_ne_nil _ _) rfl rfl (w_count hst.hs hst.hsn hst.hw (by omega) hA ((mf_outlo (by omega)).trans ho) ((mf_outlo (by omega)).trans ho2) hT hU hW hV hst.hms hst.hth ((mf_outw (by omega)).trans hw0) hst.hnc) (by decide) (by decide) (by omega) (by omega) (Nat.le_of_ble_eq_true rfl) (fun E h9 z9 hx _ => hx.elim) (fun v9 h9 z9 hx hz9 => ?_)
  obtain ⟨hz1, hx⟩ := hx
  obtain ⟨f1, rfl, rfl, hf⟩ := wr_uni (F := fun hh => (cw_ Γ sg hh c g g2 o o2 A K σ τ T F U G P)) ((mf_outw (by omega)).trans hw0) hx
  refine Go.heq (h' := (cw_ Γ sg (mf_ Γ (hup h w (aJ Γ 1 f1)) m q r r2 M H Y Ah ow) c g g2 o o2 A K σ τ T F U G P)) (congrArg (fun hh => (cw_ Γ sg hh c g g2 o o2 A K σ τ T F U G P)) (mf_hup geo)) ?_
  have ho : (hup h w (aJ Γ 1 f1)) o = _ := (hup_ne (by omega)).trans ho
  have ho2 : (hup h w (aJ Γ 1 f1)) o2 = _ := (hup_ne (by omega)).trans ho2
  refine Go.istore_5 d_law_345 rfl (by rfl) ?_
  refine Go.aload_2 d_law_347 rfl ?_
  refine Go.aload_0 d_law_348 rfl ?_
  refine Go.iload_4 d_law_349 rfl ?_
  refine Go.iconst (v := 1) d_law_351 rfl (by decide) ?_
  refine Go.iadd d_law_352 rfl ?_
  rw [show nI i + 1 = nI (i + 1) from nI_add _ _]
  refine Go.sld d_law_353 rfl hst.hsc (vp_in_nI (by omega) (by omega)) ?_
  rw [nI_clamp (show i + 1 < 2 ^ 31 by omega)]
  refine Go.heq (lw_s geo) ?_
  refine Go.cv1r d_law_354 rfl l_Law_105 k_Model_count_v (ms_at_m (by omega) hB hS hC hD hE) rfl (c_Model_count (by omega) hB hS hC hD hE hdy) (by rfl) rfl rfl ?_
  refine Go.heq (lw_s geo).symm ?_
  refine Go.istore_6 d_law_357 rfl (by rfl) ?_
  refine Go.aload_2 d_law_359 rfl ?_
  refine Go.heq (lw_s geo) ?_
  refine Go.cv0r d_law_360 rfl l_Law_87 k_Model_thrown_v (ms_at_m (by omega) hB hS hC hD hE) rfl (c_Model_thrown (by omega) hB hS hC hD hE) (by rfl) rfl rfl ?_
  refine Go.heq (lw_s geo).symm ?_
  refine Go.iload_5 d_law_363 rfl ?_
  refine Go.icmp_eq (t := 370) d_law_365 (by decide) rfl (fun _ => ?_) (fun ne => absurd hth ne)
  refine Go.iload_5 d_law_370 rfl ?_
  refine Go.if_ne (t := 387) d_law_372 (by decide) rfl (fun c5 => ?_) (fun c5 => ?_)
  · refine Go.goto (t := 1548) d_law_387 (by decide) ?_
    refine Go.iinc_4 d_law_1548 rfl (by rfl) nI_inc6 ?_
    refine Go.goto (t := 23) d_law_1551 (by decide) ?_
    refine Go.fgt [some (.ref b), some (.ref c), some (.ref m), some (.ref w), some (.int (nI (i + 6))), none, none, none, none] (by repeat' (first | exact trivial | refine ⟨rfl, ?_⟩)) ?_
    exact Go.room (k _ _ _ _ _ _ _ _ _ _ _ _ _ _ _ _ _ _ _ _ _ _ ⟨geo, by omega, hup_at, ho, ho2, hrel, hV, hU⟩) (Nat.le_refl _) (by omega) (by omega)
  · have ht : (s_Camp_count A K σ τ T F U G P (xs (i + 1))).1 = 0 := Classical.byContradiction fun w9 => by
      rw [if_neg w9] at c5
      exact absurd c5 (by decide)
    refine Go.aload_3 d_law_375 rfl ?_
    refine Go.iconst (v := 0) d_law_376 rfl (by decide) ?_
    refine Go.laload d_law_377 rfl ((cw_outu (by omega)).trans ((mf_outw (by omega)).trans hup_at)) (show vp_in (nI 0) 1 from vp_in_nI (by decide) (by decide)) ?_
    rw [show (0 : Int32).toNatClampNeg = 0 from by decide, hf ht]
    refine Go.iload_6 d_law_378 rfl ?_
    refine Go.i2l d_law_380 rfl ?_
    refine Go.lcmp d_law_381 rfl ?_
    rw [hv ht, lg_self]
    refine Go.if_eq (t := 387) d_law_382 (by decide) rfl (fun _ => ?_) (fun ne => absurd rfl ne)
    refine Go.goto (t := 1548) d_law_387 (by decide) ?_
    refine Go.iinc_4 d_law_1548 rfl (by rfl) nI_inc6 ?_
    refine Go.goto (t := 23) d_law_1551 (by decide) ?_
    refine Go.fgt [some (.ref b), some (.ref c), some (.ref m), some (.ref w), some (.int (nI (i + 6))), none, none, none, none] (by repeat' (first | exact trivial | refine ⟨rfl, ?_⟩)) ?_
    exact Go.room (k _ _ _ _ _ _ _ _ _ _ _ _ _ _ _ _ _ _ _ _ _ _ ⟨geo, by omega, hup_at, ho, ho2, hrel, hV, hU⟩) (Nat.le_refl _) (by omega) (by omega)
set_option maxRecDepth 100000 in
set_option maxHeartbeats 800000 in
theorem lc_band {R : RelT} {Γ : G9} {sg tx wd ms : Nat → Nat} {sw sa wa sn b L : Nat} {xs : Nat → Int32} {c m r r2 w n i z C S g g2 o o2 q : Nat} {h : AH} {f : Nat → Int64} {Q : QT} {A : TA} {K : TK} {σ τ : GL} {T : TM} {F : FM} {U : TM} {G : FM} {P : CP} {M : MO} {H : SH} {Y Ah : SX} {ow : Nat} (hst : ST Γ sg tx wd ms sw sa wa sn b L xs) (hp : PureOK R) (hi : i + 6 ≤ L) (hL : L ≤ 3072) (hn : n < 512) (k : LHead R Γ sg b c m r r2 w Q (n + 1) (i + 6) C S) (lf : LF R Γ c m r r2 w n z h f g g2 o o2 q A σ τ T F U P M H Y) : Go Γ M_law 200 (C + 40) (S + 2000) 390 [some (.ref b), some (.ref c), some (.ref m), some (.ref w), some (.int (nI i)), none, none, none, none] [] (cw_ Γ sg (mf_ Γ h m q r r2 M H Y Ah ow) c g g2 o o2 A K σ τ T F U G P) z Q noX := by
  obtain ⟨geo, hz, hw0, ho, ho2, rel, hV, hU⟩ := lf
  obtain ⟨hA, hT, hW, hsz, hB, hS, hC, hD, hE, hO, hdy⟩ := hp.bnd rel
  have pf := hp.p_band (K := K) (τ := τ) (U := U) (G := G) (x1 := (xs (i + 1))) (x2 := (xs (i + 2))) hn rel hV hU
  obtain ⟨hth, hv, hrel⟩ := pf
  refine Go.aload_1 d_law_390 rfl ?_
  refine Go.aload_0 d_law_391 rfl ?_
  refine Go.iload_4 d_law_392 rfl ?_
  refine Go.iconst (v := 1) d_law_394 rfl (by decide) ?_
  refine Go.iadd d_law_395 rfl ?_
  rw [show nI i + 1 = nI (i + 1) from nI_add _ _]
  refine Go.sld d_law_396 rfl hst.hsc (vp_in_nI (by omega) (by omega)) ?_
  rw [nI_clamp (show i + 1 < 2 ^ 31 by omega)]
  refine Go.aload_0 d_law_397 rfl ?_
  refine Go.iload_4 d_law_398 rfl ?_
  refine Go.iconst (v := 2) d_law_400 rfl (by decide) ?_
  refine Go.iadd d_law_401 rfl ?_
  rw [show nI i + 2 = nI (i + 2) from nI_add _ _]
  refine Go.sld d_law_402 rfl hst.hsc (vp_in_nI (by omega) (by omega)) ?_
  rw [nI_clamp (show i + 2 < 2 ^ 31 by omega)]
  refine Go.aload_3 d_law_403 rfl ?_
  refine Go.callSW (C1 := C + 36) (S1 := S + 1976) (as := [.ref c, .int (xs (i + 1)), .int (xs (i + 2)), .ref w]) d_law_404 rfl l_Law_106 k_Law_band_s (List.cons_ne_nil _ _) rfl rfl (w_band hst.hs hst.hsn hst.hw (by omega) hA ((mf_outlo (by omega)).trans ho) ((mf_outlo (by omega)).trans ho2) hT hU hW hV hst.hms hst.hth ((mf_outw (by omega)).trans hw0) hst.hnc) (by decide) (by decide) (by omega) (by omega) (Nat.le_of_ble_eq_true rfl) (fun E h9 z9 hx _ => hx.elim) (fun v9 h9 z9 hx hz9 => ?_)
  obtain ⟨hz1, hx⟩ := hx
  obtain ⟨f1, rfl, rfl, hf⟩ := wr_uni (F := fun hh => (cw_ Γ sg hh c g g2 o o2 A K σ τ T F U G P)) ((mf_outw (by omega)).trans hw0) hx
  refine Go.heq (h' := (cw_ Γ sg (mf_ Γ (hup h w (aJ Γ 1 f1)) m q r r2 M H Y Ah ow) c g g2 o o2 A K σ τ T F U G P)) (congrArg (fun hh => (cw_ Γ sg hh c g g2 o o2 A K σ τ T F U G P)) (mf_hup geo)) ?_
  have ho : (hup h w (aJ Γ 1 f1)) o = _ := (hup_ne (by omega)).trans ho
  have ho2 : (hup h w (aJ Γ 1 f1)) o2 = _ := (hup_ne (by omega)).trans ho2
  refine Go.istore_5 d_law_407 rfl (by rfl) ?_
  refine Go.aload_2 d_law_409 rfl ?_
  refine Go.aload_0 d_law_410 rfl ?_
  refine Go.iload_4 d_law_411 rfl ?_
  refine Go.iconst (v := 1) d_law_413 rfl (by decide) ?_
  refine Go.iadd d_law_414 rfl ?_
  rw [show nI i + 1 = nI (i + 1) from nI_add _ _]
  refine Go.sld d_law_415 rfl hst.hsc (vp_in_nI (by omega) (by omega)) ?_
  rw [nI_clamp (show i + 1 < 2 ^ 31 by omega)]
  refine Go.aload_0 d_law_416 rfl ?_
  refine Go.iload_4 d_law_417 rfl ?_
  refine Go.iconst (v := 2) d_law_419 rfl (by decide) ?_
  refine Go.iadd d_law_420 rfl ?_
  rw [show nI i + 2 = nI (i + 2) from nI_add _ _]
  refine Go.sld d_law_421 rfl hst.hsc (vp_in_nI (by omega) (by omega)) ?_
  rw [nI_clamp (show i + 2 < 2 ^ 31 by omega)]
  refine Go.heq (lw_s geo) ?_
  refine Go.cv2r d_law_422 rfl l_Law_109 k_Model_band_v (ms_at_m (by omega) hB hS hC hD hE) rfl (c_Model_band (by omega) hB hS hC hD hE) (by rfl) rfl rfl ?_
  refine Go.heq (lw_s geo).symm ?_
  refine Go.istore_6 d_law_425 rfl (by rfl) ?_
  refine Go.aload_2 d_law_427 rfl ?_
  refine Go.heq (lw_s geo) ?_
  refine Go.cv0r d_law_428 rfl l_Law_87 k_Model_thrown_v (ms_at_m (by omega) hB hS hC hD hE) rfl (c_Model_thrown (by omega) hB hS hC hD hE) (by rfl) rfl rfl ?_
  refine Go.heq (lw_s geo).symm ?_
  refine Go.iload_5 d_law_431 rfl ?_
  refine Go.icmp_eq (t := 438) d_law_433 (by decide) rfl (fun _ => ?_) (fun ne => absurd hth ne)
  refine Go.iload_5 d_law_438 rfl ?_
  refine Go.if_ne (t := 455) d_law_440 (by decide) rfl (fun c5 => ?_) (fun c5 => ?_)
  · refine Go.goto (t := 1548) d_law_455 (by decide) ?_
    refine Go.iinc_4 d_law_1548 rfl (by rfl) nI_inc6 ?_
    refine Go.goto (t := 23) d_law_1551 (by decide) ?_
    refine Go.fgt [some (.ref b), some (.ref c), some (.ref m), some (.ref w), some (.int (nI (i + 6))), none, none, none, none] (by repeat' (first | exact trivial | refine ⟨rfl, ?_⟩)) ?_
    exact Go.room (k _ _ _ _ _ _ _ _ _ _ _ _ _ _ _ _ _ _ _ _ _ _ ⟨geo, by omega, hup_at, ho, ho2, hrel, hV, hU⟩) (Nat.le_refl _) (by omega) (by omega)
  · have ht : (s_Camp_band A K σ τ T F U G P (xs (i + 1)) (xs (i + 2))).1 = 0 := Classical.byContradiction fun w9 => by
      rw [if_neg w9] at c5
      exact absurd c5 (by decide)
    refine Go.aload_3 d_law_443 rfl ?_
    refine Go.iconst (v := 0) d_law_444 rfl (by decide) ?_
    refine Go.laload d_law_445 rfl ((cw_outu (by omega)).trans ((mf_outw (by omega)).trans hup_at)) (show vp_in (nI 0) 1 from vp_in_nI (by decide) (by decide)) ?_
    rw [show (0 : Int32).toNatClampNeg = 0 from by decide, hf ht]
    refine Go.iload_6 d_law_446 rfl ?_
    refine Go.i2l d_law_448 rfl ?_
    refine Go.lcmp d_law_449 rfl ?_
    rw [hv ht, lg_self]
    refine Go.if_eq (t := 455) d_law_450 (by decide) rfl (fun _ => ?_) (fun ne => absurd rfl ne)
    refine Go.goto (t := 1548) d_law_455 (by decide) ?_
    refine Go.iinc_4 d_law_1548 rfl (by rfl) nI_inc6 ?_
    refine Go.goto (t := 23) d_law_1551 (by decide) ?_
    refine Go.fgt [some (.ref b), some (.ref c), some (.ref m), some (.ref w), some (.int (nI (i + 6))), none, none, none, none] (by repeat' (first | exact trivial | refine ⟨rfl, ?_⟩)) ?_
    exact Go.room (k _ _ _ _ _ _ _ _ _ _ _ _ _ _ _ _ _ _ _ _ _ _ ⟨geo, by omega, hup_at, ho, ho2, hrel, hV, hU⟩) (Nat.le_refl _) (by omega) (by omega)
set_option maxRecDepth 100000 in
set_option maxHeartbeats 800000 in
theorem lc_stake {R : RelT} {Γ : G9} {sg tx wd ms : Nat → Nat} {sw sa wa sn b L : Nat} {xs : Nat → Int32} {c m r r2 w n i z C S g g2 o o2 q : Nat} {h : AH} {f : Nat → Int64} {Q : QT} {A : TA} {K : TK} {σ τ : GL} {T : TM} {F : FM} {U : TM} {G : FM} {P : CP} {M : MO} {H : SH} {Y Ah : SX} {ow : Nat} (hst : ST Γ sg tx wd ms sw sa wa sn b L xs) (hp : PureOK R) (hi : i + 6 ≤ L) (hL : L ≤ 3072) (hn : n < 512) (k : LHead R Γ sg b c m r r2 w Q (n + 1) (i + 6) C S) (lf : LF R Γ c m r r2 w n z h f g g2 o o2 q A σ τ T F U P M H Y) : Go Γ M_law 200 (C + 40) (S + 2000) 458 [some (.ref b), some (.ref c), some (.ref m), some (.ref w), some (.int (nI i)), none, none, none, none] [] (cw_ Γ sg (mf_ Γ h m q r r2 M H Y Ah ow) c g g2 o o2 A K σ τ T F U G P) z Q noX := by
  obtain ⟨geo, hz, hw0, ho, ho2, rel, hV, hU⟩ := lf
  obtain ⟨hA, hT, hW, hsz, hB, hS, hC, hD, hE, hO, hdy⟩ := hp.bnd rel
  have pf := hp.p_stake (K := K) (τ := τ) (U := U) (G := G) (x1 := (xs (i + 1))) (x2 := (xs (i + 2))) hn rel hV hU
  obtain ⟨hth, hv, hrel⟩ := pf
  refine Go.aload_1 d_law_458 rfl ?_
  refine Go.aload_0 d_law_459 rfl ?_
  refine Go.iload_4 d_law_460 rfl ?_
  refine Go.iconst (v := 1) d_law_462 rfl (by decide) ?_
  refine Go.iadd d_law_463 rfl ?_
  rw [show nI i + 1 = nI (i + 1) from nI_add _ _]
  refine Go.sld d_law_464 rfl hst.hsc (vp_in_nI (by omega) (by omega)) ?_
  rw [nI_clamp (show i + 1 < 2 ^ 31 by omega)]
  refine Go.aload_0 d_law_465 rfl ?_
  refine Go.iload_4 d_law_466 rfl ?_
  refine Go.iconst (v := 2) d_law_468 rfl (by decide) ?_
  refine Go.iadd d_law_469 rfl ?_
  rw [show nI i + 2 = nI (i + 2) from nI_add _ _]
  refine Go.sld d_law_470 rfl hst.hsc (vp_in_nI (by omega) (by omega)) ?_
  rw [nI_clamp (show i + 2 < 2 ^ 31 by omega)]
  refine Go.aload_3 d_law_471 rfl ?_
  refine Go.callSW (C1 := C + 36) (S1 := S + 1976) (as := [.ref c, .int (xs (i + 1)), .int (xs (i + 2)), .ref w]) d_law_472 rfl l_Law_110 k_Law_stake_s (List.cons_ne_nil _ _) rfl rfl (w_stake hst.hs hst.hsn hst.hw (by omega) hA ((mf_outlo (by omega)).trans ho) ((mf_outlo (by omega)).trans ho2) hT hU hW hV hst.hms hst.hth ((mf_outw (by omega)).trans hw0) hst.hnc) (by decide) (by decide) (by omega) (by omega) (Nat.le_of_ble_eq_true rfl) (fun E h9 z9 hx _ => hx.elim) (fun v9 h9 z9 hx hz9 => ?_)
  obtain ⟨hz1, hx⟩ := hx
  obtain ⟨f1, rfl, rfl, hf⟩ := wr_uni (F := fun hh => (cw_ Γ sg hh c g g2 o o2 A K σ τ T F U G P)) ((mf_outw (by omega)).trans hw0) hx
  refine Go.heq (h' := (cw_ Γ sg (mf_ Γ (hup h w (aJ Γ 1 f1)) m q r r2 M H Y Ah ow) c g g2 o o2 A K σ τ T F U G P)) (congrArg (fun hh => (cw_ Γ sg hh c g g2 o o2 A K σ τ T F U G P)) (mf_hup geo)) ?_
  have ho : (hup h w (aJ Γ 1 f1)) o = _ := (hup_ne (by omega)).trans ho
  have ho2 : (hup h w (aJ Γ 1 f1)) o2 = _ := (hup_ne (by omega)).trans ho2
  refine Go.istore_5 d_law_475 rfl (by rfl) ?_
  refine Go.aload_2 d_law_477 rfl ?_
  refine Go.aload_0 d_law_478 rfl ?_
  refine Go.iload_4 d_law_479 rfl ?_
  refine Go.iconst (v := 1) d_law_481 rfl (by decide) ?_
  refine Go.iadd d_law_482 rfl ?_
  rw [show nI i + 1 = nI (i + 1) from nI_add _ _]
  refine Go.sld d_law_483 rfl hst.hsc (vp_in_nI (by omega) (by omega)) ?_
  rw [nI_clamp (show i + 1 < 2 ^ 31 by omega)]
  refine Go.aload_0 d_law_484 rfl ?_
  refine Go.iload_4 d_law_485 rfl ?_
  refine Go.iconst (v := 2) d_law_487 rfl (by decide) ?_
  refine Go.iadd d_law_488 rfl ?_
  rw [show nI i + 2 = nI (i + 2) from nI_add _ _]
  refine Go.sld d_law_489 rfl hst.hsc (vp_in_nI (by omega) (by omega)) ?_
  rw [nI_clamp (show i + 2 < 2 ^ 31 by omega)]
  refine Go.heq (lw_s geo) ?_
  refine Go.cv2r d_law_490 rfl l_Law_112 k_Model_stake_v (ms_at_m (by omega) hB hS hC hD hE) rfl (c_Model_stake (by omega) hB hS hC hD hE) (by rfl) rfl rfl ?_
  refine Go.heq (lw_s geo).symm ?_
  refine Go.istore_6 d_law_493 rfl (by rfl) ?_
  refine Go.aload_2 d_law_495 rfl ?_
  refine Go.heq (lw_s geo) ?_
  refine Go.cv0r d_law_496 rfl l_Law_87 k_Model_thrown_v (ms_at_m (by omega) hB hS hC hD hE) rfl (c_Model_thrown (by omega) hB hS hC hD hE) (by rfl) rfl rfl ?_
  refine Go.heq (lw_s geo).symm ?_
  refine Go.iload_5 d_law_499 rfl ?_
  refine Go.icmp_eq (t := 506) d_law_501 (by decide) rfl (fun _ => ?_) (fun ne => absurd hth ne)
  refine Go.iload_5 d_law_506 rfl ?_
  refine Go.if_ne (t := 523) d_law_508 (by decide) rfl (fun c5 => ?_) (fun c5 => ?_)
  · refine Go.goto (t := 1548) d_law_523 (by decide) ?_
    refine Go.iinc_4 d_law_1548 rfl (by rfl) nI_inc6 ?_
    refine Go.goto (t := 23) d_law_1551 (by decide) ?_
    refine Go.fgt [some (.ref b), some (.ref c), some (.ref m), some (.ref w), some (.int (nI (i + 6))), none, none, none, none] (by repeat' (first | exact trivial | refine ⟨rfl, ?_⟩)) ?_
    exact Go.room (k _ _ _ _ _ _ _ _ _ _ _ _ _ _ _ _ _ _ _ _ _ _ ⟨geo, by omega, hup_at, ho, ho2, hrel, hV, hU⟩) (Nat.le_refl _) (by omega) (by omega)
  · have ht : (s_Camp_stake A K σ τ T F U G P (xs (i + 1)) (xs (i + 2))).1 = 0 := Classical.byContradiction fun w9 => by
      rw [if_neg w9] at c5
      exact absurd c5 (by decide)
    refine Go.aload_3 d_law_511 rfl ?_
    refine Go.iconst (v := 0) d_law_512 rfl (by decide) ?_
    refine Go.laload d_law_513 rfl ((cw_outu (by omega)).trans ((mf_outw (by omega)).trans hup_at)) (show vp_in (nI 0) 1 from vp_in_nI (by decide) (by decide)) ?_
    rw [show (0 : Int32).toNatClampNeg = 0 from by decide, hf ht]
    refine Go.iload_6 d_law_514 rfl ?_
    refine Go.i2l d_law_516 rfl ?_
    refine Go.lcmp d_law_517 rfl ?_
    rw [hv ht, lg_self]
    refine Go.if_eq (t := 523) d_law_518 (by decide) rfl (fun _ => ?_) (fun ne => absurd rfl ne)
    refine Go.goto (t := 1548) d_law_523 (by decide) ?_
    refine Go.iinc_4 d_law_1548 rfl (by rfl) nI_inc6 ?_
    refine Go.goto (t := 23) d_law_1551 (by decide) ?_
    refine Go.fgt [some (.ref b), some (.ref c), some (.ref m), some (.ref w), some (.int (nI (i + 6))), none, none, none, none] (by repeat' (first | exact trivial | refine ⟨rfl, ?_⟩)) ?_
    exact Go.room (k _ _ _ _ _ _ _ _ _ _ _ _ _ _ _ _ _ _ _ _ _ _ ⟨geo, by omega, hup_at, ho, ho2, hrel, hV, hU⟩) (Nat.le_refl _) (by omega) (by omega)
set_option maxRecDepth 100000 in
set_option maxHeartbeats 800000 in
theorem lc_crevasse {R : RelT} {Γ : G9} {sg tx wd ms : Nat → Nat} {sw sa wa sn b L : Nat} {xs : Nat → Int32} {c m r r2 w n i z C S g g2 o o2 q : Nat} {h : AH} {f : Nat → Int64} {Q : QT} {A : TA} {K : TK} {σ τ : GL} {T : TM} {F : FM} {U : TM} {G : FM} {P : CP} {M : MO} {H : SH} {Y Ah : SX} {ow : Nat} (hst : ST Γ sg tx wd ms sw sa wa sn b L xs) (hp : PureOK R) (hi : i + 6 ≤ L) (hL : L ≤ 3072) (hn : n < 512) (k : LHead R Γ sg b c m r r2 w Q (n + 1) (i + 6) C S) (lf : LF R Γ c m r r2 w n z h f g g2 o o2 q A σ τ T F U P M H Y) : Go Γ M_law 200 (C + 40) (S + 2000) 526 [some (.ref b), some (.ref c), some (.ref m), some (.ref w), some (.int (nI i)), none, none, none, none] [] (cw_ Γ sg (mf_ Γ h m q r r2 M H Y Ah ow) c g g2 o o2 A K σ τ T F U G P) z Q noX := by
  obtain ⟨geo, hz, hw0, ho, ho2, rel, hV, hU⟩ := lf
  obtain ⟨hA, hT, hW, hsz, hB, hS, hC, hD, hE, hO, hdy⟩ := hp.bnd rel
  have pf := hp.p_crevasse (K := K) (τ := τ) (U := U) (G := G) (x1 := (xs (i + 1))) (x2 := (xs (i + 2))) hn rel hV hU
  obtain ⟨hth, hv, hrel⟩ := pf
  refine Go.aload_1 d_law_526 rfl ?_
  refine Go.aload_0 d_law_527 rfl ?_
  refine Go.iload_4 d_law_528 rfl ?_
  refine Go.iconst (v := 1) d_law_530 rfl (by decide) ?_
  refine Go.iadd d_law_531 rfl ?_
  rw [show nI i + 1 = nI (i + 1) from nI_add _ _]
  refine Go.sld d_law_532 rfl hst.hsc (vp_in_nI (by omega) (by omega)) ?_
  rw [nI_clamp (show i + 1 < 2 ^ 31 by omega)]
  refine Go.aload_0 d_law_533 rfl ?_
  refine Go.iload_4 d_law_534 rfl ?_
  refine Go.iconst (v := 2) d_law_536 rfl (by decide) ?_
  refine Go.iadd d_law_537 rfl ?_
  rw [show nI i + 2 = nI (i + 2) from nI_add _ _]
  refine Go.sld d_law_538 rfl hst.hsc (vp_in_nI (by omega) (by omega)) ?_
  rw [nI_clamp (show i + 2 < 2 ^ 31 by omega)]
  refine Go.aload_3 d_law_539 rfl ?_
  refine Go.callSW (C1 := C + 36) (S1 := S + 1976) (as := [.ref c, .int (xs (i + 1)), .int (xs (i + 2)), .ref w]) d_law_540 rfl l_Law_113 k_Law_crevasse_s (List.cons_ne_nil _ _) rfl rfl (w_crevasse hst.hs hst.hsn hst.hw (by omega) hA ((mf_outlo (by omega)).trans ho) ((mf_outlo (by omega)).trans ho2) hT hU hW hV hst.hms hst.hth ((mf_outw (by omega)).trans hw0) hst.hnc) (by decide) (by decide) (by omega) (by omega) (Nat.le_of_ble_eq_true rfl) (fun E h9 z9 hx _ => hx.elim) (fun v9 h9 z9 hx hz9 => ?_)
  obtain ⟨hz1, hx⟩ := hx
  obtain ⟨f1, rfl, rfl, hf⟩ := wr_uni (F := fun hh => (cw_ Γ sg hh c g g2 o o2 A K σ τ T F U G P)) ((mf_outw (by omega)).trans hw0) hx
  refine Go.heq (h' := (cw_ Γ sg (mf_ Γ (hup h w (aJ Γ 1 f1)) m q r r2 M H Y Ah ow) c g g2 o o2 A K σ τ T F U G P)) (congrArg (fun hh => (cw_ Γ sg hh c g g2 o o2 A K σ τ T F U G P)) (mf_hup geo)) ?_
  have ho : (hup h w (aJ Γ 1 f1)) o = _ := (hup_ne (by omega)).trans ho
  have ho2 : (hup h w (aJ Γ 1 f1)) o2 = _ := (hup_ne (by omega)).trans ho2
  refine Go.istore_5 d_law_543 rfl (by rfl) ?_
  refine Go.aload_2 d_law_545 rfl ?_
  refine Go.aload_0 d_law_546 rfl ?_
  refine Go.iload_4 d_law_547 rfl ?_
  refine Go.iconst (v := 1) d_law_549 rfl (by decide) ?_
  refine Go.iadd d_law_550 rfl ?_
  rw [show nI i + 1 = nI (i + 1) from nI_add _ _]
  refine Go.sld d_law_551 rfl hst.hsc (vp_in_nI (by omega) (by omega)) ?_
  rw [nI_clamp (show i + 1 < 2 ^ 31 by omega)]
  refine Go.aload_0 d_law_552 rfl ?_
  refine Go.iload_4 d_law_553 rfl ?_
  refine Go.iconst (v := 2) d_law_555 rfl (by decide) ?_
  refine Go.iadd d_law_556 rfl ?_
  rw [show nI i + 2 = nI (i + 2) from nI_add _ _]
  refine Go.sld d_law_557 rfl hst.hsc (vp_in_nI (by omega) (by omega)) ?_
  rw [nI_clamp (show i + 2 < 2 ^ 31 by omega)]
  refine Go.heq (lw_s geo) ?_
  refine Go.cv2r d_law_558 rfl l_Law_115 k_Model_crevasse_v (ms_at_m (by omega) hB hS hC hD hE) rfl (c_Model_crevasse (by omega) hB hS hC hD hE) (by rfl) rfl rfl ?_
  refine Go.heq (lw_s geo).symm ?_
  refine Go.istore_6 d_law_561 rfl (by rfl) ?_
  refine Go.aload_2 d_law_563 rfl ?_
  refine Go.heq (lw_s geo) ?_
  refine Go.cv0r d_law_564 rfl l_Law_87 k_Model_thrown_v (ms_at_m (by omega) hB hS hC hD hE) rfl (c_Model_thrown (by omega) hB hS hC hD hE) (by rfl) rfl rfl ?_
  refine Go.heq (lw_s geo).symm ?_
  refine Go.iload_5 d_law_567 rfl ?_
  refine Go.icmp_eq (t := 574) d_law_569 (by decide) rfl (fun _ => ?_) (fun ne => absurd hth ne)
  refine Go.iload_5 d_law_574 rfl ?_
  refine Go.if_ne (t := 591) d_law_576 (by decide) rfl (fun c5 => ?_) (fun c5 => ?_)
  · refine Go.goto (t := 1548) d_law_591 (by decide) ?_
    refine Go.iinc_4 d_law_1548 rfl (by rfl) nI_inc6 ?_
    refine Go.goto (t := 23) d_law_1551 (by decide) ?_
    refine Go.fgt [some (.ref b), some (.ref c), some (.ref m), some (.ref w), some (.int (nI (i + 6))), none, none, none, none] (by repeat' (first | exact trivial | refine ⟨rfl, ?_⟩)) ?_
    exact Go.room (k _ _ _ _ _ _ _ _ _ _ _ _ _ _ _ _ _ _ _ _ _ _ ⟨geo, by omega, hup_at, ho, ho2, hrel, hV, hU⟩) (Nat.le_refl _) (by omega) (by omega)
  · have ht : (s_Camp_crevasse A K σ τ T F U G P (xs (i + 1)) (xs (i + 2))).1 = 0 := Classical.byContradiction fun w9 => by
      rw [if_neg w9] at c5
      exact absurd c5 (by decide)
    refine Go.aload_3 d_law_579 rfl ?_
    refine Go.iconst (v := 0) d_law_580 rfl (by decide) ?_
    refine Go.laload d_law_581 rfl ((cw_outu (by omega)).trans ((mf_outw (by omega)).trans hup_at)) (show vp_in (nI 0) 1 from vp_in_nI (by decide) (by decide)) ?_
    rw [show (0 : Int32).toNatClampNeg = 0 from by decide, hf ht]
    refine Go.iload_6 d_law_582 rfl ?_
    refine Go.i2l d_law_584 rfl ?_
    refine Go.lcmp d_law_585 rfl ?_
    rw [hv ht, lg_self]
    refine Go.if_eq (t := 591) d_law_586 (by decide) rfl (fun _ => ?_) (fun ne => absurd rfl ne)
    refine Go.goto (t := 1548) d_law_591 (by decide) ?_
    refine Go.iinc_4 d_law_1548 rfl (by rfl) nI_inc6 ?_
    refine Go.goto (t := 23) d_law_1551 (by decide) ?_
    refine Go.fgt [some (.ref b), some (.ref c), some (.ref m), some (.ref w), some (.int (nI (i + 6))), none, none, none, none] (by repeat' (first | exact trivial | refine ⟨rfl, ?_⟩)) ?_
    exact Go.room (k _ _ _ _ _ _ _ _ _ _ _ _ _ _ _ _ _ _ _ _ _ _ ⟨geo, by omega, hup_at, ho, ho2, hrel, hV, hU⟩) (Nat.le_refl _) (by omega) (by omega)
set_option maxRecDepth 100000 in
set_option maxHeartbeats 800000 in
theorem lc_depot {R : RelT} {Γ : G9} {sg tx wd ms : Nat → Nat} {sw sa wa sn b L : Nat} {xs : Nat → Int32} {c m r r2 w n i z C S g g2 o o2 q : Nat} {h : AH} {f : Nat → Int64} {Q : QT} {A : TA} {K : TK} {σ τ : GL} {T : TM} {F : FM} {U : TM} {G : FM} {P : CP} {M : MO} {H : SH} {Y Ah : SX} {ow : Nat} (hst : ST Γ sg tx wd ms sw sa wa sn b L xs) (hp : PureOK R) (hi : i + 6 ≤ L) (hL : L ≤ 3072) (hn : n < 512) (k : LHead R Γ sg b c m r r2 w Q (n + 1) (i + 6) C S) (lf : LF R Γ c m r r2 w n z h f g g2 o o2 q A σ τ T F U P M H Y) : Go Γ M_law 200 (C + 40) (S + 2000) 594 [some (.ref b), some (.ref c), some (.ref m), some (.ref w), some (.int (nI i)), none, none, none, none] [] (cw_ Γ sg (mf_ Γ h m q r r2 M H Y Ah ow) c g g2 o o2 A K σ τ T F U G P) z Q noX := by
  obtain ⟨geo, hz, hw0, ho, ho2, rel, hV, hU⟩ := lf
  obtain ⟨hA, hT, hW, hsz, hB, hS, hC, hD, hE, hO, hdy⟩ := hp.bnd rel
  have pf := hp.p_depot (K := K) (τ := τ) (U := U) (G := G) (x1 := (xs (i + 1))) (x2 := (xs (i + 2))) hn rel hV hU
  obtain ⟨hth, hv, hrel⟩ := pf
  refine Go.aload_1 d_law_594 rfl ?_
  refine Go.aload_0 d_law_595 rfl ?_
  refine Go.iload_4 d_law_596 rfl ?_
  refine Go.iconst (v := 1) d_law_598 rfl (by decide) ?_
  refine Go.iadd d_law_599 rfl ?_
  rw [show nI i + 1 = nI (i + 1) from nI_add _ _]
  refine Go.sld d_law_600 rfl hst.hsc (vp_in_nI (by omega) (by omega)) ?_
  rw [nI_clamp (show i + 1 < 2 ^ 31 by omega)]
  refine Go.aload_0 d_law_601 rfl ?_
  refine Go.iload_4 d_law_602 rfl ?_
  refine Go.iconst (v := 2) d_law_604 rfl (by decide) ?_
  refine Go.iadd d_law_605 rfl ?_
  rw [show nI i + 2 = nI (i + 2) from nI_add _ _]
  refine Go.sld d_law_606 rfl hst.hsc (vp_in_nI (by omega) (by omega)) ?_
  rw [nI_clamp (show i + 2 < 2 ^ 31 by omega)]
  refine Go.aload_3 d_law_607 rfl ?_
  refine Go.callSW (C1 := C + 36) (S1 := S + 1976) (as := [.ref c, .int (xs (i + 1)), .int (xs (i + 2)), .ref w]) d_law_608 rfl l_Law_116 k_Law_depot_s (List.cons_ne_nil _ _) rfl rfl (w_depot hst.hs hst.hsn hst.hw (by omega) hA ((mf_outlo (by omega)).trans ho) ((mf_outlo (by omega)).trans ho2) hT hU hW hV hst.hms hst.hth ((mf_outw (by omega)).trans hw0) hst.hnc) (by decide) (by decide) (by omega) (by omega) (Nat.le_of_ble_eq_true rfl) (fun E h9 z9 hx _ => hx.elim) (fun v9 h9 z9 hx hz9 => ?_)
  obtain ⟨hz1, hx⟩ := hx
  obtain ⟨f1, rfl, rfl, hf⟩ := wr_uni (F := fun hh => (cw_ Γ sg hh c g g2 o o2 A K σ τ T F U G P)) ((mf_outw (by omega)).trans hw0) hx
  refine Go.heq (h' := (cw_ Γ sg (mf_ Γ (hup h w (aJ Γ 1 f1)) m q r r2 M H Y Ah ow) c g g2 o o2 A K σ τ T F U G P)) (congrArg (fun hh => (cw_ Γ sg hh c g g2 o o2 A K σ τ T F U G P)) (mf_hup geo)) ?_
  have ho : (hup h w (aJ Γ 1 f1)) o = _ := (hup_ne (by omega)).trans ho
  have ho2 : (hup h w (aJ Γ 1 f1)) o2 = _ := (hup_ne (by omega)).trans ho2
  refine Go.istore_5 d_law_611 rfl (by rfl) ?_
  refine Go.aload_2 d_law_613 rfl ?_
  refine Go.aload_0 d_law_614 rfl ?_
  refine Go.iload_4 d_law_615 rfl ?_
  refine Go.iconst (v := 1) d_law_617 rfl (by decide) ?_
  refine Go.iadd d_law_618 rfl ?_
  rw [show nI i + 1 = nI (i + 1) from nI_add _ _]
  refine Go.sld d_law_619 rfl hst.hsc (vp_in_nI (by omega) (by omega)) ?_
  rw [nI_clamp (show i + 1 < 2 ^ 31 by omega)]
  refine Go.aload_0 d_law_620 rfl ?_
  refine Go.iload_4 d_law_621 rfl ?_
  refine Go.iconst (v := 2) d_law_623 rfl (by decide) ?_
  refine Go.iadd d_law_624 rfl ?_
  rw [show nI i + 2 = nI (i + 2) from nI_add _ _]
  refine Go.sld d_law_625 rfl hst.hsc (vp_in_nI (by omega) (by omega)) ?_
  rw [nI_clamp (show i + 2 < 2 ^ 31 by omega)]
  refine Go.heq (lw_s geo) ?_
  refine Go.cv2r d_law_626 rfl l_Law_118 k_Model_depot_v (ms_at_m (by omega) hB hS hC hD hE) rfl (c_Model_depot (by omega) hB hS hC hD hE) (by rfl) rfl rfl ?_
  refine Go.heq (lw_s geo).symm ?_
  refine Go.istore_6 d_law_629 rfl (by rfl) ?_
  refine Go.aload_2 d_law_631 rfl ?_
  refine Go.heq (lw_s geo) ?_
  refine Go.cv0r d_law_632 rfl l_Law_87 k_Model_thrown_v (ms_at_m (by omega) hB hS hC hD hE) rfl (c_Model_thrown (by omega) hB hS hC hD hE) (by rfl) rfl rfl ?_
  refine Go.heq (lw_s geo).symm ?_
  refine Go.iload_5 d_law_635 rfl ?_
  refine Go.icmp_eq (t := 642) d_law_637 (by decide) rfl (fun _ => ?_) (fun ne => absurd hth ne)
  refine Go.iload_5 d_law_642 rfl ?_
  refine Go.if_ne (t := 659) d_law_644 (by decide) rfl (fun c5 => ?_) (fun c5 => ?_)
  · refine Go.goto (t := 1548) d_law_659 (by decide) ?_
    refine Go.iinc_4 d_law_1548 rfl (by rfl) nI_inc6 ?_
    refine Go.goto (t := 23) d_law_1551 (by decide) ?_
    refine Go.fgt [some (.ref b), some (.ref c), some (.ref m), some (.ref w), some (.int (nI (i + 6))), none, none, none, none] (by repeat' (first | exact trivial | refine ⟨rfl, ?_⟩)) ?_
    exact Go.room (k _ _ _ _ _ _ _ _ _ _ _ _ _ _ _ _ _ _ _ _ _ _ ⟨geo, by omega, hup_at, ho, ho2, hrel, hV, hU⟩) (Nat.le_refl _) (by omega) (by omega)
  · have ht : (s_Camp_depot A K σ τ T F U G P (xs (i + 1)) (xs (i + 2))).1 = 0 := Classical.byContradiction fun w9 => by
      rw [if_neg w9] at c5
      exact absurd c5 (by decide)
    refine Go.aload_3 d_law_647 rfl ?_
    refine Go.iconst (v := 0) d_law_648 rfl (by decide) ?_
    refine Go.laload d_law_649 rfl ((cw_outu (by omega)).trans ((mf_outw (by omega)).trans hup_at)) (show vp_in (nI 0) 1 from vp_in_nI (by decide) (by decide)) ?_
    rw [show (0 : Int32).toNatClampNeg = 0 from by decide, hf ht]
    refine Go.iload_6 d_law_650 rfl ?_
    refine Go.i2l d_law_652 rfl ?_
    refine Go.lcmp d_law_653 rfl ?_
    rw [hv ht, lg_self]
    refine Go.if_eq (t := 659) d_law_654 (by decide) rfl (fun _ => ?_) (fun ne => absurd rfl ne)
    refine Go.goto (t := 1548) d_law_659 (by decide) ?_
    refine Go.iinc_4 d_law_1548 rfl (by rfl) nI_inc6 ?_
    refine Go.goto (t := 23) d_law_1551 (by decide) ?_
    refine Go.fgt [some (.ref b), some (.ref c), some (.ref m), some (.ref w), some (.int (nI (i + 6))), none, none, none, none] (by repeat' (first | exact trivial | refine ⟨rfl, ?_⟩)) ?_
    exact Go.room (k _ _ _ _ _ _ _ _ _ _ _ _ _ _ _ _ _ _ _ _ _ _ ⟨geo, by omega, hup_at, ho, ho2, hrel, hV, hU⟩) (Nat.le_refl _) (by omega) (by omega)
set_option maxRecDepth 100000 in
set_option maxHeartbeats 800000 in
theorem lc_team {R : RelT} {Γ : G9} {sg tx wd ms : Nat → Nat} {sw sa wa sn b L : Nat} {xs : Nat → Int32} {c m r r2 w n i z C S g g2 o o2 q : Nat} {h : AH} {f : Nat → Int64} {Q : QT} {A : TA} {K : TK} {σ τ : GL} {T : TM} {F : FM} {U : TM} {G : FM} {P : CP} {M : MO} {H : SH} {Y Ah : SX} {ow : Nat} (hst : ST Γ sg tx wd ms sw sa wa sn b L xs) (hp : PureOK R) (hi : i + 6 ≤ L) (hL : L ≤ 3072) (hn : n < 512) (k : LHead R Γ sg b c m r r2 w Q (n + 1) (i + 6) C S) (lf : LF R Γ c m r r2 w n z h f g g2 o o2 q A σ τ T F U P M H Y) : Go Γ M_law 200 (C + 40) (S + 2000) 662 [some (.ref b), some (.ref c), some (.ref m), some (.ref w), some (.int (nI i)), none, none, none, none] [] (cw_ Γ sg (mf_ Γ h m q r r2 M H Y Ah ow) c g g2 o o2 A K σ τ T F U G P) z Q noX := by
  obtain ⟨geo, hz, hw0, ho, ho2, rel, hV, hU⟩ := lf
  obtain ⟨hA, hT, hW, hsz, hB, hS, hC, hD, hE, hO, hdy⟩ := hp.bnd rel
  have pf := hp.p_team (K := K) (τ := τ) (U := U) (G := G) (x1 := (xs (i + 1))) (x2 := (xs (i + 2))) hn rel hV hU
  obtain ⟨hth, hv, hrel⟩ := pf
  refine Go.aload_1 d_law_662 rfl ?_
  refine Go.aload_0 d_law_663 rfl ?_
  refine Go.iload_4 d_law_664 rfl ?_
  refine Go.iconst (v := 1) d_law_666 rfl (by decide) ?_
  refine Go.iadd d_law_667 rfl ?_
  rw [show nI i + 1 = nI (i + 1) from nI_add _ _]
  refine Go.sld d_law_668 rfl hst.hsc (vp_in_nI (by omega) (by omega)) ?_
  rw [nI_clamp (show i + 1 < 2 ^ 31 by omega)]
  refine Go.aload_0 d_law_669 rfl ?_
  refine Go.iload_4 d_law_670 rfl ?_
  refine Go.iconst (v := 2) d_law_672 rfl (by decide) ?_
  refine Go.iadd d_law_673 rfl ?_
  rw [show nI i + 2 = nI (i + 2) from nI_add _ _]
  refine Go.sld d_law_674 rfl hst.hsc (vp_in_nI (by omega) (by omega)) ?_
  rw [nI_clamp (show i + 2 < 2 ^ 31 by omega)]
  refine Go.aload_3 d_law_675 rfl ?_
  refine Go.callSW (C1 := C + 36) (S1 := S + 1976) (as := [.ref c, .int (xs (i + 1)), .int (xs (i + 2)), .ref w]) d_law_676 rfl l_Law_119 k_Law_team_s (List.cons_ne_nil _ _) rfl rfl (w_team hst.hs hst.hsn hst.hw (by omega) hA ((mf_outlo (by omega)).trans ho) ((mf_outlo (by omega)).trans ho2) hT hU hW hV hst.hms hst.hth ((mf_outw (by omega)).trans hw0) hst.hnc) (by decide) (by decide) (by omega) (by omega) (Nat.le_of_ble_eq_true rfl) (fun E h9 z9 hx _ => hx.elim) (fun v9 h9 z9 hx hz9 => ?_)
  obtain ⟨hz1, hx⟩ := hx
  obtain ⟨f1, rfl, rfl, hf⟩ := wr_uni (F := fun hh => (cw_ Γ sg hh c g g2 o o2 A K σ τ T F U G P)) ((mf_outw (by omega)).trans hw0) hx
  refine Go.heq (h' := (cw_ Γ sg (mf_ Γ (hup h w (aJ Γ 1 f1)) m q r r2 M H Y Ah ow) c g g2 o o2 A K σ τ T F U G P)) (congrArg (fun hh => (cw_ Γ sg hh c g g2 o o2 A K σ τ T F U G P)) (mf_hup geo)) ?_
  have ho : (hup h w (aJ Γ 1 f1)) o = _ := (hup_ne (by omega)).trans ho
  have ho2 : (hup h w (aJ Γ 1 f1)) o2 = _ := (hup_ne (by omega)).trans ho2
  refine Go.istore_5 d_law_679 rfl (by rfl) ?_
  refine Go.aload_2 d_law_681 rfl ?_
  refine Go.aload_0 d_law_682 rfl ?_
  refine Go.iload_4 d_law_683 rfl ?_
  refine Go.iconst (v := 1) d_law_685 rfl (by decide) ?_
  refine Go.iadd d_law_686 rfl ?_
  rw [show nI i + 1 = nI (i + 1) from nI_add _ _]
  refine Go.sld d_law_687 rfl hst.hsc (vp_in_nI (by omega) (by omega)) ?_
  rw [nI_clamp (show i + 1 < 2 ^ 31 by omega)]
  refine Go.aload_0 d_law_688 rfl ?_
  refine Go.iload_4 d_law_689 rfl ?_
  refine Go.iconst (v := 2) d_law_691 rfl (by decide) ?_
  refine Go.iadd d_law_692 rfl ?_
  rw [show nI i + 2 = nI (i + 2) from nI_add _ _]
  refine Go.sld d_law_693 rfl hst.hsc (vp_in_nI (by omega) (by omega)) ?_
  rw [nI_clamp (show i + 2 < 2 ^ 31 by omega)]
  refine Go.heq (lw_s geo) ?_
  refine Go.cv2r d_law_694 rfl l_Law_121 k_Model_team_v (ms_at_m (by omega) hB hS hC hD hE) rfl (c_Model_team (by omega) hB hS hC hD hE) (by rfl) rfl rfl ?_
  refine Go.heq (lw_s geo).symm ?_
  refine Go.istore_6 d_law_697 rfl (by rfl) ?_
  refine Go.aload_2 d_law_699 rfl ?_
  refine Go.heq (lw_s geo) ?_
  refine Go.cv0r d_law_700 rfl l_Law_87 k_Model_thrown_v (ms_at_m (by omega) hB hS hC hD hE) rfl (c_Model_thrown (by omega) hB hS hC hD hE) (by rfl) rfl rfl ?_
  refine Go.heq (lw_s geo).symm ?_
  refine Go.iload_5 d_law_703 rfl ?_
  refine Go.icmp_eq (t := 710) d_law_705 (by decide) rfl (fun _ => ?_) (fun ne => absurd hth ne)
  refine Go.iload_5 d_law_710 rfl ?_
  refine Go.if_ne (t := 727) d_law_712 (by decide) rfl (fun c5 => ?_) (fun c5 => ?_)
  · refine Go.goto (t := 1548) d_law_727 (by decide) ?_
    refine Go.iinc_4 d_law_1548 rfl (by rfl) nI_inc6 ?_
    refine Go.goto (t := 23) d_law_1551 (by decide) ?_
    refine Go.fgt [some (.ref b), some (.ref c), some (.ref m), some (.ref w), some (.int (nI (i + 6))), none, none, none, none] (by repeat' (first | exact trivial | refine ⟨rfl, ?_⟩)) ?_
    exact Go.room (k _ _ _ _ _ _ _ _ _ _ _ _ _ _ _ _ _ _ _ _ _ _ ⟨geo, by omega, hup_at, ho, ho2, hrel, hV, hU⟩) (Nat.le_refl _) (by omega) (by omega)
  · have ht : (s_Camp_team A K σ τ T F U G P (xs (i + 1)) (xs (i + 2))).1 = 0 := Classical.byContradiction fun w9 => by
      rw [if_neg w9] at c5
      exact absurd c5 (by decide)
    refine Go.aload_3 d_law_715 rfl ?_
    refine Go.iconst (v := 0) d_law_716 rfl (by decide) ?_
    refine Go.laload d_law_717 rfl ((cw_outu (by omega)).trans ((mf_outw (by omega)).trans hup_at)) (show vp_in (nI 0) 1 from vp_in_nI (by decide) (by decide)) ?_
    rw [show (0 : Int32).toNatClampNeg = 0 from by decide, hf ht]
    refine Go.iload_6 d_law_718 rfl ?_
    refine Go.i2l d_law_720 rfl ?_
    refine Go.lcmp d_law_721 rfl ?_
    rw [hv ht, lg_self]
    refine Go.if_eq (t := 727) d_law_722 (by decide) rfl (fun _ => ?_) (fun ne => absurd rfl ne)
    refine Go.goto (t := 1548) d_law_727 (by decide) ?_
    refine Go.iinc_4 d_law_1548 rfl (by rfl) nI_inc6 ?_
    refine Go.goto (t := 23) d_law_1551 (by decide) ?_
    refine Go.fgt [some (.ref b), some (.ref c), some (.ref m), some (.ref w), some (.int (nI (i + 6))), none, none, none, none] (by repeat' (first | exact trivial | refine ⟨rfl, ?_⟩)) ?_
    exact Go.room (k _ _ _ _ _ _ _ _ _ _ _ _ _ _ _ _ _ _ _ _ _ _ ⟨geo, by omega, hup_at, ho, ho2, hrel, hV, hU⟩) (Nat.le_refl _) (by omega) (by omega)
set_option maxRecDepth 100000 in
set_option maxHeartbeats 800000 in
theorem lc_go0 {R : RelT} {Γ : G9} {sg tx wd ms : Nat → Nat} {sw sa wa sn b L : Nat} {xs : Nat → Int32} {c m r r2 w n i z C S g g2 o o2 q : Nat} {h : AH} {f : Nat → Int64} {Q : QT} {A : TA} {K : TK} {σ τ : GL} {T : TM} {F : FM} {U : TM} {G : FM} {P : CP} {M : MO} {H : SH} {Y Ah : SX} {ow : Nat} (hst : ST Γ sg tx wd ms sw sa wa sn b L xs) (hp : PureOK R) (hi : i + 6 ≤ L) (hL : L ≤ 3072) (hn : n < 512) (k : LHead R Γ sg b c m r r2 w Q (n + 1) (i + 6) C S) (lf : LF R Γ c m r r2 w n z h f g g2 o o2 q A σ τ T F U P M H Y) (hbv : xs (i + 2) = 0) : Go Γ M_law 200 (C + 40) (S + 2000) 730 [some (.ref b), some (.ref c), some (.ref m), some (.ref w), some (.int (nI i)), none, none, none, none] [] (cw_ Γ sg (mf_ Γ h m q r r2 M H Y Ah ow) c g g2 o o2 A K σ τ T F U G P) z Q noX := by
  obtain ⟨geo, hz, hw0, ho, ho2, rel, hV, hU⟩ := lf
  obtain ⟨hA, hT, hW, hsz, hB, hS, hC, hD, hE, hO, hdy⟩ := hp.bnd rel
  have pf := hp.p_go (K := K) (τ := τ) (U := U) (G := G) (x1 := (xs (i + 1))) (x2 := (0 : Int32)) hn rel hV hU
  obtain ⟨hth, hv, hrel⟩ := pf
  refine Go.aload_1 d_law_730 rfl ?_
  refine Go.aload_0 d_law_731 rfl ?_
  refine Go.iload_4 d_law_732 rfl ?_
  refine Go.iconst (v := 1) d_law_734 rfl (by decide) ?_
  refine Go.iadd d_law_735 rfl ?_
  rw [show nI i + 1 = nI (i + 1) from nI_add _ _]
  refine Go.sld d_law_736 rfl hst.hsc (vp_in_nI (by omega) (by omega)) ?_
  rw [nI_clamp (show i + 1 < 2 ^ 31 by omega)]
  refine Go.aload_0 d_law_737 rfl ?_
  refine Go.iload_4 d_law_738 rfl ?_
  refine Go.iconst (v := 2) d_law_740 rfl (by decide) ?_
  refine Go.iadd d_law_741 rfl ?_
  rw [show nI i + 2 = nI (i + 2) from nI_add _ _]
  refine Go.sld d_law_742 rfl hst.hsc (vp_in_nI (by omega) (by omega)) ?_
  rw [nI_clamp (show i + 2 < 2 ^ 31 by omega)]
  refine Go.if_eq (t := 750) d_law_743 (by decide) rfl (fun _ => ?_) (fun ne => absurd hbv ne)
  refine Go.iconst (v := 0) d_law_750 rfl (by decide) ?_
  refine Go.aload_3 d_law_751 rfl ?_
  refine Go.callSW (C1 := C + 36) (S1 := S + 1976) (as := [.ref c, .int (xs (i + 1)), .int (0 : Int32), .ref w]) d_law_752 rfl l_Law_122 k_Law_go_s (List.cons_ne_nil _ _) rfl rfl (w_go hst.hs hst.hsn hst.hw (by omega) hA ((mf_outlo (by omega)).trans ho) ((mf_outlo (by omega)).trans ho2) hT hU hW hV hst.hms hst.hth ((mf_outw (by omega)).trans hw0) hst.hnc) (by decide) (by decide) (by omega) (by omega) (Nat.le_of_ble_eq_true rfl) (fun E h9 z9 hx _ => hx.elim) (fun v9 h9 z9 hx hz9 => ?_)
  obtain ⟨hz1, hx⟩ := hx
  obtain ⟨f1, rfl, rfl, hf⟩ := wr_uni (F := fun hh => (cw_ Γ sg hh c g g2 o o2 A K (s_Camp_go A K σ τ T F U G P (xs (i + 1)) (0 : Int32)).2.2 τ T F U G P)) ((mf_outw (by omega)).trans hw0) hx
  refine Go.heq (h' := (cw_ Γ sg (mf_ Γ (hup h w (aJ Γ 1 f1)) m q r r2 M H Y Ah ow) c g g2 o o2 A K (s_Camp_go A K σ τ T F U G P (xs (i + 1)) (0 : Int32)).2.2 τ T F U G P)) (congrArg (fun hh => (cw_ Γ sg hh c g g2 o o2 A K (s_Camp_go A K σ τ T F U G P (xs (i + 1)) (0 : Int32)).2.2 τ T F U G P)) (mf_hup geo)) ?_
  have ho : (hup h w (aJ Γ 1 f1)) o = _ := (hup_ne (by omega)).trans ho
  have ho2 : (hup h w (aJ Γ 1 f1)) o2 = _ := (hup_ne (by omega)).trans ho2
  refine Go.istore_5 d_law_755 rfl (by rfl) ?_
  refine Go.aload_2 d_law_757 rfl ?_
  refine Go.aload_0 d_law_758 rfl ?_
  refine Go.iload_4 d_law_759 rfl ?_
  refine Go.iconst (v := 1) d_law_761 rfl (by decide) ?_
  refine Go.iadd d_law_762 rfl ?_
  rw [show nI i + 1 = nI (i + 1) from nI_add _ _]
  refine Go.sld d_law_763 rfl hst.hsc (vp_in_nI (by omega) (by omega)) ?_
  rw [nI_clamp (show i + 1 < 2 ^ 31 by omega)]
  refine Go.aload_0 d_law_764 rfl ?_
  refine Go.iload_4 d_law_765 rfl ?_
  refine Go.iconst (v := 2) d_law_767 rfl (by decide) ?_
  refine Go.iadd d_law_768 rfl ?_
  rw [show nI i + 2 = nI (i + 2) from nI_add _ _]
  refine Go.sld d_law_769 rfl hst.hsc (vp_in_nI (by omega) (by omega)) ?_
  rw [nI_clamp (show i + 2 < 2 ^ 31 by omega)]
  refine Go.if_eq (t := 777) d_law_770 (by decide) rfl (fun _ => ?_) (fun ne => absurd hbv ne)
  refine Go.iconst (v := 0) d_law_777 rfl (by decide) ?_
  refine Go.heq (lw_s geo) ?_
  refine Go.cv2r d_law_778 rfl l_Law_125 k_Model_go_v (ms_at_m (by omega) hB hS hC hD hE) rfl (c_Model_go (by omega) hB hS hC hD hE) (by rfl) rfl rfl ?_
  refine Go.heq (lw_s geo).symm ?_
  refine Go.istore_6 d_law_781 rfl (by rfl) ?_
  refine Go.aload_2 d_law_783 rfl ?_
  refine Go.heq (lw_s geo) ?_
  refine Go.cv0r d_law_784 rfl l_Law_87 k_Model_thrown_v (ms_at_m (by omega) hB hS hC hD hE) rfl (c_Model_thrown (by omega) hB hS hC hD hE) (by rfl) rfl rfl ?_
  refine Go.heq (lw_s geo).symm ?_
  refine Go.iload_5 d_law_787 rfl ?_
  refine Go.icmp_eq (t := 794) d_law_789 (by decide) rfl (fun _ => ?_) (fun ne => absurd hth ne)
  refine Go.iload_5 d_law_794 rfl ?_
  refine Go.if_ne (t := 811) d_law_796 (by decide) rfl (fun c5 => ?_) (fun c5 => ?_)
  · refine Go.goto (t := 1548) d_law_811 (by decide) ?_
    refine Go.iinc_4 d_law_1548 rfl (by rfl) nI_inc6 ?_
    refine Go.goto (t := 23) d_law_1551 (by decide) ?_
    refine Go.fgt [some (.ref b), some (.ref c), some (.ref m), some (.ref w), some (.int (nI (i + 6))), none, none, none, none] (by repeat' (first | exact trivial | refine ⟨rfl, ?_⟩)) ?_
    exact Go.room (k _ _ _ _ _ _ _ _ _ _ _ _ _ _ _ _ _ _ _ _ _ _ ⟨geo, by omega, hup_at, ho, ho2, hrel, hV, hU⟩) (Nat.le_refl _) (by omega) (by omega)
  · have ht : (s_Camp_go A K σ τ T F U G P (xs (i + 1)) (0 : Int32)).1 = 0 := Classical.byContradiction fun w9 => by
      rw [if_neg w9] at c5
      (repeat' split at c5) <;> exact absurd c5 (by decide)
    refine Go.aload_3 d_law_799 rfl ?_
    refine Go.iconst (v := 0) d_law_800 rfl (by decide) ?_
    refine Go.laload d_law_801 rfl ((cw_outu (by omega)).trans ((mf_outw (by omega)).trans hup_at)) (show vp_in (nI 0) 1 from vp_in_nI (by decide) (by decide)) ?_
    rw [show (0 : Int32).toNatClampNeg = 0 from by decide, hf ht]
    refine Go.iload_6 d_law_802 rfl ?_
    refine Go.i2l d_law_804 rfl ?_
    refine Go.lcmp d_law_805 rfl ?_
    rw [hv ht, lg_self]
    refine Go.if_eq (t := 811) d_law_806 (by decide) rfl (fun _ => ?_) (fun ne => absurd rfl ne)
    refine Go.goto (t := 1548) d_law_811 (by decide) ?_
    refine Go.iinc_4 d_law_1548 rfl (by rfl) nI_inc6 ?_
    refine Go.goto (t := 23) d_law_1551 (by decide) ?_
    refine Go.fgt [some (.ref b), some (.ref c), some (.ref m), some (.ref w), some (.int (nI (i + 6))), none, none, none, none] (by repeat' (first | exact trivial | refine ⟨rfl, ?_⟩)) ?_
    exact Go.room (k _ _ _ _ _ _ _ _ _ _ _ _ _ _ _ _ _ _ _ _ _ _ ⟨geo, by omega, hup_at, ho, ho2, hrel, hV, hU⟩) (Nat.le_refl _) (by omega) (by omega)
set_option maxRecDepth 100000 in
set_option maxHeartbeats 800000 in
theorem lc_go1 {R : RelT} {Γ : G9} {sg tx wd ms : Nat → Nat} {sw sa wa sn b L : Nat} {xs : Nat → Int32} {c m r r2 w n i z C S g g2 o o2 q : Nat} {h : AH} {f : Nat → Int64} {Q : QT} {A : TA} {K : TK} {σ τ : GL} {T : TM} {F : FM} {U : TM} {G : FM} {P : CP} {M : MO} {H : SH} {Y Ah : SX} {ow : Nat} (hst : ST Γ sg tx wd ms sw sa wa sn b L xs) (hp : PureOK R) (hi : i + 6 ≤ L) (hL : L ≤ 3072) (hn : n < 512) (k : LHead R Γ sg b c m r r2 w Q (n + 1) (i + 6) C S) (lf : LF R Γ c m r r2 w n z h f g g2 o o2 q A σ τ T F U P M H Y) (hbv : ¬ xs (i + 2) = 0) : Go Γ M_law 200 (C + 40) (S + 2000) 730 [some (.ref b), some (.ref c), some (.ref m), some (.ref w), some (.int (nI i)), none, none, none, none] [] (cw_ Γ sg (mf_ Γ h m q r r2 M H Y Ah ow) c g g2 o o2 A K σ τ T F U G P) z Q noX := by
  obtain ⟨geo, hz, hw0, ho, ho2, rel, hV, hU⟩ := lf
  obtain ⟨hA, hT, hW, hsz, hB, hS, hC, hD, hE, hO, hdy⟩ := hp.bnd rel
  have pf := hp.p_go (K := K) (τ := τ) (U := U) (G := G) (x1 := (xs (i + 1))) (x2 := (1 : Int32)) hn rel hV hU
  obtain ⟨hth, hv, hrel⟩ := pf
  refine Go.aload_1 d_law_730 rfl ?_
  refine Go.aload_0 d_law_731 rfl ?_
  refine Go.iload_4 d_law_732 rfl ?_
  refine Go.iconst (v := 1) d_law_734 rfl (by decide) ?_
  refine Go.iadd d_law_735 rfl ?_
  rw [show nI i + 1 = nI (i + 1) from nI_add _ _]
  refine Go.sld d_law_736 rfl hst.hsc (vp_in_nI (by omega) (by omega)) ?_
  rw [nI_clamp (show i + 1 < 2 ^ 31 by omega)]
  refine Go.aload_0 d_law_737 rfl ?_
  refine Go.iload_4 d_law_738 rfl ?_
  refine Go.iconst (v := 2) d_law_740 rfl (by decide) ?_
  refine Go.iadd d_law_741 rfl ?_
  rw [show nI i + 2 = nI (i + 2) from nI_add _ _]
  refine Go.sld d_law_742 rfl hst.hsc (vp_in_nI (by omega) (by omega)) ?_
  rw [nI_clamp (show i + 2 < 2 ^ 31 by omega)]
  refine Go.if_eq (t := 750) d_law_743 (by decide) rfl (fun e => absurd e hbv) (fun _ => ?_)
  refine Go.iconst (v := 1) d_law_746 rfl (by decide) ?_
  refine Go.goto (t := 751) d_law_747 (by decide) ?_
  refine Go.aload_3 d_law_751 rfl ?_
  refine Go.callSW (C1 := C + 36) (S1 := S + 1976) (as := [.ref c, .int (xs (i + 1)), .int (1 : Int32), .ref w]) d_law_752 rfl l_Law_122 k_Law_go_s (List.cons_ne_nil _ _) rfl rfl (w_go hst.hs hst.hsn hst.hw (by omega) hA ((mf_outlo (by omega)).trans ho) ((mf_outlo (by omega)).trans ho2) hT hU hW hV hst.hms hst.hth ((mf_outw (by omega)).trans hw0) hst.hnc) (by decide) (by decide) (by omega) (by omega) (Nat.le_of_ble_eq_true rfl) (fun E h9 z9 hx _ => hx.elim) (fun v9 h9 z9 hx hz9 => ?_)
  obtain ⟨hz1, hx⟩ := hx
  obtain ⟨f1, rfl, rfl, hf⟩ := wr_uni (F := fun hh => (cw_ Γ sg hh c g g2 o o2 A K (s_Camp_go A K σ τ T F U G P (xs (i + 1)) (1 : Int32)).2.2 τ T F U G P)) ((mf_outw (by omega)).trans hw0) hx
  refine Go.heq (h' := (cw_ Γ sg (mf_ Γ (hup h w (aJ Γ 1 f1)) m q r r2 M H Y Ah ow) c g g2 o o2 A K (s_Camp_go A K σ τ T F U G P (xs (i + 1)) (1 : Int32)).2.2 τ T F U G P)) (congrArg (fun hh => (cw_ Γ sg hh c g g2 o o2 A K (s_Camp_go A K σ τ T F U G P (xs (i + 1)) (1 : Int32)).2.2 τ T F U G P)) (mf_hup geo)) ?_
  have ho : (hup h w (aJ Γ 1 f1)) o = _ := (hup_ne (by omega)).trans ho
  have ho2 : (hup h w (aJ Γ 1 f1)) o2 = _ := (hup_ne (by omega)).trans ho2
  refine Go.istore_5 d_law_755 rfl (by rfl) ?_
  refine Go.aload_2 d_law_757 rfl ?_
  refine Go.aload_0 d_law_758 rfl ?_
  refine Go.iload_4 d_law_759 rfl ?_
  refine Go.iconst (v := 1) d_law_761 rfl (by decide) ?_
  refine Go.iadd d_law_762 rfl ?_
  rw [show nI i + 1 = nI (i + 1) from nI_add _ _]
  refine Go.sld d_law_763 rfl hst.hsc (vp_in_nI (by omega) (by omega)) ?_
  rw [nI_clamp (show i + 1 < 2 ^ 31 by omega)]
  refine Go.aload_0 d_law_764 rfl ?_
  refine Go.iload_4 d_law_765 rfl ?_
  refine Go.iconst (v := 2) d_law_767 rfl (by decide) ?_
  refine Go.iadd d_law_768 rfl ?_
  rw [show nI i + 2 = nI (i + 2) from nI_add _ _]
  refine Go.sld d_law_769 rfl hst.hsc (vp_in_nI (by omega) (by omega)) ?_
  rw [nI_clamp (show i + 2 < 2 ^ 31 by omega)]
  refine Go.if_eq (t := 777) d_law_770 (by decide) rfl (fun e => absurd e hbv) (fun _ => ?_)
  refine Go.iconst (v := 1) d_law_773 rfl (by decide) ?_
  refine Go.goto (t := 778) d_law_774 (by decide) ?_
  refine Go.heq (lw_s geo) ?_
  refine Go.cv2r d_law_778 rfl l_Law_125 k_Model_go_v (ms_at_m (by omega) hB hS hC hD hE) rfl (c_Model_go (by omega) hB hS hC hD hE) (by rfl) rfl rfl ?_
  refine Go.heq (lw_s geo).symm ?_
  refine Go.istore_6 d_law_781 rfl (by rfl) ?_
  refine Go.aload_2 d_law_783 rfl ?_
  refine Go.heq (lw_s geo) ?_
  refine Go.cv0r d_law_784 rfl l_Law_87 k_Model_thrown_v (ms_at_m (by omega) hB hS hC hD hE) rfl (c_Model_thrown (by omega) hB hS hC hD hE) (by rfl) rfl rfl ?_
  refine Go.heq (lw_s geo).symm ?_
  refine Go.iload_5 d_law_787 rfl ?_
  refine Go.icmp_eq (t := 794) d_law_789 (by decide) rfl (fun _ => ?_) (fun ne => absurd hth ne)
  refine Go.iload_5 d_law_794 rfl ?_
  refine Go.if_ne (t := 811) d_law_796 (by decide) rfl (fun c5 => ?_) (fun c5 => ?_)
  · refine Go.goto (t := 1548) d_law_811 (by decide) ?_
    refine Go.iinc_4 d_law_1548 rfl (by rfl) nI_inc6 ?_
    refine Go.goto (t := 23) d_law_1551 (by decide) ?_
    refine Go.fgt [some (.ref b), some (.ref c), some (.ref m), some (.ref w), some (.int (nI (i + 6))), none, none, none, none] (by repeat' (first | exact trivial | refine ⟨rfl, ?_⟩)) ?_
    exact Go.room (k _ _ _ _ _ _ _ _ _ _ _ _ _ _ _ _ _ _ _ _ _ _ ⟨geo, by omega, hup_at, ho, ho2, hrel, hV, hU⟩) (Nat.le_refl _) (by omega) (by omega)
  · have ht : (s_Camp_go A K σ τ T F U G P (xs (i + 1)) (1 : Int32)).1 = 0 := Classical.byContradiction fun w9 => by
      rw [if_neg w9] at c5
      (repeat' split at c5) <;> exact absurd c5 (by decide)
    refine Go.aload_3 d_law_799 rfl ?_
    refine Go.iconst (v := 0) d_law_800 rfl (by decide) ?_
    refine Go.laload d_law_801 rfl ((cw_outu (by omega)).trans ((mf_outw (by omega)).trans hup_at)) (show vp_in (nI 0) 1 from vp_in_nI (by decide) (by decide)) ?_
    rw [show (0 : Int32).toNatClampNeg = 0 from by decide, hf ht]
    refine Go.iload_6 d_law_802 rfl ?_
    refine Go.i2l d_law_804 rfl ?_
    refine Go.lcmp d_law_805 rfl ?_
    rw [hv ht, lg_self]
    refine Go.if_eq (t := 811) d_law_806 (by decide) rfl (fun _ => ?_) (fun ne => absurd rfl ne)
    refine Go.goto (t := 1548) d_law_811 (by decide) ?_
    refine Go.iinc_4 d_law_1548 rfl (by rfl) nI_inc6 ?_
    refine Go.goto (t := 23) d_law_1551 (by decide) ?_
    refine Go.fgt [some (.ref b), some (.ref c), some (.ref m), some (.ref w), some (.int (nI (i + 6))), none, none, none, none] (by repeat' (first | exact trivial | refine ⟨rfl, ?_⟩)) ?_
    exact Go.room (k _ _ _ _ _ _ _ _ _ _ _ _ _ _ _ _ _ _ _ _ _ _ ⟨geo, by omega, hup_at, ho, ho2, hrel, hV, hU⟩) (Nat.le_refl _) (by omega) (by omega)
set_option maxRecDepth 100000 in
set_option maxHeartbeats 800000 in
theorem lc_probe {R : RelT} {Γ : G9} {sg tx wd ms : Nat → Nat} {sw sa wa sn b L : Nat} {xs : Nat → Int32} {c m r r2 w n i z C S g g2 o o2 q : Nat} {h : AH} {f : Nat → Int64} {Q : QT} {A : TA} {K : TK} {σ τ : GL} {T : TM} {F : FM} {U : TM} {G : FM} {P : CP} {M : MO} {H : SH} {Y Ah : SX} {ow : Nat} (hst : ST Γ sg tx wd ms sw sa wa sn b L xs) (hp : PureOK R) (hi : i + 6 ≤ L) (hL : L ≤ 3072) (hn : n < 512) (k : LHead R Γ sg b c m r r2 w Q (n + 1) (i + 6) C S) (lf : LF R Γ c m r r2 w n z h f g g2 o o2 q A σ τ T F U P M H Y) : Go Γ M_law 200 (C + 40) (S + 2000) 814 [some (.ref b), some (.ref c), some (.ref m), some (.ref w), some (.int (nI i)), none, none, none, none] [] (cw_ Γ sg (mf_ Γ h m q r r2 M H Y Ah ow) c g g2 o o2 A K σ τ T F U G P) z Q noX := by
  obtain ⟨geo, hz, hw0, ho, ho2, rel, hV, hU⟩ := lf
  obtain ⟨hA, hT, hW, hsz, hB, hS, hC, hD, hE, hO, hdy⟩ := hp.bnd rel
  have pf := hp.p_probe (K := K) (τ := τ) (U := U) (G := G) (x1 := (xs (i + 1))) (x2 := (xs (i + 2))) hn rel hV hU
  obtain ⟨hth, hv, hrel⟩ := pf
  refine Go.aload_1 d_law_814 rfl ?_
  refine Go.aload_0 d_law_815 rfl ?_
  refine Go.iload_4 d_law_816 rfl ?_
  refine Go.iconst (v := 1) d_law_818 rfl (by decide) ?_
  refine Go.iadd d_law_819 rfl ?_
  rw [show nI i + 1 = nI (i + 1) from nI_add _ _]
  refine Go.sld d_law_820 rfl hst.hsc (vp_in_nI (by omega) (by omega)) ?_
  rw [nI_clamp (show i + 1 < 2 ^ 31 by omega)]
  refine Go.aload_0 d_law_821 rfl ?_
  refine Go.iload_4 d_law_822 rfl ?_
  refine Go.iconst (v := 2) d_law_824 rfl (by decide) ?_
  refine Go.iadd d_law_825 rfl ?_
  rw [show nI i + 2 = nI (i + 2) from nI_add _ _]
  refine Go.sld d_law_826 rfl hst.hsc (vp_in_nI (by omega) (by omega)) ?_
  rw [nI_clamp (show i + 2 < 2 ^ 31 by omega)]
  refine Go.aload_3 d_law_827 rfl ?_
  refine Go.callSW (C1 := C + 36) (S1 := S + 1976) (as := [.ref c, .int (xs (i + 1)), .int (xs (i + 2)), .ref w]) d_law_828 rfl l_Law_126 k_Law_probe_s (List.cons_ne_nil _ _) rfl rfl (w_probe hst.hs hst.hsn hst.hw (by omega) hA ((mf_outlo (by omega)).trans ho) ((mf_outlo (by omega)).trans ho2) hT hU hW hV hst.hms hst.hth ((mf_outw (by omega)).trans hw0) hst.hnc) (by decide) (by decide) (by omega) (by omega) (Nat.le_of_ble_eq_true rfl) (fun E h9 z9 hx _ => hx.elim) (fun v9 h9 z9 hx hz9 => ?_)
  obtain ⟨hz1, hx⟩ := hx
  obtain ⟨f1, rfl, rfl, hf⟩ := wr_uni (F := fun hh => (cw_ Γ sg hh c g g2 o o2 A K (s_Camp_probe A K σ τ T F U G P (xs (i + 1)) (xs (i + 2))).2.2 τ T F U G P)) ((mf_outw (by omega)).trans hw0) hx
  refine Go.heq (h' := (cw_ Γ sg (mf_ Γ (hup h w (aJ Γ 1 f1)) m q r r2 M H Y Ah ow) c g g2 o o2 A K (s_Camp_probe A K σ τ T F U G P (xs (i + 1)) (xs (i + 2))).2.2 τ T F U G P)) (congrArg (fun hh => (cw_ Γ sg hh c g g2 o o2 A K (s_Camp_probe A K σ τ T F U G P (xs (i + 1)) (xs (i + 2))).2.2 τ T F U G P)) (mf_hup geo)) ?_
  have ho : (hup h w (aJ Γ 1 f1)) o = _ := (hup_ne (by omega)).trans ho
  have ho2 : (hup h w (aJ Γ 1 f1)) o2 = _ := (hup_ne (by omega)).trans ho2
  refine Go.istore_5 d_law_831 rfl (by rfl) ?_
  refine Go.aload_2 d_law_833 rfl ?_
  refine Go.aload_0 d_law_834 rfl ?_
  refine Go.iload_4 d_law_835 rfl ?_
  refine Go.iconst (v := 1) d_law_837 rfl (by decide) ?_
  refine Go.iadd d_law_838 rfl ?_
  rw [show nI i + 1 = nI (i + 1) from nI_add _ _]
  refine Go.sld d_law_839 rfl hst.hsc (vp_in_nI (by omega) (by omega)) ?_
  rw [nI_clamp (show i + 1 < 2 ^ 31 by omega)]
  refine Go.aload_0 d_law_840 rfl ?_
  refine Go.iload_4 d_law_841 rfl ?_
  refine Go.iconst (v := 2) d_law_843 rfl (by decide) ?_
  refine Go.iadd d_law_844 rfl ?_
  rw [show nI i + 2 = nI (i + 2) from nI_add _ _]
  refine Go.sld d_law_845 rfl hst.hsc (vp_in_nI (by omega) (by omega)) ?_
  rw [nI_clamp (show i + 2 < 2 ^ 31 by omega)]
  refine Go.heq (lw_s geo) ?_
  refine Go.cv2r d_law_846 rfl l_Law_128 k_Model_probe_v (ms_at_m (by omega) hB hS hC hD hE) rfl (c_Model_probe (by omega) hB hS hC hD hE) (by rfl) rfl rfl ?_
  refine Go.heq (lw_s geo).symm ?_
  refine Go.istore_6 d_law_849 rfl (by rfl) ?_
  refine Go.aload_2 d_law_851 rfl ?_
  refine Go.heq (lw_s geo) ?_
  refine Go.cv0r d_law_852 rfl l_Law_87 k_Model_thrown_v (ms_at_m (by omega) hB hS hC hD hE) rfl (c_Model_thrown (by omega) hB hS hC hD hE) (by rfl) rfl rfl ?_
  refine Go.heq (lw_s geo).symm ?_
  refine Go.iload_5 d_law_855 rfl ?_
  refine Go.icmp_eq (t := 862) d_law_857 (by decide) rfl (fun _ => ?_) (fun ne => absurd hth ne)
  refine Go.iload_5 d_law_862 rfl ?_
  refine Go.if_ne (t := 879) d_law_864 (by decide) rfl (fun c5 => ?_) (fun c5 => ?_)
  · refine Go.goto (t := 1548) d_law_879 (by decide) ?_
    refine Go.iinc_4 d_law_1548 rfl (by rfl) nI_inc6 ?_
    refine Go.goto (t := 23) d_law_1551 (by decide) ?_
    refine Go.fgt [some (.ref b), some (.ref c), some (.ref m), some (.ref w), some (.int (nI (i + 6))), none, none, none, none] (by repeat' (first | exact trivial | refine ⟨rfl, ?_⟩)) ?_
    exact Go.room (k _ _ _ _ _ _ _ _ _ _ _ _ _ _ _ _ _ _ _ _ _ _ ⟨geo, by omega, hup_at, ho, ho2, hrel, hV, hU⟩) (Nat.le_refl _) (by omega) (by omega)
  · have ht : (s_Camp_probe A K σ τ T F U G P (xs (i + 1)) (xs (i + 2))).1 = 0 := Classical.byContradiction fun w9 => by
      rw [if_neg w9] at c5
      (repeat' split at c5) <;> exact absurd c5 (by decide)
    refine Go.aload_3 d_law_867 rfl ?_
    refine Go.iconst (v := 0) d_law_868 rfl (by decide) ?_
    refine Go.laload d_law_869 rfl ((cw_outu (by omega)).trans ((mf_outw (by omega)).trans hup_at)) (show vp_in (nI 0) 1 from vp_in_nI (by decide) (by decide)) ?_
    rw [show (0 : Int32).toNatClampNeg = 0 from by decide, hf ht]
    refine Go.iload_6 d_law_870 rfl ?_
    refine Go.i2l d_law_872 rfl ?_
    refine Go.lcmp d_law_873 rfl ?_
    rw [hv ht, lg_self]
    refine Go.if_eq (t := 879) d_law_874 (by decide) rfl (fun _ => ?_) (fun ne => absurd rfl ne)
    refine Go.goto (t := 1548) d_law_879 (by decide) ?_
    refine Go.iinc_4 d_law_1548 rfl (by rfl) nI_inc6 ?_
    refine Go.goto (t := 23) d_law_1551 (by decide) ?_
    refine Go.fgt [some (.ref b), some (.ref c), some (.ref m), some (.ref w), some (.int (nI (i + 6))), none, none, none, none] (by repeat' (first | exact trivial | refine ⟨rfl, ?_⟩)) ?_
    exact Go.room (k _ _ _ _ _ _ _ _ _ _ _ _ _ _ _ _ _ _ _ _ _ _ ⟨geo, by omega, hup_at, ho, ho2, hrel, hV, hU⟩) (Nat.le_refl _) (by omega) (by omega)
set_option maxRecDepth 100000 in
set_option maxHeartbeats 800000 in
theorem lc_fill {R : RelT} {Γ : G9} {sg tx wd ms : Nat → Nat} {sw sa wa sn b L : Nat} {xs : Nat → Int32} {c m r r2 w n i z C S g g2 o o2 q : Nat} {h : AH} {f : Nat → Int64} {Q : QT} {A : TA} {K : TK} {σ τ : GL} {T : TM} {F : FM} {U : TM} {G : FM} {P : CP} {M : MO} {H : SH} {Y Ah : SX} {ow : Nat} (hst : ST Γ sg tx wd ms sw sa wa sn b L xs) (hp : PureOK R) (hi : i + 6 ≤ L) (hL : L ≤ 3072) (hn : n < 512) (k : LHead R Γ sg b c m r r2 w Q (n + 1) (i + 6) C S) (lf : LF R Γ c m r r2 w n z h f g g2 o o2 q A σ τ T F U P M H Y) : Go Γ M_law 200 (C + 40) (S + 2000) 882 [some (.ref b), some (.ref c), some (.ref m), some (.ref w), some (.int (nI i)), none, none, none, none] [] (cw_ Γ sg (mf_ Γ h m q r r2 M H Y Ah ow) c g g2 o o2 A K σ τ T F U G P) z Q noX := by
  obtain ⟨geo, hz, hw0, ho, ho2, rel, hV, hU⟩ := lf
  obtain ⟨hA, hT, hW, hsz, hB, hS, hC, hD, hE, hO, hdy⟩ := hp.bnd rel
  have pf := hp.p_fill (K := K) (τ := τ) (U := U) (G := G) (x1 := (xs (i + 1))) (x2 := (xs (i + 2))) hn rel hV hU
  obtain ⟨hth, hv, hrel⟩ := pf
  refine Go.aload_1 d_law_882 rfl ?_
  refine Go.aload_0 d_law_883 rfl ?_
  refine Go.iload_4 d_law_884 rfl ?_
  refine Go.iconst (v := 1) d_law_886 rfl (by decide) ?_
  refine Go.iadd d_law_887 rfl ?_
  rw [show nI i + 1 = nI (i + 1) from nI_add _ _]
  refine Go.sld d_law_888 rfl hst.hsc (vp_in_nI (by omega) (by omega)) ?_
  rw [nI_clamp (show i + 1 < 2 ^ 31 by omega)]
  refine Go.aload_0 d_law_889 rfl ?_
  refine Go.iload_4 d_law_890 rfl ?_
  refine Go.iconst (v := 2) d_law_892 rfl (by decide) ?_
  refine Go.iadd d_law_893 rfl ?_
  rw [show nI i + 2 = nI (i + 2) from nI_add _ _]
  refine Go.sld d_law_894 rfl hst.hsc (vp_in_nI (by omega) (by omega)) ?_
  rw [nI_clamp (show i + 2 < 2 ^ 31 by omega)]
  refine Go.aload_3 d_law_895 rfl ?_
  refine Go.callSW (C1 := C + 36) (S1 := S + 1976) (as := [.ref c, .int (xs (i + 1)), .int (xs (i + 2)), .ref w]) d_law_896 rfl l_Law_129 k_Law_fill_s (List.cons_ne_nil _ _) rfl rfl (w_fill hst.hs hst.hsn hst.hw (by omega) hA ((mf_outlo (by omega)).trans ho) ((mf_outlo (by omega)).trans ho2) hT hU hW hV hst.hms hst.hth ((mf_outw (by omega)).trans hw0) hst.hnc) (by decide) (by decide) (by omega) (by omega) (Nat.le_of_ble_eq_true rfl) (fun E h9 z9 hx _ => hx.elim) (fun v9 h9 z9 hx hz9 => ?_)
  obtain ⟨hz1, hx⟩ := hx
  obtain ⟨f1, rfl, rfl, hf⟩ := wr_uni (F := fun hh => (cw_ Γ sg hh c g g2 o o2 A K (s_Camp_fill A K σ τ T F U G P (xs (i + 1)) (xs (i + 2))).2.2 τ T F U G P)) ((mf_outw (by omega)).trans hw0) hx
  refine Go.heq (h' := (cw_ Γ sg (mf_ Γ (hup h w (aJ Γ 1 f1)) m q r r2 M H Y Ah ow) c g g2 o o2 A K (s_Camp_fill A K σ τ T F U G P (xs (i + 1)) (xs (i + 2))).2.2 τ T F U G P)) (congrArg (fun hh => (cw_ Γ sg hh c g g2 o o2 A K (s_Camp_fill A K σ τ T F U G P (xs (i + 1)) (xs (i + 2))).2.2 τ T F U G P)) (mf_hup geo)) ?_
  have ho : (hup h w (aJ Γ 1 f1)) o = _ := (hup_ne (by omega)).trans ho
  have ho2 : (hup h w (aJ Γ 1 f1)) o2 = _ := (hup_ne (by omega)).trans ho2
  refine Go.istore_5 d_law_899 rfl (by rfl) ?_
  refine Go.aload_2 d_law_901 rfl ?_
  refine Go.aload_0 d_law_902 rfl ?_
  refine Go.iload_4 d_law_903 rfl ?_
  refine Go.iconst (v := 1) d_law_905 rfl (by decide) ?_
  refine Go.iadd d_law_906 rfl ?_
  rw [show nI i + 1 = nI (i + 1) from nI_add _ _]
  refine Go.sld d_law_907 rfl hst.hsc (vp_in_nI (by omega) (by omega)) ?_
  rw [nI_clamp (show i + 1 < 2 ^ 31 by omega)]
  refine Go.aload_0 d_law_908 rfl ?_
  refine Go.iload_4 d_law_909 rfl ?_
  refine Go.iconst (v := 2) d_law_911 rfl (by decide) ?_
  refine Go.iadd d_law_912 rfl ?_
  rw [show nI i + 2 = nI (i + 2) from nI_add _ _]
  refine Go.sld d_law_913 rfl hst.hsc (vp_in_nI (by omega) (by omega)) ?_
  rw [nI_clamp (show i + 2 < 2 ^ 31 by omega)]
  refine Go.heq (lw_s geo) ?_
  refine Go.cv2r d_law_914 rfl l_Law_131 k_Model_fill_0_v (ms_at_m (by omega) hB hS hC hD hE) rfl (c_Model_fill_0 (by omega) hB hS hC hD hE) (by rfl) rfl rfl ?_
  refine Go.heq (lw_s geo).symm ?_
  refine Go.istore_6 d_law_917 rfl (by rfl) ?_
  refine Go.aload_2 d_law_919 rfl ?_
  refine Go.heq (lw_s geo) ?_
  refine Go.cv0r d_law_920 rfl l_Law_87 k_Model_thrown_v (ms_at_m (by omega) hB hS hC hD hE) rfl (c_Model_thrown (by omega) hB hS hC hD hE) (by rfl) rfl rfl ?_
  refine Go.heq (lw_s geo).symm ?_
  refine Go.iload_5 d_law_923 rfl ?_
  refine Go.icmp_eq (t := 930) d_law_925 (by decide) rfl (fun _ => ?_) (fun ne => absurd hth ne)
  refine Go.iload_5 d_law_930 rfl ?_
  refine Go.if_ne (t := 947) d_law_932 (by decide) rfl (fun c5 => ?_) (fun c5 => ?_)
  · refine Go.goto (t := 1548) d_law_947 (by decide) ?_
    refine Go.iinc_4 d_law_1548 rfl (by rfl) nI_inc6 ?_
    refine Go.goto (t := 23) d_law_1551 (by decide) ?_
    refine Go.fgt [some (.ref b), some (.ref c), some (.ref m), some (.ref w), some (.int (nI (i + 6))), none, none, none, none] (by repeat' (first | exact trivial | refine ⟨rfl, ?_⟩)) ?_
    exact Go.room (k _ _ _ _ _ _ _ _ _ _ _ _ _ _ _ _ _ _ _ _ _ _ ⟨geo, by omega, hup_at, ho, ho2, hrel, hV, hU⟩) (Nat.le_refl _) (by omega) (by omega)
  · have ht : (s_Camp_fill A K σ τ T F U G P (xs (i + 1)) (xs (i + 2))).1 = 0 := Classical.byContradiction fun w9 => by
      rw [if_neg w9] at c5
      (repeat' split at c5) <;> exact absurd c5 (by decide)
    refine Go.aload_3 d_law_935 rfl ?_
    refine Go.iconst (v := 0) d_law_936 rfl (by decide) ?_
    refine Go.laload d_law_937 rfl ((cw_outu (by omega)).trans ((mf_outw (by omega)).trans hup_at)) (show vp_in (nI 0) 1 from vp_in_nI (by decide) (by decide)) ?_
    rw [show (0 : Int32).toNatClampNeg = 0 from by decide, hf ht]
    refine Go.iload_6 d_law_938 rfl ?_
    refine Go.i2l d_law_940 rfl ?_
    refine Go.lcmp d_law_941 rfl ?_
    rw [hv ht, lg_self]
    refine Go.if_eq (t := 947) d_law_942 (by decide) rfl (fun _ => ?_) (fun ne => absurd rfl ne)
    refine Go.goto (t := 1548) d_law_947 (by decide) ?_
    refine Go.iinc_4 d_law_1548 rfl (by rfl) nI_inc6 ?_
    refine Go.goto (t := 23) d_law_1551 (by decide) ?_
    refine Go.fgt [some (.ref b), some (.ref c), some (.ref m), some (.ref w), some (.int (nI (i + 6))), none, none, none, none] (by repeat' (first | exact trivial | refine ⟨rfl, ?_⟩)) ?_
    exact Go.room (k _ _ _ _ _ _ _ _ _ _ _ _ _ _ _ _ _ _ _ _ _ _ ⟨geo, by omega, hup_at, ho, ho2, hrel, hV, hU⟩) (Nat.le_refl _) (by omega) (by omega)
set_option maxRecDepth 100000 in
set_option maxHeartbeats 800000 in
theorem lc_stock {R : RelT} {Γ : G9} {sg tx wd ms : Nat → Nat} {sw sa wa sn b L : Nat} {xs : Nat → Int32} {c m r r2 w n i z C S g g2 o o2 q : Nat} {h : AH} {f : Nat → Int64} {Q : QT} {A : TA} {K : TK} {σ τ : GL} {T : TM} {F : FM} {U : TM} {G : FM} {P : CP} {M : MO} {H : SH} {Y Ah : SX} {ow : Nat} (hst : ST Γ sg tx wd ms sw sa wa sn b L xs) (hp : PureOK R) (hi : i + 6 ≤ L) (hL : L ≤ 3072) (hn : n < 512) (k : LHead R Γ sg b c m r r2 w Q (n + 1) (i + 6) C S) (lf : LF R Γ c m r r2 w n z h f g g2 o o2 q A σ τ T F U P M H Y) : Go Γ M_law 200 (C + 40) (S + 2000) 950 [some (.ref b), some (.ref c), some (.ref m), some (.ref w), some (.int (nI i)), none, none, none, none] [] (cw_ Γ sg (mf_ Γ h m q r r2 M H Y Ah ow) c g g2 o o2 A K σ τ T F U G P) z Q noX := by
  obtain ⟨geo, hz, hw0, ho, ho2, rel, hV, hU⟩ := lf
  obtain ⟨hA, hT, hW, hsz, hB, hS, hC, hD, hE, hO, hdy⟩ := hp.bnd rel
  have pf := hp.p_stock (K := K) (τ := τ) (U := U) (G := G) (x1 := (xs (i + 1))) (x2 := (xs (i + 2))) hn rel hV hU
  obtain ⟨hth, hv, hrel⟩ := pf
  refine Go.aload_1 d_law_950 rfl ?_
  refine Go.aload_0 d_law_951 rfl ?_
  refine Go.iload_4 d_law_952 rfl ?_
  refine Go.iconst (v := 1) d_law_954 rfl (by decide) ?_
  refine Go.iadd d_law_955 rfl ?_
  rw [show nI i + 1 = nI (i + 1) from nI_add _ _]
  refine Go.sld d_law_956 rfl hst.hsc (vp_in_nI (by omega) (by omega)) ?_
  rw [nI_clamp (show i + 1 < 2 ^ 31 by omega)]
  refine Go.aload_0 d_law_957 rfl ?_
  refine Go.iload_4 d_law_958 rfl ?_
  refine Go.iconst (v := 2) d_law_960 rfl (by decide) ?_
  refine Go.iadd d_law_961 rfl ?_
  rw [show nI i + 2 = nI (i + 2) from nI_add _ _]
  refine Go.sld d_law_962 rfl hst.hsc (vp_in_nI (by omega) (by omega)) ?_
  rw [nI_clamp (show i + 2 < 2 ^ 31 by omega)]
  refine Go.aload_3 d_law_963 rfl ?_
  refine Go.callSW (C1 := C + 36) (S1 := S + 1976) (as := [.ref c, .int (xs (i + 1)), .int (xs (i + 2)), .ref w]) d_law_964 rfl l_Law_132 k_Law_stock_s (List.cons_ne_nil _ _) rfl rfl (w_stock hst.hs hst.hsn hst.hw (by omega) hA ((mf_outlo (by omega)).trans ho) ((mf_outlo (by omega)).trans ho2) hT hU hW hV hst.hms hst.hth ((mf_outw (by omega)).trans hw0) hst.hnc) (by decide) (by decide) (by omega) (by omega) (Nat.le_of_ble_eq_true rfl) (fun E h9 z9 hx _ => hx.elim) (fun v9 h9 z9 hx hz9 => ?_)
  obtain ⟨hz1, hx⟩ := hx
  obtain ⟨f1, rfl, rfl, hf⟩ := wr_uni (F := fun hh => (cw_ Γ sg hh c g g2 o o2 A K (s_Camp_stock A K σ τ T F U G P (xs (i + 1)) (xs (i + 2))).2.2 τ T F U G P)) ((mf_outw (by omega)).trans hw0) hx
  refine Go.heq (h' := (cw_ Γ sg (mf_ Γ (hup h w (aJ Γ 1 f1)) m q r r2 M H Y Ah ow) c g g2 o o2 A K (s_Camp_stock A K σ τ T F U G P (xs (i + 1)) (xs (i + 2))).2.2 τ T F U G P)) (congrArg (fun hh => (cw_ Γ sg hh c g g2 o o2 A K (s_Camp_stock A K σ τ T F U G P (xs (i + 1)) (xs (i + 2))).2.2 τ T F U G P)) (mf_hup geo)) ?_
  have ho : (hup h w (aJ Γ 1 f1)) o = _ := (hup_ne (by omega)).trans ho
  have ho2 : (hup h w (aJ Γ 1 f1)) o2 = _ := (hup_ne (by omega)).trans ho2
  refine Go.istore_5 d_law_967 rfl (by rfl) ?_
  refine Go.aload_2 d_law_969 rfl ?_
  refine Go.aload_0 d_law_970 rfl ?_
  refine Go.iload_4 d_law_971 rfl ?_
  refine Go.iconst (v := 1) d_law_973 rfl (by decide) ?_
  refine Go.iadd d_law_974 rfl ?_
  rw [show nI i + 1 = nI (i + 1) from nI_add _ _]
  refine Go.sld d_law_975 rfl hst.hsc (vp_in_nI (by omega) (by omega)) ?_
  rw [nI_clamp (show i + 1 < 2 ^ 31 by omega)]
  refine Go.aload_0 d_law_976 rfl ?_
  refine Go.iload_4 d_law_977 rfl ?_
  refine Go.iconst (v := 2) d_law_979 rfl (by decide) ?_
  refine Go.iadd d_law_980 rfl ?_
  rw [show nI i + 2 = nI (i + 2) from nI_add _ _]
  refine Go.sld d_law_981 rfl hst.hsc (vp_in_nI (by omega) (by omega)) ?_
  rw [nI_clamp (show i + 2 < 2 ^ 31 by omega)]
  refine Go.heq (lw_s geo) ?_
  refine Go.cv2r d_law_982 rfl l_Law_134 k_Model_stock_v (ms_at_m (by omega) hB hS hC hD hE) rfl (c_Model_stock (by omega) hB hS hC hD hE) (by rfl) rfl rfl ?_
  refine Go.heq (lw_s geo).symm ?_
  refine Go.istore_6 d_law_985 rfl (by rfl) ?_
  refine Go.aload_2 d_law_987 rfl ?_
  refine Go.heq (lw_s geo) ?_
  refine Go.cv0r d_law_988 rfl l_Law_87 k_Model_thrown_v (ms_at_m (by omega) hB hS hC hD hE) rfl (c_Model_thrown (by omega) hB hS hC hD hE) (by rfl) rfl rfl ?_
  refine Go.heq (lw_s geo).symm ?_
  refine Go.iload_5 d_law_991 rfl ?_
  refine Go.icmp_eq (t := 998) d_law_993 (by decide) rfl (fun _ => ?_) (fun ne => absurd hth ne)
  refine Go.iload_5 d_law_998 rfl ?_
  refine Go.if_ne (t := 1015) d_law_1000 (by decide) rfl (fun c5 => ?_) (fun c5 => ?_)
  · refine Go.goto (t := 1548) d_law_1015 (by decide) ?_
    refine Go.iinc_4 d_law_1548 rfl (by rfl) nI_inc6 ?_
    refine Go.goto (t := 23) d_law_1551 (by decide) ?_
    refine Go.fgt [some (.ref b), some (.ref c), some (.ref m), some (.ref w), some (.int (nI (i + 6))), none, none, none, none] (by repeat' (first | exact trivial | refine ⟨rfl, ?_⟩)) ?_
    exact Go.room (k _ _ _ _ _ _ _ _ _ _ _ _ _ _ _ _ _ _ _ _ _ _ ⟨geo, by omega, hup_at, ho, ho2, hrel, hV, hU⟩) (Nat.le_refl _) (by omega) (by omega)
  · have ht : (s_Camp_stock A K σ τ T F U G P (xs (i + 1)) (xs (i + 2))).1 = 0 := Classical.byContradiction fun w9 => by
      rw [if_neg w9] at c5
      (repeat' split at c5) <;> exact absurd c5 (by decide)
    refine Go.aload_3 d_law_1003 rfl ?_
    refine Go.iconst (v := 0) d_law_1004 rfl (by decide) ?_
    refine Go.laload d_law_1005 rfl ((cw_outu (by omega)).trans ((mf_outw (by omega)).trans hup_at)) (show vp_in (nI 0) 1 from vp_in_nI (by decide) (by decide)) ?_
    rw [show (0 : Int32).toNatClampNeg = 0 from by decide, hf ht]
    refine Go.iload_6 d_law_1006 rfl ?_
    refine Go.i2l d_law_1008 rfl ?_
    refine Go.lcmp d_law_1009 rfl ?_
    rw [hv ht, lg_self]
    refine Go.if_eq (t := 1015) d_law_1010 (by decide) rfl (fun _ => ?_) (fun ne => absurd rfl ne)
    refine Go.goto (t := 1548) d_law_1015 (by decide) ?_
    refine Go.iinc_4 d_law_1548 rfl (by rfl) nI_inc6 ?_
    refine Go.goto (t := 23) d_law_1551 (by decide) ?_
    refine Go.fgt [some (.ref b), some (.ref c), some (.ref m), some (.ref w), some (.int (nI (i + 6))), none, none, none, none] (by repeat' (first | exact trivial | refine ⟨rfl, ?_⟩)) ?_
    exact Go.room (k _ _ _ _ _ _ _ _ _ _ _ _ _ _ _ _ _ _ _ _ _ _ ⟨geo, by omega, hup_at, ho, ho2, hrel, hV, hU⟩) (Nat.le_refl _) (by omega) (by omega)
set_option maxRecDepth 100000 in
set_option maxHeartbeats 800000 in
theorem lc_setWarm {R : RelT} {Γ : G9} {sg tx wd ms : Nat → Nat} {sw sa wa sn b L : Nat} {xs : Nat → Int32} {c m r r2 w n i z C S g g2 o o2 q : Nat} {h : AH} {f : Nat → Int64} {Q : QT} {A : TA} {K : TK} {σ τ : GL} {T : TM} {F : FM} {U : TM} {G : FM} {P : CP} {M : MO} {H : SH} {Y Ah : SX} {ow : Nat} (hst : ST Γ sg tx wd ms sw sa wa sn b L xs) (hp : PureOK R) (hi : i + 6 ≤ L) (hL : L ≤ 3072) (hn : n < 512) (k : LHead R Γ sg b c m r r2 w Q (n + 1) (i + 6) C S) (lf : LF R Γ c m r r2 w n z h f g g2 o o2 q A σ τ T F U P M H Y) : Go Γ M_law 200 (C + 40) (S + 2000) 1018 [some (.ref b), some (.ref c), some (.ref m), some (.ref w), some (.int (nI i)), none, none, none, none] [] (cw_ Γ sg (mf_ Γ h m q r r2 M H Y Ah ow) c g g2 o o2 A K σ τ T F U G P) z Q noX := by
  obtain ⟨geo, hz, hw0, ho, ho2, rel, hV, hU⟩ := lf
  obtain ⟨hA, hT, hW, hsz, hB, hS, hC, hD, hE, hO, hdy⟩ := hp.bnd rel
  have pf := hp.p_setWarm (K := K) (τ := τ) (U := U) (G := G) (x1 := (xs (i + 1))) (x2 := (xs (i + 2))) hn rel hV hU
  obtain ⟨hth, hv, hrel⟩ := pf
  refine Go.aload_1 d_law_1018 rfl ?_
  refine Go.aload_0 d_law_1019 rfl ?_
  refine Go.iload_4 d_law_1020 rfl ?_
  refine Go.iconst (v := 1) d_law_1022 rfl (by decide) ?_
  refine Go.iadd d_law_1023 rfl ?_
  rw [show nI i + 1 = nI (i + 1) from nI_add _ _]
  refine Go.sld d_law_1024 rfl hst.hsc (vp_in_nI (by omega) (by omega)) ?_
  rw [nI_clamp (show i + 1 < 2 ^ 31 by omega)]
  refine Go.aload_0 d_law_1025 rfl ?_
  refine Go.iload_4 d_law_1026 rfl ?_
  refine Go.iconst (v := 2) d_law_1028 rfl (by decide) ?_
  refine Go.iadd d_law_1029 rfl ?_
  rw [show nI i + 2 = nI (i + 2) from nI_add _ _]
  refine Go.sld d_law_1030 rfl hst.hsc (vp_in_nI (by omega) (by omega)) ?_
  rw [nI_clamp (show i + 2 < 2 ^ 31 by omega)]
  refine Go.aload_3 d_law_1031 rfl ?_
  refine Go.callSW (C1 := C + 36) (S1 := S + 1976) (as := [.ref c, .int (xs (i + 1)), .int (xs (i + 2)), .ref w]) d_law_1032 rfl l_Law_135 k_Law_setWarm_s (List.cons_ne_nil _ _) rfl rfl (w_setWarm hst.hs hst.hsn hst.hw (by omega) hA ((mf_outlo (by omega)).trans ho) ((mf_outlo (by omega)).trans ho2) hT hU hW hV hst.hms hst.hth ((mf_outw (by omega)).trans hw0) hst.hnc) (by decide) (by decide) (by omega) (by omega) (Nat.le_of_ble_eq_true rfl) (fun E h9 z9 hx _ => hx.elim) (fun v9 h9 z9 hx hz9 => ?_)
  obtain ⟨hz1, hx⟩ := hx
  obtain ⟨f1, rfl, rfl, hf⟩ := wr_uni (F := fun hh => (cw_ Γ sg hh c g g2 o o2 A K (s_Camp_setWarm A K σ τ T F U G P (xs (i + 1)) (xs (i + 2))).2.2 τ T F U G P)) ((mf_outw (by omega)).trans hw0) hx
  refine Go.heq (h' := (cw_ Γ sg (mf_ Γ (hup h w (aJ Γ 1 f1)) m q r r2 M H Y Ah ow) c g g2 o o2 A K (s_Camp_setWarm A K σ τ T F U G P (xs (i + 1)) (xs (i + 2))).2.2 τ T F U G P)) (congrArg (fun hh => (cw_ Γ sg hh c g g2 o o2 A K (s_Camp_setWarm A K σ τ T F U G P (xs (i + 1)) (xs (i + 2))).2.2 τ T F U G P)) (mf_hup geo)) ?_
  have ho : (hup h w (aJ Γ 1 f1)) o = _ := (hup_ne (by omega)).trans ho
  have ho2 : (hup h w (aJ Γ 1 f1)) o2 = _ := (hup_ne (by omega)).trans ho2
  refine Go.istore_5 d_law_1035 rfl (by rfl) ?_
  refine Go.aload_2 d_law_1037 rfl ?_
  refine Go.aload_0 d_law_1038 rfl ?_
  refine Go.iload_4 d_law_1039 rfl ?_
  refine Go.iconst (v := 1) d_law_1041 rfl (by decide) ?_
  refine Go.iadd d_law_1042 rfl ?_
  rw [show nI i + 1 = nI (i + 1) from nI_add _ _]
  refine Go.sld d_law_1043 rfl hst.hsc (vp_in_nI (by omega) (by omega)) ?_
  rw [nI_clamp (show i + 1 < 2 ^ 31 by omega)]
  refine Go.aload_0 d_law_1044 rfl ?_
  refine Go.iload_4 d_law_1045 rfl ?_
  refine Go.iconst (v := 2) d_law_1047 rfl (by decide) ?_
  refine Go.iadd d_law_1048 rfl ?_
  rw [show nI i + 2 = nI (i + 2) from nI_add _ _]
  refine Go.sld d_law_1049 rfl hst.hsc (vp_in_nI (by omega) (by omega)) ?_
  rw [nI_clamp (show i + 2 < 2 ^ 31 by omega)]
  refine Go.heq (lw_s geo) ?_
  refine Go.cv2r d_law_1050 rfl l_Law_137 k_Model_setWarm_v (ms_at_m (by omega) hB hS hC hD hE) rfl (c_Model_setWarm (by omega) hB hS hC hD hE) (by rfl) rfl rfl ?_
  refine Go.heq (lw_s geo).symm ?_
  refine Go.istore_6 d_law_1053 rfl (by rfl) ?_
  refine Go.aload_2 d_law_1055 rfl ?_
  refine Go.heq (lw_s geo) ?_
  refine Go.cv0r d_law_1056 rfl l_Law_87 k_Model_thrown_v (ms_at_m (by omega) hB hS hC hD hE) rfl (c_Model_thrown (by omega) hB hS hC hD hE) (by rfl) rfl rfl ?_
  refine Go.heq (lw_s geo).symm ?_
  refine Go.iload_5 d_law_1059 rfl ?_
  refine Go.icmp_eq (t := 1066) d_law_1061 (by decide) rfl (fun _ => ?_) (fun ne => absurd hth ne)
  refine Go.iload_5 d_law_1066 rfl ?_
  refine Go.if_ne (t := 1083) d_law_1068 (by decide) rfl (fun c5 => ?_) (fun c5 => ?_)
  · refine Go.goto (t := 1548) d_law_1083 (by decide) ?_
    refine Go.iinc_4 d_law_1548 rfl (by rfl) nI_inc6 ?_
    refine Go.goto (t := 23) d_law_1551 (by decide) ?_
    refine Go.fgt [some (.ref b), some (.ref c), some (.ref m), some (.ref w), some (.int (nI (i + 6))), none, none, none, none] (by repeat' (first | exact trivial | refine ⟨rfl, ?_⟩)) ?_
    exact Go.room (k _ _ _ _ _ _ _ _ _ _ _ _ _ _ _ _ _ _ _ _ _ _ ⟨geo, by omega, hup_at, ho, ho2, hrel, hV, hU⟩) (Nat.le_refl _) (by omega) (by omega)
  · have ht : (s_Camp_setWarm A K σ τ T F U G P (xs (i + 1)) (xs (i + 2))).1 = 0 := Classical.byContradiction fun w9 => by
      rw [if_neg w9] at c5
      (repeat' split at c5) <;> exact absurd c5 (by decide)
    refine Go.aload_3 d_law_1071 rfl ?_
    refine Go.iconst (v := 0) d_law_1072 rfl (by decide) ?_
    refine Go.laload d_law_1073 rfl ((cw_outu (by omega)).trans ((mf_outw (by omega)).trans hup_at)) (show vp_in (nI 0) 1 from vp_in_nI (by decide) (by decide)) ?_
    rw [show (0 : Int32).toNatClampNeg = 0 from by decide, hf ht]
    refine Go.iload_6 d_law_1074 rfl ?_
    refine Go.i2l d_law_1076 rfl ?_
    refine Go.lcmp d_law_1077 rfl ?_
    rw [hv ht, lg_self]
    refine Go.if_eq (t := 1083) d_law_1078 (by decide) rfl (fun _ => ?_) (fun ne => absurd rfl ne)
    refine Go.goto (t := 1548) d_law_1083 (by decide) ?_
    refine Go.iinc_4 d_law_1548 rfl (by rfl) nI_inc6 ?_
    refine Go.goto (t := 23) d_law_1551 (by decide) ?_
    refine Go.fgt [some (.ref b), some (.ref c), some (.ref m), some (.ref w), some (.int (nI (i + 6))), none, none, none, none] (by repeat' (first | exact trivial | refine ⟨rfl, ?_⟩)) ?_
    exact Go.room (k _ _ _ _ _ _ _ _ _ _ _ _ _ _ _ _ _ _ _ _ _ _ ⟨geo, by omega, hup_at, ho, ho2, hrel, hV, hU⟩) (Nat.le_refl _) (by omega) (by omega)
set_option maxRecDepth 100000 in
set_option maxHeartbeats 800000 in
theorem lc_pass {R : RelT} {Γ : G9} {sg tx wd ms : Nat → Nat} {sw sa wa sn b L : Nat} {xs : Nat → Int32} {c m r r2 w n i z C S g g2 o o2 q : Nat} {h : AH} {f : Nat → Int64} {Q : QT} {A : TA} {K : TK} {σ τ : GL} {T : TM} {F : FM} {U : TM} {G : FM} {P : CP} {M : MO} {H : SH} {Y Ah : SX} {ow : Nat} (hst : ST Γ sg tx wd ms sw sa wa sn b L xs) (hp : PureOK R) (hi : i + 6 ≤ L) (hL : L ≤ 3072) (hn : n < 512) (k : LHead R Γ sg b c m r r2 w Q (n + 1) (i + 6) C S) (lf : LF R Γ c m r r2 w n z h f g g2 o o2 q A σ τ T F U P M H Y) : Go Γ M_law 200 (C + 40) (S + 2000) 1086 [some (.ref b), some (.ref c), some (.ref m), some (.ref w), some (.int (nI i)), none, none, none, none] [] (cw_ Γ sg (mf_ Γ h m q r r2 M H Y Ah ow) c g g2 o o2 A K σ τ T F U G P) z Q noX := by
  obtain ⟨geo, hz, hw0, ho, ho2, rel, hV, hU⟩ := lf
  obtain ⟨hA, hT, hW, hsz, hB, hS, hC, hD, hE, hO, hdy⟩ := hp.bnd rel
  have pf := hp.p_pass (K := K) (τ := τ) (U := U) (G := G) (Ah := Ah) (ow := ow) (x1 := (xs (i + 1))) hn rel hV hU
  obtain ⟨p, hr, hth, hv, hrel⟩ := pf
  refine Go.aload_1 d_law_1086 rfl ?_
  refine Go.aload_0 d_law_1087 rfl ?_
  refine Go.iload_4 d_law_1088 rfl ?_
  refine Go.iconst (v := 1) d_law_1090 rfl (by decide) ?_
  refine Go.iadd d_law_1091 rfl ?_
  rw [show nI i + 1 = nI (i + 1) from nI_add _ _]
  refine Go.sld d_law_1092 rfl hst.hsc (vp_in_nI (by omega) (by omega)) ?_
  rw [nI_clamp (show i + 1 < 2 ^ 31 by omega)]
  refine Go.aload_3 d_law_1093 rfl ?_
  refine Go.callSW (C1 := C + 36) (S1 := S + 1976) (as := [.ref c, .int (xs (i + 1)), .ref w]) d_law_1094 rfl l_Law_138 k_Law_pass_s (List.cons_ne_nil _ _) rfl rfl (w_pass hst.hs hst.hsn hst.hw (by omega) hA ((mf_outlo (by omega)).trans ho) ((mf_outlo (by omega)).trans ho2) hT hU hW hV hst.hms hst.hth ((mf_outw (by omega)).trans hw0) hst.hnc) (by decide) (by decide) (by omega) (by omega) (Nat.le_of_ble_eq_true rfl) (fun E h9 z9 hx _ => hx.elim) (fun v9 h9 z9 hx hz9 => ?_)
  obtain ⟨hz1, hx⟩ := hx
  obtain ⟨f1, rfl, rfl, hf⟩ := wr_uni (F := fun hh => (cw_ Γ sg hh c g g2 o o2 A K (s_Camp_pass A K σ τ T F U G P (xs (i + 1))).2.2.1 τ T (s_Camp_pass A K σ τ T F U G P (xs (i + 1))).2.2.2 U G P)) ((mf_outw (by omega)).trans hw0) hx
  refine Go.heq (h' := (cw_ Γ sg (mf_ Γ (hup h w (aJ Γ 1 f1)) m q r r2 M H Y Ah ow) c g g2 o o2 A K (s_Camp_pass A K σ τ T F U G P (xs (i + 1))).2.2.1 τ T (s_Camp_pass A K σ τ T F U G P (xs (i + 1))).2.2.2 U G P)) (congrArg (fun hh => (cw_ Γ sg hh c g g2 o o2 A K (s_Camp_pass A K σ τ T F U G P (xs (i + 1))).2.2.1 τ T (s_Camp_pass A K σ τ T F U G P (xs (i + 1))).2.2.2 U G P)) (mf_hup geo)) ?_
  have ho : (hup h w (aJ Γ 1 f1)) o = _ := (hup_ne (by omega)).trans ho
  have ho2 : (hup h w (aJ Γ 1 f1)) o2 = _ := (hup_ne (by omega)).trans ho2
  refine Go.istore_5 d_law_1097 rfl (by rfl) ?_
  refine Go.aload_2 d_law_1099 rfl ?_
  refine Go.aload_0 d_law_1100 rfl ?_
  refine Go.iload_4 d_law_1101 rfl ?_
  refine Go.iconst (v := 1) d_law_1103 rfl (by decide) ?_
  refine Go.iadd d_law_1104 rfl ?_
  rw [show nI i + 1 = nI (i + 1) from nI_add _ _]
  refine Go.sld d_law_1105 rfl hst.hsc (vp_in_nI (by omega) (by omega)) ?_
  rw [nI_clamp (show i + 1 < 2 ^ 31 by omega)]
  refine Go.heq (cw_mf geo) ?_
  refine Go.cv1r d_law_1106 rfl l_Law_140 k_Model_pass_v (mf_at_m (by omega) hB hS hC hD hE) rfl (c_Model_pass (by omega) hB hS hC hD hE hO hdy hr) (by rfl) rfl rfl ?_
  refine Go.heq (cw_mf geo).symm ?_
  refine Go.istore_6 d_law_1109 rfl (by rfl) ?_
  refine Go.aload_2 d_law_1111 rfl ?_
  refine Go.heq (lw_s geo) ?_
  refine Go.cv0r d_law_1112 rfl l_Law_87 k_Model_thrown_v (ms_at_m (by omega) hB hS hC hD hE) rfl (c_Model_thrown (by omega) hB hS hC hD hE) (by rfl) rfl rfl ?_
  refine Go.heq (lw_s geo).symm ?_
  refine Go.iload_5 d_law_1115 rfl ?_
  refine Go.icmp_eq (t := 1122) d_law_1117 (by decide) rfl (fun _ => ?_) (fun ne => absurd hth ne)
  refine Go.iload_5 d_law_1122 rfl ?_
  refine Go.if_ne (t := 1139) d_law_1124 (by decide) rfl (fun c5 => ?_) (fun c5 => ?_)
  · refine Go.goto (t := 1548) d_law_1139 (by decide) ?_
    refine Go.iinc_4 d_law_1548 rfl (by rfl) nI_inc6 ?_
    refine Go.goto (t := 23) d_law_1551 (by decide) ?_
    refine Go.fgt [some (.ref b), some (.ref c), some (.ref m), some (.ref w), some (.int (nI (i + 6))), none, none, none, none] (by repeat' (first | exact trivial | refine ⟨rfl, ?_⟩)) ?_
    exact Go.room (k _ _ _ _ _ _ _ _ _ _ _ _ _ _ _ _ _ _ _ _ _ _ ⟨geo, by omega, hup_at, ho, ho2, hrel, hV, hU⟩) (Nat.le_refl _) (by omega) (by omega)
  · have ht : (s_Camp_pass A K σ τ T F U G P (xs (i + 1))).1 = 0 := Classical.byContradiction fun w9 => by
      rw [if_neg w9] at c5
      exact absurd c5 (by decide)
    refine Go.aload_3 d_law_1127 rfl ?_
    refine Go.iconst (v := 0) d_law_1128 rfl (by decide) ?_
    refine Go.laload d_law_1129 rfl ((cw_outu (by omega)).trans ((mf_outw (by omega)).trans hup_at)) (show vp_in (nI 0) 1 from vp_in_nI (by decide) (by decide)) ?_
    rw [show (0 : Int32).toNatClampNeg = 0 from by decide, hf ht]
    refine Go.iload_6 d_law_1130 rfl ?_
    refine Go.i2l d_law_1132 rfl ?_
    refine Go.lcmp d_law_1133 rfl ?_
    rw [hv ht, lg_self]
    refine Go.if_eq (t := 1139) d_law_1134 (by decide) rfl (fun _ => ?_) (fun ne => absurd rfl ne)
    refine Go.goto (t := 1548) d_law_1139 (by decide) ?_
    refine Go.iinc_4 d_law_1548 rfl (by rfl) nI_inc6 ?_
    refine Go.goto (t := 23) d_law_1551 (by decide) ?_
    refine Go.fgt [some (.ref b), some (.ref c), some (.ref m), some (.ref w), some (.int (nI (i + 6))), none, none, none, none] (by repeat' (first | exact trivial | refine ⟨rfl, ?_⟩)) ?_
    exact Go.room (k _ _ _ _ _ _ _ _ _ _ _ _ _ _ _ _ _ _ _ _ _ _ ⟨geo, by omega, hup_at, ho, ho2, hrel, hV, hU⟩) (Nat.le_refl _) (by omega) (by omega)
set_option maxRecDepth 100000 in
set_option maxHeartbeats 800000 in
theorem lc_melt {R : RelT} {Γ : G9} {sg tx wd ms : Nat → Nat} {sw sa wa sn b L : Nat} {xs : Nat → Int32} {c m r r2 w n i z C S g g2 o o2 q : Nat} {h : AH} {f : Nat → Int64} {Q : QT} {A : TA} {K : TK} {σ τ : GL} {T : TM} {F : FM} {U : TM} {G : FM} {P : CP} {M : MO} {H : SH} {Y Ah : SX} {ow : Nat} (hst : ST Γ sg tx wd ms sw sa wa sn b L xs) (hp : PureOK R) (hi : i + 6 ≤ L) (hL : L ≤ 3072) (hn : n < 512) (k : LHead R Γ sg b c m r r2 w Q (n + 1) (i + 6) C S) (lf : LF R Γ c m r r2 w n z h f g g2 o o2 q A σ τ T F U P M H Y) : Go Γ M_law 200 (C + 40) (S + 2000) 1142 [some (.ref b), some (.ref c), some (.ref m), some (.ref w), some (.int (nI i)), none, none, none, none] [] (cw_ Γ sg (mf_ Γ h m q r r2 M H Y Ah ow) c g g2 o o2 A K σ τ T F U G P) z Q noX := by
  obtain ⟨geo, hz, hw0, ho, ho2, rel, hV, hU⟩ := lf
  obtain ⟨hA, hT, hW, hsz, hB, hS, hC, hD, hE, hO, hdy⟩ := hp.bnd rel
  have pf := hp.p_melt (K := K) (τ := τ) (U := U) (G := G) (x1 := (xs (i + 1))) (x2 := (xs (i + 2))) hn rel hV hU
  obtain ⟨hth, hv, hrel⟩ := pf
  refine Go.aload_1 d_law_1142 rfl ?_
  refine Go.aload_0 d_law_1143 rfl ?_
  refine Go.iload_4 d_law_1144 rfl ?_
  refine Go.iconst (v := 1) d_law_1146 rfl (by decide) ?_
  refine Go.iadd d_law_1147 rfl ?_
  rw [show nI i + 1 = nI (i + 1) from nI_add _ _]
  refine Go.sld d_law_1148 rfl hst.hsc (vp_in_nI (by omega) (by omega)) ?_
  rw [nI_clamp (show i + 1 < 2 ^ 31 by omega)]
  refine Go.aload_0 d_law_1149 rfl ?_
  refine Go.iload_4 d_law_1150 rfl ?_
  refine Go.iconst (v := 2) d_law_1152 rfl (by decide) ?_
  refine Go.iadd d_law_1153 rfl ?_
  rw [show nI i + 2 = nI (i + 2) from nI_add _ _]
  refine Go.sld d_law_1154 rfl hst.hsc (vp_in_nI (by omega) (by omega)) ?_
  rw [nI_clamp (show i + 2 < 2 ^ 31 by omega)]
  refine Go.aload_3 d_law_1155 rfl ?_
  refine Go.callSW (C1 := C + 36) (S1 := S + 1976) (as := [.ref c, .int (xs (i + 1)), .int (xs (i + 2)), .ref w]) d_law_1156 rfl l_Law_141 k_Law_melt_s (List.cons_ne_nil _ _) rfl rfl (w_melt hst.hs hst.hsn hst.hw (by omega) hA ((mf_outlo (by omega)).trans ho) ((mf_outlo (by omega)).trans ho2) hT hU hW hV hst.hms hst.hth ((mf_outw (by omega)).trans hw0) hst.hnc) (by decide) (by decide) (by omega) (by omega) (Nat.le_of_ble_eq_true rfl) (fun E h9 z9 hx _ => hx.elim) (fun v9 h9 z9 hx hz9 => ?_)
  obtain ⟨hz1, hx⟩ := hx
  obtain ⟨f1, rfl, rfl, hf⟩ := wr_uni (F := fun hh => (cw_ Γ sg hh c g g2 o o2 A K σ τ T F U G P)) ((mf_outw (by omega)).trans hw0) hx
  refine Go.heq (h' := (cw_ Γ sg (mf_ Γ (hup h w (aJ Γ 1 f1)) m q r r2 M H Y Ah ow) c g g2 o o2 A K σ τ T F U G P)) (congrArg (fun hh => (cw_ Γ sg hh c g g2 o o2 A K σ τ T F U G P)) (mf_hup geo)) ?_
  have ho : (hup h w (aJ Γ 1 f1)) o = _ := (hup_ne (by omega)).trans ho
  have ho2 : (hup h w (aJ Γ 1 f1)) o2 = _ := (hup_ne (by omega)).trans ho2
  refine Go.istore_5 d_law_1159 rfl (by rfl) ?_
  refine Go.aload_2 d_law_1161 rfl ?_
  refine Go.aload_0 d_law_1162 rfl ?_
  refine Go.iload_4 d_law_1163 rfl ?_
  refine Go.iconst (v := 1) d_law_1165 rfl (by decide) ?_
  refine Go.iadd d_law_1166 rfl ?_
  rw [show nI i + 1 = nI (i + 1) from nI_add _ _]
  refine Go.sld d_law_1167 rfl hst.hsc (vp_in_nI (by omega) (by omega)) ?_
  rw [nI_clamp (show i + 1 < 2 ^ 31 by omega)]
  refine Go.aload_0 d_law_1168 rfl ?_
  refine Go.iload_4 d_law_1169 rfl ?_
  refine Go.iconst (v := 2) d_law_1171 rfl (by decide) ?_
  refine Go.iadd d_law_1172 rfl ?_
  rw [show nI i + 2 = nI (i + 2) from nI_add _ _]
  refine Go.sld d_law_1173 rfl hst.hsc (vp_in_nI (by omega) (by omega)) ?_
  rw [nI_clamp (show i + 2 < 2 ^ 31 by omega)]
  refine Go.heq (lw_s geo) ?_
  refine Go.cv2r d_law_1174 rfl l_Law_143 k_Model_melt_0_v (ms_at_m (by omega) hB hS hC hD hE) rfl (c_Model_melt_0 (by omega) hB hS hC hD hE hdy) (by rfl) rfl rfl ?_
  refine Go.heq (lw_s geo).symm ?_
  refine Go.istore_6 d_law_1177 rfl (by rfl) ?_
  refine Go.aload_2 d_law_1179 rfl ?_
  refine Go.heq (lw_s geo) ?_
  refine Go.cv0r d_law_1180 rfl l_Law_87 k_Model_thrown_v (ms_at_m (by omega) hB hS hC hD hE) rfl (c_Model_thrown (by omega) hB hS hC hD hE) (by rfl) rfl rfl ?_
  refine Go.heq (lw_s geo).symm ?_
  refine Go.iload_5 d_law_1183 rfl ?_
  refine Go.icmp_eq (t := 1190) d_law_1185 (by decide) rfl (fun _ => ?_) (fun ne => absurd hth ne)
  refine Go.iload_5 d_law_1190 rfl ?_
  refine Go.if_ne (t := 1207) d_law_1192 (by decide) rfl (fun c5 => ?_) (fun c5 => ?_)
  · refine Go.goto (t := 1548) d_law_1207 (by decide) ?_
    refine Go.iinc_4 d_law_1548 rfl (by rfl) nI_inc6 ?_
    refine Go.goto (t := 23) d_law_1551 (by decide) ?_
    refine Go.fgt [some (.ref b), some (.ref c), some (.ref m), some (.ref w), some (.int (nI (i + 6))), none, none, none, none] (by repeat' (first | exact trivial | refine ⟨rfl, ?_⟩)) ?_
    exact Go.room (k _ _ _ _ _ _ _ _ _ _ _ _ _ _ _ _ _ _ _ _ _ _ ⟨geo, by omega, hup_at, ho, ho2, hrel, hV, hU⟩) (Nat.le_refl _) (by omega) (by omega)
  · have ht : (s_Camp_melt A K σ τ T F U G P (xs (i + 1)) (xs (i + 2))).1 = 0 := Classical.byContradiction fun w9 => by
      rw [if_neg w9] at c5
      (repeat' split at c5) <;> exact absurd c5 (by decide)
    refine Go.aload_3 d_law_1195 rfl ?_
    refine Go.iconst (v := 0) d_law_1196 rfl (by decide) ?_
    refine Go.laload d_law_1197 rfl ((cw_outu (by omega)).trans ((mf_outw (by omega)).trans hup_at)) (show vp_in (nI 0) 1 from vp_in_nI (by decide) (by decide)) ?_
    rw [show (0 : Int32).toNatClampNeg = 0 from by decide, hf ht]
    refine Go.iload_6 d_law_1198 rfl ?_
    refine Go.i2l d_law_1200 rfl ?_
    refine Go.lcmp d_law_1201 rfl ?_
    rw [hv ht, lg_self]
    refine Go.if_eq (t := 1207) d_law_1202 (by decide) rfl (fun _ => ?_) (fun ne => absurd rfl ne)
    refine Go.goto (t := 1548) d_law_1207 (by decide) ?_
    refine Go.iinc_4 d_law_1548 rfl (by rfl) nI_inc6 ?_
    refine Go.goto (t := 23) d_law_1551 (by decide) ?_
    refine Go.fgt [some (.ref b), some (.ref c), some (.ref m), some (.ref w), some (.int (nI (i + 6))), none, none, none, none] (by repeat' (first | exact trivial | refine ⟨rfl, ?_⟩)) ?_
    exact Go.room (k _ _ _ _ _ _ _ _ _ _ _ _ _ _ _ _ _ _ _ _ _ _ ⟨geo, by omega, hup_at, ho, ho2, hrel, hV, hU⟩) (Nat.le_refl _) (by omega) (by omega)
set_option maxRecDepth 100000 in
set_option maxHeartbeats 800000 in
theorem lc_until {R : RelT} {Γ : G9} {sg tx wd ms : Nat → Nat} {sw sa wa sn b L : Nat} {xs : Nat → Int32} {c m r r2 w n i z C S g g2 o o2 q : Nat} {h : AH} {f : Nat → Int64} {Q : QT} {A : TA} {K : TK} {σ τ : GL} {T : TM} {F : FM} {U : TM} {G : FM} {P : CP} {M : MO} {H : SH} {Y Ah : SX} {ow : Nat} (hst : ST Γ sg tx wd ms sw sa wa sn b L xs) (hp : PureOK R) (hi : i + 6 ≤ L) (hL : L ≤ 3072) (hn : n < 512) (k : LHead R Γ sg b c m r r2 w Q (n + 1) (i + 6) C S) (lf : LF R Γ c m r r2 w n z h f g g2 o o2 q A σ τ T F U P M H Y) : Go Γ M_law 200 (C + 40) (S + 2000) 1210 [some (.ref b), some (.ref c), some (.ref m), some (.ref w), some (.int (nI i)), none, none, none, none] [] (cw_ Γ sg (mf_ Γ h m q r r2 M H Y Ah ow) c g g2 o o2 A K σ τ T F U G P) z Q noX := by
  obtain ⟨geo, hz, hw0, ho, ho2, rel, hV, hU⟩ := lf
  obtain ⟨hA, hT, hW, hsz, hB, hS, hC, hD, hE, hO, hdy⟩ := hp.bnd rel
  have pf := hp.p_until (K := K) (τ := τ) (U := U) (G := G) (Ah := Ah) (ow := ow) (x1 := (xs (i + 1))) hn rel hV hU
  obtain ⟨p, hr, hth, hv, hrel, hV2⟩ := pf
  refine Go.aload_1 d_law_1210 rfl ?_
  refine Go.aload_0 d_law_1211 rfl ?_
  refine Go.iload_4 d_law_1212 rfl ?_
  refine Go.iconst (v := 1) d_law_1214 rfl (by decide) ?_
  refine Go.iadd d_law_1215 rfl ?_
  rw [show nI i + 1 = nI (i + 1) from nI_add _ _]
  refine Go.sld d_law_1216 rfl hst.hsc (vp_in_nI (by omega) (by omega)) ?_
  rw [nI_clamp (show i + 1 < 2 ^ 31 by omega)]
  refine Go.aload_3 d_law_1217 rfl ?_
  refine Go.callSW (C1 := C + 36) (S1 := S + 1976) (as := [.ref c, .int (xs (i + 1)), .ref w]) d_law_1218 rfl l_Law_144 k_Law_until_s (List.cons_ne_nil _ _) rfl rfl (w_until hst.hs hst.hsn hst.hw (by omega) hA ((mf_outlo (by omega)).trans ho) ((mf_outlo (by omega)).trans ho2) hT hU hW hV hst.hms hst.hth ((mf_outw (by omega)).trans hw0) hst.hnc) (by decide) (by decide) (by omega) (by omega) (Nat.le_of_ble_eq_true rfl) (fun E h9 z9 hx _ => hx.elim) (fun v9 h9 z9 hx hz9 => ?_)
  obtain ⟨hz1, hx⟩ := hx
  obtain ⟨f1, rfl, rfl, hf⟩ := wr_uni (F := fun hh => (cw_ Γ sg hh c g g2 o o2 A K σ (s_Camp_until A K σ τ T F U G P (xs (i + 1))).2.2.1 T (s_Camp_until A K σ τ T F U G P (xs (i + 1))).2.2.2 U G P)) ((mf_outw (by omega)).trans hw0) hx
  refine Go.heq (h' := (cw_ Γ sg (mf_ Γ (hup h w (aJ Γ 1 f1)) m q r r2 M H Y Ah ow) c g g2 o o2 A K σ (s_Camp_until A K σ τ T F U G P (xs (i + 1))).2.2.1 T (s_Camp_until A K σ τ T F U G P (xs (i + 1))).2.2.2 U G P)) (congrArg (fun hh => (cw_ Γ sg hh c g g2 o o2 A K σ (s_Camp_until A K σ τ T F U G P (xs (i + 1))).2.2.1 T (s_Camp_until A K σ τ T F U G P (xs (i + 1))).2.2.2 U G P)) (mf_hup geo)) ?_
  have ho : (hup h w (aJ Γ 1 f1)) o = _ := (hup_ne (by omega)).trans ho
  have ho2 : (hup h w (aJ Γ 1 f1)) o2 = _ := (hup_ne (by omega)).trans ho2
  refine Go.istore_5 d_law_1221 rfl (by rfl) ?_
  refine Go.aload_2 d_law_1223 rfl ?_
  refine Go.aload_0 d_law_1224 rfl ?_
  refine Go.iload_4 d_law_1225 rfl ?_
  refine Go.iconst (v := 1) d_law_1227 rfl (by decide) ?_
  refine Go.iadd d_law_1228 rfl ?_
  rw [show nI i + 1 = nI (i + 1) from nI_add _ _]
  refine Go.sld d_law_1229 rfl hst.hsc (vp_in_nI (by omega) (by omega)) ?_
  rw [nI_clamp (show i + 1 < 2 ^ 31 by omega)]
  refine Go.heq (cw_mf geo) ?_
  refine Go.cv1r d_law_1230 rfl l_Law_146 k_Model_until_v (mf_at_m (by omega) hB hS hC hD hE) rfl (c_Model_until (by omega) hB hS hC hD hE hO hdy hr) (by rfl) rfl rfl ?_
  refine Go.heq (cw_mf geo).symm ?_
  refine Go.istore_6 d_law_1233 rfl (by rfl) ?_
  refine Go.aload_2 d_law_1235 rfl ?_
  refine Go.heq (lw_s geo) ?_
  refine Go.cv0r d_law_1236 rfl l_Law_87 k_Model_thrown_v (ms_at_m (by omega) hB hS hC hD hE) rfl (c_Model_thrown (by omega) hB hS hC hD hE) (by rfl) rfl rfl ?_
  refine Go.heq (lw_s geo).symm ?_
  refine Go.iload_5 d_law_1239 rfl ?_
  refine Go.icmp_eq (t := 1246) d_law_1241 (by decide) rfl (fun _ => ?_) (fun ne => absurd hth ne)
  refine Go.iload_5 d_law_1246 rfl ?_
  refine Go.if_ne (t := 1263) d_law_1248 (by decide) rfl (fun c5 => ?_) (fun c5 => ?_)
  · refine Go.goto (t := 1548) d_law_1263 (by decide) ?_
    refine Go.iinc_4 d_law_1548 rfl (by rfl) nI_inc6 ?_
    refine Go.goto (t := 23) d_law_1551 (by decide) ?_
    refine Go.fgt [some (.ref b), some (.ref c), some (.ref m), some (.ref w), some (.int (nI (i + 6))), none, none, none, none] (by repeat' (first | exact trivial | refine ⟨rfl, ?_⟩)) ?_
    exact Go.room (k _ _ _ _ _ _ _ _ _ _ _ _ _ _ _ _ _ _ _ _ _ _ ⟨geo, by omega, hup_at, ho, ho2, hrel, hV2, hU⟩) (Nat.le_refl _) (by omega) (by omega)
  · have ht : (s_Camp_until A K σ τ T F U G P (xs (i + 1))).1 = 0 := Classical.byContradiction fun w9 => by
      rw [if_neg w9] at c5
      exact absurd c5 (by decide)
    refine Go.aload_3 d_law_1251 rfl ?_
    refine Go.iconst (v := 0) d_law_1252 rfl (by decide) ?_
    refine Go.laload d_law_1253 rfl ((cw_outu (by omega)).trans ((mf_outw (by omega)).trans hup_at)) (show vp_in (nI 0) 1 from vp_in_nI (by decide) (by decide)) ?_
    rw [show (0 : Int32).toNatClampNeg = 0 from by decide, hf ht]
    refine Go.iload_6 d_law_1254 rfl ?_
    refine Go.i2l d_law_1256 rfl ?_
    refine Go.lcmp d_law_1257 rfl ?_
    rw [hv ht, lg_self]
    refine Go.if_eq (t := 1263) d_law_1258 (by decide) rfl (fun _ => ?_) (fun ne => absurd rfl ne)
    refine Go.goto (t := 1548) d_law_1263 (by decide) ?_
    refine Go.iinc_4 d_law_1548 rfl (by rfl) nI_inc6 ?_
    refine Go.goto (t := 23) d_law_1551 (by decide) ?_
    refine Go.fgt [some (.ref b), some (.ref c), some (.ref m), some (.ref w), some (.int (nI (i + 6))), none, none, none, none] (by repeat' (first | exact trivial | refine ⟨rfl, ?_⟩)) ?_
    exact Go.room (k _ _ _ _ _ _ _ _ _ _ _ _ _ _ _ _ _ _ _ _ _ _ ⟨geo, by omega, hup_at, ho, ho2, hrel, hV2, hU⟩) (Nat.le_refl _) (by omega) (by omega)
set_option maxRecDepth 100000 in
set_option maxHeartbeats 800000 in
theorem lc_foresee {R : RelT} {Γ : G9} {sg tx wd ms : Nat → Nat} {sw sa wa sn b L : Nat} {xs : Nat → Int32} {c m r r2 w n i z C S g g2 o o2 q : Nat} {h : AH} {f : Nat → Int64} {Q : QT} {A : TA} {K : TK} {σ τ : GL} {T : TM} {F : FM} {U : TM} {G : FM} {P : CP} {M : MO} {H : SH} {Y Ah : SX} {ow : Nat} (hst : ST Γ sg tx wd ms sw sa wa sn b L xs) (hp : PureOK R) (hi : i + 6 ≤ L) (hL : L ≤ 3072) (hn : n < 512) (k : LHead R Γ sg b c m r r2 w Q (n + 1) (i + 6) C S) (lf : LF R Γ c m r r2 w n z h f g g2 o o2 q A σ τ T F U P M H Y) : Go Γ M_law 200 (C + 40) (S + 2000) 1266 [some (.ref b), some (.ref c), some (.ref m), some (.ref w), some (.int (nI i)), none, none, none, none] [] (cw_ Γ sg (mf_ Γ h m q r r2 M H Y Ah ow) c g g2 o o2 A K σ τ T F U G P) z Q noX := by
  obtain ⟨geo, hz, hw0, ho, ho2, rel, hV, hU⟩ := lf
  obtain ⟨hA, hT, hW, hsz, hB, hS, hC, hD, hE, hO, hdy⟩ := hp.bnd rel
  have pf := hp.p_foresee (K := K) (τ := τ) (U := U) (G := G) (Ah := Ah) (ow := ow) (x1 := (xs (i + 1))) (x2 := (xs (i + 2))) hn rel hV hU
  obtain ⟨p, hr, hth, hv, hrel, hV2⟩ := pf
  refine Go.aload_1 d_law_1266 rfl ?_
  refine Go.aload_0 d_law_1267 rfl ?_
  refine Go.iload_4 d_law_1268 rfl ?_
  refine Go.iconst (v := 1) d_law_1270 rfl (by decide) ?_
  refine Go.iadd d_law_1271 rfl ?_
  rw [show nI i + 1 = nI (i + 1) from nI_add _ _]
  refine Go.sld d_law_1272 rfl hst.hsc (vp_in_nI (by omega) (by omega)) ?_
  rw [nI_clamp (show i + 1 < 2 ^ 31 by omega)]
  refine Go.aload_0 d_law_1273 rfl ?_
  refine Go.iload_4 d_law_1274 rfl ?_
  refine Go.iconst (v := 2) d_law_1276 rfl (by decide) ?_
  refine Go.iadd d_law_1277 rfl ?_
  rw [show nI i + 2 = nI (i + 2) from nI_add _ _]
  refine Go.sld d_law_1278 rfl hst.hsc (vp_in_nI (by omega) (by omega)) ?_
  rw [nI_clamp (show i + 2 < 2 ^ 31 by omega)]
  refine Go.aload_3 d_law_1279 rfl ?_
  refine Go.callSW (C1 := C + 36) (S1 := S + 1976) (as := [.ref c, .int (xs (i + 1)), .int (xs (i + 2)), .ref w]) d_law_1280 rfl l_Law_147 k_Law_foresee_s (List.cons_ne_nil _ _) rfl rfl (w_foresee hst.hs hst.hsn hst.hw (by omega) hA ((mf_outlo (by omega)).trans ho) ((mf_outlo (by omega)).trans ho2) hT hU hW hV hst.hms hst.hth ((mf_outw (by omega)).trans hw0) hst.hnc) (by decide) (by decide) (by omega) (by omega) (Nat.le_of_ble_eq_true rfl) (fun E h9 z9 hx _ => hx.elim) (fun v9 h9 z9 hx hz9 => ?_)
  obtain ⟨hz1, hx⟩ := hx
  obtain ⟨f1, rfl, rfl, hf⟩ := wr_uni (F := fun hh => (cw_ Γ sg hh c g g2 o o2 A K σ (s_Camp_foresee A K σ τ T F U G P (xs (i + 1)) (xs (i + 2))).2.2.1 T (s_Camp_foresee A K σ τ T F U G P (xs (i + 1)) (xs (i + 2))).2.2.2 U G P)) ((mf_outw (by omega)).trans hw0) hx
  refine Go.heq (h' := (cw_ Γ sg (mf_ Γ (hup h w (aJ Γ 1 f1)) m q r r2 M H Y Ah ow) c g g2 o o2 A K σ (s_Camp_foresee A K σ τ T F U G P (xs (i + 1)) (xs (i + 2))).2.2.1 T (s_Camp_foresee A K σ τ T F U G P (xs (i + 1)) (xs (i + 2))).2.2.2 U G P)) (congrArg (fun hh => (cw_ Γ sg hh c g g2 o o2 A K σ (s_Camp_foresee A K σ τ T F U G P (xs (i + 1)) (xs (i + 2))).2.2.1 T (s_Camp_foresee A K σ τ T F U G P (xs (i + 1)) (xs (i + 2))).2.2.2 U G P)) (mf_hup geo)) ?_
  have ho : (hup h w (aJ Γ 1 f1)) o = _ := (hup_ne (by omega)).trans ho
  have ho2 : (hup h w (aJ Γ 1 f1)) o2 = _ := (hup_ne (by omega)).trans ho2
  refine Go.istore_5 d_law_1283 rfl (by rfl) ?_
  refine Go.aload_2 d_law_1285 rfl ?_
  refine Go.aload_0 d_law_1286 rfl ?_
  refine Go.iload_4 d_law_1287 rfl ?_
  refine Go.iconst (v := 1) d_law_1289 rfl (by decide) ?_
  refine Go.iadd d_law_1290 rfl ?_
  rw [show nI i + 1 = nI (i + 1) from nI_add _ _]
  refine Go.sld d_law_1291 rfl hst.hsc (vp_in_nI (by omega) (by omega)) ?_
  rw [nI_clamp (show i + 1 < 2 ^ 31 by omega)]
  refine Go.aload_0 d_law_1292 rfl ?_
  refine Go.iload_4 d_law_1293 rfl ?_
  refine Go.iconst (v := 2) d_law_1295 rfl (by decide) ?_
  refine Go.iadd d_law_1296 rfl ?_
  rw [show nI i + 2 = nI (i + 2) from nI_add _ _]
  refine Go.sld d_law_1297 rfl hst.hsc (vp_in_nI (by omega) (by omega)) ?_
  rw [nI_clamp (show i + 2 < 2 ^ 31 by omega)]
  refine Go.heq (cw_mf geo) ?_
  refine Go.cv2r d_law_1298 rfl l_Law_149 k_Model_foresee_v (mf_at_m (by omega) hB hS hC hD hE) rfl (c_Model_foresee (by omega) hB hS hC hD hE hO hdy hr) (by rfl) rfl rfl ?_
  refine Go.heq (cw_mf geo).symm ?_
  refine Go.istore_6 d_law_1301 rfl (by rfl) ?_
  refine Go.aload_2 d_law_1303 rfl ?_
  refine Go.heq (lw_s geo) ?_
  refine Go.cv0r d_law_1304 rfl l_Law_87 k_Model_thrown_v (ms_at_m (by omega) hB hS hC hD hE) rfl (c_Model_thrown (by omega) hB hS hC hD hE) (by rfl) rfl rfl ?_
  refine Go.heq (lw_s geo).symm ?_
  refine Go.iload_5 d_law_1307 rfl ?_
  refine Go.icmp_eq (t := 1314) d_law_1309 (by decide) rfl (fun _ => ?_) (fun ne => absurd hth ne)
  refine Go.iload_5 d_law_1314 rfl ?_
  refine Go.if_ne (t := 1331) d_law_1316 (by decide) rfl (fun c5 => ?_) (fun c5 => ?_)
  · refine Go.goto (t := 1548) d_law_1331 (by decide) ?_
    refine Go.iinc_4 d_law_1548 rfl (by rfl) nI_inc6 ?_
    refine Go.goto (t := 23) d_law_1551 (by decide) ?_
    refine Go.fgt [some (.ref b), some (.ref c), some (.ref m), some (.ref w), some (.int (nI (i + 6))), none, none, none, none] (by repeat' (first | exact trivial | refine ⟨rfl, ?_⟩)) ?_
    exact Go.room (k _ _ _ _ _ _ _ _ _ _ _ _ _ _ _ _ _ _ _ _ _ _ ⟨geo, by omega, hup_at, ho, ho2, hrel, hV2, hU⟩) (Nat.le_refl _) (by omega) (by omega)
  · have ht : (s_Camp_foresee A K σ τ T F U G P (xs (i + 1)) (xs (i + 2))).1 = 0 := Classical.byContradiction fun w9 => by
      rw [if_neg w9] at c5
      (repeat' split at c5) <;> exact absurd c5 (by decide)
    refine Go.aload_3 d_law_1319 rfl ?_
    refine Go.iconst (v := 0) d_law_1320 rfl (by decide) ?_
    refine Go.laload d_law_1321 rfl ((cw_outu (by omega)).trans ((mf_outw (by omega)).trans hup_at)) (show vp_in (nI 0) 1 from vp_in_nI (by decide) (by decide)) ?_
    rw [show (0 : Int32).toNatClampNeg = 0 from by decide, hf ht]
    refine Go.iload_6 d_law_1322 rfl ?_
    refine Go.i2l d_law_1324 rfl ?_
    refine Go.lcmp d_law_1325 rfl ?_
    rw [hv ht, lg_self]
    refine Go.if_eq (t := 1331) d_law_1326 (by decide) rfl (fun _ => ?_) (fun ne => absurd rfl ne)
    refine Go.goto (t := 1548) d_law_1331 (by decide) ?_
    refine Go.iinc_4 d_law_1548 rfl (by rfl) nI_inc6 ?_
    refine Go.goto (t := 23) d_law_1551 (by decide) ?_
    refine Go.fgt [some (.ref b), some (.ref c), some (.ref m), some (.ref w), some (.int (nI (i + 6))), none, none, none, none] (by repeat' (first | exact trivial | refine ⟨rfl, ?_⟩)) ?_
    exact Go.room (k _ _ _ _ _ _ _ _ _ _ _ _ _ _ _ _ _ _ _ _ _ _ ⟨geo, by omega, hup_at, ho, ho2, hrel, hV2, hU⟩) (Nat.le_refl _) (by omega) (by omega)
set_option maxRecDepth 100000 in
set_option maxHeartbeats 800000 in
theorem lc_safe0 {R : RelT} {Γ : G9} {sg tx wd ms : Nat → Nat} {sw sa wa sn b L : Nat} {xs : Nat → Int32} {c m r r2 w n i z C S g g2 o o2 q : Nat} {h : AH} {f : Nat → Int64} {Q : QT} {A : TA} {K : TK} {σ τ : GL} {T : TM} {F : FM} {U : TM} {G : FM} {P : CP} {M : MO} {H : SH} {Y Ah : SX} {ow : Nat} (hst : ST Γ sg tx wd ms sw sa wa sn b L xs) (hp : PureOK R) (hi : i + 6 ≤ L) (hL : L ≤ 3072) (hn : n < 512) (k : LHead R Γ sg b c m r r2 w Q (n + 1) (i + 6) C S) (lf : LF R Γ c m r r2 w n z h f g g2 o o2 q A σ τ T F U P M H Y) (hbv : xs (i + 2) = 0) : Go Γ M_law 200 (C + 40) (S + 2000) 1334 [some (.ref b), some (.ref c), some (.ref m), some (.ref w), some (.int (nI i)), none, none, none, none] [] (cw_ Γ sg (mf_ Γ h m q r r2 M H Y Ah ow) c g g2 o o2 A K σ τ T F U G P) z Q noX := by
  obtain ⟨geo, hz, hw0, ho, ho2, rel, hV, hU⟩ := lf
  obtain ⟨hA, hT, hW, hsz, hB, hS, hC, hD, hE, hO, hdy⟩ := hp.bnd rel
  have pf := hp.p_safe (K := K) (τ := τ) (U := U) (G := G) (x1 := (xs (i + 1))) (x2 := (0 : Int32)) hn rel hV hU
  obtain ⟨hth, hv, hrel⟩ := pf
  refine Go.aload_1 d_law_1334 rfl ?_
  refine Go.aload_0 d_law_1335 rfl ?_
  refine Go.iload_4 d_law_1336 rfl ?_
  refine Go.iconst (v := 1) d_law_1338 rfl (by decide) ?_
  refine Go.iadd d_law_1339 rfl ?_
  rw [show nI i + 1 = nI (i + 1) from nI_add _ _]
  refine Go.sld d_law_1340 rfl hst.hsc (vp_in_nI (by omega) (by omega)) ?_
  rw [nI_clamp (show i + 1 < 2 ^ 31 by omega)]
  refine Go.aload_0 d_law_1341 rfl ?_
  refine Go.iload_4 d_law_1342 rfl ?_
  refine Go.iconst (v := 2) d_law_1344 rfl (by decide) ?_
  refine Go.iadd d_law_1345 rfl ?_
  rw [show nI i + 2 = nI (i + 2) from nI_add _ _]
  refine Go.sld d_law_1346 rfl hst.hsc (vp_in_nI (by omega) (by omega)) ?_
  rw [nI_clamp (show i + 2 < 2 ^ 31 by omega)]
  refine Go.if_eq (t := 1354) d_law_1347 (by decide) rfl (fun _ => ?_) (fun ne => absurd hbv ne)
  refine Go.iconst (v := 0) d_law_1354 rfl (by decide) ?_
  refine Go.aload_3 d_law_1355 rfl ?_
  refine Go.callSW (C1 := C + 36) (S1 := S + 1976) (as := [.ref c, .int (xs (i + 1)), .int (0 : Int32), .ref w]) d_law_1356 rfl l_Law_150 k_Law_safe_s (List.cons_ne_nil _ _) rfl rfl (w_safe hst.hs hst.hsn hst.hw (by omega) hA ((mf_outlo (by omega)).trans ho) ((mf_outlo (by omega)).trans ho2) hT hU hW hV hst.hms hst.hth ((mf_outw (by omega)).trans hw0) hst.hnc) (by decide) (by decide) (by omega) (by omega) (Nat.le_of_ble_eq_true rfl) (fun E h9 z9 hx _ => hx.elim) (fun v9 h9 z9 hx hz9 => ?_)
  obtain ⟨hz1, hx⟩ := hx
  obtain ⟨f1, rfl, rfl, hf⟩ := wr_uni (F := fun hh => (cw_ Γ sg hh c g g2 o o2 A K σ τ T F U G P)) ((mf_outw (by omega)).trans hw0) hx
  refine Go.heq (h' := (cw_ Γ sg (mf_ Γ (hup h w (aJ Γ 1 f1)) m q r r2 M H Y Ah ow) c g g2 o o2 A K σ τ T F U G P)) (congrArg (fun hh => (cw_ Γ sg hh c g g2 o o2 A K σ τ T F U G P)) (mf_hup geo)) ?_
  have ho : (hup h w (aJ Γ 1 f1)) o = _ := (hup_ne (by omega)).trans ho
  have ho2 : (hup h w (aJ Γ 1 f1)) o2 = _ := (hup_ne (by omega)).trans ho2
  refine Go.istore_5 d_law_1359 rfl (by rfl) ?_
  refine Go.aload_2 d_law_1361 rfl ?_
  refine Go.aload_0 d_law_1362 rfl ?_
  refine Go.iload_4 d_law_1363 rfl ?_
  refine Go.iconst (v := 1) d_law_1365 rfl (by decide) ?_
  refine Go.iadd d_law_1366 rfl ?_
  rw [show nI i + 1 = nI (i + 1) from nI_add _ _]
  refine Go.sld d_law_1367 rfl hst.hsc (vp_in_nI (by omega) (by omega)) ?_
  rw [nI_clamp (show i + 1 < 2 ^ 31 by omega)]
  refine Go.aload_0 d_law_1368 rfl ?_
  refine Go.iload_4 d_law_1369 rfl ?_
  refine Go.iconst (v := 2) d_law_1371 rfl (by decide) ?_
  refine Go.iadd d_law_1372 rfl ?_
  rw [show nI i + 2 = nI (i + 2) from nI_add _ _]
  refine Go.sld d_law_1373 rfl hst.hsc (vp_in_nI (by omega) (by omega)) ?_
  rw [nI_clamp (show i + 2 < 2 ^ 31 by omega)]
  refine Go.if_eq (t := 1381) d_law_1374 (by decide) rfl (fun _ => ?_) (fun ne => absurd hbv ne)
  refine Go.iconst (v := 0) d_law_1381 rfl (by decide) ?_
  refine Go.heq (lw_s geo) ?_
  refine Go.cv2r d_law_1382 rfl l_Law_152 k_Model_safe_v (ms_at_m (by omega) hB hS hC hD hE) rfl (c_Model_safe (by omega) hB hS hC hD hE) (by rfl) rfl rfl ?_
  refine Go.heq (lw_s geo).symm ?_
  refine Go.istore_6 d_law_1385 rfl (by rfl) ?_
  refine Go.aload_2 d_law_1387 rfl ?_
  refine Go.heq (lw_s geo) ?_
  refine Go.cv0r d_law_1388 rfl l_Law_87 k_Model_thrown_v (ms_at_m (by omega) hB hS hC hD hE) rfl (c_Model_thrown (by omega) hB hS hC hD hE) (by rfl) rfl rfl ?_
  refine Go.heq (lw_s geo).symm ?_
  refine Go.iload_5 d_law_1391 rfl ?_
  refine Go.icmp_eq (t := 1398) d_law_1393 (by decide) rfl (fun _ => ?_) (fun ne => absurd hth ne)
  refine Go.iload_5 d_law_1398 rfl ?_
  refine Go.if_ne (t := 1422) d_law_1400 (by decide) rfl (fun c5 => ?_) (fun c5 => ?_)
  · refine Go.goto (t := 1548) d_law_1422 (by decide) ?_
    refine Go.iinc_4 d_law_1548 rfl (by rfl) nI_inc6 ?_
    refine Go.goto (t := 23) d_law_1551 (by decide) ?_
    refine Go.fgt [some (.ref b), some (.ref c), some (.ref m), some (.ref w), some (.int (nI (i + 6))), none, none, none, none] (by repeat' (first | exact trivial | refine ⟨rfl, ?_⟩)) ?_
    exact Go.room (k _ _ _ _ _ _ _ _ _ _ _ _ _ _ _ _ _ _ _ _ _ _ ⟨geo, by omega, hup_at, ho, ho2, hrel, hV, hU⟩) (Nat.le_refl _) (by omega) (by omega)
  · have ht : (s_Camp_safe A K σ τ T F U G P (xs (i + 1)) (0 : Int32)).1 = 0 := Classical.byContradiction fun w9 => by
      rw [if_neg w9] at c5
      exact absurd c5 (by decide)
    refine Go.aload_3 d_law_1403 rfl ?_
    refine Go.iconst (v := 0) d_law_1404 rfl (by decide) ?_
    refine Go.laload d_law_1405 rfl ((cw_outu (by omega)).trans ((mf_outw (by omega)).trans hup_at)) (show vp_in (nI 0) 1 from vp_in_nI (by decide) (by decide)) ?_
    rw [show (0 : Int32).toNatClampNeg = 0 from by decide, hf ht]
    refine Go.iload_6 d_law_1406 rfl ?_
    rw [hv ht]
    refine Go.if_eq (t := 1415) d_law_1408 (by decide) rfl (fun c8 => ?_) (fun c8 => ?_)
    · refine Go.lconst (v := 0) d_law_1415 rfl (by decide) ?_
      refine Go.lcmp d_law_1416 rfl ?_
      rw [if_pos c8, lg_self]
      refine Go.if_eq (t := 1422) d_law_1417 (by decide) rfl (fun _ => ?_) (fun ne => absurd rfl ne)
      refine Go.goto (t := 1548) d_law_1422 (by decide) ?_
      refine Go.iinc_4 d_law_1548 rfl (by rfl) nI_inc6 ?_
      refine Go.goto (t := 23) d_law_1551 (by decide) ?_
      refine Go.fgt [some (.ref b), some (.ref c), some (.ref m), some (.ref w), some (.int (nI (i + 6))), none, none, none, none] (by repeat' (first | exact trivial | refine ⟨rfl, ?_⟩)) ?_
      exact Go.room (k _ _ _ _ _ _ _ _ _ _ _ _ _ _ _ _ _ _ _ _ _ _ ⟨geo, by omega, hup_at, ho, ho2, hrel, hV, hU⟩) (Nat.le_refl _) (by omega) (by omega)
    · refine Go.lconst (v := 1) d_law_1411 rfl (by decide) ?_
      refine Go.goto (t := 1416) d_law_1412 (by decide) ?_
      refine Go.lcmp d_law_1416 rfl ?_
      rw [if_neg c8, lg_self]
      refine Go.if_eq (t := 1422) d_law_1417 (by decide) rfl (fun _ => ?_) (fun ne => absurd rfl ne)
      refine Go.goto (t := 1548) d_law_1422 (by decide) ?_
      refine Go.iinc_4 d_law_1548 rfl (by rfl) nI_inc6 ?_
      refine Go.goto (t := 23) d_law_1551 (by decide) ?_
      refine Go.fgt [some (.ref b), some (.ref c), some (.ref m), some (.ref w), some (.int (nI (i + 6))), none, none, none, none] (by repeat' (first | exact trivial | refine ⟨rfl, ?_⟩)) ?_
      exact Go.room (k _ _ _ _ _ _ _ _ _ _ _ _ _ _ _ _ _ _ _ _ _ _ ⟨geo, by omega, hup_at, ho, ho2, hrel, hV, hU⟩) (Nat.le_refl _) (by omega) (by omega)
set_option maxRecDepth 100000 in
set_option maxHeartbeats 800000 in
theorem lc_safe1 {R : RelT} {Γ : G9} {sg tx wd ms : Nat → Nat} {sw sa wa sn b L : Nat} {xs : Nat → Int32} {c m r r2 w n i z C S g g2 o o2 q : Nat} {h : AH} {f : Nat → Int64} {Q : QT} {A : TA} {K : TK} {σ τ : GL} {T : TM} {F : FM} {U : TM} {G : FM} {P : CP} {M : MO} {H : SH} {Y Ah : SX} {ow : Nat} (hst : ST Γ sg tx wd ms sw sa wa sn b L xs) (hp : PureOK R) (hi : i + 6 ≤ L) (hL : L ≤ 3072) (hn : n < 512) (k : LHead R Γ sg b c m r r2 w Q (n + 1) (i + 6) C S) (lf : LF R Γ c m r r2 w n z h f g g2 o o2 q A σ τ T F U P M H Y) (hbv : ¬ xs (i + 2) = 0) : Go Γ M_law 200 (C + 40) (S + 2000) 1334 [some (.ref b), some (.ref c), some (.ref m), some (.ref w), some (.int (nI i)), none, none, none, none] [] (cw_ Γ sg (mf_ Γ h m q r r2 M H Y Ah ow) c g g2 o o2 A K σ τ T F U G P) z Q noX := by
  obtain ⟨geo, hz, hw0, ho, ho2, rel, hV, hU⟩ := lf
  obtain ⟨hA, hT, hW, hsz, hB, hS, hC, hD, hE, hO, hdy⟩ := hp.bnd rel
  have pf := hp.p_safe (K := K) (τ := τ) (U := U) (G := G) (x1 := (xs (i + 1))) (x2 := (1 : Int32)) hn rel hV hU
  obtain ⟨hth, hv, hrel⟩ := pf
  refine Go.aload_1 d_law_1334 rfl ?_
  refine Go.aload_0 d_law_1335 rfl ?_
  refine Go.iload_4 d_law_1336 rfl ?_
  refine Go.iconst (v := 1) d_law_1338 rfl (by decide) ?_
  refine Go.iadd d_law_1339 rfl ?_
  rw [show nI i + 1 = nI (i + 1) from nI_add _ _]
  refine Go.sld d_law_1340 rfl hst.hsc (vp_in_nI (by omega) (by omega)) ?_
  rw [nI_clamp (show i + 1 < 2 ^ 31 by omega)]
  refine Go.aload_0 d_law_1341 rfl ?_
  refine Go.iload_4 d_law_1342 rfl ?_
  refine Go.iconst (v := 2) d_law_1344 rfl (by decide) ?_
  refine Go.iadd d_law_1345 rfl ?_
  rw [show nI i + 2 = nI (i + 2) from nI_add _ _]
  refine Go.sld d_law_1346 rfl hst.hsc (vp_in_nI (by omega) (by omega)) ?_
  rw [nI_clamp (show i + 2 < 2 ^ 31 by omega)]
  refine Go.if_eq (t := 1354) d_law_1347 (by decide) rfl (fun e => absurd e hbv) (fun _ => ?_)
  refine Go.iconst (v := 1) d_law_1350 rfl (by decide) ?_
  refine Go.goto (t := 1355) d_law_1351 (by decide) ?_
  refine Go.aload_3 d_law_1355 rfl ?_
  refine Go.callSW (C1 := C + 36) (S1 := S + 1976) (as := [.ref c, .int (xs (i + 1)), .int (1 : Int32), .ref w]) d_law_1356 rfl l_Law_150 k_Law_safe_s (List.cons_ne_nil _ _) rfl rfl (w_safe hst.hs hst.hsn hst.hw (by omega) hA ((mf_outlo (by omega)).trans ho) ((mf_outlo (by omega)).trans ho2) hT hU hW hV hst.hms hst.hth ((mf_outw (by omega)).trans hw0) hst.hnc) (by decide) (by decide) (by omega) (by omega) (Nat.le_of_ble_eq_true rfl) (fun E h9 z9 hx _ => hx.elim) (fun v9 h9 z9 hx hz9 => ?_)
  obtain ⟨hz1, hx⟩ := hx
  obtain ⟨f1, rfl, rfl, hf⟩ := wr_uni (F := fun hh => (cw_ Γ sg hh c g g2 o o2 A K σ τ T F U G P)) ((mf_outw (by omega)).trans hw0) hx
  refine Go.heq (h' := (cw_ Γ sg (mf_ Γ (hup h w (aJ Γ 1 f1)) m q r r2 M H Y Ah ow) c g g2 o o2 A K σ τ T F U G P)) (congrArg (fun hh => (cw_ Γ sg hh c g g2 o o2 A K σ τ T F U G P)) (mf_hup geo)) ?_
  have ho : (hup h w (aJ Γ 1 f1)) o = _ := (hup_ne (by omega)).trans ho
  have ho2 : (hup h w (aJ Γ 1 f1)) o2 = _ := (hup_ne (by omega)).trans ho2
  refine Go.istore_5 d_law_1359 rfl (by rfl) ?_
  refine Go.aload_2 d_law_1361 rfl ?_
  refine Go.aload_0 d_law_1362 rfl ?_
  refine Go.iload_4 d_law_1363 rfl ?_
  refine Go.iconst (v := 1) d_law_1365 rfl (by decide) ?_
  refine Go.iadd d_law_1366 rfl ?_
  rw [show nI i + 1 = nI (i + 1) from nI_add _ _]
  refine Go.sld d_law_1367 rfl hst.hsc (vp_in_nI (by omega) (by omega)) ?_
  rw [nI_clamp (show i + 1 < 2 ^ 31 by omega)]
  refine Go.aload_0 d_law_1368 rfl ?_
  refine Go.iload_4 d_law_1369 rfl ?_
  refine Go.iconst (v := 2) d_law_1371 rfl (by decide) ?_
  refine Go.iadd d_law_1372 rfl ?_
  rw [show nI i + 2 = nI (i + 2) from nI_add _ _]
  refine Go.sld d_law_1373 rfl hst.hsc (vp_in_nI (by omega) (by omega)) ?_
  rw [nI_clamp (show i + 2 < 2 ^ 31 by omega)]
  refine Go.if_eq (t := 1381) d_law_1374 (by decide) rfl (fun e => absurd e hbv) (fun _ => ?_)
  refine Go.iconst (v := 1) d_law_1377 rfl (by decide) ?_
  refine Go.goto (t := 1382) d_law_1378 (by decide) ?_
  refine Go.heq (lw_s geo) ?_
  refine Go.cv2r d_law_1382 rfl l_Law_152 k_Model_safe_v (ms_at_m (by omega) hB hS hC hD hE) rfl (c_Model_safe (by omega) hB hS hC hD hE) (by rfl) rfl rfl ?_
  refine Go.heq (lw_s geo).symm ?_
  refine Go.istore_6 d_law_1385 rfl (by rfl) ?_
  refine Go.aload_2 d_law_1387 rfl ?_
  refine Go.heq (lw_s geo) ?_
  refine Go.cv0r d_law_1388 rfl l_Law_87 k_Model_thrown_v (ms_at_m (by omega) hB hS hC hD hE) rfl (c_Model_thrown (by omega) hB hS hC hD hE) (by rfl) rfl rfl ?_
  refine Go.heq (lw_s geo).symm ?_
  refine Go.iload_5 d_law_1391 rfl ?_
  refine Go.icmp_eq (t := 1398) d_law_1393 (by decide) rfl (fun _ => ?_) (fun ne => absurd hth ne)
  refine Go.iload_5 d_law_1398 rfl ?_
  refine Go.if_ne (t := 1422) d_law_1400 (by decide) rfl (fun c5 => ?_) (fun c5 => ?_)
  · refine Go.goto (t := 1548) d_law_1422 (by decide) ?_
    refine Go.iinc_4 d_law_1548 rfl (by rfl) nI_inc6 ?_
    refine Go.goto (t := 23) d_law_1551 (by decide) ?_
    refine Go.fgt [some (.ref b), some (.ref c), some (.ref m), some (.ref w), some (.int (nI (i + 6))), none, none, none, none] (by repeat' (first | exact trivial | refine ⟨rfl, ?_⟩)) ?_
    exact Go.room (k _ _ _ _ _ _ _ _ _ _ _ _ _ _ _ _ _ _ _ _ _ _ ⟨geo, by omega, hup_at, ho, ho2, hrel, hV, hU⟩) (Nat.le_refl _) (by omega) (by omega)
  · have ht : (s_Camp_safe A K σ τ T F U G P (xs (i + 1)) (1 : Int32)).1 = 0 := Classical.byContradiction fun w9 => by
      rw [if_neg w9] at c5
      exact absurd c5 (by decide)
    refine Go.aload_3 d_law_1403 rfl ?_
    refine Go.iconst (v := 0) d_law_1404 rfl (by decide) ?_
    refine Go.laload d_law_1405 rfl ((cw_outu (by omega)).trans ((mf_outw (by omega)).trans hup_at)) (show vp_in (nI 0) 1 from vp_in_nI (by decide) (by decide)) ?_
    rw [show (0 : Int32).toNatClampNeg = 0 from by decide, hf ht]
    refine Go.iload_6 d_law_1406 rfl ?_
    rw [hv ht]
    refine Go.if_eq (t := 1415) d_law_1408 (by decide) rfl (fun c8 => ?_) (fun c8 => ?_)
    · refine Go.lconst (v := 0) d_law_1415 rfl (by decide) ?_
      refine Go.lcmp d_law_1416 rfl ?_
      rw [if_pos c8, lg_self]
      refine Go.if_eq (t := 1422) d_law_1417 (by decide) rfl (fun _ => ?_) (fun ne => absurd rfl ne)
      refine Go.goto (t := 1548) d_law_1422 (by decide) ?_
      refine Go.iinc_4 d_law_1548 rfl (by rfl) nI_inc6 ?_
      refine Go.goto (t := 23) d_law_1551 (by decide) ?_
      refine Go.fgt [some (.ref b), some (.ref c), some (.ref m), some (.ref w), some (.int (nI (i + 6))), none, none, none, none] (by repeat' (first | exact trivial | refine ⟨rfl, ?_⟩)) ?_
      exact Go.room (k _ _ _ _ _ _ _ _ _ _ _ _ _ _ _ _ _ _ _ _ _ _ ⟨geo, by omega, hup_at, ho, ho2, hrel, hV, hU⟩) (Nat.le_refl _) (by omega) (by omega)
    · refine Go.lconst (v := 1) d_law_1411 rfl (by decide) ?_
      refine Go.goto (t := 1416) d_law_1412 (by decide) ?_
      refine Go.lcmp d_law_1416 rfl ?_
      rw [if_neg c8, lg_self]
      refine Go.if_eq (t := 1422) d_law_1417 (by decide) rfl (fun _ => ?_) (fun ne => absurd rfl ne)
      refine Go.goto (t := 1548) d_law_1422 (by decide) ?_
      refine Go.iinc_4 d_law_1548 rfl (by rfl) nI_inc6 ?_
      refine Go.goto (t := 23) d_law_1551 (by decide) ?_
      refine Go.fgt [some (.ref b), some (.ref c), some (.ref m), some (.ref w), some (.int (nI (i + 6))), none, none, none, none] (by repeat' (first | exact trivial | refine ⟨rfl, ?_⟩)) ?_
      exact Go.room (k _ _ _ _ _ _ _ _ _ _ _ _ _ _ _ _ _ _ _ _ _ _ ⟨geo, by omega, hup_at, ho, ho2, hrel, hV, hU⟩) (Nat.le_refl _) (by omega) (by omega)
set_option maxRecDepth 100000 in
set_option maxHeartbeats 800000 in
theorem lc_advise {R : RelT} {Γ : G9} {sg tx wd ms : Nat → Nat} {sw sa wa sn b L : Nat} {xs : Nat → Int32} {c m r r2 w n i z C S g g2 o o2 q : Nat} {h : AH} {f : Nat → Int64} {Q : QT} {A : TA} {K : TK} {σ τ : GL} {T : TM} {F : FM} {U : TM} {G : FM} {P : CP} {M : MO} {H : SH} {Y Ah : SX} {ow : Nat} (hst : ST Γ sg tx wd ms sw sa wa sn b L xs) (hp : PureOK R) (hi : i + 6 ≤ L) (hL : L ≤ 3072) (hn : n < 512) (k : LHead R Γ sg b c m r r2 w Q (n + 1) (i + 6) C S) (lf : LF R Γ c m r r2 w n z h f g g2 o o2 q A σ τ T F U P M H Y) : Go Γ M_law 200 (C + 40) (S + 2000) 1425 [some (.ref b), some (.ref c), some (.ref m), some (.ref w), some (.int (nI i)), none, none, none, none] [] (cw_ Γ sg (mf_ Γ h m q r r2 M H Y Ah ow) c g g2 o o2 A K σ τ T F U G P) z Q noX := by
  obtain ⟨geo, hz, hw0, ho, ho2, rel, hV, hU⟩ := lf
  obtain ⟨hA, hT, hW, hsz, hB, hS, hC, hD, hE, hO, hdy⟩ := hp.bnd rel
  have pf := hp.p_advise (K := K) (τ := τ) (U := U) (G := G) (Ah := Ah) (ow := ow) (x1 := (xs (i + 1))) (x2 := (xs (i + 2))) hn rel hV hU
  obtain ⟨p, hr, hth, hv, hrel, hV2⟩ := pf
  refine Go.aload_1 d_law_1425 rfl ?_
  refine Go.aload_0 d_law_1426 rfl ?_
  refine Go.iload_4 d_law_1427 rfl ?_
  refine Go.iconst (v := 1) d_law_1429 rfl (by decide) ?_
  refine Go.iadd d_law_1430 rfl ?_
  rw [show nI i + 1 = nI (i + 1) from nI_add _ _]
  refine Go.sld d_law_1431 rfl hst.hsc (vp_in_nI (by omega) (by omega)) ?_
  rw [nI_clamp (show i + 1 < 2 ^ 31 by omega)]
  refine Go.aload_0 d_law_1432 rfl ?_
  refine Go.iload_4 d_law_1433 rfl ?_
  refine Go.iconst (v := 2) d_law_1435 rfl (by decide) ?_
  refine Go.iadd d_law_1436 rfl ?_
  rw [show nI i + 2 = nI (i + 2) from nI_add _ _]
  refine Go.sld d_law_1437 rfl hst.hsc (vp_in_nI (by omega) (by omega)) ?_
  rw [nI_clamp (show i + 2 < 2 ^ 31 by omega)]
  refine Go.aload_3 d_law_1438 rfl ?_
  refine Go.callSW (C1 := C + 36) (S1 := S + 1976) (as := [.ref c, .int (xs (i + 1)), .int (xs (i + 2)), .ref w]) d_law_1439 rfl l_Law_153 k_Law_advise_s (List.cons_ne_nil _ _) rfl rfl (w_advise hst.hs hst.hsn hst.hw (by omega) hA ((mf_outlo (by omega)).trans ho) ((mf_outlo (by omega)).trans ho2) hT hU hW hV hst.hms hst.hth ((mf_outw (by omega)).trans hw0) hst.hnc) (by decide) (by decide) (by omega) (by omega) (Nat.le_of_ble_eq_true rfl) (fun E h9 z9 hx _ => hx.elim) (fun v9 h9 z9 hx hz9 => ?_)
  obtain ⟨hz1, hx⟩ := hx
  obtain ⟨f1, rfl, rfl, hf⟩ := wr_uni (F := fun hh => (cw_ Γ sg hh c g g2 o o2 A K σ (s_Camp_advise A K σ τ T F U G P (xs (i + 1)) (xs (i + 2))).2.2.1 T (s_Camp_advise A K σ τ T F U G P (xs (i + 1)) (xs (i + 2))).2.2.2 U G P)) ((mf_outw (by omega)).trans hw0) hx
  refine Go.heq (h' := (cw_ Γ sg (mf_ Γ (hup h w (aJ Γ 1 f1)) m q r r2 M H Y Ah ow) c g g2 o o2 A K σ (s_Camp_advise A K σ τ T F U G P (xs (i + 1)) (xs (i + 2))).2.2.1 T (s_Camp_advise A K σ τ T F U G P (xs (i + 1)) (xs (i + 2))).2.2.2 U G P)) (congrArg (fun hh => (cw_ Γ sg hh c g g2 o o2 A K σ (s_Camp_advise A K σ τ T F U G P (xs (i + 1)) (xs (i + 2))).2.2.1 T (s_Camp_advise A K σ τ T F U G P (xs (i + 1)) (xs (i + 2))).2.2.2 U G P)) (mf_hup geo)) ?_
  have ho : (hup h w (aJ Γ 1 f1)) o = _ := (hup_ne (by omega)).trans ho
  have ho2 : (hup h w (aJ Γ 1 f1)) o2 = _ := (hup_ne (by omega)).trans ho2
  refine Go.istore_5 d_law_1442 rfl (by rfl) ?_
  refine Go.aload_2 d_law_1444 rfl ?_
  refine Go.aload_0 d_law_1445 rfl ?_
  refine Go.iload_4 d_law_1446 rfl ?_
  refine Go.iconst (v := 1) d_law_1448 rfl (by decide) ?_
  refine Go.iadd d_law_1449 rfl ?_
  rw [show nI i + 1 = nI (i + 1) from nI_add _ _]
  refine Go.sld d_law_1450 rfl hst.hsc (vp_in_nI (by omega) (by omega)) ?_
  rw [nI_clamp (show i + 1 < 2 ^ 31 by omega)]
  refine Go.aload_0 d_law_1451 rfl ?_
  refine Go.iload_4 d_law_1452 rfl ?_
  refine Go.iconst (v := 2) d_law_1454 rfl (by decide) ?_
  refine Go.iadd d_law_1455 rfl ?_
  rw [show nI i + 2 = nI (i + 2) from nI_add _ _]
  refine Go.sld d_law_1456 rfl hst.hsc (vp_in_nI (by omega) (by omega)) ?_
  rw [nI_clamp (show i + 2 < 2 ^ 31 by omega)]
  refine Go.heq (cw_mf geo) ?_
  refine Go.cv2r d_law_1457 rfl l_Law_155 k_Model_advise_v (mf_at_m (by omega) hB hS hC hD hE) rfl (c_Model_advise (by omega) hB hS hC hD hE hO hdy hr) (by rfl) rfl rfl ?_
  refine Go.heq (cw_mf geo).symm ?_
  refine Go.istore_6 d_law_1460 rfl (by rfl) ?_
  refine Go.aload_2 d_law_1462 rfl ?_
  refine Go.heq (lw_s geo) ?_
  refine Go.cv0r d_law_1463 rfl l_Law_87 k_Model_thrown_v (ms_at_m (by omega) hB hS hC hD hE) rfl (c_Model_thrown (by omega) hB hS hC hD hE) (by rfl) rfl rfl ?_
  refine Go.heq (lw_s geo).symm ?_
  refine Go.iload_5 d_law_1466 rfl ?_
  refine Go.icmp_eq (t := 1473) d_law_1468 (by decide) rfl (fun _ => ?_) (fun ne => absurd hth ne)
  refine Go.iload_5 d_law_1473 rfl ?_
  refine Go.if_ne (t := 1490) d_law_1475 (by decide) rfl (fun c5 => ?_) (fun c5 => ?_)
  · refine Go.goto (t := 1548) d_law_1490 (by decide) ?_
    refine Go.iinc_4 d_law_1548 rfl (by rfl) nI_inc6 ?_
    refine Go.goto (t := 23) d_law_1551 (by decide) ?_
    refine Go.fgt [some (.ref b), some (.ref c), some (.ref m), some (.ref w), some (.int (nI (i + 6))), none, none, none, none] (by repeat' (first | exact trivial | refine ⟨rfl, ?_⟩)) ?_
    exact Go.room (k _ _ _ _ _ _ _ _ _ _ _ _ _ _ _ _ _ _ _ _ _ _ ⟨geo, by omega, hup_at, ho, ho2, hrel, hV2, hU⟩) (Nat.le_refl _) (by omega) (by omega)
  · have ht : (s_Camp_advise A K σ τ T F U G P (xs (i + 1)) (xs (i + 2))).1 = 0 := Classical.byContradiction fun w9 => by
      rw [if_neg w9] at c5
      (repeat' split at c5) <;> exact absurd c5 (by decide)
    refine Go.aload_3 d_law_1478 rfl ?_
    refine Go.iconst (v := 0) d_law_1479 rfl (by decide) ?_
    refine Go.laload d_law_1480 rfl ((cw_outu (by omega)).trans ((mf_outw (by omega)).trans hup_at)) (show vp_in (nI 0) 1 from vp_in_nI (by decide) (by decide)) ?_
    rw [show (0 : Int32).toNatClampNeg = 0 from by decide, hf ht]
    refine Go.iload_6 d_law_1481 rfl ?_
    refine Go.i2l d_law_1483 rfl ?_
    refine Go.lcmp d_law_1484 rfl ?_
    rw [hv ht, lg_self]
    refine Go.if_eq (t := 1490) d_law_1485 (by decide) rfl (fun _ => ?_) (fun ne => absurd rfl ne)
    refine Go.goto (t := 1548) d_law_1490 (by decide) ?_
    refine Go.iinc_4 d_law_1548 rfl (by rfl) nI_inc6 ?_
    refine Go.goto (t := 23) d_law_1551 (by decide) ?_
    refine Go.fgt [some (.ref b), some (.ref c), some (.ref m), some (.ref w), some (.int (nI (i + 6))), none, none, none, none] (by repeat' (first | exact trivial | refine ⟨rfl, ?_⟩)) ?_
    exact Go.room (k _ _ _ _ _ _ _ _ _ _ _ _ _ _ _ _ _ _ _ _ _ _ ⟨geo, by omega, hup_at, ho, ho2, hrel, hV2, hU⟩) (Nat.le_refl _) (by omega) (by omega)
