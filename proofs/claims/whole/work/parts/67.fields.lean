/-! the pure part: one write of the reference's state, field by field; a team goes -/
theorem sx_ext {Y Z : SX} (hdy : sx_dy Y = sx_dy Z) (hrd : sx_rd Y = sx_rd Z) (hfa : sx_fa Y = sx_fa Z) (hca : sx_ca Y = sx_ca Z) (hwa : sx_wa Y = sx_wa Z) (hsn : sx_sn Y = sx_sn Z) (hic : sx_ic Y = sx_ic Z) (hou : sx_ou Y = sx_ou Z) (hsd : sx_sd Y = sx_sd Z) (hla : sx_la Y = sx_la Z) (hre : sx_re Y = sx_re Z) (hbr : sx_br Y = sx_br Z) (hkn : sx_kn Y = sx_kn Z) (hpr : sx_pr Y = sx_pr Z) (hcr : sx_cr Y = sx_cr Z) (hfe : sx_fe Y = sx_fe Z) (hfo : sx_fo Y = sx_fo Z) (hsk : sx_sk Y = sx_sk Z) (hpl : sx_pl Y = sx_pl Z) (hhu : sx_hu Y = sx_hu Z) (hhe : sx_he Y = sx_he Z) (hma : sx_ma Y = sx_ma Z) (hfn : sx_fn Y = sx_fn Z) (hdo : sx_do Y = sx_do Z) : Y = Z := by
  obtain ⟨a0, a1, a2, a3, a4, a5, a6, a7, a8, a9, a10, a11, a12, a13, a14, a15, a16, a17, a18, a19, a20, a21, a22, a23⟩ := Y
  obtain ⟨b0, b1, b2, b3, b4, b5, b6, b7, b8, b9, b10, b11, b12, b13, b14, b15, b16, b17, b18, b19, b20, b21, b22, b23⟩ := Z
  have hdy : a0 = b0 := hdy
  have hrd : a1 = b1 := hrd
  have hfa : a2 = b2 := hfa
  have hca : a3 = b3 := hca
  have hwa : a4 = b4 := hwa
  have hsn : a5 = b5 := hsn
  have hic : a6 = b6 := hic
  have hou : a7 = b7 := hou
  have hsd : a8 = b8 := hsd
  have hla : a9 = b9 := hla
  have hre : a10 = b10 := hre
  have hbr : a11 = b11 := hbr
  have hkn : a12 = b12 := hkn
  have hpr : a13 = b13 := hpr
  have hcr : a14 = b14 := hcr
  have hfe : a15 = b15 := hfe
  have hfo : a16 = b16 := hfo
  have hsk : a17 = b17 := hsk
  have hpl : a18 = b18 := hpl
  have hhu : a19 = b19 := hhu
  have hhe : a20 = b20 := hhe
  have hma : a21 = b21 := hma
  have hfn : a22 = b22 := hfn
  have hdo : a23 = b23 := hdo
  subst hdy hrd hfa hca hwa hsn hic hou hsd hla hre hbr hkn hpr hcr hfe hfo hsk hpl hhu hhe hma hfn hdo
  rfl
theorem sx_set_dy {S S' : SX} {v : Nat} (h : S' = sx_dy' S v) : sx_dy S' = v ∧ sx_rd S' = sx_rd S ∧ sx_fa S' = sx_fa S ∧ sx_ca S' = sx_ca S ∧ sx_wa S' = sx_wa S ∧ sx_sn S' = sx_sn S ∧ sx_ic S' = sx_ic S ∧ sx_ou S' = sx_ou S ∧ sx_sd S' = sx_sd S ∧ sx_la S' = sx_la S ∧ sx_re S' = sx_re S ∧ sx_br S' = sx_br S ∧ sx_kn S' = sx_kn S ∧ sx_pr S' = sx_pr S ∧ sx_cr S' = sx_cr S ∧ sx_fe S' = sx_fe S ∧ sx_fo S' = sx_fo S ∧ sx_sk S' = sx_sk S ∧ sx_pl S' = sx_pl S ∧ sx_hu S' = sx_hu S ∧ sx_he S' = sx_he S ∧ sx_ma S' = sx_ma S ∧ sx_fn S' = sx_fn S ∧ sx_do S' = sx_do S := by
  subst h
  exact ⟨rfl, rfl, rfl, rfl, rfl, rfl, rfl, rfl, rfl, rfl, rfl, rfl, rfl, rfl, rfl, rfl, rfl, rfl, rfl, rfl, rfl, rfl, rfl, rfl⟩
theorem sx_set_rd {S S' : SX} {v : Int32} (h : S' = sx_rd' S v) : sx_dy S' = sx_dy S ∧ sx_rd S' = v ∧ sx_fa S' = sx_fa S ∧ sx_ca S' = sx_ca S ∧ sx_wa S' = sx_wa S ∧ sx_sn S' = sx_sn S ∧ sx_ic S' = sx_ic S ∧ sx_ou S' = sx_ou S ∧ sx_sd S' = sx_sd S ∧ sx_la S' = sx_la S ∧ sx_re S' = sx_re S ∧ sx_br S' = sx_br S ∧ sx_kn S' = sx_kn S ∧ sx_pr S' = sx_pr S ∧ sx_cr S' = sx_cr S ∧ sx_fe S' = sx_fe S ∧ sx_fo S' = sx_fo S ∧ sx_sk S' = sx_sk S ∧ sx_pl S' = sx_pl S ∧ sx_hu S' = sx_hu S ∧ sx_he S' = sx_he S ∧ sx_ma S' = sx_ma S ∧ sx_fn S' = sx_fn S ∧ sx_do S' = sx_do S := by
  subst h
  exact ⟨rfl, rfl, rfl, rfl, rfl, rfl, rfl, rfl, rfl, rfl, rfl, rfl, rfl, rfl, rfl, rfl, rfl, rfl, rfl, rfl, rfl, rfl, rfl, rfl⟩
theorem sx_set_fa {S S' : SX} {v : Int32} (h : S' = sx_fa' S v) : sx_dy S' = sx_dy S ∧ sx_rd S' = sx_rd S ∧ sx_fa S' = v ∧ sx_ca S' = sx_ca S ∧ sx_wa S' = sx_wa S ∧ sx_sn S' = sx_sn S ∧ sx_ic S' = sx_ic S ∧ sx_ou S' = sx_ou S ∧ sx_sd S' = sx_sd S ∧ sx_la S' = sx_la S ∧ sx_re S' = sx_re S ∧ sx_br S' = sx_br S ∧ sx_kn S' = sx_kn S ∧ sx_pr S' = sx_pr S ∧ sx_cr S' = sx_cr S ∧ sx_fe S' = sx_fe S ∧ sx_fo S' = sx_fo S ∧ sx_sk S' = sx_sk S ∧ sx_pl S' = sx_pl S ∧ sx_hu S' = sx_hu S ∧ sx_he S' = sx_he S ∧ sx_ma S' = sx_ma S ∧ sx_fn S' = sx_fn S ∧ sx_do S' = sx_do S := by
  subst h
  exact ⟨rfl, rfl, rfl, rfl, rfl, rfl, rfl, rfl, rfl, rfl, rfl, rfl, rfl, rfl, rfl, rfl, rfl, rfl, rfl, rfl, rfl, rfl, rfl, rfl⟩
theorem sx_set_ca {S S' : SX} {v : Int32} (h : S' = sx_ca' S v) : sx_dy S' = sx_dy S ∧ sx_rd S' = sx_rd S ∧ sx_fa S' = sx_fa S ∧ sx_ca S' = v ∧ sx_wa S' = sx_wa S ∧ sx_sn S' = sx_sn S ∧ sx_ic S' = sx_ic S ∧ sx_ou S' = sx_ou S ∧ sx_sd S' = sx_sd S ∧ sx_la S' = sx_la S ∧ sx_re S' = sx_re S ∧ sx_br S' = sx_br S ∧ sx_kn S' = sx_kn S ∧ sx_pr S' = sx_pr S ∧ sx_cr S' = sx_cr S ∧ sx_fe S' = sx_fe S ∧ sx_fo S' = sx_fo S ∧ sx_sk S' = sx_sk S ∧ sx_pl S' = sx_pl S ∧ sx_hu S' = sx_hu S ∧ sx_he S' = sx_he S ∧ sx_ma S' = sx_ma S ∧ sx_fn S' = sx_fn S ∧ sx_do S' = sx_do S := by
  subst h
  exact ⟨rfl, rfl, rfl, rfl, rfl, rfl, rfl, rfl, rfl, rfl, rfl, rfl, rfl, rfl, rfl, rfl, rfl, rfl, rfl, rfl, rfl, rfl, rfl, rfl⟩
theorem sx_set_wa {S S' : SX} {v : Nat → Int32} (h : S' = sx_wa' S v) : sx_dy S' = sx_dy S ∧ sx_rd S' = sx_rd S ∧ sx_fa S' = sx_fa S ∧ sx_ca S' = sx_ca S ∧ sx_wa S' = v ∧ sx_sn S' = sx_sn S ∧ sx_ic S' = sx_ic S ∧ sx_ou S' = sx_ou S ∧ sx_sd S' = sx_sd S ∧ sx_la S' = sx_la S ∧ sx_re S' = sx_re S ∧ sx_br S' = sx_br S ∧ sx_kn S' = sx_kn S ∧ sx_pr S' = sx_pr S ∧ sx_cr S' = sx_cr S ∧ sx_fe S' = sx_fe S ∧ sx_fo S' = sx_fo S ∧ sx_sk S' = sx_sk S ∧ sx_pl S' = sx_pl S ∧ sx_hu S' = sx_hu S ∧ sx_he S' = sx_he S ∧ sx_ma S' = sx_ma S ∧ sx_fn S' = sx_fn S ∧ sx_do S' = sx_do S := by
  subst h
  exact ⟨rfl, rfl, rfl, rfl, rfl, rfl, rfl, rfl, rfl, rfl, rfl, rfl, rfl, rfl, rfl, rfl, rfl, rfl, rfl, rfl, rfl, rfl, rfl, rfl⟩
theorem sx_set_sn {S S' : SX} {v : Nat → Int32} (h : S' = sx_sn' S v) : sx_dy S' = sx_dy S ∧ sx_rd S' = sx_rd S ∧ sx_fa S' = sx_fa S ∧ sx_ca S' = sx_ca S ∧ sx_wa S' = sx_wa S ∧ sx_sn S' = v ∧ sx_ic S' = sx_ic S ∧ sx_ou S' = sx_ou S ∧ sx_sd S' = sx_sd S ∧ sx_la S' = sx_la S ∧ sx_re S' = sx_re S ∧ sx_br S' = sx_br S ∧ sx_kn S' = sx_kn S ∧ sx_pr S' = sx_pr S ∧ sx_cr S' = sx_cr S ∧ sx_fe S' = sx_fe S ∧ sx_fo S' = sx_fo S ∧ sx_sk S' = sx_sk S ∧ sx_pl S' = sx_pl S ∧ sx_hu S' = sx_hu S ∧ sx_he S' = sx_he S ∧ sx_ma S' = sx_ma S ∧ sx_fn S' = sx_fn S ∧ sx_do S' = sx_do S := by
  subst h
  exact ⟨rfl, rfl, rfl, rfl, rfl, rfl, rfl, rfl, rfl, rfl, rfl, rfl, rfl, rfl, rfl, rfl, rfl, rfl, rfl, rfl, rfl, rfl, rfl, rfl⟩
theorem sx_set_ic {S S' : SX} {v : Nat → Int32} (h : S' = sx_ic' S v) : sx_dy S' = sx_dy S ∧ sx_rd S' = sx_rd S ∧ sx_fa S' = sx_fa S ∧ sx_ca S' = sx_ca S ∧ sx_wa S' = sx_wa S ∧ sx_sn S' = sx_sn S ∧ sx_ic S' = v ∧ sx_ou S' = sx_ou S ∧ sx_sd S' = sx_sd S ∧ sx_la S' = sx_la S ∧ sx_re S' = sx_re S ∧ sx_br S' = sx_br S ∧ sx_kn S' = sx_kn S ∧ sx_pr S' = sx_pr S ∧ sx_cr S' = sx_cr S ∧ sx_fe S' = sx_fe S ∧ sx_fo S' = sx_fo S ∧ sx_sk S' = sx_sk S ∧ sx_pl S' = sx_pl S ∧ sx_hu S' = sx_hu S ∧ sx_he S' = sx_he S ∧ sx_ma S' = sx_ma S ∧ sx_fn S' = sx_fn S ∧ sx_do S' = sx_do S := by
  subst h
  exact ⟨rfl, rfl, rfl, rfl, rfl, rfl, rfl, rfl, rfl, rfl, rfl, rfl, rfl, rfl, rfl, rfl, rfl, rfl, rfl, rfl, rfl, rfl, rfl, rfl⟩
theorem sx_set_ou {S S' : SX} {v : Nat → Int32} (h : S' = sx_ou' S v) : sx_dy S' = sx_dy S ∧ sx_rd S' = sx_rd S ∧ sx_fa S' = sx_fa S ∧ sx_ca S' = sx_ca S ∧ sx_wa S' = sx_wa S ∧ sx_sn S' = sx_sn S ∧ sx_ic S' = sx_ic S ∧ sx_ou S' = v ∧ sx_sd S' = sx_sd S ∧ sx_la S' = sx_la S ∧ sx_re S' = sx_re S ∧ sx_br S' = sx_br S ∧ sx_kn S' = sx_kn S ∧ sx_pr S' = sx_pr S ∧ sx_cr S' = sx_cr S ∧ sx_fe S' = sx_fe S ∧ sx_fo S' = sx_fo S ∧ sx_sk S' = sx_sk S ∧ sx_pl S' = sx_pl S ∧ sx_hu S' = sx_hu S ∧ sx_he S' = sx_he S ∧ sx_ma S' = sx_ma S ∧ sx_fn S' = sx_fn S ∧ sx_do S' = sx_do S := by
  subst h
  exact ⟨rfl, rfl, rfl, rfl, rfl, rfl, rfl, rfl, rfl, rfl, rfl, rfl, rfl, rfl, rfl, rfl, rfl, rfl, rfl, rfl, rfl, rfl, rfl, rfl⟩
theorem sx_set_sd {S S' : SX} {v : Nat → Int32} (h : S' = sx_sd' S v) : sx_dy S' = sx_dy S ∧ sx_rd S' = sx_rd S ∧ sx_fa S' = sx_fa S ∧ sx_ca S' = sx_ca S ∧ sx_wa S' = sx_wa S ∧ sx_sn S' = sx_sn S ∧ sx_ic S' = sx_ic S ∧ sx_ou S' = sx_ou S ∧ sx_sd S' = v ∧ sx_la S' = sx_la S ∧ sx_re S' = sx_re S ∧ sx_br S' = sx_br S ∧ sx_kn S' = sx_kn S ∧ sx_pr S' = sx_pr S ∧ sx_cr S' = sx_cr S ∧ sx_fe S' = sx_fe S ∧ sx_fo S' = sx_fo S ∧ sx_sk S' = sx_sk S ∧ sx_pl S' = sx_pl S ∧ sx_hu S' = sx_hu S ∧ sx_he S' = sx_he S ∧ sx_ma S' = sx_ma S ∧ sx_fn S' = sx_fn S ∧ sx_do S' = sx_do S := by
  subst h
  exact ⟨rfl, rfl, rfl, rfl, rfl, rfl, rfl, rfl, rfl, rfl, rfl, rfl, rfl, rfl, rfl, rfl, rfl, rfl, rfl, rfl, rfl, rfl, rfl, rfl⟩
theorem sx_set_la {S S' : SX} {v : Nat → Int32} (h : S' = sx_la' S v) : sx_dy S' = sx_dy S ∧ sx_rd S' = sx_rd S ∧ sx_fa S' = sx_fa S ∧ sx_ca S' = sx_ca S ∧ sx_wa S' = sx_wa S ∧ sx_sn S' = sx_sn S ∧ sx_ic S' = sx_ic S ∧ sx_ou S' = sx_ou S ∧ sx_sd S' = sx_sd S ∧ sx_la S' = v ∧ sx_re S' = sx_re S ∧ sx_br S' = sx_br S ∧ sx_kn S' = sx_kn S ∧ sx_pr S' = sx_pr S ∧ sx_cr S' = sx_cr S ∧ sx_fe S' = sx_fe S ∧ sx_fo S' = sx_fo S ∧ sx_sk S' = sx_sk S ∧ sx_pl S' = sx_pl S ∧ sx_hu S' = sx_hu S ∧ sx_he S' = sx_he S ∧ sx_ma S' = sx_ma S ∧ sx_fn S' = sx_fn S ∧ sx_do S' = sx_do S := by
  subst h
  exact ⟨rfl, rfl, rfl, rfl, rfl, rfl, rfl, rfl, rfl, rfl, rfl, rfl, rfl, rfl, rfl, rfl, rfl, rfl, rfl, rfl, rfl, rfl, rfl, rfl⟩
theorem sx_set_re {S S' : SX} {v : Nat → Int32} (h : S' = sx_re' S v) : sx_dy S' = sx_dy S ∧ sx_rd S' = sx_rd S ∧ sx_fa S' = sx_fa S ∧ sx_ca S' = sx_ca S ∧ sx_wa S' = sx_wa S ∧ sx_sn S' = sx_sn S ∧ sx_ic S' = sx_ic S ∧ sx_ou S' = sx_ou S ∧ sx_sd S' = sx_sd S ∧ sx_la S' = sx_la S ∧ sx_re S' = v ∧ sx_br S' = sx_br S ∧ sx_kn S' = sx_kn S ∧ sx_pr S' = sx_pr S ∧ sx_cr S' = sx_cr S ∧ sx_fe S' = sx_fe S ∧ sx_fo S' = sx_fo S ∧ sx_sk S' = sx_sk S ∧ sx_pl S' = sx_pl S ∧ sx_hu S' = sx_hu S ∧ sx_he S' = sx_he S ∧ sx_ma S' = sx_ma S ∧ sx_fn S' = sx_fn S ∧ sx_do S' = sx_do S := by
  subst h
  exact ⟨rfl, rfl, rfl, rfl, rfl, rfl, rfl, rfl, rfl, rfl, rfl, rfl, rfl, rfl, rfl, rfl, rfl, rfl, rfl, rfl, rfl, rfl, rfl, rfl⟩
theorem sx_set_br {S S' : SX} {v : Nat → Int32} (h : S' = sx_br' S v) : sx_dy S' = sx_dy S ∧ sx_rd S' = sx_rd S ∧ sx_fa S' = sx_fa S ∧ sx_ca S' = sx_ca S ∧ sx_wa S' = sx_wa S ∧ sx_sn S' = sx_sn S ∧ sx_ic S' = sx_ic S ∧ sx_ou S' = sx_ou S ∧ sx_sd S' = sx_sd S ∧ sx_la S' = sx_la S ∧ sx_re S' = sx_re S ∧ sx_br S' = v ∧ sx_kn S' = sx_kn S ∧ sx_pr S' = sx_pr S ∧ sx_cr S' = sx_cr S ∧ sx_fe S' = sx_fe S ∧ sx_fo S' = sx_fo S ∧ sx_sk S' = sx_sk S ∧ sx_pl S' = sx_pl S ∧ sx_hu S' = sx_hu S ∧ sx_he S' = sx_he S ∧ sx_ma S' = sx_ma S ∧ sx_fn S' = sx_fn S ∧ sx_do S' = sx_do S := by
  subst h
  exact ⟨rfl, rfl, rfl, rfl, rfl, rfl, rfl, rfl, rfl, rfl, rfl, rfl, rfl, rfl, rfl, rfl, rfl, rfl, rfl, rfl, rfl, rfl, rfl, rfl⟩
theorem sx_set_kn {S S' : SX} {v : Nat → Int32} (h : S' = sx_kn' S v) : sx_dy S' = sx_dy S ∧ sx_rd S' = sx_rd S ∧ sx_fa S' = sx_fa S ∧ sx_ca S' = sx_ca S ∧ sx_wa S' = sx_wa S ∧ sx_sn S' = sx_sn S ∧ sx_ic S' = sx_ic S ∧ sx_ou S' = sx_ou S ∧ sx_sd S' = sx_sd S ∧ sx_la S' = sx_la S ∧ sx_re S' = sx_re S ∧ sx_br S' = sx_br S ∧ sx_kn S' = v ∧ sx_pr S' = sx_pr S ∧ sx_cr S' = sx_cr S ∧ sx_fe S' = sx_fe S ∧ sx_fo S' = sx_fo S ∧ sx_sk S' = sx_sk S ∧ sx_pl S' = sx_pl S ∧ sx_hu S' = sx_hu S ∧ sx_he S' = sx_he S ∧ sx_ma S' = sx_ma S ∧ sx_fn S' = sx_fn S ∧ sx_do S' = sx_do S := by
  subst h
  exact ⟨rfl, rfl, rfl, rfl, rfl, rfl, rfl, rfl, rfl, rfl, rfl, rfl, rfl, rfl, rfl, rfl, rfl, rfl, rfl, rfl, rfl, rfl, rfl, rfl⟩
theorem sx_set_pr {S S' : SX} {v : Nat → Int32} (h : S' = sx_pr' S v) : sx_dy S' = sx_dy S ∧ sx_rd S' = sx_rd S ∧ sx_fa S' = sx_fa S ∧ sx_ca S' = sx_ca S ∧ sx_wa S' = sx_wa S ∧ sx_sn S' = sx_sn S ∧ sx_ic S' = sx_ic S ∧ sx_ou S' = sx_ou S ∧ sx_sd S' = sx_sd S ∧ sx_la S' = sx_la S ∧ sx_re S' = sx_re S ∧ sx_br S' = sx_br S ∧ sx_kn S' = sx_kn S ∧ sx_pr S' = v ∧ sx_cr S' = sx_cr S ∧ sx_fe S' = sx_fe S ∧ sx_fo S' = sx_fo S ∧ sx_sk S' = sx_sk S ∧ sx_pl S' = sx_pl S ∧ sx_hu S' = sx_hu S ∧ sx_he S' = sx_he S ∧ sx_ma S' = sx_ma S ∧ sx_fn S' = sx_fn S ∧ sx_do S' = sx_do S := by
  subst h
  exact ⟨rfl, rfl, rfl, rfl, rfl, rfl, rfl, rfl, rfl, rfl, rfl, rfl, rfl, rfl, rfl, rfl, rfl, rfl, rfl, rfl, rfl, rfl, rfl, rfl⟩
theorem sx_set_cr {S S' : SX} {v : Nat → Int32} (h : S' = sx_cr' S v) : sx_dy S' = sx_dy S ∧ sx_rd S' = sx_rd S ∧ sx_fa S' = sx_fa S ∧ sx_ca S' = sx_ca S ∧ sx_wa S' = sx_wa S ∧ sx_sn S' = sx_sn S ∧ sx_ic S' = sx_ic S ∧ sx_ou S' = sx_ou S ∧ sx_sd S' = sx_sd S ∧ sx_la S' = sx_la S ∧ sx_re S' = sx_re S ∧ sx_br S' = sx_br S ∧ sx_kn S' = sx_kn S ∧ sx_pr S' = sx_pr S ∧ sx_cr S' = v ∧ sx_fe S' = sx_fe S ∧ sx_fo S' = sx_fo S ∧ sx_sk S' = sx_sk S ∧ sx_pl S' = sx_pl S ∧ sx_hu S' = sx_hu S ∧ sx_he S' = sx_he S ∧ sx_ma S' = sx_ma S ∧ sx_fn S' = sx_fn S ∧ sx_do S' = sx_do S := by
  subst h
  exact ⟨rfl, rfl, rfl, rfl, rfl, rfl, rfl, rfl, rfl, rfl, rfl, rfl, rfl, rfl, rfl, rfl, rfl, rfl, rfl, rfl, rfl, rfl, rfl, rfl⟩
theorem sx_set_fe {S S' : SX} {v : Nat → Int32} (h : S' = sx_fe' S v) : sx_dy S' = sx_dy S ∧ sx_rd S' = sx_rd S ∧ sx_fa S' = sx_fa S ∧ sx_ca S' = sx_ca S ∧ sx_wa S' = sx_wa S ∧ sx_sn S' = sx_sn S ∧ sx_ic S' = sx_ic S ∧ sx_ou S' = sx_ou S ∧ sx_sd S' = sx_sd S ∧ sx_la S' = sx_la S ∧ sx_re S' = sx_re S ∧ sx_br S' = sx_br S ∧ sx_kn S' = sx_kn S ∧ sx_pr S' = sx_pr S ∧ sx_cr S' = sx_cr S ∧ sx_fe S' = v ∧ sx_fo S' = sx_fo S ∧ sx_sk S' = sx_sk S ∧ sx_pl S' = sx_pl S ∧ sx_hu S' = sx_hu S ∧ sx_he S' = sx_he S ∧ sx_ma S' = sx_ma S ∧ sx_fn S' = sx_fn S ∧ sx_do S' = sx_do S := by
  subst h
  exact ⟨rfl, rfl, rfl, rfl, rfl, rfl, rfl, rfl, rfl, rfl, rfl, rfl, rfl, rfl, rfl, rfl, rfl, rfl, rfl, rfl, rfl, rfl, rfl, rfl⟩
theorem sx_set_fo {S S' : SX} {v : Nat → Int32} (h : S' = sx_fo' S v) : sx_dy S' = sx_dy S ∧ sx_rd S' = sx_rd S ∧ sx_fa S' = sx_fa S ∧ sx_ca S' = sx_ca S ∧ sx_wa S' = sx_wa S ∧ sx_sn S' = sx_sn S ∧ sx_ic S' = sx_ic S ∧ sx_ou S' = sx_ou S ∧ sx_sd S' = sx_sd S ∧ sx_la S' = sx_la S ∧ sx_re S' = sx_re S ∧ sx_br S' = sx_br S ∧ sx_kn S' = sx_kn S ∧ sx_pr S' = sx_pr S ∧ sx_cr S' = sx_cr S ∧ sx_fe S' = sx_fe S ∧ sx_fo S' = v ∧ sx_sk S' = sx_sk S ∧ sx_pl S' = sx_pl S ∧ sx_hu S' = sx_hu S ∧ sx_he S' = sx_he S ∧ sx_ma S' = sx_ma S ∧ sx_fn S' = sx_fn S ∧ sx_do S' = sx_do S := by
  subst h
  exact ⟨rfl, rfl, rfl, rfl, rfl, rfl, rfl, rfl, rfl, rfl, rfl, rfl, rfl, rfl, rfl, rfl, rfl, rfl, rfl, rfl, rfl, rfl, rfl, rfl⟩
theorem sx_set_sk {S S' : SX} {v : Nat → Int32} (h : S' = sx_sk' S v) : sx_dy S' = sx_dy S ∧ sx_rd S' = sx_rd S ∧ sx_fa S' = sx_fa S ∧ sx_ca S' = sx_ca S ∧ sx_wa S' = sx_wa S ∧ sx_sn S' = sx_sn S ∧ sx_ic S' = sx_ic S ∧ sx_ou S' = sx_ou S ∧ sx_sd S' = sx_sd S ∧ sx_la S' = sx_la S ∧ sx_re S' = sx_re S ∧ sx_br S' = sx_br S ∧ sx_kn S' = sx_kn S ∧ sx_pr S' = sx_pr S ∧ sx_cr S' = sx_cr S ∧ sx_fe S' = sx_fe S ∧ sx_fo S' = sx_fo S ∧ sx_sk S' = v ∧ sx_pl S' = sx_pl S ∧ sx_hu S' = sx_hu S ∧ sx_he S' = sx_he S ∧ sx_ma S' = sx_ma S ∧ sx_fn S' = sx_fn S ∧ sx_do S' = sx_do S := by
  subst h
  exact ⟨rfl, rfl, rfl, rfl, rfl, rfl, rfl, rfl, rfl, rfl, rfl, rfl, rfl, rfl, rfl, rfl, rfl, rfl, rfl, rfl, rfl, rfl, rfl, rfl⟩
theorem sx_set_pl {S S' : SX} {v : Nat → Int32} (h : S' = sx_pl' S v) : sx_dy S' = sx_dy S ∧ sx_rd S' = sx_rd S ∧ sx_fa S' = sx_fa S ∧ sx_ca S' = sx_ca S ∧ sx_wa S' = sx_wa S ∧ sx_sn S' = sx_sn S ∧ sx_ic S' = sx_ic S ∧ sx_ou S' = sx_ou S ∧ sx_sd S' = sx_sd S ∧ sx_la S' = sx_la S ∧ sx_re S' = sx_re S ∧ sx_br S' = sx_br S ∧ sx_kn S' = sx_kn S ∧ sx_pr S' = sx_pr S ∧ sx_cr S' = sx_cr S ∧ sx_fe S' = sx_fe S ∧ sx_fo S' = sx_fo S ∧ sx_sk S' = sx_sk S ∧ sx_pl S' = v ∧ sx_hu S' = sx_hu S ∧ sx_he S' = sx_he S ∧ sx_ma S' = sx_ma S ∧ sx_fn S' = sx_fn S ∧ sx_do S' = sx_do S := by
  subst h
  exact ⟨rfl, rfl, rfl, rfl, rfl, rfl, rfl, rfl, rfl, rfl, rfl, rfl, rfl, rfl, rfl, rfl, rfl, rfl, rfl, rfl, rfl, rfl, rfl, rfl⟩
theorem sx_set_hu {S S' : SX} {v : Nat → Int32} (h : S' = sx_hu' S v) : sx_dy S' = sx_dy S ∧ sx_rd S' = sx_rd S ∧ sx_fa S' = sx_fa S ∧ sx_ca S' = sx_ca S ∧ sx_wa S' = sx_wa S ∧ sx_sn S' = sx_sn S ∧ sx_ic S' = sx_ic S ∧ sx_ou S' = sx_ou S ∧ sx_sd S' = sx_sd S ∧ sx_la S' = sx_la S ∧ sx_re S' = sx_re S ∧ sx_br S' = sx_br S ∧ sx_kn S' = sx_kn S ∧ sx_pr S' = sx_pr S ∧ sx_cr S' = sx_cr S ∧ sx_fe S' = sx_fe S ∧ sx_fo S' = sx_fo S ∧ sx_sk S' = sx_sk S ∧ sx_pl S' = sx_pl S ∧ sx_hu S' = v ∧ sx_he S' = sx_he S ∧ sx_ma S' = sx_ma S ∧ sx_fn S' = sx_fn S ∧ sx_do S' = sx_do S := by
  subst h
  exact ⟨rfl, rfl, rfl, rfl, rfl, rfl, rfl, rfl, rfl, rfl, rfl, rfl, rfl, rfl, rfl, rfl, rfl, rfl, rfl, rfl, rfl, rfl, rfl, rfl⟩
theorem sx_set_he {S S' : SX} {v : Nat → Int32} (h : S' = sx_he' S v) : sx_dy S' = sx_dy S ∧ sx_rd S' = sx_rd S ∧ sx_fa S' = sx_fa S ∧ sx_ca S' = sx_ca S ∧ sx_wa S' = sx_wa S ∧ sx_sn S' = sx_sn S ∧ sx_ic S' = sx_ic S ∧ sx_ou S' = sx_ou S ∧ sx_sd S' = sx_sd S ∧ sx_la S' = sx_la S ∧ sx_re S' = sx_re S ∧ sx_br S' = sx_br S ∧ sx_kn S' = sx_kn S ∧ sx_pr S' = sx_pr S ∧ sx_cr S' = sx_cr S ∧ sx_fe S' = sx_fe S ∧ sx_fo S' = sx_fo S ∧ sx_sk S' = sx_sk S ∧ sx_pl S' = sx_pl S ∧ sx_hu S' = sx_hu S ∧ sx_he S' = v ∧ sx_ma S' = sx_ma S ∧ sx_fn S' = sx_fn S ∧ sx_do S' = sx_do S := by
  subst h
  exact ⟨rfl, rfl, rfl, rfl, rfl, rfl, rfl, rfl, rfl, rfl, rfl, rfl, rfl, rfl, rfl, rfl, rfl, rfl, rfl, rfl, rfl, rfl, rfl, rfl⟩
theorem sx_set_ma {S S' : SX} {v : Nat → Int32} (h : S' = sx_ma' S v) : sx_dy S' = sx_dy S ∧ sx_rd S' = sx_rd S ∧ sx_fa S' = sx_fa S ∧ sx_ca S' = sx_ca S ∧ sx_wa S' = sx_wa S ∧ sx_sn S' = sx_sn S ∧ sx_ic S' = sx_ic S ∧ sx_ou S' = sx_ou S ∧ sx_sd S' = sx_sd S ∧ sx_la S' = sx_la S ∧ sx_re S' = sx_re S ∧ sx_br S' = sx_br S ∧ sx_kn S' = sx_kn S ∧ sx_pr S' = sx_pr S ∧ sx_cr S' = sx_cr S ∧ sx_fe S' = sx_fe S ∧ sx_fo S' = sx_fo S ∧ sx_sk S' = sx_sk S ∧ sx_pl S' = sx_pl S ∧ sx_hu S' = sx_hu S ∧ sx_he S' = sx_he S ∧ sx_ma S' = v ∧ sx_fn S' = sx_fn S ∧ sx_do S' = sx_do S := by
  subst h
  exact ⟨rfl, rfl, rfl, rfl, rfl, rfl, rfl, rfl, rfl, rfl, rfl, rfl, rfl, rfl, rfl, rfl, rfl, rfl, rfl, rfl, rfl, rfl, rfl, rfl⟩
theorem sx_set_fn {S S' : SX} {v : Nat → Int32} (h : S' = sx_fn' S v) : sx_dy S' = sx_dy S ∧ sx_rd S' = sx_rd S ∧ sx_fa S' = sx_fa S ∧ sx_ca S' = sx_ca S ∧ sx_wa S' = sx_wa S ∧ sx_sn S' = sx_sn S ∧ sx_ic S' = sx_ic S ∧ sx_ou S' = sx_ou S ∧ sx_sd S' = sx_sd S ∧ sx_la S' = sx_la S ∧ sx_re S' = sx_re S ∧ sx_br S' = sx_br S ∧ sx_kn S' = sx_kn S ∧ sx_pr S' = sx_pr S ∧ sx_cr S' = sx_cr S ∧ sx_fe S' = sx_fe S ∧ sx_fo S' = sx_fo S ∧ sx_sk S' = sx_sk S ∧ sx_pl S' = sx_pl S ∧ sx_hu S' = sx_hu S ∧ sx_he S' = sx_he S ∧ sx_ma S' = sx_ma S ∧ sx_fn S' = v ∧ sx_do S' = sx_do S := by
  subst h
  exact ⟨rfl, rfl, rfl, rfl, rfl, rfl, rfl, rfl, rfl, rfl, rfl, rfl, rfl, rfl, rfl, rfl, rfl, rfl, rfl, rfl, rfl, rfl, rfl, rfl⟩
theorem sx_set_do {S S' : SX} {v : Nat → Int32} (h : S' = sx_do' S v) : sx_dy S' = sx_dy S ∧ sx_rd S' = sx_rd S ∧ sx_fa S' = sx_fa S ∧ sx_ca S' = sx_ca S ∧ sx_wa S' = sx_wa S ∧ sx_sn S' = sx_sn S ∧ sx_ic S' = sx_ic S ∧ sx_ou S' = sx_ou S ∧ sx_sd S' = sx_sd S ∧ sx_la S' = sx_la S ∧ sx_re S' = sx_re S ∧ sx_br S' = sx_br S ∧ sx_kn S' = sx_kn S ∧ sx_pr S' = sx_pr S ∧ sx_cr S' = sx_cr S ∧ sx_fe S' = sx_fe S ∧ sx_fo S' = sx_fo S ∧ sx_sk S' = sx_sk S ∧ sx_pl S' = sx_pl S ∧ sx_hu S' = sx_hu S ∧ sx_he S' = sx_he S ∧ sx_ma S' = sx_ma S ∧ sx_fn S' = sx_fn S ∧ sx_do S' = v := by
  subst h
  exact ⟨rfl, rfl, rfl, rfl, rfl, rfl, rfl, rfl, rfl, rfl, rfl, rfl, rfl, rfl, rfl, rfl, rfl, rfl, rfl, rfl, rfl, rfl, rfl, rfl⟩
