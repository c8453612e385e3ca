/-! what the start holds, out of the premise's atoms by their places -/
def NA : List Cond := flatC narrow_1
theorem na_at {args : Array Value} {s : State} (h : (Jvm.Cond.and given_1 narrow_1).before args s = true) {k : Nat} {c : Cond} (hk : NA[k]? = some c) : c.before args s = true := by
  have h2 : narrow_1.before args s = true := by
    rw [Cond.before_and, Bool.and_eq_true] at h
    exact h.2
  exact flat_of_before _ h2 c (List.mem_of_getElem? hk)
abbrev fxEx : List Nat := [503, 141, 145, 507, 149, 153, 511, 157, 161, 515, 165, 519, 169, 173, 177, 523, 527, 273, 277, 281, 285, 289, 181, 531, 535, 539, 543, 197, 201, 205, 185, 265, 269, 221, 225, 213, 217, 189, 193, 293, 229, 241, 209, 233, 237, 245, 249, 253, 257, 261, 137, 8, 2, 74]
abbrev fxOr : List Nat := [504, 142, 146, 508, 150, 154, 512, 158, 162, 516, 166, 520, 170, 174, 178, 524, 528, 274, 278, 282, 286, 290, 182, 532, 536, 540, 544, 198, 202, 206, 186, 266, 270, 222, 226, 214, 218, 190, 194, 294, 230, 242, 210, 234, 238, 246, 250, 254, 258, 262, 138, 9, 3, 75]
abbrev fxTk : List Nat := [506, 144, 148, 510, 152, 156, 514, 160, 164, 518, 168, 522, 172, 176, 180, 526, 530, 276, 280, 284, 288, 292, 184, 534, 538, 542, 546, 200, 204, 208, 188, 268, 272, 224, 228, 216, 220, 192, 196, 296, 232, 244, 212, 236, 240, 248, 252, 256, 260, 264, 140, 11, 5, 77]
abbrev fxTx : List Nat := [505, 143, 147, 509, 151, 155, 513, 159, 163, 517, 167, 521, 171, 175, 179, 525, 529, 275, 279, 283, 287, 291, 183, 533, 537, 541, 545, 199, 203, 207, 187, 267, 271, 223, 227, 215, 219, 191, 195, 295, 231, 243, 211, 235, 239, 247, 251, 255, 259, 263, 139, 10, 4, 76]
abbrev fxTs : List Nat := [194, 200, 203, 206, 209, 212, 215, 218, 221, 224, 227, 230, 233, 236, 239, 242, 245, 248, 251, 254, 257, 260, 263, 266, 269, 272, 275, 278, 281, 284, 287, 290, 293, 296, 299, 302, 305, 308, 311, 314, 317, 320, 323, 326, 329, 332, 335, 338, 341, 344, 347, 347, 347, 347]
abbrev fxTi : List Nat := [1762, 1483, 1493, 1770, 1501, 1507, 1779, 1515, 1524, 1791, 1534, 1800, 1542, 1550, 1557, 1808, 1817, 1716, 1725, 1731, 1739, 1747, 1565, 1828, 1835, 1844, 1852, 1590, 1602, 1610, 1573, 1703, 1710, 1635, 1642, 1624, 1629, 1580, 1585, 1756, 1649, 1667, 1619, 1655, 1661, 1672, 1678, 1683, 1689, 1696, 1478, 1478, 1478, 1478]
abbrev fxLs : List Nat := [35, 48, 50, 52, 54, 56, 58, 60, 62, 64, 66, 68, 70, 72, 74, 76, 78, 80, 82, 84, 86, 88, 90, 92, 94, 96, 98, 100, 102, 104, 106, 108, 110, 112, 114, 135, 137, 139, 141, 143, 148, 150, 152, 157, 159, 161, 166, 168, 173, 175, 180, 182, 187, 189, 191, 193, 195, 197, 203, 208]
abbrev fxLi : List Nat := [998, 1003, 1017, 1033, 1038, 1043, 1052, 1064, 1069, 1079, 1084, 1095, 1104, 1121, 1138, 1142, 1156, 1172, 1177, 1183, 1203, 1227, 1240, 1247, 1264, 1281, 1287, 1308, 1330, 1347, 1355, 1374, 1395, 1400, 1410, 764, 774, 786, 796, 801, 808, 819, 828, 838, 852, 864, 876, 887, 897, 907, 917, 925, 935, 946, 959, 970, 979, 989, 1127, 1416]
abbrev fxMs : List Nat := [53, 64, 155, 158, 160, 166, 172, 181, 211]
abbrev fxMi : List Nat := [734, 700, 596, 562, 642, 620, 1422, 1447, 676]
abbrev lwX : List (List Int32) := [tx35, tx48, tx50, tx52, tx54, tx56, tx58, tx60, tx62, tx64, tx66, tx68, tx70, tx72, tx74, tx76, tx78, tx80, tx82, tx84, tx86, tx88, tx90, tx92, tx94, tx96, tx98, tx100, tx102, tx104, tx106, tx108, tx110, tx112, tx114, tx135, tx137, tx139, tx141, tx143, tx148, tx150, tx152, tx157, tx159, tx161, tx166, tx168, tx173, tx175, tx180, tx182, tx187, tx189, tx191, tx193, tx195, tx197, tx203, tx208]
abbrev fSt (i : Nat) : Term := .static clSign (sgN.getD i "") "LGlacierCamp$Sign;"
theorem na_ex : ∀ i, i < 54 → NA[fxEx.getD i 0]? = some (.exactly (fSt i) clSign) := by decide +kernel
theorem na_or : ∀ i, i < 54 → NA[fxOr.getD i 0]? = some (.eq (.field (fSt i) "java/lang/Enum" "ordinal" "I") (.int (sgO.getD i 0))) := by decide +kernel
theorem na_tk : ∀ i, i < 54 → NA[fxTk.getD i 0]? = some (.eq (.field (fSt i) clSign "takes" "I") (.int (sgT.getD i 0))) := by decide +kernel
theorem na_tx : ∀ i, i < 54 → NA[fxTx.getD i 0]? = some (.eq (.field (fSt i) clSign "text" "Ljava/lang/String;") (.string clSign (fxTs.getD i 0))) := by decide +kernel
theorem na_sa : ∀ j, j < 54 → NA[83 + j]? = some (.eq (.elem (.static "GlacierCamp$Tokens" "SIGNS" "[LGlacierCamp$Sign;") (.int (Int32.ofNat j))) (fSt j)) := by decide +kernel
theorem na_sw : ∀ j, j < 54 → NA[15 + j]? = some (.eq (.elem (.static "GlacierCamp$1" "$SwitchMap$GlacierCamp$Sign" "[I") (.int (Int32.ofNat j))) (.int (swf j))) := by decide +kernel
theorem na_d1 : ∀ j, j < 100 → NA[300 + j]? = some (.eq (.elem (.static "java/lang/Integer" "DigitOnes" "[B") (.int (Int32.ofNat j))) (.int (nI (48 + j % 10)))) := by decide +kernel
theorem na_d2 : ∀ j, j < 100 → NA[403 + j]? = some (.eq (.elem (.static "java/lang/Integer" "DigitTens" "[B") (.int (Int32.ofNat j))) (.int (nI (48 + j / 10)))) := by decide +kernel
theorem na_ms : ∀ j, j < 9 → NA[fxMi.getD j 0]? = some (.exactly (.string "GlacierCamp" (fxMs.getD j 0)) "java/lang/String") := by decide +kernel
abbrev fVa (own : String) (k : Nat) : Term := .field (.string own k) "java/lang/String" "value" "[B"
/-- a constant string's atoms from the place i -/
abbrev naS (own : String) (k i : Nat) (l : List Int32) : Prop := l.length ≤ 20 ∧ NA[i]? = some (.exactly (.string own k) "java/lang/String") ∧ NA[i + 1]? = some (.eq (.field (.string own k) "java/lang/String" "coder" "B") (.int 0)) ∧ NA[i + 2]? = some (.arrayOf (fVa own k) .byte) ∧ NA[i + 3]? = some (.eq (.length (fVa own k)) (.int (Int32.ofNat l.length))) ∧ ∀ j, j < l.length → NA[i + 4 + j]? = some (.eq (.elem (fVa own k) (.int (Int32.ofNat j))) (.int (l.getD j 0)))
theorem na_ts_0 : ∀ i, i < 6 → naS clSign (fxTs.getD (6 * 0 + i) 0) (fxTi.getD (6 * 0 + i) 0) (sgX (6 * 0 + i)) := by decide +kernel
theorem na_ts_1 : ∀ i, i < 6 → naS clSign (fxTs.getD (6 * 1 + i) 0) (fxTi.getD (6 * 1 + i) 0) (sgX (6 * 1 + i)) := by decide +kernel
theorem na_ts_2 : ∀ i, i < 6 → naS clSign (fxTs.getD (6 * 2 + i) 0) (fxTi.getD (6 * 2 + i) 0) (sgX (6 * 2 + i)) := by decide +kernel
theorem na_ts_3 : ∀ i, i < 6 → naS clSign (fxTs.getD (6 * 3 + i) 0) (fxTi.getD (6 * 3 + i) 0) (sgX (6 * 3 + i)) := by decide +kernel
theorem na_ts_4 : ∀ i, i < 6 → naS clSign (fxTs.getD (6 * 4 + i) 0) (fxTi.getD (6 * 4 + i) 0) (sgX (6 * 4 + i)) := by decide +kernel
theorem na_ts_5 : ∀ i, i < 6 → naS clSign (fxTs.getD (6 * 5 + i) 0) (fxTi.getD (6 * 5 + i) 0) (sgX (6 * 5 + i)) := by decide +kernel
theorem na_ts_6 : ∀ i, i < 6 → naS clSign (fxTs.getD (6 * 6 + i) 0) (fxTi.getD (6 * 6 + i) 0) (sgX (6 * 6 + i)) := by decide +kernel
theorem na_ts_7 : ∀ i, i < 6 → naS clSign (fxTs.getD (6 * 7 + i) 0) (fxTi.getD (6 * 7 + i) 0) (sgX (6 * 7 + i)) := by decide +kernel
theorem na_ts_8 : ∀ i, i < 6 → naS clSign (fxTs.getD (6 * 8 + i) 0) (fxTi.getD (6 * 8 + i) 0) (sgX (6 * 8 + i)) := by decide +kernel
theorem na_ts : ∀ i, i < 54 → naS clSign (fxTs.getD i 0) (fxTi.getD i 0) (sgX i) := fun i hi => by
  have h : ∀ p q, p < 9 → q < 6 → naS clSign (fxTs.getD (6 * p + q) 0) (fxTi.getD (6 * p + q) 0) (sgX (6 * p + q)) := fun p q hp hq => by
    match p, hp with
    | 0, _ => exact na_ts_0 q hq
    | 1, _ => exact na_ts_1 q hq
    | 2, _ => exact na_ts_2 q hq
    | 3, _ => exact na_ts_3 q hq
    | 4, _ => exact na_ts_4 q hq
    | 5, _ => exact na_ts_5 q hq
    | 6, _ => exact na_ts_6 q hq
    | 7, _ => exact na_ts_7 q hq
    | 8, _ => exact na_ts_8 q hq
    | _ + 9, w => exact absurd w (by omega)
  have h2 := h (i / 6) (i % 6) (by omega) (by omega)
  rwa [show 6 * (i / 6) + i % 6 = i by omega] at h2
theorem na_ls_0 : ∀ i, i < 5 → naS "GlacierCampLaw" (fxLs.getD (5 * 0 + i) 0) (fxLi.getD (5 * 0 + i) 0) (lwX.getD (5 * 0 + i) []) := by decide +kernel
theorem na_ls_1 : ∀ i, i < 5 → naS "GlacierCampLaw" (fxLs.getD (5 * 1 + i) 0) (fxLi.getD (5 * 1 + i) 0) (lwX.getD (5 * 1 + i) []) := by decide +kernel
theorem na_ls_2 : ∀ i, i < 5 → naS "GlacierCampLaw" (fxLs.getD (5 * 2 + i) 0) (fxLi.getD (5 * 2 + i) 0) (lwX.getD (5 * 2 + i) []) := by decide +kernel
theorem na_ls_3 : ∀ i, i < 5 → naS "GlacierCampLaw" (fxLs.getD (5 * 3 + i) 0) (fxLi.getD (5 * 3 + i) 0) (lwX.getD (5 * 3 + i) []) := by decide +kernel
theorem na_ls_4 : ∀ i, i < 5 → naS "GlacierCampLaw" (fxLs.getD (5 * 4 + i) 0) (fxLi.getD (5 * 4 + i) 0) (lwX.getD (5 * 4 + i) []) := by decide +kernel
theorem na_ls_5 : ∀ i, i < 5 → naS "GlacierCampLaw" (fxLs.getD (5 * 5 + i) 0) (fxLi.getD (5 * 5 + i) 0) (lwX.getD (5 * 5 + i) []) := by decide +kernel
theorem na_ls_6 : ∀ i, i < 5 → naS "GlacierCampLaw" (fxLs.getD (5 * 6 + i) 0) (fxLi.getD (5 * 6 + i) 0) (lwX.getD (5 * 6 + i) []) := by decide +kernel
theorem na_ls_7 : ∀ i, i < 5 → naS "GlacierCampLaw" (fxLs.getD (5 * 7 + i) 0) (fxLi.getD (5 * 7 + i) 0) (lwX.getD (5 * 7 + i) []) := by decide +kernel
theorem na_ls_8 : ∀ i, i < 5 → naS "GlacierCampLaw" (fxLs.getD (5 * 8 + i) 0) (fxLi.getD (5 * 8 + i) 0) (lwX.getD (5 * 8 + i) []) := by decide +kernel
theorem na_ls_9 : ∀ i, i < 5 → naS "GlacierCampLaw" (fxLs.getD (5 * 9 + i) 0) (fxLi.getD (5 * 9 + i) 0) (lwX.getD (5 * 9 + i) []) := by decide +kernel
theorem na_ls_10 : ∀ i, i < 5 → naS "GlacierCampLaw" (fxLs.getD (5 * 10 + i) 0) (fxLi.getD (5 * 10 + i) 0) (lwX.getD (5 * 10 + i) []) := by decide +kernel
theorem na_ls_11 : ∀ i, i < 5 → naS "GlacierCampLaw" (fxLs.getD (5 * 11 + i) 0) (fxLi.getD (5 * 11 + i) 0) (lwX.getD (5 * 11 + i) []) := by decide +kernel
theorem na_ls : ∀ i, i < 60 → naS "GlacierCampLaw" (fxLs.getD i 0) (fxLi.getD i 0) (lwX.getD i []) := fun i hi => by
  have h : ∀ p q, p < 12 → q < 5 → naS "GlacierCampLaw" (fxLs.getD (5 * p + q) 0) (fxLi.getD (5 * p + q) 0) (lwX.getD (5 * p + q) []) := fun p q hp hq => by
    match p, hp with
    | 0, _ => exact na_ls_0 q hq
    | 1, _ => exact na_ls_1 q hq
    | 2, _ => exact na_ls_2 q hq
    | 3, _ => exact na_ls_3 q hq
    | 4, _ => exact na_ls_4 q hq
    | 5, _ => exact na_ls_5 q hq
    | 6, _ => exact na_ls_6 q hq
    | 7, _ => exact na_ls_7 q hq
    | 8, _ => exact na_ls_8 q hq
    | 9, _ => exact na_ls_9 q hq
    | 10, _ => exact na_ls_10 q hq
    | 11, _ => exact na_ls_11 q hq
    | _ + 12, w => exact absurd w (by omega)
  have h2 := h (i / 5) (i % 5) (by omega) (by omega)
  rwa [show 5 * (i / 5) + i % 5 = i by omega] at h2
theorem na_nSa : NA[80]? = some (.arrayOf (.static "GlacierCamp$Tokens" "SIGNS" "[LGlacierCamp$Sign;") (.object "GlacierCamp$Sign")) := by decide +kernel
theorem na_nSl : NA[81]? = some (.eq (.length (.static "GlacierCamp$Tokens" "SIGNS" "[LGlacierCamp$Sign;")) (.int 54)) := by decide +kernel
theorem na_nWa : NA[13]? = some (.arrayOf (.static "GlacierCamp$1" "$SwitchMap$GlacierCamp$Sign" "[I") .int) := by decide +kernel
theorem na_nWl : NA[14]? = some (.eq (.length (.static "GlacierCamp$1" "$SwitchMap$GlacierCamp$Sign" "[I")) (.int 54)) := by decide +kernel
theorem na_nD1 : NA[298]? = some (.arrayOf (.static "java/lang/Integer" "DigitOnes" "[B") .byte) := by decide +kernel
theorem na_nE1 : NA[299]? = some (.eq (.length (.static "java/lang/Integer" "DigitOnes" "[B")) (.int 100)) := by decide +kernel
theorem na_nD2 : NA[401]? = some (.arrayOf (.static "java/lang/Integer" "DigitTens" "[B") .byte) := by decide +kernel
theorem na_nE2 : NA[402]? = some (.eq (.length (.static "java/lang/Integer" "DigitTens" "[B")) (.int 100)) := by decide +kernel
theorem na_nCs : NA[69]? = some (.eq (.static "java/lang/String" "COMPACT_STRINGS" "Z") (.int 1)) := by decide +kernel
theorem na_nSi : NA[70]? = some (.isRef (.static "jdk/internal/util/Preconditions" "SIOOBE_FORMATTER" "Ljava/util/function/BiFunction;")) := by decide +kernel
theorem na_nT1 : NA[6]? = some (.isRef (.static Bundle.tN "UNASSIGNED_STACK" Bundle.steD)) := by decide +kernel
theorem na_nT2 : NA[7]? = some (.isRef (.static Bundle.tN "SUPPRESSED_SENTINEL" Bundle.listD)) := by decide +kernel
