/-! what the start holds, out of the premise's atoms by their places -/
def NA : List Cond := flatC narrow_1
theorem na_at {args : Array Value} {s : State} (h : (Jvm.Cond.and given_1 narrow_1).before args s = true) {k : Nat} {c : Cond} (hk : NA[k]? = some c) : c.before args s = true := by
  have h2 : narrow_1.before args s = true := by
    rw [Cond.before_and, Bool.and_eq_true] at h
    exact h.2
  exact flat_of_before _ h2 c (List.mem_of_getElem? hk)
abbrev fxEx : List Nat := [335, 139, 143, 339, 147, 151, 343, 155, 159, 347, 163, 351, 167, 171, 175, 355, 359, 271, 275, 279, 283, 287, 179, 363, 367, 371, 375, 195, 199, 203, 183, 263, 267, 219, 223, 211, 215, 187, 191, 291, 227, 239, 207, 231, 235, 243, 247, 251, 255, 259, 78, 6, 2, 10]
abbrev fxOr : List Nat := [336, 140, 144, 340, 148, 152, 344, 156, 160, 348, 164, 352, 168, 172, 176, 356, 360, 272, 276, 280, 284, 288, 180, 364, 368, 372, 376, 196, 200, 204, 184, 264, 268, 220, 224, 212, 216, 188, 192, 292, 228, 240, 208, 232, 236, 244, 248, 252, 256, 260, 79, 7, 3, 11]
abbrev fxTk : List Nat := [338, 142, 146, 342, 150, 154, 346, 158, 162, 350, 166, 354, 170, 174, 178, 358, 362, 274, 278, 282, 286, 290, 182, 366, 370, 374, 378, 198, 202, 206, 186, 266, 270, 222, 226, 214, 218, 190, 194, 294, 230, 242, 210, 234, 238, 246, 250, 254, 258, 262, 81, 9, 5, 13]
abbrev fxTx : List Nat := [337, 141, 145, 341, 149, 153, 345, 157, 161, 349, 165, 353, 169, 173, 177, 357, 361, 273, 277, 281, 285, 289, 181, 365, 369, 373, 377, 197, 201, 205, 185, 265, 269, 221, 225, 213, 217, 189, 193, 293, 229, 241, 209, 233, 237, 245, 249, 253, 257, 261, 80, 8, 4, 12]
abbrev fxTs : List Nat := [194, 200, 203, 206, 209, 212, 215, 218, 221, 224, 227, 230, 233, 236, 239, 242, 245, 248, 251, 254, 257, 260, 263, 266, 269, 272, 275, 278, 281, 284, 287, 290, 293, 296, 299, 302, 305, 308, 311, 314, 317, 320, 323, 326, 329, 332, 335, 338, 341, 344, 347, 347, 347, 347]
abbrev fxTi : List Nat := [1309, 723, 733, 1318, 741, 747, 1328, 755, 764, 1341, 774, 1351, 782, 790, 797, 1360, 1370, 948, 957, 963, 971, 979, 805, 1382, 1390, 1400, 1409, 830, 842, 850, 813, 935, 942, 874, 881, 864, 869, 820, 825, 988, 888, 903, 859, 893, 898, 908, 913, 918, 923, 929, 719, 719, 719, 719]
abbrev fxWs : List Nat := [487, 489, 490, 491, 493, 495, 496, 498, 499, 500, 502, 503, 505, 506, 507, 508, 510, 512, 514, 516, 517, 519, 521, 522, 523, 525, 526, 527, 529, 530, 531, 533, 535, 537, 538]
abbrev fxWi : List Nat := [993, 1001, 1012, 1021, 1030, 1037, 1046, 1058, 1068, 1079, 1088, 1097, 1105, 1114, 1122, 1131, 1140, 1151, 1161, 1168, 1177, 1186, 1196, 1205, 1212, 1221, 1229, 1238, 1251, 1260, 1270, 1278, 1286, 1293, 1301]
abbrev fxMs : List Nat := [53, 64, 155, 158, 160, 166, 172, 181, 211, 223]
abbrev fxMi : List Nat := [424, 454, 522, 488, 593, 546, 568, 627, 658, 682]
abbrev fSt (i : Nat) : Term := .static clSign (sgN.getD i "") "LGlacierCamp$Sign;"
theorem na_ex : ∀ i, i < 54 → NA[fxEx.getD i 0]? = some (.exactly (fSt i) clSign) := by decide +kernel
theorem na_or : ∀ i, i < 54 → NA[fxOr.getD i 0]? = some (.eq (.field (fSt i) "java/lang/Enum" "ordinal" "I") (.int (sgO.getD i 0))) := by decide +kernel
theorem na_tk : ∀ i, i < 54 → NA[fxTk.getD i 0]? = some (.eq (.field (fSt i) clSign "takes" "I") (.int (sgT.getD i 0))) := by decide +kernel
theorem na_tx : ∀ i, i < 54 → NA[fxTx.getD i 0]? = some (.eq (.field (fSt i) clSign "text" "Ljava/lang/String;") (.string clSign (fxTs.getD i 0))) := by decide +kernel
theorem na_sa : ∀ j, j < 54 → NA[19 + j]? = some (.eq (.elem (.static "GlacierCamp$Tokens" "SIGNS" "[LGlacierCamp$Sign;") (.int (Int32.ofNat j))) (fSt j)) := by decide +kernel
theorem na_sw : ∀ j, j < 54 → NA[85 + j]? = some (.eq (.elem (.static "GlacierCamp$1" "$SwitchMap$GlacierCamp$Sign" "[I") (.int (Int32.ofNat j))) (.int (swf j))) := by decide +kernel
theorem na_wd : ∀ j, j < 35 → NA[300 + j]? = some (.eq (.elem (.static "GlacierCampModel" "WORDS" "[Ljava/lang/String;") (.int (Int32.ofNat j))) (.string "GlacierCampModel" (fxWs.getD j 0))) := by decide +kernel
theorem na_ms : ∀ j, j < 10 → NA[fxMi.getD j 0]? = some (.exactly (.string "GlacierCamp" (fxMs.getD j 0)) "java/lang/String") := by decide +kernel
abbrev fVa (own : String) (k : Nat) : Term := .field (.string own k) "java/lang/String" "value" "[B"
/-- a constant string's atoms from the place i -/
abbrev naS (own : String) (k i : Nat) (l : List Int32) : Prop := l.length ≤ 20 ∧ NA[i]? = some (.exactly (.string own k) "java/lang/String") ∧ NA[i + 1]? = some (.eq (.field (.string own k) "java/lang/String" "coder" "B") (.int 0)) ∧ NA[i + 2]? = some (.arrayOf (fVa own k) .byte) ∧ NA[i + 3]? = some (.eq (.length (fVa own k)) (.int (Int32.ofNat l.length))) ∧ ∀ j, j < l.length → NA[i + 4 + j]? = some (.eq (.elem (fVa own k) (.int (Int32.ofNat j))) (.int (l.getD j 0)))
theorem na_ts : ∀ i, i < 54 → naS clSign (fxTs.getD i 0) (fxTi.getD i 0) (sgX i) := by decide +kernel
theorem na_ws : ∀ i, i < 35 → naS "GlacierCampModel" (fxWs.getD i 0) (fxWi.getD i 0) (wdX i) := by decide +kernel
theorem na_sn : naS "GlacierCampModel" 65 702 snX := by decide +kernel
theorem na_n16 : NA[16]? = some (.arrayOf (.static "GlacierCamp$Tokens" "SIGNS" "[LGlacierCamp$Sign;") (.object "GlacierCamp$Sign")) := by decide +kernel
theorem na_n17 : NA[17]? = some (.eq (.length (.static "GlacierCamp$Tokens" "SIGNS" "[LGlacierCamp$Sign;")) (.int 54)) := by decide +kernel
theorem na_n73 : NA[73]? = some (.eq (.static "java/lang/String" "COMPACT_STRINGS" "Z") (.int 1)) := by decide +kernel
theorem na_n74 : NA[74]? = some (.isRef (.static "jdk/internal/util/Preconditions" "SIOOBE_FORMATTER" "Ljava/util/function/BiFunction;")) := by decide +kernel
theorem na_n83 : NA[83]? = some (.arrayOf (.static "GlacierCamp$1" "$SwitchMap$GlacierCamp$Sign" "[I") .int) := by decide +kernel
theorem na_n84 : NA[84]? = some (.eq (.length (.static "GlacierCamp$1" "$SwitchMap$GlacierCamp$Sign" "[I")) (.int 54)) := by decide +kernel
theorem na_n295 : NA[295]? = some (.isRef (.static Bundle.tN "UNASSIGNED_STACK" Bundle.steD)) := by decide +kernel
theorem na_n296 : NA[296]? = some (.isRef (.static Bundle.tN "SUPPRESSED_SENTINEL" Bundle.listD)) := by decide +kernel
theorem na_n298 : NA[298]? = some (.arrayOf (.static "GlacierCampModel" "WORDS" "[Ljava/lang/String;") (.object "java/lang/String")) := by decide +kernel
theorem na_n299 : NA[299]? = some (.eq (.length (.static "GlacierCampModel" "WORDS" "[Ljava/lang/String;")) (.int 35)) := by decide +kernel
theorem na_n420 : NA[420]? = some (.not (.castable xIS xIO)) := by decide +kernel
theorem na_n421 : NA[421]? = some (.not (.castable xIA xIO)) := by decide +kernel
theorem na_n405 : NA[405]? = some (.not (.castable xIS xIA)) := by decide +kernel
theorem na_n408 : NA[408]? = some (.not (.castable xIO xIA)) := by decide +kernel
