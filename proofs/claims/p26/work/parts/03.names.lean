/-! classes, methods and the words of the tables, written by wip/p26/gen/gen_names.py out of the task's own papers -/
def R_Formulas : String := "GlacierCamp$Formulas"
def T_Formulas : u_T := fun k => match k with
  | 0 => ("GlacierCamp$Formulas", "signs", "[LGlacierCamp$Sign;", true)
  | 1 => ("GlacierCamp$Formulas", "operands", "[I", true)
  | 2 => ("GlacierCamp$Formulas", "stack", "[I", true)
  | 3 => ("GlacierCamp$Formulas", "size", "I", false)
  | _ => ("GlacierCamp$Formulas", "top", "I", false)
def ty_Formulas : Nat → FieldType := fun k => match k with
  | 0 => (.array (.object "GlacierCamp$Sign"))
  | 1 => (.array .int)
  | 2 => (.array .int)
  | 3 => .int
  | _ => .int
theorem nm_Formulas : ∀ a, a < 5 → ∀ b, b < 5 → a ≠ b → (T_Formulas a).2.1 ≠ (T_Formulas b).2.1 := by decide +kernel
theorem ty_Formulas_ok : ∀ k, k < 5 → parseFieldDescriptor (T_Formulas k).2.2.1 = some (ty_Formulas k) := by decide +kernel
def R_Glacier : String := "GlacierCamp$Glacier"
def T_Glacier : u_T := fun k => match k with
  | 0 => ("GlacierCamp$Glacier", "bands", "LGlacierCamp$Table;", true)
  | 1 => ("GlacierCamp$Glacier", "stakes", "LGlacierCamp$Table;", true)
  | 2 => ("GlacierCamp$Glacier", "crevasses", "LGlacierCamp$Table;", true)
  | 3 => ("GlacierCamp$Glacier", "depots", "LGlacierCamp$Table;", true)
  | 4 => ("GlacierCamp$Glacier", "teams", "LGlacierCamp$Table;", true)
  | 5 => ("GlacierCamp$Glacier", "warmths", "[I", true)
  | 6 => ("GlacierCamp$Glacier", "day", "I", false)
  | _ => ("GlacierCamp$Glacier", "carriedOut", "I", false)
def ty_Glacier : Nat → FieldType := fun k => match k with
  | 0 => (.object "GlacierCamp$Table")
  | 1 => (.object "GlacierCamp$Table")
  | 2 => (.object "GlacierCamp$Table")
  | 3 => (.object "GlacierCamp$Table")
  | 4 => (.object "GlacierCamp$Table")
  | 5 => (.array .int)
  | 6 => .int
  | _ => .int
theorem nm_Glacier : ∀ a, a < 8 → ∀ b, b < 8 → a ≠ b → (T_Glacier a).2.1 ≠ (T_Glacier b).2.1 := by decide +kernel
theorem ty_Glacier_ok : ∀ k, k < 8 → parseFieldDescriptor (T_Glacier k).2.2.1 = some (ty_Glacier k) := by decide +kernel
def R_Names : String := "GlacierCamp$Names"
def T_Names : u_T := fun k => match k with
  | 0 => ("GlacierCamp$Names", "names", "[J", true)
  | _ => ("GlacierCamp$Names", "size", "I", false)
def ty_Names : Nat → FieldType := fun k => match k with
  | 0 => (.array .long)
  | _ => .int
theorem nm_Names : ∀ a, a < 2 → ∀ b, b < 2 → a ≠ b → (T_Names a).2.1 ≠ (T_Names b).2.1 := by decide +kernel
theorem ty_Names_ok : ∀ k, k < 2 → parseFieldDescriptor (T_Names k).2.2.1 = some (ty_Names k) := by decide +kernel
def R_Orders : String := "GlacierCamp$Orders"
def T_Orders : u_T := fun k => match k with
  | 0 => ("GlacierCamp$Orders", "table", "LGlacierCamp$Table;", true)
  | _ => ("GlacierCamp$Orders", "formulas", "LGlacierCamp$Formulas;", true)
def ty_Orders : Nat → FieldType := fun k => match k with
  | 0 => (.object "GlacierCamp$Table")
  | _ => (.object "GlacierCamp$Formulas")
theorem nm_Orders : ∀ a, a < 2 → ∀ b, b < 2 → a ≠ b → (T_Orders a).2.1 ≠ (T_Orders b).2.1 := by decide +kernel
theorem ty_Orders_ok : ∀ k, k < 2 → parseFieldDescriptor (T_Orders k).2.2.1 = some (ty_Orders k) := by decide +kernel
def R_Table : String := "GlacierCamp$Table"
def T_Table : u_T := fun k => match k with
  | 0 => ("GlacierCamp$Table", "cells", "[I", true)
  | _ => ("GlacierCamp$Table", "rows", "I", false)
def ty_Table : Nat → FieldType := fun k => match k with
  | 0 => (.array .int)
  | _ => .int
theorem nm_Table : ∀ a, a < 2 → ∀ b, b < 2 → a ≠ b → (T_Table a).2.1 ≠ (T_Table b).2.1 := by decide +kernel
theorem ty_Table_ok : ∀ k, k < 2 → parseFieldDescriptor (T_Table k).2.2.1 = some (ty_Table k) := by decide +kernel
def R_Tape : String := "GlacierCamp$Tape"
def T_Tape : u_T := fun k => match k with
  | 0 => ("GlacierCamp$Tape", "bytes", "[B", true)
  | _ => ("GlacierCamp$Tape", "size", "I", false)
def ty_Tape : Nat → FieldType := fun k => match k with
  | 0 => (.array .byte)
  | _ => .int
theorem nm_Tape : ∀ a, a < 2 → ∀ b, b < 2 → a ≠ b → (T_Tape a).2.1 ≠ (T_Tape b).2.1 := by decide +kernel
theorem ty_Tape_ok : ∀ k, k < 2 → parseFieldDescriptor (T_Tape k).2.2.1 = some (ty_Tape k) := by decide +kernel
def R_Teacher : String := "GlacierCamp$Teacher"
def T_Teacher : u_T := fun k => match k with
  | 0 => ("GlacierCamp$Teacher", "tokens", "LGlacierCamp$Tokens;", true)
  | 1 => ("GlacierCamp$Teacher", "glacier", "LGlacierCamp$Glacier;", true)
  | 2 => ("GlacierCamp$Teacher", "orders", "LGlacierCamp$Orders;", true)
  | 3 => ("GlacierCamp$Teacher", "formulas", "LGlacierCamp$Formulas;", true)
  | 4 => ("GlacierCamp$Teacher", "bands", "LGlacierCamp$Names;", true)
  | 5 => ("GlacierCamp$Teacher", "stakes", "LGlacierCamp$Names;", true)
  | 6 => ("GlacierCamp$Teacher", "crevasses", "LGlacierCamp$Names;", true)
  | 7 => ("GlacierCamp$Teacher", "depots", "LGlacierCamp$Names;", true)
  | 8 => ("GlacierCamp$Teacher", "teams", "LGlacierCamp$Names;", true)
  | 9 => ("GlacierCamp$Teacher", "error", "I", false)
  | _ => ("GlacierCamp$Teacher", "errorPosition", "I", false)
def ty_Teacher : Nat → FieldType := fun k => match k with
  | 0 => (.object "GlacierCamp$Tokens")
  | 1 => (.object "GlacierCamp$Glacier")
  | 2 => (.object "GlacierCamp$Orders")
  | 3 => (.object "GlacierCamp$Formulas")
  | 4 => (.object "GlacierCamp$Names")
  | 5 => (.object "GlacierCamp$Names")
  | 6 => (.object "GlacierCamp$Names")
  | 7 => (.object "GlacierCamp$Names")
  | 8 => (.object "GlacierCamp$Names")
  | 9 => .int
  | _ => .int
theorem nm_Teacher : ∀ a, a < 11 → ∀ b, b < 11 → a ≠ b → (T_Teacher a).2.1 ≠ (T_Teacher b).2.1 := by decide +kernel
theorem ty_Teacher_ok : ∀ k, k < 11 → parseFieldDescriptor (T_Teacher k).2.2.1 = some (ty_Teacher k) := by decide +kernel
def R_Tokens : String := "GlacierCamp$Tokens"
def T_Tokens : u_T := fun k => match k with
  | 0 => ("GlacierCamp$Tokens", "signs", "[LGlacierCamp$Sign;", true)
  | 1 => ("GlacierCamp$Tokens", "starts", "[I", true)
  | 2 => ("GlacierCamp$Tokens", "worths", "[J", true)
  | 3 => ("GlacierCamp$Tokens", "size", "I", false)
  | 4 => ("GlacierCamp$Tokens", "at", "I", false)
  | 5 => ("GlacierCamp$Tokens", "sign", "LGlacierCamp$Sign;", false)
  | 6 => ("GlacierCamp$Tokens", "start", "I", false)
  | 7 => ("GlacierCamp$Tokens", "worth", "J", false)
  | _ => ("GlacierCamp$Tokens", "brokenAt", "I", false)
def ty_Tokens : Nat → FieldType := fun k => match k with
  | 0 => (.array (.object "GlacierCamp$Sign"))
  | 1 => (.array .int)
  | 2 => (.array .long)
  | 3 => .int
  | 4 => .int
  | 5 => (.object "GlacierCamp$Sign")
  | 6 => .int
  | 7 => .long
  | _ => .int
theorem nm_Tokens : ∀ a, a < 9 → ∀ b, b < 9 → a ≠ b → (T_Tokens a).2.1 ≠ (T_Tokens b).2.1 := by decide +kernel
theorem ty_Tokens_ok : ∀ k, k < 9 → parseFieldDescriptor (T_Tokens k).2.2.1 = some (ty_Tokens k) := by decide +kernel
def R_Camp : String := "GlacierCamp"
def T_Camp : u_T := fun k => match k with
  | 0 => ("GlacierCamp", "tape", "LGlacierCamp$Tape;", true)
  | 1 => ("GlacierCamp", "tokens", "LGlacierCamp$Tokens;", true)
  | 2 => ("GlacierCamp", "now", "LGlacierCamp$Glacier;", false)
  | 3 => ("GlacierCamp", "later", "LGlacierCamp$Glacier;", false)
  | 4 => ("GlacierCamp", "told", "LGlacierCamp$Orders;", false)
  | 5 => ("GlacierCamp", "draft", "LGlacierCamp$Orders;", false)
  | _ => ("GlacierCamp", "errorPosition", "I", false)
def ty_Camp : Nat → FieldType := fun k => match k with
  | 0 => (.object "GlacierCamp$Tape")
  | 1 => (.object "GlacierCamp$Tokens")
  | 2 => (.object "GlacierCamp$Glacier")
  | 3 => (.object "GlacierCamp$Glacier")
  | 4 => (.object "GlacierCamp$Orders")
  | 5 => (.object "GlacierCamp$Orders")
  | _ => .int
theorem nm_Camp : ∀ a, a < 7 → ∀ b, b < 7 → a ≠ b → (T_Camp a).2.1 ≠ (T_Camp b).2.1 := by decide +kernel
theorem ty_Camp_ok : ∀ k, k < 7 → parseFieldDescriptor (T_Camp k).2.2.1 = some (ty_Camp k) := by decide +kernel
def R_Sim : String := "GlacierCampLaw$Sim"
def T_Sim : u_T := fun k => match k with
  | 0 => ("GlacierCampLaw$Sim", "day", "I", false)
  | 1 => ("GlacierCampLaw$Sim", "read", "I", false)
  | 2 => ("GlacierCampLaw$Sim", "fell", "I", false)
  | 3 => ("GlacierCampLaw$Sim", "carried", "I", false)
  | 4 => ("GlacierCampLaw$Sim", "warm", "[I", false)
  | 5 => ("GlacierCampLaw$Sim", "bands", "[[I", false)
  | 6 => ("GlacierCampLaw$Sim", "stakes", "[[I", false)
  | 7 => ("GlacierCampLaw$Sim", "crevasses", "[[I", false)
  | 8 => ("GlacierCampLaw$Sim", "depots", "[[I", false)
  | 9 => ("GlacierCampLaw$Sim", "teams", "[[I", false)
  | _ => ("GlacierCampLaw$Sim", "orders", "[[I", false)
def ty_Sim : Nat → FieldType := fun k => match k with
  | 0 => .int
  | 1 => .int
  | 2 => .int
  | 3 => .int
  | 4 => (.array .int)
  | 5 => (.array (.array .int))
  | 6 => (.array (.array .int))
  | 7 => (.array (.array .int))
  | 8 => (.array (.array .int))
  | 9 => (.array (.array .int))
  | _ => (.array (.array .int))
theorem nm_Sim : ∀ a, a < 11 → ∀ b, b < 11 → a ≠ b → (T_Sim a).2.1 ≠ (T_Sim b).2.1 := by decide +kernel
theorem ty_Sim_ok : ∀ k, k < 11 → parseFieldDescriptor (T_Sim k).2.2.1 = some (ty_Sim k) := by decide +kernel
def R_StringBuilder : String := "java/lang/StringBuilder"
def T_StringBuilder : u_T := fun k => match k with
  | 0 => ("java/lang/AbstractStringBuilder", "value", "[B", false)
  | 1 => ("java/lang/AbstractStringBuilder", "coder", "B", false)
  | 2 => ("java/lang/AbstractStringBuilder", "maybeLatin1", "Z", false)
  | _ => ("java/lang/AbstractStringBuilder", "count", "I", false)
def ty_StringBuilder : Nat → FieldType := fun k => match k with
  | 0 => (.array .byte)
  | 1 => .byte
  | 2 => .boolean
  | _ => .int
theorem nm_StringBuilder : ∀ a, a < 4 → ∀ b, b < 4 → a ≠ b → (T_StringBuilder a).2.1 ≠ (T_StringBuilder b).2.1 := by decide +kernel
theorem ty_StringBuilder_ok : ∀ k, k < 4 → parseFieldDescriptor (T_StringBuilder k).2.2.1 = some (ty_StringBuilder k) := by decide +kernel
def R_String : String := "java/lang/String"
def T_String : u_T := fun k => match k with
  | 0 => ("java/lang/String", "value", "[B", true)
  | 1 => ("java/lang/String", "coder", "B", true)
  | 2 => ("java/lang/String", "hash", "I", false)
  | _ => ("java/lang/String", "hashIsZero", "Z", false)
def ty_String : Nat → FieldType := fun k => match k with
  | 0 => (.array .byte)
  | 1 => .byte
  | 2 => .int
  | _ => .boolean
theorem nm_String : ∀ a, a < 4 → ∀ b, b < 4 → a ≠ b → (T_String a).2.1 ≠ (T_String b).2.1 := by decide +kernel
theorem ty_String_ok : ∀ k, k < 4 → parseFieldDescriptor (T_String k).2.2.1 = some (ty_String k) := by decide +kernel
abbrev ci_Formulas : Nat := 0
abbrev ci_Glacier : Nat := 1
abbrev ci_Names : Nat := 2
abbrev ci_Orders : Nat := 3
abbrev ci_Table : Nat := 4
abbrev ci_Tape : Nat := 5
abbrev ci_Teacher : Nat := 6
abbrev ci_Tokens : Nat := 7
abbrev ci_Camp : Nat := 8
abbrev ci_Sim : Nat := 9
abbrev ci_StringBuilder : Nat := 10
abbrev ci_String : Nat := 11
abbrev vwCl : List vw_C := [(R_Formulas, T_Formulas, 5), (R_Glacier, T_Glacier, 8), (R_Names, T_Names, 2), (R_Orders, T_Orders, 2), (R_Table, T_Table, 2), (R_Tape, T_Tape, 2), (R_Teacher, T_Teacher, 11), (R_Tokens, T_Tokens, 9), (R_Camp, T_Camp, 7), (R_Sim, T_Sim, 11), (R_StringBuilder, T_StringBuilder, 4), (R_String, T_String, 4)]
def gw : List Cond := lw_tbl.filter goodWord
def nwOk : Cond → Bool
  | .fieldLinkNest .. => true
  | .methodLinkNest .. => true
  | .castable .. => true
  | .declares _ => true
  | _ => false
def nw : List Cond := tables_1.filter nwOk
theorem gm_t {w : Cond} (h : w ∈ tables_1) (g : goodWord w = true) : w ∈ gw := List.mem_filter.mpr ⟨List.mem_append_right _ h, g⟩
theorem gt_1 {w : Cond} (h : w ∈ tables_1_1) : w ∈ tables_1 := List.mem_append_left _ h
theorem gm_1 {w : Cond} (h : w ∈ tables_1_1) (g : goodWord w = true) : w ∈ gw := gm_t (gt_1 h) g
theorem gn_1 {w : Cond} (h : w ∈ tables_1_1) (g : nwOk w = true) : w ∈ nw := List.mem_filter.mpr ⟨gt_1 h, g⟩
theorem gt_2 {w : Cond} (h : w ∈ tables_1_2) : w ∈ tables_1 := List.mem_append_right _ (List.mem_append_left _ h)
theorem gm_2 {w : Cond} (h : w ∈ tables_1_2) (g : goodWord w = true) : w ∈ gw := gm_t (gt_2 h) g
theorem gn_2 {w : Cond} (h : w ∈ tables_1_2) (g : nwOk w = true) : w ∈ nw := List.mem_filter.mpr ⟨gt_2 h, g⟩
theorem gt_3 {w : Cond} (h : w ∈ tables_1_3) : w ∈ tables_1 := List.mem_append_right _ (List.mem_append_right _ (List.mem_append_left _ h))
theorem gm_3 {w : Cond} (h : w ∈ tables_1_3) (g : goodWord w = true) : w ∈ gw := gm_t (gt_3 h) g
theorem gn_3 {w : Cond} (h : w ∈ tables_1_3) (g : nwOk w = true) : w ∈ nw := List.mem_filter.mpr ⟨gt_3 h, g⟩
theorem gt_4 {w : Cond} (h : w ∈ tables_1_4) : w ∈ tables_1 := List.mem_append_right _ (List.mem_append_right _ (List.mem_append_right _ (List.mem_append_left _ h)))
theorem gm_4 {w : Cond} (h : w ∈ tables_1_4) (g : goodWord w = true) : w ∈ gw := gm_t (gt_4 h) g
theorem gn_4 {w : Cond} (h : w ∈ tables_1_4) (g : nwOk w = true) : w ∈ nw := List.mem_filter.mpr ⟨gt_4 h, g⟩
theorem gt_5 {w : Cond} (h : w ∈ tables_1_5) : w ∈ tables_1 := List.mem_append_right _ (List.mem_append_right _ (List.mem_append_right _ (List.mem_append_right _ (List.mem_append_left _ h))))
theorem gm_5 {w : Cond} (h : w ∈ tables_1_5) (g : goodWord w = true) : w ∈ gw := gm_t (gt_5 h) g
theorem gn_5 {w : Cond} (h : w ∈ tables_1_5) (g : nwOk w = true) : w ∈ nw := List.mem_filter.mpr ⟨gt_5 h, g⟩
theorem gt_6 {w : Cond} (h : w ∈ tables_1_6) : w ∈ tables_1 := List.mem_append_right _ (List.mem_append_right _ (List.mem_append_right _ (List.mem_append_right _ (List.mem_append_right _ (List.mem_append_left _ h)))))
theorem gm_6 {w : Cond} (h : w ∈ tables_1_6) (g : goodWord w = true) : w ∈ gw := gm_t (gt_6 h) g
theorem gn_6 {w : Cond} (h : w ∈ tables_1_6) (g : nwOk w = true) : w ∈ nw := List.mem_filter.mpr ⟨gt_6 h, g⟩
theorem gt_7 {w : Cond} (h : w ∈ tables_1_7) : w ∈ tables_1 := List.mem_append_right _ (List.mem_append_right _ (List.mem_append_right _ (List.mem_append_right _ (List.mem_append_right _ (List.mem_append_right _ (h))))))
theorem gm_7 {w : Cond} (h : w ∈ tables_1_7) (g : goodWord w = true) : w ∈ gw := gm_t (gt_7 h) g
theorem gn_7 {w : Cond} (h : w ∈ tables_1_7) (g : nwOk w = true) : w ∈ nw := List.mem_filter.mpr ⟨gt_7 h, g⟩
theorem gp_t {q : MethodName × Nat} (h : q ∈ lw_privs) : Cond.selects q.1.cls q.1 q.1 ∈ gw := List.mem_filter.mpr ⟨List.mem_append_left _ (List.mem_map.mpr ⟨q, h, rfl⟩), rfl⟩
theorem gp_1 {q : MethodName × Nat} (h : q ∈ lw_privs_1) : Cond.selects q.1.cls q.1 q.1 ∈ gw := gp_t (List.mem_append_left _ h)
theorem gp_2 {q : MethodName × Nat} (h : q ∈ lw_privs_2) : Cond.selects q.1.cls q.1 q.1 ∈ gw := gp_t (List.mem_append_right _ (List.mem_append_left _ h))
theorem gp_3 {q : MethodName × Nat} (h : q ∈ lw_privs_3) : Cond.selects q.1.cls q.1 q.1 ∈ gw := gp_t (List.mem_append_right _ (List.mem_append_right _ (h)))
abbrev MI : Type := MethodName × ByteArray × Nat × Option FieldType × List (Nat × Nat × Nat × Nat)
def mi_w (M : MI) : Cond := match M.2.2.2.2 with
  | [] => .code M.1 M.2.1 M.2.2.1 M.2.2.2.1
  | x :: t => .codeWith M.1 M.2.1 M.2.2.1 M.2.2.2.1 (x :: t)
def OkI (M : MI) (n : Nat) : Prop := mi_w M ∈ gw ∧ Cond.initialized M.1.cls ∈ gw ∧ M.1.cls ≠ "java/lang/invoke/MethodHandle" ∧ M.1.cls ≠ "java/lang/invoke/VarHandle" ∧ (parseMethodDescriptor M.1.desc).map (fun d => d.parameters.length) = some n
def OkV (M : MI) (n : Nat) : Prop := OkI M n ∧ M.2.2.2.2 = [] ∧ Cond.instanceMethod M.1 ∈ gw ∧ Cond.selects M.1.cls M.1 M.1 ∈ gw
def OkS (M : MI) (n : Nat) : Prop := OkI M n ∧ Cond.static M.1 ∈ gw
def OkN (M : MI) (n : Nat) : Prop := OkI M n ∧ M.2.2.2.2 = [] ∧ M.2.2.2.1 = none ∧ M.1.name = "<init>" ∧ Cond.instanceMethod M.1 ∈ gw
abbrev M_Camp_init : MI := (⟨"GlacierCamp", "<init>", "()V"⟩, prog_1_method_1_code, 1, (Option.none : Option Jvm.ClassFile.FieldType), [])
abbrev M_Camp_band : MI := (⟨"GlacierCamp", "band", "(II)I"⟩, prog_1_method_9_code, 3, (Option.some Jvm.ClassFile.FieldType.int), [])
abbrev M_Camp_count : MI := (⟨"GlacierCamp", "count", "(I)I"⟩, prog_1_method_7_code, 2, (Option.some Jvm.ClassFile.FieldType.int), [])
abbrev M_Camp_counted : MI := (⟨"GlacierCamp", "counted", "(I)I"⟩, prog_1_method_8_code, 2, (Option.some Jvm.ClassFile.FieldType.int), [])
abbrev M_Camp_crevasse : MI := (⟨"GlacierCamp", "crevasse", "(II)I"⟩, prog_1_method_11_code, 3, (Option.some Jvm.ClassFile.FieldType.int), [])
abbrev M_Camp_depot : MI := (⟨"GlacierCamp", "depot", "(II)I"⟩, prog_1_method_12_code, 3, (Option.some Jvm.ClassFile.FieldType.int), [])
abbrev M_Camp_digest : MI := (⟨"GlacierCamp", "digest", "()J"⟩, prog_1_method_29_code, 5, (Option.some Jvm.ClassFile.FieldType.long), [])
abbrev M_Camp_digestOf : MI := (⟨"GlacierCamp", "digestOf", "(LGlacierCamp$Table;IJ)J"⟩, prog_1_method_30_code, 8, (Option.some Jvm.ClassFile.FieldType.long), [])
abbrev M_Camp_feed : MI := (⟨"GlacierCamp", "feed", "(IIIII)I"⟩, prog_1_method_2_code, 6, (Option.some Jvm.ClassFile.FieldType.int), [])
abbrev M_Camp_fill : MI := (⟨"GlacierCamp", "fill", "(II)I"⟩, prog_1_method_19_code, 4, (Option.some Jvm.ClassFile.FieldType.int), [])
abbrev M_Camp_foresee : MI := (⟨"GlacierCamp", "foresee", "(II)I"⟩, prog_1_method_25_code, 4, (Option.some Jvm.ClassFile.FieldType.int), [])
abbrev M_Camp_go : MI := (⟨"GlacierCamp", "go", "(IZ)I"⟩, prog_1_method_17_code, 3, (Option.some Jvm.ClassFile.FieldType.int), [])
abbrev M_Camp_mean : MI := (⟨"GlacierCamp", "mean", "()D"⟩, prog_1_method_28_code, 2, (Option.some Jvm.ClassFile.FieldType.double), [])
abbrev M_Camp_melt : MI := (⟨"GlacierCamp", "melt", "(II)I"⟩, prog_1_method_23_code, 6, (Option.some Jvm.ClassFile.FieldType.int), [])
abbrev M_Camp_needRange : MI := (⟨"GlacierCamp", "needRange", "(III)V"⟩, prog_1_method_16_code, 3, (Option.none : Option Jvm.ClassFile.FieldType), [])
abbrev M_Camp_needRow : MI := (⟨"GlacierCamp", "needRow", "(LGlacierCamp$Table;I)V"⟩, prog_1_method_14_code, 2, (Option.none : Option Jvm.ClassFile.FieldType), [])
abbrev M_Camp_needWhat : MI := (⟨"GlacierCamp", "needWhat", "(II)V"⟩, prog_1_method_15_code, 2, (Option.none : Option Jvm.ClassFile.FieldType), [])
abbrev M_Camp_pass : MI := (⟨"GlacierCamp", "pass", "(I)I"⟩, prog_1_method_22_code, 4, (Option.some Jvm.ClassFile.FieldType.int), [])
abbrev M_Camp_probe : MI := (⟨"GlacierCamp", "probe", "(II)I"⟩, prog_1_method_18_code, 3, (Option.some Jvm.ClassFile.FieldType.int), [])
abbrev M_Camp_safe : MI := (⟨"GlacierCamp", "safe", "(IZ)Z"⟩, prog_1_method_26_code, 3, (Option.some Jvm.ClassFile.FieldType.boolean), [])
abbrev M_Camp_setWarm : MI := (⟨"GlacierCamp", "setWarm", "(II)I"⟩, prog_1_method_21_code, 4, (Option.some Jvm.ClassFile.FieldType.int), [])
abbrev M_Camp_stake : MI := (⟨"GlacierCamp", "stake", "(II)I"⟩, prog_1_method_10_code, 3, (Option.some Jvm.ClassFile.FieldType.int), [])
abbrev M_Camp_stock : MI := (⟨"GlacierCamp", "stock", "(II)I"⟩, prog_1_method_20_code, 4, (Option.some Jvm.ClassFile.FieldType.int), [])
abbrev M_Camp_takeOverDraft : MI := (⟨"GlacierCamp", "takeOverDraft", "()V"⟩, prog_1_method_5_code, 3, (Option.none : Option Jvm.ClassFile.FieldType), [])
abbrev M_Camp_teach : MI := (⟨"GlacierCamp", "teach", "()I"⟩, prog_1_method_4_code, 2, (Option.some Jvm.ClassFile.FieldType.int), [])
abbrev M_Camp_team : MI := (⟨"GlacierCamp", "team", "(II)I"⟩, prog_1_method_13_code, 3, (Option.some Jvm.ClassFile.FieldType.int), [])
abbrev M_Camp_trim : MI := (⟨"GlacierCamp", "trim", "(I)I"⟩, prog_1_method_3_code, 2, (Option.some Jvm.ClassFile.FieldType.int), [])
abbrev M_Camp_until : MI := (⟨"GlacierCamp", "until", "(I)I"⟩, prog_1_method_24_code, 3, (Option.some Jvm.ClassFile.FieldType.int), [])
abbrev M_Formulas_init : MI := (⟨"GlacierCamp$Formulas", "<init>", "()V"⟩, prog_3_method_1_code, 1, (Option.none : Option Jvm.ClassFile.FieldType), [])
abbrev M_Formulas_clear : MI := (⟨"GlacierCamp$Formulas", "clear", "()V"⟩, prog_3_method_3_code, 1, (Option.none : Option Jvm.ClassFile.FieldType), [])
abbrev M_Formulas_joined : MI := (⟨"GlacierCamp$Formulas", "joined", "(LGlacierCamp$Sign;II)I"⟩, prog_3_method_8_code, 3, (Option.some Jvm.ClassFile.FieldType.int), [])
abbrev M_Formulas_pop : MI := (⟨"GlacierCamp$Formulas", "pop", "()I"⟩, prog_3_method_7_code, 1, (Option.some Jvm.ClassFile.FieldType.int), [])
abbrev M_Formulas_push : MI := (⟨"GlacierCamp$Formulas", "push", "(I)V"⟩, prog_3_method_6_code, 2, (Option.none : Option Jvm.ClassFile.FieldType), [])
abbrev M_Formulas_put : MI := (⟨"GlacierCamp$Formulas", "put", "(LGlacierCamp$Sign;I)V"⟩, prog_3_method_4_code, 3, (Option.none : Option Jvm.ClassFile.FieldType), [])
abbrev M_Formulas_size : MI := (⟨"GlacierCamp$Formulas", "size", "()I"⟩, prog_3_method_2_code, 1, (Option.some Jvm.ClassFile.FieldType.int), [])
abbrev M_Formulas_worth : MI := (⟨"GlacierCamp$Formulas", "worth", "(IILGlacierCamp$Glacier;)I"⟩, prog_3_method_5_code, 7, (Option.some Jvm.ClassFile.FieldType.int), [])
abbrev M_Glacier_init : MI := (⟨"GlacierCamp$Glacier", "<init>", "()V"⟩, prog_4_method_1_code, 1, (Option.none : Option Jvm.ClassFile.FieldType), [])
abbrev M_Glacier_addBand : MI := (⟨"GlacierCamp$Glacier", "addBand", "(II)V"⟩, prog_4_method_4_code, 4, (Option.none : Option Jvm.ClassFile.FieldType), [])
abbrev M_Glacier_addCrevasse : MI := (⟨"GlacierCamp$Glacier", "addCrevasse", "(II)V"⟩, prog_4_method_6_code, 4, (Option.none : Option Jvm.ClassFile.FieldType), [])
abbrev M_Glacier_addDepot : MI := (⟨"GlacierCamp$Glacier", "addDepot", "(II)V"⟩, prog_4_method_7_code, 4, (Option.none : Option Jvm.ClassFile.FieldType), [])
abbrev M_Glacier_addStake : MI := (⟨"GlacierCamp$Glacier", "addStake", "(II)V"⟩, prog_4_method_5_code, 4, (Option.none : Option Jvm.ClassFile.FieldType), [])
abbrev M_Glacier_addTeam : MI := (⟨"GlacierCamp$Glacier", "addTeam", "(III)V"⟩, prog_4_method_8_code, 5, (Option.none : Option Jvm.ClassFile.FieldType), [])
abbrev M_Glacier_bandFact : MI := (⟨"GlacierCamp$Glacier", "bandFact", "(II)I"⟩, prog_4_method_14_code, 3, (Option.some Jvm.ClassFile.FieldType.int), [])
abbrev M_Glacier_become : MI := (⟨"GlacierCamp$Glacier", "become", "(LGlacierCamp$Glacier;)V"⟩, prog_4_method_3_code, 3, (Option.none : Option Jvm.ClassFile.FieldType), [])
abbrev M_Glacier_beginAnew : MI := (⟨"GlacierCamp$Glacier", "beginAnew", "(I)V"⟩, prog_4_method_2_code, 3, (Option.none : Option Jvm.ClassFile.FieldType), [])
abbrev M_Glacier_canDo : MI := (⟨"GlacierCamp$Glacier", "canDo", "(I)Z"⟩, prog_4_method_18_code, 2, (Option.some Jvm.ClassFile.FieldType.boolean), [])
abbrev M_Glacier_canGo : MI := (⟨"GlacierCamp$Glacier", "canGo", "(IZ)Z"⟩, prog_4_method_19_code, 5, (Option.some Jvm.ClassFile.FieldType.boolean), [])
abbrev M_Glacier_changeWarmth : MI := (⟨"GlacierCamp$Glacier", "changeWarmth", "(II)V"⟩, prog_4_method_12_code, 3, (Option.none : Option Jvm.ClassFile.FieldType), [])
abbrev M_Glacier_crevasseFact : MI := (⟨"GlacierCamp$Glacier", "crevasseFact", "(II)I"⟩, prog_4_method_15_code, 4, (Option.some Jvm.ClassFile.FieldType.int), [])
abbrev M_Glacier_day : MI := (⟨"GlacierCamp$Glacier", "day", "()I"⟩, prog_4_method_9_code, 1, (Option.some Jvm.ClassFile.FieldType.int), [])
abbrev M_Glacier_eat : MI := (⟨"GlacierCamp$Glacier", "eat", "(I)V"⟩, prog_4_method_33_code, 5, (Option.none : Option Jvm.ClassFile.FieldType), [])
abbrev M_Glacier_endDay : MI := (⟨"GlacierCamp$Glacier", "endDay", "()V"⟩, prog_4_method_35_code, 2, (Option.none : Option Jvm.ClassFile.FieldType), [])
abbrev M_Glacier_fallingPlace : MI := (⟨"GlacierCamp$Glacier", "fallingPlace", "(IZ)I"⟩, prog_4_method_21_code, 6, (Option.some Jvm.ClassFile.FieldType.int), [])
abbrev M_Glacier_firstStore : MI := (⟨"GlacierCamp$Glacier", "firstStore", "(I)I"⟩, prog_4_method_27_code, 3, (Option.some Jvm.ClassFile.FieldType.int), [])
abbrev M_Glacier_isHere : MI := (⟨"GlacierCamp$Glacier", "isHere", "(I)Z"⟩, prog_4_method_17_code, 2, (Option.some Jvm.ClassFile.FieldType.boolean), [])
abbrev M_Glacier_isTooWeak : MI := (⟨"GlacierCamp$Glacier", "isTooWeak", "(IIZ)Z"⟩, prog_4_method_20_code, 5, (Option.some Jvm.ClassFile.FieldType.boolean), [])
abbrev M_Glacier_letCross : MI := (⟨"GlacierCamp$Glacier", "letCross", "(IZ)V"⟩, prog_4_method_24_code, 5, (Option.none : Option Jvm.ClassFile.FieldType), [])
abbrev M_Glacier_letFall : MI := (⟨"GlacierCamp$Glacier", "letFall", "(II)V"⟩, prog_4_method_23_code, 3, (Option.none : Option Jvm.ClassFile.FieldType), [])
abbrev M_Glacier_moveBridges : MI := (⟨"GlacierCamp$Glacier", "moveBridges", "(II)V"⟩, prog_4_method_32_code, 5, (Option.none : Option Jvm.ClassFile.FieldType), [])
abbrev M_Glacier_moveStakes : MI := (⟨"GlacierCamp$Glacier", "moveStakes", "(II)V"⟩, prog_4_method_31_code, 5, (Option.none : Option Jvm.ClassFile.FieldType), [])
abbrev M_Glacier_passDay : MI := (⟨"GlacierCamp$Glacier", "passDay", "(LGlacierCamp$Orders;)V"⟩, prog_4_method_29_code, 3, (Option.none : Option Jvm.ClassFile.FieldType), [])
abbrev M_Glacier_readStakes : MI := (⟨"GlacierCamp$Glacier", "readStakes", "(I)V"⟩, prog_4_method_34_code, 4, (Option.none : Option Jvm.ClassFile.FieldType), [])
abbrev M_Glacier_takeFood : MI := (⟨"GlacierCamp$Glacier", "takeFood", "(II)I"⟩, prog_4_method_26_code, 6, (Option.some Jvm.ClassFile.FieldType.int), [])
abbrev M_Glacier_total : MI := (⟨"GlacierCamp$Glacier", "total", "(I)I"⟩, prog_4_method_13_code, 2, (Option.some Jvm.ClassFile.FieldType.int), [])
abbrev M_Glacier_tryDrill : MI := (⟨"GlacierCamp$Glacier", "tryDrill", "(I)Z"⟩, prog_4_method_28_code, 4, (Option.some Jvm.ClassFile.FieldType.boolean), [])
abbrev M_Glacier_tryGo : MI := (⟨"GlacierCamp$Glacier", "tryGo", "(IZ)Z"⟩, prog_4_method_22_code, 4, (Option.some Jvm.ClassFile.FieldType.boolean), [])
abbrev M_Glacier_tryProbe : MI := (⟨"GlacierCamp$Glacier", "tryProbe", "(II)Z"⟩, prog_4_method_25_code, 4, (Option.some Jvm.ClassFile.FieldType.boolean), [])
abbrev M_Glacier_valueOf : MI := (⟨"GlacierCamp$Glacier", "valueOf", "(LGlacierCamp$Sign;I)I"⟩, prog_4_method_16_code, 3, (Option.some Jvm.ClassFile.FieldType.int), [])
abbrev M_Glacier_warmthOf : MI := (⟨"GlacierCamp$Glacier", "warmthOf", "(I)I"⟩, prog_4_method_10_code, 2, (Option.some Jvm.ClassFile.FieldType.int), [])
abbrev M_Glacier_warmthToday : MI := (⟨"GlacierCamp$Glacier", "warmthToday", "()I"⟩, prog_4_method_11_code, 1, (Option.some Jvm.ClassFile.FieldType.int), [])
abbrev M_Glacier_weather : MI := (⟨"GlacierCamp$Glacier", "weather", "(I)V"⟩, prog_4_method_30_code, 6, (Option.none : Option Jvm.ClassFile.FieldType), [])
abbrev M_Names_init : MI := (⟨"GlacierCamp$Names", "<init>", "()V"⟩, prog_5_method_1_code, 1, (Option.none : Option Jvm.ClassFile.FieldType), [])
abbrev M_Names_add : MI := (⟨"GlacierCamp$Names", "add", "(J)V"⟩, prog_5_method_4_code, 3, (Option.none : Option Jvm.ClassFile.FieldType), [])
abbrev M_Names_find : MI := (⟨"GlacierCamp$Names", "find", "(J)I"⟩, prog_5_method_3_code, 4, (Option.some Jvm.ClassFile.FieldType.int), [])
abbrev M_Names_size : MI := (⟨"GlacierCamp$Names", "size", "()I"⟩, prog_5_method_2_code, 1, (Option.some Jvm.ClassFile.FieldType.int), [])
abbrev M_Orders_init : MI := (⟨"GlacierCamp$Orders", "<init>", "()V"⟩, prog_6_method_1_code, 1, (Option.none : Option Jvm.ClassFile.FieldType), [])
abbrev M_Orders_add : MI := (⟨"GlacierCamp$Orders", "add", "(I)Z"⟩, prog_6_method_4_code, 3, (Option.some Jvm.ClassFile.FieldType.boolean), [])
abbrev M_Orders_carryOut : MI := (⟨"GlacierCamp$Orders", "carryOut", "(ILGlacierCamp$Glacier;)Z"⟩, prog_6_method_6_code, 8, (Option.some Jvm.ClassFile.FieldType.boolean), [])
abbrev M_Orders_clear : MI := (⟨"GlacierCamp$Orders", "clear", "()V"⟩, prog_6_method_3_code, 1, (Option.none : Option Jvm.ClassFile.FieldType), [])
abbrev M_Orders_note : MI := (⟨"GlacierCamp$Orders", "note", "(II)V"⟩, prog_6_method_5_code, 3, (Option.none : Option Jvm.ClassFile.FieldType), [])
abbrev M_Orders_size : MI := (⟨"GlacierCamp$Orders", "size", "()I"⟩, prog_6_method_2_code, 1, (Option.some Jvm.ClassFile.FieldType.int), [])
abbrev M_Table_init : MI := (⟨"GlacierCamp$Table", "<init>", "(I)V"⟩, prog_8_method_1_code, 2, (Option.none : Option Jvm.ClassFile.FieldType), [])
abbrev M_Table_add : MI := (⟨"GlacierCamp$Table", "add", "(III)V"⟩, prog_8_method_8_code, 5, (Option.none : Option Jvm.ClassFile.FieldType), [])
abbrev M_Table_addRow : MI := (⟨"GlacierCamp$Table", "addRow", "()I"⟩, prog_8_method_5_code, 3, (Option.some Jvm.ClassFile.FieldType.int), [])
abbrev M_Table_become : MI := (⟨"GlacierCamp$Table", "become", "(LGlacierCamp$Table;)V"⟩, prog_8_method_11_code, 3, (Option.none : Option Jvm.ClassFile.FieldType), [])
abbrev M_Table_clear : MI := (⟨"GlacierCamp$Table", "clear", "()V"⟩, prog_8_method_4_code, 1, (Option.none : Option Jvm.ClassFile.FieldType), [])
abbrev M_Table_get : MI := (⟨"GlacierCamp$Table", "get", "(II)I"⟩, prog_8_method_6_code, 4, (Option.some Jvm.ClassFile.FieldType.int), [])
abbrev M_Table_has : MI := (⟨"GlacierCamp$Table", "has", "(I)Z"⟩, prog_8_method_3_code, 2, (Option.some Jvm.ClassFile.FieldType.boolean), [])
abbrev M_Table_matches : MI := (⟨"GlacierCamp$Table", "matches", "(IIII)I"⟩, prog_8_method_10_code, 7, (Option.some Jvm.ClassFile.FieldType.int), [])
abbrev M_Table_rows : MI := (⟨"GlacierCamp$Table", "rows", "()I"⟩, prog_8_method_2_code, 1, (Option.some Jvm.ClassFile.FieldType.int), [])
abbrev M_Table_set : MI := (⟨"GlacierCamp$Table", "set", "(III)V"⟩, prog_8_method_7_code, 5, (Option.none : Option Jvm.ClassFile.FieldType), [])
abbrev M_Table_sum : MI := (⟨"GlacierCamp$Table", "sum", "(I)I"⟩, prog_8_method_9_code, 4, (Option.some Jvm.ClassFile.FieldType.int), [])
abbrev M_Tape_init : MI := (⟨"GlacierCamp$Tape", "<init>", "()V"⟩, prog_9_method_1_code, 1, (Option.none : Option Jvm.ClassFile.FieldType), [])
abbrev M_Tape_append : MI := (⟨"GlacierCamp$Tape", "append", "(I)V"⟩, prog_9_method_3_code, 3, (Option.none : Option Jvm.ClassFile.FieldType), [])
abbrev M_Tape_byteAt : MI := (⟨"GlacierCamp$Tape", "byteAt", "(I)I"⟩, prog_9_method_5_code, 2, (Option.some Jvm.ClassFile.FieldType.int), [])
abbrev M_Tape_cut : MI := (⟨"GlacierCamp$Tape", "cut", "(I)V"⟩, prog_9_method_4_code, 2, (Option.none : Option Jvm.ClassFile.FieldType), [])
abbrev M_Tape_size : MI := (⟨"GlacierCamp$Tape", "size", "()I"⟩, prog_9_method_2_code, 1, (Option.some Jvm.ClassFile.FieldType.int), [])
abbrev M_Teacher_init : MI := (⟨"GlacierCamp$Teacher", "<init>", "(LGlacierCamp$Tokens;LGlacierCamp$Glacier;LGlacierCamp$Orders;)V"⟩, prog_10_method_1_code, 4, (Option.none : Option Jvm.ClassFile.FieldType), [])
abbrev M_Teacher_error : MI := (⟨"GlacierCamp$Teacher", "error", "()I"⟩, prog_10_method_2_code, 1, (Option.some Jvm.ClassFile.FieldType.int), [])
abbrev M_Teacher_errorPosition : MI := (⟨"GlacierCamp$Teacher", "errorPosition", "()I"⟩, prog_10_method_3_code, 1, (Option.some Jvm.ClassFile.FieldType.int), [])
abbrev M_Teacher_goesDeeper : MI := (⟨"GlacierCamp$Teacher", "goesDeeper", "(I)Z"⟩, prog_10_method_24_code, 2, (Option.some Jvm.ClassFile.FieldType.boolean), [])
abbrev M_Teacher_isComparison : MI := (⟨"GlacierCamp$Teacher", "isComparison", "(LGlacierCamp$Sign;)Z"⟩, prog_10_method_19_code, 1, (Option.some Jvm.ClassFile.FieldType.boolean), [])
abbrev M_Teacher_newName : MI := (⟨"GlacierCamp$Teacher", "newName", "(LGlacierCamp$Names;I)V"⟩, prog_10_method_25_code, 3, (Option.none : Option Jvm.ClassFile.FieldType), [])
abbrev M_Teacher_newOrder : MI := (⟨"GlacierCamp$Teacher", "newOrder", "(I)V"⟩, prog_10_method_28_code, 2, (Option.none : Option Jvm.ClassFile.FieldType), [])
abbrev M_Teacher_number : MI := (⟨"GlacierCamp$Teacher", "number", "(LGlacierCamp$Sign;II)I"⟩, prog_10_method_27_code, 5, (Option.some Jvm.ClassFile.FieldType.int), [])
abbrev M_Teacher_oldName : MI := (⟨"GlacierCamp$Teacher", "oldName", "(LGlacierCamp$Sign;LGlacierCamp$Names;)I"⟩, prog_10_method_26_code, 4, (Option.some Jvm.ClassFile.FieldType.int), [])
abbrev M_Teacher_readBand : MI := (⟨"GlacierCamp$Teacher", "readBand", "()V"⟩, prog_10_method_5_code, 4, (Option.none : Option Jvm.ClassFile.FieldType), [])
abbrev M_Teacher_readBoth : MI := (⟨"GlacierCamp$Teacher", "readBoth", "(I)V"⟩, prog_10_method_17_code, 3, (Option.none : Option Jvm.ClassFile.FieldType), [])
abbrev M_Teacher_readCrevasse : MI := (⟨"GlacierCamp$Teacher", "readCrevasse", "()V"⟩, prog_10_method_7_code, 2, (Option.none : Option Jvm.ClassFile.FieldType), [])
abbrev M_Teacher_readDay : MI := (⟨"GlacierCamp$Teacher", "readDay", "()V"⟩, prog_10_method_10_code, 2, (Option.none : Option Jvm.ClassFile.FieldType), [])
abbrev M_Teacher_readDepot : MI := (⟨"GlacierCamp$Teacher", "readDepot", "()V"⟩, prog_10_method_8_code, 2, (Option.none : Option Jvm.ClassFile.FieldType), [])
abbrev M_Teacher_readDrill : MI := (⟨"GlacierCamp$Teacher", "readDrill", "()V"⟩, prog_10_method_14_code, 1, (Option.none : Option Jvm.ClassFile.FieldType), [])
abbrev M_Teacher_readFill : MI := (⟨"GlacierCamp$Teacher", "readFill", "()V"⟩, prog_10_method_13_code, 1, (Option.none : Option Jvm.ClassFile.FieldType), [])
abbrev M_Teacher_readGo : MI := (⟨"GlacierCamp$Teacher", "readGo", "(I)V"⟩, prog_10_method_11_code, 2, (Option.none : Option Jvm.ClassFile.FieldType), [])
abbrev M_Teacher_readList : MI := (⟨"GlacierCamp$Teacher", "readList", "()V"⟩, prog_10_method_4_code, 2, (Option.none : Option Jvm.ClassFile.FieldType), [])
abbrev M_Teacher_readNested : MI := (⟨"GlacierCamp$Teacher", "readNested", "(LGlacierCamp$Sign;I)V"⟩, prog_10_method_23_code, 3, (Option.none : Option Jvm.ClassFile.FieldType), [])
abbrev M_Teacher_readProbe : MI := (⟨"GlacierCamp$Teacher", "readProbe", "()V"⟩, prog_10_method_12_code, 1, (Option.none : Option Jvm.ClassFile.FieldType), [])
abbrev M_Teacher_readProduct : MI := (⟨"GlacierCamp$Teacher", "readProduct", "(I)V"⟩, prog_10_method_21_code, 4, (Option.none : Option Jvm.ClassFile.FieldType), [])
abbrev M_Teacher_readSingle : MI := (⟨"GlacierCamp$Teacher", "readSingle", "(I)V"⟩, prog_10_method_18_code, 3, (Option.none : Option Jvm.ClassFile.FieldType), [])
abbrev M_Teacher_readStake : MI := (⟨"GlacierCamp$Teacher", "readStake", "()V"⟩, prog_10_method_6_code, 2, (Option.none : Option Jvm.ClassFile.FieldType), [])
abbrev M_Teacher_readSum : MI := (⟨"GlacierCamp$Teacher", "readSum", "(I)V"⟩, prog_10_method_20_code, 4, (Option.none : Option Jvm.ClassFile.FieldType), [])
abbrev M_Teacher_readTeam : MI := (⟨"GlacierCamp$Teacher", "readTeam", "()V"⟩, prog_10_method_9_code, 3, (Option.none : Option Jvm.ClassFile.FieldType), [])
abbrev M_Teacher_readTest : MI := (⟨"GlacierCamp$Teacher", "readTest", "(I)V"⟩, prog_10_method_16_code, 3, (Option.none : Option Jvm.ClassFile.FieldType), [])
abbrev M_Teacher_readValue : MI := (⟨"GlacierCamp$Teacher", "readValue", "(I)V"⟩, prog_10_method_22_code, 3, (Option.none : Option Jvm.ClassFile.FieldType), [])
abbrev M_Teacher_readWhen : MI := (⟨"GlacierCamp$Teacher", "readWhen", "()V"⟩, prog_10_method_15_code, 1, (Option.none : Option Jvm.ClassFile.FieldType), [])
abbrev M_Teacher_tellError : MI := (⟨"GlacierCamp$Teacher", "tellError", "(I)V"⟩, prog_10_method_29_code, 2, (Option.none : Option Jvm.ClassFile.FieldType), [])
abbrev M_Tokens_init : MI := (⟨"GlacierCamp$Tokens", "<init>", "()V"⟩, prog_11_method_1_code, 1, (Option.none : Option Jvm.ClassFile.FieldType), [])
abbrev M_Tokens_advance : MI := (⟨"GlacierCamp$Tokens", "advance", "()V"⟩, prog_11_method_7_code, 3, (Option.none : Option Jvm.ClassFile.FieldType), [])
abbrev M_Tokens_breakOff : MI := (⟨"GlacierCamp$Tokens", "breakOff", "()V"⟩, prog_11_method_9_code, 1, (Option.none : Option Jvm.ClassFile.FieldType), [])
abbrev M_Tokens_brokenAt : MI := (⟨"GlacierCamp$Tokens", "brokenAt", "()I"⟩, prog_11_method_10_code, 1, (Option.some Jvm.ClassFile.FieldType.int), [])
abbrev M_Tokens_expect : MI := (⟨"GlacierCamp$Tokens", "expect", "(LGlacierCamp$Sign;)V"⟩, prog_11_method_8_code, 2, (Option.none : Option Jvm.ClassFile.FieldType), [])
abbrev M_Tokens_isDigit : MI := (⟨"GlacierCamp$Tokens", "isDigit", "(I)Z"⟩, prog_11_method_19_code, 1, (Option.some Jvm.ClassFile.FieldType.boolean), [])
abbrev M_Tokens_isLetter : MI := (⟨"GlacierCamp$Tokens", "isLetter", "(I)Z"⟩, prog_11_method_18_code, 1, (Option.some Jvm.ClassFile.FieldType.boolean), [])
abbrev M_Tokens_nameOf : MI := (⟨"GlacierCamp$Tokens", "nameOf", "(LGlacierCamp$Tape;II)J"⟩, prog_11_method_17_code, 7, (Option.some Jvm.ClassFile.FieldType.long), [])
abbrev M_Tokens_numberOf : MI := (⟨"GlacierCamp$Tokens", "numberOf", "(LGlacierCamp$Tape;II)J"⟩, prog_11_method_16_code, 6, (Option.some Jvm.ClassFile.FieldType.long), [])
abbrev M_Tokens_pastBlanks : MI := (⟨"GlacierCamp$Tokens", "pastBlanks", "(LGlacierCamp$Tape;I)I"⟩, prog_11_method_11_code, 3, (Option.some Jvm.ClassFile.FieldType.int), [])
abbrev M_Tokens_put : MI := (⟨"GlacierCamp$Tokens", "put", "(LGlacierCamp$Sign;IJ)V"⟩, prog_11_method_3_code, 5, (Option.none : Option Jvm.ClassFile.FieldType), [])
abbrev M_Tokens_readFrom : MI := (⟨"GlacierCamp$Tokens", "readFrom", "(LGlacierCamp$Tape;)V"⟩, prog_11_method_2_code, 6, (Option.none : Option Jvm.ClassFile.FieldType), [])
abbrev M_Tokens_reads : MI := (⟨"GlacierCamp$Tokens", "reads", "(LGlacierCamp$Tape;IILjava/lang/String;)Z"⟩, prog_11_method_14_code, 5, (Option.some Jvm.ClassFile.FieldType.boolean), [])
abbrev M_Tokens_sign : MI := (⟨"GlacierCamp$Tokens", "sign", "()LGlacierCamp$Sign;"⟩, prog_11_method_4_code, 1, (Option.some (Jvm.ClassFile.FieldType.object "GlacierCamp$Sign")), [])
abbrev M_Tokens_signOf : MI := (⟨"GlacierCamp$Tokens", "signOf", "(LGlacierCamp$Tape;II)LGlacierCamp$Sign;"⟩, prog_11_method_13_code, 8, (Option.some (Jvm.ClassFile.FieldType.object "GlacierCamp$Sign")), [])
abbrev M_Tokens_start : MI := (⟨"GlacierCamp$Tokens", "start", "()I"⟩, prog_11_method_5_code, 1, (Option.some Jvm.ClassFile.FieldType.int), [])
abbrev M_Tokens_tokenEnd : MI := (⟨"GlacierCamp$Tokens", "tokenEnd", "(LGlacierCamp$Tape;I)I"⟩, prog_11_method_12_code, 4, (Option.some Jvm.ClassFile.FieldType.int), [])
abbrev M_Tokens_worth : MI := (⟨"GlacierCamp$Tokens", "worth", "()J"⟩, prog_11_method_6_code, 1, (Option.some Jvm.ClassFile.FieldType.long), [])
abbrev M_Tokens_worthOf : MI := (⟨"GlacierCamp$Tokens", "worthOf", "(LGlacierCamp$Sign;LGlacierCamp$Tape;II)J"⟩, prog_11_method_15_code, 4, (Option.some Jvm.ClassFile.FieldType.long), [])
abbrev M_Law_act : MI := (⟨"GlacierCampLaw", "act", "(LGlacierCamp;LGlacierCampLaw$Sim;I)Z"⟩, method_8_code, 8, (Option.some Jvm.ClassFile.FieldType.boolean), [((94 : Nat), (103 : Nat), (106 : Nat), (218 : Nat)), ((161 : Nat), (170 : Nat), (173 : Nat), (218 : Nat)), ((228 : Nat), (237 : Nat), (240 : Nat), (218 : Nat))])
abbrev M_Law_below : MI := (⟨"GlacierCampLaw", "below", "(II)I"⟩, method_2_code, 2, (Option.some Jvm.ClassFile.FieldType.int), [])
abbrev M_Law_cell : MI := (⟨"GlacierCampLaw", "cell", "([II)I"⟩, method_3_code, 2, (Option.some Jvm.ClassFile.FieldType.int), [])
abbrev M_Law_list : MI := (⟨"GlacierCampLaw", "list", "([ILjava/lang/StringBuilder;)LGlacierCampLaw$Sim;"⟩, method_7_code, 13, (Option.some (Jvm.ClassFile.FieldType.object "GlacierCampLaw$Sim")), [])
abbrev M_Law_sum : MI := (⟨"GlacierCampLaw", "sum", "([I)Ljava/lang/String;"⟩, method_5_code, 2, (Option.some (Jvm.ClassFile.FieldType.object "java/lang/String")), [])
abbrev M_Law_taught : MI := (⟨"GlacierCampLaw", "taught", "(LGlacierCamp;Ljava/lang/String;)I"⟩, method_4_code, 5, (Option.some Jvm.ClassFile.FieldType.int), [])
abbrev M_Law_when : MI := (⟨"GlacierCampLaw", "when", "([I)Ljava/lang/String;"⟩, method_6_code, 2, (Option.some (Jvm.ClassFile.FieldType.object "java/lang/String")), [])
abbrev M_Sim_init : MI := (⟨"GlacierCampLaw$Sim", "<init>", "()V"⟩, prog_13_method_1_code, 1, (Option.none : Option Jvm.ClassFile.FieldType), [])
abbrev M_Sim_can : MI := (⟨"GlacierCampLaw$Sim", "can", "(IZ)Z"⟩, prog_13_method_6_code, 9, (Option.some Jvm.ClassFile.FieldType.boolean), [])
abbrev M_Sim_carries : MI := (⟨"GlacierCampLaw$Sim", "carries", "([I)Z"⟩, prog_13_method_14_code, 2, (Option.some Jvm.ClassFile.FieldType.boolean), [])
abbrev M_Sim_counts : MI := (⟨"GlacierCampLaw$Sim", "counts", "()[I"⟩, prog_13_method_18_code, 6, (Option.some (Jvm.ClassFile.FieldType.array Jvm.ClassFile.FieldType.int)), [])
abbrev M_Sim_drills : MI := (⟨"GlacierCampLaw$Sim", "drills", "(I)Z"⟩, prog_13_method_11_code, 6, (Option.some Jvm.ClassFile.FieldType.boolean), [])
abbrev M_Sim_eats : MI := (⟨"GlacierCampLaw$Sim", "eats", "([I)V"⟩, prog_13_method_16_code, 8, (Option.none : Option Jvm.ClassFile.FieldType), [])
abbrev M_Sim_fills : MI := (⟨"GlacierCampLaw$Sim", "fills", "(II)I"⟩, prog_13_method_10_code, 9, (Option.some Jvm.ClassFile.FieldType.int), [])
abbrev M_Sim_goes : MI := (⟨"GlacierCampLaw$Sim", "goes", "(IZ)Z"⟩, prog_13_method_8_code, 9, (Option.some Jvm.ClassFile.FieldType.boolean), [])
abbrev M_Sim_holds : MI := (⟨"GlacierCampLaw$Sim", "holds", "([I)Z"⟩, prog_13_method_13_code, 5, (Option.some Jvm.ClassFile.FieldType.boolean), [])
abbrev M_Sim_isKnown : MI := (⟨"GlacierCampLaw$Sim", "isKnown", "(I)Z"⟩, prog_13_method_4_code, 2, (Option.some Jvm.ClassFile.FieldType.boolean), [])
abbrev M_Sim_isSame : MI := (⟨"GlacierCampLaw$Sim", "isSame", "(LGlacierCamp;)Z"⟩, prog_13_method_19_code, 10, (Option.some Jvm.ClassFile.FieldType.boolean), [])
abbrev M_Sim_pass : MI := (⟨"GlacierCampLaw$Sim", "pass", "(I)I"⟩, prog_13_method_17_code, 12, (Option.some Jvm.ClassFile.FieldType.int), [])
abbrev M_Sim_probes : MI := (⟨"GlacierCampLaw$Sim", "probes", "(II)Z"⟩, prog_13_method_9_code, 4, (Option.some Jvm.ClassFile.FieldType.boolean), [])
abbrev M_Sim_sum : MI := (⟨"GlacierCampLaw$Sim", "sum", "([I)I"⟩, prog_13_method_12_code, 3, (Option.some Jvm.ClassFile.FieldType.int), [])
abbrev M_Sim_way : MI := (⟨"GlacierCampLaw$Sim", "way", "([IZ)[I"⟩, prog_13_method_5_code, 8, (Option.some (Jvm.ClassFile.FieldType.array Jvm.ClassFile.FieldType.int)), [])
abbrev M_Sim_weather : MI := (⟨"GlacierCampLaw$Sim", "weather", "(I)V"⟩, prog_13_method_15_code, 10, (Option.none : Option Jvm.ClassFile.FieldType), [])
abbrev M_AbstractStringBuilder_init : MI := (⟨"java/lang/AbstractStringBuilder", "<init>", "(I)V"⟩, prog_17_method_2_code, 2, (Option.none : Option Jvm.ClassFile.FieldType), [])
abbrev M_AbstractStringBuilder_append_0 : MI := (⟨"java/lang/AbstractStringBuilder", "append", "(I)Ljava/lang/AbstractStringBuilder;"⟩, prog_17_method_32_code, 4, (Option.some (Jvm.ClassFile.FieldType.object "java/lang/AbstractStringBuilder")), [])
abbrev M_AbstractStringBuilder_append_1 : MI := (⟨"java/lang/AbstractStringBuilder", "append", "(Ljava/lang/String;)Ljava/lang/AbstractStringBuilder;"⟩, prog_17_method_22_code, 3, (Option.some (Jvm.ClassFile.FieldType.object "java/lang/AbstractStringBuilder")), [])
abbrev M_AbstractStringBuilder_appendNull : MI := (⟨"java/lang/AbstractStringBuilder", "appendNull", "()Ljava/lang/AbstractStringBuilder;"⟩, prog_17_method_26_code, 3, (Option.some (Jvm.ClassFile.FieldType.object "java/lang/AbstractStringBuilder")), [])
abbrev M_AbstractStringBuilder_ensureCapacityInternal : MI := (⟨"java/lang/AbstractStringBuilder", "ensureCapacityInternal", "(I)V"⟩, prog_17_method_9_code, 3, (Option.none : Option Jvm.ClassFile.FieldType), [])
abbrev M_AbstractStringBuilder_getValue : MI := (⟨"java/lang/AbstractStringBuilder", "getValue", "()[B"⟩, prog_17_method_64_code, 1, (Option.some (Jvm.ClassFile.FieldType.array Jvm.ClassFile.FieldType.byte)), [])
abbrev M_AbstractStringBuilder_inflate : MI := (⟨"java/lang/AbstractStringBuilder", "inflate", "()V"⟩, prog_17_method_11_code, 2, (Option.none : Option Jvm.ClassFile.FieldType), [])
abbrev M_AbstractStringBuilder_inflateIfNeededFor : MI := (⟨"java/lang/AbstractStringBuilder", "inflateIfNeededFor", "(Ljava/lang/String;)V"⟩, prog_17_method_71_code, 2, (Option.none : Option Jvm.ClassFile.FieldType), [])
abbrev M_AbstractStringBuilder_isLatin1 : MI := (⟨"java/lang/AbstractStringBuilder", "isLatin1", "()Z"⟩, prog_17_method_68_code, 1, (Option.some Jvm.ClassFile.FieldType.boolean), [])
abbrev M_AbstractStringBuilder_length : MI := (⟨"java/lang/AbstractStringBuilder", "length", "()I"⟩, prog_17_method_6_code, 1, (Option.some Jvm.ClassFile.FieldType.int), [])
abbrev M_AbstractStringBuilder_newCapacity : MI := (⟨"java/lang/AbstractStringBuilder", "newCapacity", "(I)I"⟩, prog_17_method_10_code, 6, (Option.some Jvm.ClassFile.FieldType.int), [])
abbrev M_AbstractStringBuilder_putStringAt : MI := (⟨"java/lang/AbstractStringBuilder", "putStringAt", "(ILjava/lang/String;)V"⟩, prog_17_method_73_code, 3, (Option.none : Option Jvm.ClassFile.FieldType), [])
abbrev M_Enum_ordinal : MI := (⟨"java/lang/Enum", "ordinal", "()I"⟩, prog_19_method_2_code, 1, (Option.some Jvm.ClassFile.FieldType.int), [])
abbrev M_Exception_init : MI := (⟨"java/lang/Exception", "<init>", "(Ljava/lang/String;)V"⟩, prog_20_method_2_code, 2, (Option.none : Option Jvm.ClassFile.FieldType), [])
abbrev M_IllegalArgumentException_init : MI := (⟨"java/lang/IllegalArgumentException", "<init>", "(Ljava/lang/String;)V"⟩, prog_21_method_2_code, 2, (Option.none : Option Jvm.ClassFile.FieldType), [])
abbrev M_IllegalStateException_init : MI := (⟨"java/lang/IllegalStateException", "<init>", "(Ljava/lang/String;)V"⟩, prog_22_method_2_code, 2, (Option.none : Option Jvm.ClassFile.FieldType), [])
abbrev M_IndexOutOfBoundsException_init : MI := (⟨"java/lang/IndexOutOfBoundsException", "<init>", "(Ljava/lang/String;)V"⟩, prog_23_method_2_code, 2, (Option.none : Option Jvm.ClassFile.FieldType), [])
abbrev M_Integer_getChars : MI := (⟨"java/lang/Integer", "getChars", "(II[B)I"⟩, prog_24_method_12_code, 7, (Option.some Jvm.ClassFile.FieldType.int), [])
abbrev M_Integer_stringSize : MI := (⟨"java/lang/Integer", "stringSize", "(I)I"⟩, prog_24_method_13_code, 4, (Option.some Jvm.ClassFile.FieldType.int), [])
abbrev M_Math_max : MI := (⟨"java/lang/Math", "max", "(II)I"⟩, prog_25_method_65_code, 2, (Option.some Jvm.ClassFile.FieldType.int), [])
abbrev M_Math_min : MI := (⟨"java/lang/Math", "min", "(II)I"⟩, prog_25_method_69_code, 2, (Option.some Jvm.ClassFile.FieldType.int), [])
abbrev M_Object_init : MI := (⟨"java/lang/Object", "<init>", "()V"⟩, object_method_1_code, 1, (Option.none : Option Jvm.ClassFile.FieldType), [])
abbrev M_RuntimeException_init : MI := (⟨"java/lang/RuntimeException", "<init>", "(Ljava/lang/String;)V"⟩, prog_26_method_2_code, 2, (Option.none : Option Jvm.ClassFile.FieldType), [])
abbrev M_String_init_0 : MI := (⟨"java/lang/String", "<init>", "(Ljava/lang/AbstractStringBuilder;Ljava/lang/Void;)V"⟩, prog_27_method_150_code, 5, (Option.none : Option Jvm.ClassFile.FieldType), [])
abbrev M_String_init_1 : MI := (⟨"java/lang/String", "<init>", "(Ljava/lang/StringBuilder;)V"⟩, prog_27_method_53_code, 2, (Option.none : Option Jvm.ClassFile.FieldType), [])
abbrev M_String_charAt : MI := (⟨"java/lang/String", "charAt", "(I)C"⟩, prog_27_method_56_code, 2, (Option.some Jvm.ClassFile.FieldType.char), [])
abbrev M_String_checkBoundsBeginEnd : MI := (⟨"java/lang/String", "checkBoundsBeginEnd", "(III)V"⟩, prog_27_method_158_code, 3, (Option.none : Option Jvm.ClassFile.FieldType), [])
abbrev M_String_checkBoundsOffCount : MI := (⟨"java/lang/String", "checkBoundsOffCount", "(III)I"⟩, prog_27_method_157_code, 3, (Option.some Jvm.ClassFile.FieldType.int), [])
abbrev M_String_checkIndex : MI := (⟨"java/lang/String", "checkIndex", "(II)V"⟩, prog_27_method_155_code, 2, (Option.none : Option Jvm.ClassFile.FieldType), [])
abbrev M_String_coder : MI := (⟨"java/lang/String", "coder", "()B"⟩, prog_27_method_152_code, 1, (Option.some Jvm.ClassFile.FieldType.byte), [])
abbrev M_String_getBytes : MI := (⟨"java/lang/String", "getBytes", "([BIB)V"⟩, prog_27_method_147_code, 4, (Option.none : Option Jvm.ClassFile.FieldType), [])
abbrev M_String_isLatin1 : MI := (⟨"java/lang/String", "isLatin1", "()Z"⟩, prog_27_method_154_code, 1, (Option.some Jvm.ClassFile.FieldType.boolean), [])
abbrev M_String_length : MI := (⟨"java/lang/String", "length", "()I"⟩, prog_27_method_54_code, 1, (Option.some Jvm.ClassFile.FieldType.int), [])
abbrev M_StringBuilder_init : MI := (⟨"java/lang/StringBuilder", "<init>", "()V"⟩, prog_28_method_1_code, 1, (Option.none : Option Jvm.ClassFile.FieldType), [])
abbrev M_StringBuilder_append_0 : MI := (⟨"java/lang/StringBuilder", "append", "(I)Ljava/lang/StringBuilder;"⟩, prog_28_method_15_code, 2, (Option.some (Jvm.ClassFile.FieldType.object "java/lang/StringBuilder")), [])
abbrev M_StringBuilder_append_1 : MI := (⟨"java/lang/StringBuilder", "append", "(Ljava/lang/String;)Ljava/lang/StringBuilder;"⟩, prog_28_method_7_code, 2, (Option.some (Jvm.ClassFile.FieldType.object "java/lang/StringBuilder")), [])
abbrev M_StringBuilder_length : MI := (⟨"java/lang/StringBuilder", "length", "()I"⟩, prog_28_method_93_code, 1, (Option.some Jvm.ClassFile.FieldType.int), [])
abbrev M_StringBuilder_toString : MI := (⟨"java/lang/StringBuilder", "toString", "()Ljava/lang/String;"⟩, prog_28_method_42_code, 1, (Option.some (Jvm.ClassFile.FieldType.object "java/lang/String")), [])
abbrev M_StringLatin1_charAt : MI := (⟨"java/lang/StringLatin1", "charAt", "([BI)C"⟩, prog_29_method_2_code, 2, (Option.some Jvm.ClassFile.FieldType.char), [])
abbrev M_StringLatin1_inflate : MI := (⟨"java/lang/StringLatin1", "inflate", "([BI[BII)V"⟩, prog_29_method_50_code, 5, (Option.none : Option Jvm.ClassFile.FieldType), [])
abbrev M_StringUTF16_charAt : MI := (⟨"java/lang/StringUTF16", "charAt", "([BI)C"⟩, prog_30_method_83_code, 2, (Option.some Jvm.ClassFile.FieldType.char), [])
abbrev M_StringUTF16_checkBoundsBeginEnd : MI := (⟨"java/lang/StringUTF16", "checkBoundsBeginEnd", "(II[B)V"⟩, prog_30_method_93_code, 3, (Option.none : Option Jvm.ClassFile.FieldType), [])
abbrev M_StringUTF16_checkBoundsOffCount : MI := (⟨"java/lang/StringUTF16", "checkBoundsOffCount", "(II[B)V"⟩, prog_30_method_94_code, 3, (Option.none : Option Jvm.ClassFile.FieldType), [])
abbrev M_StringUTF16_checkIndex : MI := (⟨"java/lang/StringUTF16", "checkIndex", "(I[B)V"⟩, prog_30_method_91_code, 2, (Option.none : Option Jvm.ClassFile.FieldType), [])
abbrev M_StringUTF16_coderFromArrayLen : MI := (⟨"java/lang/StringUTF16", "coderFromArrayLen", "([BI)B"⟩, prog_30_method_15_code, 2, (Option.some Jvm.ClassFile.FieldType.byte), [])
abbrev M_StringUTF16_compress_0 : MI := (⟨"java/lang/StringUTF16", "compress", "([BII)[B"⟩, prog_30_method_17_code, 6, (Option.some (Jvm.ClassFile.FieldType.array Jvm.ClassFile.FieldType.byte)), [])
abbrev M_StringUTF16_compress_1 : MI := (⟨"java/lang/StringUTF16", "compress", "([BI[BII)I"⟩, prog_30_method_22_code, 7, (Option.some Jvm.ClassFile.FieldType.int), [])
abbrev M_StringUTF16_getChar : MI := (⟨"java/lang/StringUTF16", "getChar", "([BI)C"⟩, prog_30_method_5_code, 2, (Option.some Jvm.ClassFile.FieldType.char), [])
abbrev M_StringUTF16_getChars_0 : MI := (⟨"java/lang/StringUTF16", "getChars", "(III[B)I"⟩, prog_30_method_77_code, 5, (Option.some Jvm.ClassFile.FieldType.int), [])
abbrev M_StringUTF16_getChars_1 : MI := (⟨"java/lang/StringUTF16", "getChars", "(II[B)I"⟩, prog_30_method_89_code, 7, (Option.some Jvm.ClassFile.FieldType.int), [])
abbrev M_StringUTF16_inflate : MI := (⟨"java/lang/StringUTF16", "inflate", "([BI[BII)V"⟩, prog_30_method_86_code, 6, (Option.none : Option Jvm.ClassFile.FieldType), [])
abbrev M_StringUTF16_length : MI := (⟨"java/lang/StringUTF16", "length", "([B)I"⟩, prog_30_method_6_code, 1, (Option.some Jvm.ClassFile.FieldType.int), [])
abbrev M_StringUTF16_newBytesFor : MI := (⟨"java/lang/StringUTF16", "newBytesFor", "(I)[B"⟩, prog_30_method_2_code, 1, (Option.some (Jvm.ClassFile.FieldType.array Jvm.ClassFile.FieldType.byte)), [])
abbrev M_StringUTF16_newBytesLength : MI := (⟨"java/lang/StringUTF16", "newBytesLength", "(I)I"⟩, prog_30_method_3_code, 1, (Option.some Jvm.ClassFile.FieldType.int), [])
abbrev M_StringUTF16_putChar : MI := (⟨"java/lang/StringUTF16", "putChar", "([BII)V"⟩, prog_30_method_4_code, 3, (Option.none : Option Jvm.ClassFile.FieldType), [])
abbrev M_StringUTF16_putCharsAt : MI := (⟨"java/lang/StringUTF16", "putCharsAt", "([BICCCC)I"⟩, prog_30_method_81_code, 7, (Option.some Jvm.ClassFile.FieldType.int), [])
abbrev M_Throwable_init_0 : MI := (⟨"java/lang/Throwable", "<init>", "()V"⟩, prog_32_method_1_code, 1, (Option.none : Option Jvm.ClassFile.FieldType), [])
abbrev M_Throwable_init_1 : MI := (⟨"java/lang/Throwable", "<init>", "(Ljava/lang/String;)V"⟩, prog_32_method_2_code, 2, (Option.none : Option Jvm.ClassFile.FieldType), [])
abbrev M_Arrays_checkLength : MI := (⟨"java/util/Arrays", "checkLength", "(II)V"⟩, prog_33_method_131_code, 2, (Option.none : Option Jvm.ClassFile.FieldType), [])
abbrev M_Arrays_copyOf : MI := (⟨"java/util/Arrays", "copyOf", "([BI)[B"⟩, prog_33_method_121_code, 3, (Option.some (Jvm.ClassFile.FieldType.array Jvm.ClassFile.FieldType.byte)), [])
abbrev M_Arrays_copyOfRange : MI := (⟨"java/util/Arrays", "copyOfRange", "([BII)[B"⟩, prog_33_method_132_code, 3, (Option.some (Jvm.ClassFile.FieldType.array Jvm.ClassFile.FieldType.byte)), [])
abbrev M_Arrays_copyOfRangeByte : MI := (⟨"java/util/Arrays", "copyOfRangeByte", "([BII)[B"⟩, prog_33_method_133_code, 5, (Option.some (Jvm.ClassFile.FieldType.array Jvm.ClassFile.FieldType.byte)), [])
abbrev M_ArraysSupport_hugeLength : MI := (⟨"jdk/internal/util/ArraysSupport", "hugeLength", "(II)I"⟩, prog_34_method_28_code, 3, (Option.some Jvm.ClassFile.FieldType.int), [])
abbrev M_ArraysSupport_newLength : MI := (⟨"jdk/internal/util/ArraysSupport", "newLength", "(III)I"⟩, prog_34_method_27_code, 4, (Option.some Jvm.ClassFile.FieldType.int), [])
abbrev M_Preconditions_checkFromIndexSize : MI := (⟨"jdk/internal/util/Preconditions", "checkFromIndexSize", "(IIILjava/util/function/BiFunction;)I"⟩, prog_35_method_13_code, 4, (Option.some Jvm.ClassFile.FieldType.int), [])
abbrev M_Preconditions_checkFromToIndex : MI := (⟨"jdk/internal/util/Preconditions", "checkFromToIndex", "(IIILjava/util/function/BiFunction;)I"⟩, prog_35_method_12_code, 4, (Option.some Jvm.ClassFile.FieldType.int), [])
abbrev M_Preconditions_checkIndex : MI := (⟨"jdk/internal/util/Preconditions", "checkIndex", "(IILjava/util/function/BiFunction;)I"⟩, prog_35_method_11_code, 3, (Option.some Jvm.ClassFile.FieldType.int), [])
theorem k_Camp_init_ok : OkI M_Camp_init 0 := ⟨gm_1 (List.mem_of_getElem? (i := 35) rfl) rfl, gm_1 (List.mem_of_getElem? (i := 1) rfl) rfl, by decide, by decide, by decide +kernel⟩
theorem k_Camp_init_n : OkN M_Camp_init 0 := ⟨k_Camp_init_ok, rfl, rfl, rfl, gm_1 (List.mem_of_getElem? (i := 34) rfl) rfl⟩
theorem k_Camp_band_ok : OkI M_Camp_band 2 := ⟨gm_2 (List.mem_of_getElem? (i := 91) rfl) rfl, gm_1 (List.mem_of_getElem? (i := 1) rfl) rfl, by decide, by decide, by decide +kernel⟩
theorem k_Camp_band_v : OkV M_Camp_band 2 := ⟨k_Camp_band_ok, rfl, gm_2 (List.mem_of_getElem? (i := 89) rfl) rfl, gm_2 (List.mem_of_getElem? (i := 90) rfl) rfl⟩
theorem k_Camp_count_ok : OkI M_Camp_count 1 := ⟨gm_1 (List.mem_of_getElem? (i := 215) rfl) rfl, gm_1 (List.mem_of_getElem? (i := 1) rfl) rfl, by decide, by decide, by decide +kernel⟩
theorem k_Camp_count_v : OkV M_Camp_count 1 := ⟨k_Camp_count_ok, rfl, gm_1 (List.mem_of_getElem? (i := 213) rfl) rfl, gm_1 (List.mem_of_getElem? (i := 214) rfl) rfl⟩
theorem k_Camp_counted_ok : OkI M_Camp_counted 1 := ⟨gm_2 (List.mem_of_getElem? (i := 49) rfl) rfl, gm_1 (List.mem_of_getElem? (i := 1) rfl) rfl, by decide, by decide, by decide +kernel⟩
theorem k_Camp_counted_v : OkV M_Camp_counted 1 := ⟨k_Camp_counted_ok, rfl, gm_2 (List.mem_of_getElem? (i := 48) rfl) rfl, gp_1 (List.mem_of_getElem? (i := 1) rfl)⟩
theorem k_Camp_crevasse_ok : OkI M_Camp_crevasse 2 := ⟨gm_2 (List.mem_of_getElem? (i := 117) rfl) rfl, gm_1 (List.mem_of_getElem? (i := 1) rfl) rfl, by decide, by decide, by decide +kernel⟩
theorem k_Camp_crevasse_v : OkV M_Camp_crevasse 2 := ⟨k_Camp_crevasse_ok, rfl, gm_2 (List.mem_of_getElem? (i := 115) rfl) rfl, gm_2 (List.mem_of_getElem? (i := 116) rfl) rfl⟩
theorem k_Camp_depot_ok : OkI M_Camp_depot 2 := ⟨gm_3 (List.mem_of_getElem? (i := 172) rfl) rfl, gm_1 (List.mem_of_getElem? (i := 1) rfl) rfl, by decide, by decide, by decide +kernel⟩
theorem k_Camp_depot_v : OkV M_Camp_depot 2 := ⟨k_Camp_depot_ok, rfl, gm_3 (List.mem_of_getElem? (i := 170) rfl) rfl, gm_3 (List.mem_of_getElem? (i := 171) rfl) rfl⟩
theorem k_Camp_digest_ok : OkI M_Camp_digest 0 := ⟨gm_3 (List.mem_of_getElem? (i := 95) rfl) rfl, gm_1 (List.mem_of_getElem? (i := 1) rfl) rfl, by decide, by decide, by decide +kernel⟩
theorem k_Camp_digest_v : OkV M_Camp_digest 0 := ⟨k_Camp_digest_ok, rfl, gm_3 (List.mem_of_getElem? (i := 93) rfl) rfl, gm_3 (List.mem_of_getElem? (i := 94) rfl) rfl⟩
theorem k_Camp_digestOf_ok : OkI M_Camp_digestOf 3 := ⟨gm_3 (List.mem_of_getElem? (i := 100) rfl) rfl, gm_1 (List.mem_of_getElem? (i := 1) rfl) rfl, by decide, by decide, by decide +kernel⟩
theorem k_Camp_digestOf_s : OkS M_Camp_digestOf 3 := ⟨k_Camp_digestOf_ok, gm_3 (List.mem_of_getElem? (i := 99) rfl) rfl⟩
theorem k_Camp_feed_ok : OkI M_Camp_feed 5 := ⟨gm_4 (List.mem_of_getElem? (i := 9) rfl) rfl, gm_1 (List.mem_of_getElem? (i := 1) rfl) rfl, by decide, by decide, by decide +kernel⟩
theorem k_Camp_feed_v : OkV M_Camp_feed 5 := ⟨k_Camp_feed_ok, rfl, gm_4 (List.mem_of_getElem? (i := 7) rfl) rfl, gm_4 (List.mem_of_getElem? (i := 8) rfl) rfl⟩
theorem k_Camp_fill_ok : OkI M_Camp_fill 2 := ⟨gm_7 (List.mem_of_getElem? (i := 46) rfl) rfl, gm_1 (List.mem_of_getElem? (i := 1) rfl) rfl, by decide, by decide, by decide +kernel⟩
theorem k_Camp_fill_v : OkV M_Camp_fill 2 := ⟨k_Camp_fill_ok, rfl, gm_7 (List.mem_of_getElem? (i := 44) rfl) rfl, gm_7 (List.mem_of_getElem? (i := 45) rfl) rfl⟩
theorem k_Camp_foresee_ok : OkI M_Camp_foresee 2 := ⟨gm_3 (List.mem_of_getElem? (i := 84) rfl) rfl, gm_1 (List.mem_of_getElem? (i := 1) rfl) rfl, by decide, by decide, by decide +kernel⟩
theorem k_Camp_foresee_v : OkV M_Camp_foresee 2 := ⟨k_Camp_foresee_ok, rfl, gm_3 (List.mem_of_getElem? (i := 82) rfl) rfl, gm_3 (List.mem_of_getElem? (i := 83) rfl) rfl⟩
theorem k_Camp_go_ok : OkI M_Camp_go 2 := ⟨gm_2 (List.mem_of_getElem? (i := 132) rfl) rfl, gm_1 (List.mem_of_getElem? (i := 1) rfl) rfl, by decide, by decide, by decide +kernel⟩
theorem k_Camp_go_v : OkV M_Camp_go 2 := ⟨k_Camp_go_ok, rfl, gm_2 (List.mem_of_getElem? (i := 130) rfl) rfl, gm_2 (List.mem_of_getElem? (i := 131) rfl) rfl⟩
theorem k_Camp_mean_ok : OkI M_Camp_mean 0 := ⟨gm_3 (List.mem_of_getElem? (i := 177) rfl) rfl, gm_1 (List.mem_of_getElem? (i := 1) rfl) rfl, by decide, by decide, by decide +kernel⟩
theorem k_Camp_mean_v : OkV M_Camp_mean 0 := ⟨k_Camp_mean_ok, rfl, gm_3 (List.mem_of_getElem? (i := 175) rfl) rfl, gm_3 (List.mem_of_getElem? (i := 176) rfl) rfl⟩
theorem k_Camp_melt_ok : OkI M_Camp_melt 2 := ⟨gm_3 (List.mem_of_getElem? (i := 66) rfl) rfl, gm_1 (List.mem_of_getElem? (i := 1) rfl) rfl, by decide, by decide, by decide +kernel⟩
theorem k_Camp_melt_v : OkV M_Camp_melt 2 := ⟨k_Camp_melt_ok, rfl, gm_3 (List.mem_of_getElem? (i := 64) rfl) rfl, gm_3 (List.mem_of_getElem? (i := 65) rfl) rfl⟩
theorem k_Camp_needRange_ok : OkI M_Camp_needRange 3 := ⟨gm_2 (List.mem_of_getElem? (i := 192) rfl) rfl, gm_1 (List.mem_of_getElem? (i := 1) rfl) rfl, by decide, by decide, by decide +kernel⟩
theorem k_Camp_needRange_s : OkS M_Camp_needRange 3 := ⟨k_Camp_needRange_ok, gm_2 (List.mem_of_getElem? (i := 191) rfl) rfl⟩
theorem k_Camp_needRow_ok : OkI M_Camp_needRow 2 := ⟨gm_2 (List.mem_of_getElem? (i := 94) rfl) rfl, gm_1 (List.mem_of_getElem? (i := 1) rfl) rfl, by decide, by decide, by decide +kernel⟩
theorem k_Camp_needRow_s : OkS M_Camp_needRow 2 := ⟨k_Camp_needRow_ok, gm_2 (List.mem_of_getElem? (i := 93) rfl) rfl⟩
theorem k_Camp_needWhat_ok : OkI M_Camp_needWhat 2 := ⟨gm_1 (List.mem_of_getElem? (i := 218) rfl) rfl, gm_1 (List.mem_of_getElem? (i := 1) rfl) rfl, by decide, by decide, by decide +kernel⟩
theorem k_Camp_needWhat_s : OkS M_Camp_needWhat 2 := ⟨k_Camp_needWhat_ok, gm_1 (List.mem_of_getElem? (i := 217) rfl) rfl⟩
theorem k_Camp_pass_ok : OkI M_Camp_pass 1 := ⟨gm_2 (List.mem_of_getElem? (i := 189) rfl) rfl, gm_1 (List.mem_of_getElem? (i := 1) rfl) rfl, by decide, by decide, by decide +kernel⟩
theorem k_Camp_pass_v : OkV M_Camp_pass 1 := ⟨k_Camp_pass_ok, rfl, gm_2 (List.mem_of_getElem? (i := 187) rfl) rfl, gm_2 (List.mem_of_getElem? (i := 188) rfl) rfl⟩
theorem k_Camp_probe_ok : OkI M_Camp_probe 2 := ⟨gm_7 (List.mem_of_getElem? (i := 39) rfl) rfl, gm_1 (List.mem_of_getElem? (i := 1) rfl) rfl, by decide, by decide, by decide +kernel⟩
theorem k_Camp_probe_v : OkV M_Camp_probe 2 := ⟨k_Camp_probe_ok, rfl, gm_7 (List.mem_of_getElem? (i := 37) rfl) rfl, gm_7 (List.mem_of_getElem? (i := 38) rfl) rfl⟩
theorem k_Camp_safe_ok : OkI M_Camp_safe 2 := ⟨gm_3 (List.mem_of_getElem? (i := 89) rfl) rfl, gm_1 (List.mem_of_getElem? (i := 1) rfl) rfl, by decide, by decide, by decide +kernel⟩
theorem k_Camp_safe_v : OkV M_Camp_safe 2 := ⟨k_Camp_safe_ok, rfl, gm_3 (List.mem_of_getElem? (i := 87) rfl) rfl, gm_3 (List.mem_of_getElem? (i := 88) rfl) rfl⟩
theorem k_Camp_setWarm_ok : OkI M_Camp_setWarm 2 := ⟨gm_7 (List.mem_of_getElem? (i := 59) rfl) rfl, gm_1 (List.mem_of_getElem? (i := 1) rfl) rfl, by decide, by decide, by decide +kernel⟩
theorem k_Camp_setWarm_v : OkV M_Camp_setWarm 2 := ⟨k_Camp_setWarm_ok, rfl, gm_7 (List.mem_of_getElem? (i := 57) rfl) rfl, gm_7 (List.mem_of_getElem? (i := 58) rfl) rfl⟩
theorem k_Camp_stake_ok : OkI M_Camp_stake 2 := ⟨gm_2 (List.mem_of_getElem? (i := 112) rfl) rfl, gm_1 (List.mem_of_getElem? (i := 1) rfl) rfl, by decide, by decide, by decide +kernel⟩
theorem k_Camp_stake_v : OkV M_Camp_stake 2 := ⟨k_Camp_stake_ok, rfl, gm_2 (List.mem_of_getElem? (i := 110) rfl) rfl, gm_2 (List.mem_of_getElem? (i := 111) rfl) rfl⟩
theorem k_Camp_stock_ok : OkI M_Camp_stock 2 := ⟨gm_7 (List.mem_of_getElem? (i := 53) rfl) rfl, gm_1 (List.mem_of_getElem? (i := 1) rfl) rfl, by decide, by decide, by decide +kernel⟩
theorem k_Camp_stock_v : OkV M_Camp_stock 2 := ⟨k_Camp_stock_ok, rfl, gm_7 (List.mem_of_getElem? (i := 51) rfl) rfl, gm_7 (List.mem_of_getElem? (i := 52) rfl) rfl⟩
theorem k_Camp_takeOverDraft_ok : OkI M_Camp_takeOverDraft 0 := ⟨gm_5 (List.mem_of_getElem? (i := 181) rfl) rfl, gm_1 (List.mem_of_getElem? (i := 1) rfl) rfl, by decide, by decide, by decide +kernel⟩
theorem k_Camp_takeOverDraft_v : OkV M_Camp_takeOverDraft 0 := ⟨k_Camp_takeOverDraft_ok, rfl, gm_5 (List.mem_of_getElem? (i := 180) rfl) rfl, gp_3 (List.mem_of_getElem? (i := 10) rfl)⟩
theorem k_Camp_teach_ok : OkI M_Camp_teach 0 := ⟨gm_4 (List.mem_of_getElem? (i := 18) rfl) rfl, gm_1 (List.mem_of_getElem? (i := 1) rfl) rfl, by decide, by decide, by decide +kernel⟩
theorem k_Camp_teach_v : OkV M_Camp_teach 0 := ⟨k_Camp_teach_ok, rfl, gm_4 (List.mem_of_getElem? (i := 16) rfl) rfl, gm_4 (List.mem_of_getElem? (i := 17) rfl) rfl⟩
theorem k_Camp_team_ok : OkI M_Camp_team 2 := ⟨gm_2 (List.mem_of_getElem? (i := 128) rfl) rfl, gm_1 (List.mem_of_getElem? (i := 1) rfl) rfl, by decide, by decide, by decide +kernel⟩
theorem k_Camp_team_v : OkV M_Camp_team 2 := ⟨k_Camp_team_ok, rfl, gm_2 (List.mem_of_getElem? (i := 126) rfl) rfl, gm_2 (List.mem_of_getElem? (i := 127) rfl) rfl⟩
theorem k_Camp_trim_ok : OkI M_Camp_trim 1 := ⟨gm_3 (List.mem_of_getElem? (i := 192) rfl) rfl, gm_1 (List.mem_of_getElem? (i := 1) rfl) rfl, by decide, by decide, by decide +kernel⟩
theorem k_Camp_trim_v : OkV M_Camp_trim 1 := ⟨k_Camp_trim_ok, rfl, gm_3 (List.mem_of_getElem? (i := 190) rfl) rfl, gm_3 (List.mem_of_getElem? (i := 191) rfl) rfl⟩
theorem k_Camp_until_ok : OkI M_Camp_until 1 := ⟨gm_3 (List.mem_of_getElem? (i := 72) rfl) rfl, gm_1 (List.mem_of_getElem? (i := 1) rfl) rfl, by decide, by decide, by decide +kernel⟩
theorem k_Camp_until_v : OkV M_Camp_until 1 := ⟨k_Camp_until_ok, rfl, gm_3 (List.mem_of_getElem? (i := 70) rfl) rfl, gm_3 (List.mem_of_getElem? (i := 71) rfl) rfl⟩
theorem k_Formulas_init_ok : OkI M_Formulas_init 0 := ⟨gm_1 (List.mem_of_getElem? (i := 163) rfl) rfl, gm_1 (List.mem_of_getElem? (i := 9) rfl) rfl, by decide, by decide, by decide +kernel⟩
theorem k_Formulas_init_n : OkN M_Formulas_init 0 := ⟨k_Formulas_init_ok, rfl, rfl, rfl, gm_1 (List.mem_of_getElem? (i := 162) rfl) rfl⟩
theorem k_Formulas_clear_ok : OkI M_Formulas_clear 0 := ⟨gm_4 (List.mem_of_getElem? (i := 28) rfl) rfl, gm_1 (List.mem_of_getElem? (i := 9) rfl) rfl, by decide, by decide, by decide +kernel⟩
theorem k_Formulas_clear_v : OkV M_Formulas_clear 0 := ⟨k_Formulas_clear_ok, rfl, gm_4 (List.mem_of_getElem? (i := 26) rfl) rfl, gm_4 (List.mem_of_getElem? (i := 27) rfl) rfl⟩
theorem k_Formulas_joined_ok : OkI M_Formulas_joined 3 := ⟨gm_3 (List.mem_of_getElem? (i := 10) rfl) rfl, gm_1 (List.mem_of_getElem? (i := 9) rfl) rfl, by decide, by decide, by decide +kernel⟩
theorem k_Formulas_joined_s : OkS M_Formulas_joined 3 := ⟨k_Formulas_joined_ok, gm_3 (List.mem_of_getElem? (i := 9) rfl) rfl⟩
theorem k_Formulas_pop_ok : OkI M_Formulas_pop 0 := ⟨gm_3 (List.mem_of_getElem? (i := 7) rfl) rfl, gm_1 (List.mem_of_getElem? (i := 9) rfl) rfl, by decide, by decide, by decide +kernel⟩
theorem k_Formulas_pop_v : OkV M_Formulas_pop 0 := ⟨k_Formulas_pop_ok, rfl, gm_3 (List.mem_of_getElem? (i := 6) rfl) rfl, gp_1 (List.mem_of_getElem? (i := 7) rfl)⟩
theorem k_Formulas_push_ok : OkI M_Formulas_push 1 := ⟨gm_2 (List.mem_of_getElem? (i := 229) rfl) rfl, gm_1 (List.mem_of_getElem? (i := 9) rfl) rfl, by decide, by decide, by decide +kernel⟩
theorem k_Formulas_push_v : OkV M_Formulas_push 1 := ⟨k_Formulas_push_ok, rfl, gm_2 (List.mem_of_getElem? (i := 228) rfl) rfl, gp_1 (List.mem_of_getElem? (i := 6) rfl)⟩
theorem k_Formulas_put_ok : OkI M_Formulas_put 2 := ⟨gm_5 (List.mem_of_getElem? (i := 84) rfl) rfl, gm_1 (List.mem_of_getElem? (i := 9) rfl) rfl, by decide, by decide, by decide +kernel⟩
theorem k_Formulas_put_v : OkV M_Formulas_put 2 := ⟨k_Formulas_put_ok, rfl, gm_5 (List.mem_of_getElem? (i := 82) rfl) rfl, gm_5 (List.mem_of_getElem? (i := 83) rfl) rfl⟩
theorem k_Formulas_size_ok : OkI M_Formulas_size 0 := ⟨gm_5 (List.mem_of_getElem? (i := 62) rfl) rfl, gm_1 (List.mem_of_getElem? (i := 9) rfl) rfl, by decide, by decide, by decide +kernel⟩
theorem k_Formulas_size_v : OkV M_Formulas_size 0 := ⟨k_Formulas_size_ok, rfl, gm_5 (List.mem_of_getElem? (i := 60) rfl) rfl, gm_5 (List.mem_of_getElem? (i := 61) rfl) rfl⟩
theorem k_Formulas_worth_ok : OkI M_Formulas_worth 3 := ⟨gm_2 (List.mem_of_getElem? (i := 223) rfl) rfl, gm_1 (List.mem_of_getElem? (i := 9) rfl) rfl, by decide, by decide, by decide +kernel⟩
theorem k_Formulas_worth_v : OkV M_Formulas_worth 3 := ⟨k_Formulas_worth_ok, rfl, gm_2 (List.mem_of_getElem? (i := 221) rfl) rfl, gm_2 (List.mem_of_getElem? (i := 222) rfl) rfl⟩
theorem k_Glacier_init_ok : OkI M_Glacier_init 0 := ⟨gm_1 (List.mem_of_getElem? (i := 97) rfl) rfl, gm_1 (List.mem_of_getElem? (i := 6) rfl) rfl, by decide, by decide, by decide +kernel⟩
theorem k_Glacier_init_n : OkN M_Glacier_init 0 := ⟨k_Glacier_init_ok, rfl, rfl, rfl, gm_1 (List.mem_of_getElem? (i := 96) rfl) rfl⟩
theorem k_Glacier_addBand_ok : OkI M_Glacier_addBand 2 := ⟨gm_4 (List.mem_of_getElem? (i := 210) rfl) rfl, gm_1 (List.mem_of_getElem? (i := 6) rfl) rfl, by decide, by decide, by decide +kernel⟩
theorem k_Glacier_addBand_v : OkV M_Glacier_addBand 2 := ⟨k_Glacier_addBand_ok, rfl, gm_4 (List.mem_of_getElem? (i := 208) rfl) rfl, gm_4 (List.mem_of_getElem? (i := 209) rfl) rfl⟩
theorem k_Glacier_addCrevasse_ok : OkI M_Glacier_addCrevasse 2 := ⟨gm_5 (List.mem_of_getElem? (i := 2) rfl) rfl, gm_1 (List.mem_of_getElem? (i := 6) rfl) rfl, by decide, by decide, by decide +kernel⟩
theorem k_Glacier_addCrevasse_v : OkV M_Glacier_addCrevasse 2 := ⟨k_Glacier_addCrevasse_ok, rfl, gm_5 (List.mem_of_getElem? (i := 0) rfl) rfl, gm_5 (List.mem_of_getElem? (i := 1) rfl) rfl⟩
theorem k_Glacier_addDepot_ok : OkI M_Glacier_addDepot 2 := ⟨gm_5 (List.mem_of_getElem? (i := 12) rfl) rfl, gm_1 (List.mem_of_getElem? (i := 6) rfl) rfl, by decide, by decide, by decide +kernel⟩
theorem k_Glacier_addDepot_v : OkV M_Glacier_addDepot 2 := ⟨k_Glacier_addDepot_ok, rfl, gm_5 (List.mem_of_getElem? (i := 10) rfl) rfl, gm_5 (List.mem_of_getElem? (i := 11) rfl) rfl⟩
theorem k_Glacier_addStake_ok : OkI M_Glacier_addStake 2 := ⟨gm_4 (List.mem_of_getElem? (i := 230) rfl) rfl, gm_1 (List.mem_of_getElem? (i := 6) rfl) rfl, by decide, by decide, by decide +kernel⟩
theorem k_Glacier_addStake_v : OkV M_Glacier_addStake 2 := ⟨k_Glacier_addStake_ok, rfl, gm_4 (List.mem_of_getElem? (i := 228) rfl) rfl, gm_4 (List.mem_of_getElem? (i := 229) rfl) rfl⟩
theorem k_Glacier_addTeam_ok : OkI M_Glacier_addTeam 3 := ⟨gm_5 (List.mem_of_getElem? (i := 22) rfl) rfl, gm_1 (List.mem_of_getElem? (i := 6) rfl) rfl, by decide, by decide, by decide +kernel⟩
theorem k_Glacier_addTeam_v : OkV M_Glacier_addTeam 3 := ⟨k_Glacier_addTeam_ok, rfl, gm_5 (List.mem_of_getElem? (i := 20) rfl) rfl, gm_5 (List.mem_of_getElem? (i := 21) rfl) rfl⟩
theorem k_Glacier_bandFact_ok : OkI M_Glacier_bandFact 2 := ⟨gm_2 (List.mem_of_getElem? (i := 103) rfl) rfl, gm_1 (List.mem_of_getElem? (i := 6) rfl) rfl, by decide, by decide, by decide +kernel⟩
theorem k_Glacier_bandFact_v : OkV M_Glacier_bandFact 2 := ⟨k_Glacier_bandFact_ok, rfl, gm_2 (List.mem_of_getElem? (i := 101) rfl) rfl, gm_2 (List.mem_of_getElem? (i := 102) rfl) rfl⟩
theorem k_Glacier_become_ok : OkI M_Glacier_become 1 := ⟨gm_3 (List.mem_of_getElem? (i := 76) rfl) rfl, gm_1 (List.mem_of_getElem? (i := 6) rfl) rfl, by decide, by decide, by decide +kernel⟩
theorem k_Glacier_become_v : OkV M_Glacier_become 1 := ⟨k_Glacier_become_ok, rfl, gm_3 (List.mem_of_getElem? (i := 74) rfl) rfl, gm_3 (List.mem_of_getElem? (i := 75) rfl) rfl⟩
theorem k_Glacier_beginAnew_ok : OkI M_Glacier_beginAnew 1 := ⟨gm_1 (List.mem_of_getElem? (i := 115) rfl) rfl, gm_1 (List.mem_of_getElem? (i := 6) rfl) rfl, by decide, by decide, by decide +kernel⟩
theorem k_Glacier_beginAnew_v : OkV M_Glacier_beginAnew 1 := ⟨k_Glacier_beginAnew_ok, rfl, gm_1 (List.mem_of_getElem? (i := 113) rfl) rfl, gm_1 (List.mem_of_getElem? (i := 114) rfl) rfl⟩
theorem k_Glacier_canDo_ok : OkI M_Glacier_canDo 1 := ⟨gm_2 (List.mem_of_getElem? (i := 144) rfl) rfl, gm_1 (List.mem_of_getElem? (i := 6) rfl) rfl, by decide, by decide, by decide +kernel⟩
theorem k_Glacier_canDo_v : OkV M_Glacier_canDo 1 := ⟨k_Glacier_canDo_ok, rfl, gm_2 (List.mem_of_getElem? (i := 143) rfl) rfl, gp_1 (List.mem_of_getElem? (i := 2) rfl)⟩
theorem k_Glacier_canGo_ok : OkI M_Glacier_canGo 2 := ⟨gm_2 (List.mem_of_getElem? (i := 140) rfl) rfl, gm_1 (List.mem_of_getElem? (i := 6) rfl) rfl, by decide, by decide, by decide +kernel⟩
theorem k_Glacier_canGo_v : OkV M_Glacier_canGo 2 := ⟨k_Glacier_canGo_ok, rfl, gm_2 (List.mem_of_getElem? (i := 138) rfl) rfl, gm_2 (List.mem_of_getElem? (i := 139) rfl) rfl⟩
theorem k_Glacier_changeWarmth_ok : OkI M_Glacier_changeWarmth 2 := ⟨gm_5 (List.mem_of_getElem? (i := 34) rfl) rfl, gm_1 (List.mem_of_getElem? (i := 6) rfl) rfl, by decide, by decide, by decide +kernel⟩
theorem k_Glacier_changeWarmth_v : OkV M_Glacier_changeWarmth 2 := ⟨k_Glacier_changeWarmth_ok, rfl, gm_5 (List.mem_of_getElem? (i := 32) rfl) rfl, gm_5 (List.mem_of_getElem? (i := 33) rfl) rfl⟩
theorem k_Glacier_crevasseFact_ok : OkI M_Glacier_crevasseFact 2 := ⟨gm_2 (List.mem_of_getElem? (i := 121) rfl) rfl, gm_1 (List.mem_of_getElem? (i := 6) rfl) rfl, by decide, by decide, by decide +kernel⟩
theorem k_Glacier_crevasseFact_v : OkV M_Glacier_crevasseFact 2 := ⟨k_Glacier_crevasseFact_ok, rfl, gm_2 (List.mem_of_getElem? (i := 119) rfl) rfl, gm_2 (List.mem_of_getElem? (i := 120) rfl) rfl⟩
theorem k_Glacier_day_ok : OkI M_Glacier_day 0 := ⟨gm_2 (List.mem_of_getElem? (i := 53) rfl) rfl, gm_1 (List.mem_of_getElem? (i := 6) rfl) rfl, by decide, by decide, by decide +kernel⟩
theorem k_Glacier_day_v : OkV M_Glacier_day 0 := ⟨k_Glacier_day_ok, rfl, gm_2 (List.mem_of_getElem? (i := 51) rfl) rfl, gm_2 (List.mem_of_getElem? (i := 52) rfl) rfl⟩
theorem k_Glacier_eat_ok : OkI M_Glacier_eat 1 := ⟨gm_3 (List.mem_of_getElem? (i := 54) rfl) rfl, gm_1 (List.mem_of_getElem? (i := 6) rfl) rfl, by decide, by decide, by decide +kernel⟩
theorem k_Glacier_eat_v : OkV M_Glacier_eat 1 := ⟨k_Glacier_eat_ok, rfl, gm_3 (List.mem_of_getElem? (i := 53) rfl) rfl, gp_1 (List.mem_of_getElem? (i := 12) rfl)⟩
theorem k_Glacier_endDay_ok : OkI M_Glacier_endDay 0 := ⟨gm_3 (List.mem_of_getElem? (i := 62) rfl) rfl, gm_1 (List.mem_of_getElem? (i := 6) rfl) rfl, by decide, by decide, by decide +kernel⟩
theorem k_Glacier_endDay_v : OkV M_Glacier_endDay 0 := ⟨k_Glacier_endDay_ok, rfl, gm_3 (List.mem_of_getElem? (i := 61) rfl) rfl, gp_1 (List.mem_of_getElem? (i := 14) rfl)⟩
theorem k_Glacier_fallingPlace_ok : OkI M_Glacier_fallingPlace 2 := ⟨gm_2 (List.mem_of_getElem? (i := 153) rfl) rfl, gm_1 (List.mem_of_getElem? (i := 6) rfl) rfl, by decide, by decide, by decide +kernel⟩
theorem k_Glacier_fallingPlace_v : OkV M_Glacier_fallingPlace 2 := ⟨k_Glacier_fallingPlace_ok, rfl, gm_2 (List.mem_of_getElem? (i := 151) rfl) rfl, gm_2 (List.mem_of_getElem? (i := 152) rfl) rfl⟩
theorem k_Glacier_firstStore_ok : OkI M_Glacier_firstStore 1 := ⟨gm_3 (List.mem_of_getElem? (i := 29) rfl) rfl, gm_1 (List.mem_of_getElem? (i := 6) rfl) rfl, by decide, by decide, by decide +kernel⟩
theorem k_Glacier_firstStore_v : OkV M_Glacier_firstStore 1 := ⟨k_Glacier_firstStore_ok, rfl, gm_3 (List.mem_of_getElem? (i := 28) rfl) rfl, gp_1 (List.mem_of_getElem? (i := 8) rfl)⟩
theorem k_Glacier_isHere_ok : OkI M_Glacier_isHere 1 := ⟨gm_3 (List.mem_of_getElem? (i := 33) rfl) rfl, gm_1 (List.mem_of_getElem? (i := 6) rfl) rfl, by decide, by decide, by decide +kernel⟩
theorem k_Glacier_isHere_v : OkV M_Glacier_isHere 1 := ⟨k_Glacier_isHere_ok, rfl, gm_3 (List.mem_of_getElem? (i := 31) rfl) rfl, gm_3 (List.mem_of_getElem? (i := 32) rfl) rfl⟩
theorem k_Glacier_isTooWeak_ok : OkI M_Glacier_isTooWeak 3 := ⟨gm_2 (List.mem_of_getElem? (i := 149) rfl) rfl, gm_1 (List.mem_of_getElem? (i := 6) rfl) rfl, by decide, by decide, by decide +kernel⟩
theorem k_Glacier_isTooWeak_v : OkV M_Glacier_isTooWeak 3 := ⟨k_Glacier_isTooWeak_ok, rfl, gm_2 (List.mem_of_getElem? (i := 148) rfl) rfl, gp_1 (List.mem_of_getElem? (i := 3) rfl)⟩
theorem k_Glacier_letCross_ok : OkI M_Glacier_letCross 2 := ⟨gm_2 (List.mem_of_getElem? (i := 169) rfl) rfl, gm_1 (List.mem_of_getElem? (i := 6) rfl) rfl, by decide, by decide, by decide +kernel⟩
theorem k_Glacier_letCross_v : OkV M_Glacier_letCross 2 := ⟨k_Glacier_letCross_ok, rfl, gm_2 (List.mem_of_getElem? (i := 168) rfl) rfl, gp_1 (List.mem_of_getElem? (i := 5) rfl)⟩
theorem k_Glacier_letFall_ok : OkI M_Glacier_letFall 2 := ⟨gm_2 (List.mem_of_getElem? (i := 157) rfl) rfl, gm_1 (List.mem_of_getElem? (i := 6) rfl) rfl, by decide, by decide, by decide +kernel⟩
theorem k_Glacier_letFall_v : OkV M_Glacier_letFall 2 := ⟨k_Glacier_letFall_ok, rfl, gm_2 (List.mem_of_getElem? (i := 156) rfl) rfl, gp_1 (List.mem_of_getElem? (i := 4) rfl)⟩
theorem k_Glacier_moveBridges_ok : OkI M_Glacier_moveBridges 2 := ⟨gm_3 (List.mem_of_getElem? (i := 50) rfl) rfl, gm_1 (List.mem_of_getElem? (i := 6) rfl) rfl, by decide, by decide, by decide +kernel⟩
theorem k_Glacier_moveBridges_v : OkV M_Glacier_moveBridges 2 := ⟨k_Glacier_moveBridges_ok, rfl, gm_3 (List.mem_of_getElem? (i := 49) rfl) rfl, gp_1 (List.mem_of_getElem? (i := 11) rfl)⟩
theorem k_Glacier_moveStakes_ok : OkI M_Glacier_moveStakes 2 := ⟨gm_3 (List.mem_of_getElem? (i := 46) rfl) rfl, gm_1 (List.mem_of_getElem? (i := 6) rfl) rfl, by decide, by decide, by decide +kernel⟩
theorem k_Glacier_moveStakes_v : OkV M_Glacier_moveStakes 2 := ⟨k_Glacier_moveStakes_ok, rfl, gm_3 (List.mem_of_getElem? (i := 45) rfl) rfl, gp_1 (List.mem_of_getElem? (i := 10) rfl)⟩
theorem k_Glacier_passDay_ok : OkI M_Glacier_passDay 1 := ⟨gm_2 (List.mem_of_getElem? (i := 213) rfl) rfl, gm_1 (List.mem_of_getElem? (i := 6) rfl) rfl, by decide, by decide, by decide +kernel⟩
theorem k_Glacier_passDay_v : OkV M_Glacier_passDay 1 := ⟨k_Glacier_passDay_ok, rfl, gm_2 (List.mem_of_getElem? (i := 211) rfl) rfl, gm_2 (List.mem_of_getElem? (i := 212) rfl) rfl⟩
theorem k_Glacier_readStakes_ok : OkI M_Glacier_readStakes 1 := ⟨gm_3 (List.mem_of_getElem? (i := 58) rfl) rfl, gm_1 (List.mem_of_getElem? (i := 6) rfl) rfl, by decide, by decide, by decide +kernel⟩
theorem k_Glacier_readStakes_v : OkV M_Glacier_readStakes 1 := ⟨k_Glacier_readStakes_ok, rfl, gm_3 (List.mem_of_getElem? (i := 57) rfl) rfl, gp_1 (List.mem_of_getElem? (i := 13) rfl)⟩
theorem k_Glacier_takeFood_ok : OkI M_Glacier_takeFood 2 := ⟨gm_3 (List.mem_of_getElem? (i := 25) rfl) rfl, gm_1 (List.mem_of_getElem? (i := 6) rfl) rfl, by decide, by decide, by decide +kernel⟩
theorem k_Glacier_takeFood_v : OkV M_Glacier_takeFood 2 := ⟨k_Glacier_takeFood_ok, rfl, gm_3 (List.mem_of_getElem? (i := 23) rfl) rfl, gm_3 (List.mem_of_getElem? (i := 24) rfl) rfl⟩
theorem k_Glacier_total_ok : OkI M_Glacier_total 1 := ⟨gm_2 (List.mem_of_getElem? (i := 78) rfl) rfl, gm_1 (List.mem_of_getElem? (i := 6) rfl) rfl, by decide, by decide, by decide +kernel⟩
theorem k_Glacier_total_v : OkV M_Glacier_total 1 := ⟨k_Glacier_total_ok, rfl, gm_2 (List.mem_of_getElem? (i := 76) rfl) rfl, gm_2 (List.mem_of_getElem? (i := 77) rfl) rfl⟩
theorem k_Glacier_tryDrill_ok : OkI M_Glacier_tryDrill 1 := ⟨gm_3 (List.mem_of_getElem? (i := 38) rfl) rfl, gm_1 (List.mem_of_getElem? (i := 6) rfl) rfl, by decide, by decide, by decide +kernel⟩
theorem k_Glacier_tryDrill_v : OkV M_Glacier_tryDrill 1 := ⟨k_Glacier_tryDrill_ok, rfl, gm_3 (List.mem_of_getElem? (i := 36) rfl) rfl, gm_3 (List.mem_of_getElem? (i := 37) rfl) rfl⟩
theorem k_Glacier_tryGo_ok : OkI M_Glacier_tryGo 2 := ⟨gm_2 (List.mem_of_getElem? (i := 136) rfl) rfl, gm_1 (List.mem_of_getElem? (i := 6) rfl) rfl, by decide, by decide, by decide +kernel⟩
theorem k_Glacier_tryGo_v : OkV M_Glacier_tryGo 2 := ⟨k_Glacier_tryGo_ok, rfl, gm_2 (List.mem_of_getElem? (i := 134) rfl) rfl, gm_2 (List.mem_of_getElem? (i := 135) rfl) rfl⟩
theorem k_Glacier_tryProbe_ok : OkI M_Glacier_tryProbe 2 := ⟨gm_3 (List.mem_of_getElem? (i := 21) rfl) rfl, gm_1 (List.mem_of_getElem? (i := 6) rfl) rfl, by decide, by decide, by decide +kernel⟩
theorem k_Glacier_tryProbe_v : OkV M_Glacier_tryProbe 2 := ⟨k_Glacier_tryProbe_ok, rfl, gm_3 (List.mem_of_getElem? (i := 19) rfl) rfl, gm_3 (List.mem_of_getElem? (i := 20) rfl) rfl⟩
theorem k_Glacier_valueOf_ok : OkI M_Glacier_valueOf 2 := ⟨gm_2 (List.mem_of_getElem? (i := 233) rfl) rfl, gm_1 (List.mem_of_getElem? (i := 6) rfl) rfl, by decide, by decide, by decide +kernel⟩
theorem k_Glacier_valueOf_v : OkV M_Glacier_valueOf 2 := ⟨k_Glacier_valueOf_ok, rfl, gm_2 (List.mem_of_getElem? (i := 231) rfl) rfl, gm_2 (List.mem_of_getElem? (i := 232) rfl) rfl⟩
theorem k_Glacier_warmthOf_ok : OkI M_Glacier_warmthOf 1 := ⟨gm_2 (List.mem_of_getElem? (i := 70) rfl) rfl, gm_1 (List.mem_of_getElem? (i := 6) rfl) rfl, by decide, by decide, by decide +kernel⟩
theorem k_Glacier_warmthOf_v : OkV M_Glacier_warmthOf 1 := ⟨k_Glacier_warmthOf_ok, rfl, gm_2 (List.mem_of_getElem? (i := 68) rfl) rfl, gm_2 (List.mem_of_getElem? (i := 69) rfl) rfl⟩
theorem k_Glacier_warmthToday_ok : OkI M_Glacier_warmthToday 0 := ⟨gm_2 (List.mem_of_getElem? (i := 66) rfl) rfl, gm_1 (List.mem_of_getElem? (i := 6) rfl) rfl, by decide, by decide, by decide +kernel⟩
theorem k_Glacier_warmthToday_v : OkV M_Glacier_warmthToday 0 := ⟨k_Glacier_warmthToday_ok, rfl, gm_2 (List.mem_of_getElem? (i := 64) rfl) rfl, gm_2 (List.mem_of_getElem? (i := 65) rfl) rfl⟩
theorem k_Glacier_weather_ok : OkI M_Glacier_weather 1 := ⟨gm_3 (List.mem_of_getElem? (i := 42) rfl) rfl, gm_1 (List.mem_of_getElem? (i := 6) rfl) rfl, by decide, by decide, by decide +kernel⟩
theorem k_Glacier_weather_v : OkV M_Glacier_weather 1 := ⟨k_Glacier_weather_ok, rfl, gm_3 (List.mem_of_getElem? (i := 41) rfl) rfl, gp_1 (List.mem_of_getElem? (i := 9) rfl)⟩
theorem k_Names_init_ok : OkI M_Names_init 0 := ⟨gm_4 (List.mem_of_getElem? (i := 95) rfl) rfl, gm_1 (List.mem_of_getElem? (i := 28) rfl) rfl, by decide, by decide, by decide +kernel⟩
theorem k_Names_init_n : OkN M_Names_init 0 := ⟨k_Names_init_ok, rfl, rfl, rfl, gm_4 (List.mem_of_getElem? (i := 94) rfl) rfl⟩
theorem k_Names_add_ok : OkI M_Names_add 1 := ⟨gm_4 (List.mem_of_getElem? (i := 192) rfl) rfl, gm_1 (List.mem_of_getElem? (i := 28) rfl) rfl, by decide, by decide, by decide +kernel⟩
theorem k_Names_add_v : OkV M_Names_add 1 := ⟨k_Names_add_ok, rfl, gm_4 (List.mem_of_getElem? (i := 190) rfl) rfl, gm_4 (List.mem_of_getElem? (i := 191) rfl) rfl⟩
theorem k_Names_find_ok : OkI M_Names_find 1 := ⟨gm_4 (List.mem_of_getElem? (i := 176) rfl) rfl, gm_1 (List.mem_of_getElem? (i := 28) rfl) rfl, by decide, by decide, by decide +kernel⟩
theorem k_Names_find_v : OkV M_Names_find 1 := ⟨k_Names_find_ok, rfl, gm_4 (List.mem_of_getElem? (i := 174) rfl) rfl, gm_4 (List.mem_of_getElem? (i := 175) rfl) rfl⟩
theorem k_Names_size_ok : OkI M_Names_size 0 := ⟨gm_4 (List.mem_of_getElem? (i := 188) rfl) rfl, gm_1 (List.mem_of_getElem? (i := 28) rfl) rfl, by decide, by decide, by decide +kernel⟩
theorem k_Names_size_v : OkV M_Names_size 0 := ⟨k_Names_size_ok, rfl, gm_4 (List.mem_of_getElem? (i := 186) rfl) rfl, gm_4 (List.mem_of_getElem? (i := 187) rfl) rfl⟩
theorem k_Orders_init_ok : OkI M_Orders_init 0 := ⟨gm_1 (List.mem_of_getElem? (i := 155) rfl) rfl, gm_1 (List.mem_of_getElem? (i := 8) rfl) rfl, by decide, by decide, by decide +kernel⟩
theorem k_Orders_init_n : OkN M_Orders_init 0 := ⟨k_Orders_init_ok, rfl, rfl, rfl, gm_1 (List.mem_of_getElem? (i := 154) rfl) rfl⟩
theorem k_Orders_add_ok : OkI M_Orders_add 1 := ⟨gm_5 (List.mem_of_getElem? (i := 46) rfl) rfl, gm_1 (List.mem_of_getElem? (i := 8) rfl) rfl, by decide, by decide, by decide +kernel⟩
theorem k_Orders_add_v : OkV M_Orders_add 1 := ⟨k_Orders_add_ok, rfl, gm_5 (List.mem_of_getElem? (i := 44) rfl) rfl, gm_5 (List.mem_of_getElem? (i := 45) rfl) rfl⟩
theorem k_Orders_carryOut_ok : OkI M_Orders_carryOut 2 := ⟨gm_2 (List.mem_of_getElem? (i := 218) rfl) rfl, gm_1 (List.mem_of_getElem? (i := 8) rfl) rfl, by decide, by decide, by decide +kernel⟩
theorem k_Orders_carryOut_v : OkV M_Orders_carryOut 2 := ⟨k_Orders_carryOut_ok, rfl, gm_2 (List.mem_of_getElem? (i := 216) rfl) rfl, gm_2 (List.mem_of_getElem? (i := 217) rfl) rfl⟩
theorem k_Orders_clear_ok : OkI M_Orders_clear 0 := ⟨gm_4 (List.mem_of_getElem? (i := 23) rfl) rfl, gm_1 (List.mem_of_getElem? (i := 8) rfl) rfl, by decide, by decide, by decide +kernel⟩
theorem k_Orders_clear_v : OkV M_Orders_clear 0 := ⟨k_Orders_clear_ok, rfl, gm_4 (List.mem_of_getElem? (i := 21) rfl) rfl, gm_4 (List.mem_of_getElem? (i := 22) rfl) rfl⟩
theorem k_Orders_note_ok : OkI M_Orders_note 2 := ⟨gm_5 (List.mem_of_getElem? (i := 52) rfl) rfl, gm_1 (List.mem_of_getElem? (i := 8) rfl) rfl, by decide, by decide, by decide +kernel⟩
theorem k_Orders_note_v : OkV M_Orders_note 2 := ⟨k_Orders_note_ok, rfl, gm_5 (List.mem_of_getElem? (i := 50) rfl) rfl, gm_5 (List.mem_of_getElem? (i := 51) rfl) rfl⟩
theorem k_Orders_size_ok : OkI M_Orders_size 0 := ⟨gm_2 (List.mem_of_getElem? (i := 61) rfl) rfl, gm_1 (List.mem_of_getElem? (i := 8) rfl) rfl, by decide, by decide, by decide +kernel⟩
theorem k_Orders_size_v : OkV M_Orders_size 0 := ⟨k_Orders_size_ok, rfl, gm_2 (List.mem_of_getElem? (i := 59) rfl) rfl, gm_2 (List.mem_of_getElem? (i := 60) rfl) rfl⟩
theorem k_Table_init_ok : OkI M_Table_init 1 := ⟨gm_1 (List.mem_of_getElem? (i := 103) rfl) rfl, gm_1 (List.mem_of_getElem? (i := 7) rfl) rfl, by decide, by decide, by decide +kernel⟩
theorem k_Table_init_n : OkN M_Table_init 1 := ⟨k_Table_init_ok, rfl, rfl, rfl, gm_1 (List.mem_of_getElem? (i := 102) rfl) rfl⟩
theorem k_Table_add_ok : OkI M_Table_add 3 := ⟨gm_2 (List.mem_of_getElem? (i := 165) rfl) rfl, gm_1 (List.mem_of_getElem? (i := 7) rfl) rfl, by decide, by decide, by decide +kernel⟩
theorem k_Table_add_v : OkV M_Table_add 3 := ⟨k_Table_add_ok, rfl, gm_2 (List.mem_of_getElem? (i := 163) rfl) rfl, gm_2 (List.mem_of_getElem? (i := 164) rfl) rfl⟩
theorem k_Table_addRow_ok : OkI M_Table_addRow 0 := ⟨gm_4 (List.mem_of_getElem? (i := 214) rfl) rfl, gm_1 (List.mem_of_getElem? (i := 7) rfl) rfl, by decide, by decide, by decide +kernel⟩
theorem k_Table_addRow_v : OkV M_Table_addRow 0 := ⟨k_Table_addRow_ok, rfl, gm_4 (List.mem_of_getElem? (i := 212) rfl) rfl, gm_4 (List.mem_of_getElem? (i := 213) rfl) rfl⟩
theorem k_Table_become_ok : OkI M_Table_become 1 := ⟨gm_3 (List.mem_of_getElem? (i := 80) rfl) rfl, gm_1 (List.mem_of_getElem? (i := 7) rfl) rfl, by decide, by decide, by decide +kernel⟩
theorem k_Table_become_v : OkV M_Table_become 1 := ⟨k_Table_become_ok, rfl, gm_3 (List.mem_of_getElem? (i := 78) rfl) rfl, gm_3 (List.mem_of_getElem? (i := 79) rfl) rfl⟩
theorem k_Table_clear_ok : OkI M_Table_clear 0 := ⟨gm_1 (List.mem_of_getElem? (i := 119) rfl) rfl, gm_1 (List.mem_of_getElem? (i := 7) rfl) rfl, by decide, by decide, by decide +kernel⟩
theorem k_Table_clear_v : OkV M_Table_clear 0 := ⟨k_Table_clear_ok, rfl, gm_1 (List.mem_of_getElem? (i := 117) rfl) rfl, gm_1 (List.mem_of_getElem? (i := 118) rfl) rfl⟩
theorem k_Table_get_ok : OkI M_Table_get 2 := ⟨gm_2 (List.mem_of_getElem? (i := 86) rfl) rfl, gm_1 (List.mem_of_getElem? (i := 7) rfl) rfl, by decide, by decide, by decide +kernel⟩
theorem k_Table_get_v : OkV M_Table_get 2 := ⟨k_Table_get_ok, rfl, gm_2 (List.mem_of_getElem? (i := 84) rfl) rfl, gm_2 (List.mem_of_getElem? (i := 85) rfl) rfl⟩
theorem k_Table_has_ok : OkI M_Table_has 1 := ⟨gm_2 (List.mem_of_getElem? (i := 98) rfl) rfl, gm_1 (List.mem_of_getElem? (i := 7) rfl) rfl, by decide, by decide, by decide +kernel⟩
theorem k_Table_has_v : OkV M_Table_has 1 := ⟨k_Table_has_ok, rfl, gm_2 (List.mem_of_getElem? (i := 96) rfl) rfl, gm_2 (List.mem_of_getElem? (i := 97) rfl) rfl⟩
theorem k_Table_matches_ok : OkI M_Table_matches 4 := ⟨gm_2 (List.mem_of_getElem? (i := 107) rfl) rfl, gm_1 (List.mem_of_getElem? (i := 7) rfl) rfl, by decide, by decide, by decide +kernel⟩
theorem k_Table_matches_v : OkV M_Table_matches 4 := ⟨k_Table_matches_ok, rfl, gm_2 (List.mem_of_getElem? (i := 105) rfl) rfl, gm_2 (List.mem_of_getElem? (i := 106) rfl) rfl⟩
theorem k_Table_rows_ok : OkI M_Table_rows 0 := ⟨gm_2 (List.mem_of_getElem? (i := 57) rfl) rfl, gm_1 (List.mem_of_getElem? (i := 7) rfl) rfl, by decide, by decide, by decide +kernel⟩
theorem k_Table_rows_v : OkV M_Table_rows 0 := ⟨k_Table_rows_ok, rfl, gm_2 (List.mem_of_getElem? (i := 55) rfl) rfl, gm_2 (List.mem_of_getElem? (i := 56) rfl) rfl⟩
theorem k_Table_set_ok : OkI M_Table_set 3 := ⟨gm_2 (List.mem_of_getElem? (i := 161) rfl) rfl, gm_1 (List.mem_of_getElem? (i := 7) rfl) rfl, by decide, by decide, by decide +kernel⟩
theorem k_Table_set_v : OkV M_Table_set 3 := ⟨k_Table_set_ok, rfl, gm_2 (List.mem_of_getElem? (i := 159) rfl) rfl, gm_2 (List.mem_of_getElem? (i := 160) rfl) rfl⟩
theorem k_Table_sum_ok : OkI M_Table_sum 1 := ⟨gm_2 (List.mem_of_getElem? (i := 82) rfl) rfl, gm_1 (List.mem_of_getElem? (i := 7) rfl) rfl, by decide, by decide, by decide +kernel⟩
theorem k_Table_sum_v : OkV M_Table_sum 1 := ⟨k_Table_sum_ok, rfl, gm_2 (List.mem_of_getElem? (i := 80) rfl) rfl, gm_2 (List.mem_of_getElem? (i := 81) rfl) rfl⟩
theorem k_Tape_init_ok : OkI M_Tape_init 0 := ⟨gm_1 (List.mem_of_getElem? (i := 43) rfl) rfl, gm_1 (List.mem_of_getElem? (i := 2) rfl) rfl, by decide, by decide, by decide +kernel⟩
theorem k_Tape_init_n : OkN M_Tape_init 0 := ⟨k_Tape_init_ok, rfl, rfl, rfl, gm_1 (List.mem_of_getElem? (i := 42) rfl) rfl⟩
theorem k_Tape_append_ok : OkI M_Tape_append 1 := ⟨gm_4 (List.mem_of_getElem? (i := 14) rfl) rfl, gm_1 (List.mem_of_getElem? (i := 2) rfl) rfl, by decide, by decide, by decide +kernel⟩
theorem k_Tape_append_v : OkV M_Tape_append 1 := ⟨k_Tape_append_ok, rfl, gm_4 (List.mem_of_getElem? (i := 12) rfl) rfl, gm_4 (List.mem_of_getElem? (i := 13) rfl) rfl⟩
theorem k_Tape_byteAt_ok : OkI M_Tape_byteAt 1 := ⟨gm_4 (List.mem_of_getElem? (i := 40) rfl) rfl, gm_1 (List.mem_of_getElem? (i := 2) rfl) rfl, by decide, by decide, by decide +kernel⟩
theorem k_Tape_byteAt_v : OkV M_Tape_byteAt 1 := ⟨k_Tape_byteAt_ok, rfl, gm_4 (List.mem_of_getElem? (i := 38) rfl) rfl, gm_4 (List.mem_of_getElem? (i := 39) rfl) rfl⟩
theorem k_Tape_cut_ok : OkI M_Tape_cut 1 := ⟨gm_3 (List.mem_of_getElem? (i := 197) rfl) rfl, gm_1 (List.mem_of_getElem? (i := 2) rfl) rfl, by decide, by decide, by decide +kernel⟩
theorem k_Tape_cut_v : OkV M_Tape_cut 1 := ⟨k_Tape_cut_ok, rfl, gm_3 (List.mem_of_getElem? (i := 195) rfl) rfl, gm_3 (List.mem_of_getElem? (i := 196) rfl) rfl⟩
theorem k_Tape_size_ok : OkI M_Tape_size 0 := ⟨gm_2 (List.mem_of_getElem? (i := 74) rfl) rfl, gm_1 (List.mem_of_getElem? (i := 2) rfl) rfl, by decide, by decide, by decide +kernel⟩
theorem k_Tape_size_v : OkV M_Tape_size 0 := ⟨k_Tape_size_ok, rfl, gm_2 (List.mem_of_getElem? (i := 72) rfl) rfl, gm_2 (List.mem_of_getElem? (i := 73) rfl) rfl⟩
theorem k_Teacher_init_ok : OkI M_Teacher_init 3 := ⟨gm_4 (List.mem_of_getElem? (i := 89) rfl) rfl, gm_1 (List.mem_of_getElem? (i := 27) rfl) rfl, by decide, by decide, by decide +kernel⟩
theorem k_Teacher_init_n : OkN M_Teacher_init 3 := ⟨k_Teacher_init_ok, rfl, rfl, rfl, gm_4 (List.mem_of_getElem? (i := 88) rfl) rfl⟩
theorem k_Teacher_error_ok : OkI M_Teacher_error 0 := ⟨gm_5 (List.mem_of_getElem? (i := 177) rfl) rfl, gm_1 (List.mem_of_getElem? (i := 27) rfl) rfl, by decide, by decide, by decide +kernel⟩
theorem k_Teacher_error_v : OkV M_Teacher_error 0 := ⟨k_Teacher_error_ok, rfl, gm_5 (List.mem_of_getElem? (i := 175) rfl) rfl, gm_5 (List.mem_of_getElem? (i := 176) rfl) rfl⟩
theorem k_Teacher_errorPosition_ok : OkI M_Teacher_errorPosition 0 := ⟨gm_5 (List.mem_of_getElem? (i := 173) rfl) rfl, gm_1 (List.mem_of_getElem? (i := 27) rfl) rfl, by decide, by decide, by decide +kernel⟩
theorem k_Teacher_errorPosition_v : OkV M_Teacher_errorPosition 0 := ⟨k_Teacher_errorPosition_ok, rfl, gm_5 (List.mem_of_getElem? (i := 171) rfl) rfl, gm_5 (List.mem_of_getElem? (i := 172) rfl) rfl⟩
theorem k_Teacher_goesDeeper_ok : OkI M_Teacher_goesDeeper 1 := ⟨gm_5 (List.mem_of_getElem? (i := 80) rfl) rfl, gm_1 (List.mem_of_getElem? (i := 27) rfl) rfl, by decide, by decide, by decide +kernel⟩
theorem k_Teacher_goesDeeper_v : OkV M_Teacher_goesDeeper 1 := ⟨k_Teacher_goesDeeper_ok, rfl, gm_5 (List.mem_of_getElem? (i := 79) rfl) rfl, gp_3 (List.mem_of_getElem? (i := 2) rfl)⟩
theorem k_Teacher_isComparison_ok : OkI M_Teacher_isComparison 1 := ⟨gm_5 (List.mem_of_getElem? (i := 131) rfl) rfl, gm_1 (List.mem_of_getElem? (i := 27) rfl) rfl, by decide, by decide, by decide +kernel⟩
theorem k_Teacher_isComparison_s : OkS M_Teacher_isComparison 1 := ⟨k_Teacher_isComparison_ok, gm_5 (List.mem_of_getElem? (i := 130) rfl) rfl⟩
theorem k_Teacher_newName_ok : OkI M_Teacher_newName 2 := ⟨gm_4 (List.mem_of_getElem? (i := 162) rfl) rfl, gm_1 (List.mem_of_getElem? (i := 27) rfl) rfl, by decide, by decide, by decide +kernel⟩
theorem k_Teacher_newName_v : OkV M_Teacher_newName 2 := ⟨k_Teacher_newName_ok, rfl, gm_4 (List.mem_of_getElem? (i := 161) rfl) rfl, gp_2 (List.mem_of_getElem? (i := 3) rfl)⟩
theorem k_Teacher_newOrder_ok : OkI M_Teacher_newOrder 1 := ⟨gm_5 (List.mem_of_getElem? (i := 42) rfl) rfl, gm_1 (List.mem_of_getElem? (i := 27) rfl) rfl, by decide, by decide, by decide +kernel⟩
theorem k_Teacher_newOrder_v : OkV M_Teacher_newOrder 1 := ⟨k_Teacher_newOrder_ok, rfl, gm_5 (List.mem_of_getElem? (i := 41) rfl) rfl, gp_2 (List.mem_of_getElem? (i := 13) rfl)⟩
theorem k_Teacher_number_ok : OkI M_Teacher_number 3 := ⟨gm_4 (List.mem_of_getElem? (i := 198) rfl) rfl, gm_1 (List.mem_of_getElem? (i := 27) rfl) rfl, by decide, by decide, by decide +kernel⟩
theorem k_Teacher_number_v : OkV M_Teacher_number 3 := ⟨k_Teacher_number_ok, rfl, gm_4 (List.mem_of_getElem? (i := 197) rfl) rfl, gp_2 (List.mem_of_getElem? (i := 5) rfl)⟩
theorem k_Teacher_oldName_ok : OkI M_Teacher_oldName 2 := ⟨gm_4 (List.mem_of_getElem? (i := 224) rfl) rfl, gm_1 (List.mem_of_getElem? (i := 27) rfl) rfl, by decide, by decide, by decide +kernel⟩
theorem k_Teacher_oldName_v : OkV M_Teacher_oldName 2 := ⟨k_Teacher_oldName_ok, rfl, gm_4 (List.mem_of_getElem? (i := 223) rfl) rfl, gp_2 (List.mem_of_getElem? (i := 7) rfl)⟩
theorem k_Teacher_readBand_ok : OkI M_Teacher_readBand 0 := ⟨gm_4 (List.mem_of_getElem? (i := 156) rfl) rfl, gm_1 (List.mem_of_getElem? (i := 27) rfl) rfl, by decide, by decide, by decide +kernel⟩
theorem k_Teacher_readBand_v : OkV M_Teacher_readBand 0 := ⟨k_Teacher_readBand_ok, rfl, gm_4 (List.mem_of_getElem? (i := 155) rfl) rfl, gp_2 (List.mem_of_getElem? (i := 2) rfl)⟩
theorem k_Teacher_readBoth_ok : OkI M_Teacher_readBoth 1 := ⟨gm_5 (List.mem_of_getElem? (i := 70) rfl) rfl, gm_1 (List.mem_of_getElem? (i := 27) rfl) rfl, by decide, by decide, by decide +kernel⟩
theorem k_Teacher_readBoth_v : OkV M_Teacher_readBoth 1 := ⟨k_Teacher_readBoth_ok, rfl, gm_5 (List.mem_of_getElem? (i := 69) rfl) rfl, gp_3 (List.mem_of_getElem? (i := 0) rfl)⟩
theorem k_Teacher_readCrevasse_ok : OkI M_Teacher_readCrevasse 0 := ⟨gm_4 (List.mem_of_getElem? (i := 234) rfl) rfl, gm_1 (List.mem_of_getElem? (i := 27) rfl) rfl, by decide, by decide, by decide +kernel⟩
theorem k_Teacher_readCrevasse_v : OkV M_Teacher_readCrevasse 0 := ⟨k_Teacher_readCrevasse_ok, rfl, gm_4 (List.mem_of_getElem? (i := 233) rfl) rfl, gp_2 (List.mem_of_getElem? (i := 8) rfl)⟩
theorem k_Teacher_readDay_ok : OkI M_Teacher_readDay 0 := ⟨gm_5 (List.mem_of_getElem? (i := 26) rfl) rfl, gm_1 (List.mem_of_getElem? (i := 27) rfl) rfl, by decide, by decide, by decide +kernel⟩
theorem k_Teacher_readDay_v : OkV M_Teacher_readDay 0 := ⟨k_Teacher_readDay_ok, rfl, gm_5 (List.mem_of_getElem? (i := 25) rfl) rfl, gp_2 (List.mem_of_getElem? (i := 11) rfl)⟩
theorem k_Teacher_readDepot_ok : OkI M_Teacher_readDepot 0 := ⟨gm_5 (List.mem_of_getElem? (i := 6) rfl) rfl, gm_1 (List.mem_of_getElem? (i := 27) rfl) rfl, by decide, by decide, by decide +kernel⟩
theorem k_Teacher_readDepot_v : OkV M_Teacher_readDepot 0 := ⟨k_Teacher_readDepot_ok, rfl, gm_5 (List.mem_of_getElem? (i := 5) rfl) rfl, gp_2 (List.mem_of_getElem? (i := 9) rfl)⟩
theorem k_Teacher_readDrill_ok : OkI M_Teacher_readDrill 0 := ⟨gm_5 (List.mem_of_getElem? (i := 165) rfl) rfl, gm_1 (List.mem_of_getElem? (i := 27) rfl) rfl, by decide, by decide, by decide +kernel⟩
theorem k_Teacher_readDrill_v : OkV M_Teacher_readDrill 0 := ⟨k_Teacher_readDrill_ok, rfl, gm_5 (List.mem_of_getElem? (i := 164) rfl) rfl, gp_3 (List.mem_of_getElem? (i := 9) rfl)⟩
theorem k_Teacher_readFill_ok : OkI M_Teacher_readFill 0 := ⟨gm_5 (List.mem_of_getElem? (i := 157) rfl) rfl, gm_1 (List.mem_of_getElem? (i := 27) rfl) rfl, by decide, by decide, by decide +kernel⟩
theorem k_Teacher_readFill_v : OkV M_Teacher_readFill 0 := ⟨k_Teacher_readFill_ok, rfl, gm_5 (List.mem_of_getElem? (i := 156) rfl) rfl, gp_3 (List.mem_of_getElem? (i := 8) rfl)⟩
theorem k_Teacher_readGo_ok : OkI M_Teacher_readGo 1 := ⟨gm_5 (List.mem_of_getElem? (i := 38) rfl) rfl, gm_1 (List.mem_of_getElem? (i := 27) rfl) rfl, by decide, by decide, by decide +kernel⟩
theorem k_Teacher_readGo_v : OkV M_Teacher_readGo 1 := ⟨k_Teacher_readGo_ok, rfl, gm_5 (List.mem_of_getElem? (i := 37) rfl) rfl, gp_2 (List.mem_of_getElem? (i := 12) rfl)⟩
theorem k_Teacher_readList_ok : OkI M_Teacher_readList 0 := ⟨gm_4 (List.mem_of_getElem? (i := 141) rfl) rfl, gm_1 (List.mem_of_getElem? (i := 27) rfl) rfl, by decide, by decide, by decide +kernel⟩
theorem k_Teacher_readList_v : OkV M_Teacher_readList 0 := ⟨k_Teacher_readList_ok, rfl, gm_4 (List.mem_of_getElem? (i := 139) rfl) rfl, gm_4 (List.mem_of_getElem? (i := 140) rfl) rfl⟩
theorem k_Teacher_readNested_ok : OkI M_Teacher_readNested 2 := ⟨gm_5 (List.mem_of_getElem? (i := 110) rfl) rfl, gm_1 (List.mem_of_getElem? (i := 27) rfl) rfl, by decide, by decide, by decide +kernel⟩
theorem k_Teacher_readNested_v : OkV M_Teacher_readNested 2 := ⟨k_Teacher_readNested_ok, rfl, gm_5 (List.mem_of_getElem? (i := 109) rfl) rfl, gp_3 (List.mem_of_getElem? (i := 6) rfl)⟩
theorem k_Teacher_readProbe_ok : OkI M_Teacher_readProbe 0 := ⟨gm_5 (List.mem_of_getElem? (i := 149) rfl) rfl, gm_1 (List.mem_of_getElem? (i := 27) rfl) rfl, by decide, by decide, by decide +kernel⟩
theorem k_Teacher_readProbe_v : OkV M_Teacher_readProbe 0 := ⟨k_Teacher_readProbe_ok, rfl, gm_5 (List.mem_of_getElem? (i := 148) rfl) rfl, gp_3 (List.mem_of_getElem? (i := 7) rfl)⟩
theorem k_Teacher_readProduct_ok : OkI M_Teacher_readProduct 1 := ⟨gm_5 (List.mem_of_getElem? (i := 102) rfl) rfl, gm_1 (List.mem_of_getElem? (i := 27) rfl) rfl, by decide, by decide, by decide +kernel⟩
theorem k_Teacher_readProduct_v : OkV M_Teacher_readProduct 1 := ⟨k_Teacher_readProduct_ok, rfl, gm_5 (List.mem_of_getElem? (i := 101) rfl) rfl, gp_3 (List.mem_of_getElem? (i := 4) rfl)⟩
theorem k_Teacher_readSingle_ok : OkI M_Teacher_readSingle 1 := ⟨gm_5 (List.mem_of_getElem? (i := 74) rfl) rfl, gm_1 (List.mem_of_getElem? (i := 27) rfl) rfl, by decide, by decide, by decide +kernel⟩
theorem k_Teacher_readSingle_v : OkV M_Teacher_readSingle 1 := ⟨k_Teacher_readSingle_ok, rfl, gm_5 (List.mem_of_getElem? (i := 73) rfl) rfl, gp_3 (List.mem_of_getElem? (i := 1) rfl)⟩
theorem k_Teacher_readStake_ok : OkI M_Teacher_readStake 0 := ⟨gm_4 (List.mem_of_getElem? (i := 218) rfl) rfl, gm_1 (List.mem_of_getElem? (i := 27) rfl) rfl, by decide, by decide, by decide +kernel⟩
theorem k_Teacher_readStake_v : OkV M_Teacher_readStake 0 := ⟨k_Teacher_readStake_ok, rfl, gm_4 (List.mem_of_getElem? (i := 217) rfl) rfl, gp_2 (List.mem_of_getElem? (i := 6) rfl)⟩
theorem k_Teacher_readSum_ok : OkI M_Teacher_readSum 1 := ⟨gm_5 (List.mem_of_getElem? (i := 98) rfl) rfl, gm_1 (List.mem_of_getElem? (i := 27) rfl) rfl, by decide, by decide, by decide +kernel⟩
theorem k_Teacher_readSum_v : OkV M_Teacher_readSum 1 := ⟨k_Teacher_readSum_ok, rfl, gm_5 (List.mem_of_getElem? (i := 97) rfl) rfl, gp_3 (List.mem_of_getElem? (i := 3) rfl)⟩
theorem k_Teacher_readTeam_ok : OkI M_Teacher_readTeam 0 := ⟨gm_5 (List.mem_of_getElem? (i := 16) rfl) rfl, gm_1 (List.mem_of_getElem? (i := 27) rfl) rfl, by decide, by decide, by decide +kernel⟩
theorem k_Teacher_readTeam_v : OkV M_Teacher_readTeam 0 := ⟨k_Teacher_readTeam_ok, rfl, gm_5 (List.mem_of_getElem? (i := 15) rfl) rfl, gp_2 (List.mem_of_getElem? (i := 10) rfl)⟩
theorem k_Teacher_readTest_ok : OkI M_Teacher_readTest 1 := ⟨gm_5 (List.mem_of_getElem? (i := 66) rfl) rfl, gm_1 (List.mem_of_getElem? (i := 27) rfl) rfl, by decide, by decide, by decide +kernel⟩
theorem k_Teacher_readTest_v : OkV M_Teacher_readTest 1 := ⟨k_Teacher_readTest_ok, rfl, gm_5 (List.mem_of_getElem? (i := 65) rfl) rfl, gp_2 (List.mem_of_getElem? (i := 15) rfl)⟩
theorem k_Teacher_readValue_ok : OkI M_Teacher_readValue 1 := ⟨gm_5 (List.mem_of_getElem? (i := 106) rfl) rfl, gm_1 (List.mem_of_getElem? (i := 27) rfl) rfl, by decide, by decide, by decide +kernel⟩
theorem k_Teacher_readValue_v : OkV M_Teacher_readValue 1 := ⟨k_Teacher_readValue_ok, rfl, gm_5 (List.mem_of_getElem? (i := 105) rfl) rfl, gp_3 (List.mem_of_getElem? (i := 5) rfl)⟩
theorem k_Teacher_readWhen_ok : OkI M_Teacher_readWhen 0 := ⟨gm_5 (List.mem_of_getElem? (i := 56) rfl) rfl, gm_1 (List.mem_of_getElem? (i := 27) rfl) rfl, by decide, by decide, by decide +kernel⟩
theorem k_Teacher_readWhen_v : OkV M_Teacher_readWhen 0 := ⟨k_Teacher_readWhen_ok, rfl, gm_5 (List.mem_of_getElem? (i := 55) rfl) rfl, gp_2 (List.mem_of_getElem? (i := 14) rfl)⟩
theorem k_Teacher_tellError_ok : OkI M_Teacher_tellError 1 := ⟨gm_4 (List.mem_of_getElem? (i := 180) rfl) rfl, gm_1 (List.mem_of_getElem? (i := 27) rfl) rfl, by decide, by decide, by decide +kernel⟩
theorem k_Teacher_tellError_v : OkV M_Teacher_tellError 1 := ⟨k_Teacher_tellError_ok, rfl, gm_4 (List.mem_of_getElem? (i := 179) rfl) rfl, gp_2 (List.mem_of_getElem? (i := 4) rfl)⟩
theorem k_Tokens_init_ok : OkI M_Tokens_init 0 := ⟨gm_1 (List.mem_of_getElem? (i := 57) rfl) rfl, gm_1 (List.mem_of_getElem? (i := 3) rfl) rfl, by decide, by decide, by decide +kernel⟩
theorem k_Tokens_init_n : OkN M_Tokens_init 0 := ⟨k_Tokens_init_ok, rfl, rfl, rfl, gm_1 (List.mem_of_getElem? (i := 56) rfl) rfl⟩
theorem k_Tokens_advance_ok : OkI M_Tokens_advance 0 := ⟨gm_4 (List.mem_of_getElem? (i := 84) rfl) rfl, gm_1 (List.mem_of_getElem? (i := 3) rfl) rfl, by decide, by decide, by decide +kernel⟩
theorem k_Tokens_advance_v : OkV M_Tokens_advance 0 := ⟨k_Tokens_advance_ok, rfl, gm_4 (List.mem_of_getElem? (i := 82) rfl) rfl, gm_4 (List.mem_of_getElem? (i := 83) rfl) rfl⟩
theorem k_Tokens_breakOff_ok : OkI M_Tokens_breakOff 0 := ⟨gm_4 (List.mem_of_getElem? (i := 168) rfl) rfl, gm_1 (List.mem_of_getElem? (i := 3) rfl) rfl, by decide, by decide, by decide +kernel⟩
theorem k_Tokens_breakOff_v : OkV M_Tokens_breakOff 0 := ⟨k_Tokens_breakOff_ok, rfl, gm_4 (List.mem_of_getElem? (i := 166) rfl) rfl, gm_4 (List.mem_of_getElem? (i := 167) rfl) rfl⟩
theorem k_Tokens_brokenAt_ok : OkI M_Tokens_brokenAt 0 := ⟨gm_4 (List.mem_of_getElem? (i := 150) rfl) rfl, gm_1 (List.mem_of_getElem? (i := 3) rfl) rfl, by decide, by decide, by decide +kernel⟩
theorem k_Tokens_brokenAt_v : OkV M_Tokens_brokenAt 0 := ⟨k_Tokens_brokenAt_ok, rfl, gm_4 (List.mem_of_getElem? (i := 148) rfl) rfl, gm_4 (List.mem_of_getElem? (i := 149) rfl) rfl⟩
theorem k_Tokens_expect_ok : OkI M_Tokens_expect 1 := ⟨gm_4 (List.mem_of_getElem? (i := 202) rfl) rfl, gm_1 (List.mem_of_getElem? (i := 3) rfl) rfl, by decide, by decide, by decide +kernel⟩
theorem k_Tokens_expect_v : OkV M_Tokens_expect 1 := ⟨k_Tokens_expect_ok, rfl, gm_4 (List.mem_of_getElem? (i := 200) rfl) rfl, gm_4 (List.mem_of_getElem? (i := 201) rfl) rfl⟩
theorem k_Tokens_isDigit_ok : OkI M_Tokens_isDigit 1 := ⟨gm_4 (List.mem_of_getElem? (i := 49) rfl) rfl, gm_1 (List.mem_of_getElem? (i := 3) rfl) rfl, by decide, by decide, by decide +kernel⟩
theorem k_Tokens_isDigit_s : OkS M_Tokens_isDigit 1 := ⟨k_Tokens_isDigit_ok, gm_4 (List.mem_of_getElem? (i := 48) rfl) rfl⟩
theorem k_Tokens_isLetter_ok : OkI M_Tokens_isLetter 1 := ⟨gm_4 (List.mem_of_getElem? (i := 46) rfl) rfl, gm_1 (List.mem_of_getElem? (i := 3) rfl) rfl, by decide, by decide, by decide +kernel⟩
theorem k_Tokens_isLetter_s : OkS M_Tokens_isLetter 1 := ⟨k_Tokens_isLetter_ok, gm_4 (List.mem_of_getElem? (i := 45) rfl) rfl⟩
theorem k_Tokens_nameOf_ok : OkI M_Tokens_nameOf 3 := ⟨gm_4 (List.mem_of_getElem? (i := 75) rfl) rfl, gm_1 (List.mem_of_getElem? (i := 3) rfl) rfl, by decide, by decide, by decide +kernel⟩
theorem k_Tokens_nameOf_s : OkS M_Tokens_nameOf 3 := ⟨k_Tokens_nameOf_ok, gm_4 (List.mem_of_getElem? (i := 74) rfl) rfl⟩
theorem k_Tokens_numberOf_ok : OkI M_Tokens_numberOf 3 := ⟨gm_4 (List.mem_of_getElem? (i := 70) rfl) rfl, gm_1 (List.mem_of_getElem? (i := 3) rfl) rfl, by decide, by decide, by decide +kernel⟩
theorem k_Tokens_numberOf_s : OkS M_Tokens_numberOf 3 := ⟨k_Tokens_numberOf_ok, gm_4 (List.mem_of_getElem? (i := 69) rfl) rfl⟩
theorem k_Tokens_pastBlanks_ok : OkI M_Tokens_pastBlanks 2 := ⟨gm_4 (List.mem_of_getElem? (i := 35) rfl) rfl, gm_1 (List.mem_of_getElem? (i := 3) rfl) rfl, by decide, by decide, by decide +kernel⟩
theorem k_Tokens_pastBlanks_s : OkS M_Tokens_pastBlanks 2 := ⟨k_Tokens_pastBlanks_ok, gm_4 (List.mem_of_getElem? (i := 34) rfl) rfl⟩
theorem k_Tokens_put_ok : OkI M_Tokens_put 3 := ⟨gm_4 (List.mem_of_getElem? (i := 80) rfl) rfl, gm_1 (List.mem_of_getElem? (i := 3) rfl) rfl, by decide, by decide, by decide +kernel⟩
theorem k_Tokens_put_v : OkV M_Tokens_put 3 := ⟨k_Tokens_put_ok, rfl, gm_4 (List.mem_of_getElem? (i := 79) rfl) rfl, gp_2 (List.mem_of_getElem? (i := 1) rfl)⟩
theorem k_Tokens_readFrom_ok : OkI M_Tokens_readFrom 1 := ⟨gm_4 (List.mem_of_getElem? (i := 32) rfl) rfl, gm_1 (List.mem_of_getElem? (i := 3) rfl) rfl, by decide, by decide, by decide +kernel⟩
theorem k_Tokens_readFrom_v : OkV M_Tokens_readFrom 1 := ⟨k_Tokens_readFrom_ok, rfl, gm_4 (List.mem_of_getElem? (i := 30) rfl) rfl, gm_4 (List.mem_of_getElem? (i := 31) rfl) rfl⟩
theorem k_Tokens_reads_ok : OkI M_Tokens_reads 4 := ⟨gm_4 (List.mem_of_getElem? (i := 60) rfl) rfl, gm_1 (List.mem_of_getElem? (i := 3) rfl) rfl, by decide, by decide, by decide +kernel⟩
theorem k_Tokens_reads_s : OkS M_Tokens_reads 4 := ⟨k_Tokens_reads_ok, gm_4 (List.mem_of_getElem? (i := 59) rfl) rfl⟩
theorem k_Tokens_sign_ok : OkI M_Tokens_sign 0 := ⟨gm_4 (List.mem_of_getElem? (i := 145) rfl) rfl, gm_1 (List.mem_of_getElem? (i := 3) rfl) rfl, by decide, by decide, by decide +kernel⟩
theorem k_Tokens_sign_v : OkV M_Tokens_sign 0 := ⟨k_Tokens_sign_ok, rfl, gm_4 (List.mem_of_getElem? (i := 143) rfl) rfl, gm_4 (List.mem_of_getElem? (i := 144) rfl) rfl⟩
theorem k_Tokens_signOf_ok : OkI M_Tokens_signOf 3 := ⟨gm_4 (List.mem_of_getElem? (i := 52) rfl) rfl, gm_1 (List.mem_of_getElem? (i := 3) rfl) rfl, by decide, by decide, by decide +kernel⟩
theorem k_Tokens_signOf_s : OkS M_Tokens_signOf 3 := ⟨k_Tokens_signOf_ok, gm_4 (List.mem_of_getElem? (i := 51) rfl) rfl⟩
theorem k_Tokens_start_ok : OkI M_Tokens_start 0 := ⟨gm_4 (List.mem_of_getElem? (i := 184) rfl) rfl, gm_1 (List.mem_of_getElem? (i := 3) rfl) rfl, by decide, by decide, by decide +kernel⟩
theorem k_Tokens_start_v : OkV M_Tokens_start 0 := ⟨k_Tokens_start_ok, rfl, gm_4 (List.mem_of_getElem? (i := 182) rfl) rfl, gm_4 (List.mem_of_getElem? (i := 183) rfl) rfl⟩
theorem k_Tokens_tokenEnd_ok : OkI M_Tokens_tokenEnd 2 := ⟨gm_4 (List.mem_of_getElem? (i := 43) rfl) rfl, gm_1 (List.mem_of_getElem? (i := 3) rfl) rfl, by decide, by decide, by decide +kernel⟩
theorem k_Tokens_tokenEnd_s : OkS M_Tokens_tokenEnd 2 := ⟨k_Tokens_tokenEnd_ok, gm_4 (List.mem_of_getElem? (i := 42) rfl) rfl⟩
theorem k_Tokens_worth_ok : OkI M_Tokens_worth 0 := ⟨gm_4 (List.mem_of_getElem? (i := 172) rfl) rfl, gm_1 (List.mem_of_getElem? (i := 3) rfl) rfl, by decide, by decide, by decide +kernel⟩
theorem k_Tokens_worth_v : OkV M_Tokens_worth 0 := ⟨k_Tokens_worth_ok, rfl, gm_4 (List.mem_of_getElem? (i := 170) rfl) rfl, gm_4 (List.mem_of_getElem? (i := 171) rfl) rfl⟩
theorem k_Tokens_worthOf_ok : OkI M_Tokens_worthOf 4 := ⟨gm_4 (List.mem_of_getElem? (i := 67) rfl) rfl, gm_1 (List.mem_of_getElem? (i := 3) rfl) rfl, by decide, by decide, by decide +kernel⟩
theorem k_Tokens_worthOf_s : OkS M_Tokens_worthOf 4 := ⟨k_Tokens_worthOf_ok, gm_4 (List.mem_of_getElem? (i := 66) rfl) rfl⟩
theorem k_Law_act_ok : OkI M_Law_act 3 := ⟨gm_7 (List.mem_of_getElem? (i := 33) rfl) rfl, gm_1 (List.mem_of_getElem? (i := 0) rfl) rfl, by decide, by decide, by decide +kernel⟩
theorem k_Law_act_s : OkS M_Law_act 3 := ⟨k_Law_act_ok, gm_7 (List.mem_of_getElem? (i := 32) rfl) rfl⟩
theorem k_Law_below_ok : OkI M_Law_below 2 := ⟨gm_3 (List.mem_of_getElem? (i := 180) rfl) rfl, gm_1 (List.mem_of_getElem? (i := 0) rfl) rfl, by decide, by decide, by decide +kernel⟩
theorem k_Law_below_s : OkS M_Law_below 2 := ⟨k_Law_below_ok, gm_3 (List.mem_of_getElem? (i := 179) rfl) rfl⟩
theorem k_Law_cell_ok : OkI M_Law_cell 2 := ⟨gm_3 (List.mem_of_getElem? (i := 184) rfl) rfl, gm_1 (List.mem_of_getElem? (i := 0) rfl) rfl, by decide, by decide, by decide +kernel⟩
theorem k_Law_cell_s : OkS M_Law_cell 2 := ⟨k_Law_cell_ok, gm_3 (List.mem_of_getElem? (i := 183) rfl) rfl⟩
theorem k_Law_list_ok : OkI M_Law_list 2 := ⟨gm_5 (List.mem_of_getElem? (i := 184) rfl) rfl, gm_1 (List.mem_of_getElem? (i := 0) rfl) rfl, by decide, by decide, by decide +kernel⟩
theorem k_Law_list_s : OkS M_Law_list 2 := ⟨k_Law_list_ok, gm_5 (List.mem_of_getElem? (i := 183) rfl) rfl⟩
theorem k_Law_sum_ok : OkI M_Law_sum 1 := ⟨gm_6 (List.mem_of_getElem? (i := 230) rfl) rfl, gm_1 (List.mem_of_getElem? (i := 0) rfl) rfl, by decide, by decide, by decide +kernel⟩
theorem k_Law_sum_s : OkS M_Law_sum 1 := ⟨k_Law_sum_ok, gm_6 (List.mem_of_getElem? (i := 229) rfl) rfl⟩
theorem k_Law_taught_ok : OkI M_Law_taught 2 := ⟨gm_3 (List.mem_of_getElem? (i := 188) rfl) rfl, gm_1 (List.mem_of_getElem? (i := 0) rfl) rfl, by decide, by decide, by decide +kernel⟩
theorem k_Law_taught_s : OkS M_Law_taught 2 := ⟨k_Law_taught_ok, gm_3 (List.mem_of_getElem? (i := 187) rfl) rfl⟩
theorem k_Law_when_ok : OkI M_Law_when 1 := ⟨gm_7 (List.mem_of_getElem? (i := 8) rfl) rfl, gm_1 (List.mem_of_getElem? (i := 0) rfl) rfl, by decide, by decide, by decide +kernel⟩
theorem k_Law_when_s : OkS M_Law_when 1 := ⟨k_Law_when_ok, gm_7 (List.mem_of_getElem? (i := 7) rfl) rfl⟩
theorem k_Sim_init_ok : OkI M_Sim_init 0 := ⟨gm_5 (List.mem_of_getElem? (i := 188) rfl) rfl, gm_1 (List.mem_of_getElem? (i := 14) rfl) rfl, by decide, by decide, by decide +kernel⟩
theorem k_Sim_init_n : OkN M_Sim_init 0 := ⟨k_Sim_init_ok, rfl, rfl, rfl, gm_5 (List.mem_of_getElem? (i := 187) rfl) rfl⟩
theorem k_Sim_can_ok : OkI M_Sim_can 2 := ⟨gm_3 (List.mem_of_getElem? (i := 108) rfl) rfl, gm_1 (List.mem_of_getElem? (i := 14) rfl) rfl, by decide, by decide, by decide +kernel⟩
theorem k_Sim_can_v : OkV M_Sim_can 2 := ⟨k_Sim_can_ok, rfl, gm_3 (List.mem_of_getElem? (i := 106) rfl) rfl, gm_3 (List.mem_of_getElem? (i := 107) rfl) rfl⟩
theorem k_Sim_carries_ok : OkI M_Sim_carries 1 := ⟨gm_3 (List.mem_of_getElem? (i := 124) rfl) rfl, gm_1 (List.mem_of_getElem? (i := 14) rfl) rfl, by decide, by decide, by decide +kernel⟩
theorem k_Sim_carries_v : OkV M_Sim_carries 1 := ⟨k_Sim_carries_ok, rfl, gm_3 (List.mem_of_getElem? (i := 122) rfl) rfl, gm_3 (List.mem_of_getElem? (i := 123) rfl) rfl⟩
theorem k_Sim_counts_ok : OkI M_Sim_counts 0 := ⟨gm_3 (List.mem_of_getElem? (i := 164) rfl) rfl, gm_1 (List.mem_of_getElem? (i := 14) rfl) rfl, by decide, by decide, by decide +kernel⟩
theorem k_Sim_counts_v : OkV M_Sim_counts 0 := ⟨k_Sim_counts_ok, rfl, gm_3 (List.mem_of_getElem? (i := 162) rfl) rfl, gm_3 (List.mem_of_getElem? (i := 163) rfl) rfl⟩
theorem k_Sim_drills_ok : OkI M_Sim_drills 1 := ⟨gm_3 (List.mem_of_getElem? (i := 147) rfl) rfl, gm_1 (List.mem_of_getElem? (i := 14) rfl) rfl, by decide, by decide, by decide +kernel⟩
theorem k_Sim_drills_v : OkV M_Sim_drills 1 := ⟨k_Sim_drills_ok, rfl, gm_3 (List.mem_of_getElem? (i := 145) rfl) rfl, gm_3 (List.mem_of_getElem? (i := 146) rfl) rfl⟩
theorem k_Sim_eats_ok : OkI M_Sim_eats 1 := ⟨gm_3 (List.mem_of_getElem? (i := 156) rfl) rfl, gm_1 (List.mem_of_getElem? (i := 14) rfl) rfl, by decide, by decide, by decide +kernel⟩
theorem k_Sim_eats_v : OkV M_Sim_eats 1 := ⟨k_Sim_eats_ok, rfl, gm_3 (List.mem_of_getElem? (i := 155) rfl) rfl, gp_2 (List.mem_of_getElem? (i := 0) rfl)⟩
theorem k_Sim_fills_ok : OkI M_Sim_fills 2 := ⟨gm_3 (List.mem_of_getElem? (i := 143) rfl) rfl, gm_1 (List.mem_of_getElem? (i := 14) rfl) rfl, by decide, by decide, by decide +kernel⟩
theorem k_Sim_fills_v : OkV M_Sim_fills 2 := ⟨k_Sim_fills_ok, rfl, gm_3 (List.mem_of_getElem? (i := 141) rfl) rfl, gm_3 (List.mem_of_getElem? (i := 142) rfl) rfl⟩
theorem k_Sim_goes_ok : OkI M_Sim_goes 2 := ⟨gm_3 (List.mem_of_getElem? (i := 104) rfl) rfl, gm_1 (List.mem_of_getElem? (i := 14) rfl) rfl, by decide, by decide, by decide +kernel⟩
theorem k_Sim_goes_v : OkV M_Sim_goes 2 := ⟨k_Sim_goes_ok, rfl, gm_3 (List.mem_of_getElem? (i := 102) rfl) rfl, gm_3 (List.mem_of_getElem? (i := 103) rfl) rfl⟩
theorem k_Sim_holds_ok : OkI M_Sim_holds 1 := ⟨gm_3 (List.mem_of_getElem? (i := 128) rfl) rfl, gm_1 (List.mem_of_getElem? (i := 14) rfl) rfl, by decide, by decide, by decide +kernel⟩
theorem k_Sim_holds_v : OkV M_Sim_holds 1 := ⟨k_Sim_holds_ok, rfl, gm_3 (List.mem_of_getElem? (i := 126) rfl) rfl, gm_3 (List.mem_of_getElem? (i := 127) rfl) rfl⟩
theorem k_Sim_isKnown_ok : OkI M_Sim_isKnown 1 := ⟨gm_3 (List.mem_of_getElem? (i := 116) rfl) rfl, gm_1 (List.mem_of_getElem? (i := 14) rfl) rfl, by decide, by decide, by decide +kernel⟩
theorem k_Sim_isKnown_v : OkV M_Sim_isKnown 1 := ⟨k_Sim_isKnown_ok, rfl, gm_3 (List.mem_of_getElem? (i := 114) rfl) rfl, gm_3 (List.mem_of_getElem? (i := 115) rfl) rfl⟩
theorem k_Sim_isSame_ok : OkI M_Sim_isSame 1 := ⟨gm_3 (List.mem_of_getElem? (i := 160) rfl) rfl, gm_1 (List.mem_of_getElem? (i := 14) rfl) rfl, by decide, by decide, by decide +kernel⟩
theorem k_Sim_isSame_v : OkV M_Sim_isSame 1 := ⟨k_Sim_isSame_ok, rfl, gm_3 (List.mem_of_getElem? (i := 158) rfl) rfl, gm_3 (List.mem_of_getElem? (i := 159) rfl) rfl⟩
theorem k_Sim_pass_ok : OkI M_Sim_pass 1 := ⟨gm_3 (List.mem_of_getElem? (i := 120) rfl) rfl, gm_1 (List.mem_of_getElem? (i := 14) rfl) rfl, by decide, by decide, by decide +kernel⟩
theorem k_Sim_pass_v : OkV M_Sim_pass 1 := ⟨k_Sim_pass_ok, rfl, gm_3 (List.mem_of_getElem? (i := 118) rfl) rfl, gm_3 (List.mem_of_getElem? (i := 119) rfl) rfl⟩
theorem k_Sim_probes_ok : OkI M_Sim_probes 2 := ⟨gm_3 (List.mem_of_getElem? (i := 133) rfl) rfl, gm_1 (List.mem_of_getElem? (i := 14) rfl) rfl, by decide, by decide, by decide +kernel⟩
theorem k_Sim_probes_v : OkV M_Sim_probes 2 := ⟨k_Sim_probes_ok, rfl, gm_3 (List.mem_of_getElem? (i := 131) rfl) rfl, gm_3 (List.mem_of_getElem? (i := 132) rfl) rfl⟩
theorem k_Sim_sum_ok : OkI M_Sim_sum 1 := ⟨gm_3 (List.mem_of_getElem? (i := 137) rfl) rfl, gm_1 (List.mem_of_getElem? (i := 14) rfl) rfl, by decide, by decide, by decide +kernel⟩
theorem k_Sim_sum_v : OkV M_Sim_sum 1 := ⟨k_Sim_sum_ok, rfl, gm_3 (List.mem_of_getElem? (i := 135) rfl) rfl, gm_3 (List.mem_of_getElem? (i := 136) rfl) rfl⟩
theorem k_Sim_way_ok : OkI M_Sim_way 2 := ⟨gm_3 (List.mem_of_getElem? (i := 112) rfl) rfl, gm_1 (List.mem_of_getElem? (i := 14) rfl) rfl, by decide, by decide, by decide +kernel⟩
theorem k_Sim_way_v : OkV M_Sim_way 2 := ⟨k_Sim_way_ok, rfl, gm_3 (List.mem_of_getElem? (i := 110) rfl) rfl, gm_3 (List.mem_of_getElem? (i := 111) rfl) rfl⟩
theorem k_Sim_weather_ok : OkI M_Sim_weather 1 := ⟨gm_3 (List.mem_of_getElem? (i := 152) rfl) rfl, gm_1 (List.mem_of_getElem? (i := 14) rfl) rfl, by decide, by decide, by decide +kernel⟩
theorem k_Sim_weather_v : OkV M_Sim_weather 1 := ⟨k_Sim_weather_ok, rfl, gm_3 (List.mem_of_getElem? (i := 150) rfl) rfl, gp_1 (List.mem_of_getElem? (i := 15) rfl)⟩
theorem k_AbstractStringBuilder_init_ok : OkI M_AbstractStringBuilder_init 1 := ⟨gm_6 (List.mem_of_getElem? (i := 151) rfl) rfl, gm_1 (List.mem_of_getElem? (i := 10) rfl) rfl, by decide, by decide, by decide +kernel⟩
theorem k_AbstractStringBuilder_init_n : OkN M_AbstractStringBuilder_init 1 := ⟨k_AbstractStringBuilder_init_ok, rfl, rfl, rfl, gm_6 (List.mem_of_getElem? (i := 150) rfl) rfl⟩
theorem k_AbstractStringBuilder_append_0_ok : OkI M_AbstractStringBuilder_append_0 1 := ⟨gm_6 (List.mem_of_getElem? (i := 107) rfl) rfl, gm_1 (List.mem_of_getElem? (i := 10) rfl) rfl, by decide, by decide, by decide +kernel⟩
theorem k_AbstractStringBuilder_append_1_ok : OkI M_AbstractStringBuilder_append_1 1 := ⟨gm_6 (List.mem_of_getElem? (i := 2) rfl) rfl, gm_1 (List.mem_of_getElem? (i := 10) rfl) rfl, by decide, by decide, by decide +kernel⟩
theorem k_AbstractStringBuilder_appendNull_ok : OkI M_AbstractStringBuilder_appendNull 0 := ⟨gm_6 (List.mem_of_getElem? (i := 6) rfl) rfl, gm_1 (List.mem_of_getElem? (i := 10) rfl) rfl, by decide, by decide, by decide +kernel⟩
theorem k_AbstractStringBuilder_ensureCapacityInternal_ok : OkI M_AbstractStringBuilder_ensureCapacityInternal 1 := ⟨gm_6 (List.mem_of_getElem? (i := 10) rfl) rfl, gm_1 (List.mem_of_getElem? (i := 10) rfl) rfl, by decide, by decide, by decide +kernel⟩
theorem k_AbstractStringBuilder_getValue_ok : OkI M_AbstractStringBuilder_getValue 0 := ⟨gm_6 (List.mem_of_getElem? (i := 183) rfl) rfl, gm_1 (List.mem_of_getElem? (i := 10) rfl) rfl, by decide, by decide, by decide +kernel⟩
theorem k_AbstractStringBuilder_inflate_ok : OkI M_AbstractStringBuilder_inflate 0 := ⟨gm_6 (List.mem_of_getElem? (i := 72) rfl) rfl, gm_1 (List.mem_of_getElem? (i := 10) rfl) rfl, by decide, by decide, by decide +kernel⟩
theorem k_AbstractStringBuilder_inflateIfNeededFor_ok : OkI M_AbstractStringBuilder_inflateIfNeededFor 1 := ⟨gm_6 (List.mem_of_getElem? (i := 67) rfl) rfl, gm_1 (List.mem_of_getElem? (i := 10) rfl) rfl, by decide, by decide, by decide +kernel⟩
theorem k_AbstractStringBuilder_isLatin1_ok : OkI M_AbstractStringBuilder_isLatin1 0 := ⟨gm_6 (List.mem_of_getElem? (i := 42) rfl) rfl, gm_1 (List.mem_of_getElem? (i := 10) rfl) rfl, by decide, by decide, by decide +kernel⟩
theorem k_AbstractStringBuilder_length_ok : OkI M_AbstractStringBuilder_length 0 := ⟨gm_6 (List.mem_of_getElem? (i := 191) rfl) rfl, gm_1 (List.mem_of_getElem? (i := 10) rfl) rfl, by decide, by decide, by decide +kernel⟩
theorem k_AbstractStringBuilder_newCapacity_ok : OkI M_AbstractStringBuilder_newCapacity 1 := ⟨gm_6 (List.mem_of_getElem? (i := 14) rfl) rfl, gm_1 (List.mem_of_getElem? (i := 10) rfl) rfl, by decide, by decide, by decide +kernel⟩
theorem k_AbstractStringBuilder_putStringAt_ok : OkI M_AbstractStringBuilder_putStringAt 2 := ⟨gm_6 (List.mem_of_getElem? (i := 63) rfl) rfl, gm_1 (List.mem_of_getElem? (i := 10) rfl) rfl, by decide, by decide, by decide +kernel⟩
theorem k_Enum_ordinal_ok : OkI M_Enum_ordinal 0 := ⟨gm_3 (List.mem_of_getElem? (i := 1) rfl) rfl, gm_1 (List.mem_of_getElem? (i := 4) rfl) rfl, by decide, by decide, by decide +kernel⟩
theorem k_Exception_init_ok : OkI M_Exception_init 1 := ⟨gm_2 (List.mem_of_getElem? (i := 29) rfl) rfl, gm_1 (List.mem_of_getElem? (i := 23) rfl) rfl, by decide, by decide, by decide +kernel⟩
theorem k_Exception_init_n : OkN M_Exception_init 1 := ⟨k_Exception_init_ok, rfl, rfl, rfl, gm_2 (List.mem_of_getElem? (i := 28) rfl) rfl⟩
theorem k_IllegalArgumentException_init_ok : OkI M_IllegalArgumentException_init 1 := ⟨gm_2 (List.mem_of_getElem? (i := 205) rfl) rfl, gm_1 (List.mem_of_getElem? (i := 25) rfl) rfl, by decide, by decide, by decide +kernel⟩
theorem k_IllegalArgumentException_init_n : OkN M_IllegalArgumentException_init 1 := ⟨k_IllegalArgumentException_init_ok, rfl, rfl, rfl, gm_2 (List.mem_of_getElem? (i := 204) rfl) rfl⟩
theorem k_IllegalStateException_init_ok : OkI M_IllegalStateException_init 1 := ⟨gm_2 (List.mem_of_getElem? (i := 182) rfl) rfl, gm_1 (List.mem_of_getElem? (i := 26) rfl) rfl, by decide, by decide, by decide +kernel⟩
theorem k_IllegalStateException_init_n : OkN M_IllegalStateException_init 1 := ⟨k_IllegalStateException_init_ok, rfl, rfl, rfl, gm_2 (List.mem_of_getElem? (i := 181) rfl) rfl⟩
theorem k_IndexOutOfBoundsException_init_ok : OkI M_IndexOutOfBoundsException_init 1 := ⟨gm_2 (List.mem_of_getElem? (i := 23) rfl) rfl, gm_1 (List.mem_of_getElem? (i := 30) rfl) rfl, by decide, by decide, by decide +kernel⟩
theorem k_IndexOutOfBoundsException_init_n : OkN M_IndexOutOfBoundsException_init 1 := ⟨k_IndexOutOfBoundsException_init_ok, rfl, rfl, rfl, gm_2 (List.mem_of_getElem? (i := 22) rfl) rfl⟩
theorem k_Integer_getChars_ok : OkI M_Integer_getChars 3 := ⟨gm_6 (List.mem_of_getElem? (i := 113) rfl) rfl, gm_1 (List.mem_of_getElem? (i := 21) rfl) rfl, by decide, by decide, by decide +kernel⟩
theorem k_Integer_getChars_s : OkS M_Integer_getChars 3 := ⟨k_Integer_getChars_ok, gm_6 (List.mem_of_getElem? (i := 112) rfl) rfl⟩
theorem k_Integer_stringSize_ok : OkI M_Integer_stringSize 1 := ⟨gm_6 (List.mem_of_getElem? (i := 110) rfl) rfl, gm_1 (List.mem_of_getElem? (i := 21) rfl) rfl, by decide, by decide, by decide +kernel⟩
theorem k_Integer_stringSize_s : OkS M_Integer_stringSize 1 := ⟨k_Integer_stringSize_ok, gm_6 (List.mem_of_getElem? (i := 109) rfl) rfl⟩
theorem k_Math_max_ok : OkI M_Math_max 2 := ⟨gm_3 (List.mem_of_getElem? (i := 16) rfl) rfl, gm_1 (List.mem_of_getElem? (i := 16) rfl) rfl, by decide, by decide, by decide +kernel⟩
theorem k_Math_max_s : OkS M_Math_max 2 := ⟨k_Math_max_ok, gm_3 (List.mem_of_getElem? (i := 15) rfl) rfl⟩
theorem k_Math_min_ok : OkI M_Math_min 2 := ⟨gm_2 (List.mem_of_getElem? (i := 124) rfl) rfl, gm_1 (List.mem_of_getElem? (i := 16) rfl) rfl, by decide, by decide, by decide +kernel⟩
theorem k_Math_min_s : OkS M_Math_min 2 := ⟨k_Math_min_ok, gm_2 (List.mem_of_getElem? (i := 123) rfl) rfl⟩
theorem k_RuntimeException_init_ok : OkI M_RuntimeException_init 1 := ⟨gm_2 (List.mem_of_getElem? (i := 26) rfl) rfl, gm_1 (List.mem_of_getElem? (i := 24) rfl) rfl, by decide, by decide, by decide +kernel⟩
theorem k_RuntimeException_init_n : OkN M_RuntimeException_init 1 := ⟨k_RuntimeException_init_ok, rfl, rfl, rfl, gm_2 (List.mem_of_getElem? (i := 25) rfl) rfl⟩
theorem k_String_init_0_ok : OkI M_String_init_0 2 := ⟨gm_6 (List.mem_of_getElem? (i := 177) rfl) rfl, gm_1 (List.mem_of_getElem? (i := 12) rfl) rfl, by decide, by decide, by decide +kernel⟩
theorem k_String_init_0_n : OkN M_String_init_0 2 := ⟨k_String_init_0_ok, rfl, rfl, rfl, gm_6 (List.mem_of_getElem? (i := 176) rfl) rfl⟩
theorem k_String_init_1_ok : OkI M_String_init_1 1 := ⟨gm_6 (List.mem_of_getElem? (i := 174) rfl) rfl, gm_1 (List.mem_of_getElem? (i := 12) rfl) rfl, by decide, by decide, by decide +kernel⟩
theorem k_String_init_1_n : OkN M_String_init_1 1 := ⟨k_String_init_1_ok, rfl, rfl, rfl, gm_6 (List.mem_of_getElem? (i := 173) rfl) rfl⟩
theorem k_String_charAt_ok : OkI M_String_charAt 1 := ⟨gm_3 (List.mem_of_getElem? (i := 211) rfl) rfl, gm_1 (List.mem_of_getElem? (i := 12) rfl) rfl, by decide, by decide, by decide +kernel⟩
theorem k_String_charAt_v : OkV M_String_charAt 1 := ⟨k_String_charAt_ok, rfl, gm_3 (List.mem_of_getElem? (i := 209) rfl) rfl, gm_3 (List.mem_of_getElem? (i := 210) rfl) rfl⟩
theorem k_String_checkBoundsBeginEnd_ok : OkI M_String_checkBoundsBeginEnd 3 := ⟨gm_6 (List.mem_of_getElem? (i := 52) rfl) rfl, gm_1 (List.mem_of_getElem? (i := 12) rfl) rfl, by decide, by decide, by decide +kernel⟩
theorem k_String_checkBoundsBeginEnd_s : OkS M_String_checkBoundsBeginEnd 3 := ⟨k_String_checkBoundsBeginEnd_ok, gm_6 (List.mem_of_getElem? (i := 51) rfl) rfl⟩
theorem k_String_checkBoundsOffCount_ok : OkI M_String_checkBoundsOffCount 3 := ⟨gm_6 (List.mem_of_getElem? (i := 91) rfl) rfl, gm_1 (List.mem_of_getElem? (i := 12) rfl) rfl, by decide, by decide, by decide +kernel⟩
theorem k_String_checkBoundsOffCount_s : OkS M_String_checkBoundsOffCount 3 := ⟨k_String_checkBoundsOffCount_ok, gm_6 (List.mem_of_getElem? (i := 90) rfl) rfl⟩
theorem k_String_checkIndex_ok : OkI M_String_checkIndex 2 := ⟨gm_3 (List.mem_of_getElem? (i := 221) rfl) rfl, gm_1 (List.mem_of_getElem? (i := 12) rfl) rfl, by decide, by decide, by decide +kernel⟩
theorem k_String_checkIndex_s : OkS M_String_checkIndex 2 := ⟨k_String_checkIndex_ok, gm_3 (List.mem_of_getElem? (i := 220) rfl) rfl⟩
theorem k_String_coder_ok : OkI M_String_coder 0 := ⟨gm_3 (List.mem_of_getElem? (i := 205) rfl) rfl, gm_1 (List.mem_of_getElem? (i := 12) rfl) rfl, by decide, by decide, by decide +kernel⟩
theorem k_String_coder_v : OkV M_String_coder 0 := ⟨k_String_coder_ok, rfl, gm_3 (List.mem_of_getElem? (i := 203) rfl) rfl, gm_3 (List.mem_of_getElem? (i := 204) rfl) rfl⟩
theorem k_String_getBytes_ok : OkI M_String_getBytes 3 := ⟨gm_6 (List.mem_of_getElem? (i := 98) rfl) rfl, gm_1 (List.mem_of_getElem? (i := 12) rfl) rfl, by decide, by decide, by decide +kernel⟩
theorem k_String_getBytes_v : OkV M_String_getBytes 3 := ⟨k_String_getBytes_ok, rfl, gm_6 (List.mem_of_getElem? (i := 96) rfl) rfl, gm_6 (List.mem_of_getElem? (i := 97) rfl) rfl⟩
theorem k_String_isLatin1_ok : OkI M_String_isLatin1 0 := ⟨gm_3 (List.mem_of_getElem? (i := 215) rfl) rfl, gm_1 (List.mem_of_getElem? (i := 12) rfl) rfl, by decide, by decide, by decide +kernel⟩
theorem k_String_isLatin1_v : OkV M_String_isLatin1 0 := ⟨k_String_isLatin1_ok, rfl, gm_3 (List.mem_of_getElem? (i := 213) rfl) rfl, gm_3 (List.mem_of_getElem? (i := 214) rfl) rfl⟩
theorem k_String_length_ok : OkI M_String_length 0 := ⟨gm_3 (List.mem_of_getElem? (i := 201) rfl) rfl, gm_1 (List.mem_of_getElem? (i := 12) rfl) rfl, by decide, by decide, by decide +kernel⟩
theorem k_String_length_v : OkV M_String_length 0 := ⟨k_String_length_ok, rfl, gm_3 (List.mem_of_getElem? (i := 199) rfl) rfl, gm_3 (List.mem_of_getElem? (i := 200) rfl) rfl⟩
theorem k_StringBuilder_init_ok : OkI M_StringBuilder_init 0 := ⟨gm_6 (List.mem_of_getElem? (i := 148) rfl) rfl, gm_1 (List.mem_of_getElem? (i := 11) rfl) rfl, by decide, by decide, by decide +kernel⟩
theorem k_StringBuilder_init_n : OkN M_StringBuilder_init 0 := ⟨k_StringBuilder_init_ok, rfl, rfl, rfl, gm_6 (List.mem_of_getElem? (i := 147) rfl) rfl⟩
theorem k_StringBuilder_append_0_ok : OkI M_StringBuilder_append_0 1 := ⟨gm_6 (List.mem_of_getElem? (i := 104) rfl) rfl, gm_1 (List.mem_of_getElem? (i := 11) rfl) rfl, by decide, by decide, by decide +kernel⟩
theorem k_StringBuilder_append_0_v : OkV M_StringBuilder_append_0 1 := ⟨k_StringBuilder_append_0_ok, rfl, gm_6 (List.mem_of_getElem? (i := 102) rfl) rfl, gm_6 (List.mem_of_getElem? (i := 103) rfl) rfl⟩
theorem k_StringBuilder_append_1_ok : OkI M_StringBuilder_append_1 1 := ⟨gm_5 (List.mem_of_getElem? (i := 238) rfl) rfl, gm_1 (List.mem_of_getElem? (i := 11) rfl) rfl, by decide, by decide, by decide +kernel⟩
theorem k_StringBuilder_append_1_v : OkV M_StringBuilder_append_1 1 := ⟨k_StringBuilder_append_1_ok, rfl, gm_5 (List.mem_of_getElem? (i := 236) rfl) rfl, gm_5 (List.mem_of_getElem? (i := 237) rfl) rfl⟩
theorem k_StringBuilder_length_ok : OkI M_StringBuilder_length 0 := ⟨gm_6 (List.mem_of_getElem? (i := 189) rfl) rfl, gm_1 (List.mem_of_getElem? (i := 11) rfl) rfl, by decide, by decide, by decide +kernel⟩
theorem k_StringBuilder_toString_ok : OkI M_StringBuilder_toString 0 := ⟨gm_6 (List.mem_of_getElem? (i := 169) rfl) rfl, gm_1 (List.mem_of_getElem? (i := 11) rfl) rfl, by decide, by decide, by decide +kernel⟩
theorem k_StringBuilder_toString_v : OkV M_StringBuilder_toString 0 := ⟨k_StringBuilder_toString_ok, rfl, gm_6 (List.mem_of_getElem? (i := 167) rfl) rfl, gm_6 (List.mem_of_getElem? (i := 168) rfl) rfl⟩
theorem k_StringLatin1_charAt_ok : OkI M_StringLatin1_charAt 2 := ⟨gm_3 (List.mem_of_getElem? (i := 218) rfl) rfl, gm_1 (List.mem_of_getElem? (i := 20) rfl) rfl, by decide, by decide, by decide +kernel⟩
theorem k_StringLatin1_charAt_s : OkS M_StringLatin1_charAt 2 := ⟨k_StringLatin1_charAt_ok, gm_3 (List.mem_of_getElem? (i := 217) rfl) rfl⟩
theorem k_StringLatin1_inflate_ok : OkI M_StringLatin1_inflate 5 := ⟨gm_6 (List.mem_of_getElem? (i := 82) rfl) rfl, gm_1 (List.mem_of_getElem? (i := 20) rfl) rfl, by decide, by decide, by decide +kernel⟩
theorem k_StringLatin1_inflate_s : OkS M_StringLatin1_inflate 5 := ⟨k_StringLatin1_inflate_ok, gm_6 (List.mem_of_getElem? (i := 81) rfl) rfl⟩
theorem k_StringUTF16_charAt_ok : OkI M_StringUTF16_charAt 2 := ⟨gm_3 (List.mem_of_getElem? (i := 229) rfl) rfl, gm_1 (List.mem_of_getElem? (i := 13) rfl) rfl, by decide, by decide, by decide +kernel⟩
theorem k_StringUTF16_charAt_s : OkS M_StringUTF16_charAt 2 := ⟨k_StringUTF16_charAt_ok, gm_3 (List.mem_of_getElem? (i := 228) rfl) rfl⟩
theorem k_StringUTF16_checkBoundsBeginEnd_ok : OkI M_StringUTF16_checkBoundsBeginEnd 3 := ⟨gm_6 (List.mem_of_getElem? (i := 49) rfl) rfl, gm_1 (List.mem_of_getElem? (i := 13) rfl) rfl, by decide, by decide, by decide +kernel⟩
theorem k_StringUTF16_checkBoundsBeginEnd_s : OkS M_StringUTF16_checkBoundsBeginEnd 3 := ⟨k_StringUTF16_checkBoundsBeginEnd_ok, gm_6 (List.mem_of_getElem? (i := 48) rfl) rfl⟩
theorem k_StringUTF16_checkBoundsOffCount_ok : OkI M_StringUTF16_checkBoundsOffCount 3 := ⟨gm_6 (List.mem_of_getElem? (i := 88) rfl) rfl, gm_1 (List.mem_of_getElem? (i := 13) rfl) rfl, by decide, by decide, by decide +kernel⟩
theorem k_StringUTF16_checkBoundsOffCount_s : OkS M_StringUTF16_checkBoundsOffCount 3 := ⟨k_StringUTF16_checkBoundsOffCount_ok, gm_6 (List.mem_of_getElem? (i := 87) rfl) rfl⟩
theorem k_StringUTF16_checkIndex_ok : OkI M_StringUTF16_checkIndex 2 := ⟨gm_3 (List.mem_of_getElem? (i := 232) rfl) rfl, gm_1 (List.mem_of_getElem? (i := 13) rfl) rfl, by decide, by decide, by decide +kernel⟩
theorem k_StringUTF16_checkIndex_s : OkS M_StringUTF16_checkIndex 2 := ⟨k_StringUTF16_checkIndex_ok, gm_3 (List.mem_of_getElem? (i := 231) rfl) rfl⟩
theorem k_StringUTF16_coderFromArrayLen_ok : OkI M_StringUTF16_coderFromArrayLen 2 := ⟨gm_6 (List.mem_of_getElem? (i := 211) rfl) rfl, gm_1 (List.mem_of_getElem? (i := 13) rfl) rfl, by decide, by decide, by decide +kernel⟩
theorem k_StringUTF16_coderFromArrayLen_s : OkS M_StringUTF16_coderFromArrayLen 2 := ⟨k_StringUTF16_coderFromArrayLen_ok, gm_6 (List.mem_of_getElem? (i := 210) rfl) rfl⟩
theorem k_StringUTF16_compress_0_ok : OkI M_StringUTF16_compress_0 3 := ⟨gm_6 (List.mem_of_getElem? (i := 204) rfl) rfl, gm_1 (List.mem_of_getElem? (i := 13) rfl) rfl, by decide, by decide, by decide +kernel⟩
theorem k_StringUTF16_compress_0_s : OkS M_StringUTF16_compress_0 3 := ⟨k_StringUTF16_compress_0_ok, gm_6 (List.mem_of_getElem? (i := 203) rfl) rfl⟩
theorem k_StringUTF16_compress_1_ok : OkI M_StringUTF16_compress_1 5 := ⟨gm_6 (List.mem_of_getElem? (i := 207) rfl) rfl, gm_1 (List.mem_of_getElem? (i := 13) rfl) rfl, by decide, by decide, by decide +kernel⟩
theorem k_StringUTF16_compress_1_s : OkS M_StringUTF16_compress_1 5 := ⟨k_StringUTF16_compress_1_ok, gm_6 (List.mem_of_getElem? (i := 206) rfl) rfl⟩
theorem k_StringUTF16_getChar_ok : OkI M_StringUTF16_getChar 2 := ⟨gm_3 (List.mem_of_getElem? (i := 239) rfl) rfl, gm_1 (List.mem_of_getElem? (i := 13) rfl) rfl, by decide, by decide, by decide +kernel⟩
theorem k_StringUTF16_getChar_s : OkS M_StringUTF16_getChar 2 := ⟨k_StringUTF16_getChar_ok, gm_3 (List.mem_of_getElem? (i := 238) rfl) rfl⟩
theorem k_StringUTF16_getChars_0_ok : OkI M_StringUTF16_getChars_0 4 := ⟨gm_6 (List.mem_of_getElem? (i := 120) rfl) rfl, gm_1 (List.mem_of_getElem? (i := 13) rfl) rfl, by decide, by decide, by decide +kernel⟩
theorem k_StringUTF16_getChars_0_s : OkS M_StringUTF16_getChars_0 4 := ⟨k_StringUTF16_getChars_0_ok, gm_6 (List.mem_of_getElem? (i := 119) rfl) rfl⟩
theorem k_StringUTF16_getChars_1_ok : OkI M_StringUTF16_getChars_1 3 := ⟨gm_6 (List.mem_of_getElem? (i := 123) rfl) rfl, gm_1 (List.mem_of_getElem? (i := 13) rfl) rfl, by decide, by decide, by decide +kernel⟩
theorem k_StringUTF16_getChars_1_s : OkS M_StringUTF16_getChars_1 3 := ⟨k_StringUTF16_getChars_1_ok, gm_6 (List.mem_of_getElem? (i := 122) rfl) rfl⟩
theorem k_StringUTF16_inflate_ok : OkI M_StringUTF16_inflate 5 := ⟨gm_6 (List.mem_of_getElem? (i := 85) rfl) rfl, gm_1 (List.mem_of_getElem? (i := 13) rfl) rfl, by decide, by decide, by decide +kernel⟩
theorem k_StringUTF16_inflate_s : OkS M_StringUTF16_inflate 5 := ⟨k_StringUTF16_inflate_ok, gm_6 (List.mem_of_getElem? (i := 84) rfl) rfl⟩
theorem k_StringUTF16_length_ok : OkI M_StringUTF16_length 1 := ⟨gm_3 (List.mem_of_getElem? (i := 235) rfl) rfl, gm_1 (List.mem_of_getElem? (i := 13) rfl) rfl, by decide, by decide, by decide +kernel⟩
theorem k_StringUTF16_length_s : OkS M_StringUTF16_length 1 := ⟨k_StringUTF16_length_ok, gm_3 (List.mem_of_getElem? (i := 234) rfl) rfl⟩
theorem k_StringUTF16_newBytesFor_ok : OkI M_StringUTF16_newBytesFor 1 := ⟨gm_6 (List.mem_of_getElem? (i := 75) rfl) rfl, gm_1 (List.mem_of_getElem? (i := 13) rfl) rfl, by decide, by decide, by decide +kernel⟩
theorem k_StringUTF16_newBytesFor_s : OkS M_StringUTF16_newBytesFor 1 := ⟨k_StringUTF16_newBytesFor_ok, gm_6 (List.mem_of_getElem? (i := 74) rfl) rfl⟩
theorem k_StringUTF16_newBytesLength_ok : OkI M_StringUTF16_newBytesLength 1 := ⟨gm_6 (List.mem_of_getElem? (i := 78) rfl) rfl, gm_1 (List.mem_of_getElem? (i := 13) rfl) rfl, by decide, by decide, by decide +kernel⟩
theorem k_StringUTF16_newBytesLength_s : OkS M_StringUTF16_newBytesLength 1 := ⟨k_StringUTF16_newBytesLength_ok, gm_6 (List.mem_of_getElem? (i := 77) rfl) rfl⟩
theorem k_StringUTF16_putChar_ok : OkI M_StringUTF16_putChar 3 := ⟨gm_6 (List.mem_of_getElem? (i := 58) rfl) rfl, gm_1 (List.mem_of_getElem? (i := 13) rfl) rfl, by decide, by decide, by decide +kernel⟩
theorem k_StringUTF16_putChar_s : OkS M_StringUTF16_putChar 3 := ⟨k_StringUTF16_putChar_ok, gm_6 (List.mem_of_getElem? (i := 57) rfl) rfl⟩
theorem k_StringUTF16_putCharsAt_ok : OkI M_StringUTF16_putCharsAt 6 := ⟨gm_6 (List.mem_of_getElem? (i := 46) rfl) rfl, gm_1 (List.mem_of_getElem? (i := 13) rfl) rfl, by decide, by decide, by decide +kernel⟩
theorem k_StringUTF16_putCharsAt_s : OkS M_StringUTF16_putCharsAt 6 := ⟨k_StringUTF16_putCharsAt_ok, gm_6 (List.mem_of_getElem? (i := 45) rfl) rfl⟩
theorem k_Throwable_init_0_ok : OkI M_Throwable_init_0 0 := ⟨gm_2 (List.mem_of_getElem? (i := 3) rfl) rfl, gm_1 (List.mem_of_getElem? (i := 22) rfl) rfl, by decide, by decide, by decide +kernel⟩
theorem k_Throwable_init_0_n : OkN M_Throwable_init_0 0 := ⟨k_Throwable_init_0_ok, rfl, rfl, rfl, gm_2 (List.mem_of_getElem? (i := 2) rfl) rfl⟩
theorem k_Throwable_init_1_ok : OkI M_Throwable_init_1 1 := ⟨gm_2 (List.mem_of_getElem? (i := 32) rfl) rfl, gm_1 (List.mem_of_getElem? (i := 22) rfl) rfl, by decide, by decide, by decide +kernel⟩
theorem k_Throwable_init_1_n : OkN M_Throwable_init_1 1 := ⟨k_Throwable_init_1_ok, rfl, rfl, rfl, gm_2 (List.mem_of_getElem? (i := 31) rfl) rfl⟩
theorem k_Arrays_checkLength_ok : OkI M_Arrays_checkLength 2 := ⟨gm_6 (List.mem_of_getElem? (i := 201) rfl) rfl, gm_1 (List.mem_of_getElem? (i := 17) rfl) rfl, by decide, by decide, by decide +kernel⟩
theorem k_Arrays_checkLength_s : OkS M_Arrays_checkLength 2 := ⟨k_Arrays_checkLength_ok, gm_6 (List.mem_of_getElem? (i := 200) rfl) rfl⟩
theorem k_Arrays_copyOf_ok : OkI M_Arrays_copyOf 2 := ⟨gm_6 (List.mem_of_getElem? (i := 26) rfl) rfl, gm_1 (List.mem_of_getElem? (i := 17) rfl) rfl, by decide, by decide, by decide +kernel⟩
theorem k_Arrays_copyOf_s : OkS M_Arrays_copyOf 2 := ⟨k_Arrays_copyOf_ok, gm_6 (List.mem_of_getElem? (i := 25) rfl) rfl⟩
theorem k_Arrays_copyOfRange_ok : OkI M_Arrays_copyOfRange 3 := ⟨gm_6 (List.mem_of_getElem? (i := 195) rfl) rfl, gm_1 (List.mem_of_getElem? (i := 17) rfl) rfl, by decide, by decide, by decide +kernel⟩
theorem k_Arrays_copyOfRange_s : OkS M_Arrays_copyOfRange 3 := ⟨k_Arrays_copyOfRange_ok, gm_6 (List.mem_of_getElem? (i := 194) rfl) rfl⟩
theorem k_Arrays_copyOfRangeByte_ok : OkI M_Arrays_copyOfRangeByte 3 := ⟨gm_6 (List.mem_of_getElem? (i := 198) rfl) rfl, gm_1 (List.mem_of_getElem? (i := 17) rfl) rfl, by decide, by decide, by decide +kernel⟩
theorem k_Arrays_copyOfRangeByte_s : OkS M_Arrays_copyOfRangeByte 3 := ⟨k_Arrays_copyOfRangeByte_ok, gm_6 (List.mem_of_getElem? (i := 197) rfl) rfl⟩
theorem k_ArraysSupport_hugeLength_ok : OkI M_ArraysSupport_hugeLength 2 := ⟨gm_6 (List.mem_of_getElem? (i := 22) rfl) rfl, gm_1 (List.mem_of_getElem? (i := 15) rfl) rfl, by decide, by decide, by decide +kernel⟩
theorem k_ArraysSupport_hugeLength_s : OkS M_ArraysSupport_hugeLength 2 := ⟨k_ArraysSupport_hugeLength_ok, gm_6 (List.mem_of_getElem? (i := 21) rfl) rfl⟩
theorem k_ArraysSupport_newLength_ok : OkI M_ArraysSupport_newLength 3 := ⟨gm_6 (List.mem_of_getElem? (i := 17) rfl) rfl, gm_1 (List.mem_of_getElem? (i := 15) rfl) rfl, by decide, by decide, by decide +kernel⟩
theorem k_ArraysSupport_newLength_s : OkS M_ArraysSupport_newLength 3 := ⟨k_ArraysSupport_newLength_ok, gm_6 (List.mem_of_getElem? (i := 16) rfl) rfl⟩
theorem k_Preconditions_checkFromIndexSize_ok : OkI M_Preconditions_checkFromIndexSize 4 := ⟨gm_6 (List.mem_of_getElem? (i := 94) rfl) rfl, gm_1 (List.mem_of_getElem? (i := 19) rfl) rfl, by decide, by decide, by decide +kernel⟩
theorem k_Preconditions_checkFromIndexSize_s : OkS M_Preconditions_checkFromIndexSize 4 := ⟨k_Preconditions_checkFromIndexSize_ok, gm_6 (List.mem_of_getElem? (i := 93) rfl) rfl⟩
theorem k_Preconditions_checkFromToIndex_ok : OkI M_Preconditions_checkFromToIndex 4 := ⟨gm_6 (List.mem_of_getElem? (i := 55) rfl) rfl, gm_1 (List.mem_of_getElem? (i := 19) rfl) rfl, by decide, by decide, by decide +kernel⟩
theorem k_Preconditions_checkFromToIndex_s : OkS M_Preconditions_checkFromToIndex 4 := ⟨k_Preconditions_checkFromToIndex_ok, gm_6 (List.mem_of_getElem? (i := 54) rfl) rfl⟩
theorem k_Preconditions_checkIndex_ok : OkI M_Preconditions_checkIndex 3 := ⟨gm_3 (List.mem_of_getElem? (i := 226) rfl) rfl, gm_1 (List.mem_of_getElem? (i := 19) rfl) rfl, by decide, by decide, by decide +kernel⟩
theorem k_Preconditions_checkIndex_s : OkS M_Preconditions_checkIndex 3 := ⟨k_Preconditions_checkIndex_ok, gm_3 (List.mem_of_getElem? (i := 225) rfl) rfl⟩
theorem l_Law_248 : Cond.methodLink "GlacierCampLaw" 248 M_Camp_init.1 ∈ gw := gm_1 (List.mem_of_getElem? (i := 33) rfl) rfl
theorem l_Camp_1 : Cond.methodLink "GlacierCamp" 1 M_Object_init.1 ∈ gw := gm_1 (List.mem_of_getElem? (i := 36) rfl) rfl
theorem l_Tape_3 : Cond.methodLink "GlacierCamp$Tape" 3 M_Object_init.1 ∈ gw := gm_1 (List.mem_of_getElem? (i := 44) rfl) rfl
theorem l_Tokens_3 : Cond.methodLink "GlacierCamp$Tokens" 3 M_Object_init.1 ∈ gw := gm_1 (List.mem_of_getElem? (i := 58) rfl) rfl
theorem l_Camp_25 : Cond.methodLink "GlacierCamp" 25 M_Glacier_init.1 ∈ gw := gm_1 (List.mem_of_getElem? (i := 95) rfl) rfl
theorem l_Glacier_3 : Cond.methodLink "GlacierCamp$Glacier" 3 M_Object_init.1 ∈ gw := gm_1 (List.mem_of_getElem? (i := 98) rfl) rfl
theorem l_Glacier_11 : Cond.methodLink "GlacierCamp$Glacier" 11 M_Table_init.1 ∈ gw := gm_1 (List.mem_of_getElem? (i := 101) rfl) rfl
theorem l_Table_3 : Cond.methodLink "GlacierCamp$Table" 3 M_Object_init.1 ∈ gw := gm_1 (List.mem_of_getElem? (i := 104) rfl) rfl
theorem l_Glacier_36 : Cond.methodLink "GlacierCamp$Glacier" 36 M_Glacier_beginAnew.1 ∈ gw := gm_1 (List.mem_of_getElem? (i := 112) rfl) rfl
theorem l_Glacier_39 : Cond.methodLink "GlacierCamp$Glacier" 39 M_Table_clear.1 ∈ gw := gm_1 (List.mem_of_getElem? (i := 116) rfl) rfl
theorem l_Orders_3 : Cond.methodLink "GlacierCamp$Orders" 3 M_Object_init.1 ∈ gw := gm_1 (List.mem_of_getElem? (i := 156) rfl) rfl
theorem l_Orders_11 : Cond.methodLink "GlacierCamp$Orders" 11 M_Table_init.1 ∈ gw := gm_1 (List.mem_of_getElem? (i := 158) rfl) rfl
theorem l_Formulas_3 : Cond.methodLink "GlacierCamp$Formulas" 3 M_Object_init.1 ∈ gw := gm_1 (List.mem_of_getElem? (i := 164) rfl) rfl
theorem l_Law_257 : Cond.methodLink "GlacierCampLaw" 257 M_Camp_count.1 ∈ gw := gm_1 (List.mem_of_getElem? (i := 212) rfl) rfl
theorem l_Camp_99 : Cond.methodLink "GlacierCamp" 99 M_Camp_needWhat.1 ∈ gw := gm_1 (List.mem_of_getElem? (i := 216) rfl) rfl
theorem l_Throwable_1 : Cond.methodLink "java/lang/Throwable" 1 M_Object_init.1 ∈ gw := gm_2 (List.mem_of_getElem? (i := 4) rfl) rfl
theorem l_Camp_157 : Cond.methodLink "GlacierCamp" 157 M_IndexOutOfBoundsException_init.1 ∈ gw := gm_2 (List.mem_of_getElem? (i := 21) rfl) rfl
theorem l_IndexOutOfBoundsException_7 : Cond.methodLink "java/lang/IndexOutOfBoundsException" 7 M_RuntimeException_init.1 ∈ gw := gm_2 (List.mem_of_getElem? (i := 24) rfl) rfl
theorem l_RuntimeException_7 : Cond.methodLink "java/lang/RuntimeException" 7 M_Exception_init.1 ∈ gw := gm_2 (List.mem_of_getElem? (i := 27) rfl) rfl
theorem l_Exception_7 : Cond.methodLink "java/lang/Exception" 7 M_Throwable_init_1.1 ∈ gw := gm_2 (List.mem_of_getElem? (i := 30) rfl) rfl
theorem l_Camp_103 : Cond.methodLink "GlacierCamp" 103 M_Camp_counted.1 ∈ gw := gm_2 (List.mem_of_getElem? (i := 46) rfl) rfl
theorem l_Camp_70 : Cond.methodLink "GlacierCamp" 70 M_Glacier_day.1 ∈ gw := gm_2 (List.mem_of_getElem? (i := 50) rfl) rfl
theorem l_Camp_111 : Cond.methodLink "GlacierCamp" 111 M_Table_rows.1 ∈ gw := gm_2 (List.mem_of_getElem? (i := 54) rfl) rfl
theorem l_Camp_128 : Cond.methodLink "GlacierCamp" 128 M_Orders_size.1 ∈ gw := gm_2 (List.mem_of_getElem? (i := 58) rfl) rfl
theorem l_Orders_27 : Cond.methodLink "GlacierCamp$Orders" 27 M_Table_rows.1 ∈ gw := gm_2 (List.mem_of_getElem? (i := 62) rfl) rfl
theorem l_Camp_129 : Cond.methodLink "GlacierCamp" 129 M_Glacier_warmthToday.1 ∈ gw := gm_2 (List.mem_of_getElem? (i := 63) rfl) rfl
theorem l_Glacier_61 : Cond.methodLink "GlacierCamp$Glacier" 61 M_Glacier_warmthOf.1 ∈ gw := gm_2 (List.mem_of_getElem? (i := 67) rfl) rfl
theorem l_Camp_47 : Cond.methodLink "GlacierCamp" 47 M_Tape_size.1 ∈ gw := gm_2 (List.mem_of_getElem? (i := 71) rfl) rfl
theorem l_Camp_132 : Cond.methodLink "GlacierCamp" 132 M_Glacier_total.1 ∈ gw := gm_2 (List.mem_of_getElem? (i := 75) rfl) rfl
theorem l_Glacier_65 : Cond.methodLink "GlacierCamp$Glacier" 65 M_Table_sum.1 ∈ gw := gm_2 (List.mem_of_getElem? (i := 79) rfl) rfl
theorem l_Table_19 : Cond.methodLink "GlacierCamp$Table" 19 M_Table_get.1 ∈ gw := gm_2 (List.mem_of_getElem? (i := 83) rfl) rfl
theorem l_Glacier_68 : Cond.methodLink "GlacierCamp$Glacier" 68 M_Table_rows.1 ∈ gw := gm_2 (List.mem_of_getElem? (i := 87) rfl) rfl
theorem l_Law_271 : Cond.methodLink "GlacierCampLaw" 271 M_Camp_band.1 ∈ gw := gm_2 (List.mem_of_getElem? (i := 88) rfl) rfl
theorem l_Camp_135 : Cond.methodLink "GlacierCamp" 135 M_Camp_needRow.1 ∈ gw := gm_2 (List.mem_of_getElem? (i := 92) rfl) rfl
theorem l_Camp_149 : Cond.methodLink "GlacierCamp" 149 M_Table_has.1 ∈ gw := gm_2 (List.mem_of_getElem? (i := 95) rfl) rfl
theorem l_Camp_139 : Cond.methodLink "GlacierCamp" 139 M_Glacier_bandFact.1 ∈ gw := gm_2 (List.mem_of_getElem? (i := 100) rfl) rfl
theorem l_Glacier_71 : Cond.methodLink "GlacierCamp$Glacier" 71 M_Table_matches.1 ∈ gw := gm_2 (List.mem_of_getElem? (i := 104) rfl) rfl
theorem l_Glacier_75 : Cond.methodLink "GlacierCamp$Glacier" 75 M_Table_get.1 ∈ gw := gm_2 (List.mem_of_getElem? (i := 108) rfl) rfl
theorem l_Law_277 : Cond.methodLink "GlacierCampLaw" 277 M_Camp_stake.1 ∈ gw := gm_2 (List.mem_of_getElem? (i := 109) rfl) rfl
theorem l_Camp_143 : Cond.methodLink "GlacierCamp" 143 M_Table_get.1 ∈ gw := gm_2 (List.mem_of_getElem? (i := 113) rfl) rfl
theorem l_Law_290 : Cond.methodLink "GlacierCampLaw" 290 M_Camp_crevasse.1 ∈ gw := gm_2 (List.mem_of_getElem? (i := 114) rfl) rfl
theorem l_Camp_146 : Cond.methodLink "GlacierCamp" 146 M_Glacier_crevasseFact.1 ∈ gw := gm_2 (List.mem_of_getElem? (i := 118) rfl) rfl
theorem l_Glacier_79 : Cond.methodLink "GlacierCamp$Glacier" 79 M_Math_min.1 ∈ gw := gm_2 (List.mem_of_getElem? (i := 122) rfl) rfl
theorem l_Law_284 : Cond.methodLink "GlacierCampLaw" 284 M_Camp_team.1 ∈ gw := gm_2 (List.mem_of_getElem? (i := 125) rfl) rfl
theorem l_Law_214 : Cond.methodLink "GlacierCampLaw" 214 M_Camp_go.1 ∈ gw := gm_2 (List.mem_of_getElem? (i := 129) rfl) rfl
theorem l_Camp_162 : Cond.methodLink "GlacierCamp" 162 M_Glacier_tryGo.1 ∈ gw := gm_2 (List.mem_of_getElem? (i := 133) rfl) rfl
theorem l_Glacier_111 : Cond.methodLink "GlacierCamp$Glacier" 111 M_Glacier_canGo.1 ∈ gw := gm_2 (List.mem_of_getElem? (i := 137) rfl) rfl
theorem l_Glacier_100 : Cond.methodLink "GlacierCamp$Glacier" 100 M_Glacier_canDo.1 ∈ gw := gm_2 (List.mem_of_getElem? (i := 141) rfl) rfl
theorem l_Glacier_104 : Cond.methodLink "GlacierCamp$Glacier" 104 M_Table_has.1 ∈ gw := gm_2 (List.mem_of_getElem? (i := 145) rfl) rfl
theorem l_Glacier_107 : Cond.methodLink "GlacierCamp$Glacier" 107 M_Glacier_isTooWeak.1 ∈ gw := gm_2 (List.mem_of_getElem? (i := 146) rfl) rfl
theorem l_Glacier_115 : Cond.methodLink "GlacierCamp$Glacier" 115 M_Glacier_fallingPlace.1 ∈ gw := gm_2 (List.mem_of_getElem? (i := 150) rfl) rfl
theorem l_Glacier_119 : Cond.methodLink "GlacierCamp$Glacier" 119 M_Glacier_letFall.1 ∈ gw := gm_2 (List.mem_of_getElem? (i := 154) rfl) rfl
theorem l_Glacier_57 : Cond.methodLink "GlacierCamp$Glacier" 57 M_Table_set.1 ∈ gw := gm_2 (List.mem_of_getElem? (i := 158) rfl) rfl
theorem l_Glacier_127 : Cond.methodLink "GlacierCamp$Glacier" 127 M_Table_add.1 ∈ gw := gm_2 (List.mem_of_getElem? (i := 162) rfl) rfl
theorem l_Glacier_123 : Cond.methodLink "GlacierCamp$Glacier" 123 M_Glacier_letCross.1 ∈ gw := gm_2 (List.mem_of_getElem? (i := 166) rfl) rfl
theorem l_Camp_55 : Cond.methodLink "GlacierCamp" 55 M_IllegalStateException_init.1 ∈ gw := gm_2 (List.mem_of_getElem? (i := 180) rfl) rfl
theorem l_IllegalStateException_7 : Cond.methodLink "java/lang/IllegalStateException" 7 M_RuntimeException_init.1 ∈ gw := gm_2 (List.mem_of_getElem? (i := 183) rfl) rfl
theorem l_Law_244 : Cond.methodLink "GlacierCampLaw" 244 M_Camp_pass.1 ∈ gw := gm_2 (List.mem_of_getElem? (i := 186) rfl) rfl
theorem l_Camp_174 : Cond.methodLink "GlacierCamp" 174 M_Camp_needRange.1 ∈ gw := gm_2 (List.mem_of_getElem? (i := 190) rfl) rfl
theorem l_Camp_66 : Cond.methodLink "GlacierCamp" 66 M_IllegalArgumentException_init.1 ∈ gw := gm_2 (List.mem_of_getElem? (i := 203) rfl) rfl
theorem l_IllegalArgumentException_7 : Cond.methodLink "java/lang/IllegalArgumentException" 7 M_RuntimeException_init.1 ∈ gw := gm_2 (List.mem_of_getElem? (i := 206) rfl) rfl
theorem l_Camp_197 : Cond.methodLink "GlacierCamp" 197 M_Table_sum.1 ∈ gw := gm_2 (List.mem_of_getElem? (i := 209) rfl) rfl
theorem l_Camp_200 : Cond.methodLink "GlacierCamp" 200 M_Glacier_passDay.1 ∈ gw := gm_2 (List.mem_of_getElem? (i := 210) rfl) rfl
theorem l_Glacier_139 : Cond.methodLink "GlacierCamp$Glacier" 139 M_Orders_size.1 ∈ gw := gm_2 (List.mem_of_getElem? (i := 214) rfl) rfl
theorem l_Glacier_144 : Cond.methodLink "GlacierCamp$Glacier" 144 M_Orders_carryOut.1 ∈ gw := gm_2 (List.mem_of_getElem? (i := 215) rfl) rfl
theorem l_Orders_42 : Cond.methodLink "GlacierCamp$Orders" 42 M_Table_get.1 ∈ gw := gm_2 (List.mem_of_getElem? (i := 219) rfl) rfl
theorem l_Orders_46 : Cond.methodLink "GlacierCamp$Orders" 46 M_Formulas_worth.1 ∈ gw := gm_2 (List.mem_of_getElem? (i := 220) rfl) rfl
theorem l_Formulas_35 : Cond.methodLink "GlacierCamp$Formulas" 35 M_Formulas_push.1 ∈ gw := gm_2 (List.mem_of_getElem? (i := 226) rfl) rfl
theorem l_Formulas_42 : Cond.methodLink "GlacierCamp$Formulas" 42 M_Glacier_valueOf.1 ∈ gw := gm_2 (List.mem_of_getElem? (i := 230) rfl) rfl
theorem l_Glacier_94 : Cond.methodLink "GlacierCamp$Glacier" 94 M_Glacier_warmthToday.1 ∈ gw := gm_3 (List.mem_of_getElem? (i := 2) rfl) rfl
theorem l_Glacier_97 : Cond.methodLink "GlacierCamp$Glacier" 97 M_Glacier_crevasseFact.1 ∈ gw := gm_3 (List.mem_of_getElem? (i := 3) rfl) rfl
theorem l_Formulas_48 : Cond.methodLink "GlacierCamp$Formulas" 48 M_Formulas_pop.1 ∈ gw := gm_3 (List.mem_of_getElem? (i := 4) rfl) rfl
theorem l_Formulas_52 : Cond.methodLink "GlacierCamp$Formulas" 52 M_Formulas_joined.1 ∈ gw := gm_3 (List.mem_of_getElem? (i := 8) rfl) rfl
theorem l_Formulas_64 : Cond.methodLink "GlacierCamp$Formulas" 64 M_Math_min.1 ∈ gw := gm_3 (List.mem_of_getElem? (i := 13) rfl) rfl
theorem l_Formulas_70 : Cond.methodLink "GlacierCamp$Formulas" 70 M_Math_max.1 ∈ gw := gm_3 (List.mem_of_getElem? (i := 14) rfl) rfl
theorem l_Orders_50 : Cond.methodLink "GlacierCamp$Orders" 50 M_Glacier_tryGo.1 ∈ gw := gm_3 (List.mem_of_getElem? (i := 17) rfl) rfl
theorem l_Orders_56 : Cond.methodLink "GlacierCamp$Orders" 56 M_Glacier_tryProbe.1 ∈ gw := gm_3 (List.mem_of_getElem? (i := 18) rfl) rfl
theorem l_Orders_60 : Cond.methodLink "GlacierCamp$Orders" 60 M_Glacier_takeFood.1 ∈ gw := gm_3 (List.mem_of_getElem? (i := 22) rfl) rfl
theorem l_Glacier_130 : Cond.methodLink "GlacierCamp$Glacier" 130 M_Glacier_firstStore.1 ∈ gw := gm_3 (List.mem_of_getElem? (i := 26) rfl) rfl
theorem l_Glacier_133 : Cond.methodLink "GlacierCamp$Glacier" 133 M_Glacier_isHere.1 ∈ gw := gm_3 (List.mem_of_getElem? (i := 30) rfl) rfl
theorem l_Glacier_136 : Cond.methodLink "GlacierCamp$Glacier" 136 M_Math_max.1 ∈ gw := gm_3 (List.mem_of_getElem? (i := 34) rfl) rfl
theorem l_Orders_63 : Cond.methodLink "GlacierCamp$Orders" 63 M_Glacier_tryDrill.1 ∈ gw := gm_3 (List.mem_of_getElem? (i := 35) rfl) rfl
theorem l_Glacier_148 : Cond.methodLink "GlacierCamp$Glacier" 148 M_Glacier_weather.1 ∈ gw := gm_3 (List.mem_of_getElem? (i := 39) rfl) rfl
theorem l_Glacier_160 : Cond.methodLink "GlacierCamp$Glacier" 160 M_Glacier_moveStakes.1 ∈ gw := gm_3 (List.mem_of_getElem? (i := 43) rfl) rfl
theorem l_Glacier_163 : Cond.methodLink "GlacierCamp$Glacier" 163 M_Glacier_moveBridges.1 ∈ gw := gm_3 (List.mem_of_getElem? (i := 47) rfl) rfl
theorem l_Glacier_151 : Cond.methodLink "GlacierCamp$Glacier" 151 M_Glacier_eat.1 ∈ gw := gm_3 (List.mem_of_getElem? (i := 51) rfl) rfl
theorem l_Glacier_154 : Cond.methodLink "GlacierCamp$Glacier" 154 M_Glacier_readStakes.1 ∈ gw := gm_3 (List.mem_of_getElem? (i := 55) rfl) rfl
theorem l_Glacier_157 : Cond.methodLink "GlacierCamp$Glacier" 157 M_Glacier_endDay.1 ∈ gw := gm_3 (List.mem_of_getElem? (i := 59) rfl) rfl
theorem l_Law_268 : Cond.methodLink "GlacierCampLaw" 268 M_Camp_melt.1 ∈ gw := gm_3 (List.mem_of_getElem? (i := 63) rfl) rfl
theorem l_Camp_191 : Cond.methodLink "GlacierCamp" 191 M_Glacier_warmthOf.1 ∈ gw := gm_3 (List.mem_of_getElem? (i := 67) rfl) rfl
theorem l_Camp_204 : Cond.methodLink "GlacierCamp" 204 M_Math_max.1 ∈ gw := gm_3 (List.mem_of_getElem? (i := 68) rfl) rfl
theorem l_Law_280 : Cond.methodLink "GlacierCampLaw" 280 M_Camp_until.1 ∈ gw := gm_3 (List.mem_of_getElem? (i := 69) rfl) rfl
theorem l_Camp_207 : Cond.methodLink "GlacierCamp" 207 M_Glacier_become.1 ∈ gw := gm_3 (List.mem_of_getElem? (i := 73) rfl) rfl
theorem l_Glacier_49 : Cond.methodLink "GlacierCamp$Glacier" 49 M_Table_become.1 ∈ gw := gm_3 (List.mem_of_getElem? (i := 77) rfl) rfl
theorem l_Law_287 : Cond.methodLink "GlacierCampLaw" 287 M_Camp_foresee.1 ∈ gw := gm_3 (List.mem_of_getElem? (i := 81) rfl) rfl
theorem l_Law_293 : Cond.methodLink "GlacierCampLaw" 293 M_Camp_safe.1 ∈ gw := gm_3 (List.mem_of_getElem? (i := 86) rfl) rfl
theorem l_Camp_213 : Cond.methodLink "GlacierCamp" 213 M_Glacier_canGo.1 ∈ gw := gm_3 (List.mem_of_getElem? (i := 90) rfl) rfl
theorem l_Camp_216 : Cond.methodLink "GlacierCamp" 216 M_Glacier_fallingPlace.1 ∈ gw := gm_3 (List.mem_of_getElem? (i := 91) rfl) rfl
theorem l_Law_264 : Cond.methodLink "GlacierCampLaw" 264 M_Camp_digest.1 ∈ gw := gm_3 (List.mem_of_getElem? (i := 92) rfl) rfl
theorem l_Camp_229 : Cond.methodLink "GlacierCamp" 229 M_Camp_digestOf.1 ∈ gw := gm_3 (List.mem_of_getElem? (i := 98) rfl) rfl
theorem l_Law_210 : Cond.methodLink "GlacierCampLaw" 210 M_Sim_goes.1 ∈ gw := gm_3 (List.mem_of_getElem? (i := 101) rfl) rfl
theorem l_Sim_63 : Cond.methodLink "GlacierCampLaw$Sim" 63 M_Sim_can.1 ∈ gw := gm_3 (List.mem_of_getElem? (i := 105) rfl) rfl
theorem l_Sim_55 : Cond.methodLink "GlacierCampLaw$Sim" 55 M_Sim_way.1 ∈ gw := gm_3 (List.mem_of_getElem? (i := 109) rfl) rfl
theorem l_Sim_59 : Cond.methodLink "GlacierCampLaw$Sim" 59 M_Sim_isKnown.1 ∈ gw := gm_3 (List.mem_of_getElem? (i := 113) rfl) rfl
theorem l_Law_247 : Cond.methodLink "GlacierCampLaw" 247 M_Sim_pass.1 ∈ gw := gm_3 (List.mem_of_getElem? (i := 117) rfl) rfl
theorem l_Sim_97 : Cond.methodLink "GlacierCampLaw$Sim" 97 M_Sim_carries.1 ∈ gw := gm_3 (List.mem_of_getElem? (i := 121) rfl) rfl
theorem l_Sim_76 : Cond.methodLink "GlacierCampLaw$Sim" 76 M_Sim_holds.1 ∈ gw := gm_3 (List.mem_of_getElem? (i := 125) rfl) rfl
theorem l_Sim_80 : Cond.methodLink "GlacierCampLaw$Sim" 80 M_Sim_goes.1 ∈ gw := gm_3 (List.mem_of_getElem? (i := 129) rfl) rfl
theorem l_Sim_83 : Cond.methodLink "GlacierCampLaw$Sim" 83 M_Sim_probes.1 ∈ gw := gm_3 (List.mem_of_getElem? (i := 130) rfl) rfl
theorem l_Sim_87 : Cond.methodLink "GlacierCampLaw$Sim" 87 M_Sim_sum.1 ∈ gw := gm_3 (List.mem_of_getElem? (i := 134) rfl) rfl
theorem l_Sim_67 : Cond.methodLink "GlacierCampLaw$Sim" 67 M_Math_min.1 ∈ gw := gm_3 (List.mem_of_getElem? (i := 138) rfl) rfl
theorem l_Sim_73 : Cond.methodLink "GlacierCampLaw$Sim" 73 M_Math_max.1 ∈ gw := gm_3 (List.mem_of_getElem? (i := 139) rfl) rfl
theorem l_Sim_91 : Cond.methodLink "GlacierCampLaw$Sim" 91 M_Sim_fills.1 ∈ gw := gm_3 (List.mem_of_getElem? (i := 140) rfl) rfl
theorem l_Sim_94 : Cond.methodLink "GlacierCampLaw$Sim" 94 M_Sim_drills.1 ∈ gw := gm_3 (List.mem_of_getElem? (i := 144) rfl) rfl
theorem l_Sim_100 : Cond.methodLink "GlacierCampLaw$Sim" 100 M_Sim_weather.1 ∈ gw := gm_3 (List.mem_of_getElem? (i := 148) rfl) rfl
theorem l_Sim_104 : Cond.methodLink "GlacierCampLaw$Sim" 104 M_Sim_eats.1 ∈ gw := gm_3 (List.mem_of_getElem? (i := 153) rfl) rfl
theorem l_Law_296 : Cond.methodLink "GlacierCampLaw" 296 M_Sim_isSame.1 ∈ gw := gm_3 (List.mem_of_getElem? (i := 157) rfl) rfl
theorem l_Sim_108 : Cond.methodLink "GlacierCampLaw$Sim" 108 M_Sim_counts.1 ∈ gw := gm_3 (List.mem_of_getElem? (i := 161) rfl) rfl
theorem l_Sim_112 : Cond.methodLink "GlacierCampLaw$Sim" 112 M_Camp_count.1 ∈ gw := gm_3 (List.mem_of_getElem? (i := 165) rfl) rfl
theorem l_Sim_118 : Cond.methodLink "GlacierCampLaw$Sim" 118 M_Camp_band.1 ∈ gw := gm_3 (List.mem_of_getElem? (i := 166) rfl) rfl
theorem l_Sim_121 : Cond.methodLink "GlacierCampLaw$Sim" 121 M_Camp_stake.1 ∈ gw := gm_3 (List.mem_of_getElem? (i := 167) rfl) rfl
theorem l_Sim_124 : Cond.methodLink "GlacierCampLaw$Sim" 124 M_Camp_crevasse.1 ∈ gw := gm_3 (List.mem_of_getElem? (i := 168) rfl) rfl
theorem l_Sim_127 : Cond.methodLink "GlacierCampLaw$Sim" 127 M_Camp_depot.1 ∈ gw := gm_3 (List.mem_of_getElem? (i := 169) rfl) rfl
theorem l_Sim_130 : Cond.methodLink "GlacierCampLaw$Sim" 130 M_Camp_team.1 ∈ gw := gm_3 (List.mem_of_getElem? (i := 173) rfl) rfl
theorem l_Sim_133 : Cond.methodLink "GlacierCampLaw$Sim" 133 M_Camp_mean.1 ∈ gw := gm_3 (List.mem_of_getElem? (i := 174) rfl) rfl
theorem l_Law_125 : Cond.methodLink "GlacierCampLaw" 125 M_Law_below.1 ∈ gw := gm_3 (List.mem_of_getElem? (i := 178) rfl) rfl
theorem l_Law_119 : Cond.methodLink "GlacierCampLaw" 119 M_Law_cell.1 ∈ gw := gm_3 (List.mem_of_getElem? (i := 182) rfl) rfl
theorem l_Law_253 : Cond.methodLink "GlacierCampLaw" 253 M_Law_taught.1 ∈ gw := gm_3 (List.mem_of_getElem? (i := 186) rfl) rfl
theorem l_Law_9 : Cond.methodLink "GlacierCampLaw" 9 M_Camp_trim.1 ∈ gw := gm_3 (List.mem_of_getElem? (i := 189) rfl) rfl
theorem l_Camp_67 : Cond.methodLink "GlacierCamp" 67 M_Tape_cut.1 ∈ gw := gm_3 (List.mem_of_getElem? (i := 194) rfl) rfl
theorem l_Law_15 : Cond.methodLink "GlacierCampLaw" 15 M_String_length.1 ∈ gw := gm_3 (List.mem_of_getElem? (i := 198) rfl) rfl
theorem l_String_335 : Cond.methodLink "java/lang/String" 335 M_String_coder.1 ∈ gw := gm_3 (List.mem_of_getElem? (i := 202) rfl) rfl
theorem l_Law_21 : Cond.methodLink "GlacierCampLaw" 21 M_String_charAt.1 ∈ gw := gm_3 (List.mem_of_getElem? (i := 208) rfl) rfl
theorem l_String_492 : Cond.methodLink "java/lang/String" 492 M_String_isLatin1.1 ∈ gw := gm_3 (List.mem_of_getElem? (i := 212) rfl) rfl
theorem l_String_495 : Cond.methodLink "java/lang/String" 495 M_StringLatin1_charAt.1 ∈ gw := gm_3 (List.mem_of_getElem? (i := 216) rfl) rfl
theorem l_StringLatin1_9 : Cond.methodLink "java/lang/StringLatin1" 9 M_String_checkIndex.1 ∈ gw := gm_3 (List.mem_of_getElem? (i := 219) rfl) rfl
theorem l_String_1059 : Cond.methodLink "java/lang/String" 1059 M_Preconditions_checkIndex.1 ∈ gw := gm_3 (List.mem_of_getElem? (i := 224) rfl) rfl
theorem l_String_498 : Cond.methodLink "java/lang/String" 498 M_StringUTF16_charAt.1 ∈ gw := gm_3 (List.mem_of_getElem? (i := 227) rfl) rfl
theorem l_StringUTF16_67 : Cond.methodLink "java/lang/StringUTF16" 67 M_StringUTF16_checkIndex.1 ∈ gw := gm_3 (List.mem_of_getElem? (i := 230) rfl) rfl
theorem l_StringUTF16_48 : Cond.methodLink "java/lang/StringUTF16" 48 M_StringUTF16_length.1 ∈ gw := gm_3 (List.mem_of_getElem? (i := 233) rfl) rfl
theorem l_StringUTF16_414 : Cond.methodLink "java/lang/StringUTF16" 414 M_String_checkIndex.1 ∈ gw := gm_3 (List.mem_of_getElem? (i := 236) rfl) rfl
theorem l_StringUTF16_71 : Cond.methodLink "java/lang/StringUTF16" 71 M_StringUTF16_getChar.1 ∈ gw := gm_3 (List.mem_of_getElem? (i := 237) rfl) rfl
theorem l_Law_25 : Cond.methodLink "GlacierCampLaw" 25 M_Camp_feed.1 ∈ gw := gm_4 (List.mem_of_getElem? (i := 6) rfl) rfl
theorem l_Camp_58 : Cond.methodLink "GlacierCamp" 58 M_Tape_append.1 ∈ gw := gm_4 (List.mem_of_getElem? (i := 11) rfl) rfl
theorem l_Law_29 : Cond.methodLink "GlacierCampLaw" 29 M_Camp_teach.1 ∈ gw := gm_4 (List.mem_of_getElem? (i := 15) rfl) rfl
theorem l_Camp_73 : Cond.methodLink "GlacierCamp" 73 M_Glacier_beginAnew.1 ∈ gw := gm_4 (List.mem_of_getElem? (i := 19) rfl) rfl
theorem l_Camp_76 : Cond.methodLink "GlacierCamp" 76 M_Orders_clear.1 ∈ gw := gm_4 (List.mem_of_getElem? (i := 20) rfl) rfl
theorem l_Orders_31 : Cond.methodLink "GlacierCamp$Orders" 31 M_Table_clear.1 ∈ gw := gm_4 (List.mem_of_getElem? (i := 24) rfl) rfl
theorem l_Orders_34 : Cond.methodLink "GlacierCamp$Orders" 34 M_Formulas_clear.1 ∈ gw := gm_4 (List.mem_of_getElem? (i := 25) rfl) rfl
theorem l_Camp_79 : Cond.methodLink "GlacierCamp" 79 M_Tokens_readFrom.1 ∈ gw := gm_4 (List.mem_of_getElem? (i := 29) rfl) rfl
theorem l_Tokens_39 : Cond.methodLink "GlacierCamp$Tokens" 39 M_Tokens_pastBlanks.1 ∈ gw := gm_4 (List.mem_of_getElem? (i := 33) rfl) rfl
theorem l_Tokens_43 : Cond.methodLink "GlacierCamp$Tokens" 43 M_Tape_size.1 ∈ gw := gm_4 (List.mem_of_getElem? (i := 36) rfl) rfl
theorem l_Tokens_82 : Cond.methodLink "GlacierCamp$Tokens" 82 M_Tape_byteAt.1 ∈ gw := gm_4 (List.mem_of_getElem? (i := 37) rfl) rfl
theorem l_Tokens_48 : Cond.methodLink "GlacierCamp$Tokens" 48 M_Tokens_tokenEnd.1 ∈ gw := gm_4 (List.mem_of_getElem? (i := 41) rfl) rfl
theorem l_Tokens_86 : Cond.methodLink "GlacierCamp$Tokens" 86 M_Tokens_isLetter.1 ∈ gw := gm_4 (List.mem_of_getElem? (i := 44) rfl) rfl
theorem l_Tokens_90 : Cond.methodLink "GlacierCamp$Tokens" 90 M_Tokens_isDigit.1 ∈ gw := gm_4 (List.mem_of_getElem? (i := 47) rfl) rfl
theorem l_Tokens_51 : Cond.methodLink "GlacierCamp$Tokens" 51 M_Tokens_signOf.1 ∈ gw := gm_4 (List.mem_of_getElem? (i := 50) rfl) rfl
theorem l_Tokens_103 : Cond.methodLink "GlacierCamp$Tokens" 103 M_Tokens_reads.1 ∈ gw := gm_4 (List.mem_of_getElem? (i := 58) rfl) rfl
theorem l_Tokens_110 : Cond.methodLink "GlacierCamp$Tokens" 110 M_String_length.1 ∈ gw := gm_4 (List.mem_of_getElem? (i := 61) rfl) rfl
theorem l_Tokens_115 : Cond.methodLink "GlacierCamp$Tokens" 115 M_String_charAt.1 ∈ gw := gm_4 (List.mem_of_getElem? (i := 62) rfl) rfl
theorem l_Tokens_55 : Cond.methodLink "GlacierCamp$Tokens" 55 M_Tokens_worthOf.1 ∈ gw := gm_4 (List.mem_of_getElem? (i := 65) rfl) rfl
theorem l_Tokens_119 : Cond.methodLink "GlacierCamp$Tokens" 119 M_Tokens_numberOf.1 ∈ gw := gm_4 (List.mem_of_getElem? (i := 68) rfl) rfl
theorem l_Tokens_123 : Cond.methodLink "GlacierCamp$Tokens" 123 M_Tokens_nameOf.1 ∈ gw := gm_4 (List.mem_of_getElem? (i := 73) rfl) rfl
theorem l_Tokens_59 : Cond.methodLink "GlacierCamp$Tokens" 59 M_Tokens_put.1 ∈ gw := gm_4 (List.mem_of_getElem? (i := 77) rfl) rfl
theorem l_Tokens_69 : Cond.methodLink "GlacierCamp$Tokens" 69 M_Tokens_advance.1 ∈ gw := gm_4 (List.mem_of_getElem? (i := 81) rfl) rfl
theorem l_Camp_85 : Cond.methodLink "GlacierCamp" 85 M_Teacher_init.1 ∈ gw := gm_4 (List.mem_of_getElem? (i := 87) rfl) rfl
theorem l_Teacher_3 : Cond.methodLink "GlacierCamp$Teacher" 3 M_Object_init.1 ∈ gw := gm_4 (List.mem_of_getElem? (i := 90) rfl) rfl
theorem l_Names_3 : Cond.methodLink "GlacierCamp$Names" 3 M_Object_init.1 ∈ gw := gm_4 (List.mem_of_getElem? (i := 96) rfl) rfl
theorem l_Camp_88 : Cond.methodLink "GlacierCamp" 88 M_Teacher_readList.1 ∈ gw := gm_4 (List.mem_of_getElem? (i := 138) rfl) rfl
theorem l_Teacher_62 : Cond.methodLink "GlacierCamp$Teacher" 62 M_Tokens_sign.1 ∈ gw := gm_4 (List.mem_of_getElem? (i := 142) rfl) rfl
theorem l_Teacher_53 : Cond.methodLink "GlacierCamp$Teacher" 53 M_Tokens_brokenAt.1 ∈ gw := gm_4 (List.mem_of_getElem? (i := 147) rfl) rfl
theorem l_Teacher_81 : Cond.methodLink "GlacierCamp$Teacher" 81 M_Teacher_readBand.1 ∈ gw := gm_4 (List.mem_of_getElem? (i := 153) rfl) rfl
theorem l_Teacher_133 : Cond.methodLink "GlacierCamp$Teacher" 133 M_Table_rows.1 ∈ gw := gm_4 (List.mem_of_getElem? (i := 157) rfl) rfl
theorem l_Teacher_138 : Cond.methodLink "GlacierCamp$Teacher" 138 M_Table_get.1 ∈ gw := gm_4 (List.mem_of_getElem? (i := 158) rfl) rfl
theorem l_Teacher_142 : Cond.methodLink "GlacierCamp$Teacher" 142 M_Teacher_newName.1 ∈ gw := gm_4 (List.mem_of_getElem? (i := 159) rfl) rfl
theorem l_Teacher_242 : Cond.methodLink "GlacierCamp$Teacher" 242 M_Tokens_advance.1 ∈ gw := gm_4 (List.mem_of_getElem? (i := 163) rfl) rfl
theorem l_Teacher_118 : Cond.methodLink "GlacierCamp$Teacher" 118 M_Tokens_breakOff.1 ∈ gw := gm_4 (List.mem_of_getElem? (i := 165) rfl) rfl
theorem l_Teacher_314 : Cond.methodLink "GlacierCamp$Teacher" 314 M_Tokens_worth.1 ∈ gw := gm_4 (List.mem_of_getElem? (i := 169) rfl) rfl
theorem l_Teacher_342 : Cond.methodLink "GlacierCamp$Teacher" 342 M_Names_find.1 ∈ gw := gm_4 (List.mem_of_getElem? (i := 173) rfl) rfl
theorem l_Teacher_346 : Cond.methodLink "GlacierCamp$Teacher" 346 M_Teacher_tellError.1 ∈ gw := gm_4 (List.mem_of_getElem? (i := 177) rfl) rfl
theorem l_Teacher_356 : Cond.methodLink "GlacierCamp$Teacher" 356 M_Tokens_start.1 ∈ gw := gm_4 (List.mem_of_getElem? (i := 181) rfl) rfl
theorem l_Teacher_349 : Cond.methodLink "GlacierCamp$Teacher" 349 M_Names_size.1 ∈ gw := gm_4 (List.mem_of_getElem? (i := 185) rfl) rfl
theorem l_Teacher_350 : Cond.methodLink "GlacierCamp$Teacher" 350 M_Names_add.1 ∈ gw := gm_4 (List.mem_of_getElem? (i := 189) rfl) rfl
theorem l_Teacher_149 : Cond.methodLink "GlacierCamp$Teacher" 149 M_Teacher_number.1 ∈ gw := gm_4 (List.mem_of_getElem? (i := 195) rfl) rfl
theorem l_Teacher_124 : Cond.methodLink "GlacierCamp$Teacher" 124 M_Tokens_expect.1 ∈ gw := gm_4 (List.mem_of_getElem? (i := 199) rfl) rfl
theorem l_Tokens_79 : Cond.methodLink "GlacierCamp$Tokens" 79 M_Tokens_breakOff.1 ∈ gw := gm_4 (List.mem_of_getElem? (i := 203) rfl) rfl
theorem l_Teacher_156 : Cond.methodLink "GlacierCamp$Teacher" 156 M_Glacier_addBand.1 ∈ gw := gm_4 (List.mem_of_getElem? (i := 207) rfl) rfl
theorem l_Glacier_53 : Cond.methodLink "GlacierCamp$Glacier" 53 M_Table_addRow.1 ∈ gw := gm_4 (List.mem_of_getElem? (i := 211) rfl) rfl
theorem l_Teacher_84 : Cond.methodLink "GlacierCamp$Teacher" 84 M_Teacher_readStake.1 ∈ gw := gm_4 (List.mem_of_getElem? (i := 215) rfl) rfl
theorem l_Teacher_163 : Cond.methodLink "GlacierCamp$Teacher" 163 M_Teacher_oldName.1 ∈ gw := gm_4 (List.mem_of_getElem? (i := 221) rfl) rfl
theorem l_Teacher_170 : Cond.methodLink "GlacierCamp$Teacher" 170 M_Glacier_addStake.1 ∈ gw := gm_4 (List.mem_of_getElem? (i := 227) rfl) rfl
theorem l_Teacher_87 : Cond.methodLink "GlacierCamp$Teacher" 87 M_Teacher_readCrevasse.1 ∈ gw := gm_4 (List.mem_of_getElem? (i := 231) rfl) rfl
theorem l_Teacher_179 : Cond.methodLink "GlacierCamp$Teacher" 179 M_Glacier_addCrevasse.1 ∈ gw := gm_4 (List.mem_of_getElem? (i := 239) rfl) rfl
theorem l_Teacher_90 : Cond.methodLink "GlacierCamp$Teacher" 90 M_Teacher_readDepot.1 ∈ gw := gm_5 (List.mem_of_getElem? (i := 3) rfl) rfl
theorem l_Teacher_185 : Cond.methodLink "GlacierCamp$Teacher" 185 M_Glacier_addDepot.1 ∈ gw := gm_5 (List.mem_of_getElem? (i := 9) rfl) rfl
theorem l_Teacher_93 : Cond.methodLink "GlacierCamp$Teacher" 93 M_Teacher_readTeam.1 ∈ gw := gm_5 (List.mem_of_getElem? (i := 13) rfl) rfl
theorem l_Teacher_191 : Cond.methodLink "GlacierCamp$Teacher" 191 M_Glacier_addTeam.1 ∈ gw := gm_5 (List.mem_of_getElem? (i := 19) rfl) rfl
theorem l_Teacher_96 : Cond.methodLink "GlacierCamp$Teacher" 96 M_Teacher_readDay.1 ∈ gw := gm_5 (List.mem_of_getElem? (i := 23) rfl) rfl
theorem l_Teacher_201 : Cond.methodLink "GlacierCamp$Teacher" 201 M_Glacier_changeWarmth.1 ∈ gw := gm_5 (List.mem_of_getElem? (i := 31) rfl) rfl
theorem l_Teacher_99 : Cond.methodLink "GlacierCamp$Teacher" 99 M_Teacher_readGo.1 ∈ gw := gm_5 (List.mem_of_getElem? (i := 35) rfl) rfl
theorem l_Teacher_204 : Cond.methodLink "GlacierCamp$Teacher" 204 M_Teacher_newOrder.1 ∈ gw := gm_5 (List.mem_of_getElem? (i := 39) rfl) rfl
theorem l_Teacher_354 : Cond.methodLink "GlacierCamp$Teacher" 354 M_Orders_add.1 ∈ gw := gm_5 (List.mem_of_getElem? (i := 43) rfl) rfl
theorem l_Orders_35 : Cond.methodLink "GlacierCamp$Orders" 35 M_Table_addRow.1 ∈ gw := gm_5 (List.mem_of_getElem? (i := 47) rfl) rfl
theorem l_Orders_38 : Cond.methodLink "GlacierCamp$Orders" 38 M_Table_set.1 ∈ gw := gm_5 (List.mem_of_getElem? (i := 48) rfl) rfl
theorem l_Teacher_207 : Cond.methodLink "GlacierCamp$Teacher" 207 M_Orders_note.1 ∈ gw := gm_5 (List.mem_of_getElem? (i := 49) rfl) rfl
theorem l_Teacher_103 : Cond.methodLink "GlacierCamp$Teacher" 103 M_Teacher_readWhen.1 ∈ gw := gm_5 (List.mem_of_getElem? (i := 53) rfl) rfl
theorem l_Teacher_222 : Cond.methodLink "GlacierCamp$Teacher" 222 M_Formulas_size.1 ∈ gw := gm_5 (List.mem_of_getElem? (i := 59) rfl) rfl
theorem l_Teacher_233 : Cond.methodLink "GlacierCamp$Teacher" 233 M_Teacher_readTest.1 ∈ gw := gm_5 (List.mem_of_getElem? (i := 63) rfl) rfl
theorem l_Teacher_236 : Cond.methodLink "GlacierCamp$Teacher" 236 M_Teacher_readBoth.1 ∈ gw := gm_5 (List.mem_of_getElem? (i := 67) rfl) rfl
theorem l_Teacher_249 : Cond.methodLink "GlacierCamp$Teacher" 249 M_Teacher_readSingle.1 ∈ gw := gm_5 (List.mem_of_getElem? (i := 71) rfl) rfl
theorem l_Teacher_258 : Cond.methodLink "GlacierCamp$Teacher" 258 M_Teacher_goesDeeper.1 ∈ gw := gm_5 (List.mem_of_getElem? (i := 77) rfl) rfl
theorem l_Teacher_245 : Cond.methodLink "GlacierCamp$Teacher" 245 M_Formulas_put.1 ∈ gw := gm_5 (List.mem_of_getElem? (i := 81) rfl) rfl
theorem l_Teacher_227 : Cond.methodLink "GlacierCamp$Teacher" 227 M_Teacher_readSum.1 ∈ gw := gm_5 (List.mem_of_getElem? (i := 95) rfl) rfl
theorem l_Teacher_296 : Cond.methodLink "GlacierCamp$Teacher" 296 M_Teacher_readProduct.1 ∈ gw := gm_5 (List.mem_of_getElem? (i := 99) rfl) rfl
theorem l_Teacher_305 : Cond.methodLink "GlacierCamp$Teacher" 305 M_Teacher_readValue.1 ∈ gw := gm_5 (List.mem_of_getElem? (i := 103) rfl) rfl
theorem l_Teacher_318 : Cond.methodLink "GlacierCamp$Teacher" 318 M_Teacher_readNested.1 ∈ gw := gm_5 (List.mem_of_getElem? (i := 107) rfl) rfl
theorem l_Teacher_277 : Cond.methodLink "GlacierCamp$Teacher" 277 M_Teacher_isComparison.1 ∈ gw := gm_5 (List.mem_of_getElem? (i := 129) rfl) rfl
theorem l_Teacher_106 : Cond.methodLink "GlacierCamp$Teacher" 106 M_Teacher_readProbe.1 ∈ gw := gm_5 (List.mem_of_getElem? (i := 146) rfl) rfl
theorem l_Teacher_109 : Cond.methodLink "GlacierCamp$Teacher" 109 M_Teacher_readFill.1 ∈ gw := gm_5 (List.mem_of_getElem? (i := 154) rfl) rfl
theorem l_Teacher_115 : Cond.methodLink "GlacierCamp$Teacher" 115 M_Teacher_readDrill.1 ∈ gw := gm_5 (List.mem_of_getElem? (i := 162) rfl) rfl
theorem l_Camp_91 : Cond.methodLink "GlacierCamp" 91 M_Teacher_errorPosition.1 ∈ gw := gm_5 (List.mem_of_getElem? (i := 170) rfl) rfl
theorem l_Camp_93 : Cond.methodLink "GlacierCamp" 93 M_Teacher_error.1 ∈ gw := gm_5 (List.mem_of_getElem? (i := 174) rfl) rfl
theorem l_Camp_96 : Cond.methodLink "GlacierCamp" 96 M_Camp_takeOverDraft.1 ∈ gw := gm_5 (List.mem_of_getElem? (i := 178) rfl) rfl
theorem l_Law_249 : Cond.methodLink "GlacierCampLaw" 249 M_Law_list.1 ∈ gw := gm_5 (List.mem_of_getElem? (i := 182) rfl) rfl
theorem l_Sim_1 : Cond.methodLink "GlacierCampLaw$Sim" 1 M_Object_init.1 ∈ gw := gm_5 (List.mem_of_getElem? (i := 189) rfl) rfl
theorem l_Law_37 : Cond.methodLink "GlacierCampLaw" 37 M_StringBuilder_append_1.1 ∈ gw := gm_5 (List.mem_of_getElem? (i := 235) rfl) rfl
theorem l_StringBuilder_29 : Cond.methodLink "java/lang/StringBuilder" 29 M_AbstractStringBuilder_append_1.1 ∈ gw := gm_5 (List.mem_of_getElem? (i := 239) rfl) rfl
theorem l_AbstractStringBuilder_204 : Cond.methodLink "java/lang/AbstractStringBuilder" 204 M_AbstractStringBuilder_appendNull.1 ∈ gw := gm_6 (List.mem_of_getElem? (i := 3) rfl) rfl
theorem l_AbstractStringBuilder_100 : Cond.methodLink "java/lang/AbstractStringBuilder" 100 M_AbstractStringBuilder_ensureCapacityInternal.1 ∈ gw := gm_6 (List.mem_of_getElem? (i := 7) rfl) rfl
theorem l_AbstractStringBuilder_104 : Cond.methodLink "java/lang/AbstractStringBuilder" 104 M_AbstractStringBuilder_newCapacity.1 ∈ gw := gm_6 (List.mem_of_getElem? (i := 11) rfl) rfl
theorem l_AbstractStringBuilder_114 : Cond.methodLink "java/lang/AbstractStringBuilder" 114 M_ArraysSupport_newLength.1 ∈ gw := gm_6 (List.mem_of_getElem? (i := 15) rfl) rfl
theorem l_ArraysSupport_194 : Cond.methodLink "jdk/internal/util/ArraysSupport" 194 M_Math_max.1 ∈ gw := gm_6 (List.mem_of_getElem? (i := 18) rfl) rfl
theorem l_ArraysSupport_201 : Cond.methodLink "jdk/internal/util/ArraysSupport" 201 M_ArraysSupport_hugeLength.1 ∈ gw := gm_6 (List.mem_of_getElem? (i := 20) rfl) rfl
theorem l_AbstractStringBuilder_108 : Cond.methodLink "java/lang/AbstractStringBuilder" 108 M_Arrays_copyOf.1 ∈ gw := gm_6 (List.mem_of_getElem? (i := 24) rfl) rfl
theorem l_Arrays_304 : Cond.methodLink "java/util/Arrays" 304 M_Math_min.1 ∈ gw := gm_6 (List.mem_of_getElem? (i := 34) rfl) rfl
theorem l_AbstractStringBuilder_83 : Cond.methodLink "java/lang/AbstractStringBuilder" 83 M_AbstractStringBuilder_isLatin1.1 ∈ gw := gm_6 (List.mem_of_getElem? (i := 38) rfl) rfl
theorem l_AbstractStringBuilder_226 : Cond.methodLink "java/lang/AbstractStringBuilder" 226 M_StringUTF16_putCharsAt.1 ∈ gw := gm_6 (List.mem_of_getElem? (i := 44) rfl) rfl
theorem l_StringUTF16_96 : Cond.methodLink "java/lang/StringUTF16" 96 M_StringUTF16_checkBoundsBeginEnd.1 ∈ gw := gm_6 (List.mem_of_getElem? (i := 47) rfl) rfl
theorem l_StringUTF16_241 : Cond.methodLink "java/lang/StringUTF16" 241 M_String_checkBoundsBeginEnd.1 ∈ gw := gm_6 (List.mem_of_getElem? (i := 50) rfl) rfl
theorem l_String_1062 : Cond.methodLink "java/lang/String" 1062 M_Preconditions_checkFromToIndex.1 ∈ gw := gm_6 (List.mem_of_getElem? (i := 53) rfl) rfl
theorem l_StringUTF16_111 : Cond.methodLink "java/lang/StringUTF16" 111 M_StringUTF16_putChar.1 ∈ gw := gm_6 (List.mem_of_getElem? (i := 56) rfl) rfl
theorem l_AbstractStringBuilder_32 : Cond.methodLink "java/lang/AbstractStringBuilder" 32 M_String_length.1 ∈ gw := gm_6 (List.mem_of_getElem? (i := 59) rfl) rfl
theorem l_AbstractStringBuilder_208 : Cond.methodLink "java/lang/AbstractStringBuilder" 208 M_AbstractStringBuilder_putStringAt.1 ∈ gw := gm_6 (List.mem_of_getElem? (i := 60) rfl) rfl
theorem l_AbstractStringBuilder_397 : Cond.methodLink "java/lang/AbstractStringBuilder" 397 M_AbstractStringBuilder_inflateIfNeededFor.1 ∈ gw := gm_6 (List.mem_of_getElem? (i := 64) rfl) rfl
theorem l_AbstractStringBuilder_40 : Cond.methodLink "java/lang/AbstractStringBuilder" 40 M_String_coder.1 ∈ gw := gm_6 (List.mem_of_getElem? (i := 68) rfl) rfl
theorem l_AbstractStringBuilder_195 : Cond.methodLink "java/lang/AbstractStringBuilder" 195 M_AbstractStringBuilder_inflate.1 ∈ gw := gm_6 (List.mem_of_getElem? (i := 69) rfl) rfl
theorem l_AbstractStringBuilder_26 : Cond.methodLink "java/lang/AbstractStringBuilder" 26 M_StringUTF16_newBytesFor.1 ∈ gw := gm_6 (List.mem_of_getElem? (i := 73) rfl) rfl
theorem l_StringUTF16_11 : Cond.methodLink "java/lang/StringUTF16" 11 M_StringUTF16_newBytesLength.1 ∈ gw := gm_6 (List.mem_of_getElem? (i := 76) rfl) rfl
theorem l_AbstractStringBuilder_125 : Cond.methodLink "java/lang/AbstractStringBuilder" 125 M_StringLatin1_inflate.1 ∈ gw := gm_6 (List.mem_of_getElem? (i := 80) rfl) rfl
theorem l_StringLatin1_240 : Cond.methodLink "java/lang/StringLatin1" 240 M_StringUTF16_inflate.1 ∈ gw := gm_6 (List.mem_of_getElem? (i := 83) rfl) rfl
theorem l_StringUTF16_173 : Cond.methodLink "java/lang/StringUTF16" 173 M_StringUTF16_checkBoundsOffCount.1 ∈ gw := gm_6 (List.mem_of_getElem? (i := 86) rfl) rfl
theorem l_StringUTF16_419 : Cond.methodLink "java/lang/StringUTF16" 419 M_String_checkBoundsOffCount.1 ∈ gw := gm_6 (List.mem_of_getElem? (i := 89) rfl) rfl
theorem l_String_1065 : Cond.methodLink "java/lang/String" 1065 M_Preconditions_checkFromIndexSize.1 ∈ gw := gm_6 (List.mem_of_getElem? (i := 92) rfl) rfl
theorem l_AbstractStringBuilder_399 : Cond.methodLink "java/lang/AbstractStringBuilder" 399 M_String_getBytes.1 ∈ gw := gm_6 (List.mem_of_getElem? (i := 95) rfl) rfl
theorem l_String_106 : Cond.methodLink "java/lang/String" 106 M_StringLatin1_inflate.1 ∈ gw := gm_6 (List.mem_of_getElem? (i := 100) rfl) rfl
theorem l_Law_41 : Cond.methodLink "GlacierCampLaw" 41 M_StringBuilder_append_0.1 ∈ gw := gm_6 (List.mem_of_getElem? (i := 101) rfl) rfl
theorem l_StringBuilder_53 : Cond.methodLink "java/lang/StringBuilder" 53 M_AbstractStringBuilder_append_0.1 ∈ gw := gm_6 (List.mem_of_getElem? (i := 105) rfl) rfl
theorem l_AbstractStringBuilder_245 : Cond.methodLink "java/lang/AbstractStringBuilder" 245 M_Integer_stringSize.1 ∈ gw := gm_6 (List.mem_of_getElem? (i := 108) rfl) rfl
theorem l_AbstractStringBuilder_248 : Cond.methodLink "java/lang/AbstractStringBuilder" 248 M_Integer_getChars.1 ∈ gw := gm_6 (List.mem_of_getElem? (i := 111) rfl) rfl
theorem l_AbstractStringBuilder_251 : Cond.methodLink "java/lang/AbstractStringBuilder" 251 M_StringUTF16_getChars_0.1 ∈ gw := gm_6 (List.mem_of_getElem? (i := 118) rfl) rfl
theorem l_StringUTF16_393 : Cond.methodLink "java/lang/StringUTF16" 393 M_StringUTF16_getChars_1.1 ∈ gw := gm_6 (List.mem_of_getElem? (i := 121) rfl) rfl
theorem l_Law_34 : Cond.methodLink "GlacierCampLaw" 34 M_StringBuilder_init.1 ∈ gw := gm_6 (List.mem_of_getElem? (i := 146) rfl) rfl
theorem l_StringBuilder_1 : Cond.methodLink "java/lang/StringBuilder" 1 M_AbstractStringBuilder_init.1 ∈ gw := gm_6 (List.mem_of_getElem? (i := 149) rfl) rfl
theorem l_AbstractStringBuilder_3 : Cond.methodLink "java/lang/AbstractStringBuilder" 3 M_Object_init.1 ∈ gw := gm_6 (List.mem_of_getElem? (i := 152) rfl) rfl
theorem l_Law_44 : Cond.methodLink "GlacierCampLaw" 44 M_StringBuilder_toString.1 ∈ gw := gm_6 (List.mem_of_getElem? (i := 166) rfl) rfl
theorem l_StringBuilder_137 : Cond.methodLink "java/lang/StringBuilder" 137 M_String_init_1.1 ∈ gw := gm_6 (List.mem_of_getElem? (i := 172) rfl) rfl
theorem l_String_489 : Cond.methodLink "java/lang/String" 489 M_String_init_0.1 ∈ gw := gm_6 (List.mem_of_getElem? (i := 175) rfl) rfl
theorem l_String_1 : Cond.methodLink "java/lang/String" 1 M_Object_init.1 ∈ gw := gm_6 (List.mem_of_getElem? (i := 178) rfl) rfl
theorem l_String_552 : Cond.methodLink "java/lang/String" 552 M_AbstractStringBuilder_getValue.1 ∈ gw := gm_6 (List.mem_of_getElem? (i := 179) rfl) rfl
theorem l_String_549 : Cond.methodLink "java/lang/String" 549 M_AbstractStringBuilder_length.1 ∈ gw := gm_6 (List.mem_of_getElem? (i := 184) rfl) rfl
theorem l_StringBuilder_343 : Cond.methodLink "java/lang/StringBuilder" 343 M_AbstractStringBuilder_length.1 ∈ gw := gm_6 (List.mem_of_getElem? (i := 190) rfl) rfl
theorem l_String_1047 : Cond.methodLink "java/lang/String" 1047 M_AbstractStringBuilder_isLatin1.1 ∈ gw := gm_6 (List.mem_of_getElem? (i := 192) rfl) rfl
theorem l_String_54 : Cond.methodLink "java/lang/String" 54 M_Arrays_copyOfRange.1 ∈ gw := gm_6 (List.mem_of_getElem? (i := 193) rfl) rfl
theorem l_Arrays_339 : Cond.methodLink "java/util/Arrays" 339 M_Arrays_copyOfRangeByte.1 ∈ gw := gm_6 (List.mem_of_getElem? (i := 196) rfl) rfl
theorem l_Arrays_343 : Cond.methodLink "java/util/Arrays" 343 M_Arrays_checkLength.1 ∈ gw := gm_6 (List.mem_of_getElem? (i := 199) rfl) rfl
theorem l_String_1051 : Cond.methodLink "java/lang/String" 1051 M_StringUTF16_compress_0.1 ∈ gw := gm_6 (List.mem_of_getElem? (i := 202) rfl) rfl
theorem l_StringUTF16_123 : Cond.methodLink "java/lang/StringUTF16" 123 M_StringUTF16_compress_1.1 ∈ gw := gm_6 (List.mem_of_getElem? (i := 205) rfl) rfl
theorem l_StringUTF16_126 : Cond.methodLink "java/lang/StringUTF16" 126 M_Arrays_copyOfRange.1 ∈ gw := gm_6 (List.mem_of_getElem? (i := 208) rfl) rfl
theorem l_String_47 : Cond.methodLink "java/lang/String" 47 M_StringUTF16_coderFromArrayLen.1 ∈ gw := gm_6 (List.mem_of_getElem? (i := 209) rfl) rfl
theorem l_Law_199 : Cond.methodLink "GlacierCampLaw" 199 M_Law_sum.1 ∈ gw := gm_6 (List.mem_of_getElem? (i := 228) rfl) rfl
theorem l_Law_205 : Cond.methodLink "GlacierCampLaw" 205 M_Law_when.1 ∈ gw := gm_7 (List.mem_of_getElem? (i := 6) rfl) rfl
theorem l_Law_260 : Cond.methodLink "GlacierCampLaw" 260 M_Law_act.1 ∈ gw := gm_7 (List.mem_of_getElem? (i := 31) rfl) rfl
theorem l_Law_220 : Cond.methodLink "GlacierCampLaw" 220 M_Sim_probes.1 ∈ gw := gm_7 (List.mem_of_getElem? (i := 35) rfl) rfl
theorem l_Law_224 : Cond.methodLink "GlacierCampLaw" 224 M_Camp_probe.1 ∈ gw := gm_7 (List.mem_of_getElem? (i := 36) rfl) rfl
theorem l_Camp_168 : Cond.methodLink "GlacierCamp" 168 M_Glacier_tryProbe.1 ∈ gw := gm_7 (List.mem_of_getElem? (i := 40) rfl) rfl
theorem l_Law_227 : Cond.methodLink "GlacierCampLaw" 227 M_Sim_fills.1 ∈ gw := gm_7 (List.mem_of_getElem? (i := 42) rfl) rfl
theorem l_Law_230 : Cond.methodLink "GlacierCampLaw" 230 M_Camp_fill.1 ∈ gw := gm_7 (List.mem_of_getElem? (i := 43) rfl) rfl
theorem l_Camp_178 : Cond.methodLink "GlacierCamp" 178 M_Glacier_takeFood.1 ∈ gw := gm_7 (List.mem_of_getElem? (i := 47) rfl) rfl
theorem l_Law_233 : Cond.methodLink "GlacierCampLaw" 233 M_Math_min.1 ∈ gw := gm_7 (List.mem_of_getElem? (i := 49) rfl) rfl
theorem l_Law_238 : Cond.methodLink "GlacierCampLaw" 238 M_Camp_stock.1 ∈ gw := gm_7 (List.mem_of_getElem? (i := 50) rfl) rfl
theorem l_Camp_183 : Cond.methodLink "GlacierCamp" 183 M_Math_min.1 ∈ gw := gm_7 (List.mem_of_getElem? (i := 54) rfl) rfl
theorem l_Camp_188 : Cond.methodLink "GlacierCamp" 188 M_Table_set.1 ∈ gw := gm_7 (List.mem_of_getElem? (i := 55) rfl) rfl
theorem l_Law_241 : Cond.methodLink "GlacierCampLaw" 241 M_Camp_setWarm.1 ∈ gw := gm_7 (List.mem_of_getElem? (i := 56) rfl) rfl
theorem l_Camp_194 : Cond.methodLink "GlacierCamp" 194 M_Glacier_changeWarmth.1 ∈ gw := gm_7 (List.mem_of_getElem? (i := 60) rfl) rfl
theorem l_Law_274 : Cond.methodLink "GlacierCampLaw" 274 M_Math_max.1 ∈ gw := gm_7 (List.mem_of_getElem? (i := 61) rfl) rfl
theorem l_Camp_9 : Cond.methodLinkNest "GlacierCamp" 9 M_Tape_init.1 "GlacierCamp" ∈ nw := gn_1 (List.mem_of_getElem? (i := 41) rfl) rfl
theorem l_Camp_18 : Cond.methodLinkNest "GlacierCamp" 18 M_Tokens_init.1 "GlacierCamp" ∈ nw := gn_1 (List.mem_of_getElem? (i := 55) rfl) rfl
theorem l_Camp_35 : Cond.methodLinkNest "GlacierCamp" 35 M_Orders_init.1 "GlacierCamp" ∈ nw := gn_1 (List.mem_of_getElem? (i := 153) rfl) rfl
theorem l_Orders_22 : Cond.methodLinkNest "GlacierCamp$Orders" 22 M_Formulas_init.1 "GlacierCamp" ∈ nw := gn_1 (List.mem_of_getElem? (i := 161) rfl) rfl
theorem l_Teacher_11 : Cond.methodLinkNest "GlacierCamp$Teacher" 11 M_Names_init.1 "GlacierCamp" ∈ nw := gn_4 (List.mem_of_getElem? (i := 93) rfl) rfl
theorem l_Law_118 : Cond.methodLinkNest "GlacierCampLaw" 118 M_Sim_init.1 "GlacierCampLaw" ∈ nw := gn_5 (List.mem_of_getElem? (i := 186) rfl) rfl
theorem q_arr_byte : Cond.arrayClass .byte ∈ gw := gm_1 (List.mem_of_getElem? (i := 52) rfl) rfl
theorem q_arr_int : Cond.arrayClass .int ∈ gw := gm_1 (List.mem_of_getElem? (i := 91) rfl) rfl
theorem q_arr_long : Cond.arrayClass .long ∈ gw := gm_1 (List.mem_of_getElem? (i := 92) rfl) rfl
theorem q_arr_boolean : Cond.arrayClass .boolean ∈ gw := gm_7 (List.mem_of_getElem? (i := 63) rfl) rfl
theorem q_obj1 : Cond.instanceMethod Lib.objectInit ∈ gw := gm_1 (List.mem_of_getElem? (i := 37) rfl) rfl
theorem q_obj2 : Cond.code Lib.objectInit ⟨#[0xb1]⟩ 1 none ∈ gw := gm_1 (List.mem_of_getElem? (i := 38) rfl) rfl
def FLk (own : String) (idx ci k : Nat) : Prop := ∃ (C : String) (T : u_T) (N : Nat), vwCl[ci]? = some (C, T, N) ∧ k < N ∧ (Cond.fieldLink own idx (T k).1 (T k).2.1 (T k).2.2.1 ∈ gw ∨ ∃ host, Cond.fieldLinkNest own idx (T k).1 (T k).2.1 (T k).2.2.1 host ∈ nw) ∧ ∀ w ∈ u_ws C T N, w ∈ gw
def FPk (own : String) (idx ci k : Nat) (ty : FieldType) : Prop := ∃ (C : String) (T : u_T) (N : Nat) (tys : Nat → FieldType), vwCl[ci]? = some (C, T, N) ∧ k < N ∧ (Cond.fieldLink own idx (T k).1 (T k).2.1 (T k).2.2.1 ∈ gw ∨ ((T k).2.2.2 = false ∧ ∃ host, Cond.fieldLinkNest own idx (T k).1 (T k).2.1 (T k).2.2.1 host ∈ nw)) ∧ (∀ w ∈ u_ws C T N, w ∈ gw) ∧ (∀ k, k < N → parseFieldDescriptor (T k).2.2.1 = some (tys k)) ∧ (∀ a, a < N → ∀ b, b < N → a ≠ b → (T a).2.1 ≠ (T b).2.1) ∧ parseFieldDescriptor (T k).2.2.1 = some ty ∧ (T k).1 = C
theorem cw_Formulas : ∀ w ∈ u_ws R_Formulas T_Formulas 5, w ∈ gw := (List.forall_mem_cons.mpr ⟨gm_1 (List.mem_of_getElem? (i := 171) rfl) rfl, List.forall_mem_cons.mpr ⟨gm_1 (List.mem_of_getElem? (i := 173) rfl) rfl, List.forall_mem_cons.mpr ⟨gm_1 (List.mem_of_getElem? (i := 175) rfl) rfl, List.forall_mem_cons.mpr ⟨gm_1 (List.mem_of_getElem? (i := 177) rfl) rfl, List.forall_mem_cons.mpr ⟨gm_1 (List.mem_of_getElem? (i := 179) rfl) rfl, fun _ h => absurd h List.not_mem_nil⟩⟩⟩⟩⟩ : ∀ w ∈ [u_lay R_Formulas T_Formulas 0, u_lay R_Formulas T_Formulas 1, u_lay R_Formulas T_Formulas 2, u_lay R_Formulas T_Formulas 3, u_lay R_Formulas T_Formulas 4], w ∈ gw)
theorem cw_Glacier : ∀ w ∈ u_ws R_Glacier T_Glacier 8, w ∈ gw := (List.forall_mem_cons.mpr ⟨gm_1 (List.mem_of_getElem? (i := 134) rfl) rfl, List.forall_mem_cons.mpr ⟨gm_1 (List.mem_of_getElem? (i := 136) rfl) rfl, List.forall_mem_cons.mpr ⟨gm_1 (List.mem_of_getElem? (i := 138) rfl) rfl, List.forall_mem_cons.mpr ⟨gm_1 (List.mem_of_getElem? (i := 140) rfl) rfl, List.forall_mem_cons.mpr ⟨gm_1 (List.mem_of_getElem? (i := 142) rfl) rfl, List.forall_mem_cons.mpr ⟨gm_1 (List.mem_of_getElem? (i := 144) rfl) rfl, List.forall_mem_cons.mpr ⟨gm_1 (List.mem_of_getElem? (i := 146) rfl) rfl, List.forall_mem_cons.mpr ⟨gm_1 (List.mem_of_getElem? (i := 148) rfl) rfl, fun _ h => absurd h List.not_mem_nil⟩⟩⟩⟩⟩⟩⟩⟩ : ∀ w ∈ [u_lay R_Glacier T_Glacier 0, u_lay R_Glacier T_Glacier 1, u_lay R_Glacier T_Glacier 2, u_lay R_Glacier T_Glacier 3, u_lay R_Glacier T_Glacier 4, u_lay R_Glacier T_Glacier 5, u_lay R_Glacier T_Glacier 6, u_lay R_Glacier T_Glacier 7], w ∈ gw)
theorem cw_Names : ∀ w ∈ u_ws R_Names T_Names 2, w ∈ gw := (List.forall_mem_cons.mpr ⟨gm_4 (List.mem_of_getElem? (i := 99) rfl) rfl, List.forall_mem_cons.mpr ⟨gm_4 (List.mem_of_getElem? (i := 101) rfl) rfl, fun _ h => absurd h List.not_mem_nil⟩⟩ : ∀ w ∈ [u_lay R_Names T_Names 0, u_lay R_Names T_Names 1], w ∈ gw)
theorem cw_Orders : ∀ w ∈ u_ws R_Orders T_Orders 2, w ∈ gw := (List.forall_mem_cons.mpr ⟨gm_1 (List.mem_of_getElem? (i := 185) rfl) rfl, List.forall_mem_cons.mpr ⟨gm_1 (List.mem_of_getElem? (i := 187) rfl) rfl, fun _ h => absurd h List.not_mem_nil⟩⟩ : ∀ w ∈ [u_lay R_Orders T_Orders 0, u_lay R_Orders T_Orders 1], w ∈ gw)
theorem cw_Table : ∀ w ∈ u_ws R_Table T_Table 2, w ∈ gw := (List.forall_mem_cons.mpr ⟨gm_1 (List.mem_of_getElem? (i := 107) rfl) rfl, List.forall_mem_cons.mpr ⟨gm_1 (List.mem_of_getElem? (i := 109) rfl) rfl, fun _ h => absurd h List.not_mem_nil⟩⟩ : ∀ w ∈ [u_lay R_Table T_Table 0, u_lay R_Table T_Table 1], w ∈ gw)
theorem cw_Tape : ∀ w ∈ u_ws R_Tape T_Tape 2, w ∈ gw := (List.forall_mem_cons.mpr ⟨gm_1 (List.mem_of_getElem? (i := 47) rfl) rfl, List.forall_mem_cons.mpr ⟨gm_1 (List.mem_of_getElem? (i := 49) rfl) rfl, fun _ h => absurd h List.not_mem_nil⟩⟩ : ∀ w ∈ [u_lay R_Tape T_Tape 0, u_lay R_Tape T_Tape 1], w ∈ gw)
theorem cw_Teacher : ∀ w ∈ u_ws R_Teacher T_Teacher 11, w ∈ gw := (List.forall_mem_cons.mpr ⟨gm_4 (List.mem_of_getElem? (i := 115) rfl) rfl, List.forall_mem_cons.mpr ⟨gm_4 (List.mem_of_getElem? (i := 117) rfl) rfl, List.forall_mem_cons.mpr ⟨gm_4 (List.mem_of_getElem? (i := 119) rfl) rfl, List.forall_mem_cons.mpr ⟨gm_4 (List.mem_of_getElem? (i := 121) rfl) rfl, List.forall_mem_cons.mpr ⟨gm_4 (List.mem_of_getElem? (i := 123) rfl) rfl, List.forall_mem_cons.mpr ⟨gm_4 (List.mem_of_getElem? (i := 125) rfl) rfl, List.forall_mem_cons.mpr ⟨gm_4 (List.mem_of_getElem? (i := 127) rfl) rfl, List.forall_mem_cons.mpr ⟨gm_4 (List.mem_of_getElem? (i := 129) rfl) rfl, List.forall_mem_cons.mpr ⟨gm_4 (List.mem_of_getElem? (i := 131) rfl) rfl, List.forall_mem_cons.mpr ⟨gm_4 (List.mem_of_getElem? (i := 133) rfl) rfl, List.forall_mem_cons.mpr ⟨gm_4 (List.mem_of_getElem? (i := 135) rfl) rfl, fun _ h => absurd h List.not_mem_nil⟩⟩⟩⟩⟩⟩⟩⟩⟩⟩⟩ : ∀ w ∈ [u_lay R_Teacher T_Teacher 0, u_lay R_Teacher T_Teacher 1, u_lay R_Teacher T_Teacher 2, u_lay R_Teacher T_Teacher 3, u_lay R_Teacher T_Teacher 4, u_lay R_Teacher T_Teacher 5, u_lay R_Teacher T_Teacher 6, u_lay R_Teacher T_Teacher 7, u_lay R_Teacher T_Teacher 8, u_lay R_Teacher T_Teacher 9, u_lay R_Teacher T_Teacher 10], w ∈ gw)
theorem cw_Tokens : ∀ w ∈ u_ws R_Tokens T_Tokens 9, w ∈ gw := (List.forall_mem_cons.mpr ⟨gm_1 (List.mem_of_getElem? (i := 72) rfl) rfl, List.forall_mem_cons.mpr ⟨gm_1 (List.mem_of_getElem? (i := 74) rfl) rfl, List.forall_mem_cons.mpr ⟨gm_1 (List.mem_of_getElem? (i := 76) rfl) rfl, List.forall_mem_cons.mpr ⟨gm_1 (List.mem_of_getElem? (i := 78) rfl) rfl, List.forall_mem_cons.mpr ⟨gm_1 (List.mem_of_getElem? (i := 80) rfl) rfl, List.forall_mem_cons.mpr ⟨gm_1 (List.mem_of_getElem? (i := 82) rfl) rfl, List.forall_mem_cons.mpr ⟨gm_1 (List.mem_of_getElem? (i := 84) rfl) rfl, List.forall_mem_cons.mpr ⟨gm_1 (List.mem_of_getElem? (i := 86) rfl) rfl, List.forall_mem_cons.mpr ⟨gm_1 (List.mem_of_getElem? (i := 88) rfl) rfl, fun _ h => absurd h List.not_mem_nil⟩⟩⟩⟩⟩⟩⟩⟩⟩ : ∀ w ∈ [u_lay R_Tokens T_Tokens 0, u_lay R_Tokens T_Tokens 1, u_lay R_Tokens T_Tokens 2, u_lay R_Tokens T_Tokens 3, u_lay R_Tokens T_Tokens 4, u_lay R_Tokens T_Tokens 5, u_lay R_Tokens T_Tokens 6, u_lay R_Tokens T_Tokens 7, u_lay R_Tokens T_Tokens 8], w ∈ gw)
theorem cw_Camp : ∀ w ∈ u_ws R_Camp T_Camp 7, w ∈ gw := (List.forall_mem_cons.mpr ⟨gm_1 (List.mem_of_getElem? (i := 197) rfl) rfl, List.forall_mem_cons.mpr ⟨gm_1 (List.mem_of_getElem? (i := 199) rfl) rfl, List.forall_mem_cons.mpr ⟨gm_1 (List.mem_of_getElem? (i := 201) rfl) rfl, List.forall_mem_cons.mpr ⟨gm_1 (List.mem_of_getElem? (i := 203) rfl) rfl, List.forall_mem_cons.mpr ⟨gm_1 (List.mem_of_getElem? (i := 205) rfl) rfl, List.forall_mem_cons.mpr ⟨gm_1 (List.mem_of_getElem? (i := 207) rfl) rfl, List.forall_mem_cons.mpr ⟨gm_1 (List.mem_of_getElem? (i := 209) rfl) rfl, fun _ h => absurd h List.not_mem_nil⟩⟩⟩⟩⟩⟩⟩ : ∀ w ∈ [u_lay R_Camp T_Camp 0, u_lay R_Camp T_Camp 1, u_lay R_Camp T_Camp 2, u_lay R_Camp T_Camp 3, u_lay R_Camp T_Camp 4, u_lay R_Camp T_Camp 5, u_lay R_Camp T_Camp 6], w ∈ gw)
theorem cw_Sim : ∀ w ∈ u_ws R_Sim T_Sim 11, w ∈ gw := (List.forall_mem_cons.mpr ⟨gm_5 (List.mem_of_getElem? (i := 210) rfl) rfl, List.forall_mem_cons.mpr ⟨gm_5 (List.mem_of_getElem? (i := 212) rfl) rfl, List.forall_mem_cons.mpr ⟨gm_5 (List.mem_of_getElem? (i := 214) rfl) rfl, List.forall_mem_cons.mpr ⟨gm_5 (List.mem_of_getElem? (i := 216) rfl) rfl, List.forall_mem_cons.mpr ⟨gm_5 (List.mem_of_getElem? (i := 218) rfl) rfl, List.forall_mem_cons.mpr ⟨gm_5 (List.mem_of_getElem? (i := 220) rfl) rfl, List.forall_mem_cons.mpr ⟨gm_5 (List.mem_of_getElem? (i := 222) rfl) rfl, List.forall_mem_cons.mpr ⟨gm_5 (List.mem_of_getElem? (i := 224) rfl) rfl, List.forall_mem_cons.mpr ⟨gm_5 (List.mem_of_getElem? (i := 226) rfl) rfl, List.forall_mem_cons.mpr ⟨gm_5 (List.mem_of_getElem? (i := 228) rfl) rfl, List.forall_mem_cons.mpr ⟨gm_5 (List.mem_of_getElem? (i := 230) rfl) rfl, fun _ h => absurd h List.not_mem_nil⟩⟩⟩⟩⟩⟩⟩⟩⟩⟩⟩ : ∀ w ∈ [u_lay R_Sim T_Sim 0, u_lay R_Sim T_Sim 1, u_lay R_Sim T_Sim 2, u_lay R_Sim T_Sim 3, u_lay R_Sim T_Sim 4, u_lay R_Sim T_Sim 5, u_lay R_Sim T_Sim 6, u_lay R_Sim T_Sim 7, u_lay R_Sim T_Sim 8, u_lay R_Sim T_Sim 9, u_lay R_Sim T_Sim 10], w ∈ gw)
theorem cw_StringBuilder : ∀ w ∈ u_ws R_StringBuilder T_StringBuilder 4, w ∈ gw := (List.forall_mem_cons.mpr ⟨gm_6 (List.mem_of_getElem? (i := 157) rfl) rfl, List.forall_mem_cons.mpr ⟨gm_6 (List.mem_of_getElem? (i := 159) rfl) rfl, List.forall_mem_cons.mpr ⟨gm_6 (List.mem_of_getElem? (i := 161) rfl) rfl, List.forall_mem_cons.mpr ⟨gm_6 (List.mem_of_getElem? (i := 163) rfl) rfl, fun _ h => absurd h List.not_mem_nil⟩⟩⟩⟩ : ∀ w ∈ [u_lay R_StringBuilder T_StringBuilder 0, u_lay R_StringBuilder T_StringBuilder 1, u_lay R_StringBuilder T_StringBuilder 2, u_lay R_StringBuilder T_StringBuilder 3], w ∈ gw)
theorem cw_String : ∀ w ∈ u_ws R_String T_String 4, w ∈ gw := (List.forall_mem_cons.mpr ⟨gm_6 (List.mem_of_getElem? (i := 214) rfl) rfl, List.forall_mem_cons.mpr ⟨gm_6 (List.mem_of_getElem? (i := 216) rfl) rfl, List.forall_mem_cons.mpr ⟨gm_6 (List.mem_of_getElem? (i := 218) rfl) rfl, List.forall_mem_cons.mpr ⟨gm_6 (List.mem_of_getElem? (i := 220) rfl) rfl, fun _ h => absurd h List.not_mem_nil⟩⟩⟩⟩ : ∀ w ∈ [u_lay R_String T_String 0, u_lay R_String T_String 1, u_lay R_String T_String 2, u_lay R_String T_String 3], w ∈ gw)
theorem f_Tape_9 : FLk "GlacierCamp$Tape" 9 5 0 := ⟨R_Tape, T_Tape, 2, rfl, by decide, Or.inl (gm_1 (List.mem_of_getElem? (i := 45) rfl) rfl), cw_Tape⟩
theorem f_Tape_9_p : FPk "GlacierCamp$Tape" 9 5 0 (ty_Tape 0) := ⟨R_Tape, T_Tape, 2, ty_Tape, rfl, by decide, Or.inl (gm_1 (List.mem_of_getElem? (i := 45) rfl) rfl), cw_Tape, ty_Tape_ok, nm_Tape, ty_Tape_ok 0 (by decide), rfl⟩
theorem f_Tape_15 : FLk "GlacierCamp$Tape" 15 5 1 := ⟨R_Tape, T_Tape, 2, rfl, by decide, Or.inl (gm_1 (List.mem_of_getElem? (i := 46) rfl) rfl), cw_Tape⟩
theorem f_Tape_15_p : FPk "GlacierCamp$Tape" 15 5 1 (ty_Tape 1) := ⟨R_Tape, T_Tape, 2, ty_Tape, rfl, by decide, Or.inl (gm_1 (List.mem_of_getElem? (i := 46) rfl) rfl), cw_Tape, ty_Tape_ok, nm_Tape, ty_Tape_ok 1 (by decide), rfl⟩
theorem f_Tokens_11 : FLk "GlacierCamp$Tokens" 11 7 0 := ⟨R_Tokens, T_Tokens, 9, rfl, by decide, Or.inl (gm_1 (List.mem_of_getElem? (i := 63) rfl) rfl), cw_Tokens⟩
theorem f_Tokens_11_p : FPk "GlacierCamp$Tokens" 11 7 0 (ty_Tokens 0) := ⟨R_Tokens, T_Tokens, 9, ty_Tokens, rfl, by decide, Or.inl (gm_1 (List.mem_of_getElem? (i := 63) rfl) rfl), cw_Tokens, ty_Tokens_ok, nm_Tokens, ty_Tokens_ok 0 (by decide), rfl⟩
theorem f_Tokens_17 : FLk "GlacierCamp$Tokens" 17 7 1 := ⟨R_Tokens, T_Tokens, 9, rfl, by decide, Or.inl (gm_1 (List.mem_of_getElem? (i := 64) rfl) rfl), cw_Tokens⟩
theorem f_Tokens_17_p : FPk "GlacierCamp$Tokens" 17 7 1 (ty_Tokens 1) := ⟨R_Tokens, T_Tokens, 9, ty_Tokens, rfl, by decide, Or.inl (gm_1 (List.mem_of_getElem? (i := 64) rfl) rfl), cw_Tokens, ty_Tokens_ok, nm_Tokens, ty_Tokens_ok 1 (by decide), rfl⟩
theorem f_Tokens_21 : FLk "GlacierCamp$Tokens" 21 7 2 := ⟨R_Tokens, T_Tokens, 9, rfl, by decide, Or.inl (gm_1 (List.mem_of_getElem? (i := 65) rfl) rfl), cw_Tokens⟩
theorem f_Tokens_21_p : FPk "GlacierCamp$Tokens" 21 7 2 (ty_Tokens 2) := ⟨R_Tokens, T_Tokens, 9, ty_Tokens, rfl, by decide, Or.inl (gm_1 (List.mem_of_getElem? (i := 65) rfl) rfl), cw_Tokens, ty_Tokens_ok, nm_Tokens, ty_Tokens_ok 2 (by decide), rfl⟩
theorem f_Tokens_36 : FLk "GlacierCamp$Tokens" 36 7 3 := ⟨R_Tokens, T_Tokens, 9, rfl, by decide, Or.inl (gm_1 (List.mem_of_getElem? (i := 66) rfl) rfl), cw_Tokens⟩
theorem f_Tokens_36_p : FPk "GlacierCamp$Tokens" 36 7 3 (ty_Tokens 3) := ⟨R_Tokens, T_Tokens, 9, ty_Tokens, rfl, by decide, Or.inl (gm_1 (List.mem_of_getElem? (i := 66) rfl) rfl), cw_Tokens, ty_Tokens_ok, nm_Tokens, ty_Tokens_ok 3 (by decide), rfl⟩
theorem f_Tokens_66 : FLk "GlacierCamp$Tokens" 66 7 4 := ⟨R_Tokens, T_Tokens, 9, rfl, by decide, Or.inl (gm_1 (List.mem_of_getElem? (i := 67) rfl) rfl), cw_Tokens⟩
theorem f_Tokens_66_p : FPk "GlacierCamp$Tokens" 66 7 4 (ty_Tokens 4) := ⟨R_Tokens, T_Tokens, 9, ty_Tokens, rfl, by decide, Or.inl (gm_1 (List.mem_of_getElem? (i := 67) rfl) rfl), cw_Tokens, ty_Tokens_ok, nm_Tokens, ty_Tokens_ok 4 (by decide), rfl⟩
theorem f_Tokens_29 : FLk "GlacierCamp$Tokens" 29 7 5 := ⟨R_Tokens, T_Tokens, 9, rfl, by decide, Or.inl (gm_1 (List.mem_of_getElem? (i := 68) rfl) rfl), cw_Tokens⟩
theorem f_Tokens_29_p : FPk "GlacierCamp$Tokens" 29 7 5 (ty_Tokens 5) := ⟨R_Tokens, T_Tokens, 9, ty_Tokens, rfl, by decide, Or.inl (gm_1 (List.mem_of_getElem? (i := 68) rfl) rfl), cw_Tokens, ty_Tokens_ok, nm_Tokens, ty_Tokens_ok 5 (by decide), rfl⟩
theorem f_Tokens_72 : FLk "GlacierCamp$Tokens" 72 7 6 := ⟨R_Tokens, T_Tokens, 9, rfl, by decide, Or.inl (gm_1 (List.mem_of_getElem? (i := 69) rfl) rfl), cw_Tokens⟩
theorem f_Tokens_72_p : FPk "GlacierCamp$Tokens" 72 7 6 (ty_Tokens 6) := ⟨R_Tokens, T_Tokens, 9, ty_Tokens, rfl, by decide, Or.inl (gm_1 (List.mem_of_getElem? (i := 69) rfl) rfl), cw_Tokens, ty_Tokens_ok, nm_Tokens, ty_Tokens_ok 6 (by decide), rfl⟩
theorem f_Tokens_75 : FLk "GlacierCamp$Tokens" 75 7 7 := ⟨R_Tokens, T_Tokens, 9, rfl, by decide, Or.inl (gm_1 (List.mem_of_getElem? (i := 70) rfl) rfl), cw_Tokens⟩
theorem f_Tokens_75_p : FPk "GlacierCamp$Tokens" 75 7 7 (ty_Tokens 7) := ⟨R_Tokens, T_Tokens, 9, ty_Tokens, rfl, by decide, Or.inl (gm_1 (List.mem_of_getElem? (i := 70) rfl) rfl), cw_Tokens, ty_Tokens_ok, nm_Tokens, ty_Tokens_ok 7 (by decide), rfl⟩
theorem f_Tokens_32 : FLk "GlacierCamp$Tokens" 32 7 8 := ⟨R_Tokens, T_Tokens, 9, rfl, by decide, Or.inl (gm_1 (List.mem_of_getElem? (i := 71) rfl) rfl), cw_Tokens⟩
theorem f_Tokens_32_p : FPk "GlacierCamp$Tokens" 32 7 8 (ty_Tokens 8) := ⟨R_Tokens, T_Tokens, 9, ty_Tokens, rfl, by decide, Or.inl (gm_1 (List.mem_of_getElem? (i := 71) rfl) rfl), cw_Tokens, ty_Tokens_ok, nm_Tokens, ty_Tokens_ok 8 (by decide), rfl⟩
theorem f_Table_11 : FLk "GlacierCamp$Table" 11 4 0 := ⟨R_Table, T_Table, 2, rfl, by decide, Or.inl (gm_1 (List.mem_of_getElem? (i := 105) rfl) rfl), cw_Table⟩
theorem f_Table_11_p : FPk "GlacierCamp$Table" 11 4 0 (ty_Table 0) := ⟨R_Table, T_Table, 2, ty_Table, rfl, by decide, Or.inl (gm_1 (List.mem_of_getElem? (i := 105) rfl) rfl), cw_Table, ty_Table_ok, nm_Table, ty_Table_ok 0 (by decide), rfl⟩
theorem f_Table_15 : FLk "GlacierCamp$Table" 15 4 1 := ⟨R_Table, T_Table, 2, rfl, by decide, Or.inl (gm_1 (List.mem_of_getElem? (i := 106) rfl) rfl), cw_Table⟩
theorem f_Table_15_p : FPk "GlacierCamp$Table" 15 4 1 (ty_Table 1) := ⟨R_Table, T_Table, 2, ty_Table, rfl, by decide, Or.inl (gm_1 (List.mem_of_getElem? (i := 106) rfl) rfl), cw_Table, ty_Table_ok, nm_Table, ty_Table_ok 1 (by decide), rfl⟩
theorem f_Glacier_14 : FLk "GlacierCamp$Glacier" 14 1 0 := ⟨R_Glacier, T_Glacier, 8, rfl, by decide, Or.inl (gm_1 (List.mem_of_getElem? (i := 120) rfl) rfl), cw_Glacier⟩
theorem f_Glacier_14_p : FPk "GlacierCamp$Glacier" 14 1 0 (ty_Glacier 0) := ⟨R_Glacier, T_Glacier, 8, ty_Glacier, rfl, by decide, Or.inl (gm_1 (List.mem_of_getElem? (i := 120) rfl) rfl), cw_Glacier, ty_Glacier_ok, nm_Glacier, ty_Glacier_ok 0 (by decide), rfl⟩
theorem f_Glacier_20 : FLk "GlacierCamp$Glacier" 20 1 1 := ⟨R_Glacier, T_Glacier, 8, rfl, by decide, Or.inl (gm_1 (List.mem_of_getElem? (i := 123) rfl) rfl), cw_Glacier⟩
theorem f_Glacier_20_p : FPk "GlacierCamp$Glacier" 20 1 1 (ty_Glacier 1) := ⟨R_Glacier, T_Glacier, 8, ty_Glacier, rfl, by decide, Or.inl (gm_1 (List.mem_of_getElem? (i := 123) rfl) rfl), cw_Glacier, ty_Glacier_ok, nm_Glacier, ty_Glacier_ok 1 (by decide), rfl⟩
theorem f_Glacier_23 : FLk "GlacierCamp$Glacier" 23 1 2 := ⟨R_Glacier, T_Glacier, 8, rfl, by decide, Or.inl (gm_1 (List.mem_of_getElem? (i := 125) rfl) rfl), cw_Glacier⟩
theorem f_Glacier_23_p : FPk "GlacierCamp$Glacier" 23 1 2 (ty_Glacier 2) := ⟨R_Glacier, T_Glacier, 8, ty_Glacier, rfl, by decide, Or.inl (gm_1 (List.mem_of_getElem? (i := 125) rfl) rfl), cw_Glacier, ty_Glacier_ok, nm_Glacier, ty_Glacier_ok 2 (by decide), rfl⟩
theorem f_Glacier_26 : FLk "GlacierCamp$Glacier" 26 1 3 := ⟨R_Glacier, T_Glacier, 8, rfl, by decide, Or.inl (gm_1 (List.mem_of_getElem? (i := 127) rfl) rfl), cw_Glacier⟩
theorem f_Glacier_26_p : FPk "GlacierCamp$Glacier" 26 1 3 (ty_Glacier 3) := ⟨R_Glacier, T_Glacier, 8, ty_Glacier, rfl, by decide, Or.inl (gm_1 (List.mem_of_getElem? (i := 127) rfl) rfl), cw_Glacier, ty_Glacier_ok, nm_Glacier, ty_Glacier_ok 3 (by decide), rfl⟩
theorem f_Glacier_29 : FLk "GlacierCamp$Glacier" 29 1 4 := ⟨R_Glacier, T_Glacier, 8, rfl, by decide, Or.inl (gm_1 (List.mem_of_getElem? (i := 129) rfl) rfl), cw_Glacier⟩
theorem f_Glacier_29_p : FPk "GlacierCamp$Glacier" 29 1 4 (ty_Glacier 4) := ⟨R_Glacier, T_Glacier, 8, ty_Glacier, rfl, by decide, Or.inl (gm_1 (List.mem_of_getElem? (i := 129) rfl) rfl), cw_Glacier, ty_Glacier_ok, nm_Glacier, ty_Glacier_ok 4 (by decide), rfl⟩
theorem f_Glacier_32 : FLk "GlacierCamp$Glacier" 32 1 5 := ⟨R_Glacier, T_Glacier, 8, rfl, by decide, Or.inl (gm_1 (List.mem_of_getElem? (i := 131) rfl) rfl), cw_Glacier⟩
theorem f_Glacier_32_p : FPk "GlacierCamp$Glacier" 32 1 5 (ty_Glacier 5) := ⟨R_Glacier, T_Glacier, 8, ty_Glacier, rfl, by decide, Or.inl (gm_1 (List.mem_of_getElem? (i := 131) rfl) rfl), cw_Glacier, ty_Glacier_ok, nm_Glacier, ty_Glacier_ok 5 (by decide), rfl⟩
theorem f_Glacier_42 : FLk "GlacierCamp$Glacier" 42 1 6 := ⟨R_Glacier, T_Glacier, 8, rfl, by decide, Or.inl (gm_1 (List.mem_of_getElem? (i := 132) rfl) rfl), cw_Glacier⟩
theorem f_Glacier_42_p : FPk "GlacierCamp$Glacier" 42 1 6 (ty_Glacier 6) := ⟨R_Glacier, T_Glacier, 8, ty_Glacier, rfl, by decide, Or.inl (gm_1 (List.mem_of_getElem? (i := 132) rfl) rfl), cw_Glacier, ty_Glacier_ok, nm_Glacier, ty_Glacier_ok 6 (by decide), rfl⟩
theorem f_Glacier_46 : FLk "GlacierCamp$Glacier" 46 1 7 := ⟨R_Glacier, T_Glacier, 8, rfl, by decide, Or.inl (gm_1 (List.mem_of_getElem? (i := 133) rfl) rfl), cw_Glacier⟩
theorem f_Glacier_46_p : FPk "GlacierCamp$Glacier" 46 1 7 (ty_Glacier 7) := ⟨R_Glacier, T_Glacier, 8, ty_Glacier, rfl, by decide, Or.inl (gm_1 (List.mem_of_getElem? (i := 133) rfl) rfl), cw_Glacier, ty_Glacier_ok, nm_Glacier, ty_Glacier_ok 7 (by decide), rfl⟩
theorem f_Formulas_13 : FLk "GlacierCamp$Formulas" 13 0 0 := ⟨R_Formulas, T_Formulas, 5, rfl, by decide, Or.inl (gm_1 (List.mem_of_getElem? (i := 166) rfl) rfl), cw_Formulas⟩
theorem f_Formulas_13_p : FPk "GlacierCamp$Formulas" 13 0 0 (ty_Formulas 0) := ⟨R_Formulas, T_Formulas, 5, ty_Formulas, rfl, by decide, Or.inl (gm_1 (List.mem_of_getElem? (i := 166) rfl) rfl), cw_Formulas, ty_Formulas_ok, nm_Formulas, ty_Formulas_ok 0 (by decide), rfl⟩
theorem f_Formulas_17 : FLk "GlacierCamp$Formulas" 17 0 1 := ⟨R_Formulas, T_Formulas, 5, rfl, by decide, Or.inl (gm_1 (List.mem_of_getElem? (i := 167) rfl) rfl), cw_Formulas⟩
theorem f_Formulas_17_p : FPk "GlacierCamp$Formulas" 17 0 1 (ty_Formulas 1) := ⟨R_Formulas, T_Formulas, 5, ty_Formulas, rfl, by decide, Or.inl (gm_1 (List.mem_of_getElem? (i := 167) rfl) rfl), cw_Formulas, ty_Formulas_ok, nm_Formulas, ty_Formulas_ok 1 (by decide), rfl⟩
theorem f_Formulas_21 : FLk "GlacierCamp$Formulas" 21 0 2 := ⟨R_Formulas, T_Formulas, 5, rfl, by decide, Or.inl (gm_1 (List.mem_of_getElem? (i := 168) rfl) rfl), cw_Formulas⟩
theorem f_Formulas_21_p : FPk "GlacierCamp$Formulas" 21 0 2 (ty_Formulas 2) := ⟨R_Formulas, T_Formulas, 5, ty_Formulas, rfl, by decide, Or.inl (gm_1 (List.mem_of_getElem? (i := 168) rfl) rfl), cw_Formulas, ty_Formulas_ok, nm_Formulas, ty_Formulas_ok 2 (by decide), rfl⟩
theorem f_Formulas_24 : FLk "GlacierCamp$Formulas" 24 0 3 := ⟨R_Formulas, T_Formulas, 5, rfl, by decide, Or.inl (gm_1 (List.mem_of_getElem? (i := 169) rfl) rfl), cw_Formulas⟩
theorem f_Formulas_24_p : FPk "GlacierCamp$Formulas" 24 0 3 (ty_Formulas 3) := ⟨R_Formulas, T_Formulas, 5, ty_Formulas, rfl, by decide, Or.inl (gm_1 (List.mem_of_getElem? (i := 169) rfl) rfl), cw_Formulas, ty_Formulas_ok, nm_Formulas, ty_Formulas_ok 3 (by decide), rfl⟩
theorem f_Formulas_28 : FLk "GlacierCamp$Formulas" 28 0 4 := ⟨R_Formulas, T_Formulas, 5, rfl, by decide, Or.inl (gm_1 (List.mem_of_getElem? (i := 170) rfl) rfl), cw_Formulas⟩
theorem f_Formulas_28_p : FPk "GlacierCamp$Formulas" 28 0 4 (ty_Formulas 4) := ⟨R_Formulas, T_Formulas, 5, ty_Formulas, rfl, by decide, Or.inl (gm_1 (List.mem_of_getElem? (i := 170) rfl) rfl), cw_Formulas, ty_Formulas_ok, nm_Formulas, ty_Formulas_ok 4 (by decide), rfl⟩
theorem f_Orders_14 : FLk "GlacierCamp$Orders" 14 3 0 := ⟨R_Orders, T_Orders, 2, rfl, by decide, Or.inl (gm_1 (List.mem_of_getElem? (i := 182) rfl) rfl), cw_Orders⟩
theorem f_Orders_14_p : FPk "GlacierCamp$Orders" 14 3 0 (ty_Orders 0) := ⟨R_Orders, T_Orders, 2, ty_Orders, rfl, by decide, Or.inl (gm_1 (List.mem_of_getElem? (i := 182) rfl) rfl), cw_Orders, ty_Orders_ok, nm_Orders, ty_Orders_ok 0 (by decide), rfl⟩
theorem f_Orders_23 : FLk "GlacierCamp$Orders" 23 3 1 := ⟨R_Orders, T_Orders, 2, rfl, by decide, Or.inl (gm_1 (List.mem_of_getElem? (i := 183) rfl) rfl), cw_Orders⟩
theorem f_Orders_23_p : FPk "GlacierCamp$Orders" 23 3 1 (ty_Orders 1) := ⟨R_Orders, T_Orders, 2, ty_Orders, rfl, by decide, Or.inl (gm_1 (List.mem_of_getElem? (i := 183) rfl) rfl), cw_Orders, ty_Orders_ok, nm_Orders, ty_Orders_ok 1 (by decide), rfl⟩
theorem f_Camp_10 : FLk "GlacierCamp" 10 8 0 := ⟨R_Camp, T_Camp, 7, rfl, by decide, Or.inl (gm_1 (List.mem_of_getElem? (i := 190) rfl) rfl), cw_Camp⟩
theorem f_Camp_10_p : FPk "GlacierCamp" 10 8 0 (ty_Camp 0) := ⟨R_Camp, T_Camp, 7, ty_Camp, rfl, by decide, Or.inl (gm_1 (List.mem_of_getElem? (i := 190) rfl) rfl), cw_Camp, ty_Camp_ok, nm_Camp, ty_Camp_ok 0 (by decide), rfl⟩
theorem f_Camp_19 : FLk "GlacierCamp" 19 8 1 := ⟨R_Camp, T_Camp, 7, rfl, by decide, Or.inl (gm_1 (List.mem_of_getElem? (i := 191) rfl) rfl), cw_Camp⟩
theorem f_Camp_19_p : FPk "GlacierCamp" 19 8 1 (ty_Camp 1) := ⟨R_Camp, T_Camp, 7, ty_Camp, rfl, by decide, Or.inl (gm_1 (List.mem_of_getElem? (i := 191) rfl) rfl), cw_Camp, ty_Camp_ok, nm_Camp, ty_Camp_ok 1 (by decide), rfl⟩
theorem f_Camp_26 : FLk "GlacierCamp" 26 8 2 := ⟨R_Camp, T_Camp, 7, rfl, by decide, Or.inl (gm_1 (List.mem_of_getElem? (i := 192) rfl) rfl), cw_Camp⟩
theorem f_Camp_26_p : FPk "GlacierCamp" 26 8 2 (ty_Camp 2) := ⟨R_Camp, T_Camp, 7, ty_Camp, rfl, by decide, Or.inl (gm_1 (List.mem_of_getElem? (i := 192) rfl) rfl), cw_Camp, ty_Camp_ok, nm_Camp, ty_Camp_ok 2 (by decide), rfl⟩
theorem f_Camp_30 : FLk "GlacierCamp" 30 8 3 := ⟨R_Camp, T_Camp, 7, rfl, by decide, Or.inl (gm_1 (List.mem_of_getElem? (i := 193) rfl) rfl), cw_Camp⟩
theorem f_Camp_30_p : FPk "GlacierCamp" 30 8 3 (ty_Camp 3) := ⟨R_Camp, T_Camp, 7, ty_Camp, rfl, by decide, Or.inl (gm_1 (List.mem_of_getElem? (i := 193) rfl) rfl), cw_Camp, ty_Camp_ok, nm_Camp, ty_Camp_ok 3 (by decide), rfl⟩
theorem f_Camp_36 : FLk "GlacierCamp" 36 8 4 := ⟨R_Camp, T_Camp, 7, rfl, by decide, Or.inl (gm_1 (List.mem_of_getElem? (i := 194) rfl) rfl), cw_Camp⟩
theorem f_Camp_36_p : FPk "GlacierCamp" 36 8 4 (ty_Camp 4) := ⟨R_Camp, T_Camp, 7, ty_Camp, rfl, by decide, Or.inl (gm_1 (List.mem_of_getElem? (i := 194) rfl) rfl), cw_Camp, ty_Camp_ok, nm_Camp, ty_Camp_ok 4 (by decide), rfl⟩
theorem f_Camp_40 : FLk "GlacierCamp" 40 8 5 := ⟨R_Camp, T_Camp, 7, rfl, by decide, Or.inl (gm_1 (List.mem_of_getElem? (i := 195) rfl) rfl), cw_Camp⟩
theorem f_Camp_40_p : FPk "GlacierCamp" 40 8 5 (ty_Camp 5) := ⟨R_Camp, T_Camp, 7, ty_Camp, rfl, by decide, Or.inl (gm_1 (List.mem_of_getElem? (i := 195) rfl) rfl), cw_Camp, ty_Camp_ok, nm_Camp, ty_Camp_ok 5 (by decide), rfl⟩
theorem f_Camp_43 : FLk "GlacierCamp" 43 8 6 := ⟨R_Camp, T_Camp, 7, rfl, by decide, Or.inl (gm_1 (List.mem_of_getElem? (i := 196) rfl) rfl), cw_Camp⟩
theorem f_Camp_43_p : FPk "GlacierCamp" 43 8 6 (ty_Camp 6) := ⟨R_Camp, T_Camp, 7, ty_Camp, rfl, by decide, Or.inl (gm_1 (List.mem_of_getElem? (i := 196) rfl) rfl), cw_Camp, ty_Camp_ok, nm_Camp, ty_Camp_ok 6 (by decide), rfl⟩
theorem f_Names_9 : FLk "GlacierCamp$Names" 9 2 0 := ⟨R_Names, T_Names, 2, rfl, by decide, Or.inl (gm_4 (List.mem_of_getElem? (i := 97) rfl) rfl), cw_Names⟩
theorem f_Names_9_p : FPk "GlacierCamp$Names" 9 2 0 (ty_Names 0) := ⟨R_Names, T_Names, 2, ty_Names, rfl, by decide, Or.inl (gm_4 (List.mem_of_getElem? (i := 97) rfl) rfl), cw_Names, ty_Names_ok, nm_Names, ty_Names_ok 0 (by decide), rfl⟩
theorem f_Names_15 : FLk "GlacierCamp$Names" 15 2 1 := ⟨R_Names, T_Names, 2, rfl, by decide, Or.inl (gm_4 (List.mem_of_getElem? (i := 98) rfl) rfl), cw_Names⟩
theorem f_Names_15_p : FPk "GlacierCamp$Names" 15 2 1 (ty_Names 1) := ⟨R_Names, T_Names, 2, ty_Names, rfl, by decide, Or.inl (gm_4 (List.mem_of_getElem? (i := 98) rfl) rfl), cw_Names, ty_Names_ok, nm_Names, ty_Names_ok 1 (by decide), rfl⟩
theorem f_Teacher_34 : FLk "GlacierCamp$Teacher" 34 6 0 := ⟨R_Teacher, T_Teacher, 11, rfl, by decide, Or.inl (gm_4 (List.mem_of_getElem? (i := 104) rfl) rfl), cw_Teacher⟩
theorem f_Teacher_34_p : FPk "GlacierCamp$Teacher" 34 6 0 (ty_Teacher 0) := ⟨R_Teacher, T_Teacher, 11, ty_Teacher, rfl, by decide, Or.inl (gm_4 (List.mem_of_getElem? (i := 104) rfl) rfl), cw_Teacher, ty_Teacher_ok, nm_Teacher, ty_Teacher_ok 0 (by decide), rfl⟩
theorem f_Teacher_38 : FLk "GlacierCamp$Teacher" 38 6 1 := ⟨R_Teacher, T_Teacher, 11, rfl, by decide, Or.inl (gm_4 (List.mem_of_getElem? (i := 105) rfl) rfl), cw_Teacher⟩
theorem f_Teacher_38_p : FPk "GlacierCamp$Teacher" 38 6 1 (ty_Teacher 1) := ⟨R_Teacher, T_Teacher, 11, ty_Teacher, rfl, by decide, Or.inl (gm_4 (List.mem_of_getElem? (i := 105) rfl) rfl), cw_Teacher, ty_Teacher_ok, nm_Teacher, ty_Teacher_ok 1 (by decide), rfl⟩
theorem f_Teacher_42 : FLk "GlacierCamp$Teacher" 42 6 2 := ⟨R_Teacher, T_Teacher, 11, rfl, by decide, Or.inl (gm_4 (List.mem_of_getElem? (i := 106) rfl) rfl), cw_Teacher⟩
theorem f_Teacher_42_p : FPk "GlacierCamp$Teacher" 42 6 2 (ty_Teacher 2) := ⟨R_Teacher, T_Teacher, 11, ty_Teacher, rfl, by decide, Or.inl (gm_4 (List.mem_of_getElem? (i := 106) rfl) rfl), cw_Teacher, ty_Teacher_ok, nm_Teacher, ty_Teacher_ok 2 (by decide), rfl⟩
theorem f_Teacher_52 : FLk "GlacierCamp$Teacher" 52 6 3 := ⟨R_Teacher, T_Teacher, 11, rfl, by decide, Or.inl (gm_4 (List.mem_of_getElem? (i := 107) rfl) rfl), cw_Teacher⟩
theorem f_Teacher_52_p : FPk "GlacierCamp$Teacher" 52 6 3 (ty_Teacher 3) := ⟨R_Teacher, T_Teacher, 11, ty_Teacher, rfl, by decide, Or.inl (gm_4 (List.mem_of_getElem? (i := 107) rfl) rfl), cw_Teacher, ty_Teacher_ok, nm_Teacher, ty_Teacher_ok 3 (by decide), rfl⟩
theorem f_Teacher_12 : FLk "GlacierCamp$Teacher" 12 6 4 := ⟨R_Teacher, T_Teacher, 11, rfl, by decide, Or.inl (gm_4 (List.mem_of_getElem? (i := 108) rfl) rfl), cw_Teacher⟩
theorem f_Teacher_12_p : FPk "GlacierCamp$Teacher" 12 6 4 (ty_Teacher 4) := ⟨R_Teacher, T_Teacher, 11, ty_Teacher, rfl, by decide, Or.inl (gm_4 (List.mem_of_getElem? (i := 108) rfl) rfl), cw_Teacher, ty_Teacher_ok, nm_Teacher, ty_Teacher_ok 4 (by decide), rfl⟩
theorem f_Teacher_18 : FLk "GlacierCamp$Teacher" 18 6 5 := ⟨R_Teacher, T_Teacher, 11, rfl, by decide, Or.inl (gm_4 (List.mem_of_getElem? (i := 109) rfl) rfl), cw_Teacher⟩
theorem f_Teacher_18_p : FPk "GlacierCamp$Teacher" 18 6 5 (ty_Teacher 5) := ⟨R_Teacher, T_Teacher, 11, ty_Teacher, rfl, by decide, Or.inl (gm_4 (List.mem_of_getElem? (i := 109) rfl) rfl), cw_Teacher, ty_Teacher_ok, nm_Teacher, ty_Teacher_ok 5 (by decide), rfl⟩
theorem f_Teacher_21 : FLk "GlacierCamp$Teacher" 21 6 6 := ⟨R_Teacher, T_Teacher, 11, rfl, by decide, Or.inl (gm_4 (List.mem_of_getElem? (i := 110) rfl) rfl), cw_Teacher⟩
theorem f_Teacher_21_p : FPk "GlacierCamp$Teacher" 21 6 6 (ty_Teacher 6) := ⟨R_Teacher, T_Teacher, 11, ty_Teacher, rfl, by decide, Or.inl (gm_4 (List.mem_of_getElem? (i := 110) rfl) rfl), cw_Teacher, ty_Teacher_ok, nm_Teacher, ty_Teacher_ok 6 (by decide), rfl⟩
theorem f_Teacher_24 : FLk "GlacierCamp$Teacher" 24 6 7 := ⟨R_Teacher, T_Teacher, 11, rfl, by decide, Or.inl (gm_4 (List.mem_of_getElem? (i := 111) rfl) rfl), cw_Teacher⟩
theorem f_Teacher_24_p : FPk "GlacierCamp$Teacher" 24 6 7 (ty_Teacher 7) := ⟨R_Teacher, T_Teacher, 11, ty_Teacher, rfl, by decide, Or.inl (gm_4 (List.mem_of_getElem? (i := 111) rfl) rfl), cw_Teacher, ty_Teacher_ok, nm_Teacher, ty_Teacher_ok 7 (by decide), rfl⟩
theorem f_Teacher_27 : FLk "GlacierCamp$Teacher" 27 6 8 := ⟨R_Teacher, T_Teacher, 11, rfl, by decide, Or.inl (gm_4 (List.mem_of_getElem? (i := 112) rfl) rfl), cw_Teacher⟩
theorem f_Teacher_27_p : FPk "GlacierCamp$Teacher" 27 6 8 (ty_Teacher 8) := ⟨R_Teacher, T_Teacher, 11, ty_Teacher, rfl, by decide, Or.inl (gm_4 (List.mem_of_getElem? (i := 112) rfl) rfl), cw_Teacher, ty_Teacher_ok, nm_Teacher, ty_Teacher_ok 8 (by decide), rfl⟩
theorem f_Teacher_59 : FLk "GlacierCamp$Teacher" 59 6 9 := ⟨R_Teacher, T_Teacher, 11, rfl, by decide, Or.inl (gm_4 (List.mem_of_getElem? (i := 113) rfl) rfl), cw_Teacher⟩
theorem f_Teacher_59_p : FPk "GlacierCamp$Teacher" 59 6 9 (ty_Teacher 9) := ⟨R_Teacher, T_Teacher, 11, ty_Teacher, rfl, by decide, Or.inl (gm_4 (List.mem_of_getElem? (i := 113) rfl) rfl), cw_Teacher, ty_Teacher_ok, nm_Teacher, ty_Teacher_ok 9 (by decide), rfl⟩
theorem f_Teacher_30 : FLk "GlacierCamp$Teacher" 30 6 10 := ⟨R_Teacher, T_Teacher, 11, rfl, by decide, Or.inl (gm_4 (List.mem_of_getElem? (i := 114) rfl) rfl), cw_Teacher⟩
theorem f_Teacher_30_p : FPk "GlacierCamp$Teacher" 30 6 10 (ty_Teacher 10) := ⟨R_Teacher, T_Teacher, 11, ty_Teacher, rfl, by decide, Or.inl (gm_4 (List.mem_of_getElem? (i := 114) rfl) rfl), cw_Teacher, ty_Teacher_ok, nm_Teacher, ty_Teacher_ok 10 (by decide), rfl⟩
theorem f_Sim_34 : FLk "GlacierCampLaw$Sim" 34 9 0 := ⟨R_Sim, T_Sim, 11, rfl, by decide, Or.inl (gm_5 (List.mem_of_getElem? (i := 192) rfl) rfl), cw_Sim⟩
theorem f_Sim_34_p : FPk "GlacierCampLaw$Sim" 34 9 0 (ty_Sim 0) := ⟨R_Sim, T_Sim, 11, ty_Sim, rfl, by decide, Or.inl (gm_5 (List.mem_of_getElem? (i := 192) rfl) rfl), cw_Sim, ty_Sim_ok, nm_Sim, ty_Sim_ok 0 (by decide), rfl⟩
theorem f_Sim_38 : FLk "GlacierCampLaw$Sim" 38 9 1 := ⟨R_Sim, T_Sim, 11, rfl, by decide, Or.inl (gm_5 (List.mem_of_getElem? (i := 193) rfl) rfl), cw_Sim⟩
theorem f_Sim_38_p : FPk "GlacierCampLaw$Sim" 38 9 1 (ty_Sim 1) := ⟨R_Sim, T_Sim, 11, ty_Sim, rfl, by decide, Or.inl (gm_5 (List.mem_of_getElem? (i := 193) rfl) rfl), cw_Sim, ty_Sim_ok, nm_Sim, ty_Sim_ok 1 (by decide), rfl⟩
theorem f_Sim_41 : FLk "GlacierCampLaw$Sim" 41 9 2 := ⟨R_Sim, T_Sim, 11, rfl, by decide, Or.inl (gm_5 (List.mem_of_getElem? (i := 194) rfl) rfl), cw_Sim⟩
theorem f_Sim_41_p : FPk "GlacierCampLaw$Sim" 41 9 2 (ty_Sim 2) := ⟨R_Sim, T_Sim, 11, ty_Sim, rfl, by decide, Or.inl (gm_5 (List.mem_of_getElem? (i := 194) rfl) rfl), cw_Sim, ty_Sim_ok, nm_Sim, ty_Sim_ok 2 (by decide), rfl⟩
theorem f_Sim_44 : FLk "GlacierCampLaw$Sim" 44 9 3 := ⟨R_Sim, T_Sim, 11, rfl, by decide, Or.inl (gm_5 (List.mem_of_getElem? (i := 195) rfl) rfl), cw_Sim⟩
theorem f_Sim_44_p : FPk "GlacierCampLaw$Sim" 44 9 3 (ty_Sim 3) := ⟨R_Sim, T_Sim, 11, ty_Sim, rfl, by decide, Or.inl (gm_5 (List.mem_of_getElem? (i := 195) rfl) rfl), cw_Sim, ty_Sim_ok, nm_Sim, ty_Sim_ok 3 (by decide), rfl⟩
theorem f_Sim_7 : FLk "GlacierCampLaw$Sim" 7 9 4 := ⟨R_Sim, T_Sim, 11, rfl, by decide, Or.inl (gm_5 (List.mem_of_getElem? (i := 196) rfl) rfl), cw_Sim⟩
theorem f_Sim_7_p : FPk "GlacierCampLaw$Sim" 7 9 4 (ty_Sim 4) := ⟨R_Sim, T_Sim, 11, ty_Sim, rfl, by decide, Or.inl (gm_5 (List.mem_of_getElem? (i := 196) rfl) rfl), cw_Sim, ty_Sim_ok, nm_Sim, ty_Sim_ok 4 (by decide), rfl⟩
theorem f_Law_177 : FLk "GlacierCampLaw" 177 9 4 := ⟨R_Sim, T_Sim, 11, rfl, by decide, Or.inl (gm_5 (List.mem_of_getElem? (i := 197) rfl) rfl), cw_Sim⟩
theorem f_Law_177_p : FPk "GlacierCampLaw" 177 9 4 (ty_Sim 4) := ⟨R_Sim, T_Sim, 11, ty_Sim, rfl, by decide, Or.inl (gm_5 (List.mem_of_getElem? (i := 197) rfl) rfl), cw_Sim, ty_Sim_ok, nm_Sim, ty_Sim_ok 4 (by decide), rfl⟩
theorem f_Sim_14 : FLk "GlacierCampLaw$Sim" 14 9 5 := ⟨R_Sim, T_Sim, 11, rfl, by decide, Or.inl (gm_5 (List.mem_of_getElem? (i := 198) rfl) rfl), cw_Sim⟩
theorem f_Sim_14_p : FPk "GlacierCampLaw$Sim" 14 9 5 (ty_Sim 5) := ⟨R_Sim, T_Sim, 11, ty_Sim, rfl, by decide, Or.inl (gm_5 (List.mem_of_getElem? (i := 198) rfl) rfl), cw_Sim, ty_Sim_ok, nm_Sim, ty_Sim_ok 5 (by decide), rfl⟩
theorem f_Law_131 : FLk "GlacierCampLaw" 131 9 5 := ⟨R_Sim, T_Sim, 11, rfl, by decide, Or.inl (gm_5 (List.mem_of_getElem? (i := 199) rfl) rfl), cw_Sim⟩
theorem f_Law_131_p : FPk "GlacierCampLaw" 131 9 5 (ty_Sim 5) := ⟨R_Sim, T_Sim, 11, ty_Sim, rfl, by decide, Or.inl (gm_5 (List.mem_of_getElem? (i := 199) rfl) rfl), cw_Sim, ty_Sim_ok, nm_Sim, ty_Sim_ok 5 (by decide), rfl⟩
theorem f_Sim_18 : FLk "GlacierCampLaw$Sim" 18 9 6 := ⟨R_Sim, T_Sim, 11, rfl, by decide, Or.inl (gm_5 (List.mem_of_getElem? (i := 200) rfl) rfl), cw_Sim⟩
theorem f_Sim_18_p : FPk "GlacierCampLaw$Sim" 18 9 6 (ty_Sim 6) := ⟨R_Sim, T_Sim, 11, ty_Sim, rfl, by decide, Or.inl (gm_5 (List.mem_of_getElem? (i := 200) rfl) rfl), cw_Sim, ty_Sim_ok, nm_Sim, ty_Sim_ok 6 (by decide), rfl⟩
theorem f_Law_145 : FLk "GlacierCampLaw" 145 9 6 := ⟨R_Sim, T_Sim, 11, rfl, by decide, Or.inl (gm_5 (List.mem_of_getElem? (i := 201) rfl) rfl), cw_Sim⟩
theorem f_Law_145_p : FPk "GlacierCampLaw" 145 9 6 (ty_Sim 6) := ⟨R_Sim, T_Sim, 11, ty_Sim, rfl, by decide, Or.inl (gm_5 (List.mem_of_getElem? (i := 201) rfl) rfl), cw_Sim, ty_Sim_ok, nm_Sim, ty_Sim_ok 6 (by decide), rfl⟩
theorem f_Sim_21 : FLk "GlacierCampLaw$Sim" 21 9 7 := ⟨R_Sim, T_Sim, 11, rfl, by decide, Or.inl (gm_5 (List.mem_of_getElem? (i := 202) rfl) rfl), cw_Sim⟩
theorem f_Sim_21_p : FPk "GlacierCampLaw$Sim" 21 9 7 (ty_Sim 7) := ⟨R_Sim, T_Sim, 11, ty_Sim, rfl, by decide, Or.inl (gm_5 (List.mem_of_getElem? (i := 202) rfl) rfl), cw_Sim, ty_Sim_ok, nm_Sim, ty_Sim_ok 7 (by decide), rfl⟩
theorem f_Law_154 : FLk "GlacierCampLaw" 154 9 7 := ⟨R_Sim, T_Sim, 11, rfl, by decide, Or.inl (gm_5 (List.mem_of_getElem? (i := 203) rfl) rfl), cw_Sim⟩
theorem f_Law_154_p : FPk "GlacierCampLaw" 154 9 7 (ty_Sim 7) := ⟨R_Sim, T_Sim, 11, ty_Sim, rfl, by decide, Or.inl (gm_5 (List.mem_of_getElem? (i := 203) rfl) rfl), cw_Sim, ty_Sim_ok, nm_Sim, ty_Sim_ok 7 (by decide), rfl⟩
theorem f_Sim_24 : FLk "GlacierCampLaw$Sim" 24 9 8 := ⟨R_Sim, T_Sim, 11, rfl, by decide, Or.inl (gm_5 (List.mem_of_getElem? (i := 204) rfl) rfl), cw_Sim⟩
theorem f_Sim_24_p : FPk "GlacierCampLaw$Sim" 24 9 8 (ty_Sim 8) := ⟨R_Sim, T_Sim, 11, ty_Sim, rfl, by decide, Or.inl (gm_5 (List.mem_of_getElem? (i := 204) rfl) rfl), cw_Sim, ty_Sim_ok, nm_Sim, ty_Sim_ok 8 (by decide), rfl⟩
theorem f_Law_163 : FLk "GlacierCampLaw" 163 9 8 := ⟨R_Sim, T_Sim, 11, rfl, by decide, Or.inl (gm_5 (List.mem_of_getElem? (i := 205) rfl) rfl), cw_Sim⟩
theorem f_Law_163_p : FPk "GlacierCampLaw" 163 9 8 (ty_Sim 8) := ⟨R_Sim, T_Sim, 11, ty_Sim, rfl, by decide, Or.inl (gm_5 (List.mem_of_getElem? (i := 205) rfl) rfl), cw_Sim, ty_Sim_ok, nm_Sim, ty_Sim_ok 8 (by decide), rfl⟩
theorem f_Sim_27 : FLk "GlacierCampLaw$Sim" 27 9 9 := ⟨R_Sim, T_Sim, 11, rfl, by decide, Or.inl (gm_5 (List.mem_of_getElem? (i := 206) rfl) rfl), cw_Sim⟩
theorem f_Sim_27_p : FPk "GlacierCampLaw$Sim" 27 9 9 (ty_Sim 9) := ⟨R_Sim, T_Sim, 11, ty_Sim, rfl, by decide, Or.inl (gm_5 (List.mem_of_getElem? (i := 206) rfl) rfl), cw_Sim, ty_Sim_ok, nm_Sim, ty_Sim_ok 9 (by decide), rfl⟩
theorem f_Law_170 : FLk "GlacierCampLaw" 170 9 9 := ⟨R_Sim, T_Sim, 11, rfl, by decide, Or.inl (gm_5 (List.mem_of_getElem? (i := 207) rfl) rfl), cw_Sim⟩
theorem f_Law_170_p : FPk "GlacierCampLaw" 170 9 9 (ty_Sim 9) := ⟨R_Sim, T_Sim, 11, ty_Sim, rfl, by decide, Or.inl (gm_5 (List.mem_of_getElem? (i := 207) rfl) rfl), cw_Sim, ty_Sim_ok, nm_Sim, ty_Sim_ok 9 (by decide), rfl⟩
theorem f_Sim_30 : FLk "GlacierCampLaw$Sim" 30 9 10 := ⟨R_Sim, T_Sim, 11, rfl, by decide, Or.inl (gm_5 (List.mem_of_getElem? (i := 208) rfl) rfl), cw_Sim⟩
theorem f_Sim_30_p : FPk "GlacierCampLaw$Sim" 30 9 10 (ty_Sim 10) := ⟨R_Sim, T_Sim, 11, ty_Sim, rfl, by decide, Or.inl (gm_5 (List.mem_of_getElem? (i := 208) rfl) rfl), cw_Sim, ty_Sim_ok, nm_Sim, ty_Sim_ok 10 (by decide), rfl⟩
theorem f_Law_184 : FLk "GlacierCampLaw" 184 9 10 := ⟨R_Sim, T_Sim, 11, rfl, by decide, Or.inl (gm_5 (List.mem_of_getElem? (i := 209) rfl) rfl), cw_Sim⟩
theorem f_Law_184_p : FPk "GlacierCampLaw" 184 9 10 (ty_Sim 10) := ⟨R_Sim, T_Sim, 11, ty_Sim, rfl, by decide, Or.inl (gm_5 (List.mem_of_getElem? (i := 209) rfl) rfl), cw_Sim, ty_Sim_ok, nm_Sim, ty_Sim_ok 10 (by decide), rfl⟩
theorem f_String_9 : FLk "java/lang/String" 9 11 0 := ⟨R_String, T_String, 4, rfl, by decide, Or.inl (gm_6 (List.mem_of_getElem? (i := 212) rfl) rfl), cw_String⟩
theorem f_String_9_p : FPk "java/lang/String" 9 11 0 (ty_String 0) := ⟨R_String, T_String, 4, ty_String, rfl, by decide, Or.inl (gm_6 (List.mem_of_getElem? (i := 212) rfl) rfl), cw_String, ty_String_ok, nm_String, ty_String_ok 0 (by decide), rfl⟩
theorem f_String_15 : FLk "java/lang/String" 15 11 1 := ⟨R_String, T_String, 4, rfl, by decide, Or.inl (gm_6 (List.mem_of_getElem? (i := 213) rfl) rfl), cw_String⟩
theorem f_String_15_p : FPk "java/lang/String" 15 11 1 (ty_String 1) := ⟨R_String, T_String, 4, ty_String, rfl, by decide, Or.inl (gm_6 (List.mem_of_getElem? (i := 213) rfl) rfl), cw_String, ty_String_ok, nm_String, ty_String_ok 1 (by decide), rfl⟩
theorem f_Teacher_128 : FLk "GlacierCamp$Teacher" 128 1 0 := ⟨R_Glacier, T_Glacier, 8, rfl, by decide, Or.inr ⟨"GlacierCamp", gn_1 (List.mem_of_getElem? (i := 121) rfl) rfl⟩, cw_Glacier⟩
theorem f_Camp_107 : FLk "GlacierCamp" 107 1 0 := ⟨R_Glacier, T_Glacier, 8, rfl, by decide, Or.inr ⟨"GlacierCamp", gn_1 (List.mem_of_getElem? (i := 122) rfl) rfl⟩, cw_Glacier⟩
theorem f_Camp_116 : FLk "GlacierCamp" 116 1 1 := ⟨R_Glacier, T_Glacier, 8, rfl, by decide, Or.inr ⟨"GlacierCamp", gn_1 (List.mem_of_getElem? (i := 124) rfl) rfl⟩, cw_Glacier⟩
theorem f_Camp_119 : FLk "GlacierCamp" 119 1 2 := ⟨R_Glacier, T_Glacier, 8, rfl, by decide, Or.inr ⟨"GlacierCamp", gn_1 (List.mem_of_getElem? (i := 126) rfl) rfl⟩, cw_Glacier⟩
theorem f_Camp_122 : FLk "GlacierCamp" 122 1 3 := ⟨R_Glacier, T_Glacier, 8, rfl, by decide, Or.inr ⟨"GlacierCamp", gn_1 (List.mem_of_getElem? (i := 128) rfl) rfl⟩, cw_Glacier⟩
theorem f_Camp_125 : FLk "GlacierCamp" 125 1 4 := ⟨R_Glacier, T_Glacier, 8, rfl, by decide, Or.inr ⟨"GlacierCamp", gn_1 (List.mem_of_getElem? (i := 130) rfl) rfl⟩, cw_Glacier⟩
theorem f_Teacher_46 : FLk "GlacierCamp$Teacher" 46 3 1 := ⟨R_Orders, T_Orders, 2, rfl, by decide, Or.inr ⟨"GlacierCamp", gn_1 (List.mem_of_getElem? (i := 184) rfl) rfl⟩, cw_Orders⟩
