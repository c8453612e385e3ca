/-! classes, methods and the words of the tables, written by wip/whole/gen/gen_names.py out of the task's own papers -/
def R_Formulas : String := "GlacierCamp$Formulas"
def T_Formulas : u_T := fun k => match k with
  | 0 => ("GlacierCamp$Formulas", "signs", "[LGlacierCamp$Sign;", true)
  | 1 => ("GlacierCamp$Formulas", "operands", "[I", true)
  | 2 => ("GlacierCamp$Formulas", "stack", "[I", true)
  | 3 => ("GlacierCamp$Formulas", "size", "I", false)
  | _ => ("GlacierCamp$Formulas", "top", "I", false)
def ty_Formulas : Nat → FieldType := fun k => match k with
  | 0 => (.array (.object "GlacierCamp$Sign"))
  | 1 => (.array .int)
  | 2 => (.array .int)
  | 3 => .int
  | _ => .int
theorem nm_Formulas : ∀ a, a < 5 → ∀ b, b < 5 → a ≠ b → (T_Formulas a).2.1 ≠ (T_Formulas b).2.1 := by decide +kernel
theorem ty_Formulas_ok : ∀ k, k < 5 → parseFieldDescriptor (T_Formulas k).2.2.1 = some (ty_Formulas k) := by decide +kernel
def R_Glacier : String := "GlacierCamp$Glacier"
def T_Glacier : u_T := fun k => match k with
  | 0 => ("GlacierCamp$Glacier", "bands", "LGlacierCamp$Table;", true)
  | 1 => ("GlacierCamp$Glacier", "stakes", "LGlacierCamp$Table;", true)
  | 2 => ("GlacierCamp$Glacier", "crevasses", "LGlacierCamp$Table;", true)
  | 3 => ("GlacierCamp$Glacier", "depots", "LGlacierCamp$Table;", true)
  | 4 => ("GlacierCamp$Glacier", "teams", "LGlacierCamp$Table;", true)
  | 5 => ("GlacierCamp$Glacier", "warmths", "[I", true)
  | 6 => ("GlacierCamp$Glacier", "day", "I", false)
  | _ => ("GlacierCamp$Glacier", "carriedOut", "I", false)
def ty_Glacier : Nat → FieldType := fun k => match k with
  | 0 => (.object "GlacierCamp$Table")
  | 1 => (.object "GlacierCamp$Table")
  | 2 => (.object "GlacierCamp$Table")
  | 3 => (.object "GlacierCamp$Table")
  | 4 => (.object "GlacierCamp$Table")
  | 5 => (.array .int)
  | 6 => .int
  | _ => .int
theorem nm_Glacier : ∀ a, a < 8 → ∀ b, b < 8 → a ≠ b → (T_Glacier a).2.1 ≠ (T_Glacier b).2.1 := by decide +kernel
theorem ty_Glacier_ok : ∀ k, k < 8 → parseFieldDescriptor (T_Glacier k).2.2.1 = some (ty_Glacier k) := by decide +kernel
def R_Names : String := "GlacierCamp$Names"
def T_Names : u_T := fun k => match k with
  | 0 => ("GlacierCamp$Names", "names", "[J", true)
  | _ => ("GlacierCamp$Names", "size", "I", false)
def ty_Names : Nat → FieldType := fun k => match k with
  | 0 => (.array .long)
  | _ => .int
theorem nm_Names : ∀ a, a < 2 → ∀ b, b < 2 → a ≠ b → (T_Names a).2.1 ≠ (T_Names b).2.1 := by decide +kernel
theorem ty_Names_ok : ∀ k, k < 2 → parseFieldDescriptor (T_Names k).2.2.1 = some (ty_Names k) := by decide +kernel
def R_Orders : String := "GlacierCamp$Orders"
def T_Orders : u_T := fun k => match k with
  | 0 => ("GlacierCamp$Orders", "table", "LGlacierCamp$Table;", true)
  | _ => ("GlacierCamp$Orders", "formulas", "LGlacierCamp$Formulas;", true)
def ty_Orders : Nat → FieldType := fun k => match k with
  | 0 => (.object "GlacierCamp$Table")
  | _ => (.object "GlacierCamp$Formulas")
theorem nm_Orders : ∀ a, a < 2 → ∀ b, b < 2 → a ≠ b → (T_Orders a).2.1 ≠ (T_Orders b).2.1 := by decide +kernel
theorem ty_Orders_ok : ∀ k, k < 2 → parseFieldDescriptor (T_Orders k).2.2.1 = some (ty_Orders k) := by decide +kernel
def R_Table : String := "GlacierCamp$Table"
def T_Table : u_T := fun k => match k with
  | 0 => ("GlacierCamp$Table", "cells", "[I", true)
  | _ => ("GlacierCamp$Table", "rows", "I", false)
def ty_Table : Nat → FieldType := fun k => match k with
  | 0 => (.array .int)
  | _ => .int
theorem nm_Table : ∀ a, a < 2 → ∀ b, b < 2 → a ≠ b → (T_Table a).2.1 ≠ (T_Table b).2.1 := by decide +kernel
theorem ty_Table_ok : ∀ k, k < 2 → parseFieldDescriptor (T_Table k).2.2.1 = some (ty_Table k) := by decide +kernel
def R_Tape : String := "GlacierCamp$Tape"
def T_Tape : u_T := fun k => match k with
  | 0 => ("GlacierCamp$Tape", "bytes", "[B", true)
  | _ => ("GlacierCamp$Tape", "size", "I", false)
def ty_Tape : Nat → FieldType := fun k => match k with
  | 0 => (.array .byte)
  | _ => .int
theorem nm_Tape : ∀ a, a < 2 → ∀ b, b < 2 → a ≠ b → (T_Tape a).2.1 ≠ (T_Tape b).2.1 := by decide +kernel
theorem ty_Tape_ok : ∀ k, k < 2 → parseFieldDescriptor (T_Tape k).2.2.1 = some (ty_Tape k) := by decide +kernel
def R_Teacher : String := "GlacierCamp$Teacher"
def T_Teacher : u_T := fun k => match k with
  | 0 => ("GlacierCamp$Teacher", "tokens", "LGlacierCamp$Tokens;", true)
  | 1 => ("GlacierCamp$Teacher", "glacier", "LGlacierCamp$Glacier;", true)
  | 2 => ("GlacierCamp$Teacher", "orders", "LGlacierCamp$Orders;", true)
  | 3 => ("GlacierCamp$Teacher", "formulas", "LGlacierCamp$Formulas;", true)
  | 4 => ("GlacierCamp$Teacher", "bands", "LGlacierCamp$Names;", true)
  | 5 => ("GlacierCamp$Teacher", "stakes", "LGlacierCamp$Names;", true)
  | 6 => ("GlacierCamp$Teacher", "crevasses", "LGlacierCamp$Names;", true)
  | 7 => ("GlacierCamp$Teacher", "depots", "LGlacierCamp$Names;", true)
  | 8 => ("GlacierCamp$Teacher", "teams", "LGlacierCamp$Names;", true)
  | 9 => ("GlacierCamp$Teacher", "error", "I", false)
  | _ => ("GlacierCamp$Teacher", "errorPosition", "I", false)
def ty_Teacher : Nat → FieldType := fun k => match k with
  | 0 => (.object "GlacierCamp$Tokens")
  | 1 => (.object "GlacierCamp$Glacier")
  | 2 => (.object "GlacierCamp$Orders")
  | 3 => (.object "GlacierCamp$Formulas")
  | 4 => (.object "GlacierCamp$Names")
  | 5 => (.object "GlacierCamp$Names")
  | 6 => (.object "GlacierCamp$Names")
  | 7 => (.object "GlacierCamp$Names")
  | 8 => (.object "GlacierCamp$Names")
  | 9 => .int
  | _ => .int
theorem nm_Teacher : ∀ a, a < 11 → ∀ b, b < 11 → a ≠ b → (T_Teacher a).2.1 ≠ (T_Teacher b).2.1 := by decide +kernel
theorem ty_Teacher_ok : ∀ k, k < 11 → parseFieldDescriptor (T_Teacher k).2.2.1 = some (ty_Teacher k) := by decide +kernel
def R_Tokens : String := "GlacierCamp$Tokens"
def T_Tokens : u_T := fun k => match k with
  | 0 => ("GlacierCamp$Tokens", "signs", "[LGlacierCamp$Sign;", true)
  | 1 => ("GlacierCamp$Tokens", "starts", "[I", true)
  | 2 => ("GlacierCamp$Tokens", "worths", "[J", true)
  | 3 => ("GlacierCamp$Tokens", "size", "I", false)
  | 4 => ("GlacierCamp$Tokens", "at", "I", false)
  | 5 => ("GlacierCamp$Tokens", "sign", "LGlacierCamp$Sign;", false)
  | 6 => ("GlacierCamp$Tokens", "start", "I", false)
  | 7 => ("GlacierCamp$Tokens", "worth", "J", false)
  | _ => ("GlacierCamp$Tokens", "brokenAt", "I", false)
def ty_Tokens : Nat → FieldType := fun k => match k with
  | 0 => (.array (.object "GlacierCamp$Sign"))
  | 1 => (.array .int)
  | 2 => (.array .long)
  | 3 => .int
  | 4 => .int
  | 5 => (.object "GlacierCamp$Sign")
  | 6 => .int
  | 7 => .long
  | _ => .int
theorem nm_Tokens : ∀ a, a < 9 → ∀ b, b < 9 → a ≠ b → (T_Tokens a).2.1 ≠ (T_Tokens b).2.1 := by decide +kernel
theorem ty_Tokens_ok : ∀ k, k < 9 → parseFieldDescriptor (T_Tokens k).2.2.1 = some (ty_Tokens k) := by decide +kernel
def R_Camp : String := "GlacierCamp"
def T_Camp : u_T := fun k => match k with
  | 0 => ("GlacierCamp", "tape", "LGlacierCamp$Tape;", true)
  | 1 => ("GlacierCamp", "tokens", "LGlacierCamp$Tokens;", true)
  | 2 => ("GlacierCamp", "now", "LGlacierCamp$Glacier;", false)
  | 3 => ("GlacierCamp", "later", "LGlacierCamp$Glacier;", false)
  | 4 => ("GlacierCamp", "told", "LGlacierCamp$Orders;", false)
  | 5 => ("GlacierCamp", "draft", "LGlacierCamp$Orders;", false)
  | _ => ("GlacierCamp", "errorPosition", "I", false)
def ty_Camp : Nat → FieldType := fun k => match k with
  | 0 => (.object "GlacierCamp$Tape")
  | 1 => (.object "GlacierCamp$Tokens")
  | 2 => (.object "GlacierCamp$Glacier")
  | 3 => (.object "GlacierCamp$Glacier")
  | 4 => (.object "GlacierCamp$Orders")
  | 5 => (.object "GlacierCamp$Orders")
  | _ => .int
theorem nm_Camp : ∀ a, a < 7 → ∀ b, b < 7 → a ≠ b → (T_Camp a).2.1 ≠ (T_Camp b).2.1 := by decide +kernel
theorem ty_Camp_ok : ∀ k, k < 7 → parseFieldDescriptor (T_Camp k).2.2.1 = some (ty_Camp k) := by decide +kernel
def R_Sheet : String := "GlacierCampModel$Sheet"
def T_Sheet : u_T := fun k => match k with
  | 0 => ("GlacierCampModel$Sheet", "kind", "[I", true)
  | 1 => ("GlacierCampModel$Sheet", "from", "[I", true)
  | 2 => ("GlacierCampModel$Sheet", "many", "[I", true)
  | 3 => ("GlacierCampModel$Sheet", "means", "[I", true)
  | 4 => ("GlacierCampModel$Sheet", "has", "[I", true)
  | 5 => ("GlacierCampModel$Sheet", "names", "[I", true)
  | 6 => ("GlacierCampModel$Sheet", "line", "I", false)
  | 7 => ("GlacierCampModel$Sheet", "height", "[I", true)
  | 8 => ("GlacierCampModel$Sheet", "snow", "[I", true)
  | 9 => ("GlacierCampModel$Sheet", "stakeIn", "[I", true)
  | 10 => ("GlacierCampModel$Sheet", "deep", "[I", true)
  | 11 => ("GlacierCampModel$Sheet", "above", "[I", true)
  | 12 => ("GlacierCampModel$Sheet", "bridge", "[I", true)
  | 13 => ("GlacierCampModel$Sheet", "depotIn", "[I", true)
  | 14 => ("GlacierCampModel$Sheet", "food", "[I", true)
  | 15 => ("GlacierCampModel$Sheet", "teamIn", "[I", true)
  | 16 => ("GlacierCampModel$Sheet", "size", "[I", true)
  | 17 => ("GlacierCampModel$Sheet", "sack", "[I", true)
  | 18 => ("GlacierCampModel$Sheet", "warm", "[I", true)
  | 19 => ("GlacierCampModel$Sheet", "dayTold", "I", false)
  | 20 => ("GlacierCampModel$Sheet", "orders", "I", false)
  | 21 => ("GlacierCampModel$Sheet", "does", "[I", true)
  | 22 => ("GlacierCampModel$Sheet", "one", "[I", true)
  | 23 => ("GlacierCampModel$Sheet", "other", "[I", true)
  | 24 => ("GlacierCampModel$Sheet", "sum", "[I", true)
  | _ => ("GlacierCampModel$Sheet", "when", "[I", true)
def ty_Sheet : Nat → FieldType := fun k => match k with
  | 0 => (.array .int)
  | 1 => (.array .int)
  | 2 => (.array .int)
  | 3 => (.array .int)
  | 4 => (.array .int)
  | 5 => (.array .int)
  | 6 => .int
  | 7 => (.array .int)
  | 8 => (.array .int)
  | 9 => (.array .int)
  | 10 => (.array .int)
  | 11 => (.array .int)
  | 12 => (.array .int)
  | 13 => (.array .int)
  | 14 => (.array .int)
  | 15 => (.array .int)
  | 16 => (.array .int)
  | 17 => (.array .int)
  | 18 => (.array .int)
  | 19 => .int
  | 20 => .int
  | 21 => (.array .int)
  | 22 => (.array .int)
  | 23 => (.array .int)
  | 24 => (.array .int)
  | _ => (.array .int)
theorem nm_Sheet : ∀ a, a < 26 → ∀ b, b < 26 → a ≠ b → (T_Sheet a).2.1 ≠ (T_Sheet b).2.1 := by decide +kernel
theorem ty_Sheet_ok : ∀ k, k < 26 → parseFieldDescriptor (T_Sheet k).2.2.1 = some (ty_Sheet k) := by decide +kernel
def R_State : String := "GlacierCampModel$State"
def T_State : u_T := fun k => match k with
  | 0 => ("GlacierCampModel$State", "day", "I", false)
  | 1 => ("GlacierCampModel$State", "readings", "I", false)
  | 2 => ("GlacierCampModel$State", "falls", "I", false)
  | 3 => ("GlacierCampModel$State", "carried", "I", false)
  | 4 => ("GlacierCampModel$State", "warm", "[I", true)
  | 5 => ("GlacierCampModel$State", "snow", "[I", true)
  | 6 => ("GlacierCampModel$State", "ice", "[I", true)
  | 7 => ("GlacierCampModel$State", "out", "[I", true)
  | 8 => ("GlacierCampModel$State", "stands", "[I", true)
  | 9 => ("GlacierCampModel$State", "latest", "[I", true)
  | 10 => ("GlacierCampModel$State", "reads", "[I", true)
  | 11 => ("GlacierCampModel$State", "bridge", "[I", true)
  | 12 => ("GlacierCampModel$State", "known", "[I", true)
  | 13 => ("GlacierCampModel$State", "probed", "[I", true)
  | 14 => ("GlacierCampModel$State", "crossed", "[I", true)
  | 15 => ("GlacierCampModel$State", "fell", "[I", true)
  | 16 => ("GlacierCampModel$State", "food", "[I", true)
  | 17 => ("GlacierCampModel$State", "sack", "[I", true)
  | 18 => ("GlacierCampModel$State", "place", "[I", true)
  | 19 => ("GlacierCampModel$State", "hungry", "[I", true)
  | 20 => ("GlacierCampModel$State", "here", "[I", true)
  | 21 => ("GlacierCampModel$State", "made", "[I", true)
  | 22 => ("GlacierCampModel$State", "fallen", "[I", true)
  | _ => ("GlacierCampModel$State", "done", "[I", true)
def ty_State : Nat → FieldType := fun k => match k with
  | 0 => .int
  | 1 => .int
  | 2 => .int
  | 3 => .int
  | 4 => (.array .int)
  | 5 => (.array .int)
  | 6 => (.array .int)
  | 7 => (.array .int)
  | 8 => (.array .int)
  | 9 => (.array .int)
  | 10 => (.array .int)
  | 11 => (.array .int)
  | 12 => (.array .int)
  | 13 => (.array .int)
  | 14 => (.array .int)
  | 15 => (.array .int)
  | 16 => (.array .int)
  | 17 => (.array .int)
  | 18 => (.array .int)
  | 19 => (.array .int)
  | 20 => (.array .int)
  | 21 => (.array .int)
  | 22 => (.array .int)
  | _ => (.array .int)
theorem nm_State : ∀ a, a < 24 → ∀ b, b < 24 → a ≠ b → (T_State a).2.1 ≠ (T_State b).2.1 := by decide +kernel
theorem ty_State_ok : ∀ k, k < 24 → parseFieldDescriptor (T_State k).2.2.1 = some (ty_State k) := by decide +kernel
def R_Model : String := "GlacierCampModel"
def T_Model : u_T := fun k => match k with
  | 0 => ("GlacierCampModel", "thrown", "I", false)
  | 1 => ("GlacierCampModel", "tape", "[I", true)
  | 2 => ("GlacierCampModel", "size", "I", false)
  | 3 => ("GlacierCampModel", "errorAt", "I", false)
  | 4 => ("GlacierCampModel", "token", "I", false)
  | 5 => ("GlacierCampModel", "depth", "I", false)
  | 6 => ("GlacierCampModel", "sheet", "LGlacierCampModel$Sheet;", false)
  | 7 => ("GlacierCampModel", "s", "LGlacierCampModel$State;", true)
  | 8 => ("GlacierCampModel", "ahead", "LGlacierCampModel$State;", true)
  | 9 => ("GlacierCampModel", "walk", "I", false)
  | _ => ("GlacierCampModel", "on", "LGlacierCampModel$State;", false)
def ty_Model : Nat → FieldType := fun k => match k with
  | 0 => .int
  | 1 => (.array .int)
  | 2 => .int
  | 3 => .int
  | 4 => .int
  | 5 => .int
  | 6 => (.object "GlacierCampModel$Sheet")
  | 7 => (.object "GlacierCampModel$State")
  | 8 => (.object "GlacierCampModel$State")
  | 9 => .int
  | _ => (.object "GlacierCampModel$State")
theorem nm_Model : ∀ a, a < 11 → ∀ b, b < 11 → a ≠ b → (T_Model a).2.1 ≠ (T_Model b).2.1 := by decide +kernel
theorem ty_Model_ok : ∀ k, k < 11 → parseFieldDescriptor (T_Model k).2.2.1 = some (ty_Model k) := by decide +kernel
abbrev ci_Formulas : Nat := 0
abbrev ci_Glacier : Nat := 1
abbrev ci_Names : Nat := 2
abbrev ci_Orders : Nat := 3
abbrev ci_Table : Nat := 4
abbrev ci_Tape : Nat := 5
abbrev ci_Teacher : Nat := 6
abbrev ci_Tokens : Nat := 7
abbrev ci_Camp : Nat := 8
abbrev ci_Sheet : Nat := 9
abbrev ci_State : Nat := 10
abbrev ci_Model : Nat := 11
abbrev vwCl : List vw_C := [(R_Formulas, T_Formulas, 5), (R_Glacier, T_Glacier, 8), (R_Names, T_Names, 2), (R_Orders, T_Orders, 2), (R_Table, T_Table, 2), (R_Tape, T_Tape, 2), (R_Teacher, T_Teacher, 11), (R_Tokens, T_Tokens, 9), (R_Camp, T_Camp, 7), (R_Sheet, T_Sheet, 26), (R_State, T_State, 24), (R_Model, T_Model, 11)]
def gw : List Cond := lw_tbl.filter goodWord
def nwOk : Cond → Bool
  | .fieldLinkNest .. => true
  | .methodLinkNest .. => true
  | .castable .. => true
  | .declares _ => true
  | _ => false
def nw : List Cond := tables_1.filter nwOk
theorem gm_t {w : Cond} (h : w ∈ tables_1) (g : goodWord w = true) : w ∈ gw := List.mem_filter.mpr ⟨List.mem_append_right _ h, g⟩
theorem gt_1 {w : Cond} (h : w ∈ tables_1_1) : w ∈ tables_1 := List.mem_append_left _ h
theorem gm_1 {w : Cond} (h : w ∈ tables_1_1) (g : goodWord w = true) : w ∈ gw := gm_t (gt_1 h) g
theorem gn_1 {w : Cond} (h : w ∈ tables_1_1) (g : nwOk w = true) : w ∈ nw := List.mem_filter.mpr ⟨gt_1 h, g⟩
theorem gt_2 {w : Cond} (h : w ∈ tables_1_2) : w ∈ tables_1 := List.mem_append_right _ (List.mem_append_left _ h)
theorem gm_2 {w : Cond} (h : w ∈ tables_1_2) (g : goodWord w = true) : w ∈ gw := gm_t (gt_2 h) g
theorem gn_2 {w : Cond} (h : w ∈ tables_1_2) (g : nwOk w = true) : w ∈ nw := List.mem_filter.mpr ⟨gt_2 h, g⟩
theorem gt_3 {w : Cond} (h : w ∈ tables_1_3) : w ∈ tables_1 := List.mem_append_right _ (List.mem_append_right _ (List.mem_append_left _ h))
theorem gm_3 {w : Cond} (h : w ∈ tables_1_3) (g : goodWord w = true) : w ∈ gw := gm_t (gt_3 h) g
theorem gn_3 {w : Cond} (h : w ∈ tables_1_3) (g : nwOk w = true) : w ∈ nw := List.mem_filter.mpr ⟨gt_3 h, g⟩
theorem gt_4 {w : Cond} (h : w ∈ tables_1_4) : w ∈ tables_1 := List.mem_append_right _ (List.mem_append_right _ (List.mem_append_right _ (List.mem_append_left _ h)))
theorem gm_4 {w : Cond} (h : w ∈ tables_1_4) (g : goodWord w = true) : w ∈ gw := gm_t (gt_4 h) g
theorem gn_4 {w : Cond} (h : w ∈ tables_1_4) (g : nwOk w = true) : w ∈ nw := List.mem_filter.mpr ⟨gt_4 h, g⟩
theorem gt_5 {w : Cond} (h : w ∈ tables_1_5) : w ∈ tables_1 := List.mem_append_right _ (List.mem_append_right _ (List.mem_append_right _ (List.mem_append_right _ (List.mem_append_left _ h))))
theorem gm_5 {w : Cond} (h : w ∈ tables_1_5) (g : goodWord w = true) : w ∈ gw := gm_t (gt_5 h) g
theorem gn_5 {w : Cond} (h : w ∈ tables_1_5) (g : nwOk w = true) : w ∈ nw := List.mem_filter.mpr ⟨gt_5 h, g⟩
theorem gt_6 {w : Cond} (h : w ∈ tables_1_6) : w ∈ tables_1 := List.mem_append_right _ (List.mem_append_right _ (List.mem_append_right _ (List.mem_append_right _ (List.mem_append_right _ (List.mem_append_left _ h)))))
theorem gm_6 {w : Cond} (h : w ∈ tables_1_6) (g : goodWord w = true) : w ∈ gw := gm_t (gt_6 h) g
theorem gn_6 {w : Cond} (h : w ∈ tables_1_6) (g : nwOk w = true) : w ∈ nw := List.mem_filter.mpr ⟨gt_6 h, g⟩
theorem gt_7 {w : Cond} (h : w ∈ tables_1_7) : w ∈ tables_1 := List.mem_append_right _ (List.mem_append_right _ (List.mem_append_right _ (List.mem_append_right _ (List.mem_append_right _ (List.mem_append_right _ (List.mem_append_left _ h))))))
theorem gm_7 {w : Cond} (h : w ∈ tables_1_7) (g : goodWord w = true) : w ∈ gw := gm_t (gt_7 h) g
theorem gn_7 {w : Cond} (h : w ∈ tables_1_7) (g : nwOk w = true) : w ∈ nw := List.mem_filter.mpr ⟨gt_7 h, g⟩
theorem gt_8 {w : Cond} (h : w ∈ tables_1_8) : w ∈ tables_1 := List.mem_append_right _ (List.mem_append_right _ (List.mem_append_right _ (List.mem_append_right _ (List.mem_append_right _ (List.mem_append_right _ (List.mem_append_right _ (List.mem_append_left _ h)))))))
theorem gm_8 {w : Cond} (h : w ∈ tables_1_8) (g : goodWord w = true) : w ∈ gw := gm_t (gt_8 h) g
theorem gn_8 {w : Cond} (h : w ∈ tables_1_8) (g : nwOk w = true) : w ∈ nw := List.mem_filter.mpr ⟨gt_8 h, g⟩
theorem gt_9 {w : Cond} (h : w ∈ tables_1_9) : w ∈ tables_1 := List.mem_append_right _ (List.mem_append_right _ (List.mem_append_right _ (List.mem_append_right _ (List.mem_append_right _ (List.mem_append_right _ (List.mem_append_right _ (List.mem_append_right _ (h))))))))
theorem gm_9 {w : Cond} (h : w ∈ tables_1_9) (g : goodWord w = true) : w ∈ gw := gm_t (gt_9 h) g
theorem gn_9 {w : Cond} (h : w ∈ tables_1_9) (g : nwOk w = true) : w ∈ nw := List.mem_filter.mpr ⟨gt_9 h, g⟩
theorem gp_t {q : MethodName × Nat} (h : q ∈ lw_privs) : Cond.selects q.1.cls q.1 q.1 ∈ gw := List.mem_filter.mpr ⟨List.mem_append_left _ (List.mem_map.mpr ⟨q, h, rfl⟩), rfl⟩
theorem gp_1 {q : MethodName × Nat} (h : q ∈ lw_privs_1) : Cond.selects q.1.cls q.1 q.1 ∈ gw := gp_t (List.mem_append_left _ h)
theorem gp_2 {q : MethodName × Nat} (h : q ∈ lw_privs_2) : Cond.selects q.1.cls q.1 q.1 ∈ gw := gp_t (List.mem_append_right _ (List.mem_append_left _ h))
theorem gp_3 {q : MethodName × Nat} (h : q ∈ lw_privs_3) : Cond.selects q.1.cls q.1 q.1 ∈ gw := gp_t (List.mem_append_right _ (List.mem_append_right _ (List.mem_append_left _ h)))
theorem gp_4 {q : MethodName × Nat} (h : q ∈ lw_privs_4) : Cond.selects q.1.cls q.1 q.1 ∈ gw := gp_t (List.mem_append_right _ (List.mem_append_right _ (List.mem_append_right _ (List.mem_append_left _ h))))
theorem gp_5 {q : MethodName × Nat} (h : q ∈ lw_privs_5) : Cond.selects q.1.cls q.1 q.1 ∈ gw := gp_t (List.mem_append_right _ (List.mem_append_right _ (List.mem_append_right _ (List.mem_append_right _ (List.mem_append_left _ h)))))
theorem gp_6 {q : MethodName × Nat} (h : q ∈ lw_privs_6) : Cond.selects q.1.cls q.1 q.1 ∈ gw := gp_t (List.mem_append_right _ (List.mem_append_right _ (List.mem_append_right _ (List.mem_append_right _ (List.mem_append_right _ (List.mem_append_left _ h))))))
theorem gp_7 {q : MethodName × Nat} (h : q ∈ lw_privs_7) : Cond.selects q.1.cls q.1 q.1 ∈ gw := gp_t (List.mem_append_right _ (List.mem_append_right _ (List.mem_append_right _ (List.mem_append_right _ (List.mem_append_right _ (List.mem_append_right _ (h)))))))
abbrev MI : Type := MethodName × ByteArray × Nat × Option FieldType × List (Nat × Nat × Nat × Nat)
def mi_w (M : MI) : Cond := match M.2.2.2.2 with
  | [] => .code M.1 M.2.1 M.2.2.1 M.2.2.2.1
  | x :: t => .codeWith M.1 M.2.1 M.2.2.1 M.2.2.2.1 (x :: t)
def OkI (M : MI) (n : Nat) : Prop := mi_w M ∈ gw ∧ Cond.initialized M.1.cls ∈ gw ∧ M.1.cls ≠ "java/lang/invoke/MethodHandle" ∧ M.1.cls ≠ "java/lang/invoke/VarHandle" ∧ (parseMethodDescriptor M.1.desc).map (fun d => d.parameters.length) = some n
def OkV (M : MI) (n : Nat) : Prop := OkI M n ∧ M.2.2.2.2 = [] ∧ Cond.instanceMethod M.1 ∈ gw ∧ Cond.selects M.1.cls M.1 M.1 ∈ gw
def OkS (M : MI) (n : Nat) : Prop := OkI M n ∧ Cond.static M.1 ∈ gw
def OkN (M : MI) (n : Nat) : Prop := OkI M n ∧ M.2.2.2.2 = [] ∧ M.2.2.2.1 = none ∧ M.1.name = "<init>" ∧ Cond.instanceMethod M.1 ∈ gw
abbrev M_Camp_init : MI := (⟨"GlacierCamp", "<init>", "()V"⟩, prog_1_method_1_code, 1, (Option.none : Option Jvm.ClassFile.FieldType), [])
abbrev M_Camp_advise : MI := (⟨"GlacierCamp", "advise", "(II)I"⟩, prog_1_method_27_code, 7, (Option.some Jvm.ClassFile.FieldType.int), [])
abbrev M_Camp_band : MI := (⟨"GlacierCamp", "band", "(II)I"⟩, prog_1_method_9_code, 3, (Option.some Jvm.ClassFile.FieldType.int), [])
abbrev M_Camp_count : MI := (⟨"GlacierCamp", "count", "(I)I"⟩, prog_1_method_7_code, 2, (Option.some Jvm.ClassFile.FieldType.int), [])
abbrev M_Camp_counted : MI := (⟨"GlacierCamp", "counted", "(I)I"⟩, prog_1_method_8_code, 2, (Option.some Jvm.ClassFile.FieldType.int), [])
abbrev M_Camp_crevasse : MI := (⟨"GlacierCamp", "crevasse", "(II)I"⟩, prog_1_method_11_code, 3, (Option.some Jvm.ClassFile.FieldType.int), [])
abbrev M_Camp_depot : MI := (⟨"GlacierCamp", "depot", "(II)I"⟩, prog_1_method_12_code, 3, (Option.some Jvm.ClassFile.FieldType.int), [])
abbrev M_Camp_digest : MI := (⟨"GlacierCamp", "digest", "()J"⟩, prog_1_method_29_code, 5, (Option.some Jvm.ClassFile.FieldType.long), [])
abbrev M_Camp_digestOf : MI := (⟨"GlacierCamp", "digestOf", "(LGlacierCamp$Table;IJ)J"⟩, prog_1_method_30_code, 8, (Option.some Jvm.ClassFile.FieldType.long), [])
abbrev M_Camp_errorAt : MI := (⟨"GlacierCamp", "errorAt", "()I"⟩, prog_1_method_6_code, 1, (Option.some Jvm.ClassFile.FieldType.int), [])
abbrev M_Camp_feed : MI := (⟨"GlacierCamp", "feed", "(IIIII)I"⟩, prog_1_method_2_code, 6, (Option.some Jvm.ClassFile.FieldType.int), [])
abbrev M_Camp_fill : MI := (⟨"GlacierCamp", "fill", "(II)I"⟩, prog_1_method_19_code, 4, (Option.some Jvm.ClassFile.FieldType.int), [])
abbrev M_Camp_foresee : MI := (⟨"GlacierCamp", "foresee", "(II)I"⟩, prog_1_method_25_code, 4, (Option.some Jvm.ClassFile.FieldType.int), [])
abbrev M_Camp_go : MI := (⟨"GlacierCamp", "go", "(IZ)I"⟩, prog_1_method_17_code, 3, (Option.some Jvm.ClassFile.FieldType.int), [])
abbrev M_Camp_mean : MI := (⟨"GlacierCamp", "mean", "()D"⟩, prog_1_method_28_code, 2, (Option.some Jvm.ClassFile.FieldType.double), [])
abbrev M_Camp_melt : MI := (⟨"GlacierCamp", "melt", "(II)I"⟩, prog_1_method_23_code, 6, (Option.some Jvm.ClassFile.FieldType.int), [])
abbrev M_Camp_needRange : MI := (⟨"GlacierCamp", "needRange", "(III)V"⟩, prog_1_method_16_code, 3, (Option.none : Option Jvm.ClassFile.FieldType), [])
abbrev M_Camp_needRow : MI := (⟨"GlacierCamp", "needRow", "(LGlacierCamp$Table;I)V"⟩, prog_1_method_14_code, 2, (Option.none : Option Jvm.ClassFile.FieldType), [])
abbrev M_Camp_needWhat : MI := (⟨"GlacierCamp", "needWhat", "(II)V"⟩, prog_1_method_15_code, 2, (Option.none : Option Jvm.ClassFile.FieldType), [])
abbrev M_Camp_pass : MI := (⟨"GlacierCamp", "pass", "(I)I"⟩, prog_1_method_22_code, 4, (Option.some Jvm.ClassFile.FieldType.int), [])
abbrev M_Camp_probe : MI := (⟨"GlacierCamp", "probe", "(II)I"⟩, prog_1_method_18_code, 3, (Option.some Jvm.ClassFile.FieldType.int), [])
abbrev M_Camp_safe : MI := (⟨"GlacierCamp", "safe", "(IZ)Z"⟩, prog_1_method_26_code, 3, (Option.some Jvm.ClassFile.FieldType.boolean), [])
abbrev M_Camp_setWarm : MI := (⟨"GlacierCamp", "setWarm", "(II)I"⟩, prog_1_method_21_code, 4, (Option.some Jvm.ClassFile.FieldType.int), [])
abbrev M_Camp_stake : MI := (⟨"GlacierCamp", "stake", "(II)I"⟩, prog_1_method_10_code, 3, (Option.some Jvm.ClassFile.FieldType.int), [])
abbrev M_Camp_stock : MI := (⟨"GlacierCamp", "stock", "(II)I"⟩, prog_1_method_20_code, 4, (Option.some Jvm.ClassFile.FieldType.int), [])
abbrev M_Camp_takeOverDraft : MI := (⟨"GlacierCamp", "takeOverDraft", "()V"⟩, prog_1_method_5_code, 3, (Option.none : Option Jvm.ClassFile.FieldType), [])
abbrev M_Camp_teach : MI := (⟨"GlacierCamp", "teach", "()I"⟩, prog_1_method_4_code, 2, (Option.some Jvm.ClassFile.FieldType.int), [])
abbrev M_Camp_team : MI := (⟨"GlacierCamp", "team", "(II)I"⟩, prog_1_method_13_code, 3, (Option.some Jvm.ClassFile.FieldType.int), [])
abbrev M_Camp_trim : MI := (⟨"GlacierCamp", "trim", "(I)I"⟩, prog_1_method_3_code, 2, (Option.some Jvm.ClassFile.FieldType.int), [])
abbrev M_Camp_until : MI := (⟨"GlacierCamp", "until", "(I)I"⟩, prog_1_method_24_code, 3, (Option.some Jvm.ClassFile.FieldType.int), [])
abbrev M_Formulas_init : MI := (⟨"GlacierCamp$Formulas", "<init>", "()V"⟩, prog_3_method_1_code, 1, (Option.none : Option Jvm.ClassFile.FieldType), [])
abbrev M_Formulas_clear : MI := (⟨"GlacierCamp$Formulas", "clear", "()V"⟩, prog_3_method_3_code, 1, (Option.none : Option Jvm.ClassFile.FieldType), [])
abbrev M_Formulas_joined : MI := (⟨"GlacierCamp$Formulas", "joined", "(LGlacierCamp$Sign;II)I"⟩, prog_3_method_8_code, 3, (Option.some Jvm.ClassFile.FieldType.int), [])
abbrev M_Formulas_pop : MI := (⟨"GlacierCamp$Formulas", "pop", "()I"⟩, prog_3_method_7_code, 1, (Option.some Jvm.ClassFile.FieldType.int), [])
abbrev M_Formulas_push : MI := (⟨"GlacierCamp$Formulas", "push", "(I)V"⟩, prog_3_method_6_code, 2, (Option.none : Option Jvm.ClassFile.FieldType), [])
abbrev M_Formulas_put : MI := (⟨"GlacierCamp$Formulas", "put", "(LGlacierCamp$Sign;I)V"⟩, prog_3_method_4_code, 3, (Option.none : Option Jvm.ClassFile.FieldType), [])
abbrev M_Formulas_size : MI := (⟨"GlacierCamp$Formulas", "size", "()I"⟩, prog_3_method_2_code, 1, (Option.some Jvm.ClassFile.FieldType.int), [])
abbrev M_Formulas_worth : MI := (⟨"GlacierCamp$Formulas", "worth", "(IILGlacierCamp$Glacier;)I"⟩, prog_3_method_5_code, 7, (Option.some Jvm.ClassFile.FieldType.int), [])
abbrev M_Glacier_init : MI := (⟨"GlacierCamp$Glacier", "<init>", "()V"⟩, prog_4_method_1_code, 1, (Option.none : Option Jvm.ClassFile.FieldType), [])
abbrev M_Glacier_addBand : MI := (⟨"GlacierCamp$Glacier", "addBand", "(II)V"⟩, prog_4_method_4_code, 4, (Option.none : Option Jvm.ClassFile.FieldType), [])
abbrev M_Glacier_addCrevasse : MI := (⟨"GlacierCamp$Glacier", "addCrevasse", "(II)V"⟩, prog_4_method_6_code, 4, (Option.none : Option Jvm.ClassFile.FieldType), [])
abbrev M_Glacier_addDepot : MI := (⟨"GlacierCamp$Glacier", "addDepot", "(II)V"⟩, prog_4_method_7_code, 4, (Option.none : Option Jvm.ClassFile.FieldType), [])
abbrev M_Glacier_addStake : MI := (⟨"GlacierCamp$Glacier", "addStake", "(II)V"⟩, prog_4_method_5_code, 4, (Option.none : Option Jvm.ClassFile.FieldType), [])
abbrev M_Glacier_addTeam : MI := (⟨"GlacierCamp$Glacier", "addTeam", "(III)V"⟩, prog_4_method_8_code, 5, (Option.none : Option Jvm.ClassFile.FieldType), [])
abbrev M_Glacier_bandFact : MI := (⟨"GlacierCamp$Glacier", "bandFact", "(II)I"⟩, prog_4_method_14_code, 3, (Option.some Jvm.ClassFile.FieldType.int), [])
abbrev M_Glacier_become : MI := (⟨"GlacierCamp$Glacier", "become", "(LGlacierCamp$Glacier;)V"⟩, prog_4_method_3_code, 3, (Option.none : Option Jvm.ClassFile.FieldType), [])
abbrev M_Glacier_beginAnew : MI := (⟨"GlacierCamp$Glacier", "beginAnew", "(I)V"⟩, prog_4_method_2_code, 3, (Option.none : Option Jvm.ClassFile.FieldType), [])
abbrev M_Glacier_canDo : MI := (⟨"GlacierCamp$Glacier", "canDo", "(I)Z"⟩, prog_4_method_18_code, 2, (Option.some Jvm.ClassFile.FieldType.boolean), [])
abbrev M_Glacier_canGo : MI := (⟨"GlacierCamp$Glacier", "canGo", "(IZ)Z"⟩, prog_4_method_19_code, 5, (Option.some Jvm.ClassFile.FieldType.boolean), [])
abbrev M_Glacier_changeWarmth : MI := (⟨"GlacierCamp$Glacier", "changeWarmth", "(II)V"⟩, prog_4_method_12_code, 3, (Option.none : Option Jvm.ClassFile.FieldType), [])
abbrev M_Glacier_crevasseFact : MI := (⟨"GlacierCamp$Glacier", "crevasseFact", "(II)I"⟩, prog_4_method_15_code, 4, (Option.some Jvm.ClassFile.FieldType.int), [])
abbrev M_Glacier_day : MI := (⟨"GlacierCamp$Glacier", "day", "()I"⟩, prog_4_method_9_code, 1, (Option.some Jvm.ClassFile.FieldType.int), [])
abbrev M_Glacier_eat : MI := (⟨"GlacierCamp$Glacier", "eat", "(I)V"⟩, prog_4_method_33_code, 5, (Option.none : Option Jvm.ClassFile.FieldType), [])
abbrev M_Glacier_endDay : MI := (⟨"GlacierCamp$Glacier", "endDay", "()V"⟩, prog_4_method_35_code, 2, (Option.none : Option Jvm.ClassFile.FieldType), [])
abbrev M_Glacier_fallingPlace : MI := (⟨"GlacierCamp$Glacier", "fallingPlace", "(IZ)I"⟩, prog_4_method_21_code, 6, (Option.some Jvm.ClassFile.FieldType.int), [])
abbrev M_Glacier_firstStore : MI := (⟨"GlacierCamp$Glacier", "firstStore", "(I)I"⟩, prog_4_method_27_code, 3, (Option.some Jvm.ClassFile.FieldType.int), [])
abbrev M_Glacier_isHere : MI := (⟨"GlacierCamp$Glacier", "isHere", "(I)Z"⟩, prog_4_method_17_code, 2, (Option.some Jvm.ClassFile.FieldType.boolean), [])
abbrev M_Glacier_isTooWeak : MI := (⟨"GlacierCamp$Glacier", "isTooWeak", "(IIZ)Z"⟩, prog_4_method_20_code, 5, (Option.some Jvm.ClassFile.FieldType.boolean), [])
abbrev M_Glacier_letCross : MI := (⟨"GlacierCamp$Glacier", "letCross", "(IZ)V"⟩, prog_4_method_24_code, 5, (Option.none : Option Jvm.ClassFile.FieldType), [])
abbrev M_Glacier_letFall : MI := (⟨"GlacierCamp$Glacier", "letFall", "(II)V"⟩, prog_4_method_23_code, 3, (Option.none : Option Jvm.ClassFile.FieldType), [])
abbrev M_Glacier_moveBridges : MI := (⟨"GlacierCamp$Glacier", "moveBridges", "(II)V"⟩, prog_4_method_32_code, 5, (Option.none : Option Jvm.ClassFile.FieldType), [])
abbrev M_Glacier_moveStakes : MI := (⟨"GlacierCamp$Glacier", "moveStakes", "(II)V"⟩, prog_4_method_31_code, 5, (Option.none : Option Jvm.ClassFile.FieldType), [])
abbrev M_Glacier_passDay : MI := (⟨"GlacierCamp$Glacier", "passDay", "(LGlacierCamp$Orders;)V"⟩, prog_4_method_29_code, 3, (Option.none : Option Jvm.ClassFile.FieldType), [])
abbrev M_Glacier_readStakes : MI := (⟨"GlacierCamp$Glacier", "readStakes", "(I)V"⟩, prog_4_method_34_code, 4, (Option.none : Option Jvm.ClassFile.FieldType), [])
abbrev M_Glacier_takeFood : MI := (⟨"GlacierCamp$Glacier", "takeFood", "(II)I"⟩, prog_4_method_26_code, 6, (Option.some Jvm.ClassFile.FieldType.int), [])
abbrev M_Glacier_total : MI := (⟨"GlacierCamp$Glacier", "total", "(I)I"⟩, prog_4_method_13_code, 2, (Option.some Jvm.ClassFile.FieldType.int), [])
abbrev M_Glacier_tryDrill : MI := (⟨"GlacierCamp$Glacier", "tryDrill", "(I)Z"⟩, prog_4_method_28_code, 4, (Option.some Jvm.ClassFile.FieldType.boolean), [])
abbrev M_Glacier_tryGo : MI := (⟨"GlacierCamp$Glacier", "tryGo", "(IZ)Z"⟩, prog_4_method_22_code, 4, (Option.some Jvm.ClassFile.FieldType.boolean), [])
abbrev M_Glacier_tryProbe : MI := (⟨"GlacierCamp$Glacier", "tryProbe", "(II)Z"⟩, prog_4_method_25_code, 4, (Option.some Jvm.ClassFile.FieldType.boolean), [])
abbrev M_Glacier_valueOf : MI := (⟨"GlacierCamp$Glacier", "valueOf", "(LGlacierCamp$Sign;I)I"⟩, prog_4_method_16_code, 3, (Option.some Jvm.ClassFile.FieldType.int), [])
abbrev M_Glacier_warmthOf : MI := (⟨"GlacierCamp$Glacier", "warmthOf", "(I)I"⟩, prog_4_method_10_code, 2, (Option.some Jvm.ClassFile.FieldType.int), [])
abbrev M_Glacier_warmthToday : MI := (⟨"GlacierCamp$Glacier", "warmthToday", "()I"⟩, prog_4_method_11_code, 1, (Option.some Jvm.ClassFile.FieldType.int), [])
abbrev M_Glacier_weather : MI := (⟨"GlacierCamp$Glacier", "weather", "(I)V"⟩, prog_4_method_30_code, 6, (Option.none : Option Jvm.ClassFile.FieldType), [])
abbrev M_Names_init : MI := (⟨"GlacierCamp$Names", "<init>", "()V"⟩, prog_5_method_1_code, 1, (Option.none : Option Jvm.ClassFile.FieldType), [])
abbrev M_Names_add : MI := (⟨"GlacierCamp$Names", "add", "(J)V"⟩, prog_5_method_4_code, 3, (Option.none : Option Jvm.ClassFile.FieldType), [])
abbrev M_Names_find : MI := (⟨"GlacierCamp$Names", "find", "(J)I"⟩, prog_5_method_3_code, 4, (Option.some Jvm.ClassFile.FieldType.int), [])
abbrev M_Names_size : MI := (⟨"GlacierCamp$Names", "size", "()I"⟩, prog_5_method_2_code, 1, (Option.some Jvm.ClassFile.FieldType.int), [])
abbrev M_Orders_init : MI := (⟨"GlacierCamp$Orders", "<init>", "()V"⟩, prog_6_method_1_code, 1, (Option.none : Option Jvm.ClassFile.FieldType), [])
abbrev M_Orders_add : MI := (⟨"GlacierCamp$Orders", "add", "(I)Z"⟩, prog_6_method_4_code, 3, (Option.some Jvm.ClassFile.FieldType.boolean), [])
abbrev M_Orders_carryOut : MI := (⟨"GlacierCamp$Orders", "carryOut", "(ILGlacierCamp$Glacier;)Z"⟩, prog_6_method_6_code, 8, (Option.some Jvm.ClassFile.FieldType.boolean), [])
abbrev M_Orders_clear : MI := (⟨"GlacierCamp$Orders", "clear", "()V"⟩, prog_6_method_3_code, 1, (Option.none : Option Jvm.ClassFile.FieldType), [])
abbrev M_Orders_note : MI := (⟨"GlacierCamp$Orders", "note", "(II)V"⟩, prog_6_method_5_code, 3, (Option.none : Option Jvm.ClassFile.FieldType), [])
abbrev M_Orders_size : MI := (⟨"GlacierCamp$Orders", "size", "()I"⟩, prog_6_method_2_code, 1, (Option.some Jvm.ClassFile.FieldType.int), [])
abbrev M_Table_init : MI := (⟨"GlacierCamp$Table", "<init>", "(I)V"⟩, prog_8_method_1_code, 2, (Option.none : Option Jvm.ClassFile.FieldType), [])
abbrev M_Table_add : MI := (⟨"GlacierCamp$Table", "add", "(III)V"⟩, prog_8_method_8_code, 5, (Option.none : Option Jvm.ClassFile.FieldType), [])
abbrev M_Table_addRow : MI := (⟨"GlacierCamp$Table", "addRow", "()I"⟩, prog_8_method_5_code, 3, (Option.some Jvm.ClassFile.FieldType.int), [])
abbrev M_Table_become : MI := (⟨"GlacierCamp$Table", "become", "(LGlacierCamp$Table;)V"⟩, prog_8_method_11_code, 3, (Option.none : Option Jvm.ClassFile.FieldType), [])
abbrev M_Table_clear : MI := (⟨"GlacierCamp$Table", "clear", "()V"⟩, prog_8_method_4_code, 1, (Option.none : Option Jvm.ClassFile.FieldType), [])
abbrev M_Table_get : MI := (⟨"GlacierCamp$Table", "get", "(II)I"⟩, prog_8_method_6_code, 4, (Option.some Jvm.ClassFile.FieldType.int), [])
abbrev M_Table_has : MI := (⟨"GlacierCamp$Table", "has", "(I)Z"⟩, prog_8_method_3_code, 2, (Option.some Jvm.ClassFile.FieldType.boolean), [])
abbrev M_Table_matches : MI := (⟨"GlacierCamp$Table", "matches", "(IIII)I"⟩, prog_8_method_10_code, 7, (Option.some Jvm.ClassFile.FieldType.int), [])
abbrev M_Table_rows : MI := (⟨"GlacierCamp$Table", "rows", "()I"⟩, prog_8_method_2_code, 1, (Option.some Jvm.ClassFile.FieldType.int), [])
abbrev M_Table_set : MI := (⟨"GlacierCamp$Table", "set", "(III)V"⟩, prog_8_method_7_code, 5, (Option.none : Option Jvm.ClassFile.FieldType), [])
abbrev M_Table_sum : MI := (⟨"GlacierCamp$Table", "sum", "(I)I"⟩, prog_8_method_9_code, 4, (Option.some Jvm.ClassFile.FieldType.int), [])
abbrev M_Tape_init : MI := (⟨"GlacierCamp$Tape", "<init>", "()V"⟩, prog_9_method_1_code, 1, (Option.none : Option Jvm.ClassFile.FieldType), [])
abbrev M_Tape_append : MI := (⟨"GlacierCamp$Tape", "append", "(I)V"⟩, prog_9_method_3_code, 3, (Option.none : Option Jvm.ClassFile.FieldType), [])
abbrev M_Tape_byteAt : MI := (⟨"GlacierCamp$Tape", "byteAt", "(I)I"⟩, prog_9_method_5_code, 2, (Option.some Jvm.ClassFile.FieldType.int), [])
abbrev M_Tape_cut : MI := (⟨"GlacierCamp$Tape", "cut", "(I)V"⟩, prog_9_method_4_code, 2, (Option.none : Option Jvm.ClassFile.FieldType), [])
abbrev M_Tape_size : MI := (⟨"GlacierCamp$Tape", "size", "()I"⟩, prog_9_method_2_code, 1, (Option.some Jvm.ClassFile.FieldType.int), [])
abbrev M_Teacher_init : MI := (⟨"GlacierCamp$Teacher", "<init>", "(LGlacierCamp$Tokens;LGlacierCamp$Glacier;LGlacierCamp$Orders;)V"⟩, prog_10_method_1_code, 4, (Option.none : Option Jvm.ClassFile.FieldType), [])
abbrev M_Teacher_error : MI := (⟨"GlacierCamp$Teacher", "error", "()I"⟩, prog_10_method_2_code, 1, (Option.some Jvm.ClassFile.FieldType.int), [])
abbrev M_Teacher_errorPosition : MI := (⟨"GlacierCamp$Teacher", "errorPosition", "()I"⟩, prog_10_method_3_code, 1, (Option.some Jvm.ClassFile.FieldType.int), [])
abbrev M_Teacher_goesDeeper : MI := (⟨"GlacierCamp$Teacher", "goesDeeper", "(I)Z"⟩, prog_10_method_24_code, 2, (Option.some Jvm.ClassFile.FieldType.boolean), [])
abbrev M_Teacher_isComparison : MI := (⟨"GlacierCamp$Teacher", "isComparison", "(LGlacierCamp$Sign;)Z"⟩, prog_10_method_19_code, 1, (Option.some Jvm.ClassFile.FieldType.boolean), [])
abbrev M_Teacher_newName : MI := (⟨"GlacierCamp$Teacher", "newName", "(LGlacierCamp$Names;I)V"⟩, prog_10_method_25_code, 3, (Option.none : Option Jvm.ClassFile.FieldType), [])
abbrev M_Teacher_newOrder : MI := (⟨"GlacierCamp$Teacher", "newOrder", "(I)V"⟩, prog_10_method_28_code, 2, (Option.none : Option Jvm.ClassFile.FieldType), [])
abbrev M_Teacher_number : MI := (⟨"GlacierCamp$Teacher", "number", "(LGlacierCamp$Sign;II)I"⟩, prog_10_method_27_code, 5, (Option.some Jvm.ClassFile.FieldType.int), [])
abbrev M_Teacher_oldName : MI := (⟨"GlacierCamp$Teacher", "oldName", "(LGlacierCamp$Sign;LGlacierCamp$Names;)I"⟩, prog_10_method_26_code, 4, (Option.some Jvm.ClassFile.FieldType.int), [])
abbrev M_Teacher_readBand : MI := (⟨"GlacierCamp$Teacher", "readBand", "()V"⟩, prog_10_method_5_code, 4, (Option.none : Option Jvm.ClassFile.FieldType), [])
abbrev M_Teacher_readBoth : MI := (⟨"GlacierCamp$Teacher", "readBoth", "(I)V"⟩, prog_10_method_17_code, 3, (Option.none : Option Jvm.ClassFile.FieldType), [])
abbrev M_Teacher_readCrevasse : MI := (⟨"GlacierCamp$Teacher", "readCrevasse", "()V"⟩, prog_10_method_7_code, 2, (Option.none : Option Jvm.ClassFile.FieldType), [])
abbrev M_Teacher_readDay : MI := (⟨"GlacierCamp$Teacher", "readDay", "()V"⟩, prog_10_method_10_code, 2, (Option.none : Option Jvm.ClassFile.FieldType), [])
abbrev M_Teacher_readDepot : MI := (⟨"GlacierCamp$Teacher", "readDepot", "()V"⟩, prog_10_method_8_code, 2, (Option.none : Option Jvm.ClassFile.FieldType), [])
abbrev M_Teacher_readDrill : MI := (⟨"GlacierCamp$Teacher", "readDrill", "()V"⟩, prog_10_method_14_code, 1, (Option.none : Option Jvm.ClassFile.FieldType), [])
abbrev M_Teacher_readFill : MI := (⟨"GlacierCamp$Teacher", "readFill", "()V"⟩, prog_10_method_13_code, 1, (Option.none : Option Jvm.ClassFile.FieldType), [])
abbrev M_Teacher_readGo : MI := (⟨"GlacierCamp$Teacher", "readGo", "(I)V"⟩, prog_10_method_11_code, 2, (Option.none : Option Jvm.ClassFile.FieldType), [])
abbrev M_Teacher_readList : MI := (⟨"GlacierCamp$Teacher", "readList", "()V"⟩, prog_10_method_4_code, 2, (Option.none : Option Jvm.ClassFile.FieldType), [])
abbrev M_Teacher_readNested : MI := (⟨"GlacierCamp$Teacher", "readNested", "(LGlacierCamp$Sign;I)V"⟩, prog_10_method_23_code, 3, (Option.none : Option Jvm.ClassFile.FieldType), [])
abbrev M_Teacher_readProbe : MI := (⟨"GlacierCamp$Teacher", "readProbe", "()V"⟩, prog_10_method_12_code, 1, (Option.none : Option Jvm.ClassFile.FieldType), [])
abbrev M_Teacher_readProduct : MI := (⟨"GlacierCamp$Teacher", "readProduct", "(I)V"⟩, prog_10_method_21_code, 4, (Option.none : Option Jvm.ClassFile.FieldType), [])
abbrev M_Teacher_readSingle : MI := (⟨"GlacierCamp$Teacher", "readSingle", "(I)V"⟩, prog_10_method_18_code, 3, (Option.none : Option Jvm.ClassFile.FieldType), [])
abbrev M_Teacher_readStake : MI := (⟨"GlacierCamp$Teacher", "readStake", "()V"⟩, prog_10_method_6_code, 2, (Option.none : Option Jvm.ClassFile.FieldType), [])
abbrev M_Teacher_readSum : MI := (⟨"GlacierCamp$Teacher", "readSum", "(I)V"⟩, prog_10_method_20_code, 4, (Option.none : Option Jvm.ClassFile.FieldType), [])
abbrev M_Teacher_readTeam : MI := (⟨"GlacierCamp$Teacher", "readTeam", "()V"⟩, prog_10_method_9_code, 3, (Option.none : Option Jvm.ClassFile.FieldType), [])
abbrev M_Teacher_readTest : MI := (⟨"GlacierCamp$Teacher", "readTest", "(I)V"⟩, prog_10_method_16_code, 3, (Option.none : Option Jvm.ClassFile.FieldType), [])
abbrev M_Teacher_readValue : MI := (⟨"GlacierCamp$Teacher", "readValue", "(I)V"⟩, prog_10_method_22_code, 3, (Option.none : Option Jvm.ClassFile.FieldType), [])
abbrev M_Teacher_readWhen : MI := (⟨"GlacierCamp$Teacher", "readWhen", "()V"⟩, prog_10_method_15_code, 1, (Option.none : Option Jvm.ClassFile.FieldType), [])
abbrev M_Teacher_tellError : MI := (⟨"GlacierCamp$Teacher", "tellError", "(I)V"⟩, prog_10_method_29_code, 2, (Option.none : Option Jvm.ClassFile.FieldType), [])
abbrev M_Tokens_init : MI := (⟨"GlacierCamp$Tokens", "<init>", "()V"⟩, prog_11_method_1_code, 1, (Option.none : Option Jvm.ClassFile.FieldType), [])
abbrev M_Tokens_advance : MI := (⟨"GlacierCamp$Tokens", "advance", "()V"⟩, prog_11_method_7_code, 3, (Option.none : Option Jvm.ClassFile.FieldType), [])
abbrev M_Tokens_breakOff : MI := (⟨"GlacierCamp$Tokens", "breakOff", "()V"⟩, prog_11_method_9_code, 1, (Option.none : Option Jvm.ClassFile.FieldType), [])
abbrev M_Tokens_brokenAt : MI := (⟨"GlacierCamp$Tokens", "brokenAt", "()I"⟩, prog_11_method_10_code, 1, (Option.some Jvm.ClassFile.FieldType.int), [])
abbrev M_Tokens_expect : MI := (⟨"GlacierCamp$Tokens", "expect", "(LGlacierCamp$Sign;)V"⟩, prog_11_method_8_code, 2, (Option.none : Option Jvm.ClassFile.FieldType), [])
abbrev M_Tokens_isDigit : MI := (⟨"GlacierCamp$Tokens", "isDigit", "(I)Z"⟩, prog_11_method_19_code, 1, (Option.some Jvm.ClassFile.FieldType.boolean), [])
abbrev M_Tokens_isLetter : MI := (⟨"GlacierCamp$Tokens", "isLetter", "(I)Z"⟩, prog_11_method_18_code, 1, (Option.some Jvm.ClassFile.FieldType.boolean), [])
abbrev M_Tokens_nameOf : MI := (⟨"GlacierCamp$Tokens", "nameOf", "(LGlacierCamp$Tape;II)J"⟩, prog_11_method_17_code, 7, (Option.some Jvm.ClassFile.FieldType.long), [])
abbrev M_Tokens_numberOf : MI := (⟨"GlacierCamp$Tokens", "numberOf", "(LGlacierCamp$Tape;II)J"⟩, prog_11_method_16_code, 6, (Option.some Jvm.ClassFile.FieldType.long), [])
abbrev M_Tokens_pastBlanks : MI := (⟨"GlacierCamp$Tokens", "pastBlanks", "(LGlacierCamp$Tape;I)I"⟩, prog_11_method_11_code, 3, (Option.some Jvm.ClassFile.FieldType.int), [])
abbrev M_Tokens_put : MI := (⟨"GlacierCamp$Tokens", "put", "(LGlacierCamp$Sign;IJ)V"⟩, prog_11_method_3_code, 5, (Option.none : Option Jvm.ClassFile.FieldType), [])
abbrev M_Tokens_readFrom : MI := (⟨"GlacierCamp$Tokens", "readFrom", "(LGlacierCamp$Tape;)V"⟩, prog_11_method_2_code, 6, (Option.none : Option Jvm.ClassFile.FieldType), [])
abbrev M_Tokens_reads : MI := (⟨"GlacierCamp$Tokens", "reads", "(LGlacierCamp$Tape;IILjava/lang/String;)Z"⟩, prog_11_method_14_code, 5, (Option.some Jvm.ClassFile.FieldType.boolean), [])
abbrev M_Tokens_sign : MI := (⟨"GlacierCamp$Tokens", "sign", "()LGlacierCamp$Sign;"⟩, prog_11_method_4_code, 1, (Option.some (Jvm.ClassFile.FieldType.object "GlacierCamp$Sign")), [])
abbrev M_Tokens_signOf : MI := (⟨"GlacierCamp$Tokens", "signOf", "(LGlacierCamp$Tape;II)LGlacierCamp$Sign;"⟩, prog_11_method_13_code, 8, (Option.some (Jvm.ClassFile.FieldType.object "GlacierCamp$Sign")), [])
abbrev M_Tokens_start : MI := (⟨"GlacierCamp$Tokens", "start", "()I"⟩, prog_11_method_5_code, 1, (Option.some Jvm.ClassFile.FieldType.int), [])
abbrev M_Tokens_tokenEnd : MI := (⟨"GlacierCamp$Tokens", "tokenEnd", "(LGlacierCamp$Tape;I)I"⟩, prog_11_method_12_code, 4, (Option.some Jvm.ClassFile.FieldType.int), [])
abbrev M_Tokens_worth : MI := (⟨"GlacierCamp$Tokens", "worth", "()J"⟩, prog_11_method_6_code, 1, (Option.some Jvm.ClassFile.FieldType.long), [])
abbrev M_Tokens_worthOf : MI := (⟨"GlacierCamp$Tokens", "worthOf", "(LGlacierCamp$Sign;LGlacierCamp$Tape;II)J"⟩, prog_11_method_15_code, 4, (Option.some Jvm.ClassFile.FieldType.long), [])
abbrev M_Law_advise : MI := (⟨"GlacierCampLaw", "advise", "(LGlacierCamp;II[J)I"⟩, method_21_code, 5, (Option.some Jvm.ClassFile.FieldType.int), [((0 : Nat), (10 : Nat), (13 : Nat), (24 : Nat)), ((0 : Nat), (10 : Nat), (17 : Nat), (19 : Nat)), ((0 : Nat), (10 : Nat), (21 : Nat), (13 : Nat))])
abbrev M_Law_band : MI := (⟨"GlacierCampLaw", "band", "(LGlacierCamp;II[J)I"⟩, method_6_code, 5, (Option.some Jvm.ClassFile.FieldType.int), [((0 : Nat), (10 : Nat), (13 : Nat), (24 : Nat))])
abbrev M_Law_count : MI := (⟨"GlacierCampLaw", "count", "(LGlacierCamp;I[J)I"⟩, method_5_code, 4, (Option.some Jvm.ClassFile.FieldType.int), [((0 : Nat), (9 : Nat), (12 : Nat), (24 : Nat))])
abbrev M_Law_crevasse : MI := (⟨"GlacierCampLaw", "crevasse", "(LGlacierCamp;II[J)I"⟩, method_8_code, 5, (Option.some Jvm.ClassFile.FieldType.int), [((0 : Nat), (10 : Nat), (13 : Nat), (24 : Nat))])
abbrev M_Law_depot : MI := (⟨"GlacierCampLaw", "depot", "(LGlacierCamp;II[J)I"⟩, method_9_code, 5, (Option.some Jvm.ClassFile.FieldType.int), [((0 : Nat), (10 : Nat), (13 : Nat), (24 : Nat))])
abbrev M_Law_feed : MI := (⟨"GlacierCampLaw", "feed", "(LGlacierCamp;IIIII[J)I"⟩, method_3_code, 8, (Option.some Jvm.ClassFile.FieldType.int), [((0 : Nat), (16 : Nat), (19 : Nat), (13 : Nat))])
abbrev M_Law_fill : MI := (⟨"GlacierCampLaw", "fill", "(LGlacierCamp;II[J)I"⟩, method_13_code, 5, (Option.some Jvm.ClassFile.FieldType.int), [((0 : Nat), (10 : Nat), (13 : Nat), (24 : Nat)), ((0 : Nat), (10 : Nat), (17 : Nat), (19 : Nat)), ((0 : Nat), (10 : Nat), (21 : Nat), (13 : Nat))])
abbrev M_Law_foresee : MI := (⟨"GlacierCampLaw", "foresee", "(LGlacierCamp;II[J)I"⟩, method_19_code, 5, (Option.some Jvm.ClassFile.FieldType.int), [((0 : Nat), (10 : Nat), (13 : Nat), (19 : Nat)), ((0 : Nat), (10 : Nat), (17 : Nat), (24 : Nat))])
abbrev M_Law_go : MI := (⟨"GlacierCampLaw", "go", "(LGlacierCamp;IZ[J)I"⟩, method_11_code, 5, (Option.some Jvm.ClassFile.FieldType.int), [((0 : Nat), (10 : Nat), (13 : Nat), (24 : Nat)), ((0 : Nat), (10 : Nat), (17 : Nat), (13 : Nat))])
abbrev M_Law_melt : MI := (⟨"GlacierCampLaw", "melt", "(LGlacierCamp;II[J)I"⟩, method_17_code, 5, (Option.some Jvm.ClassFile.FieldType.int), [((0 : Nat), (10 : Nat), (13 : Nat), (24 : Nat)), ((0 : Nat), (10 : Nat), (17 : Nat), (19 : Nat))])
abbrev M_Law_pass : MI := (⟨"GlacierCampLaw", "pass", "(LGlacierCamp;I[J)I"⟩, method_16_code, 4, (Option.some Jvm.ClassFile.FieldType.int), [((0 : Nat), (9 : Nat), (12 : Nat), (19 : Nat))])
abbrev M_Law_probe : MI := (⟨"GlacierCampLaw", "probe", "(LGlacierCamp;II[J)I"⟩, method_12_code, 5, (Option.some Jvm.ClassFile.FieldType.int), [((0 : Nat), (10 : Nat), (13 : Nat), (24 : Nat)), ((0 : Nat), (10 : Nat), (17 : Nat), (13 : Nat))])
abbrev M_Law_safe : MI := (⟨"GlacierCampLaw", "safe", "(LGlacierCamp;IZ[J)I"⟩, method_20_code, 5, (Option.some Jvm.ClassFile.FieldType.int), [((0 : Nat), (17 : Nat), (20 : Nat), (24 : Nat))])
abbrev M_Law_setWarm : MI := (⟨"GlacierCampLaw", "setWarm", "(LGlacierCamp;II[J)I"⟩, method_15_code, 5, (Option.some Jvm.ClassFile.FieldType.int), [((0 : Nat), (10 : Nat), (13 : Nat), (24 : Nat)), ((0 : Nat), (10 : Nat), (17 : Nat), (19 : Nat))])
abbrev M_Law_stake : MI := (⟨"GlacierCampLaw", "stake", "(LGlacierCamp;II[J)I"⟩, method_7_code, 5, (Option.some Jvm.ClassFile.FieldType.int), [((0 : Nat), (10 : Nat), (13 : Nat), (24 : Nat))])
abbrev M_Law_stock : MI := (⟨"GlacierCampLaw", "stock", "(LGlacierCamp;II[J)I"⟩, method_14_code, 5, (Option.some Jvm.ClassFile.FieldType.int), [((0 : Nat), (10 : Nat), (13 : Nat), (24 : Nat)), ((0 : Nat), (10 : Nat), (17 : Nat), (19 : Nat))])
abbrev M_Law_team : MI := (⟨"GlacierCampLaw", "team", "(LGlacierCamp;II[J)I"⟩, method_10_code, 5, (Option.some Jvm.ClassFile.FieldType.int), [((0 : Nat), (10 : Nat), (13 : Nat), (24 : Nat))])
abbrev M_Law_trim : MI := (⟨"GlacierCampLaw", "trim", "(LGlacierCamp;I[J)I"⟩, method_4_code, 4, (Option.some Jvm.ClassFile.FieldType.int), [((0 : Nat), (9 : Nat), (12 : Nat), (19 : Nat))])
abbrev M_Law_until : MI := (⟨"GlacierCampLaw", "until", "(LGlacierCamp;I[J)I"⟩, method_18_code, 4, (Option.some Jvm.ClassFile.FieldType.int), [((0 : Nat), (9 : Nat), (12 : Nat), (24 : Nat))])
abbrev M_Model_init : MI := (⟨"GlacierCampModel", "<init>", "()V"⟩, prog_13_method_1_code, 1, (Option.none : Option Jvm.ClassFile.FieldType), [])
abbrev M_Model_advise : MI := (⟨"GlacierCampModel", "advise", "(II)I"⟩, prog_13_method_101_code, 7, (Option.some Jvm.ClassFile.FieldType.int), [])
abbrev M_Model_areSame : MI := (⟨"GlacierCampModel", "areSame", "(LGlacierCampModel$Sheet;II)Z"⟩, prog_13_method_28_code, 6, (Option.some Jvm.ClassFile.FieldType.boolean), [])
abbrev M_Model_band : MI := (⟨"GlacierCampModel", "band", "(II)I"⟩, prog_13_method_79_code, 3, (Option.some Jvm.ClassFile.FieldType.int), [])
abbrev M_Model_bandTold : MI := (⟨"GlacierCampModel", "bandTold", "(II)I"⟩, prog_13_method_78_code, 5, (Option.some Jvm.ClassFile.FieldType.int), [])
abbrev M_Model_begin : MI := (⟨"GlacierCampModel", "begin", "()V"⟩, prog_13_method_74_code, 6, (Option.none : Option Jvm.ClassFile.FieldType), [])
abbrev M_Model_both : MI := (⟨"GlacierCampModel", "both", "()Z"⟩, prog_13_method_43_code, 2, (Option.some Jvm.ClassFile.FieldType.boolean), [])
abbrev M_Model_byteAt : MI := (⟨"GlacierCampModel", "byteAt", "(I)I"⟩, prog_13_method_8_code, 2, (Option.some Jvm.ClassFile.FieldType.int), [])
abbrev M_Model_canGo : MI := (⟨"GlacierCampModel", "canGo", "(LGlacierCampModel$State;IZ)Z"⟩, prog_13_method_51_code, 6, (Option.some Jvm.ClassFile.FieldType.boolean), [])
abbrev M_Model_canProbe : MI := (⟨"GlacierCampModel", "canProbe", "(LGlacierCampModel$State;II)Z"⟩, prog_13_method_55_code, 5, (Option.some Jvm.ClassFile.FieldType.boolean), [])
abbrev M_Model_count : MI := (⟨"GlacierCampModel", "count", "(I)I"⟩, prog_13_method_77_code, 2, (Option.some Jvm.ClassFile.FieldType.int), [])
abbrev M_Model_counted : MI := (⟨"GlacierCampModel", "counted", "(LGlacierCampModel$State;I)I"⟩, prog_13_method_70_code, 5, (Option.some Jvm.ClassFile.FieldType.int), [])
abbrev M_Model_crevasse : MI := (⟨"GlacierCampModel", "crevasse", "(II)I"⟩, prog_13_method_83_code, 3, (Option.some Jvm.ClassFile.FieldType.int), [])
abbrev M_Model_crevasseTold : MI := (⟨"GlacierCampModel", "crevasseTold", "(II)I"⟩, prog_13_method_82_code, 3, (Option.some Jvm.ClassFile.FieldType.int), [])
abbrev M_Model_cut : MI := (⟨"GlacierCampModel", "cut", "(LGlacierCampModel$Sheet;)V"⟩, prog_13_method_12_code, 4, (Option.none : Option Jvm.ClassFile.FieldType), [])
abbrev M_Model_dayOn : MI := (⟨"GlacierCampModel", "dayOn", "(LGlacierCampModel$State;)V"⟩, prog_13_method_68_code, 4, (Option.none : Option Jvm.ClassFile.FieldType), [])
abbrev M_Model_daysOn : MI := (⟨"GlacierCampModel", "daysOn", "(LGlacierCampModel$State;I)V"⟩, prog_13_method_69_code, 4, (Option.none : Option Jvm.ClassFile.FieldType), [])
abbrev M_Model_depot : MI := (⟨"GlacierCampModel", "depot", "(II)I"⟩, prog_13_method_85_code, 3, (Option.some Jvm.ClassFile.FieldType.int), [])
abbrev M_Model_depotOf : MI := (⟨"GlacierCampModel", "depotOf", "(LGlacierCampModel$State;I)I"⟩, prog_13_method_57_code, 4, (Option.some Jvm.ClassFile.FieldType.int), [])
abbrev M_Model_depotTold : MI := (⟨"GlacierCampModel", "depotTold", "(II)I"⟩, prog_13_method_84_code, 3, (Option.some Jvm.ClassFile.FieldType.int), [])
abbrev M_Model_digest : MI := (⟨"GlacierCampModel", "digest", "()J"⟩, prog_13_method_103_code, 5, (Option.some Jvm.ClassFile.FieldType.long), [])
abbrev M_Model_drilled : MI := (⟨"GlacierCampModel", "drilled", "(LGlacierCampModel$State;I)Z"⟩, prog_13_method_60_code, 3, (Option.some Jvm.ClassFile.FieldType.boolean), [])
abbrev M_Model_eat_0 : MI := (⟨"GlacierCampModel", "eat", "(LGlacierCampModel$Sheet;I)Z"⟩, prog_13_method_13_code, 3, (Option.some Jvm.ClassFile.FieldType.boolean), [])
abbrev M_Model_eat_1 : MI := (⟨"GlacierCampModel", "eat", "(LGlacierCampModel$State;I)V"⟩, prog_13_method_66_code, 7, (Option.none : Option Jvm.ClassFile.FieldType), [])
abbrev M_Model_eatIn : MI := (⟨"GlacierCampModel", "eatIn", "(LGlacierCampModel$Sheet;II)Z"⟩, prog_13_method_14_code, 4, (Option.some Jvm.ClassFile.FieldType.boolean), [])
abbrev M_Model_errorAt : MI := (⟨"GlacierCampModel", "errorAt", "()I"⟩, prog_13_method_76_code, 1, (Option.some Jvm.ClassFile.FieldType.int), [])
abbrev M_Model_errorOf : MI := (⟨"GlacierCampModel", "errorOf", "(LGlacierCampModel$Sheet;I)I"⟩, prog_13_method_39_code, 3, (Option.some Jvm.ClassFile.FieldType.int), [])
abbrev M_Model_errorOfName : MI := (⟨"GlacierCampModel", "errorOfName", "(LGlacierCampModel$Sheet;I)I"⟩, prog_13_method_34_code, 6, (Option.some Jvm.ClassFile.FieldType.int), [])
abbrev M_Model_errorOfNew : MI := (⟨"GlacierCampModel", "errorOfNew", "(LGlacierCampModel$Sheet;II)I"⟩, prog_13_method_32_code, 4, (Option.some Jvm.ClassFile.FieldType.int), [])
abbrev M_Model_errorOfNumber : MI := (⟨"GlacierCampModel", "errorOfNumber", "(LGlacierCampModel$Sheet;I)I"⟩, prog_13_method_36_code, 5, (Option.some Jvm.ClassFile.FieldType.int), [])
abbrev M_Model_errorOfOrder : MI := (⟨"GlacierCampModel", "errorOfOrder", "(LGlacierCampModel$Sheet;I)I"⟩, prog_13_method_37_code, 3, (Option.some Jvm.ClassFile.FieldType.int), [])
abbrev M_Model_errorOfRange : MI := (⟨"GlacierCampModel", "errorOfRange", "(III)I"⟩, prog_13_method_35_code, 3, (Option.some Jvm.ClassFile.FieldType.int), [])
abbrev M_Model_fall : MI := (⟨"GlacierCampModel", "fall", "(LGlacierCampModel$State;II)V"⟩, prog_13_method_53_code, 4, (Option.none : Option Jvm.ClassFile.FieldType), [])
abbrev M_Model_feed : MI := (⟨"GlacierCampModel", "feed", "(IIIII)I"⟩, prog_13_method_71_code, 8, (Option.some Jvm.ClassFile.FieldType.int), [])
abbrev M_Model_fill_0 : MI := (⟨"GlacierCampModel", "fill", "(II)I"⟩, prog_13_method_90_code, 4, (Option.some Jvm.ClassFile.FieldType.int), [])
abbrev M_Model_fill_1 : MI := (⟨"GlacierCampModel", "fill", "([II)V"⟩, prog_13_method_73_code, 3, (Option.none : Option Jvm.ClassFile.FieldType), [])
abbrev M_Model_filled : MI := (⟨"GlacierCampModel", "filled", "(LGlacierCampModel$State;II)I"⟩, prog_13_method_58_code, 6, (Option.some Jvm.ClassFile.FieldType.int), [])
abbrev M_Model_find : MI := (⟨"GlacierCampModel", "find", "(LGlacierCampModel$Sheet;II)I"⟩, prog_13_method_29_code, 5, (Option.some Jvm.ClassFile.FieldType.int), [])
abbrev M_Model_foresee : MI := (⟨"GlacierCampModel", "foresee", "(II)I"⟩, prog_13_method_98_code, 3, (Option.some Jvm.ClassFile.FieldType.int), [])
abbrev M_Model_go : MI := (⟨"GlacierCampModel", "go", "(IZ)I"⟩, prog_13_method_88_code, 3, (Option.some Jvm.ClassFile.FieldType.int), [])
abbrev M_Model_goDown : MI := (⟨"GlacierCampModel", "goDown", "(LGlacierCampModel$Sheet;I)Z"⟩, prog_13_method_15_code, 3, (Option.some Jvm.ClassFile.FieldType.boolean), [])
abbrev M_Model_goesBy : MI := (⟨"GlacierCampModel", "goesBy", "(I)Z"⟩, prog_13_method_41_code, 2, (Option.some Jvm.ClassFile.FieldType.boolean), [])
abbrev M_Model_is : MI := (⟨"GlacierCampModel", "is", "(II)Z"⟩, prog_13_method_5_code, 3, (Option.some Jvm.ClassFile.FieldType.boolean), [])
abbrev M_Model_isBoth : MI := (⟨"GlacierCampModel", "isBoth", "(LGlacierCampModel$Sheet;)Z"⟩, prog_13_method_22_code, 2, (Option.some Jvm.ClassFile.FieldType.boolean), [])
abbrev M_Model_isCarriedOut : MI := (⟨"GlacierCampModel", "isCarriedOut", "(LGlacierCampModel$State;I)Z"⟩, prog_13_method_63_code, 4, (Option.some Jvm.ClassFile.FieldType.boolean), [])
abbrev M_Model_isDigit : MI := (⟨"GlacierCampModel", "isDigit", "(I)Z"⟩, prog_13_method_7_code, 1, (Option.some Jvm.ClassFile.FieldType.boolean), [])
abbrev M_Model_isIn : MI := (⟨"GlacierCampModel", "isIn", "(III)Z"⟩, prog_13_method_4_code, 3, (Option.some Jvm.ClassFile.FieldType.boolean), [])
abbrev M_Model_isLetter : MI := (⟨"GlacierCampModel", "isLetter", "(I)Z"⟩, prog_13_method_6_code, 1, (Option.some Jvm.ClassFile.FieldType.boolean), [])
abbrev M_Model_isLine : MI := (⟨"GlacierCampModel", "isLine", "(LGlacierCampModel$Sheet;)Z"⟩, prog_13_method_20_code, 2, (Option.some Jvm.ClassFile.FieldType.boolean), [])
abbrev M_Model_isList : MI := (⟨"GlacierCampModel", "isList", "(LGlacierCampModel$Sheet;)Z"⟩, prog_13_method_16_code, 2, (Option.some Jvm.ClassFile.FieldType.boolean), [])
abbrev M_Model_isName : MI := (⟨"GlacierCampModel", "isName", "(LGlacierCampModel$Sheet;I)Z"⟩, prog_13_method_18_code, 3, (Option.some Jvm.ClassFile.FieldType.boolean), [])
abbrev M_Model_isNumber : MI := (⟨"GlacierCampModel", "isNumber", "(LGlacierCampModel$Sheet;I)Z"⟩, prog_13_method_17_code, 3, (Option.some Jvm.ClassFile.FieldType.boolean), [])
abbrev M_Model_isOrder : MI := (⟨"GlacierCampModel", "isOrder", "(I)Z"⟩, prog_13_method_38_code, 1, (Option.some Jvm.ClassFile.FieldType.boolean), [])
abbrev M_Model_isProduct : MI := (⟨"GlacierCampModel", "isProduct", "(LGlacierCampModel$Sheet;)Z"⟩, prog_13_method_25_code, 2, (Option.some Jvm.ClassFile.FieldType.boolean), [])
abbrev M_Model_isSingle : MI := (⟨"GlacierCampModel", "isSingle", "(LGlacierCampModel$Sheet;)Z"⟩, prog_13_method_23_code, 2, (Option.some Jvm.ClassFile.FieldType.boolean), [])
abbrev M_Model_isSort : MI := (⟨"GlacierCampModel", "isSort", "(I)Z"⟩, prog_13_method_31_code, 1, (Option.some Jvm.ClassFile.FieldType.boolean), [])
abbrev M_Model_isSum : MI := (⟨"GlacierCampModel", "isSum", "(LGlacierCampModel$Sheet;)Z"⟩, prog_13_method_24_code, 2, (Option.some Jvm.ClassFile.FieldType.boolean), [])
abbrev M_Model_isTest : MI := (⟨"GlacierCampModel", "isTest", "(LGlacierCampModel$Sheet;)Z"⟩, prog_13_method_21_code, 2, (Option.some Jvm.ClassFile.FieldType.boolean), [])
abbrev M_Model_isValue : MI := (⟨"GlacierCampModel", "isValue", "(LGlacierCampModel$Sheet;)Z"⟩, prog_13_method_26_code, 3, (Option.some Jvm.ClassFile.FieldType.boolean), [])
abbrev M_Model_isWeak : MI := (⟨"GlacierCampModel", "isWeak", "(LGlacierCampModel$State;II)Z"⟩, prog_13_method_50_code, 4, (Option.some Jvm.ClassFile.FieldType.boolean), [])
abbrev M_Model_isWhen : MI := (⟨"GlacierCampModel", "isWhen", "(LGlacierCampModel$Sheet;)Z"⟩, prog_13_method_19_code, 2, (Option.some Jvm.ClassFile.FieldType.boolean), [])
abbrev M_Model_kindAt : MI := (⟨"GlacierCampModel", "kindAt", "(II)I"⟩, prog_13_method_10_code, 5, (Option.some Jvm.ClassFile.FieldType.int), [])
abbrev M_Model_lengthAt : MI := (⟨"GlacierCampModel", "lengthAt", "(I)I"⟩, prog_13_method_9_code, 4, (Option.some Jvm.ClassFile.FieldType.int), [])
abbrev M_Model_lies : MI := (⟨"GlacierCampModel", "lies", "(I)I"⟩, prog_13_method_96_code, 3, (Option.some Jvm.ClassFile.FieldType.int), [])
abbrev M_Model_look : MI := (⟨"GlacierCampModel", "look", "(LGlacierCampModel$State;II)V"⟩, prog_13_method_56_code, 4, (Option.none : Option Jvm.ClassFile.FieldType), [])
abbrev M_Model_mean : MI := (⟨"GlacierCampModel", "mean", "()D"⟩, prog_13_method_102_code, 3, (Option.some Jvm.ClassFile.FieldType.double), [])
abbrev M_Model_melt_0 : MI := (⟨"GlacierCampModel", "melt", "(II)I"⟩, prog_13_method_95_code, 3, (Option.some Jvm.ClassFile.FieldType.int), [])
abbrev M_Model_melt_1 : MI := (⟨"GlacierCampModel", "melt", "(LGlacierCampModel$State;II)V"⟩, prog_13_method_64_code, 7, (Option.none : Option Jvm.ClassFile.FieldType), [])
abbrev M_Model_meltsIn : MI := (⟨"GlacierCampModel", "meltsIn", "(II)I"⟩, prog_13_method_94_code, 5, (Option.some Jvm.ClassFile.FieldType.int), [])
abbrev M_Model_most : MI := (⟨"GlacierCampModel", "most", "(I)I"⟩, prog_13_method_30_code, 1, (Option.some Jvm.ClassFile.FieldType.int), [])
abbrev M_Model_move : MI := (⟨"GlacierCampModel", "move", "(LGlacierCampModel$State;IZ)V"⟩, prog_13_method_54_code, 7, (Option.none : Option Jvm.ClassFile.FieldType), [])
abbrev M_Model_moved : MI := (⟨"GlacierCampModel", "moved", "(LGlacierCampModel$State;IZ)Z"⟩, prog_13_method_61_code, 5, (Option.some Jvm.ClassFile.FieldType.boolean), [])
abbrev M_Model_named : MI := (⟨"GlacierCampModel", "named", "()I"⟩, prog_13_method_44_code, 2, (Option.some Jvm.ClassFile.FieldType.int), [])
abbrev M_Model_no : MI := (⟨"GlacierCampModel", "no", "(I)I"⟩, prog_13_method_3_code, 2, (Option.some Jvm.ClassFile.FieldType.int), [])
abbrev M_Model_number : MI := (⟨"GlacierCampModel", "number", "(LGlacierCampModel$Sheet;I)I"⟩, prog_13_method_27_code, 5, (Option.some Jvm.ClassFile.FieldType.int), [])
abbrev M_Model_pass : MI := (⟨"GlacierCampModel", "pass", "(I)I"⟩, prog_13_method_93_code, 3, (Option.some Jvm.ClassFile.FieldType.int), [])
abbrev M_Model_probe : MI := (⟨"GlacierCampModel", "probe", "(II)I"⟩, prog_13_method_89_code, 3, (Option.some Jvm.ClassFile.FieldType.int), [])
abbrev M_Model_probed : MI := (⟨"GlacierCampModel", "probed", "(LGlacierCampModel$State;II)Z"⟩, prog_13_method_62_code, 5, (Option.some Jvm.ClassFile.FieldType.boolean), [])
abbrev M_Model_product : MI := (⟨"GlacierCampModel", "product", "()I"⟩, prog_13_method_47_code, 4, (Option.some Jvm.ClassFile.FieldType.int), [])
abbrev M_Model_read : MI := (⟨"GlacierCampModel", "read", "(LGlacierCampModel$Sheet;)I"⟩, prog_13_method_40_code, 4, (Option.some Jvm.ClassFile.FieldType.int), [])
abbrev M_Model_readAll : MI := (⟨"GlacierCampModel", "readAll", "(LGlacierCampModel$State;I)V"⟩, prog_13_method_67_code, 4, (Option.none : Option Jvm.ClassFile.FieldType), [])
abbrev M_Model_reads : MI := (⟨"GlacierCampModel", "reads", "(III)I"⟩, prog_13_method_100_code, 4, (Option.some Jvm.ClassFile.FieldType.int), [])
abbrev M_Model_safe : MI := (⟨"GlacierCampModel", "safe", "(IZ)Z"⟩, prog_13_method_99_code, 3, (Option.some Jvm.ClassFile.FieldType.boolean), [])
abbrev M_Model_setWarm : MI := (⟨"GlacierCampModel", "setWarm", "(II)I"⟩, prog_13_method_92_code, 4, (Option.some Jvm.ClassFile.FieldType.int), [])
abbrev M_Model_single : MI := (⟨"GlacierCampModel", "single", "()Z"⟩, prog_13_method_45_code, 4, (Option.some Jvm.ClassFile.FieldType.boolean), [])
abbrev M_Model_snow : MI := (⟨"GlacierCampModel", "snow", "(LGlacierCampModel$State;II)V"⟩, prog_13_method_65_code, 6, (Option.none : Option Jvm.ClassFile.FieldType), [])
abbrev M_Model_sortBehind : MI := (⟨"GlacierCampModel", "sortBehind", "(I)I"⟩, prog_13_method_33_code, 1, (Option.some Jvm.ClassFile.FieldType.int), [])
abbrev M_Model_stake : MI := (⟨"GlacierCampModel", "stake", "(II)I"⟩, prog_13_method_81_code, 3, (Option.some Jvm.ClassFile.FieldType.int), [])
abbrev M_Model_stakeTold : MI := (⟨"GlacierCampModel", "stakeTold", "(II)I"⟩, prog_13_method_80_code, 3, (Option.some Jvm.ClassFile.FieldType.int), [])
abbrev M_Model_stock : MI := (⟨"GlacierCampModel", "stock", "(II)I"⟩, prog_13_method_91_code, 3, (Option.some Jvm.ClassFile.FieldType.int), [])
abbrev M_Model_sum : MI := (⟨"GlacierCampModel", "sum", "()I"⟩, prog_13_method_46_code, 4, (Option.some Jvm.ClassFile.FieldType.int), [])
abbrev M_Model_teach : MI := (⟨"GlacierCampModel", "teach", "()I"⟩, prog_13_method_75_code, 3, (Option.some Jvm.ClassFile.FieldType.int), [])
abbrev M_Model_team : MI := (⟨"GlacierCampModel", "team", "(II)I"⟩, prog_13_method_87_code, 3, (Option.some Jvm.ClassFile.FieldType.int), [])
abbrev M_Model_teamTold : MI := (⟨"GlacierCampModel", "teamTold", "(II)I"⟩, prog_13_method_86_code, 3, (Option.some Jvm.ClassFile.FieldType.int), [])
abbrev M_Model_teamsIn : MI := (⟨"GlacierCampModel", "teamsIn", "(LGlacierCampModel$State;I)I"⟩, prog_13_method_59_code, 5, (Option.some Jvm.ClassFile.FieldType.int), [])
abbrev M_Model_test : MI := (⟨"GlacierCampModel", "test", "()Z"⟩, prog_13_method_42_code, 2, (Option.some Jvm.ClassFile.FieldType.boolean), [])
abbrev M_Model_thrown : MI := (⟨"GlacierCampModel", "thrown", "()I"⟩, prog_13_method_2_code, 1, (Option.some Jvm.ClassFile.FieldType.int), [])
abbrev M_Model_trap : MI := (⟨"GlacierCampModel", "trap", "(LGlacierCampModel$State;IZ)I"⟩, prog_13_method_52_code, 7, (Option.some Jvm.ClassFile.FieldType.int), [])
abbrev M_Model_trim : MI := (⟨"GlacierCampModel", "trim", "(I)I"⟩, prog_13_method_72_code, 2, (Option.some Jvm.ClassFile.FieldType.int), [])
abbrev M_Model_until : MI := (⟨"GlacierCampModel", "until", "(I)I"⟩, prog_13_method_97_code, 2, (Option.some Jvm.ClassFile.FieldType.int), [])
abbrev M_Model_value : MI := (⟨"GlacierCampModel", "value", "()I"⟩, prog_13_method_48_code, 4, (Option.some Jvm.ClassFile.FieldType.int), [])
abbrev M_Model_wayOf : MI := (⟨"GlacierCampModel", "wayOf", "(LGlacierCampModel$State;IZ)I"⟩, prog_13_method_49_code, 3, (Option.some Jvm.ClassFile.FieldType.int), [])
abbrev M_Model_wordAt : MI := (⟨"GlacierCampModel", "wordAt", "(II)I"⟩, prog_13_method_11_code, 5, (Option.some Jvm.ClassFile.FieldType.int), [])
abbrev M_Sheet_init : MI := (⟨"GlacierCampModel$Sheet", "<init>", "()V"⟩, prog_14_method_1_code, 1, (Option.none : Option Jvm.ClassFile.FieldType), [])
abbrev M_State_init : MI := (⟨"GlacierCampModel$State", "<init>", "()V"⟩, prog_15_method_1_code, 1, (Option.none : Option Jvm.ClassFile.FieldType), [])
abbrev M_State_become : MI := (⟨"GlacierCampModel$State", "become", "(LGlacierCampModel$State;)V"⟩, prog_15_method_3_code, 2, (Option.none : Option Jvm.ClassFile.FieldType), [])
abbrev M_State_copy : MI := (⟨"GlacierCampModel$State", "copy", "([I[I)V"⟩, prog_15_method_2_code, 2, (Option.none : Option Jvm.ClassFile.FieldType), [])
abbrev M_State_warmth : MI := (⟨"GlacierCampModel$State", "warmth", "()I"⟩, prog_15_method_4_code, 1, (Option.some Jvm.ClassFile.FieldType.int), [])
abbrev M_Character_highSurrogate : MI := (⟨"java/lang/Character", "highSurrogate", "(I)C"⟩, prog_16_method_28_code, 1, (Option.some Jvm.ClassFile.FieldType.char), [])
abbrev M_Character_isValidCodePoint : MI := (⟨"java/lang/Character", "isValidCodePoint", "(I)Z"⟩, prog_16_method_11_code, 2, (Option.some Jvm.ClassFile.FieldType.boolean), [])
abbrev M_Character_lowSurrogate : MI := (⟨"java/lang/Character", "lowSurrogate", "(I)C"⟩, prog_16_method_29_code, 1, (Option.some Jvm.ClassFile.FieldType.char), [])
abbrev M_Enum_ordinal : MI := (⟨"java/lang/Enum", "ordinal", "()I"⟩, prog_17_method_2_code, 1, (Option.some Jvm.ClassFile.FieldType.int), [])
abbrev M_Exception_init : MI := (⟨"java/lang/Exception", "<init>", "(Ljava/lang/String;)V"⟩, prog_18_method_2_code, 2, (Option.none : Option Jvm.ClassFile.FieldType), [])
abbrev M_IllegalArgumentException_init : MI := (⟨"java/lang/IllegalArgumentException", "<init>", "(Ljava/lang/String;)V"⟩, prog_19_method_2_code, 2, (Option.none : Option Jvm.ClassFile.FieldType), [])
abbrev M_IllegalStateException_init : MI := (⟨"java/lang/IllegalStateException", "<init>", "(Ljava/lang/String;)V"⟩, prog_20_method_2_code, 2, (Option.none : Option Jvm.ClassFile.FieldType), [])
abbrev M_IndexOutOfBoundsException_init : MI := (⟨"java/lang/IndexOutOfBoundsException", "<init>", "(Ljava/lang/String;)V"⟩, prog_21_method_2_code, 2, (Option.none : Option Jvm.ClassFile.FieldType), [])
abbrev M_Math_max : MI := (⟨"java/lang/Math", "max", "(II)I"⟩, prog_22_method_65_code, 2, (Option.some Jvm.ClassFile.FieldType.int), [])
abbrev M_Math_min : MI := (⟨"java/lang/Math", "min", "(II)I"⟩, prog_22_method_69_code, 2, (Option.some Jvm.ClassFile.FieldType.int), [])
abbrev M_Object_init : MI := (⟨"java/lang/Object", "<init>", "()V"⟩, object_method_1_code, 1, (Option.none : Option Jvm.ClassFile.FieldType), [])
abbrev M_RuntimeException_init : MI := (⟨"java/lang/RuntimeException", "<init>", "(Ljava/lang/String;)V"⟩, prog_23_method_2_code, 2, (Option.none : Option Jvm.ClassFile.FieldType), [])
abbrev M_String_charAt : MI := (⟨"java/lang/String", "charAt", "(I)C"⟩, prog_24_method_56_code, 2, (Option.some Jvm.ClassFile.FieldType.char), [])
abbrev M_String_checkBoundsBeginEnd : MI := (⟨"java/lang/String", "checkBoundsBeginEnd", "(III)V"⟩, prog_24_method_158_code, 3, (Option.none : Option Jvm.ClassFile.FieldType), [])
abbrev M_String_checkIndex : MI := (⟨"java/lang/String", "checkIndex", "(II)V"⟩, prog_24_method_155_code, 2, (Option.none : Option Jvm.ClassFile.FieldType), [])
abbrev M_String_coder : MI := (⟨"java/lang/String", "coder", "()B"⟩, prog_24_method_152_code, 1, (Option.some Jvm.ClassFile.FieldType.byte), [])
abbrev M_String_indexOf_0 : MI := (⟨"java/lang/String", "indexOf", "(I)I"⟩, prog_24_method_79_code, 2, (Option.some Jvm.ClassFile.FieldType.int), [])
abbrev M_String_indexOf_1 : MI := (⟨"java/lang/String", "indexOf", "(II)I"⟩, prog_24_method_80_code, 3, (Option.some Jvm.ClassFile.FieldType.int), [])
abbrev M_String_isLatin1 : MI := (⟨"java/lang/String", "isLatin1", "()Z"⟩, prog_24_method_154_code, 1, (Option.some Jvm.ClassFile.FieldType.boolean), [])
abbrev M_String_length : MI := (⟨"java/lang/String", "length", "()I"⟩, prog_24_method_54_code, 1, (Option.some Jvm.ClassFile.FieldType.int), [])
abbrev M_StringLatin1_canEncode : MI := (⟨"java/lang/StringLatin1", "canEncode", "(I)Z"⟩, prog_25_method_4_code, 1, (Option.some Jvm.ClassFile.FieldType.boolean), [])
abbrev M_StringLatin1_charAt : MI := (⟨"java/lang/StringLatin1", "charAt", "([BI)C"⟩, prog_25_method_2_code, 2, (Option.some Jvm.ClassFile.FieldType.char), [])
abbrev M_StringLatin1_indexOf : MI := (⟨"java/lang/StringLatin1", "indexOf", "([BIII)I"⟩, prog_25_method_22_code, 4, (Option.some Jvm.ClassFile.FieldType.int), [])
abbrev M_StringLatin1_indexOfChar : MI := (⟨"java/lang/StringLatin1", "indexOfChar", "([BIII)I"⟩, prog_25_method_23_code, 6, (Option.some Jvm.ClassFile.FieldType.int), [])
abbrev M_StringUTF16_charAt : MI := (⟨"java/lang/StringUTF16", "charAt", "([BI)C"⟩, prog_26_method_83_code, 2, (Option.some Jvm.ClassFile.FieldType.char), [])
abbrev M_StringUTF16_checkBoundsBeginEnd : MI := (⟨"java/lang/StringUTF16", "checkBoundsBeginEnd", "(II[B)V"⟩, prog_26_method_93_code, 3, (Option.none : Option Jvm.ClassFile.FieldType), [])
abbrev M_StringUTF16_checkIndex : MI := (⟨"java/lang/StringUTF16", "checkIndex", "(I[B)V"⟩, prog_26_method_91_code, 2, (Option.none : Option Jvm.ClassFile.FieldType), [])
abbrev M_StringUTF16_getChar : MI := (⟨"java/lang/StringUTF16", "getChar", "([BI)C"⟩, prog_26_method_5_code, 2, (Option.some Jvm.ClassFile.FieldType.char), [])
abbrev M_StringUTF16_indexOf : MI := (⟨"java/lang/StringUTF16", "indexOf", "([BIII)I"⟩, prog_26_method_40_code, 4, (Option.some Jvm.ClassFile.FieldType.int), [])
abbrev M_StringUTF16_indexOfChar : MI := (⟨"java/lang/StringUTF16", "indexOfChar", "([BIII)I"⟩, prog_26_method_47_code, 4, (Option.some Jvm.ClassFile.FieldType.int), [])
abbrev M_StringUTF16_indexOfCharUnsafe : MI := (⟨"java/lang/StringUTF16", "indexOfCharUnsafe", "([BIII)I"⟩, prog_26_method_48_code, 5, (Option.some Jvm.ClassFile.FieldType.int), [])
abbrev M_StringUTF16_indexOfSupplementary : MI := (⟨"java/lang/StringUTF16", "indexOfSupplementary", "([BIII)I"⟩, prog_26_method_49_code, 7, (Option.some Jvm.ClassFile.FieldType.int), [])
abbrev M_StringUTF16_length : MI := (⟨"java/lang/StringUTF16", "length", "([B)I"⟩, prog_26_method_6_code, 1, (Option.some Jvm.ClassFile.FieldType.int), [])
abbrev M_Throwable_init_0 : MI := (⟨"java/lang/Throwable", "<init>", "()V"⟩, prog_28_method_1_code, 1, (Option.none : Option Jvm.ClassFile.FieldType), [])
abbrev M_Throwable_init_1 : MI := (⟨"java/lang/Throwable", "<init>", "(Ljava/lang/String;)V"⟩, prog_28_method_2_code, 2, (Option.none : Option Jvm.ClassFile.FieldType), [])
abbrev M_Preconditions_checkFromToIndex : MI := (⟨"jdk/internal/util/Preconditions", "checkFromToIndex", "(IIILjava/util/function/BiFunction;)I"⟩, prog_29_method_12_code, 4, (Option.some Jvm.ClassFile.FieldType.int), [])
abbrev M_Preconditions_checkIndex : MI := (⟨"jdk/internal/util/Preconditions", "checkIndex", "(IILjava/util/function/BiFunction;)I"⟩, prog_29_method_11_code, 3, (Option.some Jvm.ClassFile.FieldType.int), [])
theorem k_Camp_init_ok : OkI M_Camp_init 0 := ⟨gm_1 (List.mem_of_getElem? (i := 33) rfl) rfl, gm_1 (List.mem_of_getElem? (i := 1) rfl) rfl, by decide, by decide, by decide +kernel⟩
theorem k_Camp_init_n : OkN M_Camp_init 0 := ⟨k_Camp_init_ok, rfl, rfl, rfl, gm_1 (List.mem_of_getElem? (i := 32) rfl) rfl⟩
theorem k_Camp_advise_ok : OkI M_Camp_advise 2 := ⟨gm_5 (List.mem_of_getElem? (i := 188) rfl) rfl, gm_1 (List.mem_of_getElem? (i := 1) rfl) rfl, by decide, by decide, by decide +kernel⟩
theorem k_Camp_advise_v : OkV M_Camp_advise 2 := ⟨k_Camp_advise_ok, rfl, gm_5 (List.mem_of_getElem? (i := 186) rfl) rfl, gm_5 (List.mem_of_getElem? (i := 187) rfl) rfl⟩
theorem k_Camp_band_ok : OkI M_Camp_band 2 := ⟨gm_4 (List.mem_of_getElem? (i := 171) rfl) rfl, gm_1 (List.mem_of_getElem? (i := 1) rfl) rfl, by decide, by decide, by decide +kernel⟩
theorem k_Camp_band_v : OkV M_Camp_band 2 := ⟨k_Camp_band_ok, rfl, gm_4 (List.mem_of_getElem? (i := 169) rfl) rfl, gm_4 (List.mem_of_getElem? (i := 170) rfl) rfl⟩
theorem k_Camp_count_ok : OkI M_Camp_count 1 := ⟨gm_4 (List.mem_of_getElem? (i := 145) rfl) rfl, gm_1 (List.mem_of_getElem? (i := 1) rfl) rfl, by decide, by decide, by decide +kernel⟩
theorem k_Camp_count_v : OkV M_Camp_count 1 := ⟨k_Camp_count_ok, rfl, gm_4 (List.mem_of_getElem? (i := 143) rfl) rfl, gm_4 (List.mem_of_getElem? (i := 144) rfl) rfl⟩
theorem k_Camp_counted_ok : OkI M_Camp_counted 1 := ⟨gm_3 (List.mem_of_getElem? (i := 235) rfl) rfl, gm_1 (List.mem_of_getElem? (i := 1) rfl) rfl, by decide, by decide, by decide +kernel⟩
theorem k_Camp_counted_v : OkV M_Camp_counted 1 := ⟨k_Camp_counted_ok, rfl, gm_3 (List.mem_of_getElem? (i := 234) rfl) rfl, gp_2 (List.mem_of_getElem? (i := 10) rfl)⟩
theorem k_Camp_crevasse_ok : OkI M_Camp_crevasse 2 := ⟨gm_4 (List.mem_of_getElem? (i := 193) rfl) rfl, gm_1 (List.mem_of_getElem? (i := 1) rfl) rfl, by decide, by decide, by decide +kernel⟩
theorem k_Camp_crevasse_v : OkV M_Camp_crevasse 2 := ⟨k_Camp_crevasse_ok, rfl, gm_4 (List.mem_of_getElem? (i := 191) rfl) rfl, gm_4 (List.mem_of_getElem? (i := 192) rfl) rfl⟩
theorem k_Camp_depot_ok : OkI M_Camp_depot 2 := ⟨gm_4 (List.mem_of_getElem? (i := 200) rfl) rfl, gm_1 (List.mem_of_getElem? (i := 1) rfl) rfl, by decide, by decide, by decide +kernel⟩
theorem k_Camp_depot_v : OkV M_Camp_depot 2 := ⟨k_Camp_depot_ok, rfl, gm_4 (List.mem_of_getElem? (i := 198) rfl) rfl, gm_4 (List.mem_of_getElem? (i := 199) rfl) rfl⟩
theorem k_Camp_digest_ok : OkI M_Camp_digest 0 := ⟨gm_3 (List.mem_of_getElem? (i := 229) rfl) rfl, gm_1 (List.mem_of_getElem? (i := 1) rfl) rfl, by decide, by decide, by decide +kernel⟩
theorem k_Camp_digest_v : OkV M_Camp_digest 0 := ⟨k_Camp_digest_ok, rfl, gm_3 (List.mem_of_getElem? (i := 227) rfl) rfl, gm_3 (List.mem_of_getElem? (i := 228) rfl) rfl⟩
theorem k_Camp_digestOf_ok : OkI M_Camp_digestOf 3 := ⟨gm_4 (List.mem_of_getElem? (i := 26) rfl) rfl, gm_1 (List.mem_of_getElem? (i := 1) rfl) rfl, by decide, by decide, by decide +kernel⟩
theorem k_Camp_digestOf_s : OkS M_Camp_digestOf 3 := ⟨k_Camp_digestOf_ok, gm_4 (List.mem_of_getElem? (i := 25) rfl) rfl⟩
theorem k_Camp_errorAt_ok : OkI M_Camp_errorAt 0 := ⟨gm_3 (List.mem_of_getElem? (i := 215) rfl) rfl, gm_1 (List.mem_of_getElem? (i := 1) rfl) rfl, by decide, by decide, by decide +kernel⟩
theorem k_Camp_errorAt_v : OkV M_Camp_errorAt 0 := ⟨k_Camp_errorAt_ok, rfl, gm_3 (List.mem_of_getElem? (i := 213) rfl) rfl, gm_3 (List.mem_of_getElem? (i := 214) rfl) rfl⟩
theorem k_Camp_feed_ok : OkI M_Camp_feed 5 := ⟨gm_4 (List.mem_of_getElem? (i := 42) rfl) rfl, gm_1 (List.mem_of_getElem? (i := 1) rfl) rfl, by decide, by decide, by decide +kernel⟩
theorem k_Camp_feed_v : OkV M_Camp_feed 5 := ⟨k_Camp_feed_ok, rfl, gm_4 (List.mem_of_getElem? (i := 40) rfl) rfl, gm_4 (List.mem_of_getElem? (i := 41) rfl) rfl⟩
theorem k_Camp_fill_ok : OkI M_Camp_fill 2 := ⟨gm_5 (List.mem_of_getElem? (i := 27) rfl) rfl, gm_1 (List.mem_of_getElem? (i := 1) rfl) rfl, by decide, by decide, by decide +kernel⟩
theorem k_Camp_fill_v : OkV M_Camp_fill 2 := ⟨k_Camp_fill_ok, rfl, gm_5 (List.mem_of_getElem? (i := 25) rfl) rfl, gm_5 (List.mem_of_getElem? (i := 26) rfl) rfl⟩
theorem k_Camp_foresee_ok : OkI M_Camp_foresee 2 := ⟨gm_5 (List.mem_of_getElem? (i := 171) rfl) rfl, gm_1 (List.mem_of_getElem? (i := 1) rfl) rfl, by decide, by decide, by decide +kernel⟩
theorem k_Camp_foresee_v : OkV M_Camp_foresee 2 := ⟨k_Camp_foresee_ok, rfl, gm_5 (List.mem_of_getElem? (i := 169) rfl) rfl, gm_5 (List.mem_of_getElem? (i := 170) rfl) rfl⟩
theorem k_Camp_go_ok : OkI M_Camp_go 2 := ⟨gm_4 (List.mem_of_getElem? (i := 214) rfl) rfl, gm_1 (List.mem_of_getElem? (i := 1) rfl) rfl, by decide, by decide, by decide +kernel⟩
theorem k_Camp_go_v : OkV M_Camp_go 2 := ⟨k_Camp_go_ok, rfl, gm_4 (List.mem_of_getElem? (i := 212) rfl) rfl, gm_4 (List.mem_of_getElem? (i := 213) rfl) rfl⟩
theorem k_Camp_mean_ok : OkI M_Camp_mean 0 := ⟨gm_3 (List.mem_of_getElem? (i := 219) rfl) rfl, gm_1 (List.mem_of_getElem? (i := 1) rfl) rfl, by decide, by decide, by decide +kernel⟩
theorem k_Camp_mean_v : OkV M_Camp_mean 0 := ⟨k_Camp_mean_ok, rfl, gm_3 (List.mem_of_getElem? (i := 217) rfl) rfl, gm_3 (List.mem_of_getElem? (i := 218) rfl) rfl⟩
theorem k_Camp_melt_ok : OkI M_Camp_melt 2 := ⟨gm_5 (List.mem_of_getElem? (i := 148) rfl) rfl, gm_1 (List.mem_of_getElem? (i := 1) rfl) rfl, by decide, by decide, by decide +kernel⟩
theorem k_Camp_melt_v : OkV M_Camp_melt 2 := ⟨k_Camp_melt_ok, rfl, gm_5 (List.mem_of_getElem? (i := 146) rfl) rfl, gm_5 (List.mem_of_getElem? (i := 147) rfl) rfl⟩
theorem k_Camp_needRange_ok : OkI M_Camp_needRange 3 := ⟨gm_5 (List.mem_of_getElem? (i := 30) rfl) rfl, gm_1 (List.mem_of_getElem? (i := 1) rfl) rfl, by decide, by decide, by decide +kernel⟩
theorem k_Camp_needRange_s : OkS M_Camp_needRange 3 := ⟨k_Camp_needRange_ok, gm_5 (List.mem_of_getElem? (i := 29) rfl) rfl⟩
theorem k_Camp_needRow_ok : OkI M_Camp_needRow 2 := ⟨gm_4 (List.mem_of_getElem? (i := 174) rfl) rfl, gm_1 (List.mem_of_getElem? (i := 1) rfl) rfl, by decide, by decide, by decide +kernel⟩
theorem k_Camp_needRow_s : OkS M_Camp_needRow 2 := ⟨k_Camp_needRow_ok, gm_4 (List.mem_of_getElem? (i := 173) rfl) rfl⟩
theorem k_Camp_needWhat_ok : OkI M_Camp_needWhat 2 := ⟨gm_4 (List.mem_of_getElem? (i := 148) rfl) rfl, gm_1 (List.mem_of_getElem? (i := 1) rfl) rfl, by decide, by decide, by decide +kernel⟩
theorem k_Camp_needWhat_s : OkS M_Camp_needWhat 2 := ⟨k_Camp_needWhat_ok, gm_4 (List.mem_of_getElem? (i := 147) rfl) rfl⟩
theorem k_Camp_pass_ok : OkI M_Camp_pass 1 := ⟨gm_5 (List.mem_of_getElem? (i := 72) rfl) rfl, gm_1 (List.mem_of_getElem? (i := 1) rfl) rfl, by decide, by decide, by decide +kernel⟩
theorem k_Camp_pass_v : OkV M_Camp_pass 1 := ⟨k_Camp_pass_ok, rfl, gm_5 (List.mem_of_getElem? (i := 70) rfl) rfl, gm_5 (List.mem_of_getElem? (i := 71) rfl) rfl⟩
theorem k_Camp_probe_ok : OkI M_Camp_probe 2 := ⟨gm_5 (List.mem_of_getElem? (i := 15) rfl) rfl, gm_1 (List.mem_of_getElem? (i := 1) rfl) rfl, by decide, by decide, by decide +kernel⟩
theorem k_Camp_probe_v : OkV M_Camp_probe 2 := ⟨k_Camp_probe_ok, rfl, gm_5 (List.mem_of_getElem? (i := 13) rfl) rfl, gm_5 (List.mem_of_getElem? (i := 14) rfl) rfl⟩
theorem k_Camp_safe_ok : OkI M_Camp_safe 2 := ⟨gm_5 (List.mem_of_getElem? (i := 179) rfl) rfl, gm_1 (List.mem_of_getElem? (i := 1) rfl) rfl, by decide, by decide, by decide +kernel⟩
theorem k_Camp_safe_v : OkV M_Camp_safe 2 := ⟨k_Camp_safe_ok, rfl, gm_5 (List.mem_of_getElem? (i := 177) rfl) rfl, gm_5 (List.mem_of_getElem? (i := 178) rfl) rfl⟩
theorem k_Camp_setWarm_ok : OkI M_Camp_setWarm 2 := ⟨gm_5 (List.mem_of_getElem? (i := 63) rfl) rfl, gm_1 (List.mem_of_getElem? (i := 1) rfl) rfl, by decide, by decide, by decide +kernel⟩
theorem k_Camp_setWarm_v : OkV M_Camp_setWarm 2 := ⟨k_Camp_setWarm_ok, rfl, gm_5 (List.mem_of_getElem? (i := 61) rfl) rfl, gm_5 (List.mem_of_getElem? (i := 62) rfl) rfl⟩
theorem k_Camp_stake_ok : OkI M_Camp_stake 2 := ⟨gm_4 (List.mem_of_getElem? (i := 186) rfl) rfl, gm_1 (List.mem_of_getElem? (i := 1) rfl) rfl, by decide, by decide, by decide +kernel⟩
theorem k_Camp_stake_v : OkV M_Camp_stake 2 := ⟨k_Camp_stake_ok, rfl, gm_4 (List.mem_of_getElem? (i := 184) rfl) rfl, gm_4 (List.mem_of_getElem? (i := 185) rfl) rfl⟩
theorem k_Camp_stock_ok : OkI M_Camp_stock 2 := ⟨gm_5 (List.mem_of_getElem? (i := 54) rfl) rfl, gm_1 (List.mem_of_getElem? (i := 1) rfl) rfl, by decide, by decide, by decide +kernel⟩
theorem k_Camp_stock_v : OkV M_Camp_stock 2 := ⟨k_Camp_stock_ok, rfl, gm_5 (List.mem_of_getElem? (i := 52) rfl) rfl, gm_5 (List.mem_of_getElem? (i := 53) rfl) rfl⟩
theorem k_Camp_takeOverDraft_ok : OkI M_Camp_takeOverDraft 0 := ⟨gm_3 (List.mem_of_getElem? (i := 211) rfl) rfl, gm_1 (List.mem_of_getElem? (i := 1) rfl) rfl, by decide, by decide, by decide +kernel⟩
theorem k_Camp_takeOverDraft_v : OkV M_Camp_takeOverDraft 0 := ⟨k_Camp_takeOverDraft_ok, rfl, gm_3 (List.mem_of_getElem? (i := 210) rfl) rfl, gp_2 (List.mem_of_getElem? (i := 9) rfl)⟩
theorem k_Camp_teach_ok : OkI M_Camp_teach 0 := ⟨gm_1 (List.mem_of_getElem? (i := 213) rfl) rfl, gm_1 (List.mem_of_getElem? (i := 1) rfl) rfl, by decide, by decide, by decide +kernel⟩
theorem k_Camp_teach_v : OkV M_Camp_teach 0 := ⟨k_Camp_teach_ok, rfl, gm_1 (List.mem_of_getElem? (i := 211) rfl) rfl, gm_1 (List.mem_of_getElem? (i := 212) rfl) rfl⟩
theorem k_Camp_team_ok : OkI M_Camp_team 2 := ⟨gm_4 (List.mem_of_getElem? (i := 207) rfl) rfl, gm_1 (List.mem_of_getElem? (i := 1) rfl) rfl, by decide, by decide, by decide +kernel⟩
theorem k_Camp_team_v : OkV M_Camp_team 2 := ⟨k_Camp_team_ok, rfl, gm_4 (List.mem_of_getElem? (i := 205) rfl) rfl, gm_4 (List.mem_of_getElem? (i := 206) rfl) rfl⟩
theorem k_Camp_trim_ok : OkI M_Camp_trim 1 := ⟨gm_4 (List.mem_of_getElem? (i := 121) rfl) rfl, gm_1 (List.mem_of_getElem? (i := 1) rfl) rfl, by decide, by decide, by decide +kernel⟩
theorem k_Camp_trim_v : OkV M_Camp_trim 1 := ⟨k_Camp_trim_ok, rfl, gm_4 (List.mem_of_getElem? (i := 119) rfl) rfl, gm_4 (List.mem_of_getElem? (i := 120) rfl) rfl⟩
theorem k_Camp_until_ok : OkI M_Camp_until 1 := ⟨gm_5 (List.mem_of_getElem? (i := 156) rfl) rfl, gm_1 (List.mem_of_getElem? (i := 1) rfl) rfl, by decide, by decide, by decide +kernel⟩
theorem k_Camp_until_v : OkV M_Camp_until 1 := ⟨k_Camp_until_ok, rfl, gm_5 (List.mem_of_getElem? (i := 154) rfl) rfl, gm_5 (List.mem_of_getElem? (i := 155) rfl) rfl⟩
theorem k_Formulas_init_ok : OkI M_Formulas_init 0 := ⟨gm_1 (List.mem_of_getElem? (i := 161) rfl) rfl, gm_1 (List.mem_of_getElem? (i := 9) rfl) rfl, by decide, by decide, by decide +kernel⟩
theorem k_Formulas_init_n : OkN M_Formulas_init 0 := ⟨k_Formulas_init_ok, rfl, rfl, rfl, gm_1 (List.mem_of_getElem? (i := 160) rfl) rfl⟩
theorem k_Formulas_clear_ok : OkI M_Formulas_clear 0 := ⟨gm_1 (List.mem_of_getElem? (i := 227) rfl) rfl, gm_1 (List.mem_of_getElem? (i := 9) rfl) rfl, by decide, by decide, by decide +kernel⟩
theorem k_Formulas_clear_v : OkV M_Formulas_clear 0 := ⟨k_Formulas_clear_ok, rfl, gm_1 (List.mem_of_getElem? (i := 225) rfl) rfl, gm_1 (List.mem_of_getElem? (i := 226) rfl) rfl⟩
theorem k_Formulas_joined_ok : OkI M_Formulas_joined 3 := ⟨gm_5 (List.mem_of_getElem? (i := 106) rfl) rfl, gm_1 (List.mem_of_getElem? (i := 9) rfl) rfl, by decide, by decide, by decide +kernel⟩
theorem k_Formulas_joined_s : OkS M_Formulas_joined 3 := ⟨k_Formulas_joined_ok, gm_5 (List.mem_of_getElem? (i := 105) rfl) rfl⟩
theorem k_Formulas_pop_ok : OkI M_Formulas_pop 0 := ⟨gm_5 (List.mem_of_getElem? (i := 103) rfl) rfl, gm_1 (List.mem_of_getElem? (i := 9) rfl) rfl, by decide, by decide, by decide +kernel⟩
theorem k_Formulas_pop_v : OkV M_Formulas_pop 0 := ⟨k_Formulas_pop_ok, rfl, gm_5 (List.mem_of_getElem? (i := 102) rfl) rfl, gp_3 (List.mem_of_getElem? (i := 2) rfl)⟩
theorem k_Formulas_push_ok : OkI M_Formulas_push 1 := ⟨gm_5 (List.mem_of_getElem? (i := 91) rfl) rfl, gm_1 (List.mem_of_getElem? (i := 9) rfl) rfl, by decide, by decide, by decide +kernel⟩
theorem k_Formulas_push_v : OkV M_Formulas_push 1 := ⟨k_Formulas_push_ok, rfl, gm_5 (List.mem_of_getElem? (i := 90) rfl) rfl, gp_3 (List.mem_of_getElem? (i := 1) rfl)⟩
theorem k_Formulas_put_ok : OkI M_Formulas_put 2 := ⟨gm_3 (List.mem_of_getElem? (i := 110) rfl) rfl, gm_1 (List.mem_of_getElem? (i := 9) rfl) rfl, by decide, by decide, by decide +kernel⟩
theorem k_Formulas_put_v : OkV M_Formulas_put 2 := ⟨k_Formulas_put_ok, rfl, gm_3 (List.mem_of_getElem? (i := 108) rfl) rfl, gm_3 (List.mem_of_getElem? (i := 109) rfl) rfl⟩
theorem k_Formulas_size_ok : OkI M_Formulas_size 0 := ⟨gm_3 (List.mem_of_getElem? (i := 88) rfl) rfl, gm_1 (List.mem_of_getElem? (i := 9) rfl) rfl, by decide, by decide, by decide +kernel⟩
theorem k_Formulas_size_v : OkV M_Formulas_size 0 := ⟨k_Formulas_size_ok, rfl, gm_3 (List.mem_of_getElem? (i := 86) rfl) rfl, gm_3 (List.mem_of_getElem? (i := 87) rfl) rfl⟩
theorem k_Formulas_worth_ok : OkI M_Formulas_worth 3 := ⟨gm_5 (List.mem_of_getElem? (i := 86) rfl) rfl, gm_1 (List.mem_of_getElem? (i := 9) rfl) rfl, by decide, by decide, by decide +kernel⟩
theorem k_Formulas_worth_v : OkV M_Formulas_worth 3 := ⟨k_Formulas_worth_ok, rfl, gm_5 (List.mem_of_getElem? (i := 84) rfl) rfl, gm_5 (List.mem_of_getElem? (i := 85) rfl) rfl⟩
theorem k_Glacier_init_ok : OkI M_Glacier_init 0 := ⟨gm_1 (List.mem_of_getElem? (i := 95) rfl) rfl, gm_1 (List.mem_of_getElem? (i := 6) rfl) rfl, by decide, by decide, by decide +kernel⟩
theorem k_Glacier_init_n : OkN M_Glacier_init 0 := ⟨k_Glacier_init_ok, rfl, rfl, rfl, gm_1 (List.mem_of_getElem? (i := 94) rfl) rfl⟩
theorem k_Glacier_addBand_ok : OkI M_Glacier_addBand 2 := ⟨gm_2 (List.mem_of_getElem? (i := 231) rfl) rfl, gm_1 (List.mem_of_getElem? (i := 6) rfl) rfl, by decide, by decide, by decide +kernel⟩
theorem k_Glacier_addBand_v : OkV M_Glacier_addBand 2 := ⟨k_Glacier_addBand_ok, rfl, gm_2 (List.mem_of_getElem? (i := 229) rfl) rfl, gm_2 (List.mem_of_getElem? (i := 230) rfl) rfl⟩
theorem k_Glacier_addCrevasse_ok : OkI M_Glacier_addCrevasse 2 := ⟨gm_3 (List.mem_of_getElem? (i := 27) rfl) rfl, gm_1 (List.mem_of_getElem? (i := 6) rfl) rfl, by decide, by decide, by decide +kernel⟩
theorem k_Glacier_addCrevasse_v : OkV M_Glacier_addCrevasse 2 := ⟨k_Glacier_addCrevasse_ok, rfl, gm_3 (List.mem_of_getElem? (i := 25) rfl) rfl, gm_3 (List.mem_of_getElem? (i := 26) rfl) rfl⟩
theorem k_Glacier_addDepot_ok : OkI M_Glacier_addDepot 2 := ⟨gm_3 (List.mem_of_getElem? (i := 37) rfl) rfl, gm_1 (List.mem_of_getElem? (i := 6) rfl) rfl, by decide, by decide, by decide +kernel⟩
theorem k_Glacier_addDepot_v : OkV M_Glacier_addDepot 2 := ⟨k_Glacier_addDepot_ok, rfl, gm_3 (List.mem_of_getElem? (i := 35) rfl) rfl, gm_3 (List.mem_of_getElem? (i := 36) rfl) rfl⟩
theorem k_Glacier_addStake_ok : OkI M_Glacier_addStake 2 := ⟨gm_3 (List.mem_of_getElem? (i := 15) rfl) rfl, gm_1 (List.mem_of_getElem? (i := 6) rfl) rfl, by decide, by decide, by decide +kernel⟩
theorem k_Glacier_addStake_v : OkV M_Glacier_addStake 2 := ⟨k_Glacier_addStake_ok, rfl, gm_3 (List.mem_of_getElem? (i := 13) rfl) rfl, gm_3 (List.mem_of_getElem? (i := 14) rfl) rfl⟩
theorem k_Glacier_addTeam_ok : OkI M_Glacier_addTeam 3 := ⟨gm_3 (List.mem_of_getElem? (i := 47) rfl) rfl, gm_1 (List.mem_of_getElem? (i := 6) rfl) rfl, by decide, by decide, by decide +kernel⟩
theorem k_Glacier_addTeam_v : OkV M_Glacier_addTeam 3 := ⟨k_Glacier_addTeam_ok, rfl, gm_3 (List.mem_of_getElem? (i := 45) rfl) rfl, gm_3 (List.mem_of_getElem? (i := 46) rfl) rfl⟩
theorem k_Glacier_bandFact_ok : OkI M_Glacier_bandFact 2 := ⟨gm_4 (List.mem_of_getElem? (i := 18) rfl) rfl, gm_1 (List.mem_of_getElem? (i := 6) rfl) rfl, by decide, by decide, by decide +kernel⟩
theorem k_Glacier_bandFact_v : OkV M_Glacier_bandFact 2 := ⟨k_Glacier_bandFact_ok, rfl, gm_4 (List.mem_of_getElem? (i := 16) rfl) rfl, gm_4 (List.mem_of_getElem? (i := 17) rfl) rfl⟩
theorem k_Glacier_become_ok : OkI M_Glacier_become 1 := ⟨gm_5 (List.mem_of_getElem? (i := 160) rfl) rfl, gm_1 (List.mem_of_getElem? (i := 6) rfl) rfl, by decide, by decide, by decide +kernel⟩
theorem k_Glacier_become_v : OkV M_Glacier_become 1 := ⟨k_Glacier_become_ok, rfl, gm_5 (List.mem_of_getElem? (i := 158) rfl) rfl, gm_5 (List.mem_of_getElem? (i := 159) rfl) rfl⟩
theorem k_Glacier_beginAnew_ok : OkI M_Glacier_beginAnew 1 := ⟨gm_1 (List.mem_of_getElem? (i := 113) rfl) rfl, gm_1 (List.mem_of_getElem? (i := 6) rfl) rfl, by decide, by decide, by decide +kernel⟩
theorem k_Glacier_beginAnew_v : OkV M_Glacier_beginAnew 1 := ⟨k_Glacier_beginAnew_ok, rfl, gm_1 (List.mem_of_getElem? (i := 111) rfl) rfl, gm_1 (List.mem_of_getElem? (i := 112) rfl) rfl⟩
theorem k_Glacier_canDo_ok : OkI M_Glacier_canDo 1 := ⟨gm_4 (List.mem_of_getElem? (i := 226) rfl) rfl, gm_1 (List.mem_of_getElem? (i := 6) rfl) rfl, by decide, by decide, by decide +kernel⟩
theorem k_Glacier_canDo_v : OkV M_Glacier_canDo 1 := ⟨k_Glacier_canDo_ok, rfl, gm_4 (List.mem_of_getElem? (i := 225) rfl) rfl, gp_2 (List.mem_of_getElem? (i := 12) rfl)⟩
theorem k_Glacier_canGo_ok : OkI M_Glacier_canGo 2 := ⟨gm_4 (List.mem_of_getElem? (i := 222) rfl) rfl, gm_1 (List.mem_of_getElem? (i := 6) rfl) rfl, by decide, by decide, by decide +kernel⟩
theorem k_Glacier_canGo_v : OkV M_Glacier_canGo 2 := ⟨k_Glacier_canGo_ok, rfl, gm_4 (List.mem_of_getElem? (i := 220) rfl) rfl, gm_4 (List.mem_of_getElem? (i := 221) rfl) rfl⟩
theorem k_Glacier_changeWarmth_ok : OkI M_Glacier_changeWarmth 2 := ⟨gm_3 (List.mem_of_getElem? (i := 59) rfl) rfl, gm_1 (List.mem_of_getElem? (i := 6) rfl) rfl, by decide, by decide, by decide +kernel⟩
theorem k_Glacier_changeWarmth_v : OkV M_Glacier_changeWarmth 2 := ⟨k_Glacier_changeWarmth_ok, rfl, gm_3 (List.mem_of_getElem? (i := 57) rfl) rfl, gm_3 (List.mem_of_getElem? (i := 58) rfl) rfl⟩
theorem k_Glacier_crevasseFact_ok : OkI M_Glacier_crevasseFact 2 := ⟨gm_4 (List.mem_of_getElem? (i := 31) rfl) rfl, gm_1 (List.mem_of_getElem? (i := 6) rfl) rfl, by decide, by decide, by decide +kernel⟩
theorem k_Glacier_crevasseFact_v : OkV M_Glacier_crevasseFact 2 := ⟨k_Glacier_crevasseFact_ok, rfl, gm_4 (List.mem_of_getElem? (i := 29) rfl) rfl, gm_4 (List.mem_of_getElem? (i := 30) rfl) rfl⟩
theorem k_Glacier_day_ok : OkI M_Glacier_day 0 := ⟨gm_1 (List.mem_of_getElem? (i := 217) rfl) rfl, gm_1 (List.mem_of_getElem? (i := 6) rfl) rfl, by decide, by decide, by decide +kernel⟩
theorem k_Glacier_day_v : OkV M_Glacier_day 0 := ⟨k_Glacier_day_ok, rfl, gm_1 (List.mem_of_getElem? (i := 215) rfl) rfl, gm_1 (List.mem_of_getElem? (i := 216) rfl) rfl⟩
theorem k_Glacier_eat_ok : OkI M_Glacier_eat 1 := ⟨gm_5 (List.mem_of_getElem? (i := 133) rfl) rfl, gm_1 (List.mem_of_getElem? (i := 6) rfl) rfl, by decide, by decide, by decide +kernel⟩
theorem k_Glacier_eat_v : OkV M_Glacier_eat 1 := ⟨k_Glacier_eat_ok, rfl, gm_5 (List.mem_of_getElem? (i := 132) rfl) rfl, gp_3 (List.mem_of_getElem? (i := 6) rfl)⟩
theorem k_Glacier_endDay_ok : OkI M_Glacier_endDay 0 := ⟨gm_5 (List.mem_of_getElem? (i := 141) rfl) rfl, gm_1 (List.mem_of_getElem? (i := 6) rfl) rfl, by decide, by decide, by decide +kernel⟩
theorem k_Glacier_endDay_v : OkV M_Glacier_endDay 0 := ⟨k_Glacier_endDay_ok, rfl, gm_5 (List.mem_of_getElem? (i := 140) rfl) rfl, gp_3 (List.mem_of_getElem? (i := 8) rfl)⟩
theorem k_Glacier_fallingPlace_ok : OkI M_Glacier_fallingPlace 2 := ⟨gm_4 (List.mem_of_getElem? (i := 235) rfl) rfl, gm_1 (List.mem_of_getElem? (i := 6) rfl) rfl, by decide, by decide, by decide +kernel⟩
theorem k_Glacier_fallingPlace_v : OkV M_Glacier_fallingPlace 2 := ⟨k_Glacier_fallingPlace_ok, rfl, gm_4 (List.mem_of_getElem? (i := 233) rfl) rfl, gm_4 (List.mem_of_getElem? (i := 234) rfl) rfl⟩
theorem k_Glacier_firstStore_ok : OkI M_Glacier_firstStore 1 := ⟨gm_5 (List.mem_of_getElem? (i := 39) rfl) rfl, gm_1 (List.mem_of_getElem? (i := 6) rfl) rfl, by decide, by decide, by decide +kernel⟩
theorem k_Glacier_firstStore_v : OkV M_Glacier_firstStore 1 := ⟨k_Glacier_firstStore_ok, rfl, gm_5 (List.mem_of_getElem? (i := 38) rfl) rfl, gp_3 (List.mem_of_getElem? (i := 0) rfl)⟩
theorem k_Glacier_isHere_ok : OkI M_Glacier_isHere 1 := ⟨gm_5 (List.mem_of_getElem? (i := 43) rfl) rfl, gm_1 (List.mem_of_getElem? (i := 6) rfl) rfl, by decide, by decide, by decide +kernel⟩
theorem k_Glacier_isHere_v : OkV M_Glacier_isHere 1 := ⟨k_Glacier_isHere_ok, rfl, gm_5 (List.mem_of_getElem? (i := 41) rfl) rfl, gm_5 (List.mem_of_getElem? (i := 42) rfl) rfl⟩
theorem k_Glacier_isTooWeak_ok : OkI M_Glacier_isTooWeak 3 := ⟨gm_4 (List.mem_of_getElem? (i := 231) rfl) rfl, gm_1 (List.mem_of_getElem? (i := 6) rfl) rfl, by decide, by decide, by decide +kernel⟩
theorem k_Glacier_isTooWeak_v : OkV M_Glacier_isTooWeak 3 := ⟨k_Glacier_isTooWeak_ok, rfl, gm_4 (List.mem_of_getElem? (i := 230) rfl) rfl, gp_2 (List.mem_of_getElem? (i := 13) rfl)⟩
theorem k_Glacier_letCross_ok : OkI M_Glacier_letCross 2 := ⟨gm_5 (List.mem_of_getElem? (i := 7) rfl) rfl, gm_1 (List.mem_of_getElem? (i := 6) rfl) rfl, by decide, by decide, by decide +kernel⟩
theorem k_Glacier_letCross_v : OkV M_Glacier_letCross 2 := ⟨k_Glacier_letCross_ok, rfl, gm_5 (List.mem_of_getElem? (i := 6) rfl) rfl, gp_2 (List.mem_of_getElem? (i := 15) rfl)⟩
theorem k_Glacier_letFall_ok : OkI M_Glacier_letFall 2 := ⟨gm_4 (List.mem_of_getElem? (i := 239) rfl) rfl, gm_1 (List.mem_of_getElem? (i := 6) rfl) rfl, by decide, by decide, by decide +kernel⟩
theorem k_Glacier_letFall_v : OkV M_Glacier_letFall 2 := ⟨k_Glacier_letFall_ok, rfl, gm_4 (List.mem_of_getElem? (i := 238) rfl) rfl, gp_2 (List.mem_of_getElem? (i := 14) rfl)⟩
theorem k_Glacier_moveBridges_ok : OkI M_Glacier_moveBridges 2 := ⟨gm_5 (List.mem_of_getElem? (i := 129) rfl) rfl, gm_1 (List.mem_of_getElem? (i := 6) rfl) rfl, by decide, by decide, by decide +kernel⟩
theorem k_Glacier_moveBridges_v : OkV M_Glacier_moveBridges 2 := ⟨k_Glacier_moveBridges_ok, rfl, gm_5 (List.mem_of_getElem? (i := 128) rfl) rfl, gp_3 (List.mem_of_getElem? (i := 5) rfl)⟩
theorem k_Glacier_moveStakes_ok : OkI M_Glacier_moveStakes 2 := ⟨gm_5 (List.mem_of_getElem? (i := 125) rfl) rfl, gm_1 (List.mem_of_getElem? (i := 6) rfl) rfl, by decide, by decide, by decide +kernel⟩
theorem k_Glacier_moveStakes_v : OkV M_Glacier_moveStakes 2 := ⟨k_Glacier_moveStakes_ok, rfl, gm_5 (List.mem_of_getElem? (i := 124) rfl) rfl, gp_3 (List.mem_of_getElem? (i := 4) rfl)⟩
theorem k_Glacier_passDay_ok : OkI M_Glacier_passDay 1 := ⟨gm_5 (List.mem_of_getElem? (i := 76) rfl) rfl, gm_1 (List.mem_of_getElem? (i := 6) rfl) rfl, by decide, by decide, by decide +kernel⟩
theorem k_Glacier_passDay_v : OkV M_Glacier_passDay 1 := ⟨k_Glacier_passDay_ok, rfl, gm_5 (List.mem_of_getElem? (i := 74) rfl) rfl, gm_5 (List.mem_of_getElem? (i := 75) rfl) rfl⟩
theorem k_Glacier_readStakes_ok : OkI M_Glacier_readStakes 1 := ⟨gm_5 (List.mem_of_getElem? (i := 137) rfl) rfl, gm_1 (List.mem_of_getElem? (i := 6) rfl) rfl, by decide, by decide, by decide +kernel⟩
theorem k_Glacier_readStakes_v : OkV M_Glacier_readStakes 1 := ⟨k_Glacier_readStakes_ok, rfl, gm_5 (List.mem_of_getElem? (i := 136) rfl) rfl, gp_3 (List.mem_of_getElem? (i := 7) rfl)⟩
theorem k_Glacier_takeFood_ok : OkI M_Glacier_takeFood 2 := ⟨gm_5 (List.mem_of_getElem? (i := 35) rfl) rfl, gm_1 (List.mem_of_getElem? (i := 6) rfl) rfl, by decide, by decide, by decide +kernel⟩
theorem k_Glacier_takeFood_v : OkV M_Glacier_takeFood 2 := ⟨k_Glacier_takeFood_ok, rfl, gm_5 (List.mem_of_getElem? (i := 33) rfl) rfl, gm_5 (List.mem_of_getElem? (i := 34) rfl) rfl⟩
theorem k_Glacier_total_ok : OkI M_Glacier_total 1 := ⟨gm_4 (List.mem_of_getElem? (i := 12) rfl) rfl, gm_1 (List.mem_of_getElem? (i := 6) rfl) rfl, by decide, by decide, by decide +kernel⟩
theorem k_Glacier_total_v : OkV M_Glacier_total 1 := ⟨k_Glacier_total_ok, rfl, gm_4 (List.mem_of_getElem? (i := 10) rfl) rfl, gm_4 (List.mem_of_getElem? (i := 11) rfl) rfl⟩
theorem k_Glacier_tryDrill_ok : OkI M_Glacier_tryDrill 1 := ⟨gm_5 (List.mem_of_getElem? (i := 117) rfl) rfl, gm_1 (List.mem_of_getElem? (i := 6) rfl) rfl, by decide, by decide, by decide +kernel⟩
theorem k_Glacier_tryDrill_v : OkV M_Glacier_tryDrill 1 := ⟨k_Glacier_tryDrill_ok, rfl, gm_5 (List.mem_of_getElem? (i := 115) rfl) rfl, gm_5 (List.mem_of_getElem? (i := 116) rfl) rfl⟩
theorem k_Glacier_tryGo_ok : OkI M_Glacier_tryGo 2 := ⟨gm_4 (List.mem_of_getElem? (i := 218) rfl) rfl, gm_1 (List.mem_of_getElem? (i := 6) rfl) rfl, by decide, by decide, by decide +kernel⟩
theorem k_Glacier_tryGo_v : OkV M_Glacier_tryGo 2 := ⟨k_Glacier_tryGo_ok, rfl, gm_4 (List.mem_of_getElem? (i := 216) rfl) rfl, gm_4 (List.mem_of_getElem? (i := 217) rfl) rfl⟩
theorem k_Glacier_tryProbe_ok : OkI M_Glacier_tryProbe 2 := ⟨gm_5 (List.mem_of_getElem? (i := 19) rfl) rfl, gm_1 (List.mem_of_getElem? (i := 6) rfl) rfl, by decide, by decide, by decide +kernel⟩
theorem k_Glacier_tryProbe_v : OkV M_Glacier_tryProbe 2 := ⟨k_Glacier_tryProbe_ok, rfl, gm_5 (List.mem_of_getElem? (i := 17) rfl) rfl, gm_5 (List.mem_of_getElem? (i := 18) rfl) rfl⟩
theorem k_Glacier_valueOf_ok : OkI M_Glacier_valueOf 2 := ⟨gm_5 (List.mem_of_getElem? (i := 95) rfl) rfl, gm_1 (List.mem_of_getElem? (i := 6) rfl) rfl, by decide, by decide, by decide +kernel⟩
theorem k_Glacier_valueOf_v : OkV M_Glacier_valueOf 2 := ⟨k_Glacier_valueOf_ok, rfl, gm_5 (List.mem_of_getElem? (i := 93) rfl) rfl, gm_5 (List.mem_of_getElem? (i := 94) rfl) rfl⟩
theorem k_Glacier_warmthOf_ok : OkI M_Glacier_warmthOf 1 := ⟨gm_4 (List.mem_of_getElem? (i := 7) rfl) rfl, gm_1 (List.mem_of_getElem? (i := 6) rfl) rfl, by decide, by decide, by decide +kernel⟩
theorem k_Glacier_warmthOf_v : OkV M_Glacier_warmthOf 1 := ⟨k_Glacier_warmthOf_ok, rfl, gm_4 (List.mem_of_getElem? (i := 5) rfl) rfl, gm_4 (List.mem_of_getElem? (i := 6) rfl) rfl⟩
theorem k_Glacier_warmthToday_ok : OkI M_Glacier_warmthToday 0 := ⟨gm_4 (List.mem_of_getElem? (i := 3) rfl) rfl, gm_1 (List.mem_of_getElem? (i := 6) rfl) rfl, by decide, by decide, by decide +kernel⟩
theorem k_Glacier_warmthToday_v : OkV M_Glacier_warmthToday 0 := ⟨k_Glacier_warmthToday_ok, rfl, gm_4 (List.mem_of_getElem? (i := 1) rfl) rfl, gm_4 (List.mem_of_getElem? (i := 2) rfl) rfl⟩
theorem k_Glacier_weather_ok : OkI M_Glacier_weather 1 := ⟨gm_5 (List.mem_of_getElem? (i := 121) rfl) rfl, gm_1 (List.mem_of_getElem? (i := 6) rfl) rfl, by decide, by decide, by decide +kernel⟩
theorem k_Glacier_weather_v : OkV M_Glacier_weather 1 := ⟨k_Glacier_weather_ok, rfl, gm_5 (List.mem_of_getElem? (i := 120) rfl) rfl, gp_3 (List.mem_of_getElem? (i := 3) rfl)⟩
theorem k_Names_init_ok : OkI M_Names_init 0 := ⟨gm_2 (List.mem_of_getElem? (i := 104) rfl) rfl, gm_1 (List.mem_of_getElem? (i := 23) rfl) rfl, by decide, by decide, by decide +kernel⟩
theorem k_Names_init_n : OkN M_Names_init 0 := ⟨k_Names_init_ok, rfl, rfl, rfl, gm_2 (List.mem_of_getElem? (i := 103) rfl) rfl⟩
theorem k_Names_add_ok : OkI M_Names_add 1 := ⟨gm_2 (List.mem_of_getElem? (i := 213) rfl) rfl, gm_1 (List.mem_of_getElem? (i := 23) rfl) rfl, by decide, by decide, by decide +kernel⟩
theorem k_Names_add_v : OkV M_Names_add 1 := ⟨k_Names_add_ok, rfl, gm_2 (List.mem_of_getElem? (i := 211) rfl) rfl, gm_2 (List.mem_of_getElem? (i := 212) rfl) rfl⟩
theorem k_Names_find_ok : OkI M_Names_find 1 := ⟨gm_2 (List.mem_of_getElem? (i := 197) rfl) rfl, gm_1 (List.mem_of_getElem? (i := 23) rfl) rfl, by decide, by decide, by decide +kernel⟩
theorem k_Names_find_v : OkV M_Names_find 1 := ⟨k_Names_find_ok, rfl, gm_2 (List.mem_of_getElem? (i := 195) rfl) rfl, gm_2 (List.mem_of_getElem? (i := 196) rfl) rfl⟩
theorem k_Names_size_ok : OkI M_Names_size 0 := ⟨gm_2 (List.mem_of_getElem? (i := 209) rfl) rfl, gm_1 (List.mem_of_getElem? (i := 23) rfl) rfl, by decide, by decide, by decide +kernel⟩
theorem k_Names_size_v : OkV M_Names_size 0 := ⟨k_Names_size_ok, rfl, gm_2 (List.mem_of_getElem? (i := 207) rfl) rfl, gm_2 (List.mem_of_getElem? (i := 208) rfl) rfl⟩
theorem k_Orders_init_ok : OkI M_Orders_init 0 := ⟨gm_1 (List.mem_of_getElem? (i := 153) rfl) rfl, gm_1 (List.mem_of_getElem? (i := 8) rfl) rfl, by decide, by decide, by decide +kernel⟩
theorem k_Orders_init_n : OkN M_Orders_init 0 := ⟨k_Orders_init_ok, rfl, rfl, rfl, gm_1 (List.mem_of_getElem? (i := 152) rfl) rfl⟩
theorem k_Orders_add_ok : OkI M_Orders_add 1 := ⟨gm_3 (List.mem_of_getElem? (i := 71) rfl) rfl, gm_1 (List.mem_of_getElem? (i := 8) rfl) rfl, by decide, by decide, by decide +kernel⟩
theorem k_Orders_add_v : OkV M_Orders_add 1 := ⟨k_Orders_add_ok, rfl, gm_3 (List.mem_of_getElem? (i := 69) rfl) rfl, gm_3 (List.mem_of_getElem? (i := 70) rfl) rfl⟩
theorem k_Orders_carryOut_ok : OkI M_Orders_carryOut 2 := ⟨gm_5 (List.mem_of_getElem? (i := 81) rfl) rfl, gm_1 (List.mem_of_getElem? (i := 8) rfl) rfl, by decide, by decide, by decide +kernel⟩
theorem k_Orders_carryOut_v : OkV M_Orders_carryOut 2 := ⟨k_Orders_carryOut_ok, rfl, gm_5 (List.mem_of_getElem? (i := 79) rfl) rfl, gm_5 (List.mem_of_getElem? (i := 80) rfl) rfl⟩
theorem k_Orders_clear_ok : OkI M_Orders_clear 0 := ⟨gm_1 (List.mem_of_getElem? (i := 222) rfl) rfl, gm_1 (List.mem_of_getElem? (i := 8) rfl) rfl, by decide, by decide, by decide +kernel⟩
theorem k_Orders_clear_v : OkV M_Orders_clear 0 := ⟨k_Orders_clear_ok, rfl, gm_1 (List.mem_of_getElem? (i := 220) rfl) rfl, gm_1 (List.mem_of_getElem? (i := 221) rfl) rfl⟩
theorem k_Orders_note_ok : OkI M_Orders_note 2 := ⟨gm_3 (List.mem_of_getElem? (i := 77) rfl) rfl, gm_1 (List.mem_of_getElem? (i := 8) rfl) rfl, by decide, by decide, by decide +kernel⟩
theorem k_Orders_note_v : OkV M_Orders_note 2 := ⟨k_Orders_note_ok, rfl, gm_3 (List.mem_of_getElem? (i := 75) rfl) rfl, gm_3 (List.mem_of_getElem? (i := 76) rfl) rfl⟩
theorem k_Orders_size_ok : OkI M_Orders_size 0 := ⟨gm_3 (List.mem_of_getElem? (i := 239) rfl) rfl, gm_1 (List.mem_of_getElem? (i := 8) rfl) rfl, by decide, by decide, by decide +kernel⟩
theorem k_Orders_size_v : OkV M_Orders_size 0 := ⟨k_Orders_size_ok, rfl, gm_3 (List.mem_of_getElem? (i := 237) rfl) rfl, gm_3 (List.mem_of_getElem? (i := 238) rfl) rfl⟩
theorem k_Table_init_ok : OkI M_Table_init 1 := ⟨gm_1 (List.mem_of_getElem? (i := 101) rfl) rfl, gm_1 (List.mem_of_getElem? (i := 7) rfl) rfl, by decide, by decide, by decide +kernel⟩
theorem k_Table_init_n : OkN M_Table_init 1 := ⟨k_Table_init_ok, rfl, rfl, rfl, gm_1 (List.mem_of_getElem? (i := 100) rfl) rfl⟩
theorem k_Table_add_ok : OkI M_Table_add 3 := ⟨gm_5 (List.mem_of_getElem? (i := 3) rfl) rfl, gm_1 (List.mem_of_getElem? (i := 7) rfl) rfl, by decide, by decide, by decide +kernel⟩
theorem k_Table_add_v : OkV M_Table_add 3 := ⟨k_Table_add_ok, rfl, gm_5 (List.mem_of_getElem? (i := 1) rfl) rfl, gm_5 (List.mem_of_getElem? (i := 2) rfl) rfl⟩
theorem k_Table_addRow_ok : OkI M_Table_addRow 0 := ⟨gm_2 (List.mem_of_getElem? (i := 235) rfl) rfl, gm_1 (List.mem_of_getElem? (i := 7) rfl) rfl, by decide, by decide, by decide +kernel⟩
theorem k_Table_addRow_v : OkV M_Table_addRow 0 := ⟨k_Table_addRow_ok, rfl, gm_2 (List.mem_of_getElem? (i := 233) rfl) rfl, gm_2 (List.mem_of_getElem? (i := 234) rfl) rfl⟩
theorem k_Table_become_ok : OkI M_Table_become 1 := ⟨gm_5 (List.mem_of_getElem? (i := 164) rfl) rfl, gm_1 (List.mem_of_getElem? (i := 7) rfl) rfl, by decide, by decide, by decide +kernel⟩
theorem k_Table_become_v : OkV M_Table_become 1 := ⟨k_Table_become_ok, rfl, gm_5 (List.mem_of_getElem? (i := 162) rfl) rfl, gm_5 (List.mem_of_getElem? (i := 163) rfl) rfl⟩
theorem k_Table_clear_ok : OkI M_Table_clear 0 := ⟨gm_1 (List.mem_of_getElem? (i := 117) rfl) rfl, gm_1 (List.mem_of_getElem? (i := 7) rfl) rfl, by decide, by decide, by decide +kernel⟩
theorem k_Table_clear_v : OkV M_Table_clear 0 := ⟨k_Table_clear_ok, rfl, gm_1 (List.mem_of_getElem? (i := 115) rfl) rfl, gm_1 (List.mem_of_getElem? (i := 116) rfl) rfl⟩
theorem k_Table_get_ok : OkI M_Table_get 2 := ⟨gm_2 (List.mem_of_getElem? (i := 179) rfl) rfl, gm_1 (List.mem_of_getElem? (i := 7) rfl) rfl, by decide, by decide, by decide +kernel⟩
theorem k_Table_get_v : OkV M_Table_get 2 := ⟨k_Table_get_ok, rfl, gm_2 (List.mem_of_getElem? (i := 177) rfl) rfl, gm_2 (List.mem_of_getElem? (i := 178) rfl) rfl⟩
theorem k_Table_has_ok : OkI M_Table_has 1 := ⟨gm_4 (List.mem_of_getElem? (i := 178) rfl) rfl, gm_1 (List.mem_of_getElem? (i := 7) rfl) rfl, by decide, by decide, by decide +kernel⟩
theorem k_Table_has_v : OkV M_Table_has 1 := ⟨k_Table_has_ok, rfl, gm_4 (List.mem_of_getElem? (i := 176) rfl) rfl, gm_4 (List.mem_of_getElem? (i := 177) rfl) rfl⟩
theorem k_Table_matches_ok : OkI M_Table_matches 4 := ⟨gm_4 (List.mem_of_getElem? (i := 22) rfl) rfl, gm_1 (List.mem_of_getElem? (i := 7) rfl) rfl, by decide, by decide, by decide +kernel⟩
theorem k_Table_matches_v : OkV M_Table_matches 4 := ⟨k_Table_matches_ok, rfl, gm_4 (List.mem_of_getElem? (i := 20) rfl) rfl, gm_4 (List.mem_of_getElem? (i := 21) rfl) rfl⟩
theorem k_Table_rows_ok : OkI M_Table_rows 0 := ⟨gm_2 (List.mem_of_getElem? (i := 175) rfl) rfl, gm_1 (List.mem_of_getElem? (i := 7) rfl) rfl, by decide, by decide, by decide +kernel⟩
theorem k_Table_rows_v : OkV M_Table_rows 0 := ⟨k_Table_rows_ok, rfl, gm_2 (List.mem_of_getElem? (i := 173) rfl) rfl, gm_2 (List.mem_of_getElem? (i := 174) rfl) rfl⟩
theorem k_Table_set_ok : OkI M_Table_set 3 := ⟨gm_2 (List.mem_of_getElem? (i := 239) rfl) rfl, gm_1 (List.mem_of_getElem? (i := 7) rfl) rfl, by decide, by decide, by decide +kernel⟩
theorem k_Table_set_v : OkV M_Table_set 3 := ⟨k_Table_set_ok, rfl, gm_2 (List.mem_of_getElem? (i := 237) rfl) rfl, gm_2 (List.mem_of_getElem? (i := 238) rfl) rfl⟩
theorem k_Table_sum_ok : OkI M_Table_sum 1 := ⟨gm_3 (List.mem_of_getElem? (i := 224) rfl) rfl, gm_1 (List.mem_of_getElem? (i := 7) rfl) rfl, by decide, by decide, by decide +kernel⟩
theorem k_Table_sum_v : OkV M_Table_sum 1 := ⟨k_Table_sum_ok, rfl, gm_3 (List.mem_of_getElem? (i := 222) rfl) rfl, gm_3 (List.mem_of_getElem? (i := 223) rfl) rfl⟩
theorem k_Tape_init_ok : OkI M_Tape_init 0 := ⟨gm_1 (List.mem_of_getElem? (i := 41) rfl) rfl, gm_1 (List.mem_of_getElem? (i := 2) rfl) rfl, by decide, by decide, by decide +kernel⟩
theorem k_Tape_init_n : OkN M_Tape_init 0 := ⟨k_Tape_init_ok, rfl, rfl, rfl, gm_1 (List.mem_of_getElem? (i := 40) rfl) rfl⟩
theorem k_Tape_append_ok : OkI M_Tape_append 1 := ⟨gm_4 (List.mem_of_getElem? (i := 113) rfl) rfl, gm_1 (List.mem_of_getElem? (i := 2) rfl) rfl, by decide, by decide, by decide +kernel⟩
theorem k_Tape_append_v : OkV M_Tape_append 1 := ⟨k_Tape_append_ok, rfl, gm_4 (List.mem_of_getElem? (i := 111) rfl) rfl, gm_4 (List.mem_of_getElem? (i := 112) rfl) rfl⟩
theorem k_Tape_byteAt_ok : OkI M_Tape_byteAt 1 := ⟨gm_2 (List.mem_of_getElem? (i := 2) rfl) rfl, gm_1 (List.mem_of_getElem? (i := 2) rfl) rfl, by decide, by decide, by decide +kernel⟩
theorem k_Tape_byteAt_v : OkV M_Tape_byteAt 1 := ⟨k_Tape_byteAt_ok, rfl, gm_2 (List.mem_of_getElem? (i := 0) rfl) rfl, gm_2 (List.mem_of_getElem? (i := 1) rfl) rfl⟩
theorem k_Tape_cut_ok : OkI M_Tape_cut 1 := ⟨gm_3 (List.mem_of_getElem? (i := 199) rfl) rfl, gm_1 (List.mem_of_getElem? (i := 2) rfl) rfl, by decide, by decide, by decide +kernel⟩
theorem k_Tape_cut_v : OkV M_Tape_cut 1 := ⟨k_Tape_cut_ok, rfl, gm_3 (List.mem_of_getElem? (i := 197) rfl) rfl, gm_3 (List.mem_of_getElem? (i := 198) rfl) rfl⟩
theorem k_Tape_size_ok : OkI M_Tape_size 0 := ⟨gm_1 (List.mem_of_getElem? (i := 238) rfl) rfl, gm_1 (List.mem_of_getElem? (i := 2) rfl) rfl, by decide, by decide, by decide +kernel⟩
theorem k_Tape_size_v : OkV M_Tape_size 0 := ⟨k_Tape_size_ok, rfl, gm_1 (List.mem_of_getElem? (i := 236) rfl) rfl, gm_1 (List.mem_of_getElem? (i := 237) rfl) rfl⟩
theorem k_Teacher_init_ok : OkI M_Teacher_init 3 := ⟨gm_2 (List.mem_of_getElem? (i := 98) rfl) rfl, gm_1 (List.mem_of_getElem? (i := 22) rfl) rfl, by decide, by decide, by decide +kernel⟩
theorem k_Teacher_init_n : OkN M_Teacher_init 3 := ⟨k_Teacher_init_ok, rfl, rfl, rfl, gm_2 (List.mem_of_getElem? (i := 97) rfl) rfl⟩
theorem k_Teacher_error_ok : OkI M_Teacher_error 0 := ⟨gm_3 (List.mem_of_getElem? (i := 207) rfl) rfl, gm_1 (List.mem_of_getElem? (i := 22) rfl) rfl, by decide, by decide, by decide +kernel⟩
theorem k_Teacher_error_v : OkV M_Teacher_error 0 := ⟨k_Teacher_error_ok, rfl, gm_3 (List.mem_of_getElem? (i := 205) rfl) rfl, gm_3 (List.mem_of_getElem? (i := 206) rfl) rfl⟩
theorem k_Teacher_errorPosition_ok : OkI M_Teacher_errorPosition 0 := ⟨gm_3 (List.mem_of_getElem? (i := 203) rfl) rfl, gm_1 (List.mem_of_getElem? (i := 22) rfl) rfl, by decide, by decide, by decide +kernel⟩
theorem k_Teacher_errorPosition_v : OkV M_Teacher_errorPosition 0 := ⟨k_Teacher_errorPosition_ok, rfl, gm_3 (List.mem_of_getElem? (i := 201) rfl) rfl, gm_3 (List.mem_of_getElem? (i := 202) rfl) rfl⟩
theorem k_Teacher_goesDeeper_ok : OkI M_Teacher_goesDeeper 1 := ⟨gm_3 (List.mem_of_getElem? (i := 106) rfl) rfl, gm_1 (List.mem_of_getElem? (i := 22) rfl) rfl, by decide, by decide, by decide +kernel⟩
theorem k_Teacher_goesDeeper_v : OkV M_Teacher_goesDeeper 1 := ⟨k_Teacher_goesDeeper_ok, rfl, gm_3 (List.mem_of_getElem? (i := 105) rfl) rfl, gp_2 (List.mem_of_getElem? (i := 1) rfl)⟩
theorem k_Teacher_isComparison_ok : OkI M_Teacher_isComparison 1 := ⟨gm_3 (List.mem_of_getElem? (i := 157) rfl) rfl, gm_1 (List.mem_of_getElem? (i := 22) rfl) rfl, by decide, by decide, by decide +kernel⟩
theorem k_Teacher_isComparison_s : OkS M_Teacher_isComparison 1 := ⟨k_Teacher_isComparison_ok, gm_3 (List.mem_of_getElem? (i := 156) rfl) rfl⟩
theorem k_Teacher_newName_ok : OkI M_Teacher_newName 2 := ⟨gm_2 (List.mem_of_getElem? (i := 183) rfl) rfl, gm_1 (List.mem_of_getElem? (i := 22) rfl) rfl, by decide, by decide, by decide +kernel⟩
theorem k_Teacher_newName_v : OkV M_Teacher_newName 2 := ⟨k_Teacher_newName_ok, rfl, gm_2 (List.mem_of_getElem? (i := 182) rfl) rfl, gp_1 (List.mem_of_getElem? (i := 2) rfl)⟩
theorem k_Teacher_newOrder_ok : OkI M_Teacher_newOrder 1 := ⟨gm_3 (List.mem_of_getElem? (i := 67) rfl) rfl, gm_1 (List.mem_of_getElem? (i := 22) rfl) rfl, by decide, by decide, by decide +kernel⟩
theorem k_Teacher_newOrder_v : OkV M_Teacher_newOrder 1 := ⟨k_Teacher_newOrder_ok, rfl, gm_3 (List.mem_of_getElem? (i := 66) rfl) rfl, gp_1 (List.mem_of_getElem? (i := 12) rfl)⟩
theorem k_Teacher_number_ok : OkI M_Teacher_number 3 := ⟨gm_2 (List.mem_of_getElem? (i := 219) rfl) rfl, gm_1 (List.mem_of_getElem? (i := 22) rfl) rfl, by decide, by decide, by decide +kernel⟩
theorem k_Teacher_number_v : OkV M_Teacher_number 3 := ⟨k_Teacher_number_ok, rfl, gm_2 (List.mem_of_getElem? (i := 218) rfl) rfl, gp_1 (List.mem_of_getElem? (i := 4) rfl)⟩
theorem k_Teacher_oldName_ok : OkI M_Teacher_oldName 2 := ⟨gm_3 (List.mem_of_getElem? (i := 9) rfl) rfl, gm_1 (List.mem_of_getElem? (i := 22) rfl) rfl, by decide, by decide, by decide +kernel⟩
theorem k_Teacher_oldName_v : OkV M_Teacher_oldName 2 := ⟨k_Teacher_oldName_ok, rfl, gm_3 (List.mem_of_getElem? (i := 8) rfl) rfl, gp_1 (List.mem_of_getElem? (i := 6) rfl)⟩
theorem k_Teacher_readBand_ok : OkI M_Teacher_readBand 0 := ⟨gm_2 (List.mem_of_getElem? (i := 171) rfl) rfl, gm_1 (List.mem_of_getElem? (i := 22) rfl) rfl, by decide, by decide, by decide +kernel⟩
theorem k_Teacher_readBand_v : OkV M_Teacher_readBand 0 := ⟨k_Teacher_readBand_ok, rfl, gm_2 (List.mem_of_getElem? (i := 170) rfl) rfl, gp_1 (List.mem_of_getElem? (i := 1) rfl)⟩
theorem k_Teacher_readBoth_ok : OkI M_Teacher_readBoth 1 := ⟨gm_3 (List.mem_of_getElem? (i := 96) rfl) rfl, gm_1 (List.mem_of_getElem? (i := 22) rfl) rfl, by decide, by decide, by decide +kernel⟩
theorem k_Teacher_readBoth_v : OkV M_Teacher_readBoth 1 := ⟨k_Teacher_readBoth_ok, rfl, gm_3 (List.mem_of_getElem? (i := 95) rfl) rfl, gp_1 (List.mem_of_getElem? (i := 15) rfl)⟩
theorem k_Teacher_readCrevasse_ok : OkI M_Teacher_readCrevasse 0 := ⟨gm_3 (List.mem_of_getElem? (i := 19) rfl) rfl, gm_1 (List.mem_of_getElem? (i := 22) rfl) rfl, by decide, by decide, by decide +kernel⟩
theorem k_Teacher_readCrevasse_v : OkV M_Teacher_readCrevasse 0 := ⟨k_Teacher_readCrevasse_ok, rfl, gm_3 (List.mem_of_getElem? (i := 18) rfl) rfl, gp_1 (List.mem_of_getElem? (i := 7) rfl)⟩
theorem k_Teacher_readDay_ok : OkI M_Teacher_readDay 0 := ⟨gm_3 (List.mem_of_getElem? (i := 51) rfl) rfl, gm_1 (List.mem_of_getElem? (i := 22) rfl) rfl, by decide, by decide, by decide +kernel⟩
theorem k_Teacher_readDay_v : OkV M_Teacher_readDay 0 := ⟨k_Teacher_readDay_ok, rfl, gm_3 (List.mem_of_getElem? (i := 50) rfl) rfl, gp_1 (List.mem_of_getElem? (i := 10) rfl)⟩
theorem k_Teacher_readDepot_ok : OkI M_Teacher_readDepot 0 := ⟨gm_3 (List.mem_of_getElem? (i := 31) rfl) rfl, gm_1 (List.mem_of_getElem? (i := 22) rfl) rfl, by decide, by decide, by decide +kernel⟩
theorem k_Teacher_readDepot_v : OkV M_Teacher_readDepot 0 := ⟨k_Teacher_readDepot_ok, rfl, gm_3 (List.mem_of_getElem? (i := 30) rfl) rfl, gp_1 (List.mem_of_getElem? (i := 8) rfl)⟩
theorem k_Teacher_readDrill_ok : OkI M_Teacher_readDrill 0 := ⟨gm_3 (List.mem_of_getElem? (i := 191) rfl) rfl, gm_1 (List.mem_of_getElem? (i := 22) rfl) rfl, by decide, by decide, by decide +kernel⟩
theorem k_Teacher_readDrill_v : OkV M_Teacher_readDrill 0 := ⟨k_Teacher_readDrill_ok, rfl, gm_3 (List.mem_of_getElem? (i := 190) rfl) rfl, gp_2 (List.mem_of_getElem? (i := 8) rfl)⟩
theorem k_Teacher_readFill_ok : OkI M_Teacher_readFill 0 := ⟨gm_3 (List.mem_of_getElem? (i := 183) rfl) rfl, gm_1 (List.mem_of_getElem? (i := 22) rfl) rfl, by decide, by decide, by decide +kernel⟩
theorem k_Teacher_readFill_v : OkV M_Teacher_readFill 0 := ⟨k_Teacher_readFill_ok, rfl, gm_3 (List.mem_of_getElem? (i := 182) rfl) rfl, gp_2 (List.mem_of_getElem? (i := 7) rfl)⟩
theorem k_Teacher_readGo_ok : OkI M_Teacher_readGo 1 := ⟨gm_3 (List.mem_of_getElem? (i := 63) rfl) rfl, gm_1 (List.mem_of_getElem? (i := 22) rfl) rfl, by decide, by decide, by decide +kernel⟩
theorem k_Teacher_readGo_v : OkV M_Teacher_readGo 1 := ⟨k_Teacher_readGo_ok, rfl, gm_3 (List.mem_of_getElem? (i := 62) rfl) rfl, gp_1 (List.mem_of_getElem? (i := 11) rfl)⟩
theorem k_Teacher_readList_ok : OkI M_Teacher_readList 0 := ⟨gm_2 (List.mem_of_getElem? (i := 150) rfl) rfl, gm_1 (List.mem_of_getElem? (i := 22) rfl) rfl, by decide, by decide, by decide +kernel⟩
theorem k_Teacher_readList_v : OkV M_Teacher_readList 0 := ⟨k_Teacher_readList_ok, rfl, gm_2 (List.mem_of_getElem? (i := 148) rfl) rfl, gm_2 (List.mem_of_getElem? (i := 149) rfl) rfl⟩
theorem k_Teacher_readNested_ok : OkI M_Teacher_readNested 2 := ⟨gm_3 (List.mem_of_getElem? (i := 136) rfl) rfl, gm_1 (List.mem_of_getElem? (i := 22) rfl) rfl, by decide, by decide, by decide +kernel⟩
theorem k_Teacher_readNested_v : OkV M_Teacher_readNested 2 := ⟨k_Teacher_readNested_ok, rfl, gm_3 (List.mem_of_getElem? (i := 135) rfl) rfl, gp_2 (List.mem_of_getElem? (i := 5) rfl)⟩
theorem k_Teacher_readProbe_ok : OkI M_Teacher_readProbe 0 := ⟨gm_3 (List.mem_of_getElem? (i := 175) rfl) rfl, gm_1 (List.mem_of_getElem? (i := 22) rfl) rfl, by decide, by decide, by decide +kernel⟩
theorem k_Teacher_readProbe_v : OkV M_Teacher_readProbe 0 := ⟨k_Teacher_readProbe_ok, rfl, gm_3 (List.mem_of_getElem? (i := 174) rfl) rfl, gp_2 (List.mem_of_getElem? (i := 6) rfl)⟩
theorem k_Teacher_readProduct_ok : OkI M_Teacher_readProduct 1 := ⟨gm_3 (List.mem_of_getElem? (i := 128) rfl) rfl, gm_1 (List.mem_of_getElem? (i := 22) rfl) rfl, by decide, by decide, by decide +kernel⟩
theorem k_Teacher_readProduct_v : OkV M_Teacher_readProduct 1 := ⟨k_Teacher_readProduct_ok, rfl, gm_3 (List.mem_of_getElem? (i := 127) rfl) rfl, gp_2 (List.mem_of_getElem? (i := 3) rfl)⟩
theorem k_Teacher_readSingle_ok : OkI M_Teacher_readSingle 1 := ⟨gm_3 (List.mem_of_getElem? (i := 100) rfl) rfl, gm_1 (List.mem_of_getElem? (i := 22) rfl) rfl, by decide, by decide, by decide +kernel⟩
theorem k_Teacher_readSingle_v : OkV M_Teacher_readSingle 1 := ⟨k_Teacher_readSingle_ok, rfl, gm_3 (List.mem_of_getElem? (i := 99) rfl) rfl, gp_2 (List.mem_of_getElem? (i := 0) rfl)⟩
theorem k_Teacher_readStake_ok : OkI M_Teacher_readStake 0 := ⟨gm_3 (List.mem_of_getElem? (i := 3) rfl) rfl, gm_1 (List.mem_of_getElem? (i := 22) rfl) rfl, by decide, by decide, by decide +kernel⟩
theorem k_Teacher_readStake_v : OkV M_Teacher_readStake 0 := ⟨k_Teacher_readStake_ok, rfl, gm_3 (List.mem_of_getElem? (i := 2) rfl) rfl, gp_1 (List.mem_of_getElem? (i := 5) rfl)⟩
theorem k_Teacher_readSum_ok : OkI M_Teacher_readSum 1 := ⟨gm_3 (List.mem_of_getElem? (i := 124) rfl) rfl, gm_1 (List.mem_of_getElem? (i := 22) rfl) rfl, by decide, by decide, by decide +kernel⟩
theorem k_Teacher_readSum_v : OkV M_Teacher_readSum 1 := ⟨k_Teacher_readSum_ok, rfl, gm_3 (List.mem_of_getElem? (i := 123) rfl) rfl, gp_2 (List.mem_of_getElem? (i := 2) rfl)⟩
theorem k_Teacher_readTeam_ok : OkI M_Teacher_readTeam 0 := ⟨gm_3 (List.mem_of_getElem? (i := 41) rfl) rfl, gm_1 (List.mem_of_getElem? (i := 22) rfl) rfl, by decide, by decide, by decide +kernel⟩
theorem k_Teacher_readTeam_v : OkV M_Teacher_readTeam 0 := ⟨k_Teacher_readTeam_ok, rfl, gm_3 (List.mem_of_getElem? (i := 40) rfl) rfl, gp_1 (List.mem_of_getElem? (i := 9) rfl)⟩
theorem k_Teacher_readTest_ok : OkI M_Teacher_readTest 1 := ⟨gm_3 (List.mem_of_getElem? (i := 92) rfl) rfl, gm_1 (List.mem_of_getElem? (i := 22) rfl) rfl, by decide, by decide, by decide +kernel⟩
theorem k_Teacher_readTest_v : OkV M_Teacher_readTest 1 := ⟨k_Teacher_readTest_ok, rfl, gm_3 (List.mem_of_getElem? (i := 91) rfl) rfl, gp_1 (List.mem_of_getElem? (i := 14) rfl)⟩
theorem k_Teacher_readValue_ok : OkI M_Teacher_readValue 1 := ⟨gm_3 (List.mem_of_getElem? (i := 132) rfl) rfl, gm_1 (List.mem_of_getElem? (i := 22) rfl) rfl, by decide, by decide, by decide +kernel⟩
theorem k_Teacher_readValue_v : OkV M_Teacher_readValue 1 := ⟨k_Teacher_readValue_ok, rfl, gm_3 (List.mem_of_getElem? (i := 131) rfl) rfl, gp_2 (List.mem_of_getElem? (i := 4) rfl)⟩
theorem k_Teacher_readWhen_ok : OkI M_Teacher_readWhen 0 := ⟨gm_3 (List.mem_of_getElem? (i := 82) rfl) rfl, gm_1 (List.mem_of_getElem? (i := 22) rfl) rfl, by decide, by decide, by decide +kernel⟩
theorem k_Teacher_readWhen_v : OkV M_Teacher_readWhen 0 := ⟨k_Teacher_readWhen_ok, rfl, gm_3 (List.mem_of_getElem? (i := 81) rfl) rfl, gp_1 (List.mem_of_getElem? (i := 13) rfl)⟩
theorem k_Teacher_tellError_ok : OkI M_Teacher_tellError 1 := ⟨gm_2 (List.mem_of_getElem? (i := 201) rfl) rfl, gm_1 (List.mem_of_getElem? (i := 22) rfl) rfl, by decide, by decide, by decide +kernel⟩
theorem k_Teacher_tellError_v : OkV M_Teacher_tellError 1 := ⟨k_Teacher_tellError_ok, rfl, gm_2 (List.mem_of_getElem? (i := 200) rfl) rfl, gp_1 (List.mem_of_getElem? (i := 3) rfl)⟩
theorem k_Tokens_init_ok : OkI M_Tokens_init 0 := ⟨gm_1 (List.mem_of_getElem? (i := 55) rfl) rfl, gm_1 (List.mem_of_getElem? (i := 3) rfl) rfl, by decide, by decide, by decide +kernel⟩
theorem k_Tokens_init_n : OkN M_Tokens_init 0 := ⟨k_Tokens_init_ok, rfl, rfl, rfl, gm_1 (List.mem_of_getElem? (i := 54) rfl) rfl⟩
theorem k_Tokens_advance_ok : OkI M_Tokens_advance 0 := ⟨gm_2 (List.mem_of_getElem? (i := 93) rfl) rfl, gm_1 (List.mem_of_getElem? (i := 3) rfl) rfl, by decide, by decide, by decide +kernel⟩
theorem k_Tokens_advance_v : OkV M_Tokens_advance 0 := ⟨k_Tokens_advance_ok, rfl, gm_2 (List.mem_of_getElem? (i := 91) rfl) rfl, gm_2 (List.mem_of_getElem? (i := 92) rfl) rfl⟩
theorem k_Tokens_breakOff_ok : OkI M_Tokens_breakOff 0 := ⟨gm_2 (List.mem_of_getElem? (i := 189) rfl) rfl, gm_1 (List.mem_of_getElem? (i := 3) rfl) rfl, by decide, by decide, by decide +kernel⟩
theorem k_Tokens_breakOff_v : OkV M_Tokens_breakOff 0 := ⟨k_Tokens_breakOff_ok, rfl, gm_2 (List.mem_of_getElem? (i := 187) rfl) rfl, gm_2 (List.mem_of_getElem? (i := 188) rfl) rfl⟩
theorem k_Tokens_brokenAt_ok : OkI M_Tokens_brokenAt 0 := ⟨gm_2 (List.mem_of_getElem? (i := 159) rfl) rfl, gm_1 (List.mem_of_getElem? (i := 3) rfl) rfl, by decide, by decide, by decide +kernel⟩
theorem k_Tokens_brokenAt_v : OkV M_Tokens_brokenAt 0 := ⟨k_Tokens_brokenAt_ok, rfl, gm_2 (List.mem_of_getElem? (i := 157) rfl) rfl, gm_2 (List.mem_of_getElem? (i := 158) rfl) rfl⟩
theorem k_Tokens_expect_ok : OkI M_Tokens_expect 1 := ⟨gm_2 (List.mem_of_getElem? (i := 223) rfl) rfl, gm_1 (List.mem_of_getElem? (i := 3) rfl) rfl, by decide, by decide, by decide +kernel⟩
theorem k_Tokens_expect_v : OkV M_Tokens_expect 1 := ⟨k_Tokens_expect_ok, rfl, gm_2 (List.mem_of_getElem? (i := 221) rfl) rfl, gm_2 (List.mem_of_getElem? (i := 222) rfl) rfl⟩
theorem k_Tokens_isDigit_ok : OkI M_Tokens_isDigit 1 := ⟨gm_2 (List.mem_of_getElem? (i := 11) rfl) rfl, gm_1 (List.mem_of_getElem? (i := 3) rfl) rfl, by decide, by decide, by decide +kernel⟩
theorem k_Tokens_isDigit_s : OkS M_Tokens_isDigit 1 := ⟨k_Tokens_isDigit_ok, gm_2 (List.mem_of_getElem? (i := 10) rfl) rfl⟩
theorem k_Tokens_isLetter_ok : OkI M_Tokens_isLetter 1 := ⟨gm_2 (List.mem_of_getElem? (i := 8) rfl) rfl, gm_1 (List.mem_of_getElem? (i := 3) rfl) rfl, by decide, by decide, by decide +kernel⟩
theorem k_Tokens_isLetter_s : OkS M_Tokens_isLetter 1 := ⟨k_Tokens_isLetter_ok, gm_2 (List.mem_of_getElem? (i := 7) rfl) rfl⟩
theorem k_Tokens_nameOf_ok : OkI M_Tokens_nameOf 3 := ⟨gm_2 (List.mem_of_getElem? (i := 84) rfl) rfl, gm_1 (List.mem_of_getElem? (i := 3) rfl) rfl, by decide, by decide, by decide +kernel⟩
theorem k_Tokens_nameOf_s : OkS M_Tokens_nameOf 3 := ⟨k_Tokens_nameOf_ok, gm_2 (List.mem_of_getElem? (i := 83) rfl) rfl⟩
theorem k_Tokens_numberOf_ok : OkI M_Tokens_numberOf 3 := ⟨gm_2 (List.mem_of_getElem? (i := 79) rfl) rfl, gm_1 (List.mem_of_getElem? (i := 3) rfl) rfl, by decide, by decide, by decide +kernel⟩
theorem k_Tokens_numberOf_s : OkS M_Tokens_numberOf 3 := ⟨k_Tokens_numberOf_ok, gm_2 (List.mem_of_getElem? (i := 78) rfl) rfl⟩
theorem k_Tokens_pastBlanks_ok : OkI M_Tokens_pastBlanks 2 := ⟨gm_1 (List.mem_of_getElem? (i := 234) rfl) rfl, gm_1 (List.mem_of_getElem? (i := 3) rfl) rfl, by decide, by decide, by decide +kernel⟩
theorem k_Tokens_pastBlanks_s : OkS M_Tokens_pastBlanks 2 := ⟨k_Tokens_pastBlanks_ok, gm_1 (List.mem_of_getElem? (i := 233) rfl) rfl⟩
theorem k_Tokens_put_ok : OkI M_Tokens_put 3 := ⟨gm_2 (List.mem_of_getElem? (i := 89) rfl) rfl, gm_1 (List.mem_of_getElem? (i := 3) rfl) rfl, by decide, by decide, by decide +kernel⟩
theorem k_Tokens_put_v : OkV M_Tokens_put 3 := ⟨k_Tokens_put_ok, rfl, gm_2 (List.mem_of_getElem? (i := 88) rfl) rfl, gp_1 (List.mem_of_getElem? (i := 0) rfl)⟩
theorem k_Tokens_readFrom_ok : OkI M_Tokens_readFrom 1 := ⟨gm_1 (List.mem_of_getElem? (i := 231) rfl) rfl, gm_1 (List.mem_of_getElem? (i := 3) rfl) rfl, by decide, by decide, by decide +kernel⟩
theorem k_Tokens_readFrom_v : OkV M_Tokens_readFrom 1 := ⟨k_Tokens_readFrom_ok, rfl, gm_1 (List.mem_of_getElem? (i := 229) rfl) rfl, gm_1 (List.mem_of_getElem? (i := 230) rfl) rfl⟩
theorem k_Tokens_reads_ok : OkI M_Tokens_reads 4 := ⟨gm_2 (List.mem_of_getElem? (i := 23) rfl) rfl, gm_1 (List.mem_of_getElem? (i := 3) rfl) rfl, by decide, by decide, by decide +kernel⟩
theorem k_Tokens_reads_s : OkS M_Tokens_reads 4 := ⟨k_Tokens_reads_ok, gm_2 (List.mem_of_getElem? (i := 22) rfl) rfl⟩
theorem k_Tokens_sign_ok : OkI M_Tokens_sign 0 := ⟨gm_2 (List.mem_of_getElem? (i := 154) rfl) rfl, gm_1 (List.mem_of_getElem? (i := 3) rfl) rfl, by decide, by decide, by decide +kernel⟩
theorem k_Tokens_sign_v : OkV M_Tokens_sign 0 := ⟨k_Tokens_sign_ok, rfl, gm_2 (List.mem_of_getElem? (i := 152) rfl) rfl, gm_2 (List.mem_of_getElem? (i := 153) rfl) rfl⟩
theorem k_Tokens_signOf_ok : OkI M_Tokens_signOf 3 := ⟨gm_2 (List.mem_of_getElem? (i := 14) rfl) rfl, gm_1 (List.mem_of_getElem? (i := 3) rfl) rfl, by decide, by decide, by decide +kernel⟩
theorem k_Tokens_signOf_s : OkS M_Tokens_signOf 3 := ⟨k_Tokens_signOf_ok, gm_2 (List.mem_of_getElem? (i := 13) rfl) rfl⟩
theorem k_Tokens_start_ok : OkI M_Tokens_start 0 := ⟨gm_2 (List.mem_of_getElem? (i := 205) rfl) rfl, gm_1 (List.mem_of_getElem? (i := 3) rfl) rfl, by decide, by decide, by decide +kernel⟩
theorem k_Tokens_start_v : OkV M_Tokens_start 0 := ⟨k_Tokens_start_ok, rfl, gm_2 (List.mem_of_getElem? (i := 203) rfl) rfl, gm_2 (List.mem_of_getElem? (i := 204) rfl) rfl⟩
theorem k_Tokens_tokenEnd_ok : OkI M_Tokens_tokenEnd 2 := ⟨gm_2 (List.mem_of_getElem? (i := 5) rfl) rfl, gm_1 (List.mem_of_getElem? (i := 3) rfl) rfl, by decide, by decide, by decide +kernel⟩
theorem k_Tokens_tokenEnd_s : OkS M_Tokens_tokenEnd 2 := ⟨k_Tokens_tokenEnd_ok, gm_2 (List.mem_of_getElem? (i := 4) rfl) rfl⟩
theorem k_Tokens_worth_ok : OkI M_Tokens_worth 0 := ⟨gm_2 (List.mem_of_getElem? (i := 193) rfl) rfl, gm_1 (List.mem_of_getElem? (i := 3) rfl) rfl, by decide, by decide, by decide +kernel⟩
theorem k_Tokens_worth_v : OkV M_Tokens_worth 0 := ⟨k_Tokens_worth_ok, rfl, gm_2 (List.mem_of_getElem? (i := 191) rfl) rfl, gm_2 (List.mem_of_getElem? (i := 192) rfl) rfl⟩
theorem k_Tokens_worthOf_ok : OkI M_Tokens_worthOf 4 := ⟨gm_2 (List.mem_of_getElem? (i := 76) rfl) rfl, gm_1 (List.mem_of_getElem? (i := 3) rfl) rfl, by decide, by decide, by decide +kernel⟩
theorem k_Tokens_worthOf_s : OkS M_Tokens_worthOf 4 := ⟨k_Tokens_worthOf_ok, gm_2 (List.mem_of_getElem? (i := 75) rfl) rfl⟩
theorem k_Law_advise_ok : OkI M_Law_advise 4 := ⟨gm_5 (List.mem_of_getElem? (i := 184) rfl) rfl, gm_1 (List.mem_of_getElem? (i := 0) rfl) rfl, by decide, by decide, by decide +kernel⟩
theorem k_Law_advise_s : OkS M_Law_advise 4 := ⟨k_Law_advise_ok, gm_5 (List.mem_of_getElem? (i := 183) rfl) rfl⟩
theorem k_Law_band_ok : OkI M_Law_band 4 := ⟨gm_4 (List.mem_of_getElem? (i := 167) rfl) rfl, gm_1 (List.mem_of_getElem? (i := 0) rfl) rfl, by decide, by decide, by decide +kernel⟩
theorem k_Law_band_s : OkS M_Law_band 4 := ⟨k_Law_band_ok, gm_4 (List.mem_of_getElem? (i := 166) rfl) rfl⟩
theorem k_Law_count_ok : OkI M_Law_count 3 := ⟨gm_4 (List.mem_of_getElem? (i := 140) rfl) rfl, gm_1 (List.mem_of_getElem? (i := 0) rfl) rfl, by decide, by decide, by decide +kernel⟩
theorem k_Law_count_s : OkS M_Law_count 3 := ⟨k_Law_count_ok, gm_4 (List.mem_of_getElem? (i := 139) rfl) rfl⟩
theorem k_Law_crevasse_ok : OkI M_Law_crevasse 4 := ⟨gm_4 (List.mem_of_getElem? (i := 189) rfl) rfl, gm_1 (List.mem_of_getElem? (i := 0) rfl) rfl, by decide, by decide, by decide +kernel⟩
theorem k_Law_crevasse_s : OkS M_Law_crevasse 4 := ⟨k_Law_crevasse_ok, gm_4 (List.mem_of_getElem? (i := 188) rfl) rfl⟩
theorem k_Law_depot_ok : OkI M_Law_depot 4 := ⟨gm_4 (List.mem_of_getElem? (i := 196) rfl) rfl, gm_1 (List.mem_of_getElem? (i := 0) rfl) rfl, by decide, by decide, by decide +kernel⟩
theorem k_Law_depot_s : OkS M_Law_depot 4 := ⟨k_Law_depot_ok, gm_4 (List.mem_of_getElem? (i := 195) rfl) rfl⟩
theorem k_Law_feed_ok : OkI M_Law_feed 7 := ⟨gm_4 (List.mem_of_getElem? (i := 37) rfl) rfl, gm_1 (List.mem_of_getElem? (i := 0) rfl) rfl, by decide, by decide, by decide +kernel⟩
theorem k_Law_feed_s : OkS M_Law_feed 7 := ⟨k_Law_feed_ok, gm_4 (List.mem_of_getElem? (i := 36) rfl) rfl⟩
theorem k_Law_fill_ok : OkI M_Law_fill 4 := ⟨gm_5 (List.mem_of_getElem? (i := 23) rfl) rfl, gm_1 (List.mem_of_getElem? (i := 0) rfl) rfl, by decide, by decide, by decide +kernel⟩
theorem k_Law_fill_s : OkS M_Law_fill 4 := ⟨k_Law_fill_ok, gm_5 (List.mem_of_getElem? (i := 22) rfl) rfl⟩
theorem k_Law_foresee_ok : OkI M_Law_foresee 4 := ⟨gm_5 (List.mem_of_getElem? (i := 167) rfl) rfl, gm_1 (List.mem_of_getElem? (i := 0) rfl) rfl, by decide, by decide, by decide +kernel⟩
theorem k_Law_foresee_s : OkS M_Law_foresee 4 := ⟨k_Law_foresee_ok, gm_5 (List.mem_of_getElem? (i := 166) rfl) rfl⟩
theorem k_Law_go_ok : OkI M_Law_go 4 := ⟨gm_4 (List.mem_of_getElem? (i := 210) rfl) rfl, gm_1 (List.mem_of_getElem? (i := 0) rfl) rfl, by decide, by decide, by decide +kernel⟩
theorem k_Law_go_s : OkS M_Law_go 4 := ⟨k_Law_go_ok, gm_4 (List.mem_of_getElem? (i := 209) rfl) rfl⟩
theorem k_Law_melt_ok : OkI M_Law_melt 4 := ⟨gm_5 (List.mem_of_getElem? (i := 144) rfl) rfl, gm_1 (List.mem_of_getElem? (i := 0) rfl) rfl, by decide, by decide, by decide +kernel⟩
theorem k_Law_melt_s : OkS M_Law_melt 4 := ⟨k_Law_melt_ok, gm_5 (List.mem_of_getElem? (i := 143) rfl) rfl⟩
theorem k_Law_pass_ok : OkI M_Law_pass 3 := ⟨gm_5 (List.mem_of_getElem? (i := 68) rfl) rfl, gm_1 (List.mem_of_getElem? (i := 0) rfl) rfl, by decide, by decide, by decide +kernel⟩
theorem k_Law_pass_s : OkS M_Law_pass 3 := ⟨k_Law_pass_ok, gm_5 (List.mem_of_getElem? (i := 67) rfl) rfl⟩
theorem k_Law_probe_ok : OkI M_Law_probe 4 := ⟨gm_5 (List.mem_of_getElem? (i := 11) rfl) rfl, gm_1 (List.mem_of_getElem? (i := 0) rfl) rfl, by decide, by decide, by decide +kernel⟩
theorem k_Law_probe_s : OkS M_Law_probe 4 := ⟨k_Law_probe_ok, gm_5 (List.mem_of_getElem? (i := 10) rfl) rfl⟩
theorem k_Law_safe_ok : OkI M_Law_safe 4 := ⟨gm_5 (List.mem_of_getElem? (i := 175) rfl) rfl, gm_1 (List.mem_of_getElem? (i := 0) rfl) rfl, by decide, by decide, by decide +kernel⟩
theorem k_Law_safe_s : OkS M_Law_safe 4 := ⟨k_Law_safe_ok, gm_5 (List.mem_of_getElem? (i := 174) rfl) rfl⟩
theorem k_Law_setWarm_ok : OkI M_Law_setWarm 4 := ⟨gm_5 (List.mem_of_getElem? (i := 59) rfl) rfl, gm_1 (List.mem_of_getElem? (i := 0) rfl) rfl, by decide, by decide, by decide +kernel⟩
theorem k_Law_setWarm_s : OkS M_Law_setWarm 4 := ⟨k_Law_setWarm_ok, gm_5 (List.mem_of_getElem? (i := 58) rfl) rfl⟩
theorem k_Law_stake_ok : OkI M_Law_stake 4 := ⟨gm_4 (List.mem_of_getElem? (i := 182) rfl) rfl, gm_1 (List.mem_of_getElem? (i := 0) rfl) rfl, by decide, by decide, by decide +kernel⟩
theorem k_Law_stake_s : OkS M_Law_stake 4 := ⟨k_Law_stake_ok, gm_4 (List.mem_of_getElem? (i := 181) rfl) rfl⟩
theorem k_Law_stock_ok : OkI M_Law_stock 4 := ⟨gm_5 (List.mem_of_getElem? (i := 50) rfl) rfl, gm_1 (List.mem_of_getElem? (i := 0) rfl) rfl, by decide, by decide, by decide +kernel⟩
theorem k_Law_stock_s : OkS M_Law_stock 4 := ⟨k_Law_stock_ok, gm_5 (List.mem_of_getElem? (i := 49) rfl) rfl⟩
theorem k_Law_team_ok : OkI M_Law_team 4 := ⟨gm_4 (List.mem_of_getElem? (i := 203) rfl) rfl, gm_1 (List.mem_of_getElem? (i := 0) rfl) rfl, by decide, by decide, by decide +kernel⟩
theorem k_Law_team_s : OkS M_Law_team 4 := ⟨k_Law_team_ok, gm_4 (List.mem_of_getElem? (i := 202) rfl) rfl⟩
theorem k_Law_trim_ok : OkI M_Law_trim 3 := ⟨gm_4 (List.mem_of_getElem? (i := 116) rfl) rfl, gm_1 (List.mem_of_getElem? (i := 0) rfl) rfl, by decide, by decide, by decide +kernel⟩
theorem k_Law_trim_s : OkS M_Law_trim 3 := ⟨k_Law_trim_ok, gm_4 (List.mem_of_getElem? (i := 115) rfl) rfl⟩
theorem k_Law_until_ok : OkI M_Law_until 3 := ⟨gm_5 (List.mem_of_getElem? (i := 152) rfl) rfl, gm_1 (List.mem_of_getElem? (i := 0) rfl) rfl, by decide, by decide, by decide +kernel⟩
theorem k_Law_until_s : OkS M_Law_until 3 := ⟨k_Law_until_ok, gm_5 (List.mem_of_getElem? (i := 151) rfl) rfl⟩
theorem k_Model_init_ok : OkI M_Model_init 0 := ⟨gm_5 (List.mem_of_getElem? (i := 195) rfl) rfl, gm_1 (List.mem_of_getElem? (i := 10) rfl) rfl, by decide, by decide, by decide +kernel⟩
theorem k_Model_init_n : OkN M_Model_init 0 := ⟨k_Model_init_ok, rfl, rfl, rfl, gm_5 (List.mem_of_getElem? (i := 194) rfl) rfl⟩
theorem k_Model_advise_ok : OkI M_Model_advise 2 := ⟨gm_8 (List.mem_of_getElem? (i := 186) rfl) rfl, gm_1 (List.mem_of_getElem? (i := 10) rfl) rfl, by decide, by decide, by decide +kernel⟩
theorem k_Model_advise_v : OkV M_Model_advise 2 := ⟨k_Model_advise_ok, rfl, gm_8 (List.mem_of_getElem? (i := 184) rfl) rfl, gm_8 (List.mem_of_getElem? (i := 185) rfl) rfl⟩
theorem k_Model_areSame_ok : OkI M_Model_areSame 3 := ⟨gm_7 (List.mem_of_getElem? (i := 160) rfl) rfl, gm_1 (List.mem_of_getElem? (i := 10) rfl) rfl, by decide, by decide, by decide +kernel⟩
theorem k_Model_areSame_v : OkV M_Model_areSame 3 := ⟨k_Model_areSame_ok, rfl, gm_7 (List.mem_of_getElem? (i := 159) rfl) rfl, gp_5 (List.mem_of_getElem? (i := 3) rfl)⟩
theorem k_Model_band_ok : OkI M_Model_band 2 := ⟨gm_7 (List.mem_of_getElem? (i := 212) rfl) rfl, gm_1 (List.mem_of_getElem? (i := 10) rfl) rfl, by decide, by decide, by decide +kernel⟩
theorem k_Model_band_v : OkV M_Model_band 2 := ⟨k_Model_band_ok, rfl, gm_7 (List.mem_of_getElem? (i := 210) rfl) rfl, gm_7 (List.mem_of_getElem? (i := 211) rfl) rfl⟩
theorem k_Model_bandTold_ok : OkI M_Model_bandTold 2 := ⟨gm_7 (List.mem_of_getElem? (i := 220) rfl) rfl, gm_1 (List.mem_of_getElem? (i := 10) rfl) rfl, by decide, by decide, by decide +kernel⟩
theorem k_Model_bandTold_v : OkV M_Model_bandTold 2 := ⟨k_Model_bandTold_ok, rfl, gm_7 (List.mem_of_getElem? (i := 219) rfl) rfl, gp_5 (List.mem_of_getElem? (i := 9) rfl)⟩
theorem k_Model_begin_ok : OkI M_Model_begin 0 := ⟨gm_7 (List.mem_of_getElem? (i := 181) rfl) rfl, gm_1 (List.mem_of_getElem? (i := 10) rfl) rfl, by decide, by decide, by decide +kernel⟩
theorem k_Model_begin_v : OkV M_Model_begin 0 := ⟨k_Model_begin_ok, rfl, gm_7 (List.mem_of_getElem? (i := 180) rfl) rfl, gp_5 (List.mem_of_getElem? (i := 6) rfl)⟩
theorem k_Model_both_ok : OkI M_Model_both 0 := ⟨gm_8 (List.mem_of_getElem? (i := 109) rfl) rfl, gm_1 (List.mem_of_getElem? (i := 10) rfl) rfl, by decide, by decide, by decide +kernel⟩
theorem k_Model_both_v : OkV M_Model_both 0 := ⟨k_Model_both_ok, rfl, gm_8 (List.mem_of_getElem? (i := 108) rfl) rfl, gp_6 (List.mem_of_getElem? (i := 14) rfl)⟩
theorem k_Model_byteAt_ok : OkI M_Model_byteAt 1 := ⟨gm_6 (List.mem_of_getElem? (i := 236) rfl) rfl, gm_1 (List.mem_of_getElem? (i := 10) rfl) rfl, by decide, by decide, by decide +kernel⟩
theorem k_Model_byteAt_v : OkV M_Model_byteAt 1 := ⟨k_Model_byteAt_ok, rfl, gm_6 (List.mem_of_getElem? (i := 235) rfl) rfl, gp_3 (List.mem_of_getElem? (i := 12) rfl)⟩
theorem k_Model_canGo_ok : OkI M_Model_canGo 3 := ⟨gm_8 (List.mem_of_getElem? (i := 28) rfl) rfl, gm_1 (List.mem_of_getElem? (i := 10) rfl) rfl, by decide, by decide, by decide +kernel⟩
theorem k_Model_canGo_v : OkV M_Model_canGo 3 := ⟨k_Model_canGo_ok, rfl, gm_8 (List.mem_of_getElem? (i := 27) rfl) rfl, gp_6 (List.mem_of_getElem? (i := 0) rfl)⟩
theorem k_Model_canProbe_ok : OkI M_Model_canProbe 3 := ⟨gm_8 (List.mem_of_getElem? (i := 59) rfl) rfl, gm_1 (List.mem_of_getElem? (i := 10) rfl) rfl, by decide, by decide, by decide +kernel⟩
theorem k_Model_canProbe_v : OkV M_Model_canProbe 3 := ⟨k_Model_canProbe_ok, rfl, gm_8 (List.mem_of_getElem? (i := 58) rfl) rfl, gp_6 (List.mem_of_getElem? (i := 6) rfl)⟩
theorem k_Model_count_ok : OkI M_Model_count 1 := ⟨gm_7 (List.mem_of_getElem? (i := 200) rfl) rfl, gm_1 (List.mem_of_getElem? (i := 10) rfl) rfl, by decide, by decide, by decide +kernel⟩
theorem k_Model_count_v : OkV M_Model_count 1 := ⟨k_Model_count_ok, rfl, gm_7 (List.mem_of_getElem? (i := 198) rfl) rfl, gm_7 (List.mem_of_getElem? (i := 199) rfl) rfl⟩
theorem k_Model_counted_ok : OkI M_Model_counted 2 := ⟨gm_7 (List.mem_of_getElem? (i := 204) rfl) rfl, gm_1 (List.mem_of_getElem? (i := 10) rfl) rfl, by decide, by decide, by decide +kernel⟩
theorem k_Model_counted_v : OkV M_Model_counted 2 := ⟨k_Model_counted_ok, rfl, gm_7 (List.mem_of_getElem? (i := 203) rfl) rfl, gp_5 (List.mem_of_getElem? (i := 7) rfl)⟩
theorem k_Model_crevasse_ok : OkI M_Model_crevasse 2 := ⟨gm_7 (List.mem_of_getElem? (i := 236) rfl) rfl, gm_1 (List.mem_of_getElem? (i := 10) rfl) rfl, by decide, by decide, by decide +kernel⟩
theorem k_Model_crevasse_v : OkV M_Model_crevasse 2 := ⟨k_Model_crevasse_ok, rfl, gm_7 (List.mem_of_getElem? (i := 234) rfl) rfl, gm_7 (List.mem_of_getElem? (i := 235) rfl) rfl⟩
theorem k_Model_crevasseTold_ok : OkI M_Model_crevasseTold 2 := ⟨gm_8 (List.mem_of_getElem? (i := 0) rfl) rfl, gm_1 (List.mem_of_getElem? (i := 10) rfl) rfl, by decide, by decide, by decide +kernel⟩
theorem k_Model_crevasseTold_v : OkV M_Model_crevasseTold 2 := ⟨k_Model_crevasseTold_ok, rfl, gm_7 (List.mem_of_getElem? (i := 239) rfl) rfl, gp_5 (List.mem_of_getElem? (i := 12) rfl)⟩
theorem k_Model_cut_ok : OkI M_Model_cut 1 := ⟨gm_6 (List.mem_of_getElem? (i := 232) rfl) rfl, gm_1 (List.mem_of_getElem? (i := 10) rfl) rfl, by decide, by decide, by decide +kernel⟩
theorem k_Model_cut_v : OkV M_Model_cut 1 := ⟨k_Model_cut_ok, rfl, gm_6 (List.mem_of_getElem? (i := 231) rfl) rfl, gp_3 (List.mem_of_getElem? (i := 11) rfl)⟩
theorem k_Model_dayOn_ok : OkI M_Model_dayOn 1 := ⟨gm_8 (List.mem_of_getElem? (i := 97) rfl) rfl, gm_1 (List.mem_of_getElem? (i := 10) rfl) rfl, by decide, by decide, by decide +kernel⟩
theorem k_Model_dayOn_v : OkV M_Model_dayOn 1 := ⟨k_Model_dayOn_ok, rfl, gm_8 (List.mem_of_getElem? (i := 96) rfl) rfl, gp_6 (List.mem_of_getElem? (i := 11) rfl)⟩
theorem k_Model_daysOn_ok : OkI M_Model_daysOn 2 := ⟨gm_8 (List.mem_of_getElem? (i := 93) rfl) rfl, gm_1 (List.mem_of_getElem? (i := 10) rfl) rfl, by decide, by decide, by decide +kernel⟩
theorem k_Model_daysOn_v : OkV M_Model_daysOn 2 := ⟨k_Model_daysOn_ok, rfl, gm_8 (List.mem_of_getElem? (i := 92) rfl) rfl, gp_6 (List.mem_of_getElem? (i := 10) rfl)⟩
theorem k_Model_depot_ok : OkI M_Model_depot 2 := ⟨gm_8 (List.mem_of_getElem? (i := 4) rfl) rfl, gm_1 (List.mem_of_getElem? (i := 10) rfl) rfl, by decide, by decide, by decide +kernel⟩
theorem k_Model_depot_v : OkV M_Model_depot 2 := ⟨k_Model_depot_ok, rfl, gm_8 (List.mem_of_getElem? (i := 2) rfl) rfl, gm_8 (List.mem_of_getElem? (i := 3) rfl) rfl⟩
theorem k_Model_depotOf_ok : OkI M_Model_depotOf 2 := ⟨gm_8 (List.mem_of_getElem? (i := 75) rfl) rfl, gm_1 (List.mem_of_getElem? (i := 10) rfl) rfl, by decide, by decide, by decide +kernel⟩
theorem k_Model_depotOf_v : OkV M_Model_depotOf 2 := ⟨k_Model_depotOf_ok, rfl, gm_8 (List.mem_of_getElem? (i := 74) rfl) rfl, gp_6 (List.mem_of_getElem? (i := 9) rfl)⟩
theorem k_Model_depotTold_ok : OkI M_Model_depotTold 2 := ⟨gm_8 (List.mem_of_getElem? (i := 8) rfl) rfl, gm_1 (List.mem_of_getElem? (i := 10) rfl) rfl, by decide, by decide, by decide +kernel⟩
theorem k_Model_depotTold_v : OkV M_Model_depotTold 2 := ⟨k_Model_depotTold_ok, rfl, gm_8 (List.mem_of_getElem? (i := 7) rfl) rfl, gp_5 (List.mem_of_getElem? (i := 13) rfl)⟩
theorem k_Model_digest_ok : OkI M_Model_digest 0 := ⟨gm_8 (List.mem_of_getElem? (i := 198) rfl) rfl, gm_1 (List.mem_of_getElem? (i := 10) rfl) rfl, by decide, by decide, by decide +kernel⟩
theorem k_Model_digest_v : OkV M_Model_digest 0 := ⟨k_Model_digest_ok, rfl, gm_8 (List.mem_of_getElem? (i := 196) rfl) rfl, gm_8 (List.mem_of_getElem? (i := 197) rfl) rfl⟩
theorem k_Model_drilled_ok : OkI M_Model_drilled 2 := ⟨gm_8 (List.mem_of_getElem? (i := 137) rfl) rfl, gm_1 (List.mem_of_getElem? (i := 10) rfl) rfl, by decide, by decide, by decide +kernel⟩
theorem k_Model_drilled_v : OkV M_Model_drilled 2 := ⟨k_Model_drilled_ok, rfl, gm_8 (List.mem_of_getElem? (i := 136) rfl) rfl, gp_7 (List.mem_of_getElem? (i := 5) rfl)⟩
theorem k_Model_eat_0_ok : OkI M_Model_eat_0 2 := ⟨gm_7 (List.mem_of_getElem? (i := 90) rfl) rfl, gm_1 (List.mem_of_getElem? (i := 10) rfl) rfl, by decide, by decide, by decide +kernel⟩
theorem k_Model_eat_0_v : OkV M_Model_eat_0 2 := ⟨k_Model_eat_0_ok, rfl, gm_7 (List.mem_of_getElem? (i := 89) rfl) rfl, gp_4 (List.mem_of_getElem? (i := 3) rfl)⟩
theorem k_Model_eat_1_ok : OkI M_Model_eat_1 2 := ⟨gm_8 (List.mem_of_getElem? (i := 149) rfl) rfl, gm_1 (List.mem_of_getElem? (i := 10) rfl) rfl, by decide, by decide, by decide +kernel⟩
theorem k_Model_eat_1_v : OkV M_Model_eat_1 2 := ⟨k_Model_eat_1_ok, rfl, gm_8 (List.mem_of_getElem? (i := 148) rfl) rfl, gp_7 (List.mem_of_getElem? (i := 8) rfl)⟩
theorem k_Model_eatIn_ok : OkI M_Model_eatIn 3 := ⟨gm_7 (List.mem_of_getElem? (i := 118) rfl) rfl, gm_1 (List.mem_of_getElem? (i := 10) rfl) rfl, by decide, by decide, by decide +kernel⟩
theorem k_Model_eatIn_v : OkV M_Model_eatIn 3 := ⟨k_Model_eatIn_ok, rfl, gm_7 (List.mem_of_getElem? (i := 117) rfl) rfl, gp_4 (List.mem_of_getElem? (i := 10) rfl)⟩
theorem k_Model_errorAt_ok : OkI M_Model_errorAt 0 := ⟨gm_7 (List.mem_of_getElem? (i := 196) rfl) rfl, gm_1 (List.mem_of_getElem? (i := 10) rfl) rfl, by decide, by decide, by decide +kernel⟩
theorem k_Model_errorAt_v : OkV M_Model_errorAt 0 := ⟨k_Model_errorAt_ok, rfl, gm_7 (List.mem_of_getElem? (i := 194) rfl) rfl, gm_7 (List.mem_of_getElem? (i := 195) rfl) rfl⟩
theorem k_Model_errorOf_ok : OkI M_Model_errorOf 2 := ⟨gm_7 (List.mem_of_getElem? (i := 134) rfl) rfl, gm_1 (List.mem_of_getElem? (i := 10) rfl) rfl, by decide, by decide, by decide +kernel⟩
theorem k_Model_errorOf_v : OkV M_Model_errorOf 2 := ⟨k_Model_errorOf_ok, rfl, gm_7 (List.mem_of_getElem? (i := 133) rfl) rfl, gp_4 (List.mem_of_getElem? (i := 14) rfl)⟩
theorem k_Model_errorOfName_ok : OkI M_Model_errorOfName 2 := ⟨gm_7 (List.mem_of_getElem? (i := 145) rfl) rfl, gm_1 (List.mem_of_getElem? (i := 10) rfl) rfl, by decide, by decide, by decide +kernel⟩
theorem k_Model_errorOfName_v : OkV M_Model_errorOfName 2 := ⟨k_Model_errorOfName_ok, rfl, gm_7 (List.mem_of_getElem? (i := 144) rfl) rfl, gp_5 (List.mem_of_getElem? (i := 0) rfl)⟩
theorem k_Model_errorOfNew_ok : OkI M_Model_errorOfNew 3 := ⟨gm_7 (List.mem_of_getElem? (i := 152) rfl) rfl, gm_1 (List.mem_of_getElem? (i := 10) rfl) rfl, by decide, by decide, by decide +kernel⟩
theorem k_Model_errorOfNew_v : OkV M_Model_errorOfNew 3 := ⟨k_Model_errorOfNew_ok, rfl, gm_7 (List.mem_of_getElem? (i := 151) rfl) rfl, gp_5 (List.mem_of_getElem? (i := 1) rfl)⟩
theorem k_Model_errorOfNumber_ok : OkI M_Model_errorOfNumber 2 := ⟨gm_7 (List.mem_of_getElem? (i := 170) rfl) rfl, gm_1 (List.mem_of_getElem? (i := 10) rfl) rfl, by decide, by decide, by decide +kernel⟩
theorem k_Model_errorOfNumber_v : OkV M_Model_errorOfNumber 2 := ⟨k_Model_errorOfNumber_ok, rfl, gm_7 (List.mem_of_getElem? (i := 169) rfl) rfl, gp_5 (List.mem_of_getElem? (i := 4) rfl)⟩
theorem k_Model_errorOfOrder_ok : OkI M_Model_errorOfOrder 2 := ⟨gm_7 (List.mem_of_getElem? (i := 141) rfl) rfl, gm_1 (List.mem_of_getElem? (i := 10) rfl) rfl, by decide, by decide, by decide +kernel⟩
theorem k_Model_errorOfOrder_v : OkV M_Model_errorOfOrder 2 := ⟨k_Model_errorOfOrder_ok, rfl, gm_7 (List.mem_of_getElem? (i := 140) rfl) rfl, gp_4 (List.mem_of_getElem? (i := 15) rfl)⟩
theorem k_Model_errorOfRange_ok : OkI M_Model_errorOfRange 3 := ⟨gm_7 (List.mem_of_getElem? (i := 177) rfl) rfl, gm_1 (List.mem_of_getElem? (i := 10) rfl) rfl, by decide, by decide, by decide +kernel⟩
theorem k_Model_errorOfRange_s : OkS M_Model_errorOfRange 3 := ⟨k_Model_errorOfRange_ok, gm_7 (List.mem_of_getElem? (i := 176) rfl) rfl⟩
theorem k_Model_fall_ok : OkI M_Model_fall 3 := ⟨gm_8 (List.mem_of_getElem? (i := 47) rfl) rfl, gm_1 (List.mem_of_getElem? (i := 10) rfl) rfl, by decide, by decide, by decide +kernel⟩
theorem k_Model_fall_v : OkV M_Model_fall 3 := ⟨k_Model_fall_ok, rfl, gm_8 (List.mem_of_getElem? (i := 46) rfl) rfl, gp_6 (List.mem_of_getElem? (i := 4) rfl)⟩
theorem k_Model_feed_ok : OkI M_Model_feed 5 := ⟨gm_6 (List.mem_of_getElem? (i := 209) rfl) rfl, gm_1 (List.mem_of_getElem? (i := 10) rfl) rfl, by decide, by decide, by decide +kernel⟩
theorem k_Model_feed_v : OkV M_Model_feed 5 := ⟨k_Model_feed_ok, rfl, gm_6 (List.mem_of_getElem? (i := 207) rfl) rfl, gm_6 (List.mem_of_getElem? (i := 208) rfl) rfl⟩
theorem k_Model_fill_0_ok : OkI M_Model_fill_0 2 := ⟨gm_8 (List.mem_of_getElem? (i := 67) rfl) rfl, gm_1 (List.mem_of_getElem? (i := 10) rfl) rfl, by decide, by decide, by decide +kernel⟩
theorem k_Model_fill_0_v : OkV M_Model_fill_0 2 := ⟨k_Model_fill_0_ok, rfl, gm_8 (List.mem_of_getElem? (i := 65) rfl) rfl, gm_8 (List.mem_of_getElem? (i := 66) rfl) rfl⟩
theorem k_Model_fill_1_ok : OkI M_Model_fill_1 2 := ⟨gm_7 (List.mem_of_getElem? (i := 192) rfl) rfl, gm_1 (List.mem_of_getElem? (i := 10) rfl) rfl, by decide, by decide, by decide +kernel⟩
theorem k_Model_fill_1_s : OkS M_Model_fill_1 2 := ⟨k_Model_fill_1_ok, gm_7 (List.mem_of_getElem? (i := 191) rfl) rfl⟩
theorem k_Model_filled_ok : OkI M_Model_filled 3 := ⟨gm_8 (List.mem_of_getElem? (i := 71) rfl) rfl, gm_1 (List.mem_of_getElem? (i := 10) rfl) rfl, by decide, by decide, by decide +kernel⟩
theorem k_Model_filled_v : OkV M_Model_filled 3 := ⟨k_Model_filled_ok, rfl, gm_8 (List.mem_of_getElem? (i := 70) rfl) rfl, gp_6 (List.mem_of_getElem? (i := 8) rfl)⟩
theorem k_Model_find_ok : OkI M_Model_find 3 := ⟨gm_7 (List.mem_of_getElem? (i := 156) rfl) rfl, gm_1 (List.mem_of_getElem? (i := 10) rfl) rfl, by decide, by decide, by decide +kernel⟩
theorem k_Model_find_v : OkV M_Model_find 3 := ⟨k_Model_find_ok, rfl, gm_7 (List.mem_of_getElem? (i := 155) rfl) rfl, gp_5 (List.mem_of_getElem? (i := 2) rfl)⟩
theorem k_Model_foresee_ok : OkI M_Model_foresee 2 := ⟨gm_8 (List.mem_of_getElem? (i := 178) rfl) rfl, gm_1 (List.mem_of_getElem? (i := 10) rfl) rfl, by decide, by decide, by decide +kernel⟩
theorem k_Model_foresee_v : OkV M_Model_foresee 2 := ⟨k_Model_foresee_ok, rfl, gm_8 (List.mem_of_getElem? (i := 176) rfl) rfl, gm_8 (List.mem_of_getElem? (i := 177) rfl) rfl⟩
theorem k_Model_go_ok : OkI M_Model_go 2 := ⟨gm_8 (List.mem_of_getElem? (i := 20) rfl) rfl, gm_1 (List.mem_of_getElem? (i := 10) rfl) rfl, by decide, by decide, by decide +kernel⟩
theorem k_Model_go_v : OkV M_Model_go 2 := ⟨k_Model_go_ok, rfl, gm_8 (List.mem_of_getElem? (i := 18) rfl) rfl, gm_8 (List.mem_of_getElem? (i := 19) rfl) rfl⟩
theorem k_Model_goDown_ok : OkI M_Model_goDown 2 := ⟨gm_7 (List.mem_of_getElem? (i := 114) rfl) rfl, gm_1 (List.mem_of_getElem? (i := 10) rfl) rfl, by decide, by decide, by decide +kernel⟩
theorem k_Model_goDown_v : OkV M_Model_goDown 2 := ⟨k_Model_goDown_ok, rfl, gm_7 (List.mem_of_getElem? (i := 113) rfl) rfl, gp_4 (List.mem_of_getElem? (i := 9) rfl)⟩
theorem k_Model_goesBy_ok : OkI M_Model_goesBy 1 := ⟨gm_8 (List.mem_of_getElem? (i := 117) rfl) rfl, gm_1 (List.mem_of_getElem? (i := 10) rfl) rfl, by decide, by decide, by decide +kernel⟩
theorem k_Model_goesBy_v : OkV M_Model_goesBy 1 := ⟨k_Model_goesBy_ok, rfl, gm_8 (List.mem_of_getElem? (i := 116) rfl) rfl, gp_7 (List.mem_of_getElem? (i := 0) rfl)⟩
theorem k_Model_is_ok : OkI M_Model_is 2 := ⟨gm_7 (List.mem_of_getElem? (i := 216) rfl) rfl, gm_1 (List.mem_of_getElem? (i := 10) rfl) rfl, by decide, by decide, by decide +kernel⟩
theorem k_Model_is_v : OkV M_Model_is 2 := ⟨k_Model_is_ok, rfl, gm_7 (List.mem_of_getElem? (i := 215) rfl) rfl, gp_5 (List.mem_of_getElem? (i := 8) rfl)⟩
theorem k_Model_isBoth_ok : OkI M_Model_isBoth 1 := ⟨gm_7 (List.mem_of_getElem? (i := 106) rfl) rfl, gm_1 (List.mem_of_getElem? (i := 10) rfl) rfl, by decide, by decide, by decide +kernel⟩
theorem k_Model_isBoth_v : OkV M_Model_isBoth 1 := ⟨k_Model_isBoth_ok, rfl, gm_7 (List.mem_of_getElem? (i := 105) rfl) rfl, gp_4 (List.mem_of_getElem? (i := 7) rfl)⟩
theorem k_Model_isCarriedOut_ok : OkI M_Model_isCarriedOut 2 := ⟨gm_8 (List.mem_of_getElem? (i := 101) rfl) rfl, gm_1 (List.mem_of_getElem? (i := 10) rfl) rfl, by decide, by decide, by decide +kernel⟩
theorem k_Model_isCarriedOut_v : OkV M_Model_isCarriedOut 2 := ⟨k_Model_isCarriedOut_ok, rfl, gm_8 (List.mem_of_getElem? (i := 100) rfl) rfl, gp_6 (List.mem_of_getElem? (i := 12) rfl)⟩
theorem k_Model_isDigit_ok : OkI M_Model_isDigit 1 := ⟨gm_7 (List.mem_of_getElem? (i := 6) rfl) rfl, gm_1 (List.mem_of_getElem? (i := 10) rfl) rfl, by decide, by decide, by decide +kernel⟩
theorem k_Model_isDigit_s : OkS M_Model_isDigit 1 := ⟨k_Model_isDigit_ok, gm_7 (List.mem_of_getElem? (i := 5) rfl) rfl⟩
theorem k_Model_isIn_ok : OkI M_Model_isIn 3 := ⟨gm_6 (List.mem_of_getElem? (i := 220) rfl) rfl, gm_1 (List.mem_of_getElem? (i := 10) rfl) rfl, by decide, by decide, by decide +kernel⟩
theorem k_Model_isIn_s : OkS M_Model_isIn 3 := ⟨k_Model_isIn_ok, gm_6 (List.mem_of_getElem? (i := 219) rfl) rfl⟩
theorem k_Model_isLetter_ok : OkI M_Model_isLetter 1 := ⟨gm_7 (List.mem_of_getElem? (i := 3) rfl) rfl, gm_1 (List.mem_of_getElem? (i := 10) rfl) rfl, by decide, by decide, by decide +kernel⟩
theorem k_Model_isLetter_s : OkS M_Model_isLetter 1 := ⟨k_Model_isLetter_ok, gm_7 (List.mem_of_getElem? (i := 2) rfl) rfl⟩
theorem k_Model_isLine_ok : OkI M_Model_isLine 1 := ⟨gm_7 (List.mem_of_getElem? (i := 82) rfl) rfl, gm_1 (List.mem_of_getElem? (i := 10) rfl) rfl, by decide, by decide, by decide +kernel⟩
theorem k_Model_isLine_v : OkV M_Model_isLine 1 := ⟨k_Model_isLine_ok, rfl, gm_7 (List.mem_of_getElem? (i := 81) rfl) rfl, gp_4 (List.mem_of_getElem? (i := 1) rfl)⟩
theorem k_Model_isList_ok : OkI M_Model_isList 1 := ⟨gm_7 (List.mem_of_getElem? (i := 78) rfl) rfl, gm_1 (List.mem_of_getElem? (i := 10) rfl) rfl, by decide, by decide, by decide +kernel⟩
theorem k_Model_isList_v : OkV M_Model_isList 1 := ⟨k_Model_isList_ok, rfl, gm_7 (List.mem_of_getElem? (i := 77) rfl) rfl, gp_4 (List.mem_of_getElem? (i := 0) rfl)⟩
theorem k_Model_isName_ok : OkI M_Model_isName 2 := ⟨gm_7 (List.mem_of_getElem? (i := 86) rfl) rfl, gm_1 (List.mem_of_getElem? (i := 10) rfl) rfl, by decide, by decide, by decide +kernel⟩
theorem k_Model_isName_v : OkV M_Model_isName 2 := ⟨k_Model_isName_ok, rfl, gm_7 (List.mem_of_getElem? (i := 85) rfl) rfl, gp_4 (List.mem_of_getElem? (i := 2) rfl)⟩
theorem k_Model_isNumber_ok : OkI M_Model_isNumber 2 := ⟨gm_7 (List.mem_of_getElem? (i := 94) rfl) rfl, gm_1 (List.mem_of_getElem? (i := 10) rfl) rfl, by decide, by decide, by decide +kernel⟩
theorem k_Model_isNumber_v : OkV M_Model_isNumber 2 := ⟨k_Model_isNumber_ok, rfl, gm_7 (List.mem_of_getElem? (i := 93) rfl) rfl, gp_4 (List.mem_of_getElem? (i := 4) rfl)⟩
theorem k_Model_isOrder_ok : OkI M_Model_isOrder 1 := ⟨gm_7 (List.mem_of_getElem? (i := 137) rfl) rfl, gm_1 (List.mem_of_getElem? (i := 10) rfl) rfl, by decide, by decide, by decide +kernel⟩
theorem k_Model_isOrder_s : OkS M_Model_isOrder 1 := ⟨k_Model_isOrder_ok, gm_7 (List.mem_of_getElem? (i := 136) rfl) rfl⟩
theorem k_Model_isProduct_ok : OkI M_Model_isProduct 1 := ⟨gm_7 (List.mem_of_getElem? (i := 126) rfl) rfl, gm_1 (List.mem_of_getElem? (i := 10) rfl) rfl, by decide, by decide, by decide +kernel⟩
theorem k_Model_isProduct_v : OkV M_Model_isProduct 1 := ⟨k_Model_isProduct_ok, rfl, gm_7 (List.mem_of_getElem? (i := 125) rfl) rfl, gp_4 (List.mem_of_getElem? (i := 12) rfl)⟩
theorem k_Model_isSingle_ok : OkI M_Model_isSingle 1 := ⟨gm_7 (List.mem_of_getElem? (i := 110) rfl) rfl, gm_1 (List.mem_of_getElem? (i := 10) rfl) rfl, by decide, by decide, by decide +kernel⟩
theorem k_Model_isSingle_v : OkV M_Model_isSingle 1 := ⟨k_Model_isSingle_ok, rfl, gm_7 (List.mem_of_getElem? (i := 109) rfl) rfl, gp_4 (List.mem_of_getElem? (i := 8) rfl)⟩
theorem k_Model_isSort_ok : OkI M_Model_isSort 1 := ⟨gm_7 (List.mem_of_getElem? (i := 148) rfl) rfl, gm_1 (List.mem_of_getElem? (i := 10) rfl) rfl, by decide, by decide, by decide +kernel⟩
theorem k_Model_isSort_s : OkS M_Model_isSort 1 := ⟨k_Model_isSort_ok, gm_7 (List.mem_of_getElem? (i := 147) rfl) rfl⟩
theorem k_Model_isSum_ok : OkI M_Model_isSum 1 := ⟨gm_7 (List.mem_of_getElem? (i := 122) rfl) rfl, gm_1 (List.mem_of_getElem? (i := 10) rfl) rfl, by decide, by decide, by decide +kernel⟩
theorem k_Model_isSum_v : OkV M_Model_isSum 1 := ⟨k_Model_isSum_ok, rfl, gm_7 (List.mem_of_getElem? (i := 121) rfl) rfl, gp_4 (List.mem_of_getElem? (i := 11) rfl)⟩
theorem k_Model_isTest_ok : OkI M_Model_isTest 1 := ⟨gm_7 (List.mem_of_getElem? (i := 102) rfl) rfl, gm_1 (List.mem_of_getElem? (i := 10) rfl) rfl, by decide, by decide, by decide +kernel⟩
theorem k_Model_isTest_v : OkV M_Model_isTest 1 := ⟨k_Model_isTest_ok, rfl, gm_7 (List.mem_of_getElem? (i := 101) rfl) rfl, gp_4 (List.mem_of_getElem? (i := 6) rfl)⟩
theorem k_Model_isValue_ok : OkI M_Model_isValue 1 := ⟨gm_7 (List.mem_of_getElem? (i := 130) rfl) rfl, gm_1 (List.mem_of_getElem? (i := 10) rfl) rfl, by decide, by decide, by decide +kernel⟩
theorem k_Model_isValue_v : OkV M_Model_isValue 1 := ⟨k_Model_isValue_ok, rfl, gm_7 (List.mem_of_getElem? (i := 129) rfl) rfl, gp_4 (List.mem_of_getElem? (i := 13) rfl)⟩
theorem k_Model_isWeak_ok : OkI M_Model_isWeak 3 := ⟨gm_8 (List.mem_of_getElem? (i := 35) rfl) rfl, gm_1 (List.mem_of_getElem? (i := 10) rfl) rfl, by decide, by decide, by decide +kernel⟩
theorem k_Model_isWeak_v : OkV M_Model_isWeak 3 := ⟨k_Model_isWeak_ok, rfl, gm_8 (List.mem_of_getElem? (i := 34) rfl) rfl, gp_6 (List.mem_of_getElem? (i := 1) rfl)⟩
theorem k_Model_isWhen_ok : OkI M_Model_isWhen 1 := ⟨gm_7 (List.mem_of_getElem? (i := 98) rfl) rfl, gm_1 (List.mem_of_getElem? (i := 10) rfl) rfl, by decide, by decide, by decide +kernel⟩
theorem k_Model_isWhen_v : OkV M_Model_isWhen 1 := ⟨k_Model_isWhen_ok, rfl, gm_7 (List.mem_of_getElem? (i := 97) rfl) rfl, gp_4 (List.mem_of_getElem? (i := 5) rfl)⟩
theorem k_Model_kindAt_ok : OkI M_Model_kindAt 2 := ⟨gm_7 (List.mem_of_getElem? (i := 10) rfl) rfl, gm_1 (List.mem_of_getElem? (i := 10) rfl) rfl, by decide, by decide, by decide +kernel⟩
theorem k_Model_kindAt_v : OkV M_Model_kindAt 2 := ⟨k_Model_kindAt_ok, rfl, gm_7 (List.mem_of_getElem? (i := 9) rfl) rfl, gp_3 (List.mem_of_getElem? (i := 14) rfl)⟩
theorem k_Model_lengthAt_ok : OkI M_Model_lengthAt 1 := ⟨gm_7 (List.mem_of_getElem? (i := 0) rfl) rfl, gm_1 (List.mem_of_getElem? (i := 10) rfl) rfl, by decide, by decide, by decide +kernel⟩
theorem k_Model_lengthAt_v : OkV M_Model_lengthAt 1 := ⟨k_Model_lengthAt_ok, rfl, gm_6 (List.mem_of_getElem? (i := 239) rfl) rfl, gp_3 (List.mem_of_getElem? (i := 13) rfl)⟩
theorem k_Model_lies_ok : OkI M_Model_lies 1 := ⟨gm_8 (List.mem_of_getElem? (i := 169) rfl) rfl, gm_1 (List.mem_of_getElem? (i := 10) rfl) rfl, by decide, by decide, by decide +kernel⟩
theorem k_Model_lies_v : OkV M_Model_lies 1 := ⟨k_Model_lies_ok, rfl, gm_8 (List.mem_of_getElem? (i := 168) rfl) rfl, gp_7 (List.mem_of_getElem? (i := 11) rfl)⟩
theorem k_Model_look_ok : OkI M_Model_look 3 := ⟨gm_8 (List.mem_of_getElem? (i := 63) rfl) rfl, gm_1 (List.mem_of_getElem? (i := 10) rfl) rfl, by decide, by decide, by decide +kernel⟩
theorem k_Model_look_v : OkV M_Model_look 3 := ⟨k_Model_look_ok, rfl, gm_8 (List.mem_of_getElem? (i := 62) rfl) rfl, gp_6 (List.mem_of_getElem? (i := 7) rfl)⟩
theorem k_Model_mean_ok : OkI M_Model_mean 0 := ⟨gm_8 (List.mem_of_getElem? (i := 194) rfl) rfl, gm_1 (List.mem_of_getElem? (i := 10) rfl) rfl, by decide, by decide, by decide +kernel⟩
theorem k_Model_mean_v : OkV M_Model_mean 0 := ⟨k_Model_mean_ok, rfl, gm_8 (List.mem_of_getElem? (i := 192) rfl) rfl, gm_8 (List.mem_of_getElem? (i := 193) rfl) rfl⟩
theorem k_Model_melt_0_ok : OkI M_Model_melt_0 2 := ⟨gm_8 (List.mem_of_getElem? (i := 157) rfl) rfl, gm_1 (List.mem_of_getElem? (i := 10) rfl) rfl, by decide, by decide, by decide +kernel⟩
theorem k_Model_melt_0_v : OkV M_Model_melt_0 2 := ⟨k_Model_melt_0_ok, rfl, gm_8 (List.mem_of_getElem? (i := 155) rfl) rfl, gm_8 (List.mem_of_getElem? (i := 156) rfl) rfl⟩
theorem k_Model_melt_1_ok : OkI M_Model_melt_1 3 := ⟨gm_8 (List.mem_of_getElem? (i := 141) rfl) rfl, gm_1 (List.mem_of_getElem? (i := 10) rfl) rfl, by decide, by decide, by decide +kernel⟩
theorem k_Model_melt_1_v : OkV M_Model_melt_1 3 := ⟨k_Model_melt_1_ok, rfl, gm_8 (List.mem_of_getElem? (i := 140) rfl) rfl, gp_7 (List.mem_of_getElem? (i := 6) rfl)⟩
theorem k_Model_meltsIn_ok : OkI M_Model_meltsIn 2 := ⟨gm_8 (List.mem_of_getElem? (i := 161) rfl) rfl, gm_1 (List.mem_of_getElem? (i := 10) rfl) rfl, by decide, by decide, by decide +kernel⟩
theorem k_Model_meltsIn_v : OkV M_Model_meltsIn 2 := ⟨k_Model_meltsIn_ok, rfl, gm_8 (List.mem_of_getElem? (i := 160) rfl) rfl, gp_7 (List.mem_of_getElem? (i := 10) rfl)⟩
theorem k_Model_most_ok : OkI M_Model_most 1 := ⟨gm_7 (List.mem_of_getElem? (i := 163) rfl) rfl, gm_1 (List.mem_of_getElem? (i := 10) rfl) rfl, by decide, by decide, by decide +kernel⟩
theorem k_Model_most_s : OkS M_Model_most 1 := ⟨k_Model_most_ok, gm_7 (List.mem_of_getElem? (i := 162) rfl) rfl⟩
theorem k_Model_move_ok : OkI M_Model_move 3 := ⟨gm_8 (List.mem_of_getElem? (i := 39) rfl) rfl, gm_1 (List.mem_of_getElem? (i := 10) rfl) rfl, by decide, by decide, by decide +kernel⟩
theorem k_Model_move_v : OkV M_Model_move 3 := ⟨k_Model_move_ok, rfl, gm_8 (List.mem_of_getElem? (i := 38) rfl) rfl, gp_6 (List.mem_of_getElem? (i := 2) rfl)⟩
theorem k_Model_moved_ok : OkI M_Model_moved 3 := ⟨gm_8 (List.mem_of_getElem? (i := 24) rfl) rfl, gm_1 (List.mem_of_getElem? (i := 10) rfl) rfl, by decide, by decide, by decide +kernel⟩
theorem k_Model_moved_v : OkV M_Model_moved 3 := ⟨k_Model_moved_ok, rfl, gm_8 (List.mem_of_getElem? (i := 23) rfl) rfl, gp_5 (List.mem_of_getElem? (i := 15) rfl)⟩
theorem k_Model_named_ok : OkI M_Model_named 0 := ⟨gm_8 (List.mem_of_getElem? (i := 121) rfl) rfl, gm_1 (List.mem_of_getElem? (i := 10) rfl) rfl, by decide, by decide, by decide +kernel⟩
theorem k_Model_named_v : OkV M_Model_named 0 := ⟨k_Model_named_ok, rfl, gm_8 (List.mem_of_getElem? (i := 120) rfl) rfl, gp_7 (List.mem_of_getElem? (i := 1) rfl)⟩
theorem k_Model_no_ok : OkI M_Model_no 1 := ⟨gm_6 (List.mem_of_getElem? (i := 213) rfl) rfl, gm_1 (List.mem_of_getElem? (i := 10) rfl) rfl, by decide, by decide, by decide +kernel⟩
theorem k_Model_no_v : OkV M_Model_no 1 := ⟨k_Model_no_ok, rfl, gm_6 (List.mem_of_getElem? (i := 212) rfl) rfl, gp_3 (List.mem_of_getElem? (i := 9) rfl)⟩
theorem k_Model_number_ok : OkI M_Model_number 2 := ⟨gm_7 (List.mem_of_getElem? (i := 174) rfl) rfl, gm_1 (List.mem_of_getElem? (i := 10) rfl) rfl, by decide, by decide, by decide +kernel⟩
theorem k_Model_number_v : OkV M_Model_number 2 := ⟨k_Model_number_ok, rfl, gm_7 (List.mem_of_getElem? (i := 173) rfl) rfl, gp_5 (List.mem_of_getElem? (i := 5) rfl)⟩
theorem k_Model_pass_ok : OkI M_Model_pass 1 := ⟨gm_8 (List.mem_of_getElem? (i := 89) rfl) rfl, gm_1 (List.mem_of_getElem? (i := 10) rfl) rfl, by decide, by decide, by decide +kernel⟩
theorem k_Model_pass_v : OkV M_Model_pass 1 := ⟨k_Model_pass_ok, rfl, gm_8 (List.mem_of_getElem? (i := 87) rfl) rfl, gm_8 (List.mem_of_getElem? (i := 88) rfl) rfl⟩
theorem k_Model_probe_ok : OkI M_Model_probe 2 := ⟨gm_8 (List.mem_of_getElem? (i := 51) rfl) rfl, gm_1 (List.mem_of_getElem? (i := 10) rfl) rfl, by decide, by decide, by decide +kernel⟩
theorem k_Model_probe_v : OkV M_Model_probe 2 := ⟨k_Model_probe_ok, rfl, gm_8 (List.mem_of_getElem? (i := 49) rfl) rfl, gm_8 (List.mem_of_getElem? (i := 50) rfl) rfl⟩
theorem k_Model_probed_ok : OkI M_Model_probed 3 := ⟨gm_8 (List.mem_of_getElem? (i := 55) rfl) rfl, gm_1 (List.mem_of_getElem? (i := 10) rfl) rfl, by decide, by decide, by decide +kernel⟩
theorem k_Model_probed_v : OkV M_Model_probed 3 := ⟨k_Model_probed_ok, rfl, gm_8 (List.mem_of_getElem? (i := 54) rfl) rfl, gp_6 (List.mem_of_getElem? (i := 5) rfl)⟩
theorem k_Model_product_ok : OkI M_Model_product 0 := ⟨gm_8 (List.mem_of_getElem? (i := 129) rfl) rfl, gm_1 (List.mem_of_getElem? (i := 10) rfl) rfl, by decide, by decide, by decide +kernel⟩
theorem k_Model_product_v : OkV M_Model_product 0 := ⟨k_Model_product_ok, rfl, gm_8 (List.mem_of_getElem? (i := 128) rfl) rfl, gp_7 (List.mem_of_getElem? (i := 3) rfl)⟩
theorem k_Model_read_ok : OkI M_Model_read 1 := ⟨gm_6 (List.mem_of_getElem? (i := 228) rfl) rfl, gm_1 (List.mem_of_getElem? (i := 10) rfl) rfl, by decide, by decide, by decide +kernel⟩
theorem k_Model_read_v : OkV M_Model_read 1 := ⟨k_Model_read_ok, rfl, gm_6 (List.mem_of_getElem? (i := 227) rfl) rfl, gp_3 (List.mem_of_getElem? (i := 10) rfl)⟩
theorem k_Model_readAll_ok : OkI M_Model_readAll 2 := ⟨gm_8 (List.mem_of_getElem? (i := 153) rfl) rfl, gm_1 (List.mem_of_getElem? (i := 10) rfl) rfl, by decide, by decide, by decide +kernel⟩
theorem k_Model_readAll_v : OkV M_Model_readAll 2 := ⟨k_Model_readAll_ok, rfl, gm_8 (List.mem_of_getElem? (i := 152) rfl) rfl, gp_7 (List.mem_of_getElem? (i := 9) rfl)⟩
theorem k_Model_reads_ok : OkI M_Model_reads 3 := ⟨gm_8 (List.mem_of_getElem? (i := 190) rfl) rfl, gm_1 (List.mem_of_getElem? (i := 10) rfl) rfl, by decide, by decide, by decide +kernel⟩
theorem k_Model_reads_v : OkV M_Model_reads 3 := ⟨k_Model_reads_ok, rfl, gm_8 (List.mem_of_getElem? (i := 189) rfl) rfl, gp_7 (List.mem_of_getElem? (i := 12) rfl)⟩
theorem k_Model_safe_ok : OkI M_Model_safe 2 := ⟨gm_8 (List.mem_of_getElem? (i := 182) rfl) rfl, gm_1 (List.mem_of_getElem? (i := 10) rfl) rfl, by decide, by decide, by decide +kernel⟩
theorem k_Model_safe_v : OkV M_Model_safe 2 := ⟨k_Model_safe_ok, rfl, gm_8 (List.mem_of_getElem? (i := 180) rfl) rfl, gm_8 (List.mem_of_getElem? (i := 181) rfl) rfl⟩
theorem k_Model_setWarm_ok : OkI M_Model_setWarm 2 := ⟨gm_8 (List.mem_of_getElem? (i := 85) rfl) rfl, gm_1 (List.mem_of_getElem? (i := 10) rfl) rfl, by decide, by decide, by decide +kernel⟩
theorem k_Model_setWarm_v : OkV M_Model_setWarm 2 := ⟨k_Model_setWarm_ok, rfl, gm_8 (List.mem_of_getElem? (i := 83) rfl) rfl, gm_8 (List.mem_of_getElem? (i := 84) rfl) rfl⟩
theorem k_Model_single_ok : OkI M_Model_single 0 := ⟨gm_8 (List.mem_of_getElem? (i := 113) rfl) rfl, gm_1 (List.mem_of_getElem? (i := 10) rfl) rfl, by decide, by decide, by decide +kernel⟩
theorem k_Model_single_v : OkV M_Model_single 0 := ⟨k_Model_single_ok, rfl, gm_8 (List.mem_of_getElem? (i := 112) rfl) rfl, gp_6 (List.mem_of_getElem? (i := 15) rfl)⟩
theorem k_Model_snow_ok : OkI M_Model_snow 3 := ⟨gm_8 (List.mem_of_getElem? (i := 145) rfl) rfl, gm_1 (List.mem_of_getElem? (i := 10) rfl) rfl, by decide, by decide, by decide +kernel⟩
theorem k_Model_snow_v : OkV M_Model_snow 3 := ⟨k_Model_snow_ok, rfl, gm_8 (List.mem_of_getElem? (i := 144) rfl) rfl, gp_7 (List.mem_of_getElem? (i := 7) rfl)⟩
theorem k_Model_sortBehind_ok : OkI M_Model_sortBehind 1 := ⟨gm_7 (List.mem_of_getElem? (i := 166) rfl) rfl, gm_1 (List.mem_of_getElem? (i := 10) rfl) rfl, by decide, by decide, by decide +kernel⟩
theorem k_Model_sortBehind_s : OkS M_Model_sortBehind 1 := ⟨k_Model_sortBehind_ok, gm_7 (List.mem_of_getElem? (i := 165) rfl) rfl⟩
theorem k_Model_stake_ok : OkI M_Model_stake 2 := ⟨gm_7 (List.mem_of_getElem? (i := 228) rfl) rfl, gm_1 (List.mem_of_getElem? (i := 10) rfl) rfl, by decide, by decide, by decide +kernel⟩
theorem k_Model_stake_v : OkV M_Model_stake 2 := ⟨k_Model_stake_ok, rfl, gm_7 (List.mem_of_getElem? (i := 226) rfl) rfl, gm_7 (List.mem_of_getElem? (i := 227) rfl) rfl⟩
theorem k_Model_stakeTold_ok : OkI M_Model_stakeTold 2 := ⟨gm_7 (List.mem_of_getElem? (i := 232) rfl) rfl, gm_1 (List.mem_of_getElem? (i := 10) rfl) rfl, by decide, by decide, by decide +kernel⟩
theorem k_Model_stakeTold_v : OkV M_Model_stakeTold 2 := ⟨k_Model_stakeTold_ok, rfl, gm_7 (List.mem_of_getElem? (i := 231) rfl) rfl, gp_5 (List.mem_of_getElem? (i := 11) rfl)⟩
theorem k_Model_stock_ok : OkI M_Model_stock 2 := ⟨gm_8 (List.mem_of_getElem? (i := 81) rfl) rfl, gm_1 (List.mem_of_getElem? (i := 10) rfl) rfl, by decide, by decide, by decide +kernel⟩
theorem k_Model_stock_v : OkV M_Model_stock 2 := ⟨k_Model_stock_ok, rfl, gm_8 (List.mem_of_getElem? (i := 79) rfl) rfl, gm_8 (List.mem_of_getElem? (i := 80) rfl) rfl⟩
theorem k_Model_sum_ok : OkI M_Model_sum 0 := ⟨gm_8 (List.mem_of_getElem? (i := 125) rfl) rfl, gm_1 (List.mem_of_getElem? (i := 10) rfl) rfl, by decide, by decide, by decide +kernel⟩
theorem k_Model_sum_v : OkV M_Model_sum 0 := ⟨k_Model_sum_ok, rfl, gm_8 (List.mem_of_getElem? (i := 124) rfl) rfl, gp_7 (List.mem_of_getElem? (i := 2) rfl)⟩
theorem k_Model_teach_ok : OkI M_Model_teach 0 := ⟨gm_6 (List.mem_of_getElem? (i := 224) rfl) rfl, gm_1 (List.mem_of_getElem? (i := 10) rfl) rfl, by decide, by decide, by decide +kernel⟩
theorem k_Model_teach_v : OkV M_Model_teach 0 := ⟨k_Model_teach_ok, rfl, gm_6 (List.mem_of_getElem? (i := 222) rfl) rfl, gm_6 (List.mem_of_getElem? (i := 223) rfl) rfl⟩
theorem k_Model_team_ok : OkI M_Model_team 2 := ⟨gm_8 (List.mem_of_getElem? (i := 12) rfl) rfl, gm_1 (List.mem_of_getElem? (i := 10) rfl) rfl, by decide, by decide, by decide +kernel⟩
theorem k_Model_team_v : OkV M_Model_team 2 := ⟨k_Model_team_ok, rfl, gm_8 (List.mem_of_getElem? (i := 10) rfl) rfl, gm_8 (List.mem_of_getElem? (i := 11) rfl) rfl⟩
theorem k_Model_teamTold_ok : OkI M_Model_teamTold 2 := ⟨gm_8 (List.mem_of_getElem? (i := 16) rfl) rfl, gm_1 (List.mem_of_getElem? (i := 10) rfl) rfl, by decide, by decide, by decide +kernel⟩
theorem k_Model_teamTold_v : OkV M_Model_teamTold 2 := ⟨k_Model_teamTold_ok, rfl, gm_8 (List.mem_of_getElem? (i := 15) rfl) rfl, gp_5 (List.mem_of_getElem? (i := 14) rfl)⟩
theorem k_Model_teamsIn_ok : OkI M_Model_teamsIn 2 := ⟨gm_7 (List.mem_of_getElem? (i := 224) rfl) rfl, gm_1 (List.mem_of_getElem? (i := 10) rfl) rfl, by decide, by decide, by decide +kernel⟩
theorem k_Model_teamsIn_v : OkV M_Model_teamsIn 2 := ⟨k_Model_teamsIn_ok, rfl, gm_7 (List.mem_of_getElem? (i := 223) rfl) rfl, gp_5 (List.mem_of_getElem? (i := 10) rfl)⟩
theorem k_Model_test_ok : OkI M_Model_test 0 := ⟨gm_8 (List.mem_of_getElem? (i := 105) rfl) rfl, gm_1 (List.mem_of_getElem? (i := 10) rfl) rfl, by decide, by decide, by decide +kernel⟩
theorem k_Model_test_v : OkV M_Model_test 0 := ⟨k_Model_test_ok, rfl, gm_8 (List.mem_of_getElem? (i := 104) rfl) rfl, gp_6 (List.mem_of_getElem? (i := 13) rfl)⟩
theorem k_Model_thrown_ok : OkI M_Model_thrown 0 := ⟨gm_6 (List.mem_of_getElem? (i := 205) rfl) rfl, gm_1 (List.mem_of_getElem? (i := 10) rfl) rfl, by decide, by decide, by decide +kernel⟩
theorem k_Model_thrown_v : OkV M_Model_thrown 0 := ⟨k_Model_thrown_ok, rfl, gm_6 (List.mem_of_getElem? (i := 203) rfl) rfl, gm_6 (List.mem_of_getElem? (i := 204) rfl) rfl⟩
theorem k_Model_trap_ok : OkI M_Model_trap 3 := ⟨gm_8 (List.mem_of_getElem? (i := 43) rfl) rfl, gm_1 (List.mem_of_getElem? (i := 10) rfl) rfl, by decide, by decide, by decide +kernel⟩
theorem k_Model_trap_v : OkV M_Model_trap 3 := ⟨k_Model_trap_ok, rfl, gm_8 (List.mem_of_getElem? (i := 42) rfl) rfl, gp_6 (List.mem_of_getElem? (i := 3) rfl)⟩
theorem k_Model_trim_ok : OkI M_Model_trim 1 := ⟨gm_6 (List.mem_of_getElem? (i := 217) rfl) rfl, gm_1 (List.mem_of_getElem? (i := 10) rfl) rfl, by decide, by decide, by decide +kernel⟩
theorem k_Model_trim_v : OkV M_Model_trim 1 := ⟨k_Model_trim_ok, rfl, gm_6 (List.mem_of_getElem? (i := 215) rfl) rfl, gm_6 (List.mem_of_getElem? (i := 216) rfl) rfl⟩
theorem k_Model_until_ok : OkI M_Model_until 1 := ⟨gm_8 (List.mem_of_getElem? (i := 165) rfl) rfl, gm_1 (List.mem_of_getElem? (i := 10) rfl) rfl, by decide, by decide, by decide +kernel⟩
theorem k_Model_until_v : OkV M_Model_until 1 := ⟨k_Model_until_ok, rfl, gm_8 (List.mem_of_getElem? (i := 163) rfl) rfl, gm_8 (List.mem_of_getElem? (i := 164) rfl) rfl⟩
theorem k_Model_value_ok : OkI M_Model_value 0 := ⟨gm_8 (List.mem_of_getElem? (i := 133) rfl) rfl, gm_1 (List.mem_of_getElem? (i := 10) rfl) rfl, by decide, by decide, by decide +kernel⟩
theorem k_Model_value_v : OkV M_Model_value 0 := ⟨k_Model_value_ok, rfl, gm_8 (List.mem_of_getElem? (i := 132) rfl) rfl, gp_7 (List.mem_of_getElem? (i := 4) rfl)⟩
theorem k_Model_wayOf_ok : OkI M_Model_wayOf 3 := ⟨gm_8 (List.mem_of_getElem? (i := 31) rfl) rfl, gm_1 (List.mem_of_getElem? (i := 10) rfl) rfl, by decide, by decide, by decide +kernel⟩
theorem k_Model_wayOf_s : OkS M_Model_wayOf 3 := ⟨k_Model_wayOf_ok, gm_8 (List.mem_of_getElem? (i := 30) rfl) rfl⟩
theorem k_Model_wordAt_ok : OkI M_Model_wordAt 2 := ⟨gm_7 (List.mem_of_getElem? (i := 14) rfl) rfl, gm_1 (List.mem_of_getElem? (i := 10) rfl) rfl, by decide, by decide, by decide +kernel⟩
theorem k_Model_wordAt_v : OkV M_Model_wordAt 2 := ⟨k_Model_wordAt_ok, rfl, gm_7 (List.mem_of_getElem? (i := 13) rfl) rfl, gp_3 (List.mem_of_getElem? (i := 15) rfl)⟩
theorem k_Sheet_init_ok : OkI M_Sheet_init 0 := ⟨gm_5 (List.mem_of_getElem? (i := 201) rfl) rfl, gm_1 (List.mem_of_getElem? (i := 11) rfl) rfl, by decide, by decide, by decide +kernel⟩
theorem k_Sheet_init_n : OkN M_Sheet_init 0 := ⟨k_Sheet_init_ok, rfl, rfl, rfl, gm_5 (List.mem_of_getElem? (i := 200) rfl) rfl⟩
theorem k_State_init_ok : OkI M_State_init 0 := ⟨gm_6 (List.mem_of_getElem? (i := 69) rfl) rfl, gm_1 (List.mem_of_getElem? (i := 12) rfl) rfl, by decide, by decide, by decide +kernel⟩
theorem k_State_init_n : OkN M_State_init 0 := ⟨k_State_init_ok, rfl, rfl, rfl, gm_6 (List.mem_of_getElem? (i := 68) rfl) rfl⟩
theorem k_State_become_ok : OkI M_State_become 1 := ⟨gm_8 (List.mem_of_getElem? (i := 173) rfl) rfl, gm_1 (List.mem_of_getElem? (i := 12) rfl) rfl, by decide, by decide, by decide +kernel⟩
theorem k_State_become_v : OkV M_State_become 1 := ⟨k_State_become_ok, rfl, gm_8 (List.mem_of_getElem? (i := 171) rfl) rfl, gm_8 (List.mem_of_getElem? (i := 172) rfl) rfl⟩
theorem k_State_copy_ok : OkI M_State_copy 2 := ⟨gm_7 (List.mem_of_getElem? (i := 184) rfl) rfl, gm_1 (List.mem_of_getElem? (i := 12) rfl) rfl, by decide, by decide, by decide +kernel⟩
theorem k_State_copy_s : OkS M_State_copy 2 := ⟨k_State_copy_ok, gm_7 (List.mem_of_getElem? (i := 183) rfl) rfl⟩
theorem k_State_warmth_ok : OkI M_State_warmth 0 := ⟨gm_7 (List.mem_of_getElem? (i := 208) rfl) rfl, gm_1 (List.mem_of_getElem? (i := 12) rfl) rfl, by decide, by decide, by decide +kernel⟩
theorem k_State_warmth_v : OkV M_State_warmth 0 := ⟨k_State_warmth_ok, rfl, gm_7 (List.mem_of_getElem? (i := 206) rfl) rfl, gm_7 (List.mem_of_getElem? (i := 207) rfl) rfl⟩
theorem k_Character_highSurrogate_ok : OkI M_Character_highSurrogate 1 := ⟨gm_7 (List.mem_of_getElem? (i := 69) rfl) rfl, gm_1 (List.mem_of_getElem? (i := 26) rfl) rfl, by decide, by decide, by decide +kernel⟩
theorem k_Character_highSurrogate_s : OkS M_Character_highSurrogate 1 := ⟨k_Character_highSurrogate_ok, gm_7 (List.mem_of_getElem? (i := 68) rfl) rfl⟩
theorem k_Character_isValidCodePoint_ok : OkI M_Character_isValidCodePoint 1 := ⟨gm_7 (List.mem_of_getElem? (i := 66) rfl) rfl, gm_1 (List.mem_of_getElem? (i := 26) rfl) rfl, by decide, by decide, by decide +kernel⟩
theorem k_Character_isValidCodePoint_s : OkS M_Character_isValidCodePoint 1 := ⟨k_Character_isValidCodePoint_ok, gm_7 (List.mem_of_getElem? (i := 65) rfl) rfl⟩
theorem k_Character_lowSurrogate_ok : OkI M_Character_lowSurrogate 1 := ⟨gm_7 (List.mem_of_getElem? (i := 73) rfl) rfl, gm_1 (List.mem_of_getElem? (i := 26) rfl) rfl, by decide, by decide, by decide +kernel⟩
theorem k_Character_lowSurrogate_s : OkS M_Character_lowSurrogate 1 := ⟨k_Character_lowSurrogate_ok, gm_7 (List.mem_of_getElem? (i := 72) rfl) rfl⟩
theorem k_Enum_ordinal_ok : OkI M_Enum_ordinal 0 := ⟨gm_2 (List.mem_of_getElem? (i := 167) rfl) rfl, gm_1 (List.mem_of_getElem? (i := 4) rfl) rfl, by decide, by decide, by decide +kernel⟩
theorem k_Exception_init_ok : OkI M_Exception_init 1 := ⟨gm_4 (List.mem_of_getElem? (i := 93) rfl) rfl, gm_1 (List.mem_of_getElem? (i := 14) rfl) rfl, by decide, by decide, by decide +kernel⟩
theorem k_Exception_init_n : OkN M_Exception_init 1 := ⟨k_Exception_init_ok, rfl, rfl, rfl, gm_4 (List.mem_of_getElem? (i := 92) rfl) rfl⟩
theorem k_IllegalArgumentException_init_ok : OkI M_IllegalArgumentException_init 1 := ⟨gm_4 (List.mem_of_getElem? (i := 134) rfl) rfl, gm_1 (List.mem_of_getElem? (i := 17) rfl) rfl, by decide, by decide, by decide +kernel⟩
theorem k_IllegalArgumentException_init_n : OkN M_IllegalArgumentException_init 1 := ⟨k_IllegalArgumentException_init_ok, rfl, rfl, rfl, gm_4 (List.mem_of_getElem? (i := 133) rfl) rfl⟩
theorem k_IllegalStateException_init_ok : OkI M_IllegalStateException_init 1 := ⟨gm_4 (List.mem_of_getElem? (i := 87) rfl) rfl, gm_1 (List.mem_of_getElem? (i := 16) rfl) rfl, by decide, by decide, by decide +kernel⟩
theorem k_IllegalStateException_init_n : OkN M_IllegalStateException_init 1 := ⟨k_IllegalStateException_init_ok, rfl, rfl, rfl, gm_4 (List.mem_of_getElem? (i := 86) rfl) rfl⟩
theorem k_IndexOutOfBoundsException_init_ok : OkI M_IndexOutOfBoundsException_init 1 := ⟨gm_4 (List.mem_of_getElem? (i := 161) rfl) rfl, gm_1 (List.mem_of_getElem? (i := 28) rfl) rfl, by decide, by decide, by decide +kernel⟩
theorem k_IndexOutOfBoundsException_init_n : OkN M_IndexOutOfBoundsException_init 1 := ⟨k_IndexOutOfBoundsException_init_ok, rfl, rfl, rfl, gm_4 (List.mem_of_getElem? (i := 160) rfl) rfl⟩
theorem k_Math_max_ok : OkI M_Math_max 2 := ⟨gm_5 (List.mem_of_getElem? (i := 46) rfl) rfl, gm_1 (List.mem_of_getElem? (i := 25) rfl) rfl, by decide, by decide, by decide +kernel⟩
theorem k_Math_max_s : OkS M_Math_max 2 := ⟨k_Math_max_ok, gm_5 (List.mem_of_getElem? (i := 45) rfl) rfl⟩
theorem k_Math_min_ok : OkI M_Math_min 2 := ⟨gm_4 (List.mem_of_getElem? (i := 34) rfl) rfl, gm_1 (List.mem_of_getElem? (i := 25) rfl) rfl, by decide, by decide, by decide +kernel⟩
theorem k_Math_min_s : OkS M_Math_min 2 := ⟨k_Math_min_ok, gm_4 (List.mem_of_getElem? (i := 33) rfl) rfl⟩
theorem k_RuntimeException_init_ok : OkI M_RuntimeException_init 1 := ⟨gm_4 (List.mem_of_getElem? (i := 90) rfl) rfl, gm_1 (List.mem_of_getElem? (i := 15) rfl) rfl, by decide, by decide, by decide +kernel⟩
theorem k_RuntimeException_init_n : OkN M_RuntimeException_init 1 := ⟨k_RuntimeException_init_ok, rfl, rfl, rfl, gm_4 (List.mem_of_getElem? (i := 89) rfl) rfl⟩
theorem k_String_charAt_ok : OkI M_String_charAt 1 := ⟨gm_2 (List.mem_of_getElem? (i := 37) rfl) rfl, gm_1 (List.mem_of_getElem? (i := 18) rfl) rfl, by decide, by decide, by decide +kernel⟩
theorem k_String_charAt_v : OkV M_String_charAt 1 := ⟨k_String_charAt_ok, rfl, gm_2 (List.mem_of_getElem? (i := 35) rfl) rfl, gm_2 (List.mem_of_getElem? (i := 36) rfl) rfl⟩
theorem k_String_checkBoundsBeginEnd_ok : OkI M_String_checkBoundsBeginEnd 3 := ⟨gm_7 (List.mem_of_getElem? (i := 54) rfl) rfl, gm_1 (List.mem_of_getElem? (i := 18) rfl) rfl, by decide, by decide, by decide +kernel⟩
theorem k_String_checkBoundsBeginEnd_s : OkS M_String_checkBoundsBeginEnd 3 := ⟨k_String_checkBoundsBeginEnd_ok, gm_7 (List.mem_of_getElem? (i := 53) rfl) rfl⟩
theorem k_String_checkIndex_ok : OkI M_String_checkIndex 2 := ⟨gm_2 (List.mem_of_getElem? (i := 47) rfl) rfl, gm_1 (List.mem_of_getElem? (i := 18) rfl) rfl, by decide, by decide, by decide +kernel⟩
theorem k_String_checkIndex_s : OkS M_String_checkIndex 2 := ⟨k_String_checkIndex_ok, gm_2 (List.mem_of_getElem? (i := 46) rfl) rfl⟩
theorem k_String_coder_ok : OkI M_String_coder 0 := ⟨gm_2 (List.mem_of_getElem? (i := 31) rfl) rfl, gm_1 (List.mem_of_getElem? (i := 18) rfl) rfl, by decide, by decide, by decide +kernel⟩
theorem k_String_coder_v : OkV M_String_coder 0 := ⟨k_String_coder_ok, rfl, gm_2 (List.mem_of_getElem? (i := 29) rfl) rfl, gm_2 (List.mem_of_getElem? (i := 30) rfl) rfl⟩
theorem k_String_indexOf_0_ok : OkI M_String_indexOf_0 1 := ⟨gm_7 (List.mem_of_getElem? (i := 23) rfl) rfl, gm_1 (List.mem_of_getElem? (i := 18) rfl) rfl, by decide, by decide, by decide +kernel⟩
theorem k_String_indexOf_0_v : OkV M_String_indexOf_0 1 := ⟨k_String_indexOf_0_ok, rfl, gm_7 (List.mem_of_getElem? (i := 21) rfl) rfl, gm_7 (List.mem_of_getElem? (i := 22) rfl) rfl⟩
theorem k_String_indexOf_1_ok : OkI M_String_indexOf_1 2 := ⟨gm_7 (List.mem_of_getElem? (i := 27) rfl) rfl, gm_1 (List.mem_of_getElem? (i := 18) rfl) rfl, by decide, by decide, by decide +kernel⟩
theorem k_String_indexOf_1_v : OkV M_String_indexOf_1 2 := ⟨k_String_indexOf_1_ok, rfl, gm_7 (List.mem_of_getElem? (i := 25) rfl) rfl, gm_7 (List.mem_of_getElem? (i := 26) rfl) rfl⟩
theorem k_String_isLatin1_ok : OkI M_String_isLatin1 0 := ⟨gm_2 (List.mem_of_getElem? (i := 41) rfl) rfl, gm_1 (List.mem_of_getElem? (i := 18) rfl) rfl, by decide, by decide, by decide +kernel⟩
theorem k_String_isLatin1_v : OkV M_String_isLatin1 0 := ⟨k_String_isLatin1_ok, rfl, gm_2 (List.mem_of_getElem? (i := 39) rfl) rfl, gm_2 (List.mem_of_getElem? (i := 40) rfl) rfl⟩
theorem k_String_length_ok : OkI M_String_length 0 := ⟨gm_2 (List.mem_of_getElem? (i := 27) rfl) rfl, gm_1 (List.mem_of_getElem? (i := 18) rfl) rfl, by decide, by decide, by decide +kernel⟩
theorem k_String_length_v : OkV M_String_length 0 := ⟨k_String_length_ok, rfl, gm_2 (List.mem_of_getElem? (i := 25) rfl) rfl, gm_2 (List.mem_of_getElem? (i := 26) rfl) rfl⟩
theorem k_StringLatin1_canEncode_ok : OkI M_StringLatin1_canEncode 1 := ⟨gm_7 (List.mem_of_getElem? (i := 34) rfl) rfl, gm_1 (List.mem_of_getElem? (i := 19) rfl) rfl, by decide, by decide, by decide +kernel⟩
theorem k_StringLatin1_canEncode_s : OkS M_StringLatin1_canEncode 1 := ⟨k_StringLatin1_canEncode_ok, gm_7 (List.mem_of_getElem? (i := 33) rfl) rfl⟩
theorem k_StringLatin1_charAt_ok : OkI M_StringLatin1_charAt 2 := ⟨gm_2 (List.mem_of_getElem? (i := 44) rfl) rfl, gm_1 (List.mem_of_getElem? (i := 19) rfl) rfl, by decide, by decide, by decide +kernel⟩
theorem k_StringLatin1_charAt_s : OkS M_StringLatin1_charAt 2 := ⟨k_StringLatin1_charAt_ok, gm_2 (List.mem_of_getElem? (i := 43) rfl) rfl⟩
theorem k_StringLatin1_indexOf_ok : OkI M_StringLatin1_indexOf 4 := ⟨gm_7 (List.mem_of_getElem? (i := 31) rfl) rfl, gm_1 (List.mem_of_getElem? (i := 19) rfl) rfl, by decide, by decide, by decide +kernel⟩
theorem k_StringLatin1_indexOf_s : OkS M_StringLatin1_indexOf 4 := ⟨k_StringLatin1_indexOf_ok, gm_7 (List.mem_of_getElem? (i := 30) rfl) rfl⟩
theorem k_StringLatin1_indexOfChar_ok : OkI M_StringLatin1_indexOfChar 4 := ⟨gm_7 (List.mem_of_getElem? (i := 39) rfl) rfl, gm_1 (List.mem_of_getElem? (i := 19) rfl) rfl, by decide, by decide, by decide +kernel⟩
theorem k_StringLatin1_indexOfChar_s : OkS M_StringLatin1_indexOfChar 4 := ⟨k_StringLatin1_indexOfChar_ok, gm_7 (List.mem_of_getElem? (i := 38) rfl) rfl⟩
theorem k_StringUTF16_charAt_ok : OkI M_StringUTF16_charAt 2 := ⟨gm_2 (List.mem_of_getElem? (i := 55) rfl) rfl, gm_1 (List.mem_of_getElem? (i := 21) rfl) rfl, by decide, by decide, by decide +kernel⟩
theorem k_StringUTF16_charAt_s : OkS M_StringUTF16_charAt 2 := ⟨k_StringUTF16_charAt_ok, gm_2 (List.mem_of_getElem? (i := 54) rfl) rfl⟩
theorem k_StringUTF16_checkBoundsBeginEnd_ok : OkI M_StringUTF16_checkBoundsBeginEnd 3 := ⟨gm_7 (List.mem_of_getElem? (i := 51) rfl) rfl, gm_1 (List.mem_of_getElem? (i := 21) rfl) rfl, by decide, by decide, by decide +kernel⟩
theorem k_StringUTF16_checkBoundsBeginEnd_s : OkS M_StringUTF16_checkBoundsBeginEnd 3 := ⟨k_StringUTF16_checkBoundsBeginEnd_ok, gm_7 (List.mem_of_getElem? (i := 50) rfl) rfl⟩
theorem k_StringUTF16_checkIndex_ok : OkI M_StringUTF16_checkIndex 2 := ⟨gm_2 (List.mem_of_getElem? (i := 58) rfl) rfl, gm_1 (List.mem_of_getElem? (i := 21) rfl) rfl, by decide, by decide, by decide +kernel⟩
theorem k_StringUTF16_checkIndex_s : OkS M_StringUTF16_checkIndex 2 := ⟨k_StringUTF16_checkIndex_ok, gm_2 (List.mem_of_getElem? (i := 57) rfl) rfl⟩
theorem k_StringUTF16_getChar_ok : OkI M_StringUTF16_getChar 2 := ⟨gm_2 (List.mem_of_getElem? (i := 65) rfl) rfl, gm_1 (List.mem_of_getElem? (i := 21) rfl) rfl, by decide, by decide, by decide +kernel⟩
theorem k_StringUTF16_getChar_s : OkS M_StringUTF16_getChar 2 := ⟨k_StringUTF16_getChar_ok, gm_2 (List.mem_of_getElem? (i := 64) rfl) rfl⟩
theorem k_StringUTF16_indexOf_ok : OkI M_StringUTF16_indexOf 4 := ⟨gm_7 (List.mem_of_getElem? (i := 42) rfl) rfl, gm_1 (List.mem_of_getElem? (i := 21) rfl) rfl, by decide, by decide, by decide +kernel⟩
theorem k_StringUTF16_indexOf_s : OkS M_StringUTF16_indexOf 4 := ⟨k_StringUTF16_indexOf_ok, gm_7 (List.mem_of_getElem? (i := 41) rfl) rfl⟩
theorem k_StringUTF16_indexOfChar_ok : OkI M_StringUTF16_indexOfChar 4 := ⟨gm_7 (List.mem_of_getElem? (i := 48) rfl) rfl, gm_1 (List.mem_of_getElem? (i := 21) rfl) rfl, by decide, by decide, by decide +kernel⟩
theorem k_StringUTF16_indexOfChar_s : OkS M_StringUTF16_indexOfChar 4 := ⟨k_StringUTF16_indexOfChar_ok, gm_7 (List.mem_of_getElem? (i := 47) rfl) rfl⟩
theorem k_StringUTF16_indexOfCharUnsafe_ok : OkI M_StringUTF16_indexOfCharUnsafe 4 := ⟨gm_7 (List.mem_of_getElem? (i := 60) rfl) rfl, gm_1 (List.mem_of_getElem? (i := 21) rfl) rfl, by decide, by decide, by decide +kernel⟩
theorem k_StringUTF16_indexOfCharUnsafe_s : OkS M_StringUTF16_indexOfCharUnsafe 4 := ⟨k_StringUTF16_indexOfCharUnsafe_ok, gm_7 (List.mem_of_getElem? (i := 59) rfl) rfl⟩
theorem k_StringUTF16_indexOfSupplementary_ok : OkI M_StringUTF16_indexOfSupplementary 4 := ⟨gm_7 (List.mem_of_getElem? (i := 63) rfl) rfl, gm_1 (List.mem_of_getElem? (i := 21) rfl) rfl, by decide, by decide, by decide +kernel⟩
theorem k_StringUTF16_indexOfSupplementary_s : OkS M_StringUTF16_indexOfSupplementary 4 := ⟨k_StringUTF16_indexOfSupplementary_ok, gm_7 (List.mem_of_getElem? (i := 62) rfl) rfl⟩
theorem k_StringUTF16_length_ok : OkI M_StringUTF16_length 1 := ⟨gm_2 (List.mem_of_getElem? (i := 61) rfl) rfl, gm_1 (List.mem_of_getElem? (i := 21) rfl) rfl, by decide, by decide, by decide +kernel⟩
theorem k_StringUTF16_length_s : OkS M_StringUTF16_length 1 := ⟨k_StringUTF16_length_ok, gm_2 (List.mem_of_getElem? (i := 60) rfl) rfl⟩
theorem k_Throwable_init_0_ok : OkI M_Throwable_init_0 0 := ⟨gm_4 (List.mem_of_getElem? (i := 67) rfl) rfl, gm_1 (List.mem_of_getElem? (i := 13) rfl) rfl, by decide, by decide, by decide +kernel⟩
theorem k_Throwable_init_0_n : OkN M_Throwable_init_0 0 := ⟨k_Throwable_init_0_ok, rfl, rfl, rfl, gm_4 (List.mem_of_getElem? (i := 66) rfl) rfl⟩
theorem k_Throwable_init_1_ok : OkI M_Throwable_init_1 1 := ⟨gm_4 (List.mem_of_getElem? (i := 96) rfl) rfl, gm_1 (List.mem_of_getElem? (i := 13) rfl) rfl, by decide, by decide, by decide +kernel⟩
theorem k_Throwable_init_1_n : OkN M_Throwable_init_1 1 := ⟨k_Throwable_init_1_ok, rfl, rfl, rfl, gm_4 (List.mem_of_getElem? (i := 95) rfl) rfl⟩
theorem k_Preconditions_checkFromToIndex_ok : OkI M_Preconditions_checkFromToIndex 4 := ⟨gm_7 (List.mem_of_getElem? (i := 57) rfl) rfl, gm_1 (List.mem_of_getElem? (i := 20) rfl) rfl, by decide, by decide, by decide +kernel⟩
theorem k_Preconditions_checkFromToIndex_s : OkS M_Preconditions_checkFromToIndex 4 := ⟨k_Preconditions_checkFromToIndex_ok, gm_7 (List.mem_of_getElem? (i := 56) rfl) rfl⟩
theorem k_Preconditions_checkIndex_ok : OkI M_Preconditions_checkIndex 3 := ⟨gm_2 (List.mem_of_getElem? (i := 52) rfl) rfl, gm_1 (List.mem_of_getElem? (i := 20) rfl) rfl, by decide, by decide, by decide +kernel⟩
theorem k_Preconditions_checkIndex_s : OkS M_Preconditions_checkIndex 3 := ⟨k_Preconditions_checkIndex_ok, gm_2 (List.mem_of_getElem? (i := 51) rfl) rfl⟩
theorem l_Law_77 : Cond.methodLink "GlacierCampLaw" 77 M_Camp_init.1 ∈ gw := gm_1 (List.mem_of_getElem? (i := 31) rfl) rfl
theorem l_Camp_1 : Cond.methodLink "GlacierCamp" 1 M_Object_init.1 ∈ gw := gm_1 (List.mem_of_getElem? (i := 34) rfl) rfl
theorem l_Tape_3 : Cond.methodLink "GlacierCamp$Tape" 3 M_Object_init.1 ∈ gw := gm_1 (List.mem_of_getElem? (i := 42) rfl) rfl
theorem l_Tokens_3 : Cond.methodLink "GlacierCamp$Tokens" 3 M_Object_init.1 ∈ gw := gm_1 (List.mem_of_getElem? (i := 56) rfl) rfl
theorem l_Camp_25 : Cond.methodLink "GlacierCamp" 25 M_Glacier_init.1 ∈ gw := gm_1 (List.mem_of_getElem? (i := 93) rfl) rfl
theorem l_Glacier_3 : Cond.methodLink "GlacierCamp$Glacier" 3 M_Object_init.1 ∈ gw := gm_1 (List.mem_of_getElem? (i := 96) rfl) rfl
theorem l_Glacier_11 : Cond.methodLink "GlacierCamp$Glacier" 11 M_Table_init.1 ∈ gw := gm_1 (List.mem_of_getElem? (i := 99) rfl) rfl
theorem l_Table_3 : Cond.methodLink "GlacierCamp$Table" 3 M_Object_init.1 ∈ gw := gm_1 (List.mem_of_getElem? (i := 102) rfl) rfl
theorem l_Glacier_36 : Cond.methodLink "GlacierCamp$Glacier" 36 M_Glacier_beginAnew.1 ∈ gw := gm_1 (List.mem_of_getElem? (i := 110) rfl) rfl
theorem l_Glacier_39 : Cond.methodLink "GlacierCamp$Glacier" 39 M_Table_clear.1 ∈ gw := gm_1 (List.mem_of_getElem? (i := 114) rfl) rfl
theorem l_Orders_3 : Cond.methodLink "GlacierCamp$Orders" 3 M_Object_init.1 ∈ gw := gm_1 (List.mem_of_getElem? (i := 154) rfl) rfl
theorem l_Orders_11 : Cond.methodLink "GlacierCamp$Orders" 11 M_Table_init.1 ∈ gw := gm_1 (List.mem_of_getElem? (i := 156) rfl) rfl
theorem l_Formulas_3 : Cond.methodLink "GlacierCamp$Formulas" 3 M_Object_init.1 ∈ gw := gm_1 (List.mem_of_getElem? (i := 162) rfl) rfl
theorem l_Law_95 : Cond.methodLink "GlacierCampLaw" 95 M_Camp_teach.1 ∈ gw := gm_1 (List.mem_of_getElem? (i := 210) rfl) rfl
theorem l_Camp_70 : Cond.methodLink "GlacierCamp" 70 M_Glacier_day.1 ∈ gw := gm_1 (List.mem_of_getElem? (i := 214) rfl) rfl
theorem l_Camp_73 : Cond.methodLink "GlacierCamp" 73 M_Glacier_beginAnew.1 ∈ gw := gm_1 (List.mem_of_getElem? (i := 218) rfl) rfl
theorem l_Camp_76 : Cond.methodLink "GlacierCamp" 76 M_Orders_clear.1 ∈ gw := gm_1 (List.mem_of_getElem? (i := 219) rfl) rfl
theorem l_Orders_31 : Cond.methodLink "GlacierCamp$Orders" 31 M_Table_clear.1 ∈ gw := gm_1 (List.mem_of_getElem? (i := 223) rfl) rfl
theorem l_Orders_34 : Cond.methodLink "GlacierCamp$Orders" 34 M_Formulas_clear.1 ∈ gw := gm_1 (List.mem_of_getElem? (i := 224) rfl) rfl
theorem l_Camp_79 : Cond.methodLink "GlacierCamp" 79 M_Tokens_readFrom.1 ∈ gw := gm_1 (List.mem_of_getElem? (i := 228) rfl) rfl
theorem l_Tokens_39 : Cond.methodLink "GlacierCamp$Tokens" 39 M_Tokens_pastBlanks.1 ∈ gw := gm_1 (List.mem_of_getElem? (i := 232) rfl) rfl
theorem l_Tokens_43 : Cond.methodLink "GlacierCamp$Tokens" 43 M_Tape_size.1 ∈ gw := gm_1 (List.mem_of_getElem? (i := 235) rfl) rfl
theorem l_Tokens_82 : Cond.methodLink "GlacierCamp$Tokens" 82 M_Tape_byteAt.1 ∈ gw := gm_1 (List.mem_of_getElem? (i := 239) rfl) rfl
theorem l_Tokens_48 : Cond.methodLink "GlacierCamp$Tokens" 48 M_Tokens_tokenEnd.1 ∈ gw := gm_2 (List.mem_of_getElem? (i := 3) rfl) rfl
theorem l_Tokens_86 : Cond.methodLink "GlacierCamp$Tokens" 86 M_Tokens_isLetter.1 ∈ gw := gm_2 (List.mem_of_getElem? (i := 6) rfl) rfl
theorem l_Tokens_90 : Cond.methodLink "GlacierCamp$Tokens" 90 M_Tokens_isDigit.1 ∈ gw := gm_2 (List.mem_of_getElem? (i := 9) rfl) rfl
theorem l_Tokens_51 : Cond.methodLink "GlacierCamp$Tokens" 51 M_Tokens_signOf.1 ∈ gw := gm_2 (List.mem_of_getElem? (i := 12) rfl) rfl
theorem l_Tokens_103 : Cond.methodLink "GlacierCamp$Tokens" 103 M_Tokens_reads.1 ∈ gw := gm_2 (List.mem_of_getElem? (i := 21) rfl) rfl
theorem l_Tokens_110 : Cond.methodLink "GlacierCamp$Tokens" 110 M_String_length.1 ∈ gw := gm_2 (List.mem_of_getElem? (i := 24) rfl) rfl
theorem l_String_335 : Cond.methodLink "java/lang/String" 335 M_String_coder.1 ∈ gw := gm_2 (List.mem_of_getElem? (i := 28) rfl) rfl
theorem l_Tokens_115 : Cond.methodLink "GlacierCamp$Tokens" 115 M_String_charAt.1 ∈ gw := gm_2 (List.mem_of_getElem? (i := 34) rfl) rfl
theorem l_String_492 : Cond.methodLink "java/lang/String" 492 M_String_isLatin1.1 ∈ gw := gm_2 (List.mem_of_getElem? (i := 38) rfl) rfl
theorem l_String_495 : Cond.methodLink "java/lang/String" 495 M_StringLatin1_charAt.1 ∈ gw := gm_2 (List.mem_of_getElem? (i := 42) rfl) rfl
theorem l_StringLatin1_9 : Cond.methodLink "java/lang/StringLatin1" 9 M_String_checkIndex.1 ∈ gw := gm_2 (List.mem_of_getElem? (i := 45) rfl) rfl
theorem l_String_1059 : Cond.methodLink "java/lang/String" 1059 M_Preconditions_checkIndex.1 ∈ gw := gm_2 (List.mem_of_getElem? (i := 50) rfl) rfl
theorem l_String_498 : Cond.methodLink "java/lang/String" 498 M_StringUTF16_charAt.1 ∈ gw := gm_2 (List.mem_of_getElem? (i := 53) rfl) rfl
theorem l_StringUTF16_67 : Cond.methodLink "java/lang/StringUTF16" 67 M_StringUTF16_checkIndex.1 ∈ gw := gm_2 (List.mem_of_getElem? (i := 56) rfl) rfl
theorem l_StringUTF16_48 : Cond.methodLink "java/lang/StringUTF16" 48 M_StringUTF16_length.1 ∈ gw := gm_2 (List.mem_of_getElem? (i := 59) rfl) rfl
theorem l_StringUTF16_414 : Cond.methodLink "java/lang/StringUTF16" 414 M_String_checkIndex.1 ∈ gw := gm_2 (List.mem_of_getElem? (i := 62) rfl) rfl
theorem l_StringUTF16_71 : Cond.methodLink "java/lang/StringUTF16" 71 M_StringUTF16_getChar.1 ∈ gw := gm_2 (List.mem_of_getElem? (i := 63) rfl) rfl
theorem l_Tokens_55 : Cond.methodLink "GlacierCamp$Tokens" 55 M_Tokens_worthOf.1 ∈ gw := gm_2 (List.mem_of_getElem? (i := 74) rfl) rfl
theorem l_Tokens_119 : Cond.methodLink "GlacierCamp$Tokens" 119 M_Tokens_numberOf.1 ∈ gw := gm_2 (List.mem_of_getElem? (i := 77) rfl) rfl
theorem l_Tokens_123 : Cond.methodLink "GlacierCamp$Tokens" 123 M_Tokens_nameOf.1 ∈ gw := gm_2 (List.mem_of_getElem? (i := 82) rfl) rfl
theorem l_Tokens_59 : Cond.methodLink "GlacierCamp$Tokens" 59 M_Tokens_put.1 ∈ gw := gm_2 (List.mem_of_getElem? (i := 86) rfl) rfl
theorem l_Tokens_69 : Cond.methodLink "GlacierCamp$Tokens" 69 M_Tokens_advance.1 ∈ gw := gm_2 (List.mem_of_getElem? (i := 90) rfl) rfl
theorem l_Camp_85 : Cond.methodLink "GlacierCamp" 85 M_Teacher_init.1 ∈ gw := gm_2 (List.mem_of_getElem? (i := 96) rfl) rfl
theorem l_Teacher_3 : Cond.methodLink "GlacierCamp$Teacher" 3 M_Object_init.1 ∈ gw := gm_2 (List.mem_of_getElem? (i := 99) rfl) rfl
theorem l_Names_3 : Cond.methodLink "GlacierCamp$Names" 3 M_Object_init.1 ∈ gw := gm_2 (List.mem_of_getElem? (i := 105) rfl) rfl
theorem l_Camp_88 : Cond.methodLink "GlacierCamp" 88 M_Teacher_readList.1 ∈ gw := gm_2 (List.mem_of_getElem? (i := 147) rfl) rfl
theorem l_Teacher_62 : Cond.methodLink "GlacierCamp$Teacher" 62 M_Tokens_sign.1 ∈ gw := gm_2 (List.mem_of_getElem? (i := 151) rfl) rfl
theorem l_Teacher_53 : Cond.methodLink "GlacierCamp$Teacher" 53 M_Tokens_brokenAt.1 ∈ gw := gm_2 (List.mem_of_getElem? (i := 156) rfl) rfl
theorem l_Teacher_81 : Cond.methodLink "GlacierCamp$Teacher" 81 M_Teacher_readBand.1 ∈ gw := gm_2 (List.mem_of_getElem? (i := 168) rfl) rfl
theorem l_Teacher_133 : Cond.methodLink "GlacierCamp$Teacher" 133 M_Table_rows.1 ∈ gw := gm_2 (List.mem_of_getElem? (i := 172) rfl) rfl
theorem l_Teacher_138 : Cond.methodLink "GlacierCamp$Teacher" 138 M_Table_get.1 ∈ gw := gm_2 (List.mem_of_getElem? (i := 176) rfl) rfl
theorem l_Teacher_142 : Cond.methodLink "GlacierCamp$Teacher" 142 M_Teacher_newName.1 ∈ gw := gm_2 (List.mem_of_getElem? (i := 180) rfl) rfl
theorem l_Teacher_242 : Cond.methodLink "GlacierCamp$Teacher" 242 M_Tokens_advance.1 ∈ gw := gm_2 (List.mem_of_getElem? (i := 184) rfl) rfl
theorem l_Teacher_118 : Cond.methodLink "GlacierCamp$Teacher" 118 M_Tokens_breakOff.1 ∈ gw := gm_2 (List.mem_of_getElem? (i := 186) rfl) rfl
theorem l_Teacher_314 : Cond.methodLink "GlacierCamp$Teacher" 314 M_Tokens_worth.1 ∈ gw := gm_2 (List.mem_of_getElem? (i := 190) rfl) rfl
theorem l_Teacher_342 : Cond.methodLink "GlacierCamp$Teacher" 342 M_Names_find.1 ∈ gw := gm_2 (List.mem_of_getElem? (i := 194) rfl) rfl
theorem l_Teacher_346 : Cond.methodLink "GlacierCamp$Teacher" 346 M_Teacher_tellError.1 ∈ gw := gm_2 (List.mem_of_getElem? (i := 198) rfl) rfl
theorem l_Teacher_356 : Cond.methodLink "GlacierCamp$Teacher" 356 M_Tokens_start.1 ∈ gw := gm_2 (List.mem_of_getElem? (i := 202) rfl) rfl
theorem l_Teacher_349 : Cond.methodLink "GlacierCamp$Teacher" 349 M_Names_size.1 ∈ gw := gm_2 (List.mem_of_getElem? (i := 206) rfl) rfl
theorem l_Teacher_350 : Cond.methodLink "GlacierCamp$Teacher" 350 M_Names_add.1 ∈ gw := gm_2 (List.mem_of_getElem? (i := 210) rfl) rfl
theorem l_Teacher_149 : Cond.methodLink "GlacierCamp$Teacher" 149 M_Teacher_number.1 ∈ gw := gm_2 (List.mem_of_getElem? (i := 216) rfl) rfl
theorem l_Teacher_124 : Cond.methodLink "GlacierCamp$Teacher" 124 M_Tokens_expect.1 ∈ gw := gm_2 (List.mem_of_getElem? (i := 220) rfl) rfl
theorem l_Tokens_79 : Cond.methodLink "GlacierCamp$Tokens" 79 M_Tokens_breakOff.1 ∈ gw := gm_2 (List.mem_of_getElem? (i := 224) rfl) rfl
theorem l_Teacher_156 : Cond.methodLink "GlacierCamp$Teacher" 156 M_Glacier_addBand.1 ∈ gw := gm_2 (List.mem_of_getElem? (i := 228) rfl) rfl
theorem l_Glacier_53 : Cond.methodLink "GlacierCamp$Glacier" 53 M_Table_addRow.1 ∈ gw := gm_2 (List.mem_of_getElem? (i := 232) rfl) rfl
theorem l_Glacier_57 : Cond.methodLink "GlacierCamp$Glacier" 57 M_Table_set.1 ∈ gw := gm_2 (List.mem_of_getElem? (i := 236) rfl) rfl
theorem l_Teacher_84 : Cond.methodLink "GlacierCamp$Teacher" 84 M_Teacher_readStake.1 ∈ gw := gm_3 (List.mem_of_getElem? (i := 0) rfl) rfl
theorem l_Teacher_163 : Cond.methodLink "GlacierCamp$Teacher" 163 M_Teacher_oldName.1 ∈ gw := gm_3 (List.mem_of_getElem? (i := 6) rfl) rfl
theorem l_Teacher_170 : Cond.methodLink "GlacierCamp$Teacher" 170 M_Glacier_addStake.1 ∈ gw := gm_3 (List.mem_of_getElem? (i := 12) rfl) rfl
theorem l_Teacher_87 : Cond.methodLink "GlacierCamp$Teacher" 87 M_Teacher_readCrevasse.1 ∈ gw := gm_3 (List.mem_of_getElem? (i := 16) rfl) rfl
theorem l_Teacher_179 : Cond.methodLink "GlacierCamp$Teacher" 179 M_Glacier_addCrevasse.1 ∈ gw := gm_3 (List.mem_of_getElem? (i := 24) rfl) rfl
theorem l_Teacher_90 : Cond.methodLink "GlacierCamp$Teacher" 90 M_Teacher_readDepot.1 ∈ gw := gm_3 (List.mem_of_getElem? (i := 28) rfl) rfl
theorem l_Teacher_185 : Cond.methodLink "GlacierCamp$Teacher" 185 M_Glacier_addDepot.1 ∈ gw := gm_3 (List.mem_of_getElem? (i := 34) rfl) rfl
theorem l_Teacher_93 : Cond.methodLink "GlacierCamp$Teacher" 93 M_Teacher_readTeam.1 ∈ gw := gm_3 (List.mem_of_getElem? (i := 38) rfl) rfl
theorem l_Teacher_191 : Cond.methodLink "GlacierCamp$Teacher" 191 M_Glacier_addTeam.1 ∈ gw := gm_3 (List.mem_of_getElem? (i := 44) rfl) rfl
theorem l_Teacher_96 : Cond.methodLink "GlacierCamp$Teacher" 96 M_Teacher_readDay.1 ∈ gw := gm_3 (List.mem_of_getElem? (i := 48) rfl) rfl
theorem l_Teacher_201 : Cond.methodLink "GlacierCamp$Teacher" 201 M_Glacier_changeWarmth.1 ∈ gw := gm_3 (List.mem_of_getElem? (i := 56) rfl) rfl
theorem l_Teacher_99 : Cond.methodLink "GlacierCamp$Teacher" 99 M_Teacher_readGo.1 ∈ gw := gm_3 (List.mem_of_getElem? (i := 60) rfl) rfl
theorem l_Teacher_204 : Cond.methodLink "GlacierCamp$Teacher" 204 M_Teacher_newOrder.1 ∈ gw := gm_3 (List.mem_of_getElem? (i := 64) rfl) rfl
theorem l_Teacher_354 : Cond.methodLink "GlacierCamp$Teacher" 354 M_Orders_add.1 ∈ gw := gm_3 (List.mem_of_getElem? (i := 68) rfl) rfl
theorem l_Orders_35 : Cond.methodLink "GlacierCamp$Orders" 35 M_Table_addRow.1 ∈ gw := gm_3 (List.mem_of_getElem? (i := 72) rfl) rfl
theorem l_Orders_38 : Cond.methodLink "GlacierCamp$Orders" 38 M_Table_set.1 ∈ gw := gm_3 (List.mem_of_getElem? (i := 73) rfl) rfl
theorem l_Teacher_207 : Cond.methodLink "GlacierCamp$Teacher" 207 M_Orders_note.1 ∈ gw := gm_3 (List.mem_of_getElem? (i := 74) rfl) rfl
theorem l_Orders_27 : Cond.methodLink "GlacierCamp$Orders" 27 M_Table_rows.1 ∈ gw := gm_3 (List.mem_of_getElem? (i := 78) rfl) rfl
theorem l_Teacher_103 : Cond.methodLink "GlacierCamp$Teacher" 103 M_Teacher_readWhen.1 ∈ gw := gm_3 (List.mem_of_getElem? (i := 79) rfl) rfl
theorem l_Teacher_222 : Cond.methodLink "GlacierCamp$Teacher" 222 M_Formulas_size.1 ∈ gw := gm_3 (List.mem_of_getElem? (i := 85) rfl) rfl
theorem l_Teacher_233 : Cond.methodLink "GlacierCamp$Teacher" 233 M_Teacher_readTest.1 ∈ gw := gm_3 (List.mem_of_getElem? (i := 89) rfl) rfl
theorem l_Teacher_236 : Cond.methodLink "GlacierCamp$Teacher" 236 M_Teacher_readBoth.1 ∈ gw := gm_3 (List.mem_of_getElem? (i := 93) rfl) rfl
theorem l_Teacher_249 : Cond.methodLink "GlacierCamp$Teacher" 249 M_Teacher_readSingle.1 ∈ gw := gm_3 (List.mem_of_getElem? (i := 97) rfl) rfl
theorem l_Teacher_258 : Cond.methodLink "GlacierCamp$Teacher" 258 M_Teacher_goesDeeper.1 ∈ gw := gm_3 (List.mem_of_getElem? (i := 103) rfl) rfl
theorem l_Teacher_245 : Cond.methodLink "GlacierCamp$Teacher" 245 M_Formulas_put.1 ∈ gw := gm_3 (List.mem_of_getElem? (i := 107) rfl) rfl
theorem l_Teacher_227 : Cond.methodLink "GlacierCamp$Teacher" 227 M_Teacher_readSum.1 ∈ gw := gm_3 (List.mem_of_getElem? (i := 121) rfl) rfl
theorem l_Teacher_296 : Cond.methodLink "GlacierCamp$Teacher" 296 M_Teacher_readProduct.1 ∈ gw := gm_3 (List.mem_of_getElem? (i := 125) rfl) rfl
theorem l_Teacher_305 : Cond.methodLink "GlacierCamp$Teacher" 305 M_Teacher_readValue.1 ∈ gw := gm_3 (List.mem_of_getElem? (i := 129) rfl) rfl
theorem l_Teacher_318 : Cond.methodLink "GlacierCamp$Teacher" 318 M_Teacher_readNested.1 ∈ gw := gm_3 (List.mem_of_getElem? (i := 133) rfl) rfl
theorem l_Teacher_277 : Cond.methodLink "GlacierCamp$Teacher" 277 M_Teacher_isComparison.1 ∈ gw := gm_3 (List.mem_of_getElem? (i := 155) rfl) rfl
theorem l_Teacher_106 : Cond.methodLink "GlacierCamp$Teacher" 106 M_Teacher_readProbe.1 ∈ gw := gm_3 (List.mem_of_getElem? (i := 172) rfl) rfl
theorem l_Teacher_109 : Cond.methodLink "GlacierCamp$Teacher" 109 M_Teacher_readFill.1 ∈ gw := gm_3 (List.mem_of_getElem? (i := 180) rfl) rfl
theorem l_Teacher_115 : Cond.methodLink "GlacierCamp$Teacher" 115 M_Teacher_readDrill.1 ∈ gw := gm_3 (List.mem_of_getElem? (i := 188) rfl) rfl
theorem l_Camp_67 : Cond.methodLink "GlacierCamp" 67 M_Tape_cut.1 ∈ gw := gm_3 (List.mem_of_getElem? (i := 196) rfl) rfl
theorem l_Camp_91 : Cond.methodLink "GlacierCamp" 91 M_Teacher_errorPosition.1 ∈ gw := gm_3 (List.mem_of_getElem? (i := 200) rfl) rfl
theorem l_Camp_93 : Cond.methodLink "GlacierCamp" 93 M_Teacher_error.1 ∈ gw := gm_3 (List.mem_of_getElem? (i := 204) rfl) rfl
theorem l_Camp_96 : Cond.methodLink "GlacierCamp" 96 M_Camp_takeOverDraft.1 ∈ gw := gm_3 (List.mem_of_getElem? (i := 208) rfl) rfl
theorem l_Law_99 : Cond.methodLink "GlacierCampLaw" 99 M_Camp_errorAt.1 ∈ gw := gm_3 (List.mem_of_getElem? (i := 212) rfl) rfl
theorem l_Law_156 : Cond.methodLink "GlacierCampLaw" 156 M_Camp_mean.1 ∈ gw := gm_3 (List.mem_of_getElem? (i := 216) rfl) rfl
theorem l_Camp_111 : Cond.methodLink "GlacierCamp" 111 M_Table_rows.1 ∈ gw := gm_3 (List.mem_of_getElem? (i := 220) rfl) rfl
theorem l_Camp_197 : Cond.methodLink "GlacierCamp" 197 M_Table_sum.1 ∈ gw := gm_3 (List.mem_of_getElem? (i := 221) rfl) rfl
theorem l_Table_19 : Cond.methodLink "GlacierCamp$Table" 19 M_Table_get.1 ∈ gw := gm_3 (List.mem_of_getElem? (i := 225) rfl) rfl
theorem l_Law_161 : Cond.methodLink "GlacierCampLaw" 161 M_Camp_digest.1 ∈ gw := gm_3 (List.mem_of_getElem? (i := 226) rfl) rfl
theorem l_Camp_103 : Cond.methodLink "GlacierCamp" 103 M_Camp_counted.1 ∈ gw := gm_3 (List.mem_of_getElem? (i := 232) rfl) rfl
theorem l_Camp_128 : Cond.methodLink "GlacierCamp" 128 M_Orders_size.1 ∈ gw := gm_3 (List.mem_of_getElem? (i := 236) rfl) rfl
theorem l_Camp_129 : Cond.methodLink "GlacierCamp" 129 M_Glacier_warmthToday.1 ∈ gw := gm_4 (List.mem_of_getElem? (i := 0) rfl) rfl
theorem l_Glacier_61 : Cond.methodLink "GlacierCamp$Glacier" 61 M_Glacier_warmthOf.1 ∈ gw := gm_4 (List.mem_of_getElem? (i := 4) rfl) rfl
theorem l_Camp_47 : Cond.methodLink "GlacierCamp" 47 M_Tape_size.1 ∈ gw := gm_4 (List.mem_of_getElem? (i := 8) rfl) rfl
theorem l_Camp_132 : Cond.methodLink "GlacierCamp" 132 M_Glacier_total.1 ∈ gw := gm_4 (List.mem_of_getElem? (i := 9) rfl) rfl
theorem l_Glacier_65 : Cond.methodLink "GlacierCamp$Glacier" 65 M_Table_sum.1 ∈ gw := gm_4 (List.mem_of_getElem? (i := 13) rfl) rfl
theorem l_Glacier_68 : Cond.methodLink "GlacierCamp$Glacier" 68 M_Table_rows.1 ∈ gw := gm_4 (List.mem_of_getElem? (i := 14) rfl) rfl
theorem l_Camp_139 : Cond.methodLink "GlacierCamp" 139 M_Glacier_bandFact.1 ∈ gw := gm_4 (List.mem_of_getElem? (i := 15) rfl) rfl
theorem l_Glacier_71 : Cond.methodLink "GlacierCamp$Glacier" 71 M_Table_matches.1 ∈ gw := gm_4 (List.mem_of_getElem? (i := 19) rfl) rfl
theorem l_Glacier_75 : Cond.methodLink "GlacierCamp$Glacier" 75 M_Table_get.1 ∈ gw := gm_4 (List.mem_of_getElem? (i := 23) rfl) rfl
theorem l_Camp_229 : Cond.methodLink "GlacierCamp" 229 M_Camp_digestOf.1 ∈ gw := gm_4 (List.mem_of_getElem? (i := 24) rfl) rfl
theorem l_Camp_143 : Cond.methodLink "GlacierCamp" 143 M_Table_get.1 ∈ gw := gm_4 (List.mem_of_getElem? (i := 27) rfl) rfl
theorem l_Camp_146 : Cond.methodLink "GlacierCamp" 146 M_Glacier_crevasseFact.1 ∈ gw := gm_4 (List.mem_of_getElem? (i := 28) rfl) rfl
theorem l_Glacier_79 : Cond.methodLink "GlacierCamp$Glacier" 79 M_Math_min.1 ∈ gw := gm_4 (List.mem_of_getElem? (i := 32) rfl) rfl
theorem l_Law_81 : Cond.methodLink "GlacierCampLaw" 81 M_Law_feed.1 ∈ gw := gm_4 (List.mem_of_getElem? (i := 35) rfl) rfl
theorem l_Law_7 : Cond.methodLink "GlacierCampLaw" 7 M_Camp_feed.1 ∈ gw := gm_4 (List.mem_of_getElem? (i := 39) rfl) rfl
theorem l_Throwable_1 : Cond.methodLink "java/lang/Throwable" 1 M_Object_init.1 ∈ gw := gm_4 (List.mem_of_getElem? (i := 68) rfl) rfl
theorem l_Camp_55 : Cond.methodLink "GlacierCamp" 55 M_IllegalStateException_init.1 ∈ gw := gm_4 (List.mem_of_getElem? (i := 85) rfl) rfl
theorem l_IllegalStateException_7 : Cond.methodLink "java/lang/IllegalStateException" 7 M_RuntimeException_init.1 ∈ gw := gm_4 (List.mem_of_getElem? (i := 88) rfl) rfl
theorem l_RuntimeException_7 : Cond.methodLink "java/lang/RuntimeException" 7 M_Exception_init.1 ∈ gw := gm_4 (List.mem_of_getElem? (i := 91) rfl) rfl
theorem l_Exception_7 : Cond.methodLink "java/lang/Exception" 7 M_Throwable_init_1.1 ∈ gw := gm_4 (List.mem_of_getElem? (i := 94) rfl) rfl
theorem l_Camp_58 : Cond.methodLink "GlacierCamp" 58 M_Tape_append.1 ∈ gw := gm_4 (List.mem_of_getElem? (i := 110) rfl) rfl
theorem l_Law_91 : Cond.methodLink "GlacierCampLaw" 91 M_Law_trim.1 ∈ gw := gm_4 (List.mem_of_getElem? (i := 114) rfl) rfl
theorem l_Law_15 : Cond.methodLink "GlacierCampLaw" 15 M_Camp_trim.1 ∈ gw := gm_4 (List.mem_of_getElem? (i := 118) rfl) rfl
theorem l_Camp_66 : Cond.methodLink "GlacierCamp" 66 M_IllegalArgumentException_init.1 ∈ gw := gm_4 (List.mem_of_getElem? (i := 132) rfl) rfl
theorem l_IllegalArgumentException_7 : Cond.methodLink "java/lang/IllegalArgumentException" 7 M_RuntimeException_init.1 ∈ gw := gm_4 (List.mem_of_getElem? (i := 135) rfl) rfl
theorem l_Law_103 : Cond.methodLink "GlacierCampLaw" 103 M_Law_count.1 ∈ gw := gm_4 (List.mem_of_getElem? (i := 138) rfl) rfl
theorem l_Law_21 : Cond.methodLink "GlacierCampLaw" 21 M_Camp_count.1 ∈ gw := gm_4 (List.mem_of_getElem? (i := 142) rfl) rfl
theorem l_Camp_99 : Cond.methodLink "GlacierCamp" 99 M_Camp_needWhat.1 ∈ gw := gm_4 (List.mem_of_getElem? (i := 146) rfl) rfl
theorem l_Camp_157 : Cond.methodLink "GlacierCamp" 157 M_IndexOutOfBoundsException_init.1 ∈ gw := gm_4 (List.mem_of_getElem? (i := 159) rfl) rfl
theorem l_IndexOutOfBoundsException_7 : Cond.methodLink "java/lang/IndexOutOfBoundsException" 7 M_RuntimeException_init.1 ∈ gw := gm_4 (List.mem_of_getElem? (i := 162) rfl) rfl
theorem l_Law_106 : Cond.methodLink "GlacierCampLaw" 106 M_Law_band.1 ∈ gw := gm_4 (List.mem_of_getElem? (i := 165) rfl) rfl
theorem l_Law_26 : Cond.methodLink "GlacierCampLaw" 26 M_Camp_band.1 ∈ gw := gm_4 (List.mem_of_getElem? (i := 168) rfl) rfl
theorem l_Camp_135 : Cond.methodLink "GlacierCamp" 135 M_Camp_needRow.1 ∈ gw := gm_4 (List.mem_of_getElem? (i := 172) rfl) rfl
theorem l_Camp_149 : Cond.methodLink "GlacierCamp" 149 M_Table_has.1 ∈ gw := gm_4 (List.mem_of_getElem? (i := 175) rfl) rfl
theorem l_Law_110 : Cond.methodLink "GlacierCampLaw" 110 M_Law_stake.1 ∈ gw := gm_4 (List.mem_of_getElem? (i := 180) rfl) rfl
theorem l_Law_30 : Cond.methodLink "GlacierCampLaw" 30 M_Camp_stake.1 ∈ gw := gm_4 (List.mem_of_getElem? (i := 183) rfl) rfl
theorem l_Law_113 : Cond.methodLink "GlacierCampLaw" 113 M_Law_crevasse.1 ∈ gw := gm_4 (List.mem_of_getElem? (i := 187) rfl) rfl
theorem l_Law_33 : Cond.methodLink "GlacierCampLaw" 33 M_Camp_crevasse.1 ∈ gw := gm_4 (List.mem_of_getElem? (i := 190) rfl) rfl
theorem l_Law_116 : Cond.methodLink "GlacierCampLaw" 116 M_Law_depot.1 ∈ gw := gm_4 (List.mem_of_getElem? (i := 194) rfl) rfl
theorem l_Law_36 : Cond.methodLink "GlacierCampLaw" 36 M_Camp_depot.1 ∈ gw := gm_4 (List.mem_of_getElem? (i := 197) rfl) rfl
theorem l_Law_119 : Cond.methodLink "GlacierCampLaw" 119 M_Law_team.1 ∈ gw := gm_4 (List.mem_of_getElem? (i := 201) rfl) rfl
theorem l_Law_39 : Cond.methodLink "GlacierCampLaw" 39 M_Camp_team.1 ∈ gw := gm_4 (List.mem_of_getElem? (i := 204) rfl) rfl
theorem l_Law_122 : Cond.methodLink "GlacierCampLaw" 122 M_Law_go.1 ∈ gw := gm_4 (List.mem_of_getElem? (i := 208) rfl) rfl
theorem l_Law_42 : Cond.methodLink "GlacierCampLaw" 42 M_Camp_go.1 ∈ gw := gm_4 (List.mem_of_getElem? (i := 211) rfl) rfl
theorem l_Camp_162 : Cond.methodLink "GlacierCamp" 162 M_Glacier_tryGo.1 ∈ gw := gm_4 (List.mem_of_getElem? (i := 215) rfl) rfl
theorem l_Glacier_111 : Cond.methodLink "GlacierCamp$Glacier" 111 M_Glacier_canGo.1 ∈ gw := gm_4 (List.mem_of_getElem? (i := 219) rfl) rfl
theorem l_Glacier_100 : Cond.methodLink "GlacierCamp$Glacier" 100 M_Glacier_canDo.1 ∈ gw := gm_4 (List.mem_of_getElem? (i := 223) rfl) rfl
theorem l_Glacier_104 : Cond.methodLink "GlacierCamp$Glacier" 104 M_Table_has.1 ∈ gw := gm_4 (List.mem_of_getElem? (i := 227) rfl) rfl
theorem l_Glacier_107 : Cond.methodLink "GlacierCamp$Glacier" 107 M_Glacier_isTooWeak.1 ∈ gw := gm_4 (List.mem_of_getElem? (i := 228) rfl) rfl
theorem l_Glacier_115 : Cond.methodLink "GlacierCamp$Glacier" 115 M_Glacier_fallingPlace.1 ∈ gw := gm_4 (List.mem_of_getElem? (i := 232) rfl) rfl
theorem l_Glacier_119 : Cond.methodLink "GlacierCamp$Glacier" 119 M_Glacier_letFall.1 ∈ gw := gm_4 (List.mem_of_getElem? (i := 236) rfl) rfl
theorem l_Glacier_127 : Cond.methodLink "GlacierCamp$Glacier" 127 M_Table_add.1 ∈ gw := gm_5 (List.mem_of_getElem? (i := 0) rfl) rfl
theorem l_Glacier_123 : Cond.methodLink "GlacierCamp$Glacier" 123 M_Glacier_letCross.1 ∈ gw := gm_5 (List.mem_of_getElem? (i := 4) rfl) rfl
theorem l_Law_126 : Cond.methodLink "GlacierCampLaw" 126 M_Law_probe.1 ∈ gw := gm_5 (List.mem_of_getElem? (i := 9) rfl) rfl
theorem l_Law_46 : Cond.methodLink "GlacierCampLaw" 46 M_Camp_probe.1 ∈ gw := gm_5 (List.mem_of_getElem? (i := 12) rfl) rfl
theorem l_Camp_168 : Cond.methodLink "GlacierCamp" 168 M_Glacier_tryProbe.1 ∈ gw := gm_5 (List.mem_of_getElem? (i := 16) rfl) rfl
theorem l_Law_129 : Cond.methodLink "GlacierCampLaw" 129 M_Law_fill.1 ∈ gw := gm_5 (List.mem_of_getElem? (i := 21) rfl) rfl
theorem l_Law_49 : Cond.methodLink "GlacierCampLaw" 49 M_Camp_fill.1 ∈ gw := gm_5 (List.mem_of_getElem? (i := 24) rfl) rfl
theorem l_Camp_174 : Cond.methodLink "GlacierCamp" 174 M_Camp_needRange.1 ∈ gw := gm_5 (List.mem_of_getElem? (i := 28) rfl) rfl
theorem l_Camp_178 : Cond.methodLink "GlacierCamp" 178 M_Glacier_takeFood.1 ∈ gw := gm_5 (List.mem_of_getElem? (i := 32) rfl) rfl
theorem l_Glacier_130 : Cond.methodLink "GlacierCamp$Glacier" 130 M_Glacier_firstStore.1 ∈ gw := gm_5 (List.mem_of_getElem? (i := 36) rfl) rfl
theorem l_Glacier_133 : Cond.methodLink "GlacierCamp$Glacier" 133 M_Glacier_isHere.1 ∈ gw := gm_5 (List.mem_of_getElem? (i := 40) rfl) rfl
theorem l_Glacier_136 : Cond.methodLink "GlacierCamp$Glacier" 136 M_Math_max.1 ∈ gw := gm_5 (List.mem_of_getElem? (i := 44) rfl) rfl
theorem l_Law_132 : Cond.methodLink "GlacierCampLaw" 132 M_Law_stock.1 ∈ gw := gm_5 (List.mem_of_getElem? (i := 48) rfl) rfl
theorem l_Law_52 : Cond.methodLink "GlacierCampLaw" 52 M_Camp_stock.1 ∈ gw := gm_5 (List.mem_of_getElem? (i := 51) rfl) rfl
theorem l_Camp_183 : Cond.methodLink "GlacierCamp" 183 M_Math_min.1 ∈ gw := gm_5 (List.mem_of_getElem? (i := 55) rfl) rfl
theorem l_Camp_188 : Cond.methodLink "GlacierCamp" 188 M_Table_set.1 ∈ gw := gm_5 (List.mem_of_getElem? (i := 56) rfl) rfl
theorem l_Law_135 : Cond.methodLink "GlacierCampLaw" 135 M_Law_setWarm.1 ∈ gw := gm_5 (List.mem_of_getElem? (i := 57) rfl) rfl
theorem l_Law_55 : Cond.methodLink "GlacierCampLaw" 55 M_Camp_setWarm.1 ∈ gw := gm_5 (List.mem_of_getElem? (i := 60) rfl) rfl
theorem l_Camp_191 : Cond.methodLink "GlacierCamp" 191 M_Glacier_warmthOf.1 ∈ gw := gm_5 (List.mem_of_getElem? (i := 64) rfl) rfl
theorem l_Camp_194 : Cond.methodLink "GlacierCamp" 194 M_Glacier_changeWarmth.1 ∈ gw := gm_5 (List.mem_of_getElem? (i := 65) rfl) rfl
theorem l_Law_138 : Cond.methodLink "GlacierCampLaw" 138 M_Law_pass.1 ∈ gw := gm_5 (List.mem_of_getElem? (i := 66) rfl) rfl
theorem l_Law_58 : Cond.methodLink "GlacierCampLaw" 58 M_Camp_pass.1 ∈ gw := gm_5 (List.mem_of_getElem? (i := 69) rfl) rfl
theorem l_Camp_200 : Cond.methodLink "GlacierCamp" 200 M_Glacier_passDay.1 ∈ gw := gm_5 (List.mem_of_getElem? (i := 73) rfl) rfl
theorem l_Glacier_139 : Cond.methodLink "GlacierCamp$Glacier" 139 M_Orders_size.1 ∈ gw := gm_5 (List.mem_of_getElem? (i := 77) rfl) rfl
theorem l_Glacier_144 : Cond.methodLink "GlacierCamp$Glacier" 144 M_Orders_carryOut.1 ∈ gw := gm_5 (List.mem_of_getElem? (i := 78) rfl) rfl
theorem l_Orders_42 : Cond.methodLink "GlacierCamp$Orders" 42 M_Table_get.1 ∈ gw := gm_5 (List.mem_of_getElem? (i := 82) rfl) rfl
theorem l_Orders_46 : Cond.methodLink "GlacierCamp$Orders" 46 M_Formulas_worth.1 ∈ gw := gm_5 (List.mem_of_getElem? (i := 83) rfl) rfl
theorem l_Formulas_35 : Cond.methodLink "GlacierCamp$Formulas" 35 M_Formulas_push.1 ∈ gw := gm_5 (List.mem_of_getElem? (i := 88) rfl) rfl
theorem l_Formulas_42 : Cond.methodLink "GlacierCamp$Formulas" 42 M_Glacier_valueOf.1 ∈ gw := gm_5 (List.mem_of_getElem? (i := 92) rfl) rfl
theorem l_Glacier_94 : Cond.methodLink "GlacierCamp$Glacier" 94 M_Glacier_warmthToday.1 ∈ gw := gm_5 (List.mem_of_getElem? (i := 98) rfl) rfl
theorem l_Glacier_97 : Cond.methodLink "GlacierCamp$Glacier" 97 M_Glacier_crevasseFact.1 ∈ gw := gm_5 (List.mem_of_getElem? (i := 99) rfl) rfl
theorem l_Formulas_48 : Cond.methodLink "GlacierCamp$Formulas" 48 M_Formulas_pop.1 ∈ gw := gm_5 (List.mem_of_getElem? (i := 100) rfl) rfl
theorem l_Formulas_52 : Cond.methodLink "GlacierCamp$Formulas" 52 M_Formulas_joined.1 ∈ gw := gm_5 (List.mem_of_getElem? (i := 104) rfl) rfl
theorem l_Formulas_64 : Cond.methodLink "GlacierCamp$Formulas" 64 M_Math_min.1 ∈ gw := gm_5 (List.mem_of_getElem? (i := 109) rfl) rfl
theorem l_Formulas_70 : Cond.methodLink "GlacierCamp$Formulas" 70 M_Math_max.1 ∈ gw := gm_5 (List.mem_of_getElem? (i := 110) rfl) rfl
theorem l_Orders_50 : Cond.methodLink "GlacierCamp$Orders" 50 M_Glacier_tryGo.1 ∈ gw := gm_5 (List.mem_of_getElem? (i := 111) rfl) rfl
theorem l_Orders_56 : Cond.methodLink "GlacierCamp$Orders" 56 M_Glacier_tryProbe.1 ∈ gw := gm_5 (List.mem_of_getElem? (i := 112) rfl) rfl
theorem l_Orders_60 : Cond.methodLink "GlacierCamp$Orders" 60 M_Glacier_takeFood.1 ∈ gw := gm_5 (List.mem_of_getElem? (i := 113) rfl) rfl
theorem l_Orders_63 : Cond.methodLink "GlacierCamp$Orders" 63 M_Glacier_tryDrill.1 ∈ gw := gm_5 (List.mem_of_getElem? (i := 114) rfl) rfl
theorem l_Glacier_148 : Cond.methodLink "GlacierCamp$Glacier" 148 M_Glacier_weather.1 ∈ gw := gm_5 (List.mem_of_getElem? (i := 118) rfl) rfl
theorem l_Glacier_160 : Cond.methodLink "GlacierCamp$Glacier" 160 M_Glacier_moveStakes.1 ∈ gw := gm_5 (List.mem_of_getElem? (i := 122) rfl) rfl
theorem l_Glacier_163 : Cond.methodLink "GlacierCamp$Glacier" 163 M_Glacier_moveBridges.1 ∈ gw := gm_5 (List.mem_of_getElem? (i := 126) rfl) rfl
theorem l_Glacier_151 : Cond.methodLink "GlacierCamp$Glacier" 151 M_Glacier_eat.1 ∈ gw := gm_5 (List.mem_of_getElem? (i := 130) rfl) rfl
theorem l_Glacier_154 : Cond.methodLink "GlacierCamp$Glacier" 154 M_Glacier_readStakes.1 ∈ gw := gm_5 (List.mem_of_getElem? (i := 134) rfl) rfl
theorem l_Glacier_157 : Cond.methodLink "GlacierCamp$Glacier" 157 M_Glacier_endDay.1 ∈ gw := gm_5 (List.mem_of_getElem? (i := 138) rfl) rfl
theorem l_Law_141 : Cond.methodLink "GlacierCampLaw" 141 M_Law_melt.1 ∈ gw := gm_5 (List.mem_of_getElem? (i := 142) rfl) rfl
theorem l_Law_61 : Cond.methodLink "GlacierCampLaw" 61 M_Camp_melt.1 ∈ gw := gm_5 (List.mem_of_getElem? (i := 145) rfl) rfl
theorem l_Camp_204 : Cond.methodLink "GlacierCamp" 204 M_Math_max.1 ∈ gw := gm_5 (List.mem_of_getElem? (i := 149) rfl) rfl
theorem l_Law_144 : Cond.methodLink "GlacierCampLaw" 144 M_Law_until.1 ∈ gw := gm_5 (List.mem_of_getElem? (i := 150) rfl) rfl
theorem l_Law_64 : Cond.methodLink "GlacierCampLaw" 64 M_Camp_until.1 ∈ gw := gm_5 (List.mem_of_getElem? (i := 153) rfl) rfl
theorem l_Camp_207 : Cond.methodLink "GlacierCamp" 207 M_Glacier_become.1 ∈ gw := gm_5 (List.mem_of_getElem? (i := 157) rfl) rfl
theorem l_Glacier_49 : Cond.methodLink "GlacierCamp$Glacier" 49 M_Table_become.1 ∈ gw := gm_5 (List.mem_of_getElem? (i := 161) rfl) rfl
theorem l_Law_147 : Cond.methodLink "GlacierCampLaw" 147 M_Law_foresee.1 ∈ gw := gm_5 (List.mem_of_getElem? (i := 165) rfl) rfl
theorem l_Law_67 : Cond.methodLink "GlacierCampLaw" 67 M_Camp_foresee.1 ∈ gw := gm_5 (List.mem_of_getElem? (i := 168) rfl) rfl
theorem l_Law_150 : Cond.methodLink "GlacierCampLaw" 150 M_Law_safe.1 ∈ gw := gm_5 (List.mem_of_getElem? (i := 173) rfl) rfl
theorem l_Law_70 : Cond.methodLink "GlacierCampLaw" 70 M_Camp_safe.1 ∈ gw := gm_5 (List.mem_of_getElem? (i := 176) rfl) rfl
theorem l_Camp_213 : Cond.methodLink "GlacierCamp" 213 M_Glacier_canGo.1 ∈ gw := gm_5 (List.mem_of_getElem? (i := 180) rfl) rfl
theorem l_Camp_216 : Cond.methodLink "GlacierCamp" 216 M_Glacier_fallingPlace.1 ∈ gw := gm_5 (List.mem_of_getElem? (i := 181) rfl) rfl
theorem l_Law_153 : Cond.methodLink "GlacierCampLaw" 153 M_Law_advise.1 ∈ gw := gm_5 (List.mem_of_getElem? (i := 182) rfl) rfl
theorem l_Law_74 : Cond.methodLink "GlacierCampLaw" 74 M_Camp_advise.1 ∈ gw := gm_5 (List.mem_of_getElem? (i := 185) rfl) rfl
theorem l_Camp_220 : Cond.methodLink "GlacierCamp" 220 M_Glacier_isHere.1 ∈ gw := gm_5 (List.mem_of_getElem? (i := 189) rfl) rfl
theorem l_Law_80 : Cond.methodLink "GlacierCampLaw" 80 M_Model_init.1 ∈ gw := gm_5 (List.mem_of_getElem? (i := 193) rfl) rfl
theorem l_Model_1 : Cond.methodLink "GlacierCampModel" 1 M_Object_init.1 ∈ gw := gm_5 (List.mem_of_getElem? (i := 196) rfl) rfl
theorem l_Sheet_3 : Cond.methodLink "GlacierCampModel$Sheet" 3 M_Object_init.1 ∈ gw := gm_5 (List.mem_of_getElem? (i := 202) rfl) rfl
theorem l_State_3 : Cond.methodLink "GlacierCampModel$State" 3 M_Object_init.1 ∈ gw := gm_6 (List.mem_of_getElem? (i := 70) rfl) rfl
theorem l_Law_87 : Cond.methodLink "GlacierCampLaw" 87 M_Model_thrown.1 ∈ gw := gm_6 (List.mem_of_getElem? (i := 202) rfl) rfl
theorem l_Law_86 : Cond.methodLink "GlacierCampLaw" 86 M_Model_feed.1 ∈ gw := gm_6 (List.mem_of_getElem? (i := 206) rfl) rfl
theorem l_Model_427 : Cond.methodLink "GlacierCampModel" 427 M_Model_no.1 ∈ gw := gm_6 (List.mem_of_getElem? (i := 210) rfl) rfl
theorem l_Law_94 : Cond.methodLink "GlacierCampLaw" 94 M_Model_trim.1 ∈ gw := gm_6 (List.mem_of_getElem? (i := 214) rfl) rfl
theorem l_Model_43 : Cond.methodLink "GlacierCampModel" 43 M_Model_isIn.1 ∈ gw := gm_6 (List.mem_of_getElem? (i := 218) rfl) rfl
theorem l_Law_98 : Cond.methodLink "GlacierCampLaw" 98 M_Model_teach.1 ∈ gw := gm_6 (List.mem_of_getElem? (i := 221) rfl) rfl
theorem l_Model_440 : Cond.methodLink "GlacierCampModel" 440 M_Model_read.1 ∈ gw := gm_6 (List.mem_of_getElem? (i := 225) rfl) rfl
theorem l_Model_251 : Cond.methodLink "GlacierCampModel" 251 M_Model_cut.1 ∈ gw := gm_6 (List.mem_of_getElem? (i := 229) rfl) rfl
theorem l_Model_50 : Cond.methodLink "GlacierCampModel" 50 M_Model_byteAt.1 ∈ gw := gm_6 (List.mem_of_getElem? (i := 233) rfl) rfl
theorem l_Model_90 : Cond.methodLink "GlacierCampModel" 90 M_Model_lengthAt.1 ∈ gw := gm_6 (List.mem_of_getElem? (i := 237) rfl) rfl
theorem l_Model_54 : Cond.methodLink "GlacierCampModel" 54 M_Model_isLetter.1 ∈ gw := gm_7 (List.mem_of_getElem? (i := 1) rfl) rfl
theorem l_Model_58 : Cond.methodLink "GlacierCampModel" 58 M_Model_isDigit.1 ∈ gw := gm_7 (List.mem_of_getElem? (i := 4) rfl) rfl
theorem l_Model_96 : Cond.methodLink "GlacierCampModel" 96 M_Model_kindAt.1 ∈ gw := gm_7 (List.mem_of_getElem? (i := 7) rfl) rfl
theorem l_Model_61 : Cond.methodLink "GlacierCampModel" 61 M_Model_wordAt.1 ∈ gw := gm_7 (List.mem_of_getElem? (i := 11) rfl) rfl
theorem l_Model_76 : Cond.methodLink "GlacierCampModel" 76 M_String_length.1 ∈ gw := gm_7 (List.mem_of_getElem? (i := 17) rfl) rfl
theorem l_Model_80 : Cond.methodLink "GlacierCampModel" 80 M_String_charAt.1 ∈ gw := gm_7 (List.mem_of_getElem? (i := 18) rfl) rfl
theorem l_Model_67 : Cond.methodLink "GlacierCampModel" 67 M_String_indexOf_0.1 ∈ gw := gm_7 (List.mem_of_getElem? (i := 20) rfl) rfl
theorem l_String_633 : Cond.methodLink "java/lang/String" 633 M_String_indexOf_1.1 ∈ gw := gm_7 (List.mem_of_getElem? (i := 24) rfl) rfl
theorem l_String_505 : Cond.methodLink "java/lang/String" 505 M_String_length.1 ∈ gw := gm_7 (List.mem_of_getElem? (i := 28) rfl) rfl
theorem l_String_637 : Cond.methodLink "java/lang/String" 637 M_StringLatin1_indexOf.1 ∈ gw := gm_7 (List.mem_of_getElem? (i := 29) rfl) rfl
theorem l_StringLatin1_88 : Cond.methodLink "java/lang/StringLatin1" 88 M_StringLatin1_canEncode.1 ∈ gw := gm_7 (List.mem_of_getElem? (i := 32) rfl) rfl
theorem l_StringLatin1_92 : Cond.methodLink "java/lang/StringLatin1" 92 M_Math_max.1 ∈ gw := gm_7 (List.mem_of_getElem? (i := 35) rfl) rfl
theorem l_StringLatin1_38 : Cond.methodLink "java/lang/StringLatin1" 38 M_Math_min.1 ∈ gw := gm_7 (List.mem_of_getElem? (i := 36) rfl) rfl
theorem l_StringLatin1_95 : Cond.methodLink "java/lang/StringLatin1" 95 M_StringLatin1_indexOfChar.1 ∈ gw := gm_7 (List.mem_of_getElem? (i := 37) rfl) rfl
theorem l_String_640 : Cond.methodLink "java/lang/String" 640 M_StringUTF16_indexOf.1 ∈ gw := gm_7 (List.mem_of_getElem? (i := 40) rfl) rfl
theorem l_StringUTF16_224 : Cond.methodLink "java/lang/StringUTF16" 224 M_Math_max.1 ∈ gw := gm_7 (List.mem_of_getElem? (i := 43) rfl) rfl
theorem l_StringUTF16_183 : Cond.methodLink "java/lang/StringUTF16" 183 M_Math_min.1 ∈ gw := gm_7 (List.mem_of_getElem? (i := 44) rfl) rfl
theorem l_StringUTF16_228 : Cond.methodLink "java/lang/StringUTF16" 228 M_StringUTF16_indexOfChar.1 ∈ gw := gm_7 (List.mem_of_getElem? (i := 46) rfl) rfl
theorem l_StringUTF16_96 : Cond.methodLink "java/lang/StringUTF16" 96 M_StringUTF16_checkBoundsBeginEnd.1 ∈ gw := gm_7 (List.mem_of_getElem? (i := 49) rfl) rfl
theorem l_StringUTF16_241 : Cond.methodLink "java/lang/StringUTF16" 241 M_String_checkBoundsBeginEnd.1 ∈ gw := gm_7 (List.mem_of_getElem? (i := 52) rfl) rfl
theorem l_String_1062 : Cond.methodLink "java/lang/String" 1062 M_Preconditions_checkFromToIndex.1 ∈ gw := gm_7 (List.mem_of_getElem? (i := 55) rfl) rfl
theorem l_StringUTF16_244 : Cond.methodLink "java/lang/StringUTF16" 244 M_StringUTF16_indexOfCharUnsafe.1 ∈ gw := gm_7 (List.mem_of_getElem? (i := 58) rfl) rfl
theorem l_StringUTF16_232 : Cond.methodLink "java/lang/StringUTF16" 232 M_StringUTF16_indexOfSupplementary.1 ∈ gw := gm_7 (List.mem_of_getElem? (i := 61) rfl) rfl
theorem l_StringUTF16_164 : Cond.methodLink "java/lang/StringUTF16" 164 M_Character_isValidCodePoint.1 ∈ gw := gm_7 (List.mem_of_getElem? (i := 64) rfl) rfl
theorem l_StringUTF16_157 : Cond.methodLink "java/lang/StringUTF16" 157 M_Character_highSurrogate.1 ∈ gw := gm_7 (List.mem_of_getElem? (i := 67) rfl) rfl
theorem l_StringUTF16_161 : Cond.methodLink "java/lang/StringUTF16" 161 M_Character_lowSurrogate.1 ∈ gw := gm_7 (List.mem_of_getElem? (i := 71) rfl) rfl
theorem l_Model_255 : Cond.methodLink "GlacierCampModel" 255 M_Model_isList.1 ∈ gw := gm_7 (List.mem_of_getElem? (i := 75) rfl) rfl
theorem l_Model_105 : Cond.methodLink "GlacierCampModel" 105 M_Model_isLine.1 ∈ gw := gm_7 (List.mem_of_getElem? (i := 79) rfl) rfl
theorem l_Model_116 : Cond.methodLink "GlacierCampModel" 116 M_Model_isName.1 ∈ gw := gm_7 (List.mem_of_getElem? (i := 83) rfl) rfl
theorem l_Model_109 : Cond.methodLink "GlacierCampModel" 109 M_Model_eat_0.1 ∈ gw := gm_7 (List.mem_of_getElem? (i := 87) rfl) rfl
theorem l_Model_119 : Cond.methodLink "GlacierCampModel" 119 M_Model_isNumber.1 ∈ gw := gm_7 (List.mem_of_getElem? (i := 91) rfl) rfl
theorem l_Model_122 : Cond.methodLink "GlacierCampModel" 122 M_Model_isWhen.1 ∈ gw := gm_7 (List.mem_of_getElem? (i := 95) rfl) rfl
theorem l_Model_113 : Cond.methodLink "GlacierCampModel" 113 M_Model_isTest.1 ∈ gw := gm_7 (List.mem_of_getElem? (i := 99) rfl) rfl
theorem l_Model_128 : Cond.methodLink "GlacierCampModel" 128 M_Model_isBoth.1 ∈ gw := gm_7 (List.mem_of_getElem? (i := 103) rfl) rfl
theorem l_Model_131 : Cond.methodLink "GlacierCampModel" 131 M_Model_isSingle.1 ∈ gw := gm_7 (List.mem_of_getElem? (i := 107) rfl) rfl
theorem l_Model_134 : Cond.methodLink "GlacierCampModel" 134 M_Model_goDown.1 ∈ gw := gm_7 (List.mem_of_getElem? (i := 111) rfl) rfl
theorem l_Model_137 : Cond.methodLink "GlacierCampModel" 137 M_Model_eatIn.1 ∈ gw := gm_7 (List.mem_of_getElem? (i := 115) rfl) rfl
theorem l_Model_125 : Cond.methodLink "GlacierCampModel" 125 M_Model_isSum.1 ∈ gw := gm_7 (List.mem_of_getElem? (i := 119) rfl) rfl
theorem l_Model_141 : Cond.methodLink "GlacierCampModel" 141 M_Model_isProduct.1 ∈ gw := gm_7 (List.mem_of_getElem? (i := 123) rfl) rfl
theorem l_Model_144 : Cond.methodLink "GlacierCampModel" 144 M_Model_isValue.1 ∈ gw := gm_7 (List.mem_of_getElem? (i := 127) rfl) rfl
theorem l_Model_258 : Cond.methodLink "GlacierCampModel" 258 M_Model_errorOf.1 ∈ gw := gm_7 (List.mem_of_getElem? (i := 131) rfl) rfl
theorem l_Model_236 : Cond.methodLink "GlacierCampModel" 236 M_Model_isOrder.1 ∈ gw := gm_7 (List.mem_of_getElem? (i := 135) rfl) rfl
theorem l_Model_239 : Cond.methodLink "GlacierCampModel" 239 M_Model_errorOfOrder.1 ∈ gw := gm_7 (List.mem_of_getElem? (i := 138) rfl) rfl
theorem l_Model_242 : Cond.methodLink "GlacierCampModel" 242 M_Model_errorOfName.1 ∈ gw := gm_7 (List.mem_of_getElem? (i := 142) rfl) rfl
theorem l_Model_160 : Cond.methodLink "GlacierCampModel" 160 M_Model_isSort.1 ∈ gw := gm_7 (List.mem_of_getElem? (i := 146) rfl) rfl
theorem l_Model_163 : Cond.methodLink "GlacierCampModel" 163 M_Model_errorOfNew.1 ∈ gw := gm_7 (List.mem_of_getElem? (i := 149) rfl) rfl
theorem l_Model_153 : Cond.methodLink "GlacierCampModel" 153 M_Model_find.1 ∈ gw := gm_7 (List.mem_of_getElem? (i := 153) rfl) rfl
theorem l_Model_150 : Cond.methodLink "GlacierCampModel" 150 M_Model_areSame.1 ∈ gw := gm_7 (List.mem_of_getElem? (i := 157) rfl) rfl
theorem l_Model_157 : Cond.methodLink "GlacierCampModel" 157 M_Model_most.1 ∈ gw := gm_7 (List.mem_of_getElem? (i := 161) rfl) rfl
theorem l_Model_166 : Cond.methodLink "GlacierCampModel" 166 M_Model_sortBehind.1 ∈ gw := gm_7 (List.mem_of_getElem? (i := 164) rfl) rfl
theorem l_Model_245 : Cond.methodLink "GlacierCampModel" 245 M_Model_errorOfNumber.1 ∈ gw := gm_7 (List.mem_of_getElem? (i := 167) rfl) rfl
theorem l_Model_196 : Cond.methodLink "GlacierCampModel" 196 M_Model_number.1 ∈ gw := gm_7 (List.mem_of_getElem? (i := 171) rfl) rfl
theorem l_Model_203 : Cond.methodLink "GlacierCampModel" 203 M_Model_errorOfRange.1 ∈ gw := gm_7 (List.mem_of_getElem? (i := 175) rfl) rfl
theorem l_Model_444 : Cond.methodLink "GlacierCampModel" 444 M_Model_begin.1 ∈ gw := gm_7 (List.mem_of_getElem? (i := 178) rfl) rfl
theorem l_Model_436 : Cond.methodLink "GlacierCampModel" 436 M_Model_fill_1.1 ∈ gw := gm_7 (List.mem_of_getElem? (i := 190) rfl) rfl
theorem l_Law_102 : Cond.methodLink "GlacierCampLaw" 102 M_Model_errorAt.1 ∈ gw := gm_7 (List.mem_of_getElem? (i := 193) rfl) rfl
theorem l_Law_105 : Cond.methodLink "GlacierCampLaw" 105 M_Model_count.1 ∈ gw := gm_7 (List.mem_of_getElem? (i := 197) rfl) rfl
theorem l_Model_447 : Cond.methodLink "GlacierCampModel" 447 M_Model_counted.1 ∈ gw := gm_7 (List.mem_of_getElem? (i := 201) rfl) rfl
theorem l_Model_300 : Cond.methodLink "GlacierCampModel" 300 M_State_warmth.1 ∈ gw := gm_7 (List.mem_of_getElem? (i := 205) rfl) rfl
theorem l_Law_109 : Cond.methodLink "GlacierCampLaw" 109 M_Model_band.1 ∈ gw := gm_7 (List.mem_of_getElem? (i := 209) rfl) rfl
theorem l_Model_450 : Cond.methodLink "GlacierCampModel" 450 M_Model_is.1 ∈ gw := gm_7 (List.mem_of_getElem? (i := 213) rfl) rfl
theorem l_Model_454 : Cond.methodLink "GlacierCampModel" 454 M_Model_bandTold.1 ∈ gw := gm_7 (List.mem_of_getElem? (i := 217) rfl) rfl
theorem l_Model_358 : Cond.methodLink "GlacierCampModel" 358 M_Model_teamsIn.1 ∈ gw := gm_7 (List.mem_of_getElem? (i := 221) rfl) rfl
theorem l_Law_112 : Cond.methodLink "GlacierCampLaw" 112 M_Model_stake.1 ∈ gw := gm_7 (List.mem_of_getElem? (i := 225) rfl) rfl
theorem l_Model_457 : Cond.methodLink "GlacierCampModel" 457 M_Model_stakeTold.1 ∈ gw := gm_7 (List.mem_of_getElem? (i := 229) rfl) rfl
theorem l_Law_115 : Cond.methodLink "GlacierCampLaw" 115 M_Model_crevasse.1 ∈ gw := gm_7 (List.mem_of_getElem? (i := 233) rfl) rfl
theorem l_Model_460 : Cond.methodLink "GlacierCampModel" 460 M_Model_crevasseTold.1 ∈ gw := gm_7 (List.mem_of_getElem? (i := 237) rfl) rfl
theorem l_Law_118 : Cond.methodLink "GlacierCampLaw" 118 M_Model_depot.1 ∈ gw := gm_8 (List.mem_of_getElem? (i := 1) rfl) rfl
theorem l_Model_463 : Cond.methodLink "GlacierCampModel" 463 M_Model_depotTold.1 ∈ gw := gm_8 (List.mem_of_getElem? (i := 5) rfl) rfl
theorem l_Law_121 : Cond.methodLink "GlacierCampLaw" 121 M_Model_team.1 ∈ gw := gm_8 (List.mem_of_getElem? (i := 9) rfl) rfl
theorem l_Model_466 : Cond.methodLink "GlacierCampModel" 466 M_Model_teamTold.1 ∈ gw := gm_8 (List.mem_of_getElem? (i := 13) rfl) rfl
theorem l_Law_125 : Cond.methodLink "GlacierCampLaw" 125 M_Model_go.1 ∈ gw := gm_8 (List.mem_of_getElem? (i := 17) rfl) rfl
theorem l_Model_375 : Cond.methodLink "GlacierCampModel" 375 M_Model_moved.1 ∈ gw := gm_8 (List.mem_of_getElem? (i := 21) rfl) rfl
theorem l_Model_361 : Cond.methodLink "GlacierCampModel" 361 M_Model_canGo.1 ∈ gw := gm_8 (List.mem_of_getElem? (i := 25) rfl) rfl
theorem l_Model_321 : Cond.methodLink "GlacierCampModel" 321 M_Model_wayOf.1 ∈ gw := gm_8 (List.mem_of_getElem? (i := 29) rfl) rfl
theorem l_Model_328 : Cond.methodLink "GlacierCampModel" 328 M_Model_isWeak.1 ∈ gw := gm_8 (List.mem_of_getElem? (i := 32) rfl) rfl
theorem l_Model_365 : Cond.methodLink "GlacierCampModel" 365 M_Model_move.1 ∈ gw := gm_8 (List.mem_of_getElem? (i := 36) rfl) rfl
theorem l_Model_341 : Cond.methodLink "GlacierCampModel" 341 M_Model_trap.1 ∈ gw := gm_8 (List.mem_of_getElem? (i := 40) rfl) rfl
theorem l_Model_344 : Cond.methodLink "GlacierCampModel" 344 M_Model_fall.1 ∈ gw := gm_8 (List.mem_of_getElem? (i := 44) rfl) rfl
theorem l_Law_128 : Cond.methodLink "GlacierCampLaw" 128 M_Model_probe.1 ∈ gw := gm_8 (List.mem_of_getElem? (i := 48) rfl) rfl
theorem l_Model_378 : Cond.methodLink "GlacierCampModel" 378 M_Model_probed.1 ∈ gw := gm_8 (List.mem_of_getElem? (i := 52) rfl) rfl
theorem l_Model_369 : Cond.methodLink "GlacierCampModel" 369 M_Model_canProbe.1 ∈ gw := gm_8 (List.mem_of_getElem? (i := 56) rfl) rfl
theorem l_Model_372 : Cond.methodLink "GlacierCampModel" 372 M_Model_look.1 ∈ gw := gm_8 (List.mem_of_getElem? (i := 60) rfl) rfl
theorem l_Law_131 : Cond.methodLink "GlacierCampLaw" 131 M_Model_fill_0.1 ∈ gw := gm_8 (List.mem_of_getElem? (i := 64) rfl) rfl
theorem l_Model_384 : Cond.methodLink "GlacierCampModel" 384 M_Model_filled.1 ∈ gw := gm_8 (List.mem_of_getElem? (i := 68) rfl) rfl
theorem l_Model_354 : Cond.methodLink "GlacierCampModel" 354 M_Model_depotOf.1 ∈ gw := gm_8 (List.mem_of_getElem? (i := 72) rfl) rfl
theorem l_Model_313 : Cond.methodLink "GlacierCampModel" 313 M_Math_min.1 ∈ gw := gm_8 (List.mem_of_getElem? (i := 76) rfl) rfl
theorem l_Model_318 : Cond.methodLink "GlacierCampModel" 318 M_Math_max.1 ∈ gw := gm_8 (List.mem_of_getElem? (i := 77) rfl) rfl
theorem l_Law_134 : Cond.methodLink "GlacierCampLaw" 134 M_Model_stock.1 ∈ gw := gm_8 (List.mem_of_getElem? (i := 78) rfl) rfl
theorem l_Law_137 : Cond.methodLink "GlacierCampLaw" 137 M_Model_setWarm.1 ∈ gw := gm_8 (List.mem_of_getElem? (i := 82) rfl) rfl
theorem l_Law_140 : Cond.methodLink "GlacierCampLaw" 140 M_Model_pass.1 ∈ gw := gm_8 (List.mem_of_getElem? (i := 86) rfl) rfl
theorem l_Model_469 : Cond.methodLink "GlacierCampModel" 469 M_Model_daysOn.1 ∈ gw := gm_8 (List.mem_of_getElem? (i := 90) rfl) rfl
theorem l_Model_423 : Cond.methodLink "GlacierCampModel" 423 M_Model_dayOn.1 ∈ gw := gm_8 (List.mem_of_getElem? (i := 94) rfl) rfl
theorem l_Model_409 : Cond.methodLink "GlacierCampModel" 409 M_Model_isCarriedOut.1 ∈ gw := gm_8 (List.mem_of_getElem? (i := 98) rfl) rfl
theorem l_Model_274 : Cond.methodLink "GlacierCampModel" 274 M_Model_test.1 ∈ gw := gm_8 (List.mem_of_getElem? (i := 102) rfl) rfl
theorem l_Model_264 : Cond.methodLink "GlacierCampModel" 264 M_Model_both.1 ∈ gw := gm_8 (List.mem_of_getElem? (i := 106) rfl) rfl
theorem l_Model_271 : Cond.methodLink "GlacierCampModel" 271 M_Model_single.1 ∈ gw := gm_8 (List.mem_of_getElem? (i := 110) rfl) rfl
theorem l_Model_268 : Cond.methodLink "GlacierCampModel" 268 M_Model_goesBy.1 ∈ gw := gm_8 (List.mem_of_getElem? (i := 114) rfl) rfl
theorem l_Model_280 : Cond.methodLink "GlacierCampModel" 280 M_Model_named.1 ∈ gw := gm_8 (List.mem_of_getElem? (i := 118) rfl) rfl
theorem l_Model_289 : Cond.methodLink "GlacierCampModel" 289 M_Model_sum.1 ∈ gw := gm_8 (List.mem_of_getElem? (i := 122) rfl) rfl
theorem l_Model_291 : Cond.methodLink "GlacierCampModel" 291 M_Model_product.1 ∈ gw := gm_8 (List.mem_of_getElem? (i := 126) rfl) rfl
theorem l_Model_294 : Cond.methodLink "GlacierCampModel" 294 M_Model_value.1 ∈ gw := gm_8 (List.mem_of_getElem? (i := 130) rfl) rfl
theorem l_Model_380 : Cond.methodLink "GlacierCampModel" 380 M_Model_drilled.1 ∈ gw := gm_8 (List.mem_of_getElem? (i := 134) rfl) rfl
theorem l_Model_412 : Cond.methodLink "GlacierCampModel" 412 M_Model_melt_1.1 ∈ gw := gm_8 (List.mem_of_getElem? (i := 138) rfl) rfl
theorem l_Model_415 : Cond.methodLink "GlacierCampModel" 415 M_Model_snow.1 ∈ gw := gm_8 (List.mem_of_getElem? (i := 142) rfl) rfl
theorem l_Model_417 : Cond.methodLink "GlacierCampModel" 417 M_Model_eat_1.1 ∈ gw := gm_8 (List.mem_of_getElem? (i := 146) rfl) rfl
theorem l_Model_420 : Cond.methodLink "GlacierCampModel" 420 M_Model_readAll.1 ∈ gw := gm_8 (List.mem_of_getElem? (i := 150) rfl) rfl
theorem l_Law_143 : Cond.methodLink "GlacierCampLaw" 143 M_Model_melt_0.1 ∈ gw := gm_8 (List.mem_of_getElem? (i := 154) rfl) rfl
theorem l_Model_472 : Cond.methodLink "GlacierCampModel" 472 M_Model_meltsIn.1 ∈ gw := gm_8 (List.mem_of_getElem? (i := 158) rfl) rfl
theorem l_Law_146 : Cond.methodLink "GlacierCampLaw" 146 M_Model_until.1 ∈ gw := gm_8 (List.mem_of_getElem? (i := 162) rfl) rfl
theorem l_Model_478 : Cond.methodLink "GlacierCampModel" 478 M_Model_lies.1 ∈ gw := gm_8 (List.mem_of_getElem? (i := 166) rfl) rfl
theorem l_Model_475 : Cond.methodLink "GlacierCampModel" 475 M_State_become.1 ∈ gw := gm_8 (List.mem_of_getElem? (i := 170) rfl) rfl
theorem l_State_91 : Cond.methodLink "GlacierCampModel$State" 91 M_State_copy.1 ∈ gw := gm_8 (List.mem_of_getElem? (i := 174) rfl) rfl
theorem l_Law_149 : Cond.methodLink "GlacierCampLaw" 149 M_Model_foresee.1 ∈ gw := gm_8 (List.mem_of_getElem? (i := 175) rfl) rfl
theorem l_Law_152 : Cond.methodLink "GlacierCampLaw" 152 M_Model_safe.1 ∈ gw := gm_8 (List.mem_of_getElem? (i := 179) rfl) rfl
theorem l_Law_155 : Cond.methodLink "GlacierCampLaw" 155 M_Model_advise.1 ∈ gw := gm_8 (List.mem_of_getElem? (i := 183) rfl) rfl
theorem l_Model_481 : Cond.methodLink "GlacierCampModel" 481 M_Model_reads.1 ∈ gw := gm_8 (List.mem_of_getElem? (i := 187) rfl) rfl
theorem l_Law_160 : Cond.methodLink "GlacierCampLaw" 160 M_Model_mean.1 ∈ gw := gm_8 (List.mem_of_getElem? (i := 191) rfl) rfl
theorem l_Law_165 : Cond.methodLink "GlacierCampLaw" 165 M_Model_digest.1 ∈ gw := gm_8 (List.mem_of_getElem? (i := 195) rfl) rfl
theorem l_Camp_9 : Cond.methodLinkNest "GlacierCamp" 9 M_Tape_init.1 "GlacierCamp" ∈ nw := gn_1 (List.mem_of_getElem? (i := 39) rfl) rfl
theorem l_Camp_18 : Cond.methodLinkNest "GlacierCamp" 18 M_Tokens_init.1 "GlacierCamp" ∈ nw := gn_1 (List.mem_of_getElem? (i := 53) rfl) rfl
theorem l_Camp_35 : Cond.methodLinkNest "GlacierCamp" 35 M_Orders_init.1 "GlacierCamp" ∈ nw := gn_1 (List.mem_of_getElem? (i := 151) rfl) rfl
theorem l_Orders_22 : Cond.methodLinkNest "GlacierCamp$Orders" 22 M_Formulas_init.1 "GlacierCamp" ∈ nw := gn_1 (List.mem_of_getElem? (i := 159) rfl) rfl
theorem l_Teacher_11 : Cond.methodLinkNest "GlacierCamp$Teacher" 11 M_Names_init.1 "GlacierCamp" ∈ nw := gn_2 (List.mem_of_getElem? (i := 102) rfl) rfl
theorem l_Model_19 : Cond.methodLinkNest "GlacierCampModel" 19 M_Sheet_init.1 "GlacierCampModel" ∈ nw := gn_5 (List.mem_of_getElem? (i := 199) rfl) rfl
theorem l_Model_26 : Cond.methodLinkNest "GlacierCampModel" 26 M_State_init.1 "GlacierCampModel" ∈ nw := gn_6 (List.mem_of_getElem? (i := 67) rfl) rfl
theorem l_Model_431 : Cond.methodLinkNest "GlacierCampModel" 431 M_State_copy.1 "GlacierCampModel" ∈ nw := gn_7 (List.mem_of_getElem? (i := 182) rfl) rfl
theorem q_arr_byte : Cond.arrayClass .byte ∈ gw := gm_1 (List.mem_of_getElem? (i := 50) rfl) rfl
theorem q_arr_int : Cond.arrayClass .int ∈ gw := gm_1 (List.mem_of_getElem? (i := 89) rfl) rfl
theorem q_arr_long : Cond.arrayClass .long ∈ gw := gm_1 (List.mem_of_getElem? (i := 90) rfl) rfl
theorem q_obj1 : Cond.instanceMethod Lib.objectInit ∈ gw := gm_1 (List.mem_of_getElem? (i := 35) rfl) rfl
theorem q_obj2 : Cond.code Lib.objectInit ⟨#[0xb1]⟩ 1 none ∈ gw := gm_1 (List.mem_of_getElem? (i := 36) rfl) rfl
def FLk (own : String) (idx ci k : Nat) : Prop := ∃ (C : String) (T : u_T) (N : Nat), vwCl[ci]? = some (C, T, N) ∧ k < N ∧ (Cond.fieldLink own idx (T k).1 (T k).2.1 (T k).2.2.1 ∈ gw ∨ ∃ host, Cond.fieldLinkNest own idx (T k).1 (T k).2.1 (T k).2.2.1 host ∈ nw) ∧ ∀ w ∈ u_ws C T N, w ∈ gw
def FPk (own : String) (idx ci k : Nat) (ty : FieldType) : Prop := ∃ (C : String) (T : u_T) (N : Nat) (tys : Nat → FieldType), vwCl[ci]? = some (C, T, N) ∧ k < N ∧ (Cond.fieldLink own idx (T k).1 (T k).2.1 (T k).2.2.1 ∈ gw ∨ ((T k).2.2.2 = false ∧ ∃ host, Cond.fieldLinkNest own idx (T k).1 (T k).2.1 (T k).2.2.1 host ∈ nw)) ∧ (∀ w ∈ u_ws C T N, w ∈ gw) ∧ (∀ k, k < N → parseFieldDescriptor (T k).2.2.1 = some (tys k)) ∧ (∀ a, a < N → ∀ b, b < N → a ≠ b → (T a).2.1 ≠ (T b).2.1) ∧ parseFieldDescriptor (T k).2.2.1 = some ty ∧ (T k).1 = C
theorem cw_Formulas : ∀ w ∈ u_ws R_Formulas T_Formulas 5, w ∈ gw := (List.forall_mem_cons.mpr ⟨gm_1 (List.mem_of_getElem? (i := 169) rfl) rfl, List.forall_mem_cons.mpr ⟨gm_1 (List.mem_of_getElem? (i := 171) rfl) rfl, List.forall_mem_cons.mpr ⟨gm_1 (List.mem_of_getElem? (i := 173) rfl) rfl, List.forall_mem_cons.mpr ⟨gm_1 (List.mem_of_getElem? (i := 175) rfl) rfl, List.forall_mem_cons.mpr ⟨gm_1 (List.mem_of_getElem? (i := 177) rfl) rfl, fun _ h => absurd h List.not_mem_nil⟩⟩⟩⟩⟩ : ∀ w ∈ [u_lay R_Formulas T_Formulas 0, u_lay R_Formulas T_Formulas 1, u_lay R_Formulas T_Formulas 2, u_lay R_Formulas T_Formulas 3, u_lay R_Formulas T_Formulas 4], w ∈ gw)
theorem cw_Glacier : ∀ w ∈ u_ws R_Glacier T_Glacier 8, w ∈ gw := (List.forall_mem_cons.mpr ⟨gm_1 (List.mem_of_getElem? (i := 132) rfl) rfl, List.forall_mem_cons.mpr ⟨gm_1 (List.mem_of_getElem? (i := 134) rfl) rfl, List.forall_mem_cons.mpr ⟨gm_1 (List.mem_of_getElem? (i := 136) rfl) rfl, List.forall_mem_cons.mpr ⟨gm_1 (List.mem_of_getElem? (i := 138) rfl) rfl, List.forall_mem_cons.mpr ⟨gm_1 (List.mem_of_getElem? (i := 140) rfl) rfl, List.forall_mem_cons.mpr ⟨gm_1 (List.mem_of_getElem? (i := 142) rfl) rfl, List.forall_mem_cons.mpr ⟨gm_1 (List.mem_of_getElem? (i := 144) rfl) rfl, List.forall_mem_cons.mpr ⟨gm_1 (List.mem_of_getElem? (i := 146) rfl) rfl, fun _ h => absurd h List.not_mem_nil⟩⟩⟩⟩⟩⟩⟩⟩ : ∀ w ∈ [u_lay R_Glacier T_Glacier 0, u_lay R_Glacier T_Glacier 1, u_lay R_Glacier T_Glacier 2, u_lay R_Glacier T_Glacier 3, u_lay R_Glacier T_Glacier 4, u_lay R_Glacier T_Glacier 5, u_lay R_Glacier T_Glacier 6, u_lay R_Glacier T_Glacier 7], w ∈ gw)
theorem cw_Names : ∀ w ∈ u_ws R_Names T_Names 2, w ∈ gw := (List.forall_mem_cons.mpr ⟨gm_2 (List.mem_of_getElem? (i := 108) rfl) rfl, List.forall_mem_cons.mpr ⟨gm_2 (List.mem_of_getElem? (i := 110) rfl) rfl, fun _ h => absurd h List.not_mem_nil⟩⟩ : ∀ w ∈ [u_lay R_Names T_Names 0, u_lay R_Names T_Names 1], w ∈ gw)
theorem cw_Orders : ∀ w ∈ u_ws R_Orders T_Orders 2, w ∈ gw := (List.forall_mem_cons.mpr ⟨gm_1 (List.mem_of_getElem? (i := 183) rfl) rfl, List.forall_mem_cons.mpr ⟨gm_1 (List.mem_of_getElem? (i := 185) rfl) rfl, fun _ h => absurd h List.not_mem_nil⟩⟩ : ∀ w ∈ [u_lay R_Orders T_Orders 0, u_lay R_Orders T_Orders 1], w ∈ gw)
theorem cw_Table : ∀ w ∈ u_ws R_Table T_Table 2, w ∈ gw := (List.forall_mem_cons.mpr ⟨gm_1 (List.mem_of_getElem? (i := 105) rfl) rfl, List.forall_mem_cons.mpr ⟨gm_1 (List.mem_of_getElem? (i := 107) rfl) rfl, fun _ h => absurd h List.not_mem_nil⟩⟩ : ∀ w ∈ [u_lay R_Table T_Table 0, u_lay R_Table T_Table 1], w ∈ gw)
theorem cw_Tape : ∀ w ∈ u_ws R_Tape T_Tape 2, w ∈ gw := (List.forall_mem_cons.mpr ⟨gm_1 (List.mem_of_getElem? (i := 45) rfl) rfl, List.forall_mem_cons.mpr ⟨gm_1 (List.mem_of_getElem? (i := 47) rfl) rfl, fun _ h => absurd h List.not_mem_nil⟩⟩ : ∀ w ∈ [u_lay R_Tape T_Tape 0, u_lay R_Tape T_Tape 1], w ∈ gw)
theorem cw_Teacher : ∀ w ∈ u_ws R_Teacher T_Teacher 11, w ∈ gw := (List.forall_mem_cons.mpr ⟨gm_2 (List.mem_of_getElem? (i := 124) rfl) rfl, List.forall_mem_cons.mpr ⟨gm_2 (List.mem_of_getElem? (i := 126) rfl) rfl, List.forall_mem_cons.mpr ⟨gm_2 (List.mem_of_getElem? (i := 128) rfl) rfl, List.forall_mem_cons.mpr ⟨gm_2 (List.mem_of_getElem? (i := 130) rfl) rfl, List.forall_mem_cons.mpr ⟨gm_2 (List.mem_of_getElem? (i := 132) rfl) rfl, List.forall_mem_cons.mpr ⟨gm_2 (List.mem_of_getElem? (i := 134) rfl) rfl, List.forall_mem_cons.mpr ⟨gm_2 (List.mem_of_getElem? (i := 136) rfl) rfl, List.forall_mem_cons.mpr ⟨gm_2 (List.mem_of_getElem? (i := 138) rfl) rfl, List.forall_mem_cons.mpr ⟨gm_2 (List.mem_of_getElem? (i := 140) rfl) rfl, List.forall_mem_cons.mpr ⟨gm_2 (List.mem_of_getElem? (i := 142) rfl) rfl, List.forall_mem_cons.mpr ⟨gm_2 (List.mem_of_getElem? (i := 144) rfl) rfl, fun _ h => absurd h List.not_mem_nil⟩⟩⟩⟩⟩⟩⟩⟩⟩⟩⟩ : ∀ w ∈ [u_lay R_Teacher T_Teacher 0, u_lay R_Teacher T_Teacher 1, u_lay R_Teacher T_Teacher 2, u_lay R_Teacher T_Teacher 3, u_lay R_Teacher T_Teacher 4, u_lay R_Teacher T_Teacher 5, u_lay R_Teacher T_Teacher 6, u_lay R_Teacher T_Teacher 7, u_lay R_Teacher T_Teacher 8, u_lay R_Teacher T_Teacher 9, u_lay R_Teacher T_Teacher 10], w ∈ gw)
theorem cw_Tokens : ∀ w ∈ u_ws R_Tokens T_Tokens 9, w ∈ gw := (List.forall_mem_cons.mpr ⟨gm_1 (List.mem_of_getElem? (i := 70) rfl) rfl, List.forall_mem_cons.mpr ⟨gm_1 (List.mem_of_getElem? (i := 72) rfl) rfl, List.forall_mem_cons.mpr ⟨gm_1 (List.mem_of_getElem? (i := 74) rfl) rfl, List.forall_mem_cons.mpr ⟨gm_1 (List.mem_of_getElem? (i := 76) rfl) rfl, List.forall_mem_cons.mpr ⟨gm_1 (List.mem_of_getElem? (i := 78) rfl) rfl, List.forall_mem_cons.mpr ⟨gm_1 (List.mem_of_getElem? (i := 80) rfl) rfl, List.forall_mem_cons.mpr ⟨gm_1 (List.mem_of_getElem? (i := 82) rfl) rfl, List.forall_mem_cons.mpr ⟨gm_1 (List.mem_of_getElem? (i := 84) rfl) rfl, List.forall_mem_cons.mpr ⟨gm_1 (List.mem_of_getElem? (i := 86) rfl) rfl, fun _ h => absurd h List.not_mem_nil⟩⟩⟩⟩⟩⟩⟩⟩⟩ : ∀ w ∈ [u_lay R_Tokens T_Tokens 0, u_lay R_Tokens T_Tokens 1, u_lay R_Tokens T_Tokens 2, u_lay R_Tokens T_Tokens 3, u_lay R_Tokens T_Tokens 4, u_lay R_Tokens T_Tokens 5, u_lay R_Tokens T_Tokens 6, u_lay R_Tokens T_Tokens 7, u_lay R_Tokens T_Tokens 8], w ∈ gw)
theorem cw_Camp : ∀ w ∈ u_ws R_Camp T_Camp 7, w ∈ gw := (List.forall_mem_cons.mpr ⟨gm_1 (List.mem_of_getElem? (i := 195) rfl) rfl, List.forall_mem_cons.mpr ⟨gm_1 (List.mem_of_getElem? (i := 197) rfl) rfl, List.forall_mem_cons.mpr ⟨gm_1 (List.mem_of_getElem? (i := 199) rfl) rfl, List.forall_mem_cons.mpr ⟨gm_1 (List.mem_of_getElem? (i := 201) rfl) rfl, List.forall_mem_cons.mpr ⟨gm_1 (List.mem_of_getElem? (i := 203) rfl) rfl, List.forall_mem_cons.mpr ⟨gm_1 (List.mem_of_getElem? (i := 205) rfl) rfl, List.forall_mem_cons.mpr ⟨gm_1 (List.mem_of_getElem? (i := 207) rfl) rfl, fun _ h => absurd h List.not_mem_nil⟩⟩⟩⟩⟩⟩⟩ : ∀ w ∈ [u_lay R_Camp T_Camp 0, u_lay R_Camp T_Camp 1, u_lay R_Camp T_Camp 2, u_lay R_Camp T_Camp 3, u_lay R_Camp T_Camp 4, u_lay R_Camp T_Camp 5, u_lay R_Camp T_Camp 6], w ∈ gw)
theorem cw_Sheet : ∀ w ∈ u_ws R_Sheet T_Sheet 26, w ∈ gw := (List.forall_mem_cons.mpr ⟨gm_6 (List.mem_of_getElem? (i := 12) rfl) rfl, List.forall_mem_cons.mpr ⟨gm_6 (List.mem_of_getElem? (i := 14) rfl) rfl, List.forall_mem_cons.mpr ⟨gm_6 (List.mem_of_getElem? (i := 16) rfl) rfl, List.forall_mem_cons.mpr ⟨gm_6 (List.mem_of_getElem? (i := 18) rfl) rfl, List.forall_mem_cons.mpr ⟨gm_6 (List.mem_of_getElem? (i := 20) rfl) rfl, List.forall_mem_cons.mpr ⟨gm_6 (List.mem_of_getElem? (i := 22) rfl) rfl, List.forall_mem_cons.mpr ⟨gm_6 (List.mem_of_getElem? (i := 24) rfl) rfl, List.forall_mem_cons.mpr ⟨gm_6 (List.mem_of_getElem? (i := 26) rfl) rfl, List.forall_mem_cons.mpr ⟨gm_6 (List.mem_of_getElem? (i := 28) rfl) rfl, List.forall_mem_cons.mpr ⟨gm_6 (List.mem_of_getElem? (i := 30) rfl) rfl, List.forall_mem_cons.mpr ⟨gm_6 (List.mem_of_getElem? (i := 32) rfl) rfl, List.forall_mem_cons.mpr ⟨gm_6 (List.mem_of_getElem? (i := 34) rfl) rfl, List.forall_mem_cons.mpr ⟨gm_6 (List.mem_of_getElem? (i := 36) rfl) rfl, List.forall_mem_cons.mpr ⟨gm_6 (List.mem_of_getElem? (i := 38) rfl) rfl, List.forall_mem_cons.mpr ⟨gm_6 (List.mem_of_getElem? (i := 40) rfl) rfl, List.forall_mem_cons.mpr ⟨gm_6 (List.mem_of_getElem? (i := 42) rfl) rfl, List.forall_mem_cons.mpr ⟨gm_6 (List.mem_of_getElem? (i := 44) rfl) rfl, List.forall_mem_cons.mpr ⟨gm_6 (List.mem_of_getElem? (i := 46) rfl) rfl, List.forall_mem_cons.mpr ⟨gm_6 (List.mem_of_getElem? (i := 48) rfl) rfl, List.forall_mem_cons.mpr ⟨gm_6 (List.mem_of_getElem? (i := 50) rfl) rfl, List.forall_mem_cons.mpr ⟨gm_6 (List.mem_of_getElem? (i := 52) rfl) rfl, List.forall_mem_cons.mpr ⟨gm_6 (List.mem_of_getElem? (i := 54) rfl) rfl, List.forall_mem_cons.mpr ⟨gm_6 (List.mem_of_getElem? (i := 56) rfl) rfl, List.forall_mem_cons.mpr ⟨gm_6 (List.mem_of_getElem? (i := 58) rfl) rfl, List.forall_mem_cons.mpr ⟨gm_6 (List.mem_of_getElem? (i := 60) rfl) rfl, List.forall_mem_cons.mpr ⟨gm_6 (List.mem_of_getElem? (i := 62) rfl) rfl, fun _ h => absurd h List.not_mem_nil⟩⟩⟩⟩⟩⟩⟩⟩⟩⟩⟩⟩⟩⟩⟩⟩⟩⟩⟩⟩⟩⟩⟩⟩⟩⟩ : ∀ w ∈ [u_lay R_Sheet T_Sheet 0, u_lay R_Sheet T_Sheet 1, u_lay R_Sheet T_Sheet 2, u_lay R_Sheet T_Sheet 3, u_lay R_Sheet T_Sheet 4, u_lay R_Sheet T_Sheet 5, u_lay R_Sheet T_Sheet 6, u_lay R_Sheet T_Sheet 7, u_lay R_Sheet T_Sheet 8, u_lay R_Sheet T_Sheet 9, u_lay R_Sheet T_Sheet 10, u_lay R_Sheet T_Sheet 11, u_lay R_Sheet T_Sheet 12, u_lay R_Sheet T_Sheet 13, u_lay R_Sheet T_Sheet 14, u_lay R_Sheet T_Sheet 15, u_lay R_Sheet T_Sheet 16, u_lay R_Sheet T_Sheet 17, u_lay R_Sheet T_Sheet 18, u_lay R_Sheet T_Sheet 19, u_lay R_Sheet T_Sheet 20, u_lay R_Sheet T_Sheet 21, u_lay R_Sheet T_Sheet 22, u_lay R_Sheet T_Sheet 23, u_lay R_Sheet T_Sheet 24, u_lay R_Sheet T_Sheet 25], w ∈ gw)
theorem cw_State : ∀ w ∈ u_ws R_State T_State 24, w ∈ gw := (List.forall_mem_cons.mpr ⟨gm_6 (List.mem_of_getElem? (i := 119) rfl) rfl, List.forall_mem_cons.mpr ⟨gm_6 (List.mem_of_getElem? (i := 121) rfl) rfl, List.forall_mem_cons.mpr ⟨gm_6 (List.mem_of_getElem? (i := 123) rfl) rfl, List.forall_mem_cons.mpr ⟨gm_6 (List.mem_of_getElem? (i := 125) rfl) rfl, List.forall_mem_cons.mpr ⟨gm_6 (List.mem_of_getElem? (i := 127) rfl) rfl, List.forall_mem_cons.mpr ⟨gm_6 (List.mem_of_getElem? (i := 129) rfl) rfl, List.forall_mem_cons.mpr ⟨gm_6 (List.mem_of_getElem? (i := 131) rfl) rfl, List.forall_mem_cons.mpr ⟨gm_6 (List.mem_of_getElem? (i := 133) rfl) rfl, List.forall_mem_cons.mpr ⟨gm_6 (List.mem_of_getElem? (i := 135) rfl) rfl, List.forall_mem_cons.mpr ⟨gm_6 (List.mem_of_getElem? (i := 137) rfl) rfl, List.forall_mem_cons.mpr ⟨gm_6 (List.mem_of_getElem? (i := 139) rfl) rfl, List.forall_mem_cons.mpr ⟨gm_6 (List.mem_of_getElem? (i := 141) rfl) rfl, List.forall_mem_cons.mpr ⟨gm_6 (List.mem_of_getElem? (i := 143) rfl) rfl, List.forall_mem_cons.mpr ⟨gm_6 (List.mem_of_getElem? (i := 145) rfl) rfl, List.forall_mem_cons.mpr ⟨gm_6 (List.mem_of_getElem? (i := 147) rfl) rfl, List.forall_mem_cons.mpr ⟨gm_6 (List.mem_of_getElem? (i := 149) rfl) rfl, List.forall_mem_cons.mpr ⟨gm_6 (List.mem_of_getElem? (i := 151) rfl) rfl, List.forall_mem_cons.mpr ⟨gm_6 (List.mem_of_getElem? (i := 153) rfl) rfl, List.forall_mem_cons.mpr ⟨gm_6 (List.mem_of_getElem? (i := 155) rfl) rfl, List.forall_mem_cons.mpr ⟨gm_6 (List.mem_of_getElem? (i := 157) rfl) rfl, List.forall_mem_cons.mpr ⟨gm_6 (List.mem_of_getElem? (i := 159) rfl) rfl, List.forall_mem_cons.mpr ⟨gm_6 (List.mem_of_getElem? (i := 161) rfl) rfl, List.forall_mem_cons.mpr ⟨gm_6 (List.mem_of_getElem? (i := 163) rfl) rfl, List.forall_mem_cons.mpr ⟨gm_6 (List.mem_of_getElem? (i := 165) rfl) rfl, fun _ h => absurd h List.not_mem_nil⟩⟩⟩⟩⟩⟩⟩⟩⟩⟩⟩⟩⟩⟩⟩⟩⟩⟩⟩⟩⟩⟩⟩⟩ : ∀ w ∈ [u_lay R_State T_State 0, u_lay R_State T_State 1, u_lay R_State T_State 2, u_lay R_State T_State 3, u_lay R_State T_State 4, u_lay R_State T_State 5, u_lay R_State T_State 6, u_lay R_State T_State 7, u_lay R_State T_State 8, u_lay R_State T_State 9, u_lay R_State T_State 10, u_lay R_State T_State 11, u_lay R_State T_State 12, u_lay R_State T_State 13, u_lay R_State T_State 14, u_lay R_State T_State 15, u_lay R_State T_State 16, u_lay R_State T_State 17, u_lay R_State T_State 18, u_lay R_State T_State 19, u_lay R_State T_State 20, u_lay R_State T_State 21, u_lay R_State T_State 22, u_lay R_State T_State 23], w ∈ gw)
theorem cw_Model : ∀ w ∈ u_ws R_Model T_Model 11, w ∈ gw := (List.forall_mem_cons.mpr ⟨gm_6 (List.mem_of_getElem? (i := 179) rfl) rfl, List.forall_mem_cons.mpr ⟨gm_6 (List.mem_of_getElem? (i := 181) rfl) rfl, List.forall_mem_cons.mpr ⟨gm_6 (List.mem_of_getElem? (i := 183) rfl) rfl, List.forall_mem_cons.mpr ⟨gm_6 (List.mem_of_getElem? (i := 185) rfl) rfl, List.forall_mem_cons.mpr ⟨gm_6 (List.mem_of_getElem? (i := 187) rfl) rfl, List.forall_mem_cons.mpr ⟨gm_6 (List.mem_of_getElem? (i := 189) rfl) rfl, List.forall_mem_cons.mpr ⟨gm_6 (List.mem_of_getElem? (i := 191) rfl) rfl, List.forall_mem_cons.mpr ⟨gm_6 (List.mem_of_getElem? (i := 193) rfl) rfl, List.forall_mem_cons.mpr ⟨gm_6 (List.mem_of_getElem? (i := 195) rfl) rfl, List.forall_mem_cons.mpr ⟨gm_6 (List.mem_of_getElem? (i := 197) rfl) rfl, List.forall_mem_cons.mpr ⟨gm_6 (List.mem_of_getElem? (i := 199) rfl) rfl, fun _ h => absurd h List.not_mem_nil⟩⟩⟩⟩⟩⟩⟩⟩⟩⟩⟩ : ∀ w ∈ [u_lay R_Model T_Model 0, u_lay R_Model T_Model 1, u_lay R_Model T_Model 2, u_lay R_Model T_Model 3, u_lay R_Model T_Model 4, u_lay R_Model T_Model 5, u_lay R_Model T_Model 6, u_lay R_Model T_Model 7, u_lay R_Model T_Model 8, u_lay R_Model T_Model 9, u_lay R_Model T_Model 10], w ∈ gw)
theorem f_Tape_9 : FLk "GlacierCamp$Tape" 9 5 0 := ⟨R_Tape, T_Tape, 2, rfl, by decide, Or.inl (gm_1 (List.mem_of_getElem? (i := 43) rfl) rfl), cw_Tape⟩
theorem f_Tape_9_p : FPk "GlacierCamp$Tape" 9 5 0 (ty_Tape 0) := ⟨R_Tape, T_Tape, 2, ty_Tape, rfl, by decide, Or.inl (gm_1 (List.mem_of_getElem? (i := 43) rfl) rfl), cw_Tape, ty_Tape_ok, nm_Tape, ty_Tape_ok 0 (by decide), rfl⟩
theorem f_Tape_15 : FLk "GlacierCamp$Tape" 15 5 1 := ⟨R_Tape, T_Tape, 2, rfl, by decide, Or.inl (gm_1 (List.mem_of_getElem? (i := 44) rfl) rfl), cw_Tape⟩
theorem f_Tape_15_p : FPk "GlacierCamp$Tape" 15 5 1 (ty_Tape 1) := ⟨R_Tape, T_Tape, 2, ty_Tape, rfl, by decide, Or.inl (gm_1 (List.mem_of_getElem? (i := 44) rfl) rfl), cw_Tape, ty_Tape_ok, nm_Tape, ty_Tape_ok 1 (by decide), rfl⟩
theorem f_Tokens_11 : FLk "GlacierCamp$Tokens" 11 7 0 := ⟨R_Tokens, T_Tokens, 9, rfl, by decide, Or.inl (gm_1 (List.mem_of_getElem? (i := 61) rfl) rfl), cw_Tokens⟩
theorem f_Tokens_11_p : FPk "GlacierCamp$Tokens" 11 7 0 (ty_Tokens 0) := ⟨R_Tokens, T_Tokens, 9, ty_Tokens, rfl, by decide, Or.inl (gm_1 (List.mem_of_getElem? (i := 61) rfl) rfl), cw_Tokens, ty_Tokens_ok, nm_Tokens, ty_Tokens_ok 0 (by decide), rfl⟩
theorem f_Tokens_17 : FLk "GlacierCamp$Tokens" 17 7 1 := ⟨R_Tokens, T_Tokens, 9, rfl, by decide, Or.inl (gm_1 (List.mem_of_getElem? (i := 62) rfl) rfl), cw_Tokens⟩
theorem f_Tokens_17_p : FPk "GlacierCamp$Tokens" 17 7 1 (ty_Tokens 1) := ⟨R_Tokens, T_Tokens, 9, ty_Tokens, rfl, by decide, Or.inl (gm_1 (List.mem_of_getElem? (i := 62) rfl) rfl), cw_Tokens, ty_Tokens_ok, nm_Tokens, ty_Tokens_ok 1 (by decide), rfl⟩
theorem f_Tokens_21 : FLk "GlacierCamp$Tokens" 21 7 2 := ⟨R_Tokens, T_Tokens, 9, rfl, by decide, Or.inl (gm_1 (List.mem_of_getElem? (i := 63) rfl) rfl), cw_Tokens⟩
theorem f_Tokens_21_p : FPk "GlacierCamp$Tokens" 21 7 2 (ty_Tokens 2) := ⟨R_Tokens, T_Tokens, 9, ty_Tokens, rfl, by decide, Or.inl (gm_1 (List.mem_of_getElem? (i := 63) rfl) rfl), cw_Tokens, ty_Tokens_ok, nm_Tokens, ty_Tokens_ok 2 (by decide), rfl⟩
theorem f_Tokens_36 : FLk "GlacierCamp$Tokens" 36 7 3 := ⟨R_Tokens, T_Tokens, 9, rfl, by decide, Or.inl (gm_1 (List.mem_of_getElem? (i := 64) rfl) rfl), cw_Tokens⟩
theorem f_Tokens_36_p : FPk "GlacierCamp$Tokens" 36 7 3 (ty_Tokens 3) := ⟨R_Tokens, T_Tokens, 9, ty_Tokens, rfl, by decide, Or.inl (gm_1 (List.mem_of_getElem? (i := 64) rfl) rfl), cw_Tokens, ty_Tokens_ok, nm_Tokens, ty_Tokens_ok 3 (by decide), rfl⟩
theorem f_Tokens_66 : FLk "GlacierCamp$Tokens" 66 7 4 := ⟨R_Tokens, T_Tokens, 9, rfl, by decide, Or.inl (gm_1 (List.mem_of_getElem? (i := 65) rfl) rfl), cw_Tokens⟩
theorem f_Tokens_66_p : FPk "GlacierCamp$Tokens" 66 7 4 (ty_Tokens 4) := ⟨R_Tokens, T_Tokens, 9, ty_Tokens, rfl, by decide, Or.inl (gm_1 (List.mem_of_getElem? (i := 65) rfl) rfl), cw_Tokens, ty_Tokens_ok, nm_Tokens, ty_Tokens_ok 4 (by decide), rfl⟩
theorem f_Tokens_29 : FLk "GlacierCamp$Tokens" 29 7 5 := ⟨R_Tokens, T_Tokens, 9, rfl, by decide, Or.inl (gm_1 (List.mem_of_getElem? (i := 66) rfl) rfl), cw_Tokens⟩
theorem f_Tokens_29_p : FPk "GlacierCamp$Tokens" 29 7 5 (ty_Tokens 5) := ⟨R_Tokens, T_Tokens, 9, ty_Tokens, rfl, by decide, Or.inl (gm_1 (List.mem_of_getElem? (i := 66) rfl) rfl), cw_Tokens, ty_Tokens_ok, nm_Tokens, ty_Tokens_ok 5 (by decide), rfl⟩
theorem f_Tokens_72 : FLk "GlacierCamp$Tokens" 72 7 6 := ⟨R_Tokens, T_Tokens, 9, rfl, by decide, Or.inl (gm_1 (List.mem_of_getElem? (i := 67) rfl) rfl), cw_Tokens⟩
theorem f_Tokens_72_p : FPk "GlacierCamp$Tokens" 72 7 6 (ty_Tokens 6) := ⟨R_Tokens, T_Tokens, 9, ty_Tokens, rfl, by decide, Or.inl (gm_1 (List.mem_of_getElem? (i := 67) rfl) rfl), cw_Tokens, ty_Tokens_ok, nm_Tokens, ty_Tokens_ok 6 (by decide), rfl⟩
theorem f_Tokens_75 : FLk "GlacierCamp$Tokens" 75 7 7 := ⟨R_Tokens, T_Tokens, 9, rfl, by decide, Or.inl (gm_1 (List.mem_of_getElem? (i := 68) rfl) rfl), cw_Tokens⟩
theorem f_Tokens_75_p : FPk "GlacierCamp$Tokens" 75 7 7 (ty_Tokens 7) := ⟨R_Tokens, T_Tokens, 9, ty_Tokens, rfl, by decide, Or.inl (gm_1 (List.mem_of_getElem? (i := 68) rfl) rfl), cw_Tokens, ty_Tokens_ok, nm_Tokens, ty_Tokens_ok 7 (by decide), rfl⟩
theorem f_Tokens_32 : FLk "GlacierCamp$Tokens" 32 7 8 := ⟨R_Tokens, T_Tokens, 9, rfl, by decide, Or.inl (gm_1 (List.mem_of_getElem? (i := 69) rfl) rfl), cw_Tokens⟩
theorem f_Tokens_32_p : FPk "GlacierCamp$Tokens" 32 7 8 (ty_Tokens 8) := ⟨R_Tokens, T_Tokens, 9, ty_Tokens, rfl, by decide, Or.inl (gm_1 (List.mem_of_getElem? (i := 69) rfl) rfl), cw_Tokens, ty_Tokens_ok, nm_Tokens, ty_Tokens_ok 8 (by decide), rfl⟩
theorem f_Table_11 : FLk "GlacierCamp$Table" 11 4 0 := ⟨R_Table, T_Table, 2, rfl, by decide, Or.inl (gm_1 (List.mem_of_getElem? (i := 103) rfl) rfl), cw_Table⟩
theorem f_Table_11_p : FPk "GlacierCamp$Table" 11 4 0 (ty_Table 0) := ⟨R_Table, T_Table, 2, ty_Table, rfl, by decide, Or.inl (gm_1 (List.mem_of_getElem? (i := 103) rfl) rfl), cw_Table, ty_Table_ok, nm_Table, ty_Table_ok 0 (by decide), rfl⟩
theorem f_Table_15 : FLk "GlacierCamp$Table" 15 4 1 := ⟨R_Table, T_Table, 2, rfl, by decide, Or.inl (gm_1 (List.mem_of_getElem? (i := 104) rfl) rfl), cw_Table⟩
theorem f_Table_15_p : FPk "GlacierCamp$Table" 15 4 1 (ty_Table 1) := ⟨R_Table, T_Table, 2, ty_Table, rfl, by decide, Or.inl (gm_1 (List.mem_of_getElem? (i := 104) rfl) rfl), cw_Table, ty_Table_ok, nm_Table, ty_Table_ok 1 (by decide), rfl⟩
theorem f_Glacier_14 : FLk "GlacierCamp$Glacier" 14 1 0 := ⟨R_Glacier, T_Glacier, 8, rfl, by decide, Or.inl (gm_1 (List.mem_of_getElem? (i := 118) rfl) rfl), cw_Glacier⟩
theorem f_Glacier_14_p : FPk "GlacierCamp$Glacier" 14 1 0 (ty_Glacier 0) := ⟨R_Glacier, T_Glacier, 8, ty_Glacier, rfl, by decide, Or.inl (gm_1 (List.mem_of_getElem? (i := 118) rfl) rfl), cw_Glacier, ty_Glacier_ok, nm_Glacier, ty_Glacier_ok 0 (by decide), rfl⟩
theorem f_Glacier_20 : FLk "GlacierCamp$Glacier" 20 1 1 := ⟨R_Glacier, T_Glacier, 8, rfl, by decide, Or.inl (gm_1 (List.mem_of_getElem? (i := 121) rfl) rfl), cw_Glacier⟩
theorem f_Glacier_20_p : FPk "GlacierCamp$Glacier" 20 1 1 (ty_Glacier 1) := ⟨R_Glacier, T_Glacier, 8, ty_Glacier, rfl, by decide, Or.inl (gm_1 (List.mem_of_getElem? (i := 121) rfl) rfl), cw_Glacier, ty_Glacier_ok, nm_Glacier, ty_Glacier_ok 1 (by decide), rfl⟩
theorem f_Glacier_23 : FLk "GlacierCamp$Glacier" 23 1 2 := ⟨R_Glacier, T_Glacier, 8, rfl, by decide, Or.inl (gm_1 (List.mem_of_getElem? (i := 123) rfl) rfl), cw_Glacier⟩
theorem f_Glacier_23_p : FPk "GlacierCamp$Glacier" 23 1 2 (ty_Glacier 2) := ⟨R_Glacier, T_Glacier, 8, ty_Glacier, rfl, by decide, Or.inl (gm_1 (List.mem_of_getElem? (i := 123) rfl) rfl), cw_Glacier, ty_Glacier_ok, nm_Glacier, ty_Glacier_ok 2 (by decide), rfl⟩
theorem f_Glacier_26 : FLk "GlacierCamp$Glacier" 26 1 3 := ⟨R_Glacier, T_Glacier, 8, rfl, by decide, Or.inl (gm_1 (List.mem_of_getElem? (i := 125) rfl) rfl), cw_Glacier⟩
theorem f_Glacier_26_p : FPk "GlacierCamp$Glacier" 26 1 3 (ty_Glacier 3) := ⟨R_Glacier, T_Glacier, 8, ty_Glacier, rfl, by decide, Or.inl (gm_1 (List.mem_of_getElem? (i := 125) rfl) rfl), cw_Glacier, ty_Glacier_ok, nm_Glacier, ty_Glacier_ok 3 (by decide), rfl⟩
theorem f_Glacier_29 : FLk "GlacierCamp$Glacier" 29 1 4 := ⟨R_Glacier, T_Glacier, 8, rfl, by decide, Or.inl (gm_1 (List.mem_of_getElem? (i := 127) rfl) rfl), cw_Glacier⟩
theorem f_Glacier_29_p : FPk "GlacierCamp$Glacier" 29 1 4 (ty_Glacier 4) := ⟨R_Glacier, T_Glacier, 8, ty_Glacier, rfl, by decide, Or.inl (gm_1 (List.mem_of_getElem? (i := 127) rfl) rfl), cw_Glacier, ty_Glacier_ok, nm_Glacier, ty_Glacier_ok 4 (by decide), rfl⟩
theorem f_Glacier_32 : FLk "GlacierCamp$Glacier" 32 1 5 := ⟨R_Glacier, T_Glacier, 8, rfl, by decide, Or.inl (gm_1 (List.mem_of_getElem? (i := 129) rfl) rfl), cw_Glacier⟩
theorem f_Glacier_32_p : FPk "GlacierCamp$Glacier" 32 1 5 (ty_Glacier 5) := ⟨R_Glacier, T_Glacier, 8, ty_Glacier, rfl, by decide, Or.inl (gm_1 (List.mem_of_getElem? (i := 129) rfl) rfl), cw_Glacier, ty_Glacier_ok, nm_Glacier, ty_Glacier_ok 5 (by decide), rfl⟩
theorem f_Glacier_42 : FLk "GlacierCamp$Glacier" 42 1 6 := ⟨R_Glacier, T_Glacier, 8, rfl, by decide, Or.inl (gm_1 (List.mem_of_getElem? (i := 130) rfl) rfl), cw_Glacier⟩
theorem f_Glacier_42_p : FPk "GlacierCamp$Glacier" 42 1 6 (ty_Glacier 6) := ⟨R_Glacier, T_Glacier, 8, ty_Glacier, rfl, by decide, Or.inl (gm_1 (List.mem_of_getElem? (i := 130) rfl) rfl), cw_Glacier, ty_Glacier_ok, nm_Glacier, ty_Glacier_ok 6 (by decide), rfl⟩
theorem f_Glacier_46 : FLk "GlacierCamp$Glacier" 46 1 7 := ⟨R_Glacier, T_Glacier, 8, rfl, by decide, Or.inl (gm_1 (List.mem_of_getElem? (i := 131) rfl) rfl), cw_Glacier⟩
theorem f_Glacier_46_p : FPk "GlacierCamp$Glacier" 46 1 7 (ty_Glacier 7) := ⟨R_Glacier, T_Glacier, 8, ty_Glacier, rfl, by decide, Or.inl (gm_1 (List.mem_of_getElem? (i := 131) rfl) rfl), cw_Glacier, ty_Glacier_ok, nm_Glacier, ty_Glacier_ok 7 (by decide), rfl⟩
theorem f_Formulas_13 : FLk "GlacierCamp$Formulas" 13 0 0 := ⟨R_Formulas, T_Formulas, 5, rfl, by decide, Or.inl (gm_1 (List.mem_of_getElem? (i := 164) rfl) rfl), cw_Formulas⟩
theorem f_Formulas_13_p : FPk "GlacierCamp$Formulas" 13 0 0 (ty_Formulas 0) := ⟨R_Formulas, T_Formulas, 5, ty_Formulas, rfl, by decide, Or.inl (gm_1 (List.mem_of_getElem? (i := 164) rfl) rfl), cw_Formulas, ty_Formulas_ok, nm_Formulas, ty_Formulas_ok 0 (by decide), rfl⟩
theorem f_Formulas_17 : FLk "GlacierCamp$Formulas" 17 0 1 := ⟨R_Formulas, T_Formulas, 5, rfl, by decide, Or.inl (gm_1 (List.mem_of_getElem? (i := 165) rfl) rfl), cw_Formulas⟩
theorem f_Formulas_17_p : FPk "GlacierCamp$Formulas" 17 0 1 (ty_Formulas 1) := ⟨R_Formulas, T_Formulas, 5, ty_Formulas, rfl, by decide, Or.inl (gm_1 (List.mem_of_getElem? (i := 165) rfl) rfl), cw_Formulas, ty_Formulas_ok, nm_Formulas, ty_Formulas_ok 1 (by decide), rfl⟩
theorem f_Formulas_21 : FLk "GlacierCamp$Formulas" 21 0 2 := ⟨R_Formulas, T_Formulas, 5, rfl, by decide, Or.inl (gm_1 (List.mem_of_getElem? (i := 166) rfl) rfl), cw_Formulas⟩
theorem f_Formulas_21_p : FPk "GlacierCamp$Formulas" 21 0 2 (ty_Formulas 2) := ⟨R_Formulas, T_Formulas, 5, ty_Formulas, rfl, by decide, Or.inl (gm_1 (List.mem_of_getElem? (i := 166) rfl) rfl), cw_Formulas, ty_Formulas_ok, nm_Formulas, ty_Formulas_ok 2 (by decide), rfl⟩
theorem f_Formulas_24 : FLk "GlacierCamp$Formulas" 24 0 3 := ⟨R_Formulas, T_Formulas, 5, rfl, by decide, Or.inl (gm_1 (List.mem_of_getElem? (i := 167) rfl) rfl), cw_Formulas⟩
theorem f_Formulas_24_p : FPk "GlacierCamp$Formulas" 24 0 3 (ty_Formulas 3) := ⟨R_Formulas, T_Formulas, 5, ty_Formulas, rfl, by decide, Or.inl (gm_1 (List.mem_of_getElem? (i := 167) rfl) rfl), cw_Formulas, ty_Formulas_ok, nm_Formulas, ty_Formulas_ok 3 (by decide), rfl⟩
theorem f_Formulas_28 : FLk "GlacierCamp$Formulas" 28 0 4 := ⟨R_Formulas, T_Formulas, 5, rfl, by decide, Or.inl (gm_1 (List.mem_of_getElem? (i := 168) rfl) rfl), cw_Formulas⟩
theorem f_Formulas_28_p : FPk "GlacierCamp$Formulas" 28 0 4 (ty_Formulas 4) := ⟨R_Formulas, T_Formulas, 5, ty_Formulas, rfl, by decide, Or.inl (gm_1 (List.mem_of_getElem? (i := 168) rfl) rfl), cw_Formulas, ty_Formulas_ok, nm_Formulas, ty_Formulas_ok 4 (by decide), rfl⟩
theorem f_Orders_14 : FLk "GlacierCamp$Orders" 14 3 0 := ⟨R_Orders, T_Orders, 2, rfl, by decide, Or.inl (gm_1 (List.mem_of_getElem? (i := 180) rfl) rfl), cw_Orders⟩
theorem f_Orders_14_p : FPk "GlacierCamp$Orders" 14 3 0 (ty_Orders 0) := ⟨R_Orders, T_Orders, 2, ty_Orders, rfl, by decide, Or.inl (gm_1 (List.mem_of_getElem? (i := 180) rfl) rfl), cw_Orders, ty_Orders_ok, nm_Orders, ty_Orders_ok 0 (by decide), rfl⟩
theorem f_Orders_23 : FLk "GlacierCamp$Orders" 23 3 1 := ⟨R_Orders, T_Orders, 2, rfl, by decide, Or.inl (gm_1 (List.mem_of_getElem? (i := 181) rfl) rfl), cw_Orders⟩
theorem f_Orders_23_p : FPk "GlacierCamp$Orders" 23 3 1 (ty_Orders 1) := ⟨R_Orders, T_Orders, 2, ty_Orders, rfl, by decide, Or.inl (gm_1 (List.mem_of_getElem? (i := 181) rfl) rfl), cw_Orders, ty_Orders_ok, nm_Orders, ty_Orders_ok 1 (by decide), rfl⟩
theorem f_Camp_10 : FLk "GlacierCamp" 10 8 0 := ⟨R_Camp, T_Camp, 7, rfl, by decide, Or.inl (gm_1 (List.mem_of_getElem? (i := 188) rfl) rfl), cw_Camp⟩
theorem f_Camp_10_p : FPk "GlacierCamp" 10 8 0 (ty_Camp 0) := ⟨R_Camp, T_Camp, 7, ty_Camp, rfl, by decide, Or.inl (gm_1 (List.mem_of_getElem? (i := 188) rfl) rfl), cw_Camp, ty_Camp_ok, nm_Camp, ty_Camp_ok 0 (by decide), rfl⟩
theorem f_Camp_19 : FLk "GlacierCamp" 19 8 1 := ⟨R_Camp, T_Camp, 7, rfl, by decide, Or.inl (gm_1 (List.mem_of_getElem? (i := 189) rfl) rfl), cw_Camp⟩
theorem f_Camp_19_p : FPk "GlacierCamp" 19 8 1 (ty_Camp 1) := ⟨R_Camp, T_Camp, 7, ty_Camp, rfl, by decide, Or.inl (gm_1 (List.mem_of_getElem? (i := 189) rfl) rfl), cw_Camp, ty_Camp_ok, nm_Camp, ty_Camp_ok 1 (by decide), rfl⟩
theorem f_Camp_26 : FLk "GlacierCamp" 26 8 2 := ⟨R_Camp, T_Camp, 7, rfl, by decide, Or.inl (gm_1 (List.mem_of_getElem? (i := 190) rfl) rfl), cw_Camp⟩
theorem f_Camp_26_p : FPk "GlacierCamp" 26 8 2 (ty_Camp 2) := ⟨R_Camp, T_Camp, 7, ty_Camp, rfl, by decide, Or.inl (gm_1 (List.mem_of_getElem? (i := 190) rfl) rfl), cw_Camp, ty_Camp_ok, nm_Camp, ty_Camp_ok 2 (by decide), rfl⟩
theorem f_Camp_30 : FLk "GlacierCamp" 30 8 3 := ⟨R_Camp, T_Camp, 7, rfl, by decide, Or.inl (gm_1 (List.mem_of_getElem? (i := 191) rfl) rfl), cw_Camp⟩
theorem f_Camp_30_p : FPk "GlacierCamp" 30 8 3 (ty_Camp 3) := ⟨R_Camp, T_Camp, 7, ty_Camp, rfl, by decide, Or.inl (gm_1 (List.mem_of_getElem? (i := 191) rfl) rfl), cw_Camp, ty_Camp_ok, nm_Camp, ty_Camp_ok 3 (by decide), rfl⟩
theorem f_Camp_36 : FLk "GlacierCamp" 36 8 4 := ⟨R_Camp, T_Camp, 7, rfl, by decide, Or.inl (gm_1 (List.mem_of_getElem? (i := 192) rfl) rfl), cw_Camp⟩
theorem f_Camp_36_p : FPk "GlacierCamp" 36 8 4 (ty_Camp 4) := ⟨R_Camp, T_Camp, 7, ty_Camp, rfl, by decide, Or.inl (gm_1 (List.mem_of_getElem? (i := 192) rfl) rfl), cw_Camp, ty_Camp_ok, nm_Camp, ty_Camp_ok 4 (by decide), rfl⟩
theorem f_Camp_40 : FLk "GlacierCamp" 40 8 5 := ⟨R_Camp, T_Camp, 7, rfl, by decide, Or.inl (gm_1 (List.mem_of_getElem? (i := 193) rfl) rfl), cw_Camp⟩
theorem f_Camp_40_p : FPk "GlacierCamp" 40 8 5 (ty_Camp 5) := ⟨R_Camp, T_Camp, 7, ty_Camp, rfl, by decide, Or.inl (gm_1 (List.mem_of_getElem? (i := 193) rfl) rfl), cw_Camp, ty_Camp_ok, nm_Camp, ty_Camp_ok 5 (by decide), rfl⟩
theorem f_Camp_43 : FLk "GlacierCamp" 43 8 6 := ⟨R_Camp, T_Camp, 7, rfl, by decide, Or.inl (gm_1 (List.mem_of_getElem? (i := 194) rfl) rfl), cw_Camp⟩
theorem f_Camp_43_p : FPk "GlacierCamp" 43 8 6 (ty_Camp 6) := ⟨R_Camp, T_Camp, 7, ty_Camp, rfl, by decide, Or.inl (gm_1 (List.mem_of_getElem? (i := 194) rfl) rfl), cw_Camp, ty_Camp_ok, nm_Camp, ty_Camp_ok 6 (by decide), rfl⟩
theorem f_Names_9 : FLk "GlacierCamp$Names" 9 2 0 := ⟨R_Names, T_Names, 2, rfl, by decide, Or.inl (gm_2 (List.mem_of_getElem? (i := 106) rfl) rfl), cw_Names⟩
theorem f_Names_9_p : FPk "GlacierCamp$Names" 9 2 0 (ty_Names 0) := ⟨R_Names, T_Names, 2, ty_Names, rfl, by decide, Or.inl (gm_2 (List.mem_of_getElem? (i := 106) rfl) rfl), cw_Names, ty_Names_ok, nm_Names, ty_Names_ok 0 (by decide), rfl⟩
theorem f_Names_15 : FLk "GlacierCamp$Names" 15 2 1 := ⟨R_Names, T_Names, 2, rfl, by decide, Or.inl (gm_2 (List.mem_of_getElem? (i := 107) rfl) rfl), cw_Names⟩
theorem f_Names_15_p : FPk "GlacierCamp$Names" 15 2 1 (ty_Names 1) := ⟨R_Names, T_Names, 2, ty_Names, rfl, by decide, Or.inl (gm_2 (List.mem_of_getElem? (i := 107) rfl) rfl), cw_Names, ty_Names_ok, nm_Names, ty_Names_ok 1 (by decide), rfl⟩
theorem f_Teacher_34 : FLk "GlacierCamp$Teacher" 34 6 0 := ⟨R_Teacher, T_Teacher, 11, rfl, by decide, Or.inl (gm_2 (List.mem_of_getElem? (i := 113) rfl) rfl), cw_Teacher⟩
theorem f_Teacher_34_p : FPk "GlacierCamp$Teacher" 34 6 0 (ty_Teacher 0) := ⟨R_Teacher, T_Teacher, 11, ty_Teacher, rfl, by decide, Or.inl (gm_2 (List.mem_of_getElem? (i := 113) rfl) rfl), cw_Teacher, ty_Teacher_ok, nm_Teacher, ty_Teacher_ok 0 (by decide), rfl⟩
theorem f_Teacher_38 : FLk "GlacierCamp$Teacher" 38 6 1 := ⟨R_Teacher, T_Teacher, 11, rfl, by decide, Or.inl (gm_2 (List.mem_of_getElem? (i := 114) rfl) rfl), cw_Teacher⟩
theorem f_Teacher_38_p : FPk "GlacierCamp$Teacher" 38 6 1 (ty_Teacher 1) := ⟨R_Teacher, T_Teacher, 11, ty_Teacher, rfl, by decide, Or.inl (gm_2 (List.mem_of_getElem? (i := 114) rfl) rfl), cw_Teacher, ty_Teacher_ok, nm_Teacher, ty_Teacher_ok 1 (by decide), rfl⟩
theorem f_Teacher_42 : FLk "GlacierCamp$Teacher" 42 6 2 := ⟨R_Teacher, T_Teacher, 11, rfl, by decide, Or.inl (gm_2 (List.mem_of_getElem? (i := 115) rfl) rfl), cw_Teacher⟩
theorem f_Teacher_42_p : FPk "GlacierCamp$Teacher" 42 6 2 (ty_Teacher 2) := ⟨R_Teacher, T_Teacher, 11, ty_Teacher, rfl, by decide, Or.inl (gm_2 (List.mem_of_getElem? (i := 115) rfl) rfl), cw_Teacher, ty_Teacher_ok, nm_Teacher, ty_Teacher_ok 2 (by decide), rfl⟩
theorem f_Teacher_52 : FLk "GlacierCamp$Teacher" 52 6 3 := ⟨R_Teacher, T_Teacher, 11, rfl, by decide, Or.inl (gm_2 (List.mem_of_getElem? (i := 116) rfl) rfl), cw_Teacher⟩
theorem f_Teacher_52_p : FPk "GlacierCamp$Teacher" 52 6 3 (ty_Teacher 3) := ⟨R_Teacher, T_Teacher, 11, ty_Teacher, rfl, by decide, Or.inl (gm_2 (List.mem_of_getElem? (i := 116) rfl) rfl), cw_Teacher, ty_Teacher_ok, nm_Teacher, ty_Teacher_ok 3 (by decide), rfl⟩
theorem f_Teacher_12 : FLk "GlacierCamp$Teacher" 12 6 4 := ⟨R_Teacher, T_Teacher, 11, rfl, by decide, Or.inl (gm_2 (List.mem_of_getElem? (i := 117) rfl) rfl), cw_Teacher⟩
theorem f_Teacher_12_p : FPk "GlacierCamp$Teacher" 12 6 4 (ty_Teacher 4) := ⟨R_Teacher, T_Teacher, 11, ty_Teacher, rfl, by decide, Or.inl (gm_2 (List.mem_of_getElem? (i := 117) rfl) rfl), cw_Teacher, ty_Teacher_ok, nm_Teacher, ty_Teacher_ok 4 (by decide), rfl⟩
theorem f_Teacher_18 : FLk "GlacierCamp$Teacher" 18 6 5 := ⟨R_Teacher, T_Teacher, 11, rfl, by decide, Or.inl (gm_2 (List.mem_of_getElem? (i := 118) rfl) rfl), cw_Teacher⟩
theorem f_Teacher_18_p : FPk "GlacierCamp$Teacher" 18 6 5 (ty_Teacher 5) := ⟨R_Teacher, T_Teacher, 11, ty_Teacher, rfl, by decide, Or.inl (gm_2 (List.mem_of_getElem? (i := 118) rfl) rfl), cw_Teacher, ty_Teacher_ok, nm_Teacher, ty_Teacher_ok 5 (by decide), rfl⟩
theorem f_Teacher_21 : FLk "GlacierCamp$Teacher" 21 6 6 := ⟨R_Teacher, T_Teacher, 11, rfl, by decide, Or.inl (gm_2 (List.mem_of_getElem? (i := 119) rfl) rfl), cw_Teacher⟩
theorem f_Teacher_21_p : FPk "GlacierCamp$Teacher" 21 6 6 (ty_Teacher 6) := ⟨R_Teacher, T_Teacher, 11, ty_Teacher, rfl, by decide, Or.inl (gm_2 (List.mem_of_getElem? (i := 119) rfl) rfl), cw_Teacher, ty_Teacher_ok, nm_Teacher, ty_Teacher_ok 6 (by decide), rfl⟩
theorem f_Teacher_24 : FLk "GlacierCamp$Teacher" 24 6 7 := ⟨R_Teacher, T_Teacher, 11, rfl, by decide, Or.inl (gm_2 (List.mem_of_getElem? (i := 120) rfl) rfl), cw_Teacher⟩
theorem f_Teacher_24_p : FPk "GlacierCamp$Teacher" 24 6 7 (ty_Teacher 7) := ⟨R_Teacher, T_Teacher, 11, ty_Teacher, rfl, by decide, Or.inl (gm_2 (List.mem_of_getElem? (i := 120) rfl) rfl), cw_Teacher, ty_Teacher_ok, nm_Teacher, ty_Teacher_ok 7 (by decide), rfl⟩
theorem f_Teacher_27 : FLk "GlacierCamp$Teacher" 27 6 8 := ⟨R_Teacher, T_Teacher, 11, rfl, by decide, Or.inl (gm_2 (List.mem_of_getElem? (i := 121) rfl) rfl), cw_Teacher⟩
theorem f_Teacher_27_p : FPk "GlacierCamp$Teacher" 27 6 8 (ty_Teacher 8) := ⟨R_Teacher, T_Teacher, 11, ty_Teacher, rfl, by decide, Or.inl (gm_2 (List.mem_of_getElem? (i := 121) rfl) rfl), cw_Teacher, ty_Teacher_ok, nm_Teacher, ty_Teacher_ok 8 (by decide), rfl⟩
theorem f_Teacher_59 : FLk "GlacierCamp$Teacher" 59 6 9 := ⟨R_Teacher, T_Teacher, 11, rfl, by decide, Or.inl (gm_2 (List.mem_of_getElem? (i := 122) rfl) rfl), cw_Teacher⟩
theorem f_Teacher_59_p : FPk "GlacierCamp$Teacher" 59 6 9 (ty_Teacher 9) := ⟨R_Teacher, T_Teacher, 11, ty_Teacher, rfl, by decide, Or.inl (gm_2 (List.mem_of_getElem? (i := 122) rfl) rfl), cw_Teacher, ty_Teacher_ok, nm_Teacher, ty_Teacher_ok 9 (by decide), rfl⟩
theorem f_Teacher_30 : FLk "GlacierCamp$Teacher" 30 6 10 := ⟨R_Teacher, T_Teacher, 11, rfl, by decide, Or.inl (gm_2 (List.mem_of_getElem? (i := 123) rfl) rfl), cw_Teacher⟩
theorem f_Teacher_30_p : FPk "GlacierCamp$Teacher" 30 6 10 (ty_Teacher 10) := ⟨R_Teacher, T_Teacher, 11, ty_Teacher, rfl, by decide, Or.inl (gm_2 (List.mem_of_getElem? (i := 123) rfl) rfl), cw_Teacher, ty_Teacher_ok, nm_Teacher, ty_Teacher_ok 10 (by decide), rfl⟩
theorem f_Sheet_9 : FLk "GlacierCampModel$Sheet" 9 9 0 := ⟨R_Sheet, T_Sheet, 26, rfl, by decide, Or.inl (gm_5 (List.mem_of_getElem? (i := 203) rfl) rfl), cw_Sheet⟩
theorem f_Sheet_9_p : FPk "GlacierCampModel$Sheet" 9 9 0 (ty_Sheet 0) := ⟨R_Sheet, T_Sheet, 26, ty_Sheet, rfl, by decide, Or.inl (gm_5 (List.mem_of_getElem? (i := 203) rfl) rfl), cw_Sheet, ty_Sheet_ok, nm_Sheet, ty_Sheet_ok 0 (by decide), rfl⟩
theorem f_Sheet_15 : FLk "GlacierCampModel$Sheet" 15 9 1 := ⟨R_Sheet, T_Sheet, 26, rfl, by decide, Or.inl (gm_5 (List.mem_of_getElem? (i := 205) rfl) rfl), cw_Sheet⟩
theorem f_Sheet_15_p : FPk "GlacierCampModel$Sheet" 15 9 1 (ty_Sheet 1) := ⟨R_Sheet, T_Sheet, 26, ty_Sheet, rfl, by decide, Or.inl (gm_5 (List.mem_of_getElem? (i := 205) rfl) rfl), cw_Sheet, ty_Sheet_ok, nm_Sheet, ty_Sheet_ok 1 (by decide), rfl⟩
theorem f_Sheet_18 : FLk "GlacierCampModel$Sheet" 18 9 2 := ⟨R_Sheet, T_Sheet, 26, rfl, by decide, Or.inl (gm_5 (List.mem_of_getElem? (i := 207) rfl) rfl), cw_Sheet⟩
theorem f_Sheet_18_p : FPk "GlacierCampModel$Sheet" 18 9 2 (ty_Sheet 2) := ⟨R_Sheet, T_Sheet, 26, ty_Sheet, rfl, by decide, Or.inl (gm_5 (List.mem_of_getElem? (i := 207) rfl) rfl), cw_Sheet, ty_Sheet_ok, nm_Sheet, ty_Sheet_ok 2 (by decide), rfl⟩
theorem f_Sheet_21 : FLk "GlacierCampModel$Sheet" 21 9 3 := ⟨R_Sheet, T_Sheet, 26, rfl, by decide, Or.inl (gm_5 (List.mem_of_getElem? (i := 209) rfl) rfl), cw_Sheet⟩
theorem f_Sheet_21_p : FPk "GlacierCampModel$Sheet" 21 9 3 (ty_Sheet 3) := ⟨R_Sheet, T_Sheet, 26, ty_Sheet, rfl, by decide, Or.inl (gm_5 (List.mem_of_getElem? (i := 209) rfl) rfl), cw_Sheet, ty_Sheet_ok, nm_Sheet, ty_Sheet_ok 3 (by decide), rfl⟩
theorem f_Sheet_24 : FLk "GlacierCampModel$Sheet" 24 9 4 := ⟨R_Sheet, T_Sheet, 26, rfl, by decide, Or.inl (gm_5 (List.mem_of_getElem? (i := 211) rfl) rfl), cw_Sheet⟩
theorem f_Sheet_24_p : FPk "GlacierCampModel$Sheet" 24 9 4 (ty_Sheet 4) := ⟨R_Sheet, T_Sheet, 26, ty_Sheet, rfl, by decide, Or.inl (gm_5 (List.mem_of_getElem? (i := 211) rfl) rfl), cw_Sheet, ty_Sheet_ok, nm_Sheet, ty_Sheet_ok 4 (by decide), rfl⟩
theorem f_Sheet_27 : FLk "GlacierCampModel$Sheet" 27 9 5 := ⟨R_Sheet, T_Sheet, 26, rfl, by decide, Or.inl (gm_5 (List.mem_of_getElem? (i := 213) rfl) rfl), cw_Sheet⟩
theorem f_Sheet_27_p : FPk "GlacierCampModel$Sheet" 27 9 5 (ty_Sheet 5) := ⟨R_Sheet, T_Sheet, 26, ty_Sheet, rfl, by decide, Or.inl (gm_5 (List.mem_of_getElem? (i := 213) rfl) rfl), cw_Sheet, ty_Sheet_ok, nm_Sheet, ty_Sheet_ok 5 (by decide), rfl⟩
theorem f_Sheet_30 : FLk "GlacierCampModel$Sheet" 30 9 7 := ⟨R_Sheet, T_Sheet, 26, rfl, by decide, Or.inl (gm_5 (List.mem_of_getElem? (i := 216) rfl) rfl), cw_Sheet⟩
theorem f_Sheet_30_p : FPk "GlacierCampModel$Sheet" 30 9 7 (ty_Sheet 7) := ⟨R_Sheet, T_Sheet, 26, ty_Sheet, rfl, by decide, Or.inl (gm_5 (List.mem_of_getElem? (i := 216) rfl) rfl), cw_Sheet, ty_Sheet_ok, nm_Sheet, ty_Sheet_ok 7 (by decide), rfl⟩
theorem f_Sheet_33 : FLk "GlacierCampModel$Sheet" 33 9 8 := ⟨R_Sheet, T_Sheet, 26, rfl, by decide, Or.inl (gm_5 (List.mem_of_getElem? (i := 218) rfl) rfl), cw_Sheet⟩
theorem f_Sheet_33_p : FPk "GlacierCampModel$Sheet" 33 9 8 (ty_Sheet 8) := ⟨R_Sheet, T_Sheet, 26, ty_Sheet, rfl, by decide, Or.inl (gm_5 (List.mem_of_getElem? (i := 218) rfl) rfl), cw_Sheet, ty_Sheet_ok, nm_Sheet, ty_Sheet_ok 8 (by decide), rfl⟩
theorem f_Sheet_36 : FLk "GlacierCampModel$Sheet" 36 9 9 := ⟨R_Sheet, T_Sheet, 26, rfl, by decide, Or.inl (gm_5 (List.mem_of_getElem? (i := 220) rfl) rfl), cw_Sheet⟩
theorem f_Sheet_36_p : FPk "GlacierCampModel$Sheet" 36 9 9 (ty_Sheet 9) := ⟨R_Sheet, T_Sheet, 26, ty_Sheet, rfl, by decide, Or.inl (gm_5 (List.mem_of_getElem? (i := 220) rfl) rfl), cw_Sheet, ty_Sheet_ok, nm_Sheet, ty_Sheet_ok 9 (by decide), rfl⟩
theorem f_Sheet_39 : FLk "GlacierCampModel$Sheet" 39 9 10 := ⟨R_Sheet, T_Sheet, 26, rfl, by decide, Or.inl (gm_5 (List.mem_of_getElem? (i := 222) rfl) rfl), cw_Sheet⟩
theorem f_Sheet_39_p : FPk "GlacierCampModel$Sheet" 39 9 10 (ty_Sheet 10) := ⟨R_Sheet, T_Sheet, 26, ty_Sheet, rfl, by decide, Or.inl (gm_5 (List.mem_of_getElem? (i := 222) rfl) rfl), cw_Sheet, ty_Sheet_ok, nm_Sheet, ty_Sheet_ok 10 (by decide), rfl⟩
theorem f_Sheet_42 : FLk "GlacierCampModel$Sheet" 42 9 11 := ⟨R_Sheet, T_Sheet, 26, rfl, by decide, Or.inl (gm_5 (List.mem_of_getElem? (i := 224) rfl) rfl), cw_Sheet⟩
theorem f_Sheet_42_p : FPk "GlacierCampModel$Sheet" 42 9 11 (ty_Sheet 11) := ⟨R_Sheet, T_Sheet, 26, ty_Sheet, rfl, by decide, Or.inl (gm_5 (List.mem_of_getElem? (i := 224) rfl) rfl), cw_Sheet, ty_Sheet_ok, nm_Sheet, ty_Sheet_ok 11 (by decide), rfl⟩
theorem f_Sheet_45 : FLk "GlacierCampModel$Sheet" 45 9 12 := ⟨R_Sheet, T_Sheet, 26, rfl, by decide, Or.inl (gm_5 (List.mem_of_getElem? (i := 226) rfl) rfl), cw_Sheet⟩
theorem f_Sheet_45_p : FPk "GlacierCampModel$Sheet" 45 9 12 (ty_Sheet 12) := ⟨R_Sheet, T_Sheet, 26, ty_Sheet, rfl, by decide, Or.inl (gm_5 (List.mem_of_getElem? (i := 226) rfl) rfl), cw_Sheet, ty_Sheet_ok, nm_Sheet, ty_Sheet_ok 12 (by decide), rfl⟩
theorem f_Sheet_48 : FLk "GlacierCampModel$Sheet" 48 9 13 := ⟨R_Sheet, T_Sheet, 26, rfl, by decide, Or.inl (gm_5 (List.mem_of_getElem? (i := 228) rfl) rfl), cw_Sheet⟩
theorem f_Sheet_48_p : FPk "GlacierCampModel$Sheet" 48 9 13 (ty_Sheet 13) := ⟨R_Sheet, T_Sheet, 26, ty_Sheet, rfl, by decide, Or.inl (gm_5 (List.mem_of_getElem? (i := 228) rfl) rfl), cw_Sheet, ty_Sheet_ok, nm_Sheet, ty_Sheet_ok 13 (by decide), rfl⟩
theorem f_Sheet_51 : FLk "GlacierCampModel$Sheet" 51 9 14 := ⟨R_Sheet, T_Sheet, 26, rfl, by decide, Or.inl (gm_5 (List.mem_of_getElem? (i := 230) rfl) rfl), cw_Sheet⟩
theorem f_Sheet_51_p : FPk "GlacierCampModel$Sheet" 51 9 14 (ty_Sheet 14) := ⟨R_Sheet, T_Sheet, 26, ty_Sheet, rfl, by decide, Or.inl (gm_5 (List.mem_of_getElem? (i := 230) rfl) rfl), cw_Sheet, ty_Sheet_ok, nm_Sheet, ty_Sheet_ok 14 (by decide), rfl⟩
theorem f_Sheet_54 : FLk "GlacierCampModel$Sheet" 54 9 15 := ⟨R_Sheet, T_Sheet, 26, rfl, by decide, Or.inl (gm_5 (List.mem_of_getElem? (i := 232) rfl) rfl), cw_Sheet⟩
theorem f_Sheet_54_p : FPk "GlacierCampModel$Sheet" 54 9 15 (ty_Sheet 15) := ⟨R_Sheet, T_Sheet, 26, ty_Sheet, rfl, by decide, Or.inl (gm_5 (List.mem_of_getElem? (i := 232) rfl) rfl), cw_Sheet, ty_Sheet_ok, nm_Sheet, ty_Sheet_ok 15 (by decide), rfl⟩
theorem f_Sheet_57 : FLk "GlacierCampModel$Sheet" 57 9 16 := ⟨R_Sheet, T_Sheet, 26, rfl, by decide, Or.inl (gm_5 (List.mem_of_getElem? (i := 234) rfl) rfl), cw_Sheet⟩
theorem f_Sheet_57_p : FPk "GlacierCampModel$Sheet" 57 9 16 (ty_Sheet 16) := ⟨R_Sheet, T_Sheet, 26, ty_Sheet, rfl, by decide, Or.inl (gm_5 (List.mem_of_getElem? (i := 234) rfl) rfl), cw_Sheet, ty_Sheet_ok, nm_Sheet, ty_Sheet_ok 16 (by decide), rfl⟩
theorem f_Sheet_60 : FLk "GlacierCampModel$Sheet" 60 9 17 := ⟨R_Sheet, T_Sheet, 26, rfl, by decide, Or.inl (gm_5 (List.mem_of_getElem? (i := 236) rfl) rfl), cw_Sheet⟩
theorem f_Sheet_60_p : FPk "GlacierCampModel$Sheet" 60 9 17 (ty_Sheet 17) := ⟨R_Sheet, T_Sheet, 26, ty_Sheet, rfl, by decide, Or.inl (gm_5 (List.mem_of_getElem? (i := 236) rfl) rfl), cw_Sheet, ty_Sheet_ok, nm_Sheet, ty_Sheet_ok 17 (by decide), rfl⟩
theorem f_Sheet_63 : FLk "GlacierCampModel$Sheet" 63 9 18 := ⟨R_Sheet, T_Sheet, 26, rfl, by decide, Or.inl (gm_5 (List.mem_of_getElem? (i := 238) rfl) rfl), cw_Sheet⟩
theorem f_Sheet_63_p : FPk "GlacierCampModel$Sheet" 63 9 18 (ty_Sheet 18) := ⟨R_Sheet, T_Sheet, 26, ty_Sheet, rfl, by decide, Or.inl (gm_5 (List.mem_of_getElem? (i := 238) rfl) rfl), cw_Sheet, ty_Sheet_ok, nm_Sheet, ty_Sheet_ok 18 (by decide), rfl⟩
theorem f_Sheet_66 : FLk "GlacierCampModel$Sheet" 66 9 21 := ⟨R_Sheet, T_Sheet, 26, rfl, by decide, Or.inl (gm_6 (List.mem_of_getElem? (i := 2) rfl) rfl), cw_Sheet⟩
theorem f_Sheet_66_p : FPk "GlacierCampModel$Sheet" 66 9 21 (ty_Sheet 21) := ⟨R_Sheet, T_Sheet, 26, ty_Sheet, rfl, by decide, Or.inl (gm_6 (List.mem_of_getElem? (i := 2) rfl) rfl), cw_Sheet, ty_Sheet_ok, nm_Sheet, ty_Sheet_ok 21 (by decide), rfl⟩
theorem f_Sheet_69 : FLk "GlacierCampModel$Sheet" 69 9 22 := ⟨R_Sheet, T_Sheet, 26, rfl, by decide, Or.inl (gm_6 (List.mem_of_getElem? (i := 4) rfl) rfl), cw_Sheet⟩
theorem f_Sheet_69_p : FPk "GlacierCampModel$Sheet" 69 9 22 (ty_Sheet 22) := ⟨R_Sheet, T_Sheet, 26, ty_Sheet, rfl, by decide, Or.inl (gm_6 (List.mem_of_getElem? (i := 4) rfl) rfl), cw_Sheet, ty_Sheet_ok, nm_Sheet, ty_Sheet_ok 22 (by decide), rfl⟩
theorem f_Sheet_72 : FLk "GlacierCampModel$Sheet" 72 9 23 := ⟨R_Sheet, T_Sheet, 26, rfl, by decide, Or.inl (gm_6 (List.mem_of_getElem? (i := 6) rfl) rfl), cw_Sheet⟩
theorem f_Sheet_72_p : FPk "GlacierCampModel$Sheet" 72 9 23 (ty_Sheet 23) := ⟨R_Sheet, T_Sheet, 26, ty_Sheet, rfl, by decide, Or.inl (gm_6 (List.mem_of_getElem? (i := 6) rfl) rfl), cw_Sheet, ty_Sheet_ok, nm_Sheet, ty_Sheet_ok 23 (by decide), rfl⟩
theorem f_Sheet_75 : FLk "GlacierCampModel$Sheet" 75 9 24 := ⟨R_Sheet, T_Sheet, 26, rfl, by decide, Or.inl (gm_6 (List.mem_of_getElem? (i := 8) rfl) rfl), cw_Sheet⟩
theorem f_Sheet_75_p : FPk "GlacierCampModel$Sheet" 75 9 24 (ty_Sheet 24) := ⟨R_Sheet, T_Sheet, 26, ty_Sheet, rfl, by decide, Or.inl (gm_6 (List.mem_of_getElem? (i := 8) rfl) rfl), cw_Sheet, ty_Sheet_ok, nm_Sheet, ty_Sheet_ok 24 (by decide), rfl⟩
theorem f_Sheet_78 : FLk "GlacierCampModel$Sheet" 78 9 25 := ⟨R_Sheet, T_Sheet, 26, rfl, by decide, Or.inl (gm_6 (List.mem_of_getElem? (i := 10) rfl) rfl), cw_Sheet⟩
theorem f_Sheet_78_p : FPk "GlacierCampModel$Sheet" 78 9 25 (ty_Sheet 25) := ⟨R_Sheet, T_Sheet, 26, ty_Sheet, rfl, by decide, Or.inl (gm_6 (List.mem_of_getElem? (i := 10) rfl) rfl), cw_Sheet, ty_Sheet_ok, nm_Sheet, ty_Sheet_ok 25 (by decide), rfl⟩
theorem f_State_78 : FLk "GlacierCampModel$State" 78 10 0 := ⟨R_State, T_State, 24, rfl, by decide, Or.inl (gm_6 (List.mem_of_getElem? (i := 71) rfl) rfl), cw_State⟩
theorem f_State_78_p : FPk "GlacierCampModel$State" 78 10 0 (ty_State 0) := ⟨R_State, T_State, 24, ty_State, rfl, by decide, Or.inl (gm_6 (List.mem_of_getElem? (i := 71) rfl) rfl), cw_State, ty_State_ok, nm_State, ty_State_ok 0 (by decide), rfl⟩
theorem f_State_82 : FLk "GlacierCampModel$State" 82 10 1 := ⟨R_State, T_State, 24, rfl, by decide, Or.inl (gm_6 (List.mem_of_getElem? (i := 73) rfl) rfl), cw_State⟩
theorem f_State_82_p : FPk "GlacierCampModel$State" 82 10 1 (ty_State 1) := ⟨R_State, T_State, 24, ty_State, rfl, by decide, Or.inl (gm_6 (List.mem_of_getElem? (i := 73) rfl) rfl), cw_State, ty_State_ok, nm_State, ty_State_ok 1 (by decide), rfl⟩
theorem f_State_85 : FLk "GlacierCampModel$State" 85 10 2 := ⟨R_State, T_State, 24, rfl, by decide, Or.inl (gm_6 (List.mem_of_getElem? (i := 75) rfl) rfl), cw_State⟩
theorem f_State_85_p : FPk "GlacierCampModel$State" 85 10 2 (ty_State 2) := ⟨R_State, T_State, 24, ty_State, rfl, by decide, Or.inl (gm_6 (List.mem_of_getElem? (i := 75) rfl) rfl), cw_State, ty_State_ok, nm_State, ty_State_ok 2 (by decide), rfl⟩
theorem f_State_88 : FLk "GlacierCampModel$State" 88 10 3 := ⟨R_State, T_State, 24, rfl, by decide, Or.inl (gm_6 (List.mem_of_getElem? (i := 77) rfl) rfl), cw_State⟩
theorem f_State_88_p : FPk "GlacierCampModel$State" 88 10 3 (ty_State 3) := ⟨R_State, T_State, 24, ty_State, rfl, by decide, Or.inl (gm_6 (List.mem_of_getElem? (i := 77) rfl) rfl), cw_State, ty_State_ok, nm_State, ty_State_ok 3 (by decide), rfl⟩
theorem f_State_9 : FLk "GlacierCampModel$State" 9 10 4 := ⟨R_State, T_State, 24, rfl, by decide, Or.inl (gm_6 (List.mem_of_getElem? (i := 79) rfl) rfl), cw_State⟩
theorem f_State_9_p : FPk "GlacierCampModel$State" 9 10 4 (ty_State 4) := ⟨R_State, T_State, 24, ty_State, rfl, by decide, Or.inl (gm_6 (List.mem_of_getElem? (i := 79) rfl) rfl), cw_State, ty_State_ok, nm_State, ty_State_ok 4 (by decide), rfl⟩
theorem f_State_15 : FLk "GlacierCampModel$State" 15 10 5 := ⟨R_State, T_State, 24, rfl, by decide, Or.inl (gm_6 (List.mem_of_getElem? (i := 81) rfl) rfl), cw_State⟩
theorem f_State_15_p : FPk "GlacierCampModel$State" 15 10 5 (ty_State 5) := ⟨R_State, T_State, 24, ty_State, rfl, by decide, Or.inl (gm_6 (List.mem_of_getElem? (i := 81) rfl) rfl), cw_State, ty_State_ok, nm_State, ty_State_ok 5 (by decide), rfl⟩
theorem f_State_18 : FLk "GlacierCampModel$State" 18 10 6 := ⟨R_State, T_State, 24, rfl, by decide, Or.inl (gm_6 (List.mem_of_getElem? (i := 83) rfl) rfl), cw_State⟩
theorem f_State_18_p : FPk "GlacierCampModel$State" 18 10 6 (ty_State 6) := ⟨R_State, T_State, 24, ty_State, rfl, by decide, Or.inl (gm_6 (List.mem_of_getElem? (i := 83) rfl) rfl), cw_State, ty_State_ok, nm_State, ty_State_ok 6 (by decide), rfl⟩
theorem f_State_21 : FLk "GlacierCampModel$State" 21 10 7 := ⟨R_State, T_State, 24, rfl, by decide, Or.inl (gm_6 (List.mem_of_getElem? (i := 85) rfl) rfl), cw_State⟩
theorem f_State_21_p : FPk "GlacierCampModel$State" 21 10 7 (ty_State 7) := ⟨R_State, T_State, 24, ty_State, rfl, by decide, Or.inl (gm_6 (List.mem_of_getElem? (i := 85) rfl) rfl), cw_State, ty_State_ok, nm_State, ty_State_ok 7 (by decide), rfl⟩
theorem f_State_24 : FLk "GlacierCampModel$State" 24 10 8 := ⟨R_State, T_State, 24, rfl, by decide, Or.inl (gm_6 (List.mem_of_getElem? (i := 87) rfl) rfl), cw_State⟩
theorem f_State_24_p : FPk "GlacierCampModel$State" 24 10 8 (ty_State 8) := ⟨R_State, T_State, 24, ty_State, rfl, by decide, Or.inl (gm_6 (List.mem_of_getElem? (i := 87) rfl) rfl), cw_State, ty_State_ok, nm_State, ty_State_ok 8 (by decide), rfl⟩
theorem f_State_27 : FLk "GlacierCampModel$State" 27 10 9 := ⟨R_State, T_State, 24, rfl, by decide, Or.inl (gm_6 (List.mem_of_getElem? (i := 89) rfl) rfl), cw_State⟩
theorem f_State_27_p : FPk "GlacierCampModel$State" 27 10 9 (ty_State 9) := ⟨R_State, T_State, 24, ty_State, rfl, by decide, Or.inl (gm_6 (List.mem_of_getElem? (i := 89) rfl) rfl), cw_State, ty_State_ok, nm_State, ty_State_ok 9 (by decide), rfl⟩
theorem f_State_30 : FLk "GlacierCampModel$State" 30 10 10 := ⟨R_State, T_State, 24, rfl, by decide, Or.inl (gm_6 (List.mem_of_getElem? (i := 91) rfl) rfl), cw_State⟩
theorem f_State_30_p : FPk "GlacierCampModel$State" 30 10 10 (ty_State 10) := ⟨R_State, T_State, 24, ty_State, rfl, by decide, Or.inl (gm_6 (List.mem_of_getElem? (i := 91) rfl) rfl), cw_State, ty_State_ok, nm_State, ty_State_ok 10 (by decide), rfl⟩
theorem f_State_33 : FLk "GlacierCampModel$State" 33 10 11 := ⟨R_State, T_State, 24, rfl, by decide, Or.inl (gm_6 (List.mem_of_getElem? (i := 93) rfl) rfl), cw_State⟩
theorem f_State_33_p : FPk "GlacierCampModel$State" 33 10 11 (ty_State 11) := ⟨R_State, T_State, 24, ty_State, rfl, by decide, Or.inl (gm_6 (List.mem_of_getElem? (i := 93) rfl) rfl), cw_State, ty_State_ok, nm_State, ty_State_ok 11 (by decide), rfl⟩
theorem f_State_36 : FLk "GlacierCampModel$State" 36 10 12 := ⟨R_State, T_State, 24, rfl, by decide, Or.inl (gm_6 (List.mem_of_getElem? (i := 95) rfl) rfl), cw_State⟩
theorem f_State_36_p : FPk "GlacierCampModel$State" 36 10 12 (ty_State 12) := ⟨R_State, T_State, 24, ty_State, rfl, by decide, Or.inl (gm_6 (List.mem_of_getElem? (i := 95) rfl) rfl), cw_State, ty_State_ok, nm_State, ty_State_ok 12 (by decide), rfl⟩
theorem f_State_39 : FLk "GlacierCampModel$State" 39 10 13 := ⟨R_State, T_State, 24, rfl, by decide, Or.inl (gm_6 (List.mem_of_getElem? (i := 97) rfl) rfl), cw_State⟩
theorem f_State_39_p : FPk "GlacierCampModel$State" 39 10 13 (ty_State 13) := ⟨R_State, T_State, 24, ty_State, rfl, by decide, Or.inl (gm_6 (List.mem_of_getElem? (i := 97) rfl) rfl), cw_State, ty_State_ok, nm_State, ty_State_ok 13 (by decide), rfl⟩
theorem f_State_42 : FLk "GlacierCampModel$State" 42 10 14 := ⟨R_State, T_State, 24, rfl, by decide, Or.inl (gm_6 (List.mem_of_getElem? (i := 99) rfl) rfl), cw_State⟩
theorem f_State_42_p : FPk "GlacierCampModel$State" 42 10 14 (ty_State 14) := ⟨R_State, T_State, 24, ty_State, rfl, by decide, Or.inl (gm_6 (List.mem_of_getElem? (i := 99) rfl) rfl), cw_State, ty_State_ok, nm_State, ty_State_ok 14 (by decide), rfl⟩
theorem f_State_45 : FLk "GlacierCampModel$State" 45 10 15 := ⟨R_State, T_State, 24, rfl, by decide, Or.inl (gm_6 (List.mem_of_getElem? (i := 101) rfl) rfl), cw_State⟩
theorem f_State_45_p : FPk "GlacierCampModel$State" 45 10 15 (ty_State 15) := ⟨R_State, T_State, 24, ty_State, rfl, by decide, Or.inl (gm_6 (List.mem_of_getElem? (i := 101) rfl) rfl), cw_State, ty_State_ok, nm_State, ty_State_ok 15 (by decide), rfl⟩
theorem f_State_48 : FLk "GlacierCampModel$State" 48 10 16 := ⟨R_State, T_State, 24, rfl, by decide, Or.inl (gm_6 (List.mem_of_getElem? (i := 103) rfl) rfl), cw_State⟩
theorem f_State_48_p : FPk "GlacierCampModel$State" 48 10 16 (ty_State 16) := ⟨R_State, T_State, 24, ty_State, rfl, by decide, Or.inl (gm_6 (List.mem_of_getElem? (i := 103) rfl) rfl), cw_State, ty_State_ok, nm_State, ty_State_ok 16 (by decide), rfl⟩
theorem f_State_51 : FLk "GlacierCampModel$State" 51 10 17 := ⟨R_State, T_State, 24, rfl, by decide, Or.inl (gm_6 (List.mem_of_getElem? (i := 105) rfl) rfl), cw_State⟩
theorem f_State_51_p : FPk "GlacierCampModel$State" 51 10 17 (ty_State 17) := ⟨R_State, T_State, 24, ty_State, rfl, by decide, Or.inl (gm_6 (List.mem_of_getElem? (i := 105) rfl) rfl), cw_State, ty_State_ok, nm_State, ty_State_ok 17 (by decide), rfl⟩
theorem f_State_54 : FLk "GlacierCampModel$State" 54 10 18 := ⟨R_State, T_State, 24, rfl, by decide, Or.inl (gm_6 (List.mem_of_getElem? (i := 107) rfl) rfl), cw_State⟩
theorem f_State_54_p : FPk "GlacierCampModel$State" 54 10 18 (ty_State 18) := ⟨R_State, T_State, 24, ty_State, rfl, by decide, Or.inl (gm_6 (List.mem_of_getElem? (i := 107) rfl) rfl), cw_State, ty_State_ok, nm_State, ty_State_ok 18 (by decide), rfl⟩
theorem f_State_57 : FLk "GlacierCampModel$State" 57 10 19 := ⟨R_State, T_State, 24, rfl, by decide, Or.inl (gm_6 (List.mem_of_getElem? (i := 109) rfl) rfl), cw_State⟩
theorem f_State_57_p : FPk "GlacierCampModel$State" 57 10 19 (ty_State 19) := ⟨R_State, T_State, 24, ty_State, rfl, by decide, Or.inl (gm_6 (List.mem_of_getElem? (i := 109) rfl) rfl), cw_State, ty_State_ok, nm_State, ty_State_ok 19 (by decide), rfl⟩
theorem f_State_60 : FLk "GlacierCampModel$State" 60 10 20 := ⟨R_State, T_State, 24, rfl, by decide, Or.inl (gm_6 (List.mem_of_getElem? (i := 111) rfl) rfl), cw_State⟩
theorem f_State_60_p : FPk "GlacierCampModel$State" 60 10 20 (ty_State 20) := ⟨R_State, T_State, 24, ty_State, rfl, by decide, Or.inl (gm_6 (List.mem_of_getElem? (i := 111) rfl) rfl), cw_State, ty_State_ok, nm_State, ty_State_ok 20 (by decide), rfl⟩
theorem f_State_63 : FLk "GlacierCampModel$State" 63 10 21 := ⟨R_State, T_State, 24, rfl, by decide, Or.inl (gm_6 (List.mem_of_getElem? (i := 113) rfl) rfl), cw_State⟩
theorem f_State_63_p : FPk "GlacierCampModel$State" 63 10 21 (ty_State 21) := ⟨R_State, T_State, 24, ty_State, rfl, by decide, Or.inl (gm_6 (List.mem_of_getElem? (i := 113) rfl) rfl), cw_State, ty_State_ok, nm_State, ty_State_ok 21 (by decide), rfl⟩
theorem f_State_66 : FLk "GlacierCampModel$State" 66 10 22 := ⟨R_State, T_State, 24, rfl, by decide, Or.inl (gm_6 (List.mem_of_getElem? (i := 115) rfl) rfl), cw_State⟩
theorem f_State_66_p : FPk "GlacierCampModel$State" 66 10 22 (ty_State 22) := ⟨R_State, T_State, 24, ty_State, rfl, by decide, Or.inl (gm_6 (List.mem_of_getElem? (i := 115) rfl) rfl), cw_State, ty_State_ok, nm_State, ty_State_ok 22 (by decide), rfl⟩
theorem f_State_69 : FLk "GlacierCampModel$State" 69 10 23 := ⟨R_State, T_State, 24, rfl, by decide, Or.inl (gm_6 (List.mem_of_getElem? (i := 117) rfl) rfl), cw_State⟩
theorem f_State_69_p : FPk "GlacierCampModel$State" 69 10 23 (ty_State 23) := ⟨R_State, T_State, 24, ty_State, rfl, by decide, Or.inl (gm_6 (List.mem_of_getElem? (i := 117) rfl) rfl), cw_State, ty_State_ok, nm_State, ty_State_ok 23 (by decide), rfl⟩
theorem f_Model_37 : FLk "GlacierCampModel" 37 11 0 := ⟨R_Model, T_Model, 11, rfl, by decide, Or.inl (gm_6 (List.mem_of_getElem? (i := 168) rfl) rfl), cw_Model⟩
theorem f_Model_37_p : FPk "GlacierCampModel" 37 11 0 (ty_Model 0) := ⟨R_Model, T_Model, 11, ty_Model, rfl, by decide, Or.inl (gm_6 (List.mem_of_getElem? (i := 168) rfl) rfl), cw_Model, ty_Model_ok, nm_Model, ty_Model_ok 0 (by decide), rfl⟩
theorem f_Model_9 : FLk "GlacierCampModel" 9 11 1 := ⟨R_Model, T_Model, 11, rfl, by decide, Or.inl (gm_6 (List.mem_of_getElem? (i := 169) rfl) rfl), cw_Model⟩
theorem f_Model_9_p : FPk "GlacierCampModel" 9 11 1 (ty_Model 1) := ⟨R_Model, T_Model, 11, ty_Model, rfl, by decide, Or.inl (gm_6 (List.mem_of_getElem? (i := 169) rfl) rfl), cw_Model, ty_Model_ok, nm_Model, ty_Model_ok 1 (by decide), rfl⟩
theorem f_Model_47 : FLk "GlacierCampModel" 47 11 2 := ⟨R_Model, T_Model, 11, rfl, by decide, Or.inl (gm_6 (List.mem_of_getElem? (i := 170) rfl) rfl), cw_Model⟩
theorem f_Model_47_p : FPk "GlacierCampModel" 47 11 2 (ty_Model 2) := ⟨R_Model, T_Model, 11, ty_Model, rfl, by decide, Or.inl (gm_6 (List.mem_of_getElem? (i := 170) rfl) rfl), cw_Model, ty_Model_ok, nm_Model, ty_Model_ok 2 (by decide), rfl⟩
theorem f_Model_13 : FLk "GlacierCampModel" 13 11 3 := ⟨R_Model, T_Model, 11, rfl, by decide, Or.inl (gm_6 (List.mem_of_getElem? (i := 171) rfl) rfl), cw_Model⟩
theorem f_Model_13_p : FPk "GlacierCampModel" 13 11 3 (ty_Model 3) := ⟨R_Model, T_Model, 11, ty_Model, rfl, by decide, Or.inl (gm_6 (List.mem_of_getElem? (i := 171) rfl) rfl), cw_Model, ty_Model_ok, nm_Model, ty_Model_ok 3 (by decide), rfl⟩
theorem f_Model_99 : FLk "GlacierCampModel" 99 11 4 := ⟨R_Model, T_Model, 11, rfl, by decide, Or.inl (gm_6 (List.mem_of_getElem? (i := 172) rfl) rfl), cw_Model⟩
theorem f_Model_99_p : FPk "GlacierCampModel" 99 11 4 (ty_Model 4) := ⟨R_Model, T_Model, 11, ty_Model, rfl, by decide, Or.inl (gm_6 (List.mem_of_getElem? (i := 172) rfl) rfl), cw_Model, ty_Model_ok, nm_Model, ty_Model_ok 4 (by decide), rfl⟩
theorem f_Model_102 : FLk "GlacierCampModel" 102 11 5 := ⟨R_Model, T_Model, 11, rfl, by decide, Or.inl (gm_6 (List.mem_of_getElem? (i := 173) rfl) rfl), cw_Model⟩
theorem f_Model_102_p : FPk "GlacierCampModel" 102 11 5 (ty_Model 5) := ⟨R_Model, T_Model, 11, ty_Model, rfl, by decide, Or.inl (gm_6 (List.mem_of_getElem? (i := 173) rfl) rfl), cw_Model, ty_Model_ok, nm_Model, ty_Model_ok 5 (by decide), rfl⟩
theorem f_Model_20 : FLk "GlacierCampModel" 20 11 6 := ⟨R_Model, T_Model, 11, rfl, by decide, Or.inl (gm_6 (List.mem_of_getElem? (i := 174) rfl) rfl), cw_Model⟩
theorem f_Model_20_p : FPk "GlacierCampModel" 20 11 6 (ty_Model 6) := ⟨R_Model, T_Model, 11, ty_Model, rfl, by decide, Or.inl (gm_6 (List.mem_of_getElem? (i := 174) rfl) rfl), cw_Model, ty_Model_ok, nm_Model, ty_Model_ok 6 (by decide), rfl⟩
theorem f_Model_27 : FLk "GlacierCampModel" 27 11 7 := ⟨R_Model, T_Model, 11, rfl, by decide, Or.inl (gm_6 (List.mem_of_getElem? (i := 175) rfl) rfl), cw_Model⟩
theorem f_Model_27_p : FPk "GlacierCampModel" 27 11 7 (ty_Model 7) := ⟨R_Model, T_Model, 11, ty_Model, rfl, by decide, Or.inl (gm_6 (List.mem_of_getElem? (i := 175) rfl) rfl), cw_Model, ty_Model_ok, nm_Model, ty_Model_ok 7 (by decide), rfl⟩
theorem f_Model_31 : FLk "GlacierCampModel" 31 11 8 := ⟨R_Model, T_Model, 11, rfl, by decide, Or.inl (gm_6 (List.mem_of_getElem? (i := 176) rfl) rfl), cw_Model⟩
theorem f_Model_31_p : FPk "GlacierCampModel" 31 11 8 (ty_Model 8) := ⟨R_Model, T_Model, 11, ty_Model, rfl, by decide, Or.inl (gm_6 (List.mem_of_getElem? (i := 176) rfl) rfl), cw_Model, ty_Model_ok, nm_Model, ty_Model_ok 8 (by decide), rfl⟩
theorem f_Model_261 : FLk "GlacierCampModel" 261 11 9 := ⟨R_Model, T_Model, 11, rfl, by decide, Or.inl (gm_6 (List.mem_of_getElem? (i := 177) rfl) rfl), cw_Model⟩
theorem f_Model_261_p : FPk "GlacierCampModel" 261 11 9 (ty_Model 9) := ⟨R_Model, T_Model, 11, ty_Model, rfl, by decide, Or.inl (gm_6 (List.mem_of_getElem? (i := 177) rfl) rfl), cw_Model, ty_Model_ok, nm_Model, ty_Model_ok 9 (by decide), rfl⟩
theorem f_Model_34 : FLk "GlacierCampModel" 34 11 10 := ⟨R_Model, T_Model, 11, rfl, by decide, Or.inl (gm_6 (List.mem_of_getElem? (i := 178) rfl) rfl), cw_Model⟩
theorem f_Model_34_p : FPk "GlacierCampModel" 34 11 10 (ty_Model 10) := ⟨R_Model, T_Model, 11, ty_Model, rfl, by decide, Or.inl (gm_6 (List.mem_of_getElem? (i := 178) rfl) rfl), cw_Model, ty_Model_ok, nm_Model, ty_Model_ok 10 (by decide), rfl⟩
theorem f_Teacher_128 : FLk "GlacierCamp$Teacher" 128 1 0 := ⟨R_Glacier, T_Glacier, 8, rfl, by decide, Or.inr ⟨"GlacierCamp", gn_1 (List.mem_of_getElem? (i := 119) rfl) rfl⟩, cw_Glacier⟩
theorem f_Camp_107 : FLk "GlacierCamp" 107 1 0 := ⟨R_Glacier, T_Glacier, 8, rfl, by decide, Or.inr ⟨"GlacierCamp", gn_1 (List.mem_of_getElem? (i := 120) rfl) rfl⟩, cw_Glacier⟩
theorem f_Camp_116 : FLk "GlacierCamp" 116 1 1 := ⟨R_Glacier, T_Glacier, 8, rfl, by decide, Or.inr ⟨"GlacierCamp", gn_1 (List.mem_of_getElem? (i := 122) rfl) rfl⟩, cw_Glacier⟩
theorem f_Camp_119 : FLk "GlacierCamp" 119 1 2 := ⟨R_Glacier, T_Glacier, 8, rfl, by decide, Or.inr ⟨"GlacierCamp", gn_1 (List.mem_of_getElem? (i := 124) rfl) rfl⟩, cw_Glacier⟩
theorem f_Camp_122 : FLk "GlacierCamp" 122 1 3 := ⟨R_Glacier, T_Glacier, 8, rfl, by decide, Or.inr ⟨"GlacierCamp", gn_1 (List.mem_of_getElem? (i := 126) rfl) rfl⟩, cw_Glacier⟩
theorem f_Camp_125 : FLk "GlacierCamp" 125 1 4 := ⟨R_Glacier, T_Glacier, 8, rfl, by decide, Or.inr ⟨"GlacierCamp", gn_1 (List.mem_of_getElem? (i := 128) rfl) rfl⟩, cw_Glacier⟩
theorem f_Teacher_46 : FLk "GlacierCamp$Teacher" 46 3 1 := ⟨R_Orders, T_Orders, 2, rfl, by decide, Or.inr ⟨"GlacierCamp", gn_1 (List.mem_of_getElem? (i := 182) rfl) rfl⟩, cw_Orders⟩
theorem f_Model_93 : FLk "GlacierCampModel" 93 9 0 := ⟨R_Sheet, T_Sheet, 26, rfl, by decide, Or.inr ⟨"GlacierCampModel", gn_5 (List.mem_of_getElem? (i := 204) rfl) rfl⟩, cw_Sheet⟩
theorem f_Model_84 : FLk "GlacierCampModel" 84 9 1 := ⟨R_Sheet, T_Sheet, 26, rfl, by decide, Or.inr ⟨"GlacierCampModel", gn_5 (List.mem_of_getElem? (i := 206) rfl) rfl⟩, cw_Sheet⟩
theorem f_Model_87 : FLk "GlacierCampModel" 87 9 2 := ⟨R_Sheet, T_Sheet, 26, rfl, by decide, Or.inr ⟨"GlacierCampModel", gn_5 (List.mem_of_getElem? (i := 208) rfl) rfl⟩, cw_Sheet⟩
theorem f_Model_169 : FLk "GlacierCampModel" 169 9 3 := ⟨R_Sheet, T_Sheet, 26, rfl, by decide, Or.inr ⟨"GlacierCampModel", gn_5 (List.mem_of_getElem? (i := 210) rfl) rfl⟩, cw_Sheet⟩
theorem f_Model_40 : FLk "GlacierCampModel" 40 9 4 := ⟨R_Sheet, T_Sheet, 26, rfl, by decide, Or.inr ⟨"GlacierCampModel", gn_5 (List.mem_of_getElem? (i := 212) rfl) rfl⟩, cw_Sheet⟩
theorem f_Model_147 : FLk "GlacierCampModel" 147 9 5 := ⟨R_Sheet, T_Sheet, 26, rfl, by decide, Or.inr ⟨"GlacierCampModel", gn_5 (List.mem_of_getElem? (i := 214) rfl) rfl⟩, cw_Sheet⟩
theorem f_Model_175 : FLk "GlacierCampModel" 175 9 6 := ⟨R_Sheet, T_Sheet, 26, rfl, by decide, Or.inr ⟨"GlacierCampModel", gn_5 (List.mem_of_getElem? (i := 215) rfl) rfl⟩, cw_Sheet⟩
theorem f_Model_175_p : FPk "GlacierCampModel" 175 9 6 (ty_Sheet 6) := ⟨R_Sheet, T_Sheet, 26, ty_Sheet, rfl, by decide, Or.inr ⟨rfl, ⟨"GlacierCampModel", gn_5 (List.mem_of_getElem? (i := 215) rfl) rfl⟩⟩, cw_Sheet, ty_Sheet_ok, nm_Sheet, ty_Sheet_ok 6 (by decide), rfl⟩
theorem f_Model_200 : FLk "GlacierCampModel" 200 9 7 := ⟨R_Sheet, T_Sheet, 26, rfl, by decide, Or.inr ⟨"GlacierCampModel", gn_5 (List.mem_of_getElem? (i := 217) rfl) rfl⟩, cw_Sheet⟩
theorem f_Model_207 : FLk "GlacierCampModel" 207 9 8 := ⟨R_Sheet, T_Sheet, 26, rfl, by decide, Or.inr ⟨"GlacierCampModel", gn_5 (List.mem_of_getElem? (i := 219) rfl) rfl⟩, cw_Sheet⟩
theorem f_Model_178 : FLk "GlacierCampModel" 178 9 9 := ⟨R_Sheet, T_Sheet, 26, rfl, by decide, Or.inr ⟨"GlacierCampModel", gn_5 (List.mem_of_getElem? (i := 221) rfl) rfl⟩, cw_Sheet⟩
theorem f_Model_210 : FLk "GlacierCampModel" 210 9 10 := ⟨R_Sheet, T_Sheet, 26, rfl, by decide, Or.inr ⟨"GlacierCampModel", gn_5 (List.mem_of_getElem? (i := 223) rfl) rfl⟩, cw_Sheet⟩
theorem f_Model_187 : FLk "GlacierCampModel" 187 9 11 := ⟨R_Sheet, T_Sheet, 26, rfl, by decide, Or.inr ⟨"GlacierCampModel", gn_5 (List.mem_of_getElem? (i := 225) rfl) rfl⟩, cw_Sheet⟩
theorem f_Model_213 : FLk "GlacierCampModel" 213 9 12 := ⟨R_Sheet, T_Sheet, 26, rfl, by decide, Or.inr ⟨"GlacierCampModel", gn_5 (List.mem_of_getElem? (i := 227) rfl) rfl⟩, cw_Sheet⟩
theorem f_Model_181 : FLk "GlacierCampModel" 181 9 13 := ⟨R_Sheet, T_Sheet, 26, rfl, by decide, Or.inr ⟨"GlacierCampModel", gn_5 (List.mem_of_getElem? (i := 229) rfl) rfl⟩, cw_Sheet⟩
theorem f_Model_216 : FLk "GlacierCampModel" 216 9 14 := ⟨R_Sheet, T_Sheet, 26, rfl, by decide, Or.inr ⟨"GlacierCampModel", gn_5 (List.mem_of_getElem? (i := 231) rfl) rfl⟩, cw_Sheet⟩
theorem f_Model_184 : FLk "GlacierCampModel" 184 9 15 := ⟨R_Sheet, T_Sheet, 26, rfl, by decide, Or.inr ⟨"GlacierCampModel", gn_5 (List.mem_of_getElem? (i := 233) rfl) rfl⟩, cw_Sheet⟩
theorem f_Model_222 : FLk "GlacierCampModel" 222 9 16 := ⟨R_Sheet, T_Sheet, 26, rfl, by decide, Or.inr ⟨"GlacierCampModel", gn_5 (List.mem_of_getElem? (i := 235) rfl) rfl⟩, cw_Sheet⟩
theorem f_Model_219 : FLk "GlacierCampModel" 219 9 17 := ⟨R_Sheet, T_Sheet, 26, rfl, by decide, Or.inr ⟨"GlacierCampModel", gn_5 (List.mem_of_getElem? (i := 237) rfl) rfl⟩, cw_Sheet⟩
theorem f_Model_227 : FLk "GlacierCampModel" 227 9 18 := ⟨R_Sheet, T_Sheet, 26, rfl, by decide, Or.inr ⟨"GlacierCampModel", gn_5 (List.mem_of_getElem? (i := 239) rfl) rfl⟩, cw_Sheet⟩
theorem f_Model_224 : FLk "GlacierCampModel" 224 9 19 := ⟨R_Sheet, T_Sheet, 26, rfl, by decide, Or.inr ⟨"GlacierCampModel", gn_6 (List.mem_of_getElem? (i := 0) rfl) rfl⟩, cw_Sheet⟩
theorem f_Model_224_p : FPk "GlacierCampModel" 224 9 19 (ty_Sheet 19) := ⟨R_Sheet, T_Sheet, 26, ty_Sheet, rfl, by decide, Or.inr ⟨rfl, ⟨"GlacierCampModel", gn_6 (List.mem_of_getElem? (i := 0) rfl) rfl⟩⟩, cw_Sheet, ty_Sheet_ok, nm_Sheet, ty_Sheet_ok 19 (by decide), rfl⟩
theorem f_Model_172 : FLk "GlacierCampModel" 172 9 20 := ⟨R_Sheet, T_Sheet, 26, rfl, by decide, Or.inr ⟨"GlacierCampModel", gn_6 (List.mem_of_getElem? (i := 1) rfl) rfl⟩, cw_Sheet⟩
theorem f_Model_172_p : FPk "GlacierCampModel" 172 9 20 (ty_Sheet 20) := ⟨R_Sheet, T_Sheet, 26, ty_Sheet, rfl, by decide, Or.inr ⟨rfl, ⟨"GlacierCampModel", gn_6 (List.mem_of_getElem? (i := 1) rfl) rfl⟩⟩, cw_Sheet, ty_Sheet_ok, nm_Sheet, ty_Sheet_ok 20 (by decide), rfl⟩
theorem f_Model_230 : FLk "GlacierCampModel" 230 9 21 := ⟨R_Sheet, T_Sheet, 26, rfl, by decide, Or.inr ⟨"GlacierCampModel", gn_6 (List.mem_of_getElem? (i := 3) rfl) rfl⟩, cw_Sheet⟩
theorem f_Model_190 : FLk "GlacierCampModel" 190 9 22 := ⟨R_Sheet, T_Sheet, 26, rfl, by decide, Or.inr ⟨"GlacierCampModel", gn_6 (List.mem_of_getElem? (i := 5) rfl) rfl⟩, cw_Sheet⟩
theorem f_Model_193 : FLk "GlacierCampModel" 193 9 23 := ⟨R_Sheet, T_Sheet, 26, rfl, by decide, Or.inr ⟨"GlacierCampModel", gn_6 (List.mem_of_getElem? (i := 7) rfl) rfl⟩, cw_Sheet⟩
theorem f_Model_248 : FLk "GlacierCampModel" 248 9 24 := ⟨R_Sheet, T_Sheet, 26, rfl, by decide, Or.inr ⟨"GlacierCampModel", gn_6 (List.mem_of_getElem? (i := 9) rfl) rfl⟩, cw_Sheet⟩
theorem f_Model_233 : FLk "GlacierCampModel" 233 9 25 := ⟨R_Sheet, T_Sheet, 26, rfl, by decide, Or.inr ⟨"GlacierCampModel", gn_6 (List.mem_of_getElem? (i := 11) rfl) rfl⟩, cw_Sheet⟩
theorem f_Model_297 : FLk "GlacierCampModel" 297 10 0 := ⟨R_State, T_State, 24, rfl, by decide, Or.inr ⟨"GlacierCampModel", gn_6 (List.mem_of_getElem? (i := 72) rfl) rfl⟩, cw_State⟩
theorem f_Model_297_p : FPk "GlacierCampModel" 297 10 0 (ty_State 0) := ⟨R_State, T_State, 24, ty_State, rfl, by decide, Or.inr ⟨rfl, ⟨"GlacierCampModel", gn_6 (List.mem_of_getElem? (i := 72) rfl) rfl⟩⟩, cw_State, ty_State_ok, nm_State, ty_State_ok 0 (by decide), rfl⟩
theorem f_Model_403 : FLk "GlacierCampModel" 403 10 1 := ⟨R_State, T_State, 24, rfl, by decide, Or.inr ⟨"GlacierCampModel", gn_6 (List.mem_of_getElem? (i := 74) rfl) rfl⟩, cw_State⟩
theorem f_Model_403_p : FPk "GlacierCampModel" 403 10 1 (ty_State 1) := ⟨R_State, T_State, 24, ty_State, rfl, by decide, Or.inr ⟨rfl, ⟨"GlacierCampModel", gn_6 (List.mem_of_getElem? (i := 74) rfl) rfl⟩⟩, cw_State, ty_State_ok, nm_State, ty_State_ok 1 (by decide), rfl⟩
theorem f_Model_338 : FLk "GlacierCampModel" 338 10 2 := ⟨R_State, T_State, 24, rfl, by decide, Or.inr ⟨"GlacierCampModel", gn_6 (List.mem_of_getElem? (i := 76) rfl) rfl⟩, cw_State⟩
theorem f_Model_338_p : FPk "GlacierCampModel" 338 10 2 (ty_State 2) := ⟨R_State, T_State, 24, ty_State, rfl, by decide, Or.inr ⟨rfl, ⟨"GlacierCampModel", gn_6 (List.mem_of_getElem? (i := 76) rfl) rfl⟩⟩, cw_State, ty_State_ok, nm_State, ty_State_ok 2 (by decide), rfl⟩
theorem f_Model_406 : FLk "GlacierCampModel" 406 10 3 := ⟨R_State, T_State, 24, rfl, by decide, Or.inr ⟨"GlacierCampModel", gn_6 (List.mem_of_getElem? (i := 78) rfl) rfl⟩, cw_State⟩
theorem f_Model_406_p : FPk "GlacierCampModel" 406 10 3 (ty_State 3) := ⟨R_State, T_State, 24, ty_State, rfl, by decide, Or.inr ⟨rfl, ⟨"GlacierCampModel", gn_6 (List.mem_of_getElem? (i := 78) rfl) rfl⟩⟩, cw_State, ty_State_ok, nm_State, ty_State_ok 3 (by decide), rfl⟩
theorem f_Model_430 : FLk "GlacierCampModel" 430 10 4 := ⟨R_State, T_State, 24, rfl, by decide, Or.inr ⟨"GlacierCampModel", gn_6 (List.mem_of_getElem? (i := 80) rfl) rfl⟩, cw_State⟩
theorem f_Model_303 : FLk "GlacierCampModel" 303 10 5 := ⟨R_State, T_State, 24, rfl, by decide, Or.inr ⟨"GlacierCampModel", gn_6 (List.mem_of_getElem? (i := 82) rfl) rfl⟩, cw_State⟩
theorem f_Model_388 : FLk "GlacierCampModel" 388 10 6 := ⟨R_State, T_State, 24, rfl, by decide, Or.inr ⟨"GlacierCampModel", gn_6 (List.mem_of_getElem? (i := 84) rfl) rfl⟩, cw_State⟩
theorem f_Model_304 : FLk "GlacierCampModel" 304 10 7 := ⟨R_State, T_State, 24, rfl, by decide, Or.inr ⟨"GlacierCampModel", gn_6 (List.mem_of_getElem? (i := 86) rfl) rfl⟩, cw_State⟩
theorem f_Model_277 : FLk "GlacierCampModel" 277 10 8 := ⟨R_State, T_State, 24, rfl, by decide, Or.inr ⟨"GlacierCampModel", gn_6 (List.mem_of_getElem? (i := 88) rfl) rfl⟩, cw_State⟩
theorem f_Model_394 : FLk "GlacierCampModel" 394 10 9 := ⟨R_State, T_State, 24, rfl, by decide, Or.inr ⟨"GlacierCampModel", gn_6 (List.mem_of_getElem? (i := 90) rfl) rfl⟩, cw_State⟩
theorem f_Model_397 : FLk "GlacierCampModel" 397 10 10 := ⟨R_State, T_State, 24, rfl, by decide, Or.inr ⟨"GlacierCampModel", gn_6 (List.mem_of_getElem? (i := 92) rfl) rfl⟩, cw_State⟩
theorem f_Model_307 : FLk "GlacierCampModel" 307 10 11 := ⟨R_State, T_State, 24, rfl, by decide, Or.inr ⟨"GlacierCampModel", gn_6 (List.mem_of_getElem? (i := 94) rfl) rfl⟩, cw_State⟩
theorem f_Model_286 : FLk "GlacierCampModel" 286 10 12 := ⟨R_State, T_State, 24, rfl, by decide, Or.inr ⟨"GlacierCampModel", gn_6 (List.mem_of_getElem? (i := 96) rfl) rfl⟩, cw_State⟩
theorem f_Model_351 : FLk "GlacierCampModel" 351 10 13 := ⟨R_State, T_State, 24, rfl, by decide, Or.inr ⟨"GlacierCampModel", gn_6 (List.mem_of_getElem? (i := 98) rfl) rfl⟩, cw_State⟩
theorem f_Model_348 : FLk "GlacierCampModel" 348 10 14 := ⟨R_State, T_State, 24, rfl, by decide, Or.inr ⟨"GlacierCampModel", gn_6 (List.mem_of_getElem? (i := 100) rfl) rfl⟩, cw_State⟩
theorem f_Model_332 : FLk "GlacierCampModel" 332 10 15 := ⟨R_State, T_State, 24, rfl, by decide, Or.inr ⟨"GlacierCampModel", gn_6 (List.mem_of_getElem? (i := 102) rfl) rfl⟩, cw_State⟩
theorem f_Model_308 : FLk "GlacierCampModel" 308 10 16 := ⟨R_State, T_State, 24, rfl, by decide, Or.inr ⟨"GlacierCampModel", gn_6 (List.mem_of_getElem? (i := 104) rfl) rfl⟩, cw_State⟩
theorem f_Model_309 : FLk "GlacierCampModel" 309 10 17 := ⟨R_State, T_State, 24, rfl, by decide, Or.inr ⟨"GlacierCampModel", gn_6 (List.mem_of_getElem? (i := 106) rfl) rfl⟩, cw_State⟩
theorem f_Model_310 : FLk "GlacierCampModel" 310 10 18 := ⟨R_State, T_State, 24, rfl, by decide, Or.inr ⟨"GlacierCampModel", gn_6 (List.mem_of_getElem? (i := 108) rfl) rfl⟩, cw_State⟩
theorem f_Model_391 : FLk "GlacierCampModel" 391 10 19 := ⟨R_State, T_State, 24, rfl, by decide, Or.inr ⟨"GlacierCampModel", gn_6 (List.mem_of_getElem? (i := 110) rfl) rfl⟩, cw_State⟩
theorem f_Model_283 : FLk "GlacierCampModel" 283 10 20 := ⟨R_State, T_State, 24, rfl, by decide, Or.inr ⟨"GlacierCampModel", gn_6 (List.mem_of_getElem? (i := 112) rfl) rfl⟩, cw_State⟩
theorem f_Model_400 : FLk "GlacierCampModel" 400 10 21 := ⟨R_State, T_State, 24, rfl, by decide, Or.inr ⟨"GlacierCampModel", gn_6 (List.mem_of_getElem? (i := 114) rfl) rfl⟩, cw_State⟩
theorem f_Model_335 : FLk "GlacierCampModel" 335 10 22 := ⟨R_State, T_State, 24, rfl, by decide, Or.inr ⟨"GlacierCampModel", gn_6 (List.mem_of_getElem? (i := 116) rfl) rfl⟩, cw_State⟩
theorem f_Model_325 : FLk "GlacierCampModel" 325 10 23 := ⟨R_State, T_State, 24, rfl, by decide, Or.inr ⟨"GlacierCampModel", gn_6 (List.mem_of_getElem? (i := 118) rfl) rfl⟩, cw_State⟩
