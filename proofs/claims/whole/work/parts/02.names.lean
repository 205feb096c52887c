abbrev R_Cells : String := "KeyedCells"
abbrev R_Gen : String := "KeyedCells$Generator"
abbrev R_Table : String := "KeyedCells$Table"
abbrev R_Model : String := "KeyedCellsModel"
abbrev R_Law : String := "KeyedCellsLaw"
abbrev R_Int : String := "java/lang/Integer"
abbrev R_Lng : String := "java/lang/Long"
abbrev R_Math : String := "java/lang/Math"
abbrev R_Obj : String := "java/lang/Object"
def F_Gen : u_T := fun k => match k with
  | 0 => ("KeyedCells$Generator", "a", "I", false)
  | 1 => ("KeyedCells$Generator", "b", "I", false)
  | 2 => ("KeyedCells$Generator", "c", "I", false)
  | _ => ("KeyedCells$Generator", "d", "I", false)
def t_Gen : Nat → FieldType := fun k => match k with
  | 0 => .int
  | 1 => .int
  | 2 => .int
  | _ => .int
theorem n_Gen : ∀ a, a < 4 → ∀ b, b < 4 → a ≠ b → (F_Gen a).2.1 ≠ (F_Gen b).2.1 := by decide +kernel
theorem t_Gen_ok : ∀ k, k < 4 → parseFieldDescriptor (F_Gen k).2.2.1 = some (t_Gen k) := by decide +kernel
theorem t_Gen_0 : parseFieldDescriptor (F_Gen 0).2.2.1 = some (.int) := by decide +kernel
theorem t_Gen_1 : parseFieldDescriptor (F_Gen 1).2.2.1 = some (.int) := by decide +kernel
theorem t_Gen_2 : parseFieldDescriptor (F_Gen 2).2.2.1 = some (.int) := by decide +kernel
theorem t_Gen_3 : parseFieldDescriptor (F_Gen 3).2.2.1 = some (.int) := by decide +kernel
def F_Table : u_T := fun k => match k with
  | 0 => ("KeyedCells$Table", "mask", "I", true)
  | 1 => ("KeyedCells$Table", "marks", "[I", true)
  | 2 => ("KeyedCells$Table", "keys", "[I", true)
  | 3 => ("KeyedCells$Table", "values", "[I", true)
  | 4 => ("KeyedCells$Table", "words", "[I", true)
  | _ => ("KeyedCells$Table", "count", "I", false)
def t_Table : Nat → FieldType := fun k => match k with
  | 0 => .int
  | 1 => .array .int
  | 2 => .array .int
  | 3 => .array .int
  | 4 => .array .int
  | _ => .int
theorem n_Table : ∀ a, a < 6 → ∀ b, b < 6 → a ≠ b → (F_Table a).2.1 ≠ (F_Table b).2.1 := by decide +kernel
theorem t_Table_ok : ∀ k, k < 6 → parseFieldDescriptor (F_Table k).2.2.1 = some (t_Table k) := by decide +kernel
theorem t_Table_0 : parseFieldDescriptor (F_Table 0).2.2.1 = some (.int) := by decide +kernel
theorem t_Table_1 : parseFieldDescriptor (F_Table 1).2.2.1 = some (.array .int) := by decide +kernel
theorem t_Table_2 : parseFieldDescriptor (F_Table 2).2.2.1 = some (.array .int) := by decide +kernel
theorem t_Table_3 : parseFieldDescriptor (F_Table 3).2.2.1 = some (.array .int) := by decide +kernel
theorem t_Table_4 : parseFieldDescriptor (F_Table 4).2.2.1 = some (.array .int) := by decide +kernel
theorem t_Table_5 : parseFieldDescriptor (F_Table 5).2.2.1 = some (.int) := by decide +kernel
def F_Cells : u_T := fun k => match k with
  | 0 => ("KeyedCells", "runLimit", "I", true)
  | 1 => ("KeyedCells", "mostBound", "I", true)
  | 2 => ("KeyedCells", "generator", "LKeyedCells$Generator;", true)
  | 3 => ("KeyedCells", "newTable", "LKeyedCells$Table;", false)
  | 4 => ("KeyedCells", "oldTable", "LKeyedCells$Table;", false)
  | 5 => ("KeyedCells", "longestRun", "I", false)
  | _ => ("KeyedCells", "rekeyCount", "I", false)
def t_Cells : Nat → FieldType := fun k => match k with
  | 0 => .int
  | 1 => .int
  | 2 => .object "KeyedCells$Generator"
  | 3 => .object "KeyedCells$Table"
  | 4 => .object "KeyedCells$Table"
  | 5 => .int
  | _ => .int
theorem n_Cells : ∀ a, a < 7 → ∀ b, b < 7 → a ≠ b → (F_Cells a).2.1 ≠ (F_Cells b).2.1 := by decide +kernel
theorem t_Cells_ok : ∀ k, k < 7 → parseFieldDescriptor (F_Cells k).2.2.1 = some (t_Cells k) := by decide +kernel
theorem t_Cells_0 : parseFieldDescriptor (F_Cells 0).2.2.1 = some (.int) := by decide +kernel
theorem t_Cells_1 : parseFieldDescriptor (F_Cells 1).2.2.1 = some (.int) := by decide +kernel
theorem t_Cells_2 : parseFieldDescriptor (F_Cells 2).2.2.1 = some (.object "KeyedCells$Generator") := by decide +kernel
theorem t_Cells_3 : parseFieldDescriptor (F_Cells 3).2.2.1 = some (.object "KeyedCells$Table") := by decide +kernel
theorem t_Cells_4 : parseFieldDescriptor (F_Cells 4).2.2.1 = some (.object "KeyedCells$Table") := by decide +kernel
theorem t_Cells_5 : parseFieldDescriptor (F_Cells 5).2.2.1 = some (.int) := by decide +kernel
theorem t_Cells_6 : parseFieldDescriptor (F_Cells 6).2.2.1 = some (.int) := by decide +kernel
def F_Model : u_T := fun k => match k with
  | 0 => ("KeyedCellsModel", "cells", "I", true)
  | 1 => ("KeyedCellsModel", "limit", "I", true)
  | 2 => ("KeyedCellsModel", "a", "I", false)
  | 3 => ("KeyedCellsModel", "b", "I", false)
  | 4 => ("KeyedCellsModel", "c", "I", false)
  | 5 => ("KeyedCellsModel", "d", "I", false)
  | 6 => ("KeyedCellsModel", "words", "[I", true)
  | 7 => ("KeyedCellsModel", "newK", "J", false)
  | 8 => ("KeyedCellsModel", "newL", "J", false)
  | 9 => ("KeyedCellsModel", "oldK", "J", false)
  | 10 => ("KeyedCellsModel", "oldL", "J", false)
  | 11 => ("KeyedCellsModel", "marks", "[I", true)
  | 12 => ("KeyedCellsModel", "keys", "[I", true)
  | 13 => ("KeyedCellsModel", "values", "[I", true)
  | 14 => ("KeyedCellsModel", "moving", "Z", false)
  | 15 => ("KeyedCellsModel", "oldMarks", "[I", true)
  | 16 => ("KeyedCellsModel", "oldKeys", "[I", true)
  | 17 => ("KeyedCellsModel", "oldValues", "[I", true)
  | 18 => ("KeyedCellsModel", "longest", "I", false)
  | 19 => ("KeyedCellsModel", "times", "I", false)
  | 20 => ("KeyedCellsModel", "p", "J", false)
  | 21 => ("KeyedCellsModel", "q", "J", false)
  | 22 => ("KeyedCellsModel", "\x72", "J", false)
  | _ => ("KeyedCellsModel", "s", "J", false)
def t_Model : Nat → FieldType := fun k => match k with
  | 0 => .int
  | 1 => .int
  | 2 => .int
  | 3 => .int
  | 4 => .int
  | 5 => .int
  | 6 => .array .int
  | 7 => .long
  | 8 => .long
  | 9 => .long
  | 10 => .long
  | 11 => .array .int
  | 12 => .array .int
  | 13 => .array .int
  | 14 => .boolean
  | 15 => .array .int
  | 16 => .array .int
  | 17 => .array .int
  | 18 => .int
  | 19 => .int
  | 20 => .long
  | 21 => .long
  | 22 => .long
  | _ => .long
theorem n_Model : ∀ a, a < 24 → ∀ b, b < 24 → a ≠ b → (F_Model a).2.1 ≠ (F_Model b).2.1 := by decide +kernel
theorem t_Model_ok : ∀ k, k < 24 → parseFieldDescriptor (F_Model k).2.2.1 = some (t_Model k) := by decide +kernel
theorem t_Model_0 : parseFieldDescriptor (F_Model 0).2.2.1 = some (.int) := by decide +kernel
theorem t_Model_1 : parseFieldDescriptor (F_Model 1).2.2.1 = some (.int) := by decide +kernel
theorem t_Model_2 : parseFieldDescriptor (F_Model 2).2.2.1 = some (.int) := by decide +kernel
theorem t_Model_3 : parseFieldDescriptor (F_Model 3).2.2.1 = some (.int) := by decide +kernel
theorem t_Model_4 : parseFieldDescriptor (F_Model 4).2.2.1 = some (.int) := by decide +kernel
theorem t_Model_5 : parseFieldDescriptor (F_Model 5).2.2.1 = some (.int) := by decide +kernel
theorem t_Model_6 : parseFieldDescriptor (F_Model 6).2.2.1 = some (.array .int) := by decide +kernel
theorem t_Model_7 : parseFieldDescriptor (F_Model 7).2.2.1 = some (.long) := by decide +kernel
theorem t_Model_8 : parseFieldDescriptor (F_Model 8).2.2.1 = some (.long) := by decide +kernel
theorem t_Model_9 : parseFieldDescriptor (F_Model 9).2.2.1 = some (.long) := by decide +kernel
theorem t_Model_10 : parseFieldDescriptor (F_Model 10).2.2.1 = some (.long) := by decide +kernel
theorem t_Model_11 : parseFieldDescriptor (F_Model 11).2.2.1 = some (.array .int) := by decide +kernel
theorem t_Model_12 : parseFieldDescriptor (F_Model 12).2.2.1 = some (.array .int) := by decide +kernel
theorem t_Model_13 : parseFieldDescriptor (F_Model 13).2.2.1 = some (.array .int) := by decide +kernel
theorem t_Model_14 : parseFieldDescriptor (F_Model 14).2.2.1 = some (.boolean) := by decide +kernel
theorem t_Model_15 : parseFieldDescriptor (F_Model 15).2.2.1 = some (.array .int) := by decide +kernel
theorem t_Model_16 : parseFieldDescriptor (F_Model 16).2.2.1 = some (.array .int) := by decide +kernel
theorem t_Model_17 : parseFieldDescriptor (F_Model 17).2.2.1 = some (.array .int) := by decide +kernel
theorem t_Model_18 : parseFieldDescriptor (F_Model 18).2.2.1 = some (.int) := by decide +kernel
theorem t_Model_19 : parseFieldDescriptor (F_Model 19).2.2.1 = some (.int) := by decide +kernel
theorem t_Model_20 : parseFieldDescriptor (F_Model 20).2.2.1 = some (.long) := by decide +kernel
theorem t_Model_21 : parseFieldDescriptor (F_Model 21).2.2.1 = some (.long) := by decide +kernel
theorem t_Model_22 : parseFieldDescriptor (F_Model 22).2.2.1 = some (.long) := by decide +kernel
theorem t_Model_23 : parseFieldDescriptor (F_Model 23).2.2.1 = some (.long) := by decide +kernel
abbrev cls : List vw_C := [(R_Gen, F_Gen, 4), (R_Table, F_Table, 6), (R_Cells, F_Cells, 7), (R_Model, F_Model, 24)]
abbrev b_Cells_init : ByteArray := prog_1_method_1_code
abbrev y_Cells_init : MethodName := ⟨"KeyedCells", "<init>", "(III)V"⟩
abbrev b_Cells_put : ByteArray := prog_1_method_2_code
abbrev y_Cells_put : MethodName := ⟨"KeyedCells", "put", "(II)I"⟩
abbrev b_Cells_get : ByteArray := prog_1_method_3_code
abbrev y_Cells_get : MethodName := ⟨"KeyedCells", "get", "(I)I"⟩
abbrev b_Cells_has : ByteArray := prog_1_method_4_code
abbrev y_Cells_has : MethodName := ⟨"KeyedCells", "has", "(I)Z"⟩
abbrev b_Cells_remove : ByteArray := prog_1_method_5_code
abbrev y_Cells_remove : MethodName := ⟨"KeyedCells", "remove", "(I)Z"⟩
abbrev b_Cells_size : ByteArray := prog_1_method_6_code
abbrev y_Cells_size : MethodName := ⟨"KeyedCells", "size", "()I"⟩
abbrev b_Cells_probeMax : ByteArray := prog_1_method_7_code
abbrev y_Cells_probeMax : MethodName := ⟨"KeyedCells", "probeMax", "()I"⟩
abbrev b_Cells_rekey : ByteArray := prog_1_method_8_code
abbrev y_Cells_rekey : MethodName := ⟨"KeyedCells", "rekey", "()I"⟩
abbrev b_Cells_migrateStep : ByteArray := prog_1_method_9_code
abbrev y_Cells_migrateStep : MethodName := ⟨"KeyedCells", "migrateStep", "()I"⟩
abbrev b_Cells_hashLo : ByteArray := prog_1_method_10_code
abbrev y_Cells_hashLo : MethodName := ⟨"KeyedCells", "hashLo", "(I)I"⟩
abbrev b_Cells_hashHi : ByteArray := prog_1_method_11_code
abbrev y_Cells_hashHi : MethodName := ⟨"KeyedCells", "hashHi", "(I)I"⟩
abbrev b_Cells_keyWord : ByteArray := prog_1_method_12_code
abbrev y_Cells_keyWord : MethodName := ⟨"KeyedCells", "keyWord", "(I)I"⟩
abbrev b_Cells_nth : ByteArray := prog_1_method_13_code
abbrev y_Cells_nth : MethodName := ⟨"KeyedCells", "nth", "(I)I"⟩
abbrev b_Cells_filled : ByteArray := prog_1_method_14_code
abbrev y_Cells_filled : MethodName := ⟨"KeyedCells", "filled", "(ZI)I"⟩
abbrev b_Cells_above : ByteArray := prog_1_method_15_code
abbrev y_Cells_above : MethodName := ⟨"KeyedCells", "above", "(I)I"⟩
abbrev b_Cells_sum : ByteArray := prog_1_method_16_code
abbrev y_Cells_sum : MethodName := ⟨"KeyedCells", "sum", "()J"⟩
abbrev b_Cells_rekeys : ByteArray := prog_1_method_17_code
abbrev y_Cells_rekeys : MethodName := ⟨"KeyedCells", "rekeys", "()I"⟩
abbrev b_Cells_boundCount : ByteArray := prog_1_method_18_code
abbrev y_Cells_boundCount : MethodName := ⟨"KeyedCells", "boundCount", "()I"⟩
abbrev b_Cells_holderOf : ByteArray := prog_1_method_19_code
abbrev y_Cells_holderOf : MethodName := ⟨"KeyedCells", "holderOf", "(I)LKeyedCells$Table;"⟩
abbrev b_Cells_makeStep : ByteArray := prog_1_method_20_code
abbrev y_Cells_makeStep : MethodName := ⟨"KeyedCells", "makeStep", "()I"⟩
abbrev b_Cells_drawNewKey : ByteArray := prog_1_method_21_code
abbrev y_Cells_drawNewKey : MethodName := ⟨"KeyedCells", "drawNewKey", "()I"⟩
abbrev b_Cells_beginNewTable : ByteArray := prog_1_method_22_code
abbrev y_Cells_beginNewTable : MethodName := ⟨"KeyedCells", "beginNewTable", "()V"⟩
abbrev b_Cells_sumOver : ByteArray := prog_1_method_23_code
abbrev y_Cells_sumOver : MethodName := ⟨"KeyedCells", "sumOver", "(LKeyedCells$Table;)J"⟩
abbrev b_Model_init : ByteArray := prog_5_method_1_code
abbrev y_Model_init : MethodName := ⟨"KeyedCellsModel", "<init>", "(III)V"⟩
abbrev b_Model_mixed : ByteArray := prog_5_method_2_code
abbrev y_Model_mixed : MethodName := ⟨"KeyedCellsModel", "mixed", "(I)I"⟩
abbrev b_Model_turned : ByteArray := prog_5_method_3_code
abbrev y_Model_turned : MethodName := ⟨"KeyedCellsModel", "turned", "(II)I"⟩
abbrev b_Model_draw : ByteArray := prog_5_method_4_code
abbrev y_Model_draw : MethodName := ⟨"KeyedCellsModel", "draw", "()I"⟩
abbrev b_Model_joined : ByteArray := prog_5_method_5_code
abbrev y_Model_joined : MethodName := ⟨"KeyedCellsModel", "joined", "(II)J"⟩
abbrev b_Model_drawKey : ByteArray := prog_5_method_6_code
abbrev y_Model_drawKey : MethodName := ⟨"KeyedCellsModel", "drawKey", "()V"⟩
abbrev b_Model_around : ByteArray := prog_5_method_7_code
abbrev y_Model_around : MethodName := ⟨"KeyedCellsModel", "around", "(JI)J"⟩
abbrev b_Model_round : ByteArray := prog_5_method_8_code
abbrev y_Model_round : MethodName := ⟨"KeyedCellsModel", "round", "()V"⟩
abbrev b_Model_hash : ByteArray := prog_5_method_9_code
abbrev y_Model_hash : MethodName := ⟨"KeyedCellsModel", "hash", "(JJI)J"⟩
abbrev b_Model_home : ByteArray := prog_5_method_10_code
abbrev y_Model_home : MethodName := ⟨"KeyedCellsModel", "home", "(I)I"⟩
abbrev b_Model_find : ByteArray := prog_5_method_11_code
abbrev y_Model_find : MethodName := ⟨"KeyedCellsModel", "find", "(I)I"⟩
abbrev b_Model_findOld : ByteArray := prog_5_method_12_code
abbrev y_Model_findOld : MethodName := ⟨"KeyedCellsModel", "findOld", "(I)I"⟩
abbrev b_Model_inNew : ByteArray := prog_5_method_13_code
abbrev y_Model_inNew : MethodName := ⟨"KeyedCellsModel", "inNew", "()I"⟩
abbrev b_Model_inOld : ByteArray := prog_5_method_14_code
abbrev y_Model_inOld : MethodName := ⟨"KeyedCellsModel", "inOld", "()I"⟩
abbrev b_Model_enter : ByteArray := prog_5_method_15_code
abbrev y_Model_enter : MethodName := ⟨"KeyedCellsModel", "enter", "(II)I"⟩
abbrev b_Model_nextOld : ByteArray := prog_5_method_16_code
abbrev y_Model_nextOld : MethodName := ⟨"KeyedCellsModel", "nextOld", "()I"⟩
abbrev b_Model_step : ByteArray := prog_5_method_17_code
abbrev y_Model_step : MethodName := ⟨"KeyedCellsModel", "step", "()I"⟩
abbrev b_Model_renew : ByteArray := prog_5_method_18_code
abbrev y_Model_renew : MethodName := ⟨"KeyedCellsModel", "renew", "()I"⟩
abbrev b_Model_put : ByteArray := prog_5_method_19_code
abbrev y_Model_put : MethodName := ⟨"KeyedCellsModel", "put", "(II)I"⟩
abbrev b_Model_get : ByteArray := prog_5_method_20_code
abbrev y_Model_get : MethodName := ⟨"KeyedCellsModel", "get", "(I)I"⟩
abbrev b_Model_has : ByteArray := prog_5_method_21_code
abbrev y_Model_has : MethodName := ⟨"KeyedCellsModel", "has", "(I)Z"⟩
abbrev b_Model_behind : ByteArray := prog_5_method_22_code
abbrev y_Model_behind : MethodName := ⟨"KeyedCellsModel", "behind", "(II)I"⟩
abbrev b_Model_close : ByteArray := prog_5_method_23_code
abbrev y_Model_close : MethodName := ⟨"KeyedCellsModel", "close", "(I)V"⟩
abbrev b_Model_remove : ByteArray := prog_5_method_24_code
abbrev y_Model_remove : MethodName := ⟨"KeyedCellsModel", "remove", "(I)Z"⟩
abbrev b_Model_size : ByteArray := prog_5_method_25_code
abbrev y_Model_size : MethodName := ⟨"KeyedCellsModel", "size", "()I"⟩
abbrev b_Model_probeMax : ByteArray := prog_5_method_26_code
abbrev y_Model_probeMax : MethodName := ⟨"KeyedCellsModel", "probeMax", "()I"⟩
abbrev b_Model_rekey : ByteArray := prog_5_method_27_code
abbrev y_Model_rekey : MethodName := ⟨"KeyedCellsModel", "rekey", "()I"⟩
abbrev b_Model_migrateStep : ByteArray := prog_5_method_28_code
abbrev y_Model_migrateStep : MethodName := ⟨"KeyedCellsModel", "migrateStep", "()I"⟩
abbrev b_Model_hashLo : ByteArray := prog_5_method_29_code
abbrev y_Model_hashLo : MethodName := ⟨"KeyedCellsModel", "hashLo", "(I)I"⟩
abbrev b_Model_hashHi : ByteArray := prog_5_method_30_code
abbrev y_Model_hashHi : MethodName := ⟨"KeyedCellsModel", "hashHi", "(I)I"⟩
abbrev b_Model_keyWord : ByteArray := prog_5_method_31_code
abbrev y_Model_keyWord : MethodName := ⟨"KeyedCellsModel", "keyWord", "(I)I"⟩
abbrev b_Model_nth : ByteArray := prog_5_method_32_code
abbrev y_Model_nth : MethodName := ⟨"KeyedCellsModel", "nth", "(I)I"⟩
abbrev b_Model_filled : ByteArray := prog_5_method_33_code
abbrev y_Model_filled : MethodName := ⟨"KeyedCellsModel", "filled", "(ZI)I"⟩
abbrev b_Model_above : ByteArray := prog_5_method_34_code
abbrev y_Model_above : MethodName := ⟨"KeyedCellsModel", "above", "(I)I"⟩
abbrev b_Model_sum : ByteArray := prog_5_method_35_code
abbrev y_Model_sum : MethodName := ⟨"KeyedCellsModel", "sum", "()J"⟩
abbrev b_Model_rekeys : ByteArray := prog_5_method_36_code
abbrev y_Model_rekeys : MethodName := ⟨"KeyedCellsModel", "rekeys", "()I"⟩
abbrev b_Gen_init : ByteArray := prog_2_method_1_code
abbrev y_Gen_init : MethodName := ⟨"KeyedCells$Generator", "<init>", "(I)V"⟩
abbrev b_Gen_mixed : ByteArray := prog_2_method_2_code
abbrev y_Gen_mixed : MethodName := ⟨"KeyedCells$Generator", "mixed", "(I)I"⟩
abbrev b_Gen_draw : ByteArray := prog_2_method_3_code
abbrev y_Gen_draw : MethodName := ⟨"KeyedCells$Generator", "draw", "()I"⟩
abbrev b_Table_init : ByteArray := prog_3_method_1_code
abbrev y_Table_init : MethodName := ⟨"KeyedCells$Table", "<init>", "(I)V"⟩
abbrev b_Table_clear : ByteArray := prog_3_method_2_code
abbrev y_Table_clear : MethodName := ⟨"KeyedCells$Table", "clear", "()V"⟩
abbrev b_Table_hashOf : ByteArray := prog_3_method_3_code
abbrev y_Table_hashOf : MethodName := ⟨"KeyedCells$Table", "hashOf", "(I)J"⟩
abbrev b_Table_joined : ByteArray := prog_3_method_4_code
abbrev y_Table_joined : MethodName := ⟨"KeyedCells$Table", "joined", "(II)J"⟩
abbrev b_Table_homeOf : ByteArray := prog_3_method_5_code
abbrev y_Table_homeOf : MethodName := ⟨"KeyedCells$Table", "homeOf", "(I)I"⟩
abbrev b_Table_cellOf : ByteArray := prog_3_method_6_code
abbrev y_Table_cellOf : MethodName := ⟨"KeyedCells$Table", "cellOf", "(I)I"⟩
abbrev b_Table_valueOf : ByteArray := prog_3_method_7_code
abbrev y_Table_valueOf : MethodName := ⟨"KeyedCells$Table", "valueOf", "(I)I"⟩
abbrev b_Table_change : ByteArray := prog_3_method_8_code
abbrev y_Table_change : MethodName := ⟨"KeyedCells$Table", "change", "(II)V"⟩
abbrev b_Table_place : ByteArray := prog_3_method_9_code
abbrev y_Table_place : MethodName := ⟨"KeyedCells$Table", "place", "(II)I"⟩
abbrev b_Table_fill : ByteArray := prog_3_method_10_code
abbrev y_Table_fill : MethodName := ⟨"KeyedCells$Table", "fill", "(III)V"⟩
abbrev b_Table_takeOut : ByteArray := prog_3_method_11_code
abbrev y_Table_takeOut : MethodName := ⟨"KeyedCells$Table", "takeOut", "(I)V"⟩
abbrev b_Table_markGone : ByteArray := prog_3_method_12_code
abbrev y_Table_markGone : MethodName := ⟨"KeyedCells$Table", "markGone", "(I)V"⟩
abbrev b_Table_markAt : ByteArray := prog_3_method_13_code
abbrev y_Table_markAt : MethodName := ⟨"KeyedCells$Table", "markAt", "(I)I"⟩
abbrev b_Table_nearestAbove : ByteArray := prog_3_method_14_code
abbrev y_Table_nearestAbove : MethodName := ⟨"KeyedCells$Table", "nearestAbove", "(II)I"⟩
abbrev b_Law_cell : ByteArray := method_2_code
abbrev y_Law_cell : MethodName := ⟨"KeyedCellsLaw", "cell", "([II)I"⟩
abbrev b_Obj_init : ByteArray := object_method_1_code
abbrev y_Obj_init : MethodName := ⟨"java/lang/Object", "<init>", "()V"⟩
abbrev b_Int_rotateLeft : ByteArray := prog_6_method_50_code
abbrev y_Int_rotateLeft : MethodName := ⟨"java/lang/Integer", "rotateLeft", "(II)I"⟩
abbrev b_Lng_rotateLeft : ByteArray := prog_7_method_51_code
abbrev y_Lng_rotateLeft : MethodName := ⟨"java/lang/Long", "rotateLeft", "(JI)J"⟩
abbrev b_Math_max : ByteArray := prog_8_method_65_code
abbrev y_Math_max : MethodName := ⟨"java/lang/Math", "max", "(II)I"⟩
abbrev b_Math_min : ByteArray := prog_8_method_69_code
abbrev y_Math_min : MethodName := ⟨"java/lang/Math", "min", "(II)I"⟩
def BG_0 : List Cond := [.initialized "KeyedCellsLaw", .initialized "KeyedCells", .initialized "java/lang/Math", .initialized "KeyedCells$Generator", .initialized "KeyedCells$Table", .initialized "java/lang/Integer", .initialized "KeyedCellsModel", .initialized "java/lang/Long", .classLink "KeyedCellsLaw" 7 "KeyedCells", .instantiable "KeyedCells" 7, .methodLink "KeyedCellsLaw" 15 (⟨"KeyedCells", "<init>", "(III)V"⟩ : MethodName), .instanceMethod (⟨"KeyedCells", "<init>", "(III)V"⟩ : MethodName), .code (⟨"KeyedCells", "<init>", "(III)V"⟩ : MethodName) prog_1_method_1_code 5 (Option.none : Option Jvm.ClassFile.FieldType), .methodLink "KeyedCells" 1 (⟨"java/lang/Object", "<init>", "()V"⟩ : MethodName), .instanceMethod (⟨"java/lang/Object", "<init>", "()V"⟩ : MethodName), .code (⟨"java/lang/Object", "<init>", "()V"⟩ : MethodName) object_method_1_code 1 (Option.none : Option Jvm.ClassFile.FieldType), .methodLink "KeyedCells" 9 (⟨"java/lang/Math", "min", "(II)I"⟩ : MethodName), .static (⟨"java/lang/Math", "min", "(II)I"⟩ : MethodName), .code (⟨"java/lang/Math", "min", "(II)I"⟩ : MethodName) prog_8_method_69_code 2 (Option.some Jvm.ClassFile.FieldType.int), .methodLink "KeyedCells" 15 (⟨"java/lang/Math", "max", "(II)I"⟩ : MethodName), .static (⟨"java/lang/Math", "max", "(II)I"⟩ : MethodName), .code (⟨"java/lang/Math", "max", "(II)I"⟩ : MethodName) prog_8_method_65_code 2 (Option.some Jvm.ClassFile.FieldType.int), .classLink "KeyedCells" 25 "KeyedCells$Generator", .instantiable "KeyedCells$Generator" 4, .instanceMethod (⟨"KeyedCells$Generator", "<init>", "(I)V"⟩ : MethodName), .code (⟨"KeyedCells$Generator", "<init>", "(I)V"⟩ : MethodName) prog_2_method_1_code 2 (Option.none : Option Jvm.ClassFile.FieldType), .methodLink "KeyedCells$Generator" 1 (⟨"java/lang/Object", "<init>", "()V"⟩ : MethodName), .constant "KeyedCells$Generator" 9 (-1640531527), .methodLink "KeyedCells$Generator" 10 (⟨"KeyedCells$Generator", "mixed", "(I)I"⟩ : MethodName), .static (⟨"KeyedCells$Generator", "mixed", "(I)I"⟩ : MethodName), .code (⟨"KeyedCells$Generator", "mixed", "(I)I"⟩ : MethodName) prog_2_method_2_code 2 (Option.some Jvm.ClassFile.FieldType.int), .constant "KeyedCells$Generator" 30 (-2048144789), .constant "KeyedCells$Generator" 31 (-1028477387), .constant "KeyedCells$Generator" 18 1013904242, .constant "KeyedCells$Generator" 22 (-626627285), .constant "KeyedCells$Generator" 26 2027808484, .fieldLink "KeyedCells$Generator" 14 "KeyedCells$Generator" "a" "I", .fieldLink "KeyedCells$Generator" 19 "KeyedCells$Generator" "b" "I", .fieldLink "KeyedCells$Generator" 23 "KeyedCells$Generator" "c" "I", .fieldLink "KeyedCells$Generator" 27 "KeyedCells$Generator" "d" "I", .lays "KeyedCells$Generator" "KeyedCells$Generator" "a" "I", .lays "KeyedCells$Generator" "KeyedCells$Generator" "b" "I", .lays "KeyedCells$Generator" "KeyedCells$Generator" "c" "I", .lays "KeyedCells$Generator" "KeyedCells$Generator" "d" "I", .classLink "KeyedCells" 34 "KeyedCells$Table", .instantiable "KeyedCells$Table" 6, .instanceMethod (⟨"KeyedCells$Table", "<init>", "(I)V"⟩ : MethodName), .code (⟨"KeyedCells$Table", "<init>", "(I)V"⟩ : MethodName) prog_3_method_1_code 2 (Option.none : Option Jvm.ClassFile.FieldType), .methodLink "KeyedCells$Table" 3 (⟨"java/lang/Object", "<init>", "()V"⟩ : MethodName), .fieldLink "KeyedCells$Table" 9 "KeyedCells$Table" "mask" "I", .fieldLink "KeyedCells$Table" 15 "KeyedCells$Table" "marks" "[I", .fieldLink "KeyedCells$Table" 19 "KeyedCells$Table" "keys" "[I", .fieldLink "KeyedCells$Table" 22 "KeyedCells$Table" "values" "[I", .fieldLink "KeyedCells$Table" 25 "KeyedCells$Table" "words" "[I", .fieldLink "KeyedCells$Table" 28 "KeyedCells$Table" "count" "I", .laysFinal "KeyedCells$Table" "KeyedCells$Table" "mask" "I", .laysFinal "KeyedCells$Table" "KeyedCells$Table" "marks" "[I", .laysFinal "KeyedCells$Table" "KeyedCells$Table" "keys" "[I", .laysFinal "KeyedCells$Table" "KeyedCells$Table" "values" "[I", .laysFinal "KeyedCells$Table" "KeyedCells$Table" "words" "[I"]
def BG_1 : List Cond := [.lays "KeyedCells$Table" "KeyedCells$Table" "count" "I", .arrayClass Jvm.ClassFile.FieldType.int, .methodLink "KeyedCells" 50 (⟨"KeyedCells", "beginNewTable", "()V"⟩ : MethodName), .instanceMethod (⟨"KeyedCells", "beginNewTable", "()V"⟩ : MethodName), .code (⟨"KeyedCells", "beginNewTable", "()V"⟩ : MethodName) prog_1_method_22_code 2 (Option.none : Option Jvm.ClassFile.FieldType), .instanceMethod (⟨"KeyedCells$Table", "clear", "()V"⟩ : MethodName), .code (⟨"KeyedCells$Table", "clear", "()V"⟩ : MethodName) prog_3_method_2_code 2 (Option.none : Option Jvm.ClassFile.FieldType), .instanceMethod (⟨"KeyedCells$Generator", "draw", "()I"⟩ : MethodName), .code (⟨"KeyedCells$Generator", "draw", "()I"⟩ : MethodName) prog_2_method_3_code 3 (Option.some Jvm.ClassFile.FieldType.int), .methodLink "KeyedCells$Generator" 32 (⟨"java/lang/Integer", "rotateLeft", "(II)I"⟩ : MethodName), .static (⟨"java/lang/Integer", "rotateLeft", "(II)I"⟩ : MethodName), .code (⟨"java/lang/Integer", "rotateLeft", "(II)I"⟩ : MethodName) prog_6_method_50_code 2 (Option.some Jvm.ClassFile.FieldType.int), .fieldLink "KeyedCells" 18 "KeyedCells" "runLimit" "I", .fieldLink "KeyedCells" 22 "KeyedCells" "mostBound" "I", .fieldLink "KeyedCells" 30 "KeyedCells" "generator" "LKeyedCells$Generator;", .fieldLink "KeyedCells" 37 "KeyedCells" "newTable" "LKeyedCells$Table;", .fieldLink "KeyedCells" 41 "KeyedCells" "oldTable" "LKeyedCells$Table;", .fieldLink "KeyedCells" 44 "KeyedCells" "longestRun" "I", .fieldLink "KeyedCells" 47 "KeyedCells" "rekeyCount" "I", .laysFinal "KeyedCells" "KeyedCells" "runLimit" "I", .laysFinal "KeyedCells" "KeyedCells" "mostBound" "I", .laysFinal "KeyedCells" "KeyedCells" "generator" "LKeyedCells$Generator;", .lays "KeyedCells" "KeyedCells" "newTable" "LKeyedCells$Table;", .lays "KeyedCells" "KeyedCells" "oldTable" "LKeyedCells$Table;", .lays "KeyedCells" "KeyedCells" "longestRun" "I", .lays "KeyedCells" "KeyedCells" "rekeyCount" "I", .methodLink "KeyedCellsLaw" 21 (⟨"KeyedCells", "put", "(II)I"⟩ : MethodName), .instanceMethod (⟨"KeyedCells", "put", "(II)I"⟩ : MethodName), .selects "KeyedCells" (⟨"KeyedCells", "put", "(II)I"⟩ : MethodName) (⟨"KeyedCells", "put", "(II)I"⟩ : MethodName), .code (⟨"KeyedCells", "put", "(II)I"⟩ : MethodName) prog_1_method_2_code 5 (Option.some Jvm.ClassFile.FieldType.int), .methodLink "KeyedCells" 53 (⟨"KeyedCells", "makeStep", "()I"⟩ : MethodName), .instanceMethod (⟨"KeyedCells", "makeStep", "()I"⟩ : MethodName), .code (⟨"KeyedCells", "makeStep", "()I"⟩ : MethodName) prog_1_method_20_code 3 (Option.some Jvm.ClassFile.FieldType.int), .instanceMethod (⟨"KeyedCells$Table", "markGone", "(I)V"⟩ : MethodName), .code (⟨"KeyedCells$Table", "markGone", "(I)V"⟩ : MethodName) prog_3_method_12_code 2 (Option.none : Option Jvm.ClassFile.FieldType), .instanceMethod (⟨"KeyedCells$Table", "place", "(II)I"⟩ : MethodName), .code (⟨"KeyedCells$Table", "place", "(II)I"⟩ : MethodName) prog_3_method_9_code 5 (Option.some Jvm.ClassFile.FieldType.int), .methodLink "KeyedCells$Table" 58 (⟨"KeyedCells$Table", "homeOf", "(I)I"⟩ : MethodName), .instanceMethod (⟨"KeyedCells$Table", "homeOf", "(I)I"⟩ : MethodName), .code (⟨"KeyedCells$Table", "homeOf", "(I)I"⟩ : MethodName) prog_3_method_5_code 2 (Option.some Jvm.ClassFile.FieldType.int), .methodLink "KeyedCells$Table" 54 (⟨"KeyedCells$Table", "hashOf", "(I)J"⟩ : MethodName), .instanceMethod (⟨"KeyedCells$Table", "hashOf", "(I)J"⟩ : MethodName), .code (⟨"KeyedCells$Table", "hashOf", "(I)J"⟩ : MethodName) prog_3_method_3_code 17 (Option.some Jvm.ClassFile.FieldType.long), .methodLink "KeyedCells$Table" 31 (⟨"KeyedCells$Table", "joined", "(II)J"⟩ : MethodName), .static (⟨"KeyedCells$Table", "joined", "(II)J"⟩ : MethodName), .code (⟨"KeyedCells$Table", "joined", "(II)J"⟩ : MethodName) prog_3_method_4_code 2 (Option.some Jvm.ClassFile.FieldType.long), .constantLong "KeyedCells$Table" 52 4294967295, .constant "KeyedCells$Table" 35 67108864, .constantLong "KeyedCells$Table" 36 8317987319222330741, .constantLong "KeyedCells$Table" 38 7237128888997146477, .constantLong "KeyedCells$Table" 40 7816392313619706465, .constantLong "KeyedCells$Table" 42 8387220255154660723, .methodLink "KeyedCells$Table" 44 (⟨"java/lang/Long", "rotateLeft", "(JI)J"⟩ : MethodName), .static (⟨"java/lang/Long", "rotateLeft", "(JI)J"⟩ : MethodName), .code (⟨"java/lang/Long", "rotateLeft", "(JI)J"⟩ : MethodName) prog_7_method_51_code 3 (Option.some Jvm.ClassFile.FieldType.long), .constantLong "KeyedCells$Table" 50 255, .methodLink "KeyedCells$Table" 65 (⟨"KeyedCells$Table", "fill", "(III)V"⟩ : MethodName), .instanceMethod (⟨"KeyedCells$Table", "fill", "(III)V"⟩ : MethodName), .code (⟨"KeyedCells$Table", "fill", "(III)V"⟩ : MethodName) prog_3_method_10_code 4 (Option.none : Option Jvm.ClassFile.FieldType), .methodLink "KeyedCells" 57 (⟨"KeyedCells", "holderOf", "(I)LKeyedCells$Table;"⟩ : MethodName)]
def BG_2 : List Cond := [.instanceMethod (⟨"KeyedCells", "holderOf", "(I)LKeyedCells$Table;"⟩ : MethodName), .code (⟨"KeyedCells", "holderOf", "(I)LKeyedCells$Table;"⟩ : MethodName) prog_1_method_19_code 2 (Option.some (Jvm.ClassFile.FieldType.object "KeyedCells$Table")), .instanceMethod (⟨"KeyedCells$Table", "cellOf", "(I)I"⟩ : MethodName), .code (⟨"KeyedCells$Table", "cellOf", "(I)I"⟩ : MethodName) prog_3_method_6_code 4 (Option.some Jvm.ClassFile.FieldType.int), .instanceMethod (⟨"KeyedCells$Table", "change", "(II)V"⟩ : MethodName), .code (⟨"KeyedCells$Table", "change", "(II)V"⟩ : MethodName) prog_3_method_8_code 4 (Option.none : Option Jvm.ClassFile.FieldType), .methodLink "KeyedCells$Table" 62 (⟨"KeyedCells$Table", "cellOf", "(I)I"⟩ : MethodName), .methodLink "KeyedCells" 65 (⟨"KeyedCells", "boundCount", "()I"⟩ : MethodName), .instanceMethod (⟨"KeyedCells", "boundCount", "()I"⟩ : MethodName), .code (⟨"KeyedCells", "boundCount", "()I"⟩ : MethodName) prog_1_method_18_code 1 (Option.some Jvm.ClassFile.FieldType.int), .methodLink "KeyedCells" 71 (⟨"KeyedCells", "drawNewKey", "()I"⟩ : MethodName), .instanceMethod (⟨"KeyedCells", "drawNewKey", "()I"⟩ : MethodName), .code (⟨"KeyedCells", "drawNewKey", "()I"⟩ : MethodName) prog_1_method_21_code 3 (Option.some Jvm.ClassFile.FieldType.int), .methodLink "KeyedCellsLaw" 26 (⟨"KeyedCells", "get", "(I)I"⟩ : MethodName), .instanceMethod (⟨"KeyedCells", "get", "(I)I"⟩ : MethodName), .selects "KeyedCells" (⟨"KeyedCells", "get", "(I)I"⟩ : MethodName) (⟨"KeyedCells", "get", "(I)I"⟩ : MethodName), .code (⟨"KeyedCells", "get", "(I)I"⟩ : MethodName) prog_1_method_3_code 3 (Option.some Jvm.ClassFile.FieldType.int), .instanceMethod (⟨"KeyedCells$Table", "valueOf", "(I)I"⟩ : MethodName), .code (⟨"KeyedCells$Table", "valueOf", "(I)I"⟩ : MethodName) prog_3_method_7_code 3 (Option.some Jvm.ClassFile.FieldType.int), .methodLink "KeyedCellsLaw" 31 (⟨"KeyedCells", "has", "(I)Z"⟩ : MethodName), .instanceMethod (⟨"KeyedCells", "has", "(I)Z"⟩ : MethodName), .selects "KeyedCells" (⟨"KeyedCells", "has", "(I)Z"⟩ : MethodName) (⟨"KeyedCells", "has", "(I)Z"⟩ : MethodName), .code (⟨"KeyedCells", "has", "(I)Z"⟩ : MethodName) prog_1_method_4_code 2 (Option.some Jvm.ClassFile.FieldType.boolean), .methodLink "KeyedCellsLaw" 36 (⟨"KeyedCells", "remove", "(I)Z"⟩ : MethodName), .instanceMethod (⟨"KeyedCells", "remove", "(I)Z"⟩ : MethodName), .selects "KeyedCells" (⟨"KeyedCells", "remove", "(I)Z"⟩ : MethodName) (⟨"KeyedCells", "remove", "(I)Z"⟩ : MethodName), .code (⟨"KeyedCells", "remove", "(I)Z"⟩ : MethodName) prog_1_method_5_code 3 (Option.some Jvm.ClassFile.FieldType.boolean), .instanceMethod (⟨"KeyedCells$Table", "takeOut", "(I)V"⟩ : MethodName), .code (⟨"KeyedCells$Table", "takeOut", "(I)V"⟩ : MethodName) prog_3_method_11_code 7 (Option.none : Option Jvm.ClassFile.FieldType), .methodLink "KeyedCellsLaw" 40 (⟨"KeyedCells", "size", "()I"⟩ : MethodName), .instanceMethod (⟨"KeyedCells", "size", "()I"⟩ : MethodName), .selects "KeyedCells" (⟨"KeyedCells", "size", "()I"⟩ : MethodName) (⟨"KeyedCells", "size", "()I"⟩ : MethodName), .code (⟨"KeyedCells", "size", "()I"⟩ : MethodName) prog_1_method_6_code 1 (Option.some Jvm.ClassFile.FieldType.int), .methodLink "KeyedCellsLaw" 45 (⟨"KeyedCells", "probeMax", "()I"⟩ : MethodName), .instanceMethod (⟨"KeyedCells", "probeMax", "()I"⟩ : MethodName), .selects "KeyedCells" (⟨"KeyedCells", "probeMax", "()I"⟩ : MethodName) (⟨"KeyedCells", "probeMax", "()I"⟩ : MethodName), .code (⟨"KeyedCells", "probeMax", "()I"⟩ : MethodName) prog_1_method_7_code 1 (Option.some Jvm.ClassFile.FieldType.int), .methodLink "KeyedCellsLaw" 49 (⟨"KeyedCells", "rekey", "()I"⟩ : MethodName), .instanceMethod (⟨"KeyedCells", "rekey", "()I"⟩ : MethodName), .selects "KeyedCells" (⟨"KeyedCells", "rekey", "()I"⟩ : MethodName) (⟨"KeyedCells", "rekey", "()I"⟩ : MethodName), .code (⟨"KeyedCells", "rekey", "()I"⟩ : MethodName) prog_1_method_8_code 1 (Option.some Jvm.ClassFile.FieldType.int), .methodLink "KeyedCellsLaw" 53 (⟨"KeyedCells", "migrateStep", "()I"⟩ : MethodName), .instanceMethod (⟨"KeyedCells", "migrateStep", "()I"⟩ : MethodName), .selects "KeyedCells" (⟨"KeyedCells", "migrateStep", "()I"⟩ : MethodName) (⟨"KeyedCells", "migrateStep", "()I"⟩ : MethodName), .code (⟨"KeyedCells", "migrateStep", "()I"⟩ : MethodName) prog_1_method_9_code 1 (Option.some Jvm.ClassFile.FieldType.int), .methodLink "KeyedCellsLaw" 57 (⟨"KeyedCells", "hashLo", "(I)I"⟩ : MethodName), .instanceMethod (⟨"KeyedCells", "hashLo", "(I)I"⟩ : MethodName), .selects "KeyedCells" (⟨"KeyedCells", "hashLo", "(I)I"⟩ : MethodName) (⟨"KeyedCells", "hashLo", "(I)I"⟩ : MethodName), .code (⟨"KeyedCells", "hashLo", "(I)I"⟩ : MethodName) prog_1_method_10_code 2 (Option.some Jvm.ClassFile.FieldType.int), .methodLink "KeyedCellsLaw" 61 (⟨"KeyedCells", "hashHi", "(I)I"⟩ : MethodName), .instanceMethod (⟨"KeyedCells", "hashHi", "(I)I"⟩ : MethodName), .selects "KeyedCells" (⟨"KeyedCells", "hashHi", "(I)I"⟩ : MethodName) (⟨"KeyedCells", "hashHi", "(I)I"⟩ : MethodName), .code (⟨"KeyedCells", "hashHi", "(I)I"⟩ : MethodName) prog_1_method_11_code 2 (Option.some Jvm.ClassFile.FieldType.int), .methodLink "KeyedCellsLaw" 65 (⟨"KeyedCells", "keyWord", "(I)I"⟩ : MethodName), .instanceMethod (⟨"KeyedCells", "keyWord", "(I)I"⟩ : MethodName), .selects "KeyedCells" (⟨"KeyedCells", "keyWord", "(I)I"⟩ : MethodName) (⟨"KeyedCells", "keyWord", "(I)I"⟩ : MethodName), .code (⟨"KeyedCells", "keyWord", "(I)I"⟩ : MethodName) prog_1_method_12_code 2 (Option.some Jvm.ClassFile.FieldType.int), .methodLink "KeyedCellsLaw" 69 (⟨"KeyedCells", "nth", "(I)I"⟩ : MethodName), .instanceMethod (⟨"KeyedCells", "nth", "(I)I"⟩ : MethodName), .selects "KeyedCells" (⟨"KeyedCells", "nth", "(I)I"⟩ : MethodName) (⟨"KeyedCells", "nth", "(I)I"⟩ : MethodName)]
def BG_3 : List Cond := [.code (⟨"KeyedCells", "nth", "(I)I"⟩ : MethodName) prog_1_method_13_code 2 (Option.some Jvm.ClassFile.FieldType.int), .instanceMethod (⟨"KeyedCells$Table", "markAt", "(I)I"⟩ : MethodName), .code (⟨"KeyedCells$Table", "markAt", "(I)I"⟩ : MethodName) prog_3_method_13_code 2 (Option.some Jvm.ClassFile.FieldType.int), .methodLink "KeyedCellsLaw" 73 (⟨"KeyedCells", "filled", "(ZI)I"⟩ : MethodName), .instanceMethod (⟨"KeyedCells", "filled", "(ZI)I"⟩ : MethodName), .selects "KeyedCells" (⟨"KeyedCells", "filled", "(ZI)I"⟩ : MethodName) (⟨"KeyedCells", "filled", "(ZI)I"⟩ : MethodName), .code (⟨"KeyedCells", "filled", "(ZI)I"⟩ : MethodName) prog_1_method_14_code 3 (Option.some Jvm.ClassFile.FieldType.int), .methodLink "KeyedCellsLaw" 78 (⟨"KeyedCells", "above", "(I)I"⟩ : MethodName), .instanceMethod (⟨"KeyedCells", "above", "(I)I"⟩ : MethodName), .selects "KeyedCells" (⟨"KeyedCells", "above", "(I)I"⟩ : MethodName) (⟨"KeyedCells", "above", "(I)I"⟩ : MethodName), .code (⟨"KeyedCells", "above", "(I)I"⟩ : MethodName) prog_1_method_15_code 2 (Option.some Jvm.ClassFile.FieldType.int), .instanceMethod (⟨"KeyedCells$Table", "nearestAbove", "(II)I"⟩ : MethodName), .code (⟨"KeyedCells$Table", "nearestAbove", "(II)I"⟩ : MethodName) prog_3_method_14_code 6 (Option.some Jvm.ClassFile.FieldType.int), .methodLink "KeyedCellsLaw" 82 (⟨"KeyedCells", "sum", "()J"⟩ : MethodName), .instanceMethod (⟨"KeyedCells", "sum", "()J"⟩ : MethodName), .selects "KeyedCells" (⟨"KeyedCells", "sum", "()J"⟩ : MethodName) (⟨"KeyedCells", "sum", "()J"⟩ : MethodName), .code (⟨"KeyedCells", "sum", "()J"⟩ : MethodName) prog_1_method_16_code 1 (Option.some Jvm.ClassFile.FieldType.long), .methodLink "KeyedCells" 107 (⟨"KeyedCells", "sumOver", "(LKeyedCells$Table;)J"⟩ : MethodName), .instanceMethod (⟨"KeyedCells", "sumOver", "(LKeyedCells$Table;)J"⟩ : MethodName), .code (⟨"KeyedCells", "sumOver", "(LKeyedCells$Table;)J"⟩ : MethodName) prog_1_method_23_code 5 (Option.some Jvm.ClassFile.FieldType.long), .constantLong "KeyedCells" 126 2, .methodLink "KeyedCellsLaw" 87 (⟨"KeyedCells", "rekeys", "()I"⟩ : MethodName), .instanceMethod (⟨"KeyedCells", "rekeys", "()I"⟩ : MethodName), .selects "KeyedCells" (⟨"KeyedCells", "rekeys", "()I"⟩ : MethodName) (⟨"KeyedCells", "rekeys", "()I"⟩ : MethodName), .code (⟨"KeyedCells", "rekeys", "()I"⟩ : MethodName) prog_1_method_17_code 1 (Option.some Jvm.ClassFile.FieldType.int), .methodLink "KeyedCellsLaw" 9 (⟨"KeyedCellsLaw", "cell", "([II)I"⟩ : MethodName), .static (⟨"KeyedCellsLaw", "cell", "([II)I"⟩ : MethodName), .code (⟨"KeyedCellsLaw", "cell", "([II)I"⟩ : MethodName) method_2_code 2 (Option.some Jvm.ClassFile.FieldType.int), .classLink "KeyedCellsLaw" 18 "KeyedCellsModel", .instantiable "KeyedCellsModel" 24, .methodLink "KeyedCellsLaw" 20 (⟨"KeyedCellsModel", "<init>", "(III)V"⟩ : MethodName), .instanceMethod (⟨"KeyedCellsModel", "<init>", "(III)V"⟩ : MethodName), .code (⟨"KeyedCellsModel", "<init>", "(III)V"⟩ : MethodName) prog_5_method_1_code 4 (Option.none : Option Jvm.ClassFile.FieldType), .methodLink "KeyedCellsModel" 1 (⟨"java/lang/Object", "<init>", "()V"⟩ : MethodName), .constant "KeyedCellsModel" 38 (-1640531527), .methodLink "KeyedCellsModel" 39 (⟨"KeyedCellsModel", "mixed", "(I)I"⟩ : MethodName), .static (⟨"KeyedCellsModel", "mixed", "(I)I"⟩ : MethodName), .code (⟨"KeyedCellsModel", "mixed", "(I)I"⟩ : MethodName) prog_5_method_2_code 2 (Option.some Jvm.ClassFile.FieldType.int), .constant "KeyedCellsModel" 61 (-2048144789), .constant "KeyedCellsModel" 62 (-1028477387), .constant "KeyedCellsModel" 46 1013904242, .constant "KeyedCellsModel" 50 (-626627285), .constant "KeyedCellsModel" 54 2027808484, .methodLink "KeyedCellsModel" 58 (⟨"KeyedCellsModel", "drawKey", "()V"⟩ : MethodName), .instanceMethod (⟨"KeyedCellsModel", "drawKey", "()V"⟩ : MethodName), .code (⟨"KeyedCellsModel", "drawKey", "()V"⟩ : MethodName) prog_5_method_6_code 2 (Option.none : Option Jvm.ClassFile.FieldType), .methodLink "KeyedCellsModel" 69 (⟨"KeyedCellsModel", "draw", "()I"⟩ : MethodName), .instanceMethod (⟨"KeyedCellsModel", "draw", "()I"⟩ : MethodName), .code (⟨"KeyedCellsModel", "draw", "()I"⟩ : MethodName) prog_5_method_4_code 3 (Option.some Jvm.ClassFile.FieldType.int), .methodLink "KeyedCellsModel" 63 (⟨"KeyedCellsModel", "turned", "(II)I"⟩ : MethodName), .static (⟨"KeyedCellsModel", "turned", "(II)I"⟩ : MethodName), .code (⟨"KeyedCellsModel", "turned", "(II)I"⟩ : MethodName) prog_5_method_3_code 2 (Option.some Jvm.ClassFile.FieldType.int), .methodLink "KeyedCellsModel" 73 (⟨"KeyedCellsModel", "joined", "(II)J"⟩ : MethodName), .static (⟨"KeyedCellsModel", "joined", "(II)J"⟩ : MethodName), .code (⟨"KeyedCellsModel", "joined", "(II)J"⟩ : MethodName) prog_5_method_5_code 2 (Option.some Jvm.ClassFile.FieldType.long), .constantLong "KeyedCellsModel" 67 4294967295, .fieldLink "KeyedCellsModel" 31 "KeyedCellsModel" "cells" "I", .fieldLink "KeyedCellsModel" 35 "KeyedCellsModel" "limit" "I", .fieldLink "KeyedCellsModel" 43 "KeyedCellsModel" "a" "I", .fieldLink "KeyedCellsModel" 47 "KeyedCellsModel" "b" "I"]
def BG_4 : List Cond := [.fieldLink "KeyedCellsModel" 51 "KeyedCellsModel" "c" "I", .fieldLink "KeyedCellsModel" 55 "KeyedCellsModel" "d" "I", .fieldLink "KeyedCellsModel" 7 "KeyedCellsModel" "words" "[I", .fieldLink "KeyedCellsModel" 77 "KeyedCellsModel" "newK" "J", .fieldLink "KeyedCellsModel" 81 "KeyedCellsModel" "newL" "J", .fieldLink "KeyedCellsModel" 125 "KeyedCellsModel" "oldK" "J", .fieldLink "KeyedCellsModel" 128 "KeyedCellsModel" "oldL" "J", .fieldLink "KeyedCellsModel" 13 "KeyedCellsModel" "marks" "[I", .fieldLink "KeyedCellsModel" 16 "KeyedCellsModel" "keys" "[I", .fieldLink "KeyedCellsModel" 19 "KeyedCellsModel" "values" "[I", .fieldLink "KeyedCellsModel" 121 "KeyedCellsModel" "moving" "Z", .fieldLink "KeyedCellsModel" 22 "KeyedCellsModel" "oldMarks" "[I", .fieldLink "KeyedCellsModel" 25 "KeyedCellsModel" "oldKeys" "[I", .fieldLink "KeyedCellsModel" 28 "KeyedCellsModel" "oldValues" "[I", .fieldLink "KeyedCellsModel" 143 "KeyedCellsModel" "longest" "I", .fieldLink "KeyedCellsModel" 146 "KeyedCellsModel" "times" "I", .fieldLink "KeyedCellsModel" 84 "KeyedCellsModel" "p" "J", .fieldLink "KeyedCellsModel" 87 "KeyedCellsModel" "q" "J", .fieldLink "KeyedCellsModel" 90 "KeyedCellsModel" "\x72" "J", .fieldLink "KeyedCellsModel" 93 "KeyedCellsModel" "s" "J", .laysFinal "KeyedCellsModel" "KeyedCellsModel" "cells" "I", .laysFinal "KeyedCellsModel" "KeyedCellsModel" "limit" "I", .lays "KeyedCellsModel" "KeyedCellsModel" "a" "I", .lays "KeyedCellsModel" "KeyedCellsModel" "b" "I", .lays "KeyedCellsModel" "KeyedCellsModel" "c" "I", .lays "KeyedCellsModel" "KeyedCellsModel" "d" "I", .laysFinal "KeyedCellsModel" "KeyedCellsModel" "words" "[I", .lays "KeyedCellsModel" "KeyedCellsModel" "newK" "J", .lays "KeyedCellsModel" "KeyedCellsModel" "newL" "J", .lays "KeyedCellsModel" "KeyedCellsModel" "oldK" "J", .lays "KeyedCellsModel" "KeyedCellsModel" "oldL" "J", .laysFinal "KeyedCellsModel" "KeyedCellsModel" "marks" "[I", .laysFinal "KeyedCellsModel" "KeyedCellsModel" "keys" "[I", .laysFinal "KeyedCellsModel" "KeyedCellsModel" "values" "[I", .lays "KeyedCellsModel" "KeyedCellsModel" "moving" "Z", .laysFinal "KeyedCellsModel" "KeyedCellsModel" "oldMarks" "[I", .laysFinal "KeyedCellsModel" "KeyedCellsModel" "oldKeys" "[I", .laysFinal "KeyedCellsModel" "KeyedCellsModel" "oldValues" "[I", .lays "KeyedCellsModel" "KeyedCellsModel" "longest" "I", .lays "KeyedCellsModel" "KeyedCellsModel" "times" "I", .lays "KeyedCellsModel" "KeyedCellsModel" "p" "J", .lays "KeyedCellsModel" "KeyedCellsModel" "q" "J", .lays "KeyedCellsModel" "KeyedCellsModel" "\x72" "J", .lays "KeyedCellsModel" "KeyedCellsModel" "s" "J", .methodLink "KeyedCellsLaw" 25 (⟨"KeyedCellsModel", "put", "(II)I"⟩ : MethodName), .instanceMethod (⟨"KeyedCellsModel", "put", "(II)I"⟩ : MethodName), .selects "KeyedCellsModel" (⟨"KeyedCellsModel", "put", "(II)I"⟩ : MethodName) (⟨"KeyedCellsModel", "put", "(II)I"⟩ : MethodName), .code (⟨"KeyedCellsModel", "put", "(II)I"⟩ : MethodName) prog_5_method_19_code 7 (Option.some Jvm.ClassFile.FieldType.int), .methodLink "KeyedCellsModel" 137 (⟨"KeyedCellsModel", "step", "()I"⟩ : MethodName), .instanceMethod (⟨"KeyedCellsModel", "step", "()I"⟩ : MethodName), .code (⟨"KeyedCellsModel", "step", "()I"⟩ : MethodName) prog_5_method_17_code 4 (Option.some Jvm.ClassFile.FieldType.int), .methodLink "KeyedCellsModel" 131 (⟨"KeyedCellsModel", "nextOld", "()I"⟩ : MethodName), .instanceMethod (⟨"KeyedCellsModel", "nextOld", "()I"⟩ : MethodName), .code (⟨"KeyedCellsModel", "nextOld", "()I"⟩ : MethodName) prog_5_method_16_code 2 (Option.some Jvm.ClassFile.FieldType.int), .methodLink "KeyedCellsModel" 134 (⟨"KeyedCellsModel", "enter", "(II)I"⟩ : MethodName), .instanceMethod (⟨"KeyedCellsModel", "enter", "(II)I"⟩ : MethodName), .code (⟨"KeyedCellsModel", "enter", "(II)I"⟩ : MethodName) prog_5_method_15_code 6 (Option.some Jvm.ClassFile.FieldType.int), .methodLink "KeyedCellsModel" 118 (⟨"KeyedCellsModel", "home", "(I)I"⟩ : MethodName), .instanceMethod (⟨"KeyedCellsModel", "home", "(I)I"⟩ : MethodName), .code (⟨"KeyedCellsModel", "home", "(I)I"⟩ : MethodName) prog_5_method_10_code 2 (Option.some Jvm.ClassFile.FieldType.int)]
def BG_5 : List Cond := [.methodLink "KeyedCellsModel" 114 (⟨"KeyedCellsModel", "hash", "(JJI)J"⟩ : MethodName), .instanceMethod (⟨"KeyedCellsModel", "hash", "(JJI)J"⟩ : MethodName), .code (⟨"KeyedCellsModel", "hash", "(JJI)J"⟩ : MethodName) prog_5_method_9_code 9 (Option.some Jvm.ClassFile.FieldType.long), .constant "KeyedCellsModel" 100 67108864, .constantLong "KeyedCellsModel" 101 8317987319222330741, .constantLong "KeyedCellsModel" 103 7237128888997146477, .constantLong "KeyedCellsModel" 105 7816392313619706465, .constantLong "KeyedCellsModel" 107 8387220255154660723, .methodLink "KeyedCellsModel" 109 (⟨"KeyedCellsModel", "round", "()V"⟩ : MethodName), .instanceMethod (⟨"KeyedCellsModel", "round", "()V"⟩ : MethodName), .code (⟨"KeyedCellsModel", "round", "()V"⟩ : MethodName) prog_5_method_8_code 1 (Option.none : Option Jvm.ClassFile.FieldType), .methodLink "KeyedCellsModel" 96 (⟨"KeyedCellsModel", "around", "(JI)J"⟩ : MethodName), .static (⟨"KeyedCellsModel", "around", "(JI)J"⟩ : MethodName), .code (⟨"KeyedCellsModel", "around", "(JI)J"⟩ : MethodName) prog_5_method_7_code 3 (Option.some Jvm.ClassFile.FieldType.long), .constantLong "KeyedCellsModel" 112 255, .methodLink "KeyedCellsModel" 149 (⟨"KeyedCellsModel", "find", "(I)I"⟩ : MethodName), .instanceMethod (⟨"KeyedCellsModel", "find", "(I)I"⟩ : MethodName), .code (⟨"KeyedCellsModel", "find", "(I)I"⟩ : MethodName) prog_5_method_11_code 5 (Option.some Jvm.ClassFile.FieldType.int), .methodLink "KeyedCellsModel" 152 (⟨"KeyedCellsModel", "findOld", "(I)I"⟩ : MethodName), .instanceMethod (⟨"KeyedCellsModel", "findOld", "(I)I"⟩ : MethodName), .code (⟨"KeyedCellsModel", "findOld", "(I)I"⟩ : MethodName) prog_5_method_12_code 5 (Option.some Jvm.ClassFile.FieldType.int), .methodLink "KeyedCellsModel" 140 (⟨"KeyedCellsModel", "inNew", "()I"⟩ : MethodName), .instanceMethod (⟨"KeyedCellsModel", "inNew", "()I"⟩ : MethodName), .code (⟨"KeyedCellsModel", "inNew", "()I"⟩ : MethodName) prog_5_method_13_code 3 (Option.some Jvm.ClassFile.FieldType.int), .methodLink "KeyedCellsModel" 155 (⟨"KeyedCellsModel", "inOld", "()I"⟩ : MethodName), .instanceMethod (⟨"KeyedCellsModel", "inOld", "()I"⟩ : MethodName), .code (⟨"KeyedCellsModel", "inOld", "()I"⟩ : MethodName) prog_5_method_14_code 3 (Option.some Jvm.ClassFile.FieldType.int), .methodLink "KeyedCellsModel" 158 (⟨"KeyedCellsModel", "renew", "()I"⟩ : MethodName), .instanceMethod (⟨"KeyedCellsModel", "renew", "()I"⟩ : MethodName), .code (⟨"KeyedCellsModel", "renew", "()I"⟩ : MethodName) prog_5_method_18_code 3 (Option.some Jvm.ClassFile.FieldType.int), .methodLink "KeyedCellsLaw" 30 (⟨"KeyedCellsModel", "get", "(I)I"⟩ : MethodName), .instanceMethod (⟨"KeyedCellsModel", "get", "(I)I"⟩ : MethodName), .selects "KeyedCellsModel" (⟨"KeyedCellsModel", "get", "(I)I"⟩ : MethodName) (⟨"KeyedCellsModel", "get", "(I)I"⟩ : MethodName), .code (⟨"KeyedCellsModel", "get", "(I)I"⟩ : MethodName) prog_5_method_20_code 4 (Option.some Jvm.ClassFile.FieldType.int), .methodLink "KeyedCellsLaw" 35 (⟨"KeyedCellsModel", "has", "(I)Z"⟩ : MethodName), .instanceMethod (⟨"KeyedCellsModel", "has", "(I)Z"⟩ : MethodName), .selects "KeyedCellsModel" (⟨"KeyedCellsModel", "has", "(I)Z"⟩ : MethodName) (⟨"KeyedCellsModel", "has", "(I)Z"⟩ : MethodName), .code (⟨"KeyedCellsModel", "has", "(I)Z"⟩ : MethodName) prog_5_method_21_code 2 (Option.some Jvm.ClassFile.FieldType.boolean), .methodLink "KeyedCellsLaw" 39 (⟨"KeyedCellsModel", "remove", "(I)Z"⟩ : MethodName), .instanceMethod (⟨"KeyedCellsModel", "remove", "(I)Z"⟩ : MethodName), .selects "KeyedCellsModel" (⟨"KeyedCellsModel", "remove", "(I)Z"⟩ : MethodName) (⟨"KeyedCellsModel", "remove", "(I)Z"⟩ : MethodName), .code (⟨"KeyedCellsModel", "remove", "(I)Z"⟩ : MethodName) prog_5_method_24_code 4 (Option.some Jvm.ClassFile.FieldType.boolean), .methodLink "KeyedCellsModel" 164 (⟨"KeyedCellsModel", "close", "(I)V"⟩ : MethodName), .instanceMethod (⟨"KeyedCellsModel", "close", "(I)V"⟩ : MethodName), .code (⟨"KeyedCellsModel", "close", "(I)V"⟩ : MethodName) prog_5_method_23_code 7 (Option.none : Option Jvm.ClassFile.FieldType), .methodLink "KeyedCellsModel" 161 (⟨"KeyedCellsModel", "behind", "(II)I"⟩ : MethodName), .instanceMethod (⟨"KeyedCellsModel", "behind", "(II)I"⟩ : MethodName), .code (⟨"KeyedCellsModel", "behind", "(II)I"⟩ : MethodName) prog_5_method_22_code 3 (Option.some Jvm.ClassFile.FieldType.int), .methodLink "KeyedCellsLaw" 44 (⟨"KeyedCellsModel", "size", "()I"⟩ : MethodName), .instanceMethod (⟨"KeyedCellsModel", "size", "()I"⟩ : MethodName), .selects "KeyedCellsModel" (⟨"KeyedCellsModel", "size", "()I"⟩ : MethodName) (⟨"KeyedCellsModel", "size", "()I"⟩ : MethodName), .code (⟨"KeyedCellsModel", "size", "()I"⟩ : MethodName) prog_5_method_25_code 1 (Option.some Jvm.ClassFile.FieldType.int), .methodLink "KeyedCellsLaw" 48 (⟨"KeyedCellsModel", "probeMax", "()I"⟩ : MethodName), .instanceMethod (⟨"KeyedCellsModel", "probeMax", "()I"⟩ : MethodName), .selects "KeyedCellsModel" (⟨"KeyedCellsModel", "probeMax", "()I"⟩ : MethodName) (⟨"KeyedCellsModel", "probeMax", "()I"⟩ : MethodName), .code (⟨"KeyedCellsModel", "probeMax", "()I"⟩ : MethodName) prog_5_method_26_code 1 (Option.some Jvm.ClassFile.FieldType.int), .methodLink "KeyedCellsLaw" 52 (⟨"KeyedCellsModel", "rekey", "()I"⟩ : MethodName), .instanceMethod (⟨"KeyedCellsModel", "rekey", "()I"⟩ : MethodName), .selects "KeyedCellsModel" (⟨"KeyedCellsModel", "rekey", "()I"⟩ : MethodName) (⟨"KeyedCellsModel", "rekey", "()I"⟩ : MethodName), .code (⟨"KeyedCellsModel", "rekey", "()I"⟩ : MethodName) prog_5_method_27_code 1 (Option.some Jvm.ClassFile.FieldType.int)]
def BG_6 : List Cond := [.methodLink "KeyedCellsLaw" 56 (⟨"KeyedCellsModel", "migrateStep", "()I"⟩ : MethodName), .instanceMethod (⟨"KeyedCellsModel", "migrateStep", "()I"⟩ : MethodName), .selects "KeyedCellsModel" (⟨"KeyedCellsModel", "migrateStep", "()I"⟩ : MethodName) (⟨"KeyedCellsModel", "migrateStep", "()I"⟩ : MethodName), .code (⟨"KeyedCellsModel", "migrateStep", "()I"⟩ : MethodName) prog_5_method_28_code 2 (Option.some Jvm.ClassFile.FieldType.int), .methodLink "KeyedCellsLaw" 60 (⟨"KeyedCellsModel", "hashLo", "(I)I"⟩ : MethodName), .instanceMethod (⟨"KeyedCellsModel", "hashLo", "(I)I"⟩ : MethodName), .selects "KeyedCellsModel" (⟨"KeyedCellsModel", "hashLo", "(I)I"⟩ : MethodName) (⟨"KeyedCellsModel", "hashLo", "(I)I"⟩ : MethodName), .code (⟨"KeyedCellsModel", "hashLo", "(I)I"⟩ : MethodName) prog_5_method_29_code 2 (Option.some Jvm.ClassFile.FieldType.int), .methodLink "KeyedCellsLaw" 64 (⟨"KeyedCellsModel", "hashHi", "(I)I"⟩ : MethodName), .instanceMethod (⟨"KeyedCellsModel", "hashHi", "(I)I"⟩ : MethodName), .selects "KeyedCellsModel" (⟨"KeyedCellsModel", "hashHi", "(I)I"⟩ : MethodName) (⟨"KeyedCellsModel", "hashHi", "(I)I"⟩ : MethodName), .code (⟨"KeyedCellsModel", "hashHi", "(I)I"⟩ : MethodName) prog_5_method_30_code 2 (Option.some Jvm.ClassFile.FieldType.int), .methodLink "KeyedCellsLaw" 68 (⟨"KeyedCellsModel", "keyWord", "(I)I"⟩ : MethodName), .instanceMethod (⟨"KeyedCellsModel", "keyWord", "(I)I"⟩ : MethodName), .selects "KeyedCellsModel" (⟨"KeyedCellsModel", "keyWord", "(I)I"⟩ : MethodName) (⟨"KeyedCellsModel", "keyWord", "(I)I"⟩ : MethodName), .code (⟨"KeyedCellsModel", "keyWord", "(I)I"⟩ : MethodName) prog_5_method_31_code 2 (Option.some Jvm.ClassFile.FieldType.int), .methodLink "KeyedCellsLaw" 72 (⟨"KeyedCellsModel", "nth", "(I)I"⟩ : MethodName), .instanceMethod (⟨"KeyedCellsModel", "nth", "(I)I"⟩ : MethodName), .selects "KeyedCellsModel" (⟨"KeyedCellsModel", "nth", "(I)I"⟩ : MethodName) (⟨"KeyedCellsModel", "nth", "(I)I"⟩ : MethodName), .code (⟨"KeyedCellsModel", "nth", "(I)I"⟩ : MethodName) prog_5_method_32_code 2 (Option.some Jvm.ClassFile.FieldType.int), .methodLink "KeyedCellsLaw" 77 (⟨"KeyedCellsModel", "filled", "(ZI)I"⟩ : MethodName), .instanceMethod (⟨"KeyedCellsModel", "filled", "(ZI)I"⟩ : MethodName), .selects "KeyedCellsModel" (⟨"KeyedCellsModel", "filled", "(ZI)I"⟩ : MethodName) (⟨"KeyedCellsModel", "filled", "(ZI)I"⟩ : MethodName), .code (⟨"KeyedCellsModel", "filled", "(ZI)I"⟩ : MethodName) prog_5_method_33_code 3 (Option.some Jvm.ClassFile.FieldType.int), .methodLink "KeyedCellsLaw" 81 (⟨"KeyedCellsModel", "above", "(I)I"⟩ : MethodName), .instanceMethod (⟨"KeyedCellsModel", "above", "(I)I"⟩ : MethodName), .selects "KeyedCellsModel" (⟨"KeyedCellsModel", "above", "(I)I"⟩ : MethodName) (⟨"KeyedCellsModel", "above", "(I)I"⟩ : MethodName), .code (⟨"KeyedCellsModel", "above", "(I)I"⟩ : MethodName) prog_5_method_34_code 6 (Option.some Jvm.ClassFile.FieldType.int), .methodLink "KeyedCellsLaw" 86 (⟨"KeyedCellsModel", "sum", "()J"⟩ : MethodName), .instanceMethod (⟨"KeyedCellsModel", "sum", "()J"⟩ : MethodName), .selects "KeyedCellsModel" (⟨"KeyedCellsModel", "sum", "()J"⟩ : MethodName) (⟨"KeyedCellsModel", "sum", "()J"⟩ : MethodName), .code (⟨"KeyedCellsModel", "sum", "()J"⟩ : MethodName) prog_5_method_35_code 4 (Option.some Jvm.ClassFile.FieldType.long), .constantLong "KeyedCellsModel" 168 2, .methodLink "KeyedCellsLaw" 90 (⟨"KeyedCellsModel", "rekeys", "()I"⟩ : MethodName), .instanceMethod (⟨"KeyedCellsModel", "rekeys", "()I"⟩ : MethodName), .selects "KeyedCellsModel" (⟨"KeyedCellsModel", "rekeys", "()I"⟩ : MethodName) (⟨"KeyedCellsModel", "rekeys", "()I"⟩ : MethodName), .code (⟨"KeyedCellsModel", "rekeys", "()I"⟩ : MethodName) prog_5_method_36_code 1 (Option.some Jvm.ClassFile.FieldType.int), .selects "KeyedCells" (⟨"KeyedCells", "beginNewTable", "()V"⟩ : MethodName) (⟨"KeyedCells", "beginNewTable", "()V"⟩ : MethodName), .selects "KeyedCells$Table" (⟨"KeyedCells$Table", "clear", "()V"⟩ : MethodName) (⟨"KeyedCells$Table", "clear", "()V"⟩ : MethodName), .selects "KeyedCells$Generator" (⟨"KeyedCells$Generator", "draw", "()I"⟩ : MethodName) (⟨"KeyedCells$Generator", "draw", "()I"⟩ : MethodName), .selects "KeyedCells" (⟨"KeyedCells", "makeStep", "()I"⟩ : MethodName) (⟨"KeyedCells", "makeStep", "()I"⟩ : MethodName), .selects "KeyedCells$Table" (⟨"KeyedCells$Table", "markGone", "(I)V"⟩ : MethodName) (⟨"KeyedCells$Table", "markGone", "(I)V"⟩ : MethodName), .selects "KeyedCells$Table" (⟨"KeyedCells$Table", "place", "(II)I"⟩ : MethodName) (⟨"KeyedCells$Table", "place", "(II)I"⟩ : MethodName), .selects "KeyedCells$Table" (⟨"KeyedCells$Table", "homeOf", "(I)I"⟩ : MethodName) (⟨"KeyedCells$Table", "homeOf", "(I)I"⟩ : MethodName), .selects "KeyedCells$Table" (⟨"KeyedCells$Table", "hashOf", "(I)J"⟩ : MethodName) (⟨"KeyedCells$Table", "hashOf", "(I)J"⟩ : MethodName), .selects "KeyedCells$Table" (⟨"KeyedCells$Table", "fill", "(III)V"⟩ : MethodName) (⟨"KeyedCells$Table", "fill", "(III)V"⟩ : MethodName), .selects "KeyedCells" (⟨"KeyedCells", "holderOf", "(I)LKeyedCells$Table;"⟩ : MethodName) (⟨"KeyedCells", "holderOf", "(I)LKeyedCells$Table;"⟩ : MethodName), .selects "KeyedCells$Table" (⟨"KeyedCells$Table", "cellOf", "(I)I"⟩ : MethodName) (⟨"KeyedCells$Table", "cellOf", "(I)I"⟩ : MethodName), .selects "KeyedCells$Table" (⟨"KeyedCells$Table", "change", "(II)V"⟩ : MethodName) (⟨"KeyedCells$Table", "change", "(II)V"⟩ : MethodName), .selects "KeyedCells" (⟨"KeyedCells", "boundCount", "()I"⟩ : MethodName) (⟨"KeyedCells", "boundCount", "()I"⟩ : MethodName), .selects "KeyedCells" (⟨"KeyedCells", "drawNewKey", "()I"⟩ : MethodName) (⟨"KeyedCells", "drawNewKey", "()I"⟩ : MethodName), .selects "KeyedCells$Table" (⟨"KeyedCells$Table", "valueOf", "(I)I"⟩ : MethodName) (⟨"KeyedCells$Table", "valueOf", "(I)I"⟩ : MethodName), .selects "KeyedCells$Table" (⟨"KeyedCells$Table", "takeOut", "(I)V"⟩ : MethodName) (⟨"KeyedCells$Table", "takeOut", "(I)V"⟩ : MethodName), .selects "KeyedCells$Table" (⟨"KeyedCells$Table", "markAt", "(I)I"⟩ : MethodName) (⟨"KeyedCells$Table", "markAt", "(I)I"⟩ : MethodName), .selects "KeyedCells$Table" (⟨"KeyedCells$Table", "nearestAbove", "(II)I"⟩ : MethodName) (⟨"KeyedCells$Table", "nearestAbove", "(II)I"⟩ : MethodName), .selects "KeyedCells" (⟨"KeyedCells", "sumOver", "(LKeyedCells$Table;)J"⟩ : MethodName) (⟨"KeyedCells", "sumOver", "(LKeyedCells$Table;)J"⟩ : MethodName), .selects "KeyedCellsModel" (⟨"KeyedCellsModel", "drawKey", "()V"⟩ : MethodName) (⟨"KeyedCellsModel", "drawKey", "()V"⟩ : MethodName), .selects "KeyedCellsModel" (⟨"KeyedCellsModel", "draw", "()I"⟩ : MethodName) (⟨"KeyedCellsModel", "draw", "()I"⟩ : MethodName), .selects "KeyedCellsModel" (⟨"KeyedCellsModel", "step", "()I"⟩ : MethodName) (⟨"KeyedCellsModel", "step", "()I"⟩ : MethodName), .selects "KeyedCellsModel" (⟨"KeyedCellsModel", "nextOld", "()I"⟩ : MethodName) (⟨"KeyedCellsModel", "nextOld", "()I"⟩ : MethodName)]
def BG_7 : List Cond := [.selects "KeyedCellsModel" (⟨"KeyedCellsModel", "enter", "(II)I"⟩ : MethodName) (⟨"KeyedCellsModel", "enter", "(II)I"⟩ : MethodName), .selects "KeyedCellsModel" (⟨"KeyedCellsModel", "home", "(I)I"⟩ : MethodName) (⟨"KeyedCellsModel", "home", "(I)I"⟩ : MethodName), .selects "KeyedCellsModel" (⟨"KeyedCellsModel", "hash", "(JJI)J"⟩ : MethodName) (⟨"KeyedCellsModel", "hash", "(JJI)J"⟩ : MethodName), .selects "KeyedCellsModel" (⟨"KeyedCellsModel", "round", "()V"⟩ : MethodName) (⟨"KeyedCellsModel", "round", "()V"⟩ : MethodName), .selects "KeyedCellsModel" (⟨"KeyedCellsModel", "find", "(I)I"⟩ : MethodName) (⟨"KeyedCellsModel", "find", "(I)I"⟩ : MethodName), .selects "KeyedCellsModel" (⟨"KeyedCellsModel", "findOld", "(I)I"⟩ : MethodName) (⟨"KeyedCellsModel", "findOld", "(I)I"⟩ : MethodName), .selects "KeyedCellsModel" (⟨"KeyedCellsModel", "inNew", "()I"⟩ : MethodName) (⟨"KeyedCellsModel", "inNew", "()I"⟩ : MethodName), .selects "KeyedCellsModel" (⟨"KeyedCellsModel", "inOld", "()I"⟩ : MethodName) (⟨"KeyedCellsModel", "inOld", "()I"⟩ : MethodName), .selects "KeyedCellsModel" (⟨"KeyedCellsModel", "renew", "()I"⟩ : MethodName) (⟨"KeyedCellsModel", "renew", "()I"⟩ : MethodName), .selects "KeyedCellsModel" (⟨"KeyedCellsModel", "close", "(I)V"⟩ : MethodName) (⟨"KeyedCellsModel", "close", "(I)V"⟩ : MethodName), .selects "KeyedCellsModel" (⟨"KeyedCellsModel", "behind", "(II)I"⟩ : MethodName) (⟨"KeyedCellsModel", "behind", "(II)I"⟩ : MethodName)]
/-- the words of the tables that all the contracts stand on -/
def BG : List Cond := BG_0 ++ (BG_1 ++ (BG_2 ++ (BG_3 ++ (BG_4 ++ (BG_5 ++ (BG_6 ++ (BG_7)))))))
theorem wk_0 : Cond.initialized "KeyedCellsLaw" ∈ BG := List.mem_of_getElem? (i := 0) (by decide +kernel)
theorem wk_1 : Cond.initialized "KeyedCells" ∈ BG := List.mem_of_getElem? (i := 1) (by decide +kernel)
theorem wk_2 : Cond.initialized "java/lang/Math" ∈ BG := List.mem_of_getElem? (i := 2) (by decide +kernel)
theorem wk_3 : Cond.initialized "KeyedCells$Generator" ∈ BG := List.mem_of_getElem? (i := 3) (by decide +kernel)
theorem wk_4 : Cond.initialized "KeyedCells$Table" ∈ BG := List.mem_of_getElem? (i := 4) (by decide +kernel)
theorem wk_5 : Cond.initialized "java/lang/Integer" ∈ BG := List.mem_of_getElem? (i := 5) (by decide +kernel)
theorem wk_6 : Cond.initialized "KeyedCellsModel" ∈ BG := List.mem_of_getElem? (i := 6) (by decide +kernel)
theorem wk_7 : Cond.initialized "java/lang/Long" ∈ BG := List.mem_of_getElem? (i := 7) (by decide +kernel)
theorem wk_8 : Cond.classLink "KeyedCellsLaw" 7 "KeyedCells" ∈ BG := List.mem_of_getElem? (i := 8) (by decide +kernel)
theorem wk_9 : Cond.instantiable "KeyedCells" 7 ∈ BG := List.mem_of_getElem? (i := 9) (by decide +kernel)
theorem wk_10 : Cond.methodLink "KeyedCellsLaw" 15 (⟨"KeyedCells", "<init>", "(III)V"⟩ : MethodName) ∈ BG := List.mem_of_getElem? (i := 10) (by decide +kernel)
theorem wk_11 : Cond.instanceMethod (⟨"KeyedCells", "<init>", "(III)V"⟩ : MethodName) ∈ BG := List.mem_of_getElem? (i := 11) (by decide +kernel)
theorem wk_12 : Cond.code (⟨"KeyedCells", "<init>", "(III)V"⟩ : MethodName) prog_1_method_1_code 5 (Option.none : Option Jvm.ClassFile.FieldType) ∈ BG := List.mem_of_getElem? (i := 12) (by decide +kernel)
theorem wk_13 : Cond.methodLink "KeyedCells" 1 (⟨"java/lang/Object", "<init>", "()V"⟩ : MethodName) ∈ BG := List.mem_of_getElem? (i := 13) (by decide +kernel)
theorem wk_14 : Cond.instanceMethod (⟨"java/lang/Object", "<init>", "()V"⟩ : MethodName) ∈ BG := List.mem_of_getElem? (i := 14) (by decide +kernel)
theorem wk_15 : Cond.code (⟨"java/lang/Object", "<init>", "()V"⟩ : MethodName) object_method_1_code 1 (Option.none : Option Jvm.ClassFile.FieldType) ∈ BG := List.mem_of_getElem? (i := 15) (by decide +kernel)
theorem wk_16 : Cond.methodLink "KeyedCells" 9 (⟨"java/lang/Math", "min", "(II)I"⟩ : MethodName) ∈ BG := List.mem_of_getElem? (i := 16) (by decide +kernel)
theorem wk_17 : Cond.static (⟨"java/lang/Math", "min", "(II)I"⟩ : MethodName) ∈ BG := List.mem_of_getElem? (i := 17) (by decide +kernel)
theorem wk_18 : Cond.code (⟨"java/lang/Math", "min", "(II)I"⟩ : MethodName) prog_8_method_69_code 2 (Option.some Jvm.ClassFile.FieldType.int) ∈ BG := List.mem_of_getElem? (i := 18) (by decide +kernel)
theorem wk_19 : Cond.methodLink "KeyedCells" 15 (⟨"java/lang/Math", "max", "(II)I"⟩ : MethodName) ∈ BG := List.mem_of_getElem? (i := 19) (by decide +kernel)
theorem wk_20 : Cond.static (⟨"java/lang/Math", "max", "(II)I"⟩ : MethodName) ∈ BG := List.mem_of_getElem? (i := 20) (by decide +kernel)
theorem wk_21 : Cond.code (⟨"java/lang/Math", "max", "(II)I"⟩ : MethodName) prog_8_method_65_code 2 (Option.some Jvm.ClassFile.FieldType.int) ∈ BG := List.mem_of_getElem? (i := 21) (by decide +kernel)
theorem wk_22 : Cond.classLink "KeyedCells" 25 "KeyedCells$Generator" ∈ BG := List.mem_of_getElem? (i := 22) (by decide +kernel)
theorem wk_23 : Cond.instantiable "KeyedCells$Generator" 4 ∈ BG := List.mem_of_getElem? (i := 23) (by decide +kernel)
theorem wk_24 : Cond.instanceMethod (⟨"KeyedCells$Generator", "<init>", "(I)V"⟩ : MethodName) ∈ BG := List.mem_of_getElem? (i := 24) (by decide +kernel)
theorem wk_25 : Cond.code (⟨"KeyedCells$Generator", "<init>", "(I)V"⟩ : MethodName) prog_2_method_1_code 2 (Option.none : Option Jvm.ClassFile.FieldType) ∈ BG := List.mem_of_getElem? (i := 25) (by decide +kernel)
theorem wk_26 : Cond.methodLink "KeyedCells$Generator" 1 (⟨"java/lang/Object", "<init>", "()V"⟩ : MethodName) ∈ BG := List.mem_of_getElem? (i := 26) (by decide +kernel)
theorem wk_27 : Cond.constant "KeyedCells$Generator" 9 (-1640531527) ∈ BG := List.mem_of_getElem? (i := 27) (by decide +kernel)
theorem wk_28 : Cond.methodLink "KeyedCells$Generator" 10 (⟨"KeyedCells$Generator", "mixed", "(I)I"⟩ : MethodName) ∈ BG := List.mem_of_getElem? (i := 28) (by decide +kernel)
theorem wk_29 : Cond.static (⟨"KeyedCells$Generator", "mixed", "(I)I"⟩ : MethodName) ∈ BG := List.mem_of_getElem? (i := 29) (by decide +kernel)
theorem wk_30 : Cond.code (⟨"KeyedCells$Generator", "mixed", "(I)I"⟩ : MethodName) prog_2_method_2_code 2 (Option.some Jvm.ClassFile.FieldType.int) ∈ BG := List.mem_of_getElem? (i := 30) (by decide +kernel)
theorem wk_31 : Cond.constant "KeyedCells$Generator" 30 (-2048144789) ∈ BG := List.mem_of_getElem? (i := 31) (by decide +kernel)
theorem wk_32 : Cond.constant "KeyedCells$Generator" 31 (-1028477387) ∈ BG := List.mem_of_getElem? (i := 32) (by decide +kernel)
theorem wk_33 : Cond.constant "KeyedCells$Generator" 18 1013904242 ∈ BG := List.mem_of_getElem? (i := 33) (by decide +kernel)
theorem wk_34 : Cond.constant "KeyedCells$Generator" 22 (-626627285) ∈ BG := List.mem_of_getElem? (i := 34) (by decide +kernel)
theorem wk_35 : Cond.constant "KeyedCells$Generator" 26 2027808484 ∈ BG := List.mem_of_getElem? (i := 35) (by decide +kernel)
theorem wk_36 : Cond.fieldLink "KeyedCells$Generator" 14 "KeyedCells$Generator" "a" "I" ∈ BG := List.mem_of_getElem? (i := 36) (by decide +kernel)
theorem wk_37 : Cond.fieldLink "KeyedCells$Generator" 19 "KeyedCells$Generator" "b" "I" ∈ BG := List.mem_of_getElem? (i := 37) (by decide +kernel)
theorem wk_38 : Cond.fieldLink "KeyedCells$Generator" 23 "KeyedCells$Generator" "c" "I" ∈ BG := List.mem_of_getElem? (i := 38) (by decide +kernel)
theorem wk_39 : Cond.fieldLink "KeyedCells$Generator" 27 "KeyedCells$Generator" "d" "I" ∈ BG := List.mem_of_getElem? (i := 39) (by decide +kernel)
theorem wk_40 : Cond.lays "KeyedCells$Generator" "KeyedCells$Generator" "a" "I" ∈ BG := List.mem_of_getElem? (i := 40) (by decide +kernel)
theorem wk_41 : Cond.lays "KeyedCells$Generator" "KeyedCells$Generator" "b" "I" ∈ BG := List.mem_of_getElem? (i := 41) (by decide +kernel)
theorem wk_42 : Cond.lays "KeyedCells$Generator" "KeyedCells$Generator" "c" "I" ∈ BG := List.mem_of_getElem? (i := 42) (by decide +kernel)
theorem wk_43 : Cond.lays "KeyedCells$Generator" "KeyedCells$Generator" "d" "I" ∈ BG := List.mem_of_getElem? (i := 43) (by decide +kernel)
theorem wk_44 : Cond.classLink "KeyedCells" 34 "KeyedCells$Table" ∈ BG := List.mem_of_getElem? (i := 44) (by decide +kernel)
theorem wk_45 : Cond.instantiable "KeyedCells$Table" 6 ∈ BG := List.mem_of_getElem? (i := 45) (by decide +kernel)
theorem wk_46 : Cond.instanceMethod (⟨"KeyedCells$Table", "<init>", "(I)V"⟩ : MethodName) ∈ BG := List.mem_of_getElem? (i := 46) (by decide +kernel)
theorem wk_47 : Cond.code (⟨"KeyedCells$Table", "<init>", "(I)V"⟩ : MethodName) prog_3_method_1_code 2 (Option.none : Option Jvm.ClassFile.FieldType) ∈ BG := List.mem_of_getElem? (i := 47) (by decide +kernel)
theorem wk_48 : Cond.methodLink "KeyedCells$Table" 3 (⟨"java/lang/Object", "<init>", "()V"⟩ : MethodName) ∈ BG := List.mem_of_getElem? (i := 48) (by decide +kernel)
theorem wk_49 : Cond.fieldLink "KeyedCells$Table" 9 "KeyedCells$Table" "mask" "I" ∈ BG := List.mem_of_getElem? (i := 49) (by decide +kernel)
theorem wk_50 : Cond.fieldLink "KeyedCells$Table" 15 "KeyedCells$Table" "marks" "[I" ∈ BG := List.mem_of_getElem? (i := 50) (by decide +kernel)
theorem wk_51 : Cond.fieldLink "KeyedCells$Table" 19 "KeyedCells$Table" "keys" "[I" ∈ BG := List.mem_of_getElem? (i := 51) (by decide +kernel)
theorem wk_52 : Cond.fieldLink "KeyedCells$Table" 22 "KeyedCells$Table" "values" "[I" ∈ BG := List.mem_of_getElem? (i := 52) (by decide +kernel)
theorem wk_53 : Cond.fieldLink "KeyedCells$Table" 25 "KeyedCells$Table" "words" "[I" ∈ BG := List.mem_of_getElem? (i := 53) (by decide +kernel)
theorem wk_54 : Cond.fieldLink "KeyedCells$Table" 28 "KeyedCells$Table" "count" "I" ∈ BG := List.mem_of_getElem? (i := 54) (by decide +kernel)
theorem wk_55 : Cond.laysFinal "KeyedCells$Table" "KeyedCells$Table" "mask" "I" ∈ BG := List.mem_of_getElem? (i := 55) (by decide +kernel)
theorem wk_56 : Cond.laysFinal "KeyedCells$Table" "KeyedCells$Table" "marks" "[I" ∈ BG := List.mem_of_getElem? (i := 56) (by decide +kernel)
theorem wk_57 : Cond.laysFinal "KeyedCells$Table" "KeyedCells$Table" "keys" "[I" ∈ BG := List.mem_of_getElem? (i := 57) (by decide +kernel)
theorem wk_58 : Cond.laysFinal "KeyedCells$Table" "KeyedCells$Table" "values" "[I" ∈ BG := List.mem_of_getElem? (i := 58) (by decide +kernel)
theorem wk_59 : Cond.laysFinal "KeyedCells$Table" "KeyedCells$Table" "words" "[I" ∈ BG := List.mem_of_getElem? (i := 59) (by decide +kernel)
theorem wk_60 : Cond.lays "KeyedCells$Table" "KeyedCells$Table" "count" "I" ∈ BG := List.mem_of_getElem? (i := 60) (by decide +kernel)
theorem wk_61 : Cond.arrayClass Jvm.ClassFile.FieldType.int ∈ BG := List.mem_of_getElem? (i := 61) (by decide +kernel)
theorem wk_62 : Cond.methodLink "KeyedCells" 50 (⟨"KeyedCells", "beginNewTable", "()V"⟩ : MethodName) ∈ BG := List.mem_of_getElem? (i := 62) (by decide +kernel)
theorem wk_63 : Cond.instanceMethod (⟨"KeyedCells", "beginNewTable", "()V"⟩ : MethodName) ∈ BG := List.mem_of_getElem? (i := 63) (by decide +kernel)
theorem wk_64 : Cond.code (⟨"KeyedCells", "beginNewTable", "()V"⟩ : MethodName) prog_1_method_22_code 2 (Option.none : Option Jvm.ClassFile.FieldType) ∈ BG := List.mem_of_getElem? (i := 64) (by decide +kernel)
theorem wk_65 : Cond.instanceMethod (⟨"KeyedCells$Table", "clear", "()V"⟩ : MethodName) ∈ BG := List.mem_of_getElem? (i := 65) (by decide +kernel)
theorem wk_66 : Cond.code (⟨"KeyedCells$Table", "clear", "()V"⟩ : MethodName) prog_3_method_2_code 2 (Option.none : Option Jvm.ClassFile.FieldType) ∈ BG := List.mem_of_getElem? (i := 66) (by decide +kernel)
theorem wk_67 : Cond.instanceMethod (⟨"KeyedCells$Generator", "draw", "()I"⟩ : MethodName) ∈ BG := List.mem_of_getElem? (i := 67) (by decide +kernel)
theorem wk_68 : Cond.code (⟨"KeyedCells$Generator", "draw", "()I"⟩ : MethodName) prog_2_method_3_code 3 (Option.some Jvm.ClassFile.FieldType.int) ∈ BG := List.mem_of_getElem? (i := 68) (by decide +kernel)
theorem wk_69 : Cond.methodLink "KeyedCells$Generator" 32 (⟨"java/lang/Integer", "rotateLeft", "(II)I"⟩ : MethodName) ∈ BG := List.mem_of_getElem? (i := 69) (by decide +kernel)
theorem wk_70 : Cond.static (⟨"java/lang/Integer", "rotateLeft", "(II)I"⟩ : MethodName) ∈ BG := List.mem_of_getElem? (i := 70) (by decide +kernel)
theorem wk_71 : Cond.code (⟨"java/lang/Integer", "rotateLeft", "(II)I"⟩ : MethodName) prog_6_method_50_code 2 (Option.some Jvm.ClassFile.FieldType.int) ∈ BG := List.mem_of_getElem? (i := 71) (by decide +kernel)
theorem wk_72 : Cond.fieldLink "KeyedCells" 18 "KeyedCells" "runLimit" "I" ∈ BG := List.mem_of_getElem? (i := 72) (by decide +kernel)
theorem wk_73 : Cond.fieldLink "KeyedCells" 22 "KeyedCells" "mostBound" "I" ∈ BG := List.mem_of_getElem? (i := 73) (by decide +kernel)
theorem wk_74 : Cond.fieldLink "KeyedCells" 30 "KeyedCells" "generator" "LKeyedCells$Generator;" ∈ BG := List.mem_of_getElem? (i := 74) (by decide +kernel)
theorem wk_75 : Cond.fieldLink "KeyedCells" 37 "KeyedCells" "newTable" "LKeyedCells$Table;" ∈ BG := List.mem_of_getElem? (i := 75) (by decide +kernel)
theorem wk_76 : Cond.fieldLink "KeyedCells" 41 "KeyedCells" "oldTable" "LKeyedCells$Table;" ∈ BG := List.mem_of_getElem? (i := 76) (by decide +kernel)
theorem wk_77 : Cond.fieldLink "KeyedCells" 44 "KeyedCells" "longestRun" "I" ∈ BG := List.mem_of_getElem? (i := 77) (by decide +kernel)
theorem wk_78 : Cond.fieldLink "KeyedCells" 47 "KeyedCells" "rekeyCount" "I" ∈ BG := List.mem_of_getElem? (i := 78) (by decide +kernel)
theorem wk_79 : Cond.laysFinal "KeyedCells" "KeyedCells" "runLimit" "I" ∈ BG := List.mem_of_getElem? (i := 79) (by decide +kernel)
theorem wk_80 : Cond.laysFinal "KeyedCells" "KeyedCells" "mostBound" "I" ∈ BG := List.mem_of_getElem? (i := 80) (by decide +kernel)
theorem wk_81 : Cond.laysFinal "KeyedCells" "KeyedCells" "generator" "LKeyedCells$Generator;" ∈ BG := List.mem_of_getElem? (i := 81) (by decide +kernel)
theorem wk_82 : Cond.lays "KeyedCells" "KeyedCells" "newTable" "LKeyedCells$Table;" ∈ BG := List.mem_of_getElem? (i := 82) (by decide +kernel)
theorem wk_83 : Cond.lays "KeyedCells" "KeyedCells" "oldTable" "LKeyedCells$Table;" ∈ BG := List.mem_of_getElem? (i := 83) (by decide +kernel)
theorem wk_84 : Cond.lays "KeyedCells" "KeyedCells" "longestRun" "I" ∈ BG := List.mem_of_getElem? (i := 84) (by decide +kernel)
theorem wk_85 : Cond.lays "KeyedCells" "KeyedCells" "rekeyCount" "I" ∈ BG := List.mem_of_getElem? (i := 85) (by decide +kernel)
theorem wk_86 : Cond.methodLink "KeyedCellsLaw" 21 (⟨"KeyedCells", "put", "(II)I"⟩ : MethodName) ∈ BG := List.mem_of_getElem? (i := 86) (by decide +kernel)
theorem wk_87 : Cond.instanceMethod (⟨"KeyedCells", "put", "(II)I"⟩ : MethodName) ∈ BG := List.mem_of_getElem? (i := 87) (by decide +kernel)
theorem wk_88 : Cond.selects "KeyedCells" (⟨"KeyedCells", "put", "(II)I"⟩ : MethodName) (⟨"KeyedCells", "put", "(II)I"⟩ : MethodName) ∈ BG := List.mem_of_getElem? (i := 88) (by decide +kernel)
theorem wk_89 : Cond.code (⟨"KeyedCells", "put", "(II)I"⟩ : MethodName) prog_1_method_2_code 5 (Option.some Jvm.ClassFile.FieldType.int) ∈ BG := List.mem_of_getElem? (i := 89) (by decide +kernel)
theorem wk_90 : Cond.methodLink "KeyedCells" 53 (⟨"KeyedCells", "makeStep", "()I"⟩ : MethodName) ∈ BG := List.mem_of_getElem? (i := 90) (by decide +kernel)
theorem wk_91 : Cond.instanceMethod (⟨"KeyedCells", "makeStep", "()I"⟩ : MethodName) ∈ BG := List.mem_of_getElem? (i := 91) (by decide +kernel)
theorem wk_92 : Cond.code (⟨"KeyedCells", "makeStep", "()I"⟩ : MethodName) prog_1_method_20_code 3 (Option.some Jvm.ClassFile.FieldType.int) ∈ BG := List.mem_of_getElem? (i := 92) (by decide +kernel)
theorem wk_93 : Cond.instanceMethod (⟨"KeyedCells$Table", "markGone", "(I)V"⟩ : MethodName) ∈ BG := List.mem_of_getElem? (i := 93) (by decide +kernel)
theorem wk_94 : Cond.code (⟨"KeyedCells$Table", "markGone", "(I)V"⟩ : MethodName) prog_3_method_12_code 2 (Option.none : Option Jvm.ClassFile.FieldType) ∈ BG := List.mem_of_getElem? (i := 94) (by decide +kernel)
theorem wk_95 : Cond.instanceMethod (⟨"KeyedCells$Table", "place", "(II)I"⟩ : MethodName) ∈ BG := List.mem_of_getElem? (i := 95) (by decide +kernel)
theorem wk_96 : Cond.code (⟨"KeyedCells$Table", "place", "(II)I"⟩ : MethodName) prog_3_method_9_code 5 (Option.some Jvm.ClassFile.FieldType.int) ∈ BG := List.mem_of_getElem? (i := 96) (by decide +kernel)
theorem wk_97 : Cond.methodLink "KeyedCells$Table" 58 (⟨"KeyedCells$Table", "homeOf", "(I)I"⟩ : MethodName) ∈ BG := List.mem_of_getElem? (i := 97) (by decide +kernel)
theorem wk_98 : Cond.instanceMethod (⟨"KeyedCells$Table", "homeOf", "(I)I"⟩ : MethodName) ∈ BG := List.mem_of_getElem? (i := 98) (by decide +kernel)
theorem wk_99 : Cond.code (⟨"KeyedCells$Table", "homeOf", "(I)I"⟩ : MethodName) prog_3_method_5_code 2 (Option.some Jvm.ClassFile.FieldType.int) ∈ BG := List.mem_of_getElem? (i := 99) (by decide +kernel)
theorem wk_100 : Cond.methodLink "KeyedCells$Table" 54 (⟨"KeyedCells$Table", "hashOf", "(I)J"⟩ : MethodName) ∈ BG := List.mem_of_getElem? (i := 100) (by decide +kernel)
theorem wk_101 : Cond.instanceMethod (⟨"KeyedCells$Table", "hashOf", "(I)J"⟩ : MethodName) ∈ BG := List.mem_of_getElem? (i := 101) (by decide +kernel)
theorem wk_102 : Cond.code (⟨"KeyedCells$Table", "hashOf", "(I)J"⟩ : MethodName) prog_3_method_3_code 17 (Option.some Jvm.ClassFile.FieldType.long) ∈ BG := List.mem_of_getElem? (i := 102) (by decide +kernel)
theorem wk_103 : Cond.methodLink "KeyedCells$Table" 31 (⟨"KeyedCells$Table", "joined", "(II)J"⟩ : MethodName) ∈ BG := List.mem_of_getElem? (i := 103) (by decide +kernel)
theorem wk_104 : Cond.static (⟨"KeyedCells$Table", "joined", "(II)J"⟩ : MethodName) ∈ BG := List.mem_of_getElem? (i := 104) (by decide +kernel)
theorem wk_105 : Cond.code (⟨"KeyedCells$Table", "joined", "(II)J"⟩ : MethodName) prog_3_method_4_code 2 (Option.some Jvm.ClassFile.FieldType.long) ∈ BG := List.mem_of_getElem? (i := 105) (by decide +kernel)
theorem wk_106 : Cond.constantLong "KeyedCells$Table" 52 4294967295 ∈ BG := List.mem_of_getElem? (i := 106) (by decide +kernel)
theorem wk_107 : Cond.constant "KeyedCells$Table" 35 67108864 ∈ BG := List.mem_of_getElem? (i := 107) (by decide +kernel)
theorem wk_108 : Cond.constantLong "KeyedCells$Table" 36 8317987319222330741 ∈ BG := List.mem_of_getElem? (i := 108) (by decide +kernel)
theorem wk_109 : Cond.constantLong "KeyedCells$Table" 38 7237128888997146477 ∈ BG := List.mem_of_getElem? (i := 109) (by decide +kernel)
theorem wk_110 : Cond.constantLong "KeyedCells$Table" 40 7816392313619706465 ∈ BG := List.mem_of_getElem? (i := 110) (by decide +kernel)
theorem wk_111 : Cond.constantLong "KeyedCells$Table" 42 8387220255154660723 ∈ BG := List.mem_of_getElem? (i := 111) (by decide +kernel)
theorem wk_112 : Cond.methodLink "KeyedCells$Table" 44 (⟨"java/lang/Long", "rotateLeft", "(JI)J"⟩ : MethodName) ∈ BG := List.mem_of_getElem? (i := 112) (by decide +kernel)
theorem wk_113 : Cond.static (⟨"java/lang/Long", "rotateLeft", "(JI)J"⟩ : MethodName) ∈ BG := List.mem_of_getElem? (i := 113) (by decide +kernel)
theorem wk_114 : Cond.code (⟨"java/lang/Long", "rotateLeft", "(JI)J"⟩ : MethodName) prog_7_method_51_code 3 (Option.some Jvm.ClassFile.FieldType.long) ∈ BG := List.mem_of_getElem? (i := 114) (by decide +kernel)
theorem wk_115 : Cond.constantLong "KeyedCells$Table" 50 255 ∈ BG := List.mem_of_getElem? (i := 115) (by decide +kernel)
theorem wk_116 : Cond.methodLink "KeyedCells$Table" 65 (⟨"KeyedCells$Table", "fill", "(III)V"⟩ : MethodName) ∈ BG := List.mem_of_getElem? (i := 116) (by decide +kernel)
theorem wk_117 : Cond.instanceMethod (⟨"KeyedCells$Table", "fill", "(III)V"⟩ : MethodName) ∈ BG := List.mem_of_getElem? (i := 117) (by decide +kernel)
theorem wk_118 : Cond.code (⟨"KeyedCells$Table", "fill", "(III)V"⟩ : MethodName) prog_3_method_10_code 4 (Option.none : Option Jvm.ClassFile.FieldType) ∈ BG := List.mem_of_getElem? (i := 118) (by decide +kernel)
theorem wk_119 : Cond.methodLink "KeyedCells" 57 (⟨"KeyedCells", "holderOf", "(I)LKeyedCells$Table;"⟩ : MethodName) ∈ BG := List.mem_of_getElem? (i := 119) (by decide +kernel)
theorem wk_120 : Cond.instanceMethod (⟨"KeyedCells", "holderOf", "(I)LKeyedCells$Table;"⟩ : MethodName) ∈ BG := List.mem_of_getElem? (i := 120) (by decide +kernel)
theorem wk_121 : Cond.code (⟨"KeyedCells", "holderOf", "(I)LKeyedCells$Table;"⟩ : MethodName) prog_1_method_19_code 2 (Option.some (Jvm.ClassFile.FieldType.object "KeyedCells$Table")) ∈ BG := List.mem_of_getElem? (i := 121) (by decide +kernel)
theorem wk_122 : Cond.instanceMethod (⟨"KeyedCells$Table", "cellOf", "(I)I"⟩ : MethodName) ∈ BG := List.mem_of_getElem? (i := 122) (by decide +kernel)
theorem wk_123 : Cond.code (⟨"KeyedCells$Table", "cellOf", "(I)I"⟩ : MethodName) prog_3_method_6_code 4 (Option.some Jvm.ClassFile.FieldType.int) ∈ BG := List.mem_of_getElem? (i := 123) (by decide +kernel)
theorem wk_124 : Cond.instanceMethod (⟨"KeyedCells$Table", "change", "(II)V"⟩ : MethodName) ∈ BG := List.mem_of_getElem? (i := 124) (by decide +kernel)
theorem wk_125 : Cond.code (⟨"KeyedCells$Table", "change", "(II)V"⟩ : MethodName) prog_3_method_8_code 4 (Option.none : Option Jvm.ClassFile.FieldType) ∈ BG := List.mem_of_getElem? (i := 125) (by decide +kernel)
theorem wk_126 : Cond.methodLink "KeyedCells$Table" 62 (⟨"KeyedCells$Table", "cellOf", "(I)I"⟩ : MethodName) ∈ BG := List.mem_of_getElem? (i := 126) (by decide +kernel)
theorem wk_127 : Cond.methodLink "KeyedCells" 65 (⟨"KeyedCells", "boundCount", "()I"⟩ : MethodName) ∈ BG := List.mem_of_getElem? (i := 127) (by decide +kernel)
theorem wk_128 : Cond.instanceMethod (⟨"KeyedCells", "boundCount", "()I"⟩ : MethodName) ∈ BG := List.mem_of_getElem? (i := 128) (by decide +kernel)
theorem wk_129 : Cond.code (⟨"KeyedCells", "boundCount", "()I"⟩ : MethodName) prog_1_method_18_code 1 (Option.some Jvm.ClassFile.FieldType.int) ∈ BG := List.mem_of_getElem? (i := 129) (by decide +kernel)
theorem wk_130 : Cond.methodLink "KeyedCells" 71 (⟨"KeyedCells", "drawNewKey", "()I"⟩ : MethodName) ∈ BG := List.mem_of_getElem? (i := 130) (by decide +kernel)
theorem wk_131 : Cond.instanceMethod (⟨"KeyedCells", "drawNewKey", "()I"⟩ : MethodName) ∈ BG := List.mem_of_getElem? (i := 131) (by decide +kernel)
theorem wk_132 : Cond.code (⟨"KeyedCells", "drawNewKey", "()I"⟩ : MethodName) prog_1_method_21_code 3 (Option.some Jvm.ClassFile.FieldType.int) ∈ BG := List.mem_of_getElem? (i := 132) (by decide +kernel)
theorem wk_133 : Cond.methodLink "KeyedCellsLaw" 26 (⟨"KeyedCells", "get", "(I)I"⟩ : MethodName) ∈ BG := List.mem_of_getElem? (i := 133) (by decide +kernel)
theorem wk_134 : Cond.instanceMethod (⟨"KeyedCells", "get", "(I)I"⟩ : MethodName) ∈ BG := List.mem_of_getElem? (i := 134) (by decide +kernel)
theorem wk_135 : Cond.selects "KeyedCells" (⟨"KeyedCells", "get", "(I)I"⟩ : MethodName) (⟨"KeyedCells", "get", "(I)I"⟩ : MethodName) ∈ BG := List.mem_of_getElem? (i := 135) (by decide +kernel)
theorem wk_136 : Cond.code (⟨"KeyedCells", "get", "(I)I"⟩ : MethodName) prog_1_method_3_code 3 (Option.some Jvm.ClassFile.FieldType.int) ∈ BG := List.mem_of_getElem? (i := 136) (by decide +kernel)
theorem wk_137 : Cond.instanceMethod (⟨"KeyedCells$Table", "valueOf", "(I)I"⟩ : MethodName) ∈ BG := List.mem_of_getElem? (i := 137) (by decide +kernel)
theorem wk_138 : Cond.code (⟨"KeyedCells$Table", "valueOf", "(I)I"⟩ : MethodName) prog_3_method_7_code 3 (Option.some Jvm.ClassFile.FieldType.int) ∈ BG := List.mem_of_getElem? (i := 138) (by decide +kernel)
theorem wk_139 : Cond.methodLink "KeyedCellsLaw" 31 (⟨"KeyedCells", "has", "(I)Z"⟩ : MethodName) ∈ BG := List.mem_of_getElem? (i := 139) (by decide +kernel)
theorem wk_140 : Cond.instanceMethod (⟨"KeyedCells", "has", "(I)Z"⟩ : MethodName) ∈ BG := List.mem_of_getElem? (i := 140) (by decide +kernel)
theorem wk_141 : Cond.selects "KeyedCells" (⟨"KeyedCells", "has", "(I)Z"⟩ : MethodName) (⟨"KeyedCells", "has", "(I)Z"⟩ : MethodName) ∈ BG := List.mem_of_getElem? (i := 141) (by decide +kernel)
theorem wk_142 : Cond.code (⟨"KeyedCells", "has", "(I)Z"⟩ : MethodName) prog_1_method_4_code 2 (Option.some Jvm.ClassFile.FieldType.boolean) ∈ BG := List.mem_of_getElem? (i := 142) (by decide +kernel)
theorem wk_143 : Cond.methodLink "KeyedCellsLaw" 36 (⟨"KeyedCells", "remove", "(I)Z"⟩ : MethodName) ∈ BG := List.mem_of_getElem? (i := 143) (by decide +kernel)
theorem wk_144 : Cond.instanceMethod (⟨"KeyedCells", "remove", "(I)Z"⟩ : MethodName) ∈ BG := List.mem_of_getElem? (i := 144) (by decide +kernel)
theorem wk_145 : Cond.selects "KeyedCells" (⟨"KeyedCells", "remove", "(I)Z"⟩ : MethodName) (⟨"KeyedCells", "remove", "(I)Z"⟩ : MethodName) ∈ BG := List.mem_of_getElem? (i := 145) (by decide +kernel)
theorem wk_146 : Cond.code (⟨"KeyedCells", "remove", "(I)Z"⟩ : MethodName) prog_1_method_5_code 3 (Option.some Jvm.ClassFile.FieldType.boolean) ∈ BG := List.mem_of_getElem? (i := 146) (by decide +kernel)
theorem wk_147 : Cond.instanceMethod (⟨"KeyedCells$Table", "takeOut", "(I)V"⟩ : MethodName) ∈ BG := List.mem_of_getElem? (i := 147) (by decide +kernel)
theorem wk_148 : Cond.code (⟨"KeyedCells$Table", "takeOut", "(I)V"⟩ : MethodName) prog_3_method_11_code 7 (Option.none : Option Jvm.ClassFile.FieldType) ∈ BG := List.mem_of_getElem? (i := 148) (by decide +kernel)
theorem wk_149 : Cond.methodLink "KeyedCellsLaw" 40 (⟨"KeyedCells", "size", "()I"⟩ : MethodName) ∈ BG := List.mem_of_getElem? (i := 149) (by decide +kernel)
theorem wk_150 : Cond.instanceMethod (⟨"KeyedCells", "size", "()I"⟩ : MethodName) ∈ BG := List.mem_of_getElem? (i := 150) (by decide +kernel)
theorem wk_151 : Cond.selects "KeyedCells" (⟨"KeyedCells", "size", "()I"⟩ : MethodName) (⟨"KeyedCells", "size", "()I"⟩ : MethodName) ∈ BG := List.mem_of_getElem? (i := 151) (by decide +kernel)
theorem wk_152 : Cond.code (⟨"KeyedCells", "size", "()I"⟩ : MethodName) prog_1_method_6_code 1 (Option.some Jvm.ClassFile.FieldType.int) ∈ BG := List.mem_of_getElem? (i := 152) (by decide +kernel)
theorem wk_153 : Cond.methodLink "KeyedCellsLaw" 45 (⟨"KeyedCells", "probeMax", "()I"⟩ : MethodName) ∈ BG := List.mem_of_getElem? (i := 153) (by decide +kernel)
theorem wk_154 : Cond.instanceMethod (⟨"KeyedCells", "probeMax", "()I"⟩ : MethodName) ∈ BG := List.mem_of_getElem? (i := 154) (by decide +kernel)
theorem wk_155 : Cond.selects "KeyedCells" (⟨"KeyedCells", "probeMax", "()I"⟩ : MethodName) (⟨"KeyedCells", "probeMax", "()I"⟩ : MethodName) ∈ BG := List.mem_of_getElem? (i := 155) (by decide +kernel)
theorem wk_156 : Cond.code (⟨"KeyedCells", "probeMax", "()I"⟩ : MethodName) prog_1_method_7_code 1 (Option.some Jvm.ClassFile.FieldType.int) ∈ BG := List.mem_of_getElem? (i := 156) (by decide +kernel)
theorem wk_157 : Cond.methodLink "KeyedCellsLaw" 49 (⟨"KeyedCells", "rekey", "()I"⟩ : MethodName) ∈ BG := List.mem_of_getElem? (i := 157) (by decide +kernel)
theorem wk_158 : Cond.instanceMethod (⟨"KeyedCells", "rekey", "()I"⟩ : MethodName) ∈ BG := List.mem_of_getElem? (i := 158) (by decide +kernel)
theorem wk_159 : Cond.selects "KeyedCells" (⟨"KeyedCells", "rekey", "()I"⟩ : MethodName) (⟨"KeyedCells", "rekey", "()I"⟩ : MethodName) ∈ BG := List.mem_of_getElem? (i := 159) (by decide +kernel)
theorem wk_160 : Cond.code (⟨"KeyedCells", "rekey", "()I"⟩ : MethodName) prog_1_method_8_code 1 (Option.some Jvm.ClassFile.FieldType.int) ∈ BG := List.mem_of_getElem? (i := 160) (by decide +kernel)
theorem wk_161 : Cond.methodLink "KeyedCellsLaw" 53 (⟨"KeyedCells", "migrateStep", "()I"⟩ : MethodName) ∈ BG := List.mem_of_getElem? (i := 161) (by decide +kernel)
theorem wk_162 : Cond.instanceMethod (⟨"KeyedCells", "migrateStep", "()I"⟩ : MethodName) ∈ BG := List.mem_of_getElem? (i := 162) (by decide +kernel)
theorem wk_163 : Cond.selects "KeyedCells" (⟨"KeyedCells", "migrateStep", "()I"⟩ : MethodName) (⟨"KeyedCells", "migrateStep", "()I"⟩ : MethodName) ∈ BG := List.mem_of_getElem? (i := 163) (by decide +kernel)
theorem wk_164 : Cond.code (⟨"KeyedCells", "migrateStep", "()I"⟩ : MethodName) prog_1_method_9_code 1 (Option.some Jvm.ClassFile.FieldType.int) ∈ BG := List.mem_of_getElem? (i := 164) (by decide +kernel)
theorem wk_165 : Cond.methodLink "KeyedCellsLaw" 57 (⟨"KeyedCells", "hashLo", "(I)I"⟩ : MethodName) ∈ BG := List.mem_of_getElem? (i := 165) (by decide +kernel)
theorem wk_166 : Cond.instanceMethod (⟨"KeyedCells", "hashLo", "(I)I"⟩ : MethodName) ∈ BG := List.mem_of_getElem? (i := 166) (by decide +kernel)
theorem wk_167 : Cond.selects "KeyedCells" (⟨"KeyedCells", "hashLo", "(I)I"⟩ : MethodName) (⟨"KeyedCells", "hashLo", "(I)I"⟩ : MethodName) ∈ BG := List.mem_of_getElem? (i := 167) (by decide +kernel)
theorem wk_168 : Cond.code (⟨"KeyedCells", "hashLo", "(I)I"⟩ : MethodName) prog_1_method_10_code 2 (Option.some Jvm.ClassFile.FieldType.int) ∈ BG := List.mem_of_getElem? (i := 168) (by decide +kernel)
theorem wk_169 : Cond.methodLink "KeyedCellsLaw" 61 (⟨"KeyedCells", "hashHi", "(I)I"⟩ : MethodName) ∈ BG := List.mem_of_getElem? (i := 169) (by decide +kernel)
theorem wk_170 : Cond.instanceMethod (⟨"KeyedCells", "hashHi", "(I)I"⟩ : MethodName) ∈ BG := List.mem_of_getElem? (i := 170) (by decide +kernel)
theorem wk_171 : Cond.selects "KeyedCells" (⟨"KeyedCells", "hashHi", "(I)I"⟩ : MethodName) (⟨"KeyedCells", "hashHi", "(I)I"⟩ : MethodName) ∈ BG := List.mem_of_getElem? (i := 171) (by decide +kernel)
theorem wk_172 : Cond.code (⟨"KeyedCells", "hashHi", "(I)I"⟩ : MethodName) prog_1_method_11_code 2 (Option.some Jvm.ClassFile.FieldType.int) ∈ BG := List.mem_of_getElem? (i := 172) (by decide +kernel)
theorem wk_173 : Cond.methodLink "KeyedCellsLaw" 65 (⟨"KeyedCells", "keyWord", "(I)I"⟩ : MethodName) ∈ BG := List.mem_of_getElem? (i := 173) (by decide +kernel)
theorem wk_174 : Cond.instanceMethod (⟨"KeyedCells", "keyWord", "(I)I"⟩ : MethodName) ∈ BG := List.mem_of_getElem? (i := 174) (by decide +kernel)
theorem wk_175 : Cond.selects "KeyedCells" (⟨"KeyedCells", "keyWord", "(I)I"⟩ : MethodName) (⟨"KeyedCells", "keyWord", "(I)I"⟩ : MethodName) ∈ BG := List.mem_of_getElem? (i := 175) (by decide +kernel)
theorem wk_176 : Cond.code (⟨"KeyedCells", "keyWord", "(I)I"⟩ : MethodName) prog_1_method_12_code 2 (Option.some Jvm.ClassFile.FieldType.int) ∈ BG := List.mem_of_getElem? (i := 176) (by decide +kernel)
theorem wk_177 : Cond.methodLink "KeyedCellsLaw" 69 (⟨"KeyedCells", "nth", "(I)I"⟩ : MethodName) ∈ BG := List.mem_of_getElem? (i := 177) (by decide +kernel)
theorem wk_178 : Cond.instanceMethod (⟨"KeyedCells", "nth", "(I)I"⟩ : MethodName) ∈ BG := List.mem_of_getElem? (i := 178) (by decide +kernel)
theorem wk_179 : Cond.selects "KeyedCells" (⟨"KeyedCells", "nth", "(I)I"⟩ : MethodName) (⟨"KeyedCells", "nth", "(I)I"⟩ : MethodName) ∈ BG := List.mem_of_getElem? (i := 179) (by decide +kernel)
theorem wk_180 : Cond.code (⟨"KeyedCells", "nth", "(I)I"⟩ : MethodName) prog_1_method_13_code 2 (Option.some Jvm.ClassFile.FieldType.int) ∈ BG := List.mem_of_getElem? (i := 180) (by decide +kernel)
theorem wk_181 : Cond.instanceMethod (⟨"KeyedCells$Table", "markAt", "(I)I"⟩ : MethodName) ∈ BG := List.mem_of_getElem? (i := 181) (by decide +kernel)
theorem wk_182 : Cond.code (⟨"KeyedCells$Table", "markAt", "(I)I"⟩ : MethodName) prog_3_method_13_code 2 (Option.some Jvm.ClassFile.FieldType.int) ∈ BG := List.mem_of_getElem? (i := 182) (by decide +kernel)
theorem wk_183 : Cond.methodLink "KeyedCellsLaw" 73 (⟨"KeyedCells", "filled", "(ZI)I"⟩ : MethodName) ∈ BG := List.mem_of_getElem? (i := 183) (by decide +kernel)
theorem wk_184 : Cond.instanceMethod (⟨"KeyedCells", "filled", "(ZI)I"⟩ : MethodName) ∈ BG := List.mem_of_getElem? (i := 184) (by decide +kernel)
theorem wk_185 : Cond.selects "KeyedCells" (⟨"KeyedCells", "filled", "(ZI)I"⟩ : MethodName) (⟨"KeyedCells", "filled", "(ZI)I"⟩ : MethodName) ∈ BG := List.mem_of_getElem? (i := 185) (by decide +kernel)
theorem wk_186 : Cond.code (⟨"KeyedCells", "filled", "(ZI)I"⟩ : MethodName) prog_1_method_14_code 3 (Option.some Jvm.ClassFile.FieldType.int) ∈ BG := List.mem_of_getElem? (i := 186) (by decide +kernel)
theorem wk_187 : Cond.methodLink "KeyedCellsLaw" 78 (⟨"KeyedCells", "above", "(I)I"⟩ : MethodName) ∈ BG := List.mem_of_getElem? (i := 187) (by decide +kernel)
theorem wk_188 : Cond.instanceMethod (⟨"KeyedCells", "above", "(I)I"⟩ : MethodName) ∈ BG := List.mem_of_getElem? (i := 188) (by decide +kernel)
theorem wk_189 : Cond.selects "KeyedCells" (⟨"KeyedCells", "above", "(I)I"⟩ : MethodName) (⟨"KeyedCells", "above", "(I)I"⟩ : MethodName) ∈ BG := List.mem_of_getElem? (i := 189) (by decide +kernel)
theorem wk_190 : Cond.code (⟨"KeyedCells", "above", "(I)I"⟩ : MethodName) prog_1_method_15_code 2 (Option.some Jvm.ClassFile.FieldType.int) ∈ BG := List.mem_of_getElem? (i := 190) (by decide +kernel)
theorem wk_191 : Cond.instanceMethod (⟨"KeyedCells$Table", "nearestAbove", "(II)I"⟩ : MethodName) ∈ BG := List.mem_of_getElem? (i := 191) (by decide +kernel)
theorem wk_192 : Cond.code (⟨"KeyedCells$Table", "nearestAbove", "(II)I"⟩ : MethodName) prog_3_method_14_code 6 (Option.some Jvm.ClassFile.FieldType.int) ∈ BG := List.mem_of_getElem? (i := 192) (by decide +kernel)
theorem wk_193 : Cond.methodLink "KeyedCellsLaw" 82 (⟨"KeyedCells", "sum", "()J"⟩ : MethodName) ∈ BG := List.mem_of_getElem? (i := 193) (by decide +kernel)
theorem wk_194 : Cond.instanceMethod (⟨"KeyedCells", "sum", "()J"⟩ : MethodName) ∈ BG := List.mem_of_getElem? (i := 194) (by decide +kernel)
theorem wk_195 : Cond.selects "KeyedCells" (⟨"KeyedCells", "sum", "()J"⟩ : MethodName) (⟨"KeyedCells", "sum", "()J"⟩ : MethodName) ∈ BG := List.mem_of_getElem? (i := 195) (by decide +kernel)
theorem wk_196 : Cond.code (⟨"KeyedCells", "sum", "()J"⟩ : MethodName) prog_1_method_16_code 1 (Option.some Jvm.ClassFile.FieldType.long) ∈ BG := List.mem_of_getElem? (i := 196) (by decide +kernel)
theorem wk_197 : Cond.methodLink "KeyedCells" 107 (⟨"KeyedCells", "sumOver", "(LKeyedCells$Table;)J"⟩ : MethodName) ∈ BG := List.mem_of_getElem? (i := 197) (by decide +kernel)
theorem wk_198 : Cond.instanceMethod (⟨"KeyedCells", "sumOver", "(LKeyedCells$Table;)J"⟩ : MethodName) ∈ BG := List.mem_of_getElem? (i := 198) (by decide +kernel)
theorem wk_199 : Cond.code (⟨"KeyedCells", "sumOver", "(LKeyedCells$Table;)J"⟩ : MethodName) prog_1_method_23_code 5 (Option.some Jvm.ClassFile.FieldType.long) ∈ BG := List.mem_of_getElem? (i := 199) (by decide +kernel)
theorem wk_200 : Cond.constantLong "KeyedCells" 126 2 ∈ BG := List.mem_of_getElem? (i := 200) (by decide +kernel)
theorem wk_201 : Cond.methodLink "KeyedCellsLaw" 87 (⟨"KeyedCells", "rekeys", "()I"⟩ : MethodName) ∈ BG := List.mem_of_getElem? (i := 201) (by decide +kernel)
theorem wk_202 : Cond.instanceMethod (⟨"KeyedCells", "rekeys", "()I"⟩ : MethodName) ∈ BG := List.mem_of_getElem? (i := 202) (by decide +kernel)
theorem wk_203 : Cond.selects "KeyedCells" (⟨"KeyedCells", "rekeys", "()I"⟩ : MethodName) (⟨"KeyedCells", "rekeys", "()I"⟩ : MethodName) ∈ BG := List.mem_of_getElem? (i := 203) (by decide +kernel)
theorem wk_204 : Cond.code (⟨"KeyedCells", "rekeys", "()I"⟩ : MethodName) prog_1_method_17_code 1 (Option.some Jvm.ClassFile.FieldType.int) ∈ BG := List.mem_of_getElem? (i := 204) (by decide +kernel)
theorem wk_205 : Cond.methodLink "KeyedCellsLaw" 9 (⟨"KeyedCellsLaw", "cell", "([II)I"⟩ : MethodName) ∈ BG := List.mem_of_getElem? (i := 205) (by decide +kernel)
theorem wk_206 : Cond.static (⟨"KeyedCellsLaw", "cell", "([II)I"⟩ : MethodName) ∈ BG := List.mem_of_getElem? (i := 206) (by decide +kernel)
theorem wk_207 : Cond.code (⟨"KeyedCellsLaw", "cell", "([II)I"⟩ : MethodName) method_2_code 2 (Option.some Jvm.ClassFile.FieldType.int) ∈ BG := List.mem_of_getElem? (i := 207) (by decide +kernel)
theorem wk_208 : Cond.classLink "KeyedCellsLaw" 18 "KeyedCellsModel" ∈ BG := List.mem_of_getElem? (i := 208) (by decide +kernel)
theorem wk_209 : Cond.instantiable "KeyedCellsModel" 24 ∈ BG := List.mem_of_getElem? (i := 209) (by decide +kernel)
theorem wk_210 : Cond.methodLink "KeyedCellsLaw" 20 (⟨"KeyedCellsModel", "<init>", "(III)V"⟩ : MethodName) ∈ BG := List.mem_of_getElem? (i := 210) (by decide +kernel)
theorem wk_211 : Cond.instanceMethod (⟨"KeyedCellsModel", "<init>", "(III)V"⟩ : MethodName) ∈ BG := List.mem_of_getElem? (i := 211) (by decide +kernel)
theorem wk_212 : Cond.code (⟨"KeyedCellsModel", "<init>", "(III)V"⟩ : MethodName) prog_5_method_1_code 4 (Option.none : Option Jvm.ClassFile.FieldType) ∈ BG := List.mem_of_getElem? (i := 212) (by decide +kernel)
theorem wk_213 : Cond.methodLink "KeyedCellsModel" 1 (⟨"java/lang/Object", "<init>", "()V"⟩ : MethodName) ∈ BG := List.mem_of_getElem? (i := 213) (by decide +kernel)
theorem wk_214 : Cond.constant "KeyedCellsModel" 38 (-1640531527) ∈ BG := List.mem_of_getElem? (i := 214) (by decide +kernel)
theorem wk_215 : Cond.methodLink "KeyedCellsModel" 39 (⟨"KeyedCellsModel", "mixed", "(I)I"⟩ : MethodName) ∈ BG := List.mem_of_getElem? (i := 215) (by decide +kernel)
theorem wk_216 : Cond.static (⟨"KeyedCellsModel", "mixed", "(I)I"⟩ : MethodName) ∈ BG := List.mem_of_getElem? (i := 216) (by decide +kernel)
theorem wk_217 : Cond.code (⟨"KeyedCellsModel", "mixed", "(I)I"⟩ : MethodName) prog_5_method_2_code 2 (Option.some Jvm.ClassFile.FieldType.int) ∈ BG := List.mem_of_getElem? (i := 217) (by decide +kernel)
theorem wk_218 : Cond.constant "KeyedCellsModel" 61 (-2048144789) ∈ BG := List.mem_of_getElem? (i := 218) (by decide +kernel)
theorem wk_219 : Cond.constant "KeyedCellsModel" 62 (-1028477387) ∈ BG := List.mem_of_getElem? (i := 219) (by decide +kernel)
theorem wk_220 : Cond.constant "KeyedCellsModel" 46 1013904242 ∈ BG := List.mem_of_getElem? (i := 220) (by decide +kernel)
theorem wk_221 : Cond.constant "KeyedCellsModel" 50 (-626627285) ∈ BG := List.mem_of_getElem? (i := 221) (by decide +kernel)
theorem wk_222 : Cond.constant "KeyedCellsModel" 54 2027808484 ∈ BG := List.mem_of_getElem? (i := 222) (by decide +kernel)
theorem wk_223 : Cond.methodLink "KeyedCellsModel" 58 (⟨"KeyedCellsModel", "drawKey", "()V"⟩ : MethodName) ∈ BG := List.mem_of_getElem? (i := 223) (by decide +kernel)
theorem wk_224 : Cond.instanceMethod (⟨"KeyedCellsModel", "drawKey", "()V"⟩ : MethodName) ∈ BG := List.mem_of_getElem? (i := 224) (by decide +kernel)
theorem wk_225 : Cond.code (⟨"KeyedCellsModel", "drawKey", "()V"⟩ : MethodName) prog_5_method_6_code 2 (Option.none : Option Jvm.ClassFile.FieldType) ∈ BG := List.mem_of_getElem? (i := 225) (by decide +kernel)
theorem wk_226 : Cond.methodLink "KeyedCellsModel" 69 (⟨"KeyedCellsModel", "draw", "()I"⟩ : MethodName) ∈ BG := List.mem_of_getElem? (i := 226) (by decide +kernel)
theorem wk_227 : Cond.instanceMethod (⟨"KeyedCellsModel", "draw", "()I"⟩ : MethodName) ∈ BG := List.mem_of_getElem? (i := 227) (by decide +kernel)
theorem wk_228 : Cond.code (⟨"KeyedCellsModel", "draw", "()I"⟩ : MethodName) prog_5_method_4_code 3 (Option.some Jvm.ClassFile.FieldType.int) ∈ BG := List.mem_of_getElem? (i := 228) (by decide +kernel)
theorem wk_229 : Cond.methodLink "KeyedCellsModel" 63 (⟨"KeyedCellsModel", "turned", "(II)I"⟩ : MethodName) ∈ BG := List.mem_of_getElem? (i := 229) (by decide +kernel)
theorem wk_230 : Cond.static (⟨"KeyedCellsModel", "turned", "(II)I"⟩ : MethodName) ∈ BG := List.mem_of_getElem? (i := 230) (by decide +kernel)
theorem wk_231 : Cond.code (⟨"KeyedCellsModel", "turned", "(II)I"⟩ : MethodName) prog_5_method_3_code 2 (Option.some Jvm.ClassFile.FieldType.int) ∈ BG := List.mem_of_getElem? (i := 231) (by decide +kernel)
theorem wk_232 : Cond.methodLink "KeyedCellsModel" 73 (⟨"KeyedCellsModel", "joined", "(II)J"⟩ : MethodName) ∈ BG := List.mem_of_getElem? (i := 232) (by decide +kernel)
theorem wk_233 : Cond.static (⟨"KeyedCellsModel", "joined", "(II)J"⟩ : MethodName) ∈ BG := List.mem_of_getElem? (i := 233) (by decide +kernel)
theorem wk_234 : Cond.code (⟨"KeyedCellsModel", "joined", "(II)J"⟩ : MethodName) prog_5_method_5_code 2 (Option.some Jvm.ClassFile.FieldType.long) ∈ BG := List.mem_of_getElem? (i := 234) (by decide +kernel)
theorem wk_235 : Cond.constantLong "KeyedCellsModel" 67 4294967295 ∈ BG := List.mem_of_getElem? (i := 235) (by decide +kernel)
theorem wk_236 : Cond.fieldLink "KeyedCellsModel" 31 "KeyedCellsModel" "cells" "I" ∈ BG := List.mem_of_getElem? (i := 236) (by decide +kernel)
theorem wk_237 : Cond.fieldLink "KeyedCellsModel" 35 "KeyedCellsModel" "limit" "I" ∈ BG := List.mem_of_getElem? (i := 237) (by decide +kernel)
theorem wk_238 : Cond.fieldLink "KeyedCellsModel" 43 "KeyedCellsModel" "a" "I" ∈ BG := List.mem_of_getElem? (i := 238) (by decide +kernel)
theorem wk_239 : Cond.fieldLink "KeyedCellsModel" 47 "KeyedCellsModel" "b" "I" ∈ BG := List.mem_of_getElem? (i := 239) (by decide +kernel)
theorem wk_240 : Cond.fieldLink "KeyedCellsModel" 51 "KeyedCellsModel" "c" "I" ∈ BG := List.mem_of_getElem? (i := 240) (by decide +kernel)
theorem wk_241 : Cond.fieldLink "KeyedCellsModel" 55 "KeyedCellsModel" "d" "I" ∈ BG := List.mem_of_getElem? (i := 241) (by decide +kernel)
theorem wk_242 : Cond.fieldLink "KeyedCellsModel" 7 "KeyedCellsModel" "words" "[I" ∈ BG := List.mem_of_getElem? (i := 242) (by decide +kernel)
theorem wk_243 : Cond.fieldLink "KeyedCellsModel" 77 "KeyedCellsModel" "newK" "J" ∈ BG := List.mem_of_getElem? (i := 243) (by decide +kernel)
theorem wk_244 : Cond.fieldLink "KeyedCellsModel" 81 "KeyedCellsModel" "newL" "J" ∈ BG := List.mem_of_getElem? (i := 244) (by decide +kernel)
theorem wk_245 : Cond.fieldLink "KeyedCellsModel" 125 "KeyedCellsModel" "oldK" "J" ∈ BG := List.mem_of_getElem? (i := 245) (by decide +kernel)
theorem wk_246 : Cond.fieldLink "KeyedCellsModel" 128 "KeyedCellsModel" "oldL" "J" ∈ BG := List.mem_of_getElem? (i := 246) (by decide +kernel)
theorem wk_247 : Cond.fieldLink "KeyedCellsModel" 13 "KeyedCellsModel" "marks" "[I" ∈ BG := List.mem_of_getElem? (i := 247) (by decide +kernel)
theorem wk_248 : Cond.fieldLink "KeyedCellsModel" 16 "KeyedCellsModel" "keys" "[I" ∈ BG := List.mem_of_getElem? (i := 248) (by decide +kernel)
theorem wk_249 : Cond.fieldLink "KeyedCellsModel" 19 "KeyedCellsModel" "values" "[I" ∈ BG := List.mem_of_getElem? (i := 249) (by decide +kernel)
theorem wk_250 : Cond.fieldLink "KeyedCellsModel" 121 "KeyedCellsModel" "moving" "Z" ∈ BG := List.mem_of_getElem? (i := 250) (by decide +kernel)
theorem wk_251 : Cond.fieldLink "KeyedCellsModel" 22 "KeyedCellsModel" "oldMarks" "[I" ∈ BG := List.mem_of_getElem? (i := 251) (by decide +kernel)
theorem wk_252 : Cond.fieldLink "KeyedCellsModel" 25 "KeyedCellsModel" "oldKeys" "[I" ∈ BG := List.mem_of_getElem? (i := 252) (by decide +kernel)
theorem wk_253 : Cond.fieldLink "KeyedCellsModel" 28 "KeyedCellsModel" "oldValues" "[I" ∈ BG := List.mem_of_getElem? (i := 253) (by decide +kernel)
theorem wk_254 : Cond.fieldLink "KeyedCellsModel" 143 "KeyedCellsModel" "longest" "I" ∈ BG := List.mem_of_getElem? (i := 254) (by decide +kernel)
theorem wk_255 : Cond.fieldLink "KeyedCellsModel" 146 "KeyedCellsModel" "times" "I" ∈ BG := List.mem_of_getElem? (i := 255) (by decide +kernel)
theorem wk_256 : Cond.fieldLink "KeyedCellsModel" 84 "KeyedCellsModel" "p" "J" ∈ BG := List.mem_of_getElem? (i := 256) (by decide +kernel)
theorem wk_257 : Cond.fieldLink "KeyedCellsModel" 87 "KeyedCellsModel" "q" "J" ∈ BG := List.mem_of_getElem? (i := 257) (by decide +kernel)
theorem wk_258 : Cond.fieldLink "KeyedCellsModel" 90 "KeyedCellsModel" "\x72" "J" ∈ BG := List.mem_of_getElem? (i := 258) (by decide +kernel)
theorem wk_259 : Cond.fieldLink "KeyedCellsModel" 93 "KeyedCellsModel" "s" "J" ∈ BG := List.mem_of_getElem? (i := 259) (by decide +kernel)
theorem wk_260 : Cond.laysFinal "KeyedCellsModel" "KeyedCellsModel" "cells" "I" ∈ BG := List.mem_of_getElem? (i := 260) (by decide +kernel)
theorem wk_261 : Cond.laysFinal "KeyedCellsModel" "KeyedCellsModel" "limit" "I" ∈ BG := List.mem_of_getElem? (i := 261) (by decide +kernel)
theorem wk_262 : Cond.lays "KeyedCellsModel" "KeyedCellsModel" "a" "I" ∈ BG := List.mem_of_getElem? (i := 262) (by decide +kernel)
theorem wk_263 : Cond.lays "KeyedCellsModel" "KeyedCellsModel" "b" "I" ∈ BG := List.mem_of_getElem? (i := 263) (by decide +kernel)
theorem wk_264 : Cond.lays "KeyedCellsModel" "KeyedCellsModel" "c" "I" ∈ BG := List.mem_of_getElem? (i := 264) (by decide +kernel)
theorem wk_265 : Cond.lays "KeyedCellsModel" "KeyedCellsModel" "d" "I" ∈ BG := List.mem_of_getElem? (i := 265) (by decide +kernel)
theorem wk_266 : Cond.laysFinal "KeyedCellsModel" "KeyedCellsModel" "words" "[I" ∈ BG := List.mem_of_getElem? (i := 266) (by decide +kernel)
theorem wk_267 : Cond.lays "KeyedCellsModel" "KeyedCellsModel" "newK" "J" ∈ BG := List.mem_of_getElem? (i := 267) (by decide +kernel)
theorem wk_268 : Cond.lays "KeyedCellsModel" "KeyedCellsModel" "newL" "J" ∈ BG := List.mem_of_getElem? (i := 268) (by decide +kernel)
theorem wk_269 : Cond.lays "KeyedCellsModel" "KeyedCellsModel" "oldK" "J" ∈ BG := List.mem_of_getElem? (i := 269) (by decide +kernel)
theorem wk_270 : Cond.lays "KeyedCellsModel" "KeyedCellsModel" "oldL" "J" ∈ BG := List.mem_of_getElem? (i := 270) (by decide +kernel)
theorem wk_271 : Cond.laysFinal "KeyedCellsModel" "KeyedCellsModel" "marks" "[I" ∈ BG := List.mem_of_getElem? (i := 271) (by decide +kernel)
theorem wk_272 : Cond.laysFinal "KeyedCellsModel" "KeyedCellsModel" "keys" "[I" ∈ BG := List.mem_of_getElem? (i := 272) (by decide +kernel)
theorem wk_273 : Cond.laysFinal "KeyedCellsModel" "KeyedCellsModel" "values" "[I" ∈ BG := List.mem_of_getElem? (i := 273) (by decide +kernel)
theorem wk_274 : Cond.lays "KeyedCellsModel" "KeyedCellsModel" "moving" "Z" ∈ BG := List.mem_of_getElem? (i := 274) (by decide +kernel)
theorem wk_275 : Cond.laysFinal "KeyedCellsModel" "KeyedCellsModel" "oldMarks" "[I" ∈ BG := List.mem_of_getElem? (i := 275) (by decide +kernel)
theorem wk_276 : Cond.laysFinal "KeyedCellsModel" "KeyedCellsModel" "oldKeys" "[I" ∈ BG := List.mem_of_getElem? (i := 276) (by decide +kernel)
theorem wk_277 : Cond.laysFinal "KeyedCellsModel" "KeyedCellsModel" "oldValues" "[I" ∈ BG := List.mem_of_getElem? (i := 277) (by decide +kernel)
theorem wk_278 : Cond.lays "KeyedCellsModel" "KeyedCellsModel" "longest" "I" ∈ BG := List.mem_of_getElem? (i := 278) (by decide +kernel)
theorem wk_279 : Cond.lays "KeyedCellsModel" "KeyedCellsModel" "times" "I" ∈ BG := List.mem_of_getElem? (i := 279) (by decide +kernel)
theorem wk_280 : Cond.lays "KeyedCellsModel" "KeyedCellsModel" "p" "J" ∈ BG := List.mem_of_getElem? (i := 280) (by decide +kernel)
theorem wk_281 : Cond.lays "KeyedCellsModel" "KeyedCellsModel" "q" "J" ∈ BG := List.mem_of_getElem? (i := 281) (by decide +kernel)
theorem wk_282 : Cond.lays "KeyedCellsModel" "KeyedCellsModel" "\x72" "J" ∈ BG := List.mem_of_getElem? (i := 282) (by decide +kernel)
theorem wk_283 : Cond.lays "KeyedCellsModel" "KeyedCellsModel" "s" "J" ∈ BG := List.mem_of_getElem? (i := 283) (by decide +kernel)
theorem wk_284 : Cond.methodLink "KeyedCellsLaw" 25 (⟨"KeyedCellsModel", "put", "(II)I"⟩ : MethodName) ∈ BG := List.mem_of_getElem? (i := 284) (by decide +kernel)
theorem wk_285 : Cond.instanceMethod (⟨"KeyedCellsModel", "put", "(II)I"⟩ : MethodName) ∈ BG := List.mem_of_getElem? (i := 285) (by decide +kernel)
theorem wk_286 : Cond.selects "KeyedCellsModel" (⟨"KeyedCellsModel", "put", "(II)I"⟩ : MethodName) (⟨"KeyedCellsModel", "put", "(II)I"⟩ : MethodName) ∈ BG := List.mem_of_getElem? (i := 286) (by decide +kernel)
theorem wk_287 : Cond.code (⟨"KeyedCellsModel", "put", "(II)I"⟩ : MethodName) prog_5_method_19_code 7 (Option.some Jvm.ClassFile.FieldType.int) ∈ BG := List.mem_of_getElem? (i := 287) (by decide +kernel)
theorem wk_288 : Cond.methodLink "KeyedCellsModel" 137 (⟨"KeyedCellsModel", "step", "()I"⟩ : MethodName) ∈ BG := List.mem_of_getElem? (i := 288) (by decide +kernel)
theorem wk_289 : Cond.instanceMethod (⟨"KeyedCellsModel", "step", "()I"⟩ : MethodName) ∈ BG := List.mem_of_getElem? (i := 289) (by decide +kernel)
theorem wk_290 : Cond.code (⟨"KeyedCellsModel", "step", "()I"⟩ : MethodName) prog_5_method_17_code 4 (Option.some Jvm.ClassFile.FieldType.int) ∈ BG := List.mem_of_getElem? (i := 290) (by decide +kernel)
theorem wk_291 : Cond.methodLink "KeyedCellsModel" 131 (⟨"KeyedCellsModel", "nextOld", "()I"⟩ : MethodName) ∈ BG := List.mem_of_getElem? (i := 291) (by decide +kernel)
theorem wk_292 : Cond.instanceMethod (⟨"KeyedCellsModel", "nextOld", "()I"⟩ : MethodName) ∈ BG := List.mem_of_getElem? (i := 292) (by decide +kernel)
theorem wk_293 : Cond.code (⟨"KeyedCellsModel", "nextOld", "()I"⟩ : MethodName) prog_5_method_16_code 2 (Option.some Jvm.ClassFile.FieldType.int) ∈ BG := List.mem_of_getElem? (i := 293) (by decide +kernel)
theorem wk_294 : Cond.methodLink "KeyedCellsModel" 134 (⟨"KeyedCellsModel", "enter", "(II)I"⟩ : MethodName) ∈ BG := List.mem_of_getElem? (i := 294) (by decide +kernel)
theorem wk_295 : Cond.instanceMethod (⟨"KeyedCellsModel", "enter", "(II)I"⟩ : MethodName) ∈ BG := List.mem_of_getElem? (i := 295) (by decide +kernel)
theorem wk_296 : Cond.code (⟨"KeyedCellsModel", "enter", "(II)I"⟩ : MethodName) prog_5_method_15_code 6 (Option.some Jvm.ClassFile.FieldType.int) ∈ BG := List.mem_of_getElem? (i := 296) (by decide +kernel)
theorem wk_297 : Cond.methodLink "KeyedCellsModel" 118 (⟨"KeyedCellsModel", "home", "(I)I"⟩ : MethodName) ∈ BG := List.mem_of_getElem? (i := 297) (by decide +kernel)
theorem wk_298 : Cond.instanceMethod (⟨"KeyedCellsModel", "home", "(I)I"⟩ : MethodName) ∈ BG := List.mem_of_getElem? (i := 298) (by decide +kernel)
theorem wk_299 : Cond.code (⟨"KeyedCellsModel", "home", "(I)I"⟩ : MethodName) prog_5_method_10_code 2 (Option.some Jvm.ClassFile.FieldType.int) ∈ BG := List.mem_of_getElem? (i := 299) (by decide +kernel)
theorem wk_300 : Cond.methodLink "KeyedCellsModel" 114 (⟨"KeyedCellsModel", "hash", "(JJI)J"⟩ : MethodName) ∈ BG := List.mem_of_getElem? (i := 300) (by decide +kernel)
theorem wk_301 : Cond.instanceMethod (⟨"KeyedCellsModel", "hash", "(JJI)J"⟩ : MethodName) ∈ BG := List.mem_of_getElem? (i := 301) (by decide +kernel)
theorem wk_302 : Cond.code (⟨"KeyedCellsModel", "hash", "(JJI)J"⟩ : MethodName) prog_5_method_9_code 9 (Option.some Jvm.ClassFile.FieldType.long) ∈ BG := List.mem_of_getElem? (i := 302) (by decide +kernel)
theorem wk_303 : Cond.constant "KeyedCellsModel" 100 67108864 ∈ BG := List.mem_of_getElem? (i := 303) (by decide +kernel)
theorem wk_304 : Cond.constantLong "KeyedCellsModel" 101 8317987319222330741 ∈ BG := List.mem_of_getElem? (i := 304) (by decide +kernel)
theorem wk_305 : Cond.constantLong "KeyedCellsModel" 103 7237128888997146477 ∈ BG := List.mem_of_getElem? (i := 305) (by decide +kernel)
theorem wk_306 : Cond.constantLong "KeyedCellsModel" 105 7816392313619706465 ∈ BG := List.mem_of_getElem? (i := 306) (by decide +kernel)
theorem wk_307 : Cond.constantLong "KeyedCellsModel" 107 8387220255154660723 ∈ BG := List.mem_of_getElem? (i := 307) (by decide +kernel)
theorem wk_308 : Cond.methodLink "KeyedCellsModel" 109 (⟨"KeyedCellsModel", "round", "()V"⟩ : MethodName) ∈ BG := List.mem_of_getElem? (i := 308) (by decide +kernel)
theorem wk_309 : Cond.instanceMethod (⟨"KeyedCellsModel", "round", "()V"⟩ : MethodName) ∈ BG := List.mem_of_getElem? (i := 309) (by decide +kernel)
theorem wk_310 : Cond.code (⟨"KeyedCellsModel", "round", "()V"⟩ : MethodName) prog_5_method_8_code 1 (Option.none : Option Jvm.ClassFile.FieldType) ∈ BG := List.mem_of_getElem? (i := 310) (by decide +kernel)
theorem wk_311 : Cond.methodLink "KeyedCellsModel" 96 (⟨"KeyedCellsModel", "around", "(JI)J"⟩ : MethodName) ∈ BG := List.mem_of_getElem? (i := 311) (by decide +kernel)
theorem wk_312 : Cond.static (⟨"KeyedCellsModel", "around", "(JI)J"⟩ : MethodName) ∈ BG := List.mem_of_getElem? (i := 312) (by decide +kernel)
theorem wk_313 : Cond.code (⟨"KeyedCellsModel", "around", "(JI)J"⟩ : MethodName) prog_5_method_7_code 3 (Option.some Jvm.ClassFile.FieldType.long) ∈ BG := List.mem_of_getElem? (i := 313) (by decide +kernel)
theorem wk_314 : Cond.constantLong "KeyedCellsModel" 112 255 ∈ BG := List.mem_of_getElem? (i := 314) (by decide +kernel)
theorem wk_315 : Cond.methodLink "KeyedCellsModel" 149 (⟨"KeyedCellsModel", "find", "(I)I"⟩ : MethodName) ∈ BG := List.mem_of_getElem? (i := 315) (by decide +kernel)
theorem wk_316 : Cond.instanceMethod (⟨"KeyedCellsModel", "find", "(I)I"⟩ : MethodName) ∈ BG := List.mem_of_getElem? (i := 316) (by decide +kernel)
theorem wk_317 : Cond.code (⟨"KeyedCellsModel", "find", "(I)I"⟩ : MethodName) prog_5_method_11_code 5 (Option.some Jvm.ClassFile.FieldType.int) ∈ BG := List.mem_of_getElem? (i := 317) (by decide +kernel)
theorem wk_318 : Cond.methodLink "KeyedCellsModel" 152 (⟨"KeyedCellsModel", "findOld", "(I)I"⟩ : MethodName) ∈ BG := List.mem_of_getElem? (i := 318) (by decide +kernel)
theorem wk_319 : Cond.instanceMethod (⟨"KeyedCellsModel", "findOld", "(I)I"⟩ : MethodName) ∈ BG := List.mem_of_getElem? (i := 319) (by decide +kernel)
theorem wk_320 : Cond.code (⟨"KeyedCellsModel", "findOld", "(I)I"⟩ : MethodName) prog_5_method_12_code 5 (Option.some Jvm.ClassFile.FieldType.int) ∈ BG := List.mem_of_getElem? (i := 320) (by decide +kernel)
theorem wk_321 : Cond.methodLink "KeyedCellsModel" 140 (⟨"KeyedCellsModel", "inNew", "()I"⟩ : MethodName) ∈ BG := List.mem_of_getElem? (i := 321) (by decide +kernel)
theorem wk_322 : Cond.instanceMethod (⟨"KeyedCellsModel", "inNew", "()I"⟩ : MethodName) ∈ BG := List.mem_of_getElem? (i := 322) (by decide +kernel)
theorem wk_323 : Cond.code (⟨"KeyedCellsModel", "inNew", "()I"⟩ : MethodName) prog_5_method_13_code 3 (Option.some Jvm.ClassFile.FieldType.int) ∈ BG := List.mem_of_getElem? (i := 323) (by decide +kernel)
theorem wk_324 : Cond.methodLink "KeyedCellsModel" 155 (⟨"KeyedCellsModel", "inOld", "()I"⟩ : MethodName) ∈ BG := List.mem_of_getElem? (i := 324) (by decide +kernel)
theorem wk_325 : Cond.instanceMethod (⟨"KeyedCellsModel", "inOld", "()I"⟩ : MethodName) ∈ BG := List.mem_of_getElem? (i := 325) (by decide +kernel)
theorem wk_326 : Cond.code (⟨"KeyedCellsModel", "inOld", "()I"⟩ : MethodName) prog_5_method_14_code 3 (Option.some Jvm.ClassFile.FieldType.int) ∈ BG := List.mem_of_getElem? (i := 326) (by decide +kernel)
theorem wk_327 : Cond.methodLink "KeyedCellsModel" 158 (⟨"KeyedCellsModel", "renew", "()I"⟩ : MethodName) ∈ BG := List.mem_of_getElem? (i := 327) (by decide +kernel)
theorem wk_328 : Cond.instanceMethod (⟨"KeyedCellsModel", "renew", "()I"⟩ : MethodName) ∈ BG := List.mem_of_getElem? (i := 328) (by decide +kernel)
theorem wk_329 : Cond.code (⟨"KeyedCellsModel", "renew", "()I"⟩ : MethodName) prog_5_method_18_code 3 (Option.some Jvm.ClassFile.FieldType.int) ∈ BG := List.mem_of_getElem? (i := 329) (by decide +kernel)
theorem wk_330 : Cond.methodLink "KeyedCellsLaw" 30 (⟨"KeyedCellsModel", "get", "(I)I"⟩ : MethodName) ∈ BG := List.mem_of_getElem? (i := 330) (by decide +kernel)
theorem wk_331 : Cond.instanceMethod (⟨"KeyedCellsModel", "get", "(I)I"⟩ : MethodName) ∈ BG := List.mem_of_getElem? (i := 331) (by decide +kernel)
theorem wk_332 : Cond.selects "KeyedCellsModel" (⟨"KeyedCellsModel", "get", "(I)I"⟩ : MethodName) (⟨"KeyedCellsModel", "get", "(I)I"⟩ : MethodName) ∈ BG := List.mem_of_getElem? (i := 332) (by decide +kernel)
theorem wk_333 : Cond.code (⟨"KeyedCellsModel", "get", "(I)I"⟩ : MethodName) prog_5_method_20_code 4 (Option.some Jvm.ClassFile.FieldType.int) ∈ BG := List.mem_of_getElem? (i := 333) (by decide +kernel)
theorem wk_334 : Cond.methodLink "KeyedCellsLaw" 35 (⟨"KeyedCellsModel", "has", "(I)Z"⟩ : MethodName) ∈ BG := List.mem_of_getElem? (i := 334) (by decide +kernel)
theorem wk_335 : Cond.instanceMethod (⟨"KeyedCellsModel", "has", "(I)Z"⟩ : MethodName) ∈ BG := List.mem_of_getElem? (i := 335) (by decide +kernel)
theorem wk_336 : Cond.selects "KeyedCellsModel" (⟨"KeyedCellsModel", "has", "(I)Z"⟩ : MethodName) (⟨"KeyedCellsModel", "has", "(I)Z"⟩ : MethodName) ∈ BG := List.mem_of_getElem? (i := 336) (by decide +kernel)
theorem wk_337 : Cond.code (⟨"KeyedCellsModel", "has", "(I)Z"⟩ : MethodName) prog_5_method_21_code 2 (Option.some Jvm.ClassFile.FieldType.boolean) ∈ BG := List.mem_of_getElem? (i := 337) (by decide +kernel)
theorem wk_338 : Cond.methodLink "KeyedCellsLaw" 39 (⟨"KeyedCellsModel", "remove", "(I)Z"⟩ : MethodName) ∈ BG := List.mem_of_getElem? (i := 338) (by decide +kernel)
theorem wk_339 : Cond.instanceMethod (⟨"KeyedCellsModel", "remove", "(I)Z"⟩ : MethodName) ∈ BG := List.mem_of_getElem? (i := 339) (by decide +kernel)
theorem wk_340 : Cond.selects "KeyedCellsModel" (⟨"KeyedCellsModel", "remove", "(I)Z"⟩ : MethodName) (⟨"KeyedCellsModel", "remove", "(I)Z"⟩ : MethodName) ∈ BG := List.mem_of_getElem? (i := 340) (by decide +kernel)
theorem wk_341 : Cond.code (⟨"KeyedCellsModel", "remove", "(I)Z"⟩ : MethodName) prog_5_method_24_code 4 (Option.some Jvm.ClassFile.FieldType.boolean) ∈ BG := List.mem_of_getElem? (i := 341) (by decide +kernel)
theorem wk_342 : Cond.methodLink "KeyedCellsModel" 164 (⟨"KeyedCellsModel", "close", "(I)V"⟩ : MethodName) ∈ BG := List.mem_of_getElem? (i := 342) (by decide +kernel)
theorem wk_343 : Cond.instanceMethod (⟨"KeyedCellsModel", "close", "(I)V"⟩ : MethodName) ∈ BG := List.mem_of_getElem? (i := 343) (by decide +kernel)
theorem wk_344 : Cond.code (⟨"KeyedCellsModel", "close", "(I)V"⟩ : MethodName) prog_5_method_23_code 7 (Option.none : Option Jvm.ClassFile.FieldType) ∈ BG := List.mem_of_getElem? (i := 344) (by decide +kernel)
theorem wk_345 : Cond.methodLink "KeyedCellsModel" 161 (⟨"KeyedCellsModel", "behind", "(II)I"⟩ : MethodName) ∈ BG := List.mem_of_getElem? (i := 345) (by decide +kernel)
theorem wk_346 : Cond.instanceMethod (⟨"KeyedCellsModel", "behind", "(II)I"⟩ : MethodName) ∈ BG := List.mem_of_getElem? (i := 346) (by decide +kernel)
theorem wk_347 : Cond.code (⟨"KeyedCellsModel", "behind", "(II)I"⟩ : MethodName) prog_5_method_22_code 3 (Option.some Jvm.ClassFile.FieldType.int) ∈ BG := List.mem_of_getElem? (i := 347) (by decide +kernel)
theorem wk_348 : Cond.methodLink "KeyedCellsLaw" 44 (⟨"KeyedCellsModel", "size", "()I"⟩ : MethodName) ∈ BG := List.mem_of_getElem? (i := 348) (by decide +kernel)
theorem wk_349 : Cond.instanceMethod (⟨"KeyedCellsModel", "size", "()I"⟩ : MethodName) ∈ BG := List.mem_of_getElem? (i := 349) (by decide +kernel)
theorem wk_350 : Cond.selects "KeyedCellsModel" (⟨"KeyedCellsModel", "size", "()I"⟩ : MethodName) (⟨"KeyedCellsModel", "size", "()I"⟩ : MethodName) ∈ BG := List.mem_of_getElem? (i := 350) (by decide +kernel)
theorem wk_351 : Cond.code (⟨"KeyedCellsModel", "size", "()I"⟩ : MethodName) prog_5_method_25_code 1 (Option.some Jvm.ClassFile.FieldType.int) ∈ BG := List.mem_of_getElem? (i := 351) (by decide +kernel)
theorem wk_352 : Cond.methodLink "KeyedCellsLaw" 48 (⟨"KeyedCellsModel", "probeMax", "()I"⟩ : MethodName) ∈ BG := List.mem_of_getElem? (i := 352) (by decide +kernel)
theorem wk_353 : Cond.instanceMethod (⟨"KeyedCellsModel", "probeMax", "()I"⟩ : MethodName) ∈ BG := List.mem_of_getElem? (i := 353) (by decide +kernel)
theorem wk_354 : Cond.selects "KeyedCellsModel" (⟨"KeyedCellsModel", "probeMax", "()I"⟩ : MethodName) (⟨"KeyedCellsModel", "probeMax", "()I"⟩ : MethodName) ∈ BG := List.mem_of_getElem? (i := 354) (by decide +kernel)
theorem wk_355 : Cond.code (⟨"KeyedCellsModel", "probeMax", "()I"⟩ : MethodName) prog_5_method_26_code 1 (Option.some Jvm.ClassFile.FieldType.int) ∈ BG := List.mem_of_getElem? (i := 355) (by decide +kernel)
theorem wk_356 : Cond.methodLink "KeyedCellsLaw" 52 (⟨"KeyedCellsModel", "rekey", "()I"⟩ : MethodName) ∈ BG := List.mem_of_getElem? (i := 356) (by decide +kernel)
theorem wk_357 : Cond.instanceMethod (⟨"KeyedCellsModel", "rekey", "()I"⟩ : MethodName) ∈ BG := List.mem_of_getElem? (i := 357) (by decide +kernel)
theorem wk_358 : Cond.selects "KeyedCellsModel" (⟨"KeyedCellsModel", "rekey", "()I"⟩ : MethodName) (⟨"KeyedCellsModel", "rekey", "()I"⟩ : MethodName) ∈ BG := List.mem_of_getElem? (i := 358) (by decide +kernel)
theorem wk_359 : Cond.code (⟨"KeyedCellsModel", "rekey", "()I"⟩ : MethodName) prog_5_method_27_code 1 (Option.some Jvm.ClassFile.FieldType.int) ∈ BG := List.mem_of_getElem? (i := 359) (by decide +kernel)
theorem wk_360 : Cond.methodLink "KeyedCellsLaw" 56 (⟨"KeyedCellsModel", "migrateStep", "()I"⟩ : MethodName) ∈ BG := List.mem_of_getElem? (i := 360) (by decide +kernel)
theorem wk_361 : Cond.instanceMethod (⟨"KeyedCellsModel", "migrateStep", "()I"⟩ : MethodName) ∈ BG := List.mem_of_getElem? (i := 361) (by decide +kernel)
theorem wk_362 : Cond.selects "KeyedCellsModel" (⟨"KeyedCellsModel", "migrateStep", "()I"⟩ : MethodName) (⟨"KeyedCellsModel", "migrateStep", "()I"⟩ : MethodName) ∈ BG := List.mem_of_getElem? (i := 362) (by decide +kernel)
theorem wk_363 : Cond.code (⟨"KeyedCellsModel", "migrateStep", "()I"⟩ : MethodName) prog_5_method_28_code 2 (Option.some Jvm.ClassFile.FieldType.int) ∈ BG := List.mem_of_getElem? (i := 363) (by decide +kernel)
theorem wk_364 : Cond.methodLink "KeyedCellsLaw" 60 (⟨"KeyedCellsModel", "hashLo", "(I)I"⟩ : MethodName) ∈ BG := List.mem_of_getElem? (i := 364) (by decide +kernel)
theorem wk_365 : Cond.instanceMethod (⟨"KeyedCellsModel", "hashLo", "(I)I"⟩ : MethodName) ∈ BG := List.mem_of_getElem? (i := 365) (by decide +kernel)
theorem wk_366 : Cond.selects "KeyedCellsModel" (⟨"KeyedCellsModel", "hashLo", "(I)I"⟩ : MethodName) (⟨"KeyedCellsModel", "hashLo", "(I)I"⟩ : MethodName) ∈ BG := List.mem_of_getElem? (i := 366) (by decide +kernel)
theorem wk_367 : Cond.code (⟨"KeyedCellsModel", "hashLo", "(I)I"⟩ : MethodName) prog_5_method_29_code 2 (Option.some Jvm.ClassFile.FieldType.int) ∈ BG := List.mem_of_getElem? (i := 367) (by decide +kernel)
theorem wk_368 : Cond.methodLink "KeyedCellsLaw" 64 (⟨"KeyedCellsModel", "hashHi", "(I)I"⟩ : MethodName) ∈ BG := List.mem_of_getElem? (i := 368) (by decide +kernel)
theorem wk_369 : Cond.instanceMethod (⟨"KeyedCellsModel", "hashHi", "(I)I"⟩ : MethodName) ∈ BG := List.mem_of_getElem? (i := 369) (by decide +kernel)
theorem wk_370 : Cond.selects "KeyedCellsModel" (⟨"KeyedCellsModel", "hashHi", "(I)I"⟩ : MethodName) (⟨"KeyedCellsModel", "hashHi", "(I)I"⟩ : MethodName) ∈ BG := List.mem_of_getElem? (i := 370) (by decide +kernel)
theorem wk_371 : Cond.code (⟨"KeyedCellsModel", "hashHi", "(I)I"⟩ : MethodName) prog_5_method_30_code 2 (Option.some Jvm.ClassFile.FieldType.int) ∈ BG := List.mem_of_getElem? (i := 371) (by decide +kernel)
theorem wk_372 : Cond.methodLink "KeyedCellsLaw" 68 (⟨"KeyedCellsModel", "keyWord", "(I)I"⟩ : MethodName) ∈ BG := List.mem_of_getElem? (i := 372) (by decide +kernel)
theorem wk_373 : Cond.instanceMethod (⟨"KeyedCellsModel", "keyWord", "(I)I"⟩ : MethodName) ∈ BG := List.mem_of_getElem? (i := 373) (by decide +kernel)
theorem wk_374 : Cond.selects "KeyedCellsModel" (⟨"KeyedCellsModel", "keyWord", "(I)I"⟩ : MethodName) (⟨"KeyedCellsModel", "keyWord", "(I)I"⟩ : MethodName) ∈ BG := List.mem_of_getElem? (i := 374) (by decide +kernel)
theorem wk_375 : Cond.code (⟨"KeyedCellsModel", "keyWord", "(I)I"⟩ : MethodName) prog_5_method_31_code 2 (Option.some Jvm.ClassFile.FieldType.int) ∈ BG := List.mem_of_getElem? (i := 375) (by decide +kernel)
theorem wk_376 : Cond.methodLink "KeyedCellsLaw" 72 (⟨"KeyedCellsModel", "nth", "(I)I"⟩ : MethodName) ∈ BG := List.mem_of_getElem? (i := 376) (by decide +kernel)
theorem wk_377 : Cond.instanceMethod (⟨"KeyedCellsModel", "nth", "(I)I"⟩ : MethodName) ∈ BG := List.mem_of_getElem? (i := 377) (by decide +kernel)
theorem wk_378 : Cond.selects "KeyedCellsModel" (⟨"KeyedCellsModel", "nth", "(I)I"⟩ : MethodName) (⟨"KeyedCellsModel", "nth", "(I)I"⟩ : MethodName) ∈ BG := List.mem_of_getElem? (i := 378) (by decide +kernel)
theorem wk_379 : Cond.code (⟨"KeyedCellsModel", "nth", "(I)I"⟩ : MethodName) prog_5_method_32_code 2 (Option.some Jvm.ClassFile.FieldType.int) ∈ BG := List.mem_of_getElem? (i := 379) (by decide +kernel)
theorem wk_380 : Cond.methodLink "KeyedCellsLaw" 77 (⟨"KeyedCellsModel", "filled", "(ZI)I"⟩ : MethodName) ∈ BG := List.mem_of_getElem? (i := 380) (by decide +kernel)
theorem wk_381 : Cond.instanceMethod (⟨"KeyedCellsModel", "filled", "(ZI)I"⟩ : MethodName) ∈ BG := List.mem_of_getElem? (i := 381) (by decide +kernel)
theorem wk_382 : Cond.selects "KeyedCellsModel" (⟨"KeyedCellsModel", "filled", "(ZI)I"⟩ : MethodName) (⟨"KeyedCellsModel", "filled", "(ZI)I"⟩ : MethodName) ∈ BG := List.mem_of_getElem? (i := 382) (by decide +kernel)
theorem wk_383 : Cond.code (⟨"KeyedCellsModel", "filled", "(ZI)I"⟩ : MethodName) prog_5_method_33_code 3 (Option.some Jvm.ClassFile.FieldType.int) ∈ BG := List.mem_of_getElem? (i := 383) (by decide +kernel)
theorem wk_384 : Cond.methodLink "KeyedCellsLaw" 81 (⟨"KeyedCellsModel", "above", "(I)I"⟩ : MethodName) ∈ BG := List.mem_of_getElem? (i := 384) (by decide +kernel)
theorem wk_385 : Cond.instanceMethod (⟨"KeyedCellsModel", "above", "(I)I"⟩ : MethodName) ∈ BG := List.mem_of_getElem? (i := 385) (by decide +kernel)
theorem wk_386 : Cond.selects "KeyedCellsModel" (⟨"KeyedCellsModel", "above", "(I)I"⟩ : MethodName) (⟨"KeyedCellsModel", "above", "(I)I"⟩ : MethodName) ∈ BG := List.mem_of_getElem? (i := 386) (by decide +kernel)
theorem wk_387 : Cond.code (⟨"KeyedCellsModel", "above", "(I)I"⟩ : MethodName) prog_5_method_34_code 6 (Option.some Jvm.ClassFile.FieldType.int) ∈ BG := List.mem_of_getElem? (i := 387) (by decide +kernel)
theorem wk_388 : Cond.methodLink "KeyedCellsLaw" 86 (⟨"KeyedCellsModel", "sum", "()J"⟩ : MethodName) ∈ BG := List.mem_of_getElem? (i := 388) (by decide +kernel)
theorem wk_389 : Cond.instanceMethod (⟨"KeyedCellsModel", "sum", "()J"⟩ : MethodName) ∈ BG := List.mem_of_getElem? (i := 389) (by decide +kernel)
theorem wk_390 : Cond.selects "KeyedCellsModel" (⟨"KeyedCellsModel", "sum", "()J"⟩ : MethodName) (⟨"KeyedCellsModel", "sum", "()J"⟩ : MethodName) ∈ BG := List.mem_of_getElem? (i := 390) (by decide +kernel)
theorem wk_391 : Cond.code (⟨"KeyedCellsModel", "sum", "()J"⟩ : MethodName) prog_5_method_35_code 4 (Option.some Jvm.ClassFile.FieldType.long) ∈ BG := List.mem_of_getElem? (i := 391) (by decide +kernel)
theorem wk_392 : Cond.constantLong "KeyedCellsModel" 168 2 ∈ BG := List.mem_of_getElem? (i := 392) (by decide +kernel)
theorem wk_393 : Cond.methodLink "KeyedCellsLaw" 90 (⟨"KeyedCellsModel", "rekeys", "()I"⟩ : MethodName) ∈ BG := List.mem_of_getElem? (i := 393) (by decide +kernel)
theorem wk_394 : Cond.instanceMethod (⟨"KeyedCellsModel", "rekeys", "()I"⟩ : MethodName) ∈ BG := List.mem_of_getElem? (i := 394) (by decide +kernel)
theorem wk_395 : Cond.selects "KeyedCellsModel" (⟨"KeyedCellsModel", "rekeys", "()I"⟩ : MethodName) (⟨"KeyedCellsModel", "rekeys", "()I"⟩ : MethodName) ∈ BG := List.mem_of_getElem? (i := 395) (by decide +kernel)
theorem wk_396 : Cond.code (⟨"KeyedCellsModel", "rekeys", "()I"⟩ : MethodName) prog_5_method_36_code 1 (Option.some Jvm.ClassFile.FieldType.int) ∈ BG := List.mem_of_getElem? (i := 396) (by decide +kernel)
theorem wk_397 : Cond.selects "KeyedCells" (⟨"KeyedCells", "beginNewTable", "()V"⟩ : MethodName) (⟨"KeyedCells", "beginNewTable", "()V"⟩ : MethodName) ∈ BG := List.mem_of_getElem? (i := 397) (by decide +kernel)
theorem wk_398 : Cond.selects "KeyedCells$Table" (⟨"KeyedCells$Table", "clear", "()V"⟩ : MethodName) (⟨"KeyedCells$Table", "clear", "()V"⟩ : MethodName) ∈ BG := List.mem_of_getElem? (i := 398) (by decide +kernel)
theorem wk_399 : Cond.selects "KeyedCells$Generator" (⟨"KeyedCells$Generator", "draw", "()I"⟩ : MethodName) (⟨"KeyedCells$Generator", "draw", "()I"⟩ : MethodName) ∈ BG := List.mem_of_getElem? (i := 399) (by decide +kernel)
theorem wk_400 : Cond.selects "KeyedCells" (⟨"KeyedCells", "makeStep", "()I"⟩ : MethodName) (⟨"KeyedCells", "makeStep", "()I"⟩ : MethodName) ∈ BG := List.mem_of_getElem? (i := 400) (by decide +kernel)
theorem wk_401 : Cond.selects "KeyedCells$Table" (⟨"KeyedCells$Table", "markGone", "(I)V"⟩ : MethodName) (⟨"KeyedCells$Table", "markGone", "(I)V"⟩ : MethodName) ∈ BG := List.mem_of_getElem? (i := 401) (by decide +kernel)
theorem wk_402 : Cond.selects "KeyedCells$Table" (⟨"KeyedCells$Table", "place", "(II)I"⟩ : MethodName) (⟨"KeyedCells$Table", "place", "(II)I"⟩ : MethodName) ∈ BG := List.mem_of_getElem? (i := 402) (by decide +kernel)
theorem wk_403 : Cond.selects "KeyedCells$Table" (⟨"KeyedCells$Table", "homeOf", "(I)I"⟩ : MethodName) (⟨"KeyedCells$Table", "homeOf", "(I)I"⟩ : MethodName) ∈ BG := List.mem_of_getElem? (i := 403) (by decide +kernel)
theorem wk_404 : Cond.selects "KeyedCells$Table" (⟨"KeyedCells$Table", "hashOf", "(I)J"⟩ : MethodName) (⟨"KeyedCells$Table", "hashOf", "(I)J"⟩ : MethodName) ∈ BG := List.mem_of_getElem? (i := 404) (by decide +kernel)
theorem wk_405 : Cond.selects "KeyedCells$Table" (⟨"KeyedCells$Table", "fill", "(III)V"⟩ : MethodName) (⟨"KeyedCells$Table", "fill", "(III)V"⟩ : MethodName) ∈ BG := List.mem_of_getElem? (i := 405) (by decide +kernel)
theorem wk_406 : Cond.selects "KeyedCells" (⟨"KeyedCells", "holderOf", "(I)LKeyedCells$Table;"⟩ : MethodName) (⟨"KeyedCells", "holderOf", "(I)LKeyedCells$Table;"⟩ : MethodName) ∈ BG := List.mem_of_getElem? (i := 406) (by decide +kernel)
theorem wk_407 : Cond.selects "KeyedCells$Table" (⟨"KeyedCells$Table", "cellOf", "(I)I"⟩ : MethodName) (⟨"KeyedCells$Table", "cellOf", "(I)I"⟩ : MethodName) ∈ BG := List.mem_of_getElem? (i := 407) (by decide +kernel)
theorem wk_408 : Cond.selects "KeyedCells$Table" (⟨"KeyedCells$Table", "change", "(II)V"⟩ : MethodName) (⟨"KeyedCells$Table", "change", "(II)V"⟩ : MethodName) ∈ BG := List.mem_of_getElem? (i := 408) (by decide +kernel)
theorem wk_409 : Cond.selects "KeyedCells" (⟨"KeyedCells", "boundCount", "()I"⟩ : MethodName) (⟨"KeyedCells", "boundCount", "()I"⟩ : MethodName) ∈ BG := List.mem_of_getElem? (i := 409) (by decide +kernel)
theorem wk_410 : Cond.selects "KeyedCells" (⟨"KeyedCells", "drawNewKey", "()I"⟩ : MethodName) (⟨"KeyedCells", "drawNewKey", "()I"⟩ : MethodName) ∈ BG := List.mem_of_getElem? (i := 410) (by decide +kernel)
theorem wk_411 : Cond.selects "KeyedCells$Table" (⟨"KeyedCells$Table", "valueOf", "(I)I"⟩ : MethodName) (⟨"KeyedCells$Table", "valueOf", "(I)I"⟩ : MethodName) ∈ BG := List.mem_of_getElem? (i := 411) (by decide +kernel)
theorem wk_412 : Cond.selects "KeyedCells$Table" (⟨"KeyedCells$Table", "takeOut", "(I)V"⟩ : MethodName) (⟨"KeyedCells$Table", "takeOut", "(I)V"⟩ : MethodName) ∈ BG := List.mem_of_getElem? (i := 412) (by decide +kernel)
theorem wk_413 : Cond.selects "KeyedCells$Table" (⟨"KeyedCells$Table", "markAt", "(I)I"⟩ : MethodName) (⟨"KeyedCells$Table", "markAt", "(I)I"⟩ : MethodName) ∈ BG := List.mem_of_getElem? (i := 413) (by decide +kernel)
theorem wk_414 : Cond.selects "KeyedCells$Table" (⟨"KeyedCells$Table", "nearestAbove", "(II)I"⟩ : MethodName) (⟨"KeyedCells$Table", "nearestAbove", "(II)I"⟩ : MethodName) ∈ BG := List.mem_of_getElem? (i := 414) (by decide +kernel)
theorem wk_415 : Cond.selects "KeyedCells" (⟨"KeyedCells", "sumOver", "(LKeyedCells$Table;)J"⟩ : MethodName) (⟨"KeyedCells", "sumOver", "(LKeyedCells$Table;)J"⟩ : MethodName) ∈ BG := List.mem_of_getElem? (i := 415) (by decide +kernel)
theorem wk_416 : Cond.selects "KeyedCellsModel" (⟨"KeyedCellsModel", "drawKey", "()V"⟩ : MethodName) (⟨"KeyedCellsModel", "drawKey", "()V"⟩ : MethodName) ∈ BG := List.mem_of_getElem? (i := 416) (by decide +kernel)
theorem wk_417 : Cond.selects "KeyedCellsModel" (⟨"KeyedCellsModel", "draw", "()I"⟩ : MethodName) (⟨"KeyedCellsModel", "draw", "()I"⟩ : MethodName) ∈ BG := List.mem_of_getElem? (i := 417) (by decide +kernel)
theorem wk_418 : Cond.selects "KeyedCellsModel" (⟨"KeyedCellsModel", "step", "()I"⟩ : MethodName) (⟨"KeyedCellsModel", "step", "()I"⟩ : MethodName) ∈ BG := List.mem_of_getElem? (i := 418) (by decide +kernel)
theorem wk_419 : Cond.selects "KeyedCellsModel" (⟨"KeyedCellsModel", "nextOld", "()I"⟩ : MethodName) (⟨"KeyedCellsModel", "nextOld", "()I"⟩ : MethodName) ∈ BG := List.mem_of_getElem? (i := 419) (by decide +kernel)
theorem wk_420 : Cond.selects "KeyedCellsModel" (⟨"KeyedCellsModel", "enter", "(II)I"⟩ : MethodName) (⟨"KeyedCellsModel", "enter", "(II)I"⟩ : MethodName) ∈ BG := List.mem_of_getElem? (i := 420) (by decide +kernel)
theorem wk_421 : Cond.selects "KeyedCellsModel" (⟨"KeyedCellsModel", "home", "(I)I"⟩ : MethodName) (⟨"KeyedCellsModel", "home", "(I)I"⟩ : MethodName) ∈ BG := List.mem_of_getElem? (i := 421) (by decide +kernel)
theorem wk_422 : Cond.selects "KeyedCellsModel" (⟨"KeyedCellsModel", "hash", "(JJI)J"⟩ : MethodName) (⟨"KeyedCellsModel", "hash", "(JJI)J"⟩ : MethodName) ∈ BG := List.mem_of_getElem? (i := 422) (by decide +kernel)
theorem wk_423 : Cond.selects "KeyedCellsModel" (⟨"KeyedCellsModel", "round", "()V"⟩ : MethodName) (⟨"KeyedCellsModel", "round", "()V"⟩ : MethodName) ∈ BG := List.mem_of_getElem? (i := 423) (by decide +kernel)
theorem wk_424 : Cond.selects "KeyedCellsModel" (⟨"KeyedCellsModel", "find", "(I)I"⟩ : MethodName) (⟨"KeyedCellsModel", "find", "(I)I"⟩ : MethodName) ∈ BG := List.mem_of_getElem? (i := 424) (by decide +kernel)
theorem wk_425 : Cond.selects "KeyedCellsModel" (⟨"KeyedCellsModel", "findOld", "(I)I"⟩ : MethodName) (⟨"KeyedCellsModel", "findOld", "(I)I"⟩ : MethodName) ∈ BG := List.mem_of_getElem? (i := 425) (by decide +kernel)
theorem wk_426 : Cond.selects "KeyedCellsModel" (⟨"KeyedCellsModel", "inNew", "()I"⟩ : MethodName) (⟨"KeyedCellsModel", "inNew", "()I"⟩ : MethodName) ∈ BG := List.mem_of_getElem? (i := 426) (by decide +kernel)
theorem wk_427 : Cond.selects "KeyedCellsModel" (⟨"KeyedCellsModel", "inOld", "()I"⟩ : MethodName) (⟨"KeyedCellsModel", "inOld", "()I"⟩ : MethodName) ∈ BG := List.mem_of_getElem? (i := 427) (by decide +kernel)
theorem wk_428 : Cond.selects "KeyedCellsModel" (⟨"KeyedCellsModel", "renew", "()I"⟩ : MethodName) (⟨"KeyedCellsModel", "renew", "()I"⟩ : MethodName) ∈ BG := List.mem_of_getElem? (i := 428) (by decide +kernel)
theorem wk_429 : Cond.selects "KeyedCellsModel" (⟨"KeyedCellsModel", "close", "(I)V"⟩ : MethodName) (⟨"KeyedCellsModel", "close", "(I)V"⟩ : MethodName) ∈ BG := List.mem_of_getElem? (i := 429) (by decide +kernel)
theorem wk_430 : Cond.selects "KeyedCellsModel" (⟨"KeyedCellsModel", "behind", "(II)I"⟩ : MethodName) (⟨"KeyedCellsModel", "behind", "(II)I"⟩ : MethodName) ∈ BG := List.mem_of_getElem? (i := 430) (by decide +kernel)
theorem BG_good : BG.all goodWord = true := by decide +kernel
def NL : List Cond := [.methodLinkNest "KeyedCells" 27 (⟨"KeyedCells$Generator", "<init>", "(I)V"⟩ : MethodName) "KeyedCells", .methodLinkNest "KeyedCells" 36 (⟨"KeyedCells$Table", "<init>", "(I)V"⟩ : MethodName) "KeyedCells", .fieldLinkNest "KeyedCells" 111 "KeyedCells$Table" "mask" "I" "KeyedCells", .fieldLinkNest "KeyedCells" 114 "KeyedCells$Table" "marks" "[I" "KeyedCells", .fieldLinkNest "KeyedCells" 101 "KeyedCells$Table" "keys" "[I" "KeyedCells", .fieldLinkNest "KeyedCells" 117 "KeyedCells$Table" "values" "[I" "KeyedCells", .fieldLinkNest "KeyedCells" 94 "KeyedCells$Table" "words" "[I" "KeyedCells", .fieldLinkNest "KeyedCells" 87 "KeyedCells$Table" "count" "I" "KeyedCells", .methodLinkNest "KeyedCells" 120 (⟨"KeyedCells$Table", "clear", "()V"⟩ : MethodName) "KeyedCells", .methodLinkNest "KeyedCells" 123 (⟨"KeyedCells$Generator", "draw", "()I"⟩ : MethodName) "KeyedCells", .methodLinkNest "KeyedCells" 84 (⟨"KeyedCells$Table", "markGone", "(I)V"⟩ : MethodName) "KeyedCells", .methodLinkNest "KeyedCells" 68 (⟨"KeyedCells$Table", "place", "(II)I"⟩ : MethodName) "KeyedCells", .methodLinkNest "KeyedCells" 78 (⟨"KeyedCells$Table", "cellOf", "(I)I"⟩ : MethodName) "KeyedCells", .methodLinkNest "KeyedCells" 61 (⟨"KeyedCells$Table", "change", "(II)V"⟩ : MethodName) "KeyedCells", .methodLinkNest "KeyedCells" 74 (⟨"KeyedCells$Table", "valueOf", "(I)I"⟩ : MethodName) "KeyedCells", .methodLinkNest "KeyedCells" 81 (⟨"KeyedCells$Table", "takeOut", "(I)V"⟩ : MethodName) "KeyedCells", .methodLinkNest "KeyedCells" 90 (⟨"KeyedCells$Table", "hashOf", "(I)J"⟩ : MethodName) "KeyedCells", .methodLinkNest "KeyedCells" 98 (⟨"KeyedCells$Table", "markAt", "(I)I"⟩ : MethodName) "KeyedCells", .methodLinkNest "KeyedCells" 104 (⟨"KeyedCells$Table", "nearestAbove", "(II)I"⟩ : MethodName) "KeyedCells"]
theorem wn_0 : Cond.methodLinkNest "KeyedCells" 27 (⟨"KeyedCells$Generator", "<init>", "(I)V"⟩ : MethodName) "KeyedCells" ∈ NL := List.mem_of_getElem? (i := 0) (by decide +kernel)
theorem wn_1 : Cond.methodLinkNest "KeyedCells" 36 (⟨"KeyedCells$Table", "<init>", "(I)V"⟩ : MethodName) "KeyedCells" ∈ NL := List.mem_of_getElem? (i := 1) (by decide +kernel)
theorem wn_2 : Cond.fieldLinkNest "KeyedCells" 111 "KeyedCells$Table" "mask" "I" "KeyedCells" ∈ NL := List.mem_of_getElem? (i := 2) (by decide +kernel)
theorem wn_3 : Cond.fieldLinkNest "KeyedCells" 114 "KeyedCells$Table" "marks" "[I" "KeyedCells" ∈ NL := List.mem_of_getElem? (i := 3) (by decide +kernel)
theorem wn_4 : Cond.fieldLinkNest "KeyedCells" 101 "KeyedCells$Table" "keys" "[I" "KeyedCells" ∈ NL := List.mem_of_getElem? (i := 4) (by decide +kernel)
theorem wn_5 : Cond.fieldLinkNest "KeyedCells" 117 "KeyedCells$Table" "values" "[I" "KeyedCells" ∈ NL := List.mem_of_getElem? (i := 5) (by decide +kernel)
theorem wn_6 : Cond.fieldLinkNest "KeyedCells" 94 "KeyedCells$Table" "words" "[I" "KeyedCells" ∈ NL := List.mem_of_getElem? (i := 6) (by decide +kernel)
theorem wn_7 : Cond.fieldLinkNest "KeyedCells" 87 "KeyedCells$Table" "count" "I" "KeyedCells" ∈ NL := List.mem_of_getElem? (i := 7) (by decide +kernel)
theorem wn_8 : Cond.methodLinkNest "KeyedCells" 120 (⟨"KeyedCells$Table", "clear", "()V"⟩ : MethodName) "KeyedCells" ∈ NL := List.mem_of_getElem? (i := 8) (by decide +kernel)
theorem wn_9 : Cond.methodLinkNest "KeyedCells" 123 (⟨"KeyedCells$Generator", "draw", "()I"⟩ : MethodName) "KeyedCells" ∈ NL := List.mem_of_getElem? (i := 9) (by decide +kernel)
theorem wn_10 : Cond.methodLinkNest "KeyedCells" 84 (⟨"KeyedCells$Table", "markGone", "(I)V"⟩ : MethodName) "KeyedCells" ∈ NL := List.mem_of_getElem? (i := 10) (by decide +kernel)
theorem wn_11 : Cond.methodLinkNest "KeyedCells" 68 (⟨"KeyedCells$Table", "place", "(II)I"⟩ : MethodName) "KeyedCells" ∈ NL := List.mem_of_getElem? (i := 11) (by decide +kernel)
theorem wn_12 : Cond.methodLinkNest "KeyedCells" 78 (⟨"KeyedCells$Table", "cellOf", "(I)I"⟩ : MethodName) "KeyedCells" ∈ NL := List.mem_of_getElem? (i := 12) (by decide +kernel)
theorem wn_13 : Cond.methodLinkNest "KeyedCells" 61 (⟨"KeyedCells$Table", "change", "(II)V"⟩ : MethodName) "KeyedCells" ∈ NL := List.mem_of_getElem? (i := 13) (by decide +kernel)
theorem wn_14 : Cond.methodLinkNest "KeyedCells" 74 (⟨"KeyedCells$Table", "valueOf", "(I)I"⟩ : MethodName) "KeyedCells" ∈ NL := List.mem_of_getElem? (i := 14) (by decide +kernel)
theorem wn_15 : Cond.methodLinkNest "KeyedCells" 81 (⟨"KeyedCells$Table", "takeOut", "(I)V"⟩ : MethodName) "KeyedCells" ∈ NL := List.mem_of_getElem? (i := 15) (by decide +kernel)
theorem wn_16 : Cond.methodLinkNest "KeyedCells" 90 (⟨"KeyedCells$Table", "hashOf", "(I)J"⟩ : MethodName) "KeyedCells" ∈ NL := List.mem_of_getElem? (i := 16) (by decide +kernel)
theorem wn_17 : Cond.methodLinkNest "KeyedCells" 98 (⟨"KeyedCells$Table", "markAt", "(I)I"⟩ : MethodName) "KeyedCells" ∈ NL := List.mem_of_getElem? (i := 17) (by decide +kernel)
theorem wn_18 : Cond.methodLinkNest "KeyedCells" 104 (⟨"KeyedCells$Table", "nearestAbove", "(II)I"⟩ : MethodName) "KeyedCells" ∈ NL := List.mem_of_getElem? (i := 18) (by decide +kernel)
def isN : Cond → Bool
  | .fieldLinkNest .. => true
  | .methodLinkNest .. => true
  | _ => false
theorem NL_n : NL.all isN = true := by decide +kernel
/-- what the nest's links say, of a state -/
def NW (U : State) : Prop := ∀ w ∈ NL, va_Nw w U
theorem NW.same {u U : State} (h : u.vm = U.vm) (hN : NW u) : NW U := fun w hw => by
  have h1 := List.all_eq_true.mp NL_n w hw
  have h2 := hN w hw
  cases w <;> first | exact absurd h1 Bool.false_ne_true | exact va_Nw.same rfl h h2
theorem NW.warm {s U : State} (hW : s.WarmedH U.vm) (hN : NW s) : NW U := fun w hw => by
  have h1 := List.all_eq_true.mp NL_n w hw
  have h2 := hN w hw
  cases w <;> first | exact absurd h1 Bool.false_ne_true | exact va_Nw.warmF hW h2 | exact va_Nw.warmM hW h2
theorem gd_of (ex : List Cond) (h : ∀ w ∈ ex, w ∈ BG) : GoodIn BG (ex ++ BG) := fun w hw => by
  have hm : w ∈ BG := (List.mem_append.mp hw).elim (h w) id
  exact ⟨hm, good_of_word (List.all_eq_true.mp BG_good w hm)⟩
theorem gd_0 {a : Cond} (h : a ∈ BG) : GoodIn BG (a :: BG) := gd_of [a] (fun w hw => by rw [List.mem_singleton.mp hw]; exact h)
theorem gd_3 {a b d e : Cond} (h1 : a ∈ BG) (h2 : b ∈ BG) (h3 : d ∈ BG) (h4 : e ∈ BG) : GoodIn BG (a :: b :: d :: e :: BG) := gd_of [a, b, d, e] (fun w hw => by
  simp only [List.mem_cons, List.not_mem_nil, or_false] at hw
  rcases hw with rfl | rfl | rfl | rfl <;> assumption)
theorem gd_4 {a b d e f : Cond} (h1 : a ∈ BG) (h2 : b ∈ BG) (h3 : d ∈ BG) (h4 : e ∈ BG) (h5 : f ∈ BG) : GoodIn BG (a :: b :: d :: e :: f :: BG) := gd_of [a, b, d, e, f] (fun w hw => by
  simp only [List.mem_cons, List.not_mem_nil, or_false] at hw
  rcases hw with rfl | rfl | rfl | rfl | rfl <;> assumption)
theorem uw_in {C : String} {T : u_T} {N : Nat} (h : (u_ws C T N).all (fun w => decide (w ∈ BG)) = true) : ∀ w ∈ u_ws C T N, w ∈ BG := fun w hw => of_decide_eq_true (List.all_eq_true.mp h w hw)
theorem in_Gen : ∀ w ∈ u_ws R_Gen F_Gen 4, w ∈ BG := uw_in (by decide +kernel)
theorem in_Table : ∀ w ∈ u_ws R_Table F_Table 6, w ∈ BG := uw_in (by decide +kernel)
theorem in_Cells : ∀ w ∈ u_ws R_Cells F_Cells 7, w ∈ BG := uw_in (by decide +kernel)
theorem in_Model : ∀ w ∈ u_ws R_Model F_Model 24, w ∈ BG := uw_in (by decide +kernel)
theorem g_Cells_9 : GoodIn BG (.code y_Math_min b_Math_min 2 (some .int) :: BG) := gd_0 wk_18
theorem g_Cells_15 : GoodIn BG (.code y_Math_max b_Math_max 2 (some .int) :: BG) := gd_0 wk_21
theorem g_Cells_27 : GoodIn BG (.code y_Gen_init b_Gen_init 2 (none) :: BG) := gd_0 wk_25
theorem g_Cells_36 : GoodIn BG (.code y_Table_init b_Table_init 2 (none) :: BG) := gd_0 wk_47
theorem g_Cells_50 : GoodIn BG (wsV R_Cells 50 R_Cells y_Cells_beginNewTable (.code y_Cells_beginNewTable b_Cells_beginNewTable 2 (none) :: BG)) := gd_4 wk_62 wk_63 wk_397 wk_1 wk_64
theorem g_Cells_53 : GoodIn BG (wsV R_Cells 53 R_Cells y_Cells_makeStep (.code y_Cells_makeStep b_Cells_makeStep 3 (some .int) :: BG)) := gd_4 wk_90 wk_91 wk_400 wk_1 wk_92
theorem g_Cells_57 : GoodIn BG (wsV R_Cells 57 R_Cells y_Cells_holderOf (.code y_Cells_holderOf b_Cells_holderOf 2 (some (.object "KeyedCells$Table")) :: BG)) := gd_4 wk_119 wk_120 wk_406 wk_1 wk_121
theorem g_Cells_61 : GoodIn BG (.code y_Table_change b_Table_change 4 (none) :: BG) := gd_0 wk_125
theorem g_Cells_65 : GoodIn BG (wsV R_Cells 65 R_Cells y_Cells_boundCount (.code y_Cells_boundCount b_Cells_boundCount 1 (some .int) :: BG)) := gd_4 wk_127 wk_128 wk_409 wk_1 wk_129
theorem g_Cells_68 : GoodIn BG (.code y_Table_place b_Table_place 5 (some .int) :: BG) := gd_0 wk_96
theorem g_Cells_71 : GoodIn BG (wsV R_Cells 71 R_Cells y_Cells_drawNewKey (.code y_Cells_drawNewKey b_Cells_drawNewKey 3 (some .int) :: BG)) := gd_4 wk_130 wk_131 wk_410 wk_1 wk_132
theorem g_Cells_74 : GoodIn BG (.code y_Table_valueOf b_Table_valueOf 3 (some .int) :: BG) := gd_0 wk_138
theorem g_Cells_78 : GoodIn BG (.code y_Table_cellOf b_Table_cellOf 4 (some .int) :: BG) := gd_0 wk_123
theorem g_Cells_81 : GoodIn BG (.code y_Table_takeOut b_Table_takeOut 7 (none) :: BG) := gd_0 wk_148
theorem g_Cells_84 : GoodIn BG (.code y_Table_markGone b_Table_markGone 2 (none) :: BG) := gd_0 wk_94
theorem g_Cells_90 : GoodIn BG (.code y_Table_hashOf b_Table_hashOf 17 (some .long) :: BG) := gd_0 wk_102
theorem g_Cells_98 : GoodIn BG (.code y_Table_markAt b_Table_markAt 2 (some .int) :: BG) := gd_0 wk_182
theorem g_Cells_104 : GoodIn BG (.code y_Table_nearestAbove b_Table_nearestAbove 6 (some .int) :: BG) := gd_0 wk_192
theorem g_Cells_107 : GoodIn BG (wsV R_Cells 107 R_Cells y_Cells_sumOver (.code y_Cells_sumOver b_Cells_sumOver 5 (some .long) :: BG)) := gd_4 wk_197 wk_198 wk_415 wk_1 wk_199
theorem g_Cells_120 : GoodIn BG (.code y_Table_clear b_Table_clear 2 (none) :: BG) := gd_0 wk_66
theorem g_Cells_123 : GoodIn BG (.code y_Gen_draw b_Gen_draw 3 (some .int) :: BG) := gd_0 wk_68
theorem g_Model_39 : GoodIn BG (wsS R_Model 39 y_Model_mixed (.code y_Model_mixed b_Model_mixed 2 (some .int) :: BG)) := gd_3 wk_215 wk_216 wk_6 wk_217
theorem g_Model_58 : GoodIn BG (wsV R_Model 58 R_Model y_Model_drawKey (.code y_Model_drawKey b_Model_drawKey 2 (none) :: BG)) := gd_4 wk_223 wk_224 wk_416 wk_6 wk_225
theorem g_Model_63 : GoodIn BG (wsS R_Model 63 y_Model_turned (.code y_Model_turned b_Model_turned 2 (some .int) :: BG)) := gd_3 wk_229 wk_230 wk_6 wk_231
theorem g_Model_69 : GoodIn BG (wsV R_Model 69 R_Model y_Model_draw (.code y_Model_draw b_Model_draw 3 (some .int) :: BG)) := gd_4 wk_226 wk_227 wk_417 wk_6 wk_228
theorem g_Model_73 : GoodIn BG (wsS R_Model 73 y_Model_joined (.code y_Model_joined b_Model_joined 2 (some .long) :: BG)) := gd_3 wk_232 wk_233 wk_6 wk_234
theorem g_Model_96 : GoodIn BG (wsS R_Model 96 y_Model_around (.code y_Model_around b_Model_around 3 (some .long) :: BG)) := gd_3 wk_311 wk_312 wk_6 wk_313
theorem g_Model_109 : GoodIn BG (wsV R_Model 109 R_Model y_Model_round (.code y_Model_round b_Model_round 1 (none) :: BG)) := gd_4 wk_308 wk_309 wk_423 wk_6 wk_310
theorem g_Model_114 : GoodIn BG (wsV R_Model 114 R_Model y_Model_hash (.code y_Model_hash b_Model_hash 9 (some .long) :: BG)) := gd_4 wk_300 wk_301 wk_422 wk_6 wk_302
theorem g_Model_118 : GoodIn BG (wsV R_Model 118 R_Model y_Model_home (.code y_Model_home b_Model_home 2 (some .int) :: BG)) := gd_4 wk_297 wk_298 wk_421 wk_6 wk_299
theorem g_Model_131 : GoodIn BG (wsV R_Model 131 R_Model y_Model_nextOld (.code y_Model_nextOld b_Model_nextOld 2 (some .int) :: BG)) := gd_4 wk_291 wk_292 wk_419 wk_6 wk_293
theorem g_Model_134 : GoodIn BG (wsV R_Model 134 R_Model y_Model_enter (.code y_Model_enter b_Model_enter 6 (some .int) :: BG)) := gd_4 wk_294 wk_295 wk_420 wk_6 wk_296
theorem g_Model_137 : GoodIn BG (wsV R_Model 137 R_Model y_Model_step (.code y_Model_step b_Model_step 4 (some .int) :: BG)) := gd_4 wk_288 wk_289 wk_418 wk_6 wk_290
theorem g_Model_140 : GoodIn BG (wsV R_Model 140 R_Model y_Model_inNew (.code y_Model_inNew b_Model_inNew 3 (some .int) :: BG)) := gd_4 wk_321 wk_322 wk_426 wk_6 wk_323
theorem g_Model_149 : GoodIn BG (wsV R_Model 149 R_Model y_Model_find (.code y_Model_find b_Model_find 5 (some .int) :: BG)) := gd_4 wk_315 wk_316 wk_424 wk_6 wk_317
theorem g_Model_152 : GoodIn BG (wsV R_Model 152 R_Model y_Model_findOld (.code y_Model_findOld b_Model_findOld 5 (some .int) :: BG)) := gd_4 wk_318 wk_319 wk_425 wk_6 wk_320
theorem g_Model_155 : GoodIn BG (wsV R_Model 155 R_Model y_Model_inOld (.code y_Model_inOld b_Model_inOld 3 (some .int) :: BG)) := gd_4 wk_324 wk_325 wk_427 wk_6 wk_326
theorem g_Model_158 : GoodIn BG (wsV R_Model 158 R_Model y_Model_renew (.code y_Model_renew b_Model_renew 3 (some .int) :: BG)) := gd_4 wk_327 wk_328 wk_428 wk_6 wk_329
theorem g_Model_161 : GoodIn BG (wsV R_Model 161 R_Model y_Model_behind (.code y_Model_behind b_Model_behind 3 (some .int) :: BG)) := gd_4 wk_345 wk_346 wk_430 wk_6 wk_347
theorem g_Model_164 : GoodIn BG (wsV R_Model 164 R_Model y_Model_close (.code y_Model_close b_Model_close 7 (none) :: BG)) := gd_4 wk_342 wk_343 wk_429 wk_6 wk_344
theorem g_Gen_10 : GoodIn BG (wsS R_Gen 10 y_Gen_mixed (.code y_Gen_mixed b_Gen_mixed 2 (some .int) :: BG)) := gd_3 wk_28 wk_29 wk_3 wk_30
theorem g_Gen_32 : GoodIn BG (.code y_Int_rotateLeft b_Int_rotateLeft 2 (some .int) :: BG) := gd_0 wk_71
theorem g_Table_31 : GoodIn BG (wsS R_Table 31 y_Table_joined (.code y_Table_joined b_Table_joined 2 (some .long) :: BG)) := gd_3 wk_103 wk_104 wk_4 wk_105
theorem g_Table_44 : GoodIn BG (.code y_Lng_rotateLeft b_Lng_rotateLeft 3 (some .long) :: BG) := gd_0 wk_114
theorem g_Table_54 : GoodIn BG (wsV R_Table 54 R_Table y_Table_hashOf (.code y_Table_hashOf b_Table_hashOf 17 (some .long) :: BG)) := gd_4 wk_100 wk_101 wk_404 wk_4 wk_102
theorem g_Table_58 : GoodIn BG (wsV R_Table 58 R_Table y_Table_homeOf (.code y_Table_homeOf b_Table_homeOf 2 (some .int) :: BG)) := gd_4 wk_97 wk_98 wk_403 wk_4 wk_99
theorem g_Table_62 : GoodIn BG (wsV R_Table 62 R_Table y_Table_cellOf (.code y_Table_cellOf b_Table_cellOf 4 (some .int) :: BG)) := gd_4 wk_126 wk_122 wk_407 wk_4 wk_123
theorem g_Table_65 : GoodIn BG (wsV R_Table 65 R_Table y_Table_fill (.code y_Table_fill b_Table_fill 4 (none) :: BG)) := gd_4 wk_116 wk_117 wk_405 wk_4 wk_118
theorem g_Law_9 : GoodIn BG (wsS R_Law 9 y_Law_cell (.code y_Law_cell b_Law_cell 2 (some .int) :: BG)) := gd_3 wk_205 wk_206 wk_0 wk_207
theorem g_Law_15 : GoodIn BG (.code y_Cells_init b_Cells_init 5 (none) :: BG) := gd_0 wk_12
theorem g_Law_20 : GoodIn BG (.code y_Model_init b_Model_init 4 (none) :: BG) := gd_0 wk_212
theorem g_Law_21 : GoodIn BG (wsV R_Law 21 R_Cells y_Cells_put (.code y_Cells_put b_Cells_put 5 (some .int) :: BG)) := gd_4 wk_86 wk_87 wk_88 wk_1 wk_89
theorem g_Law_25 : GoodIn BG (wsV R_Law 25 R_Model y_Model_put (.code y_Model_put b_Model_put 7 (some .int) :: BG)) := gd_4 wk_284 wk_285 wk_286 wk_6 wk_287
theorem g_Law_26 : GoodIn BG (wsV R_Law 26 R_Cells y_Cells_get (.code y_Cells_get b_Cells_get 3 (some .int) :: BG)) := gd_4 wk_133 wk_134 wk_135 wk_1 wk_136
theorem g_Law_30 : GoodIn BG (wsV R_Law 30 R_Model y_Model_get (.code y_Model_get b_Model_get 4 (some .int) :: BG)) := gd_4 wk_330 wk_331 wk_332 wk_6 wk_333
theorem g_Law_31 : GoodIn BG (wsV R_Law 31 R_Cells y_Cells_has (.code y_Cells_has b_Cells_has 2 (some .boolean) :: BG)) := gd_4 wk_139 wk_140 wk_141 wk_1 wk_142
theorem g_Law_35 : GoodIn BG (wsV R_Law 35 R_Model y_Model_has (.code y_Model_has b_Model_has 2 (some .boolean) :: BG)) := gd_4 wk_334 wk_335 wk_336 wk_6 wk_337
theorem g_Law_36 : GoodIn BG (wsV R_Law 36 R_Cells y_Cells_remove (.code y_Cells_remove b_Cells_remove 3 (some .boolean) :: BG)) := gd_4 wk_143 wk_144 wk_145 wk_1 wk_146
theorem g_Law_39 : GoodIn BG (wsV R_Law 39 R_Model y_Model_remove (.code y_Model_remove b_Model_remove 4 (some .boolean) :: BG)) := gd_4 wk_338 wk_339 wk_340 wk_6 wk_341
theorem g_Law_40 : GoodIn BG (wsV R_Law 40 R_Cells y_Cells_size (.code y_Cells_size b_Cells_size 1 (some .int) :: BG)) := gd_4 wk_149 wk_150 wk_151 wk_1 wk_152
theorem g_Law_44 : GoodIn BG (wsV R_Law 44 R_Model y_Model_size (.code y_Model_size b_Model_size 1 (some .int) :: BG)) := gd_4 wk_348 wk_349 wk_350 wk_6 wk_351
theorem g_Law_45 : GoodIn BG (wsV R_Law 45 R_Cells y_Cells_probeMax (.code y_Cells_probeMax b_Cells_probeMax 1 (some .int) :: BG)) := gd_4 wk_153 wk_154 wk_155 wk_1 wk_156
theorem g_Law_48 : GoodIn BG (wsV R_Law 48 R_Model y_Model_probeMax (.code y_Model_probeMax b_Model_probeMax 1 (some .int) :: BG)) := gd_4 wk_352 wk_353 wk_354 wk_6 wk_355
theorem g_Law_49 : GoodIn BG (wsV R_Law 49 R_Cells y_Cells_rekey (.code y_Cells_rekey b_Cells_rekey 1 (some .int) :: BG)) := gd_4 wk_157 wk_158 wk_159 wk_1 wk_160
theorem g_Law_52 : GoodIn BG (wsV R_Law 52 R_Model y_Model_rekey (.code y_Model_rekey b_Model_rekey 1 (some .int) :: BG)) := gd_4 wk_356 wk_357 wk_358 wk_6 wk_359
theorem g_Law_53 : GoodIn BG (wsV R_Law 53 R_Cells y_Cells_migrateStep (.code y_Cells_migrateStep b_Cells_migrateStep 1 (some .int) :: BG)) := gd_4 wk_161 wk_162 wk_163 wk_1 wk_164
theorem g_Law_56 : GoodIn BG (wsV R_Law 56 R_Model y_Model_migrateStep (.code y_Model_migrateStep b_Model_migrateStep 2 (some .int) :: BG)) := gd_4 wk_360 wk_361 wk_362 wk_6 wk_363
theorem g_Law_57 : GoodIn BG (wsV R_Law 57 R_Cells y_Cells_hashLo (.code y_Cells_hashLo b_Cells_hashLo 2 (some .int) :: BG)) := gd_4 wk_165 wk_166 wk_167 wk_1 wk_168
theorem g_Law_60 : GoodIn BG (wsV R_Law 60 R_Model y_Model_hashLo (.code y_Model_hashLo b_Model_hashLo 2 (some .int) :: BG)) := gd_4 wk_364 wk_365 wk_366 wk_6 wk_367
theorem g_Law_61 : GoodIn BG (wsV R_Law 61 R_Cells y_Cells_hashHi (.code y_Cells_hashHi b_Cells_hashHi 2 (some .int) :: BG)) := gd_4 wk_169 wk_170 wk_171 wk_1 wk_172
theorem g_Law_64 : GoodIn BG (wsV R_Law 64 R_Model y_Model_hashHi (.code y_Model_hashHi b_Model_hashHi 2 (some .int) :: BG)) := gd_4 wk_368 wk_369 wk_370 wk_6 wk_371
theorem g_Law_65 : GoodIn BG (wsV R_Law 65 R_Cells y_Cells_keyWord (.code y_Cells_keyWord b_Cells_keyWord 2 (some .int) :: BG)) := gd_4 wk_173 wk_174 wk_175 wk_1 wk_176
theorem g_Law_68 : GoodIn BG (wsV R_Law 68 R_Model y_Model_keyWord (.code y_Model_keyWord b_Model_keyWord 2 (some .int) :: BG)) := gd_4 wk_372 wk_373 wk_374 wk_6 wk_375
theorem g_Law_69 : GoodIn BG (wsV R_Law 69 R_Cells y_Cells_nth (.code y_Cells_nth b_Cells_nth 2 (some .int) :: BG)) := gd_4 wk_177 wk_178 wk_179 wk_1 wk_180
theorem g_Law_72 : GoodIn BG (wsV R_Law 72 R_Model y_Model_nth (.code y_Model_nth b_Model_nth 2 (some .int) :: BG)) := gd_4 wk_376 wk_377 wk_378 wk_6 wk_379
theorem g_Law_73 : GoodIn BG (wsV R_Law 73 R_Cells y_Cells_filled (.code y_Cells_filled b_Cells_filled 3 (some .int) :: BG)) := gd_4 wk_183 wk_184 wk_185 wk_1 wk_186
theorem g_Law_77 : GoodIn BG (wsV R_Law 77 R_Model y_Model_filled (.code y_Model_filled b_Model_filled 3 (some .int) :: BG)) := gd_4 wk_380 wk_381 wk_382 wk_6 wk_383
theorem g_Law_78 : GoodIn BG (wsV R_Law 78 R_Cells y_Cells_above (.code y_Cells_above b_Cells_above 2 (some .int) :: BG)) := gd_4 wk_187 wk_188 wk_189 wk_1 wk_190
theorem g_Law_81 : GoodIn BG (wsV R_Law 81 R_Model y_Model_above (.code y_Model_above b_Model_above 6 (some .int) :: BG)) := gd_4 wk_384 wk_385 wk_386 wk_6 wk_387
theorem g_Law_82 : GoodIn BG (wsV R_Law 82 R_Cells y_Cells_sum (.code y_Cells_sum b_Cells_sum 1 (some .long) :: BG)) := gd_4 wk_193 wk_194 wk_195 wk_1 wk_196
theorem g_Law_86 : GoodIn BG (wsV R_Law 86 R_Model y_Model_sum (.code y_Model_sum b_Model_sum 4 (some .long) :: BG)) := gd_4 wk_388 wk_389 wk_390 wk_6 wk_391
theorem g_Law_87 : GoodIn BG (wsV R_Law 87 R_Cells y_Cells_rekeys (.code y_Cells_rekeys b_Cells_rekeys 1 (some .int) :: BG)) := gd_4 wk_201 wk_202 wk_203 wk_1 wk_204
theorem g_Law_90 : GoodIn BG (wsV R_Law 90 R_Model y_Model_rekeys (.code y_Model_rekeys b_Model_rekeys 1 (some .int) :: BG)) := gd_4 wk_393 wk_394 wk_395 wk_6 wk_396
