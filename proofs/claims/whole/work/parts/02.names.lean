abbrev R_H : String := "HangOrder"
def F_H : u_T := fun k => match k with
  | 0 => ("HangOrder", "nodes", "LHangOrder$NodeTable;", true)
  | 1 => ("HangOrder", "touchedRow", "LHangOrder$Numbers;", true)
  | 2 => ("HangOrder", "foundRow", "LHangOrder$Numbers;", true)
  | 3 => ("HangOrder", "workedRow", "LHangOrder$Numbers;", true)
  | 4 => ("HangOrder", "ready", "LHangOrder$LeastFirst;", true)
  | 5 => ("HangOrder", "linkCount", "I", false)
  | _ => ("HangOrder", "ringedCount", "I", false)
def ft_H : Nat → FieldType := fun k => match k with
  | 0 => .object "HangOrder$NodeTable"
  | 1 => .object "HangOrder$Numbers"
  | 2 => .object "HangOrder$Numbers"
  | 3 => .object "HangOrder$Numbers"
  | 4 => .object "HangOrder$LeastFirst"
  | 5 => .int
  | _ => .int
theorem fn_H : ∀ a, a < 7 → ∀ b, b < 7 → a ≠ b → (F_H a).2.1 ≠ (F_H b).2.1 := by decide +kernel
theorem ft_H_ok : ∀ k, k < 7 → parseFieldDescriptor (F_H k).2.2.1 = some (ft_H k) := by decide +kernel
abbrev R_T : String := "HangOrder$NodeTable"
def F_T : u_T := fun k => match k with
  | _ => ("HangOrder$NodeTable", "pages", "[LHangOrder$Page;", true)
def ft_T : Nat → FieldType := fun k => match k with
  | _ => .array (.object "HangOrder$Page")
theorem fn_T : ∀ a, a < 1 → ∀ b, b < 1 → a ≠ b → (F_T a).2.1 ≠ (F_T b).2.1 := by decide +kernel
theorem ft_T_ok : ∀ k, k < 1 → parseFieldDescriptor (F_T k).2.2.1 = some (ft_T k) := by decide +kernel
abbrev R_P : String := "HangOrder$Page"
def F_P : u_T := fun k => match k with
  | _ => ("HangOrder$Page", "row", "[LHangOrder$Node;", true)
def ft_P : Nat → FieldType := fun k => match k with
  | _ => .array (.object "HangOrder$Node")
theorem fn_P : ∀ a, a < 1 → ∀ b, b < 1 → a ≠ b → (F_P a).2.1 ≠ (F_P b).2.1 := by decide +kernel
theorem ft_P_ok : ∀ k, k < 1 → parseFieldDescriptor (F_P k).2.2.1 = some (ft_P k) := by decide +kernel
abbrev R_N : String := "HangOrder$Node"
def F_N : u_T := fun k => match k with
  | 0 => ("HangOrder$Node", "number", "I", true)
  | 1 => ("HangOrder$Node", "firstRead", "LHangOrder$Link;", false)
  | 2 => ("HangOrder$Node", "firstReader", "LHangOrder$Link;", false)
  | 3 => ("HangOrder$Node", "readCount", "I", false)
  | 4 => ("HangOrder$Node", "readerCount", "I", false)
  | 5 => ("HangOrder$Node", "isTouched", "Z", false)
  | 6 => ("HangOrder$Node", "isRinged", "Z", false)
  | 7 => ("HangOrder$Node", "isFound", "Z", false)
  | _ => ("HangOrder$Node", "waiting", "I", false)
def ft_N : Nat → FieldType := fun k => match k with
  | 0 => .int
  | 1 => .object "HangOrder$Link"
  | 2 => .object "HangOrder$Link"
  | 3 => .int
  | 4 => .int
  | 5 => .boolean
  | 6 => .boolean
  | 7 => .boolean
  | _ => .int
theorem fn_N : ∀ a, a < 9 → ∀ b, b < 9 → a ≠ b → (F_N a).2.1 ≠ (F_N b).2.1 := by decide +kernel
theorem ft_N_ok : ∀ k, k < 9 → parseFieldDescriptor (F_N k).2.2.1 = some (ft_N k) := by decide +kernel
abbrev R_K : String := "HangOrder$Link"
def F_K : u_T := fun k => match k with
  | 0 => ("HangOrder$Link", "reader", "LHangOrder$Node;", true)
  | 1 => ("HangOrder$Link", "source", "LHangOrder$Node;", true)
  | 2 => ("HangOrder$Link", "previousRead", "LHangOrder$Link;", false)
  | 3 => ("HangOrder$Link", "nextRead", "LHangOrder$Link;", false)
  | 4 => ("HangOrder$Link", "previousReader", "LHangOrder$Link;", false)
  | _ => ("HangOrder$Link", "nextReader", "LHangOrder$Link;", false)
def ft_K : Nat → FieldType := fun k => match k with
  | 0 => .object "HangOrder$Node"
  | 1 => .object "HangOrder$Node"
  | 2 => .object "HangOrder$Link"
  | 3 => .object "HangOrder$Link"
  | 4 => .object "HangOrder$Link"
  | _ => .object "HangOrder$Link"
theorem fn_K : ∀ a, a < 6 → ∀ b, b < 6 → a ≠ b → (F_K a).2.1 ≠ (F_K b).2.1 := by decide +kernel
theorem ft_K_ok : ∀ k, k < 6 → parseFieldDescriptor (F_K k).2.2.1 = some (ft_K k) := by decide +kernel
abbrev R_U : String := "HangOrder$Numbers"
def F_U : u_T := fun k => match k with
  | 0 => ("HangOrder$Numbers", "row", "[I", false)
  | _ => ("HangOrder$Numbers", "size", "I", false)
def ft_U : Nat → FieldType := fun k => match k with
  | 0 => .array .int
  | _ => .int
theorem fn_U : ∀ a, a < 2 → ∀ b, b < 2 → a ≠ b → (F_U a).2.1 ≠ (F_U b).2.1 := by decide +kernel
theorem ft_U_ok : ∀ k, k < 2 → parseFieldDescriptor (F_U k).2.2.1 = some (ft_U k) := by decide +kernel
abbrev R_F : String := "HangOrder$LeastFirst"
def F_F : u_T := fun k => match k with
  | _ => ("HangOrder$LeastFirst", "heap", "LHangOrder$Numbers;", true)
def ft_F : Nat → FieldType := fun k => match k with
  | _ => .object "HangOrder$Numbers"
theorem fn_F : ∀ a, a < 1 → ∀ b, b < 1 → a ≠ b → (F_F a).2.1 ≠ (F_F b).2.1 := by decide +kernel
theorem ft_F_ok : ∀ k, k < 1 → parseFieldDescriptor (F_F k).2.2.1 = some (ft_F k) := by decide +kernel
abbrev R_M : String := "HangOrderModel"
def F_M : u_T := fun k => match k with
  | 0 => ("HangOrderModel", "code", "I", false)
  | 1 => ("HangOrderModel", "links", "I", false)
  | 2 => ("HangOrderModel", "from", "[I", true)
  | 3 => ("HangOrderModel", "to", "[I", true)
  | 4 => ("HangOrderModel", "nodes", "I", false)
  | 5 => ("HangOrderModel", "numbers", "[I", true)
  | 6 => ("HangOrderModel", "touched", "[Z", true)
  | 7 => ("HangOrderModel", "ringed", "[Z", true)
  | 8 => ("HangOrderModel", "wanted", "[Z", true)
  | 9 => ("HangOrderModel", "done", "[Z", true)
  | 10 => ("HangOrderModel", "many", "I", false)
  | 11 => ("HangOrderModel", "worked", "[I", true)
  | _ => ("HangOrderModel", "found", "I", false)
def ft_M : Nat → FieldType := fun k => match k with
  | 0 => .int
  | 1 => .int
  | 2 => .array .int
  | 3 => .array .int
  | 4 => .int
  | 5 => .array .int
  | 6 => .array .boolean
  | 7 => .array .boolean
  | 8 => .array .boolean
  | 9 => .array .boolean
  | 10 => .int
  | 11 => .array .int
  | _ => .int
theorem fn_M : ∀ a, a < 13 → ∀ b, b < 13 → a ≠ b → (F_M a).2.1 ≠ (F_M b).2.1 := by decide +kernel
theorem ft_M_ok : ∀ k, k < 13 → parseFieldDescriptor (F_M k).2.2.1 = some (ft_M k) := by decide +kernel
abbrev R_L : String := "HangOrderLaw"
/-- the classes whose objects the stores hold, by their numbers -/
abbrev cls : List vw_C := [(R_H, F_H, 7), (R_T, F_T, 1), (R_P, F_P, 1), (R_N, F_N, 9), (R_K, F_K, 6), (R_U, F_U, 2), (R_F, F_F, 1), (R_M, F_M, 13)]
/-- which of their fields are references -/
def sg : Nat → List Bool := fun c => match c with
  | 0 => [true, true, true, true, true, false, false]
  | 1 => [true]
  | 2 => [true]
  | 3 => [false, true, true, false, false, false, false, false, false]
  | 4 => [true, true, true, true, true, true]
  | 5 => [true, false]
  | 6 => [true]
  | 7 => [false, false, true, true, false, true, true, true, true, true, false, true, false]
  | _ => []
/-- kinds of arrays: 0 int, 1 Page, 2 Node, 3 long, 4 boolean; 0 is of ints, 1 of longs, 2 of references -/
def tk : Nat → Nat := fun t => match t with
  | 1 => 2
  | 2 => 2
  | 3 => 1
  | _ => 0
abbrev tys (dA : Nat → ClassId) : List (ClassId × FieldType) := [(dA 0, .int), (dA 1, .object "HangOrder$Page"), (dA 2, .object "HangOrder$Node"), (dA 3, .long), (dA 4, .boolean)]
abbrev c_H_init : ByteArray := prog_1_method_1_code
abbrev y_H_init : MethodName := ⟨R_H, "<init>", "()V"⟩
abbrev c_H_link : ByteArray := prog_1_method_2_code
abbrev y_H_link : MethodName := ⟨R_H, "link", "(II)Z"⟩
abbrev c_H_unlink : ByteArray := prog_1_method_3_code
abbrev y_H_unlink : MethodName := ⟨R_H, "unlink", "(II)Z"⟩
abbrev c_H_clear : ByteArray := prog_1_method_4_code
abbrev y_H_clear : MethodName := ⟨R_H, "clear", "(I)I"⟩
abbrev c_H_touch : ByteArray := prog_1_method_5_code
abbrev y_H_touch : MethodName := ⟨R_H, "touch", "(I)V"⟩
abbrev c_H_work : ByteArray := prog_1_method_6_code
abbrev y_H_work : MethodName := ⟨R_H, "work", "()I"⟩
abbrev c_H_worked : ByteArray := prog_1_method_7_code
abbrev y_H_worked : MethodName := ⟨R_H, "worked", "(I)I"⟩
abbrev c_H_found : ByteArray := prog_1_method_8_code
abbrev y_H_found : MethodName := ⟨R_H, "found", "()I"⟩
abbrev c_H_ringed : ByteArray := prog_1_method_9_code
abbrev y_H_ringed : MethodName := ⟨R_H, "ringed", "(I)Z"⟩
abbrev c_H_links : ByteArray := prog_1_method_10_code
abbrev y_H_links : MethodName := ⟨R_H, "links", "(II)I"⟩
abbrev c_H_touched : ByteArray := prog_1_method_11_code
abbrev y_H_touched : MethodName := ⟨R_H, "touched", "(I)Z"⟩
abbrev c_H_isNode : ByteArray := prog_1_method_12_code
abbrev y_H_isNode : MethodName := ⟨R_H, "isNode", "(I)Z"⟩
abbrev c_H_requireNode : ByteArray := prog_1_method_13_code
abbrev y_H_requireNode : MethodName := ⟨R_H, "requireNode", "(I)V"⟩
abbrev c_H_linkBetween : ByteArray := prog_1_method_14_code
abbrev y_H_linkBetween : MethodName := ⟨R_H, "linkBetween", "(II)LHangOrder$Link;"⟩
abbrev c_H_markTouched : ByteArray := prog_1_method_15_code
abbrev y_H_markTouched : MethodName := ⟨R_H, "markTouched", "(LHangOrder$Node;)V"⟩
abbrev c_H_markFound : ByteArray := prog_1_method_16_code
abbrev y_H_markFound : MethodName := ⟨R_H, "markFound", "(LHangOrder$Node;)V"⟩
abbrev c_H_findTouched : ByteArray := prog_1_method_17_code
abbrev y_H_findTouched : MethodName := ⟨R_H, "findTouched", "()V"⟩
abbrev c_H_findHanging : ByteArray := prog_1_method_18_code
abbrev y_H_findHanging : MethodName := ⟨R_H, "findHanging", "()V"⟩
abbrev c_H_countWaiting : ByteArray := prog_1_method_19_code
abbrev y_H_countWaiting : MethodName := ⟨R_H, "countWaiting", "()V"⟩
abbrev c_H_readsToWaitFor : ByteArray := prog_1_method_20_code
abbrev y_H_readsToWaitFor : MethodName := ⟨R_H, "readsToWaitFor", "(LHangOrder$Node;)I"⟩
abbrev c_H_workOutReady : ByteArray := prog_1_method_21_code
abbrev y_H_workOutReady : MethodName := ⟨R_H, "workOutReady", "()V"⟩
abbrev c_H_releaseOnce : ByteArray := prog_1_method_22_code
abbrev y_H_releaseOnce : MethodName := ⟨R_H, "releaseOnce", "(LHangOrder$Node;)V"⟩
abbrev c_H_settleRinged : ByteArray := prog_1_method_23_code
abbrev y_H_settleRinged : MethodName := ⟨R_H, "settleRinged", "()V"⟩
abbrev c_M_init : ByteArray := prog_9_method_1_code
abbrev y_M_init : MethodName := ⟨R_M, "<init>", "()V"⟩
abbrev c_M_thrown : ByteArray := prog_9_method_2_code
abbrev y_M_thrown : MethodName := ⟨R_M, "thrown", "()I"⟩
abbrev c_M_isNode : ByteArray := prog_9_method_3_code
abbrev y_M_isNode : MethodName := ⟨R_M, "isNode", "(I)Z"⟩
abbrev c_M_find : ByteArray := prog_9_method_4_code
abbrev y_M_find : MethodName := ⟨R_M, "find", "(I)I"⟩
abbrev c_M_place : ByteArray := prog_9_method_5_code
abbrev y_M_place : MethodName := ⟨R_M, "place", "(I)I"⟩
abbrev c_M_linkOf : ByteArray := prog_9_method_6_code
abbrev y_M_linkOf : MethodName := ⟨R_M, "linkOf", "(II)I"⟩
abbrev c_M_cut : ByteArray := prog_9_method_7_code
abbrev y_M_cut : MethodName := ⟨R_M, "cut", "(I)V"⟩
abbrev c_M_link : ByteArray := prog_9_method_8_code
abbrev y_M_link : MethodName := ⟨R_M, "link", "(II)Z"⟩
abbrev c_M_unlink : ByteArray := prog_9_method_9_code
abbrev y_M_unlink : MethodName := ⟨R_M, "unlink", "(II)Z"⟩
abbrev c_M_clear : ByteArray := prog_9_method_10_code
abbrev y_M_clear : MethodName := ⟨R_M, "clear", "(I)I"⟩
abbrev c_M_touch : ByteArray := prog_9_method_11_code
abbrev y_M_touch : MethodName := ⟨R_M, "touch", "(I)V"⟩
abbrev c_M_spread : ByteArray := prog_9_method_12_code
abbrev y_M_spread : MethodName := ⟨R_M, "spread", "()V"⟩
abbrev c_M_findRings : ByteArray := prog_9_method_13_code
abbrev y_M_findRings : MethodName := ⟨R_M, "findRings", "()V"⟩
abbrev c_M_isReady : ByteArray := prog_9_method_14_code
abbrev y_M_isReady : MethodName := ⟨R_M, "isReady", "(I)Z"⟩
abbrev c_M_work : ByteArray := prog_9_method_15_code
abbrev y_M_work : MethodName := ⟨R_M, "work", "()I"⟩
abbrev c_M_worked : ByteArray := prog_9_method_16_code
abbrev y_M_worked : MethodName := ⟨R_M, "worked", "(I)I"⟩
abbrev c_M_found : ByteArray := prog_9_method_17_code
abbrev y_M_found : MethodName := ⟨R_M, "found", "()I"⟩
abbrev c_M_ringed : ByteArray := prog_9_method_18_code
abbrev y_M_ringed : MethodName := ⟨R_M, "ringed", "(I)Z"⟩
abbrev c_M_links : ByteArray := prog_9_method_19_code
abbrev y_M_links : MethodName := ⟨R_M, "links", "(II)I"⟩
abbrev c_M_touched : ByteArray := prog_9_method_20_code
abbrev y_M_touched : MethodName := ⟨R_M, "touched", "(I)Z"⟩
abbrev c_F_init : ByteArray := prog_2_method_1_code
abbrev y_F_init : MethodName := ⟨R_F, "<init>", "()V"⟩
abbrev c_F_isEmpty : ByteArray := prog_2_method_2_code
abbrev y_F_isEmpty : MethodName := ⟨R_F, "isEmpty", "()Z"⟩
abbrev c_F_put : ByteArray := prog_2_method_3_code
abbrev y_F_put : MethodName := ⟨R_F, "put", "(I)V"⟩
abbrev c_F_take : ByteArray := prog_2_method_4_code
abbrev y_F_take : MethodName := ⟨R_F, "take", "()I"⟩
abbrev c_F_sinkFromTop : ByteArray := prog_2_method_5_code
abbrev y_F_sinkFromTop : MethodName := ⟨R_F, "sinkFromTop", "(I)V"⟩
abbrev c_F_lesserBelow : ByteArray := prog_2_method_6_code
abbrev y_F_lesserBelow : MethodName := ⟨R_F, "lesserBelow", "(I)I"⟩
abbrev c_K_init : ByteArray := prog_3_method_1_code
abbrev y_K_init : MethodName := ⟨R_K, "<init>", "(LHangOrder$Node;LHangOrder$Node;)V"⟩
abbrev c_K_fasten : ByteArray := prog_3_method_2_code
abbrev y_K_fasten : MethodName := ⟨R_K, "fasten", "()V"⟩
abbrev c_K_loosen : ByteArray := prog_3_method_3_code
abbrev y_K_loosen : MethodName := ⟨R_K, "loosen", "()V"⟩
abbrev c_K_joinReader : ByteArray := prog_3_method_4_code
abbrev y_K_joinReader : MethodName := ⟨R_K, "joinReader", "()V"⟩
abbrev c_K_joinSource : ByteArray := prog_3_method_5_code
abbrev y_K_joinSource : MethodName := ⟨R_K, "joinSource", "()V"⟩
abbrev c_K_leaveReader : ByteArray := prog_3_method_6_code
abbrev y_K_leaveReader : MethodName := ⟨R_K, "leaveReader", "()V"⟩
abbrev c_K_leaveSource : ByteArray := prog_3_method_7_code
abbrev y_K_leaveSource : MethodName := ⟨R_K, "leaveSource", "()V"⟩
abbrev c_N_init : ByteArray := prog_4_method_1_code
abbrev y_N_init : MethodName := ⟨R_N, "<init>", "(I)V"⟩
abbrev c_T_init : ByteArray := prog_5_method_1_code
abbrev y_T_init : MethodName := ⟨R_T, "<init>", "()V"⟩
abbrev c_T_at : ByteArray := prog_5_method_2_code
abbrev y_T_at : MethodName := ⟨R_T, "at", "(I)LHangOrder$Node;"⟩
abbrev c_T_of : ByteArray := prog_5_method_3_code
abbrev y_T_of : MethodName := ⟨R_T, "of", "(I)LHangOrder$Node;"⟩
abbrev c_T_pageIndex : ByteArray := prog_5_method_4_code
abbrev y_T_pageIndex : MethodName := ⟨R_T, "pageIndex", "(I)I"⟩
abbrev c_U_init : ByteArray := prog_6_method_1_code
abbrev y_U_init : MethodName := ⟨R_U, "<init>", "()V"⟩
abbrev c_U_add : ByteArray := prog_6_method_2_code
abbrev y_U_add : MethodName := ⟨R_U, "add", "(I)V"⟩
abbrev c_U_at : ByteArray := prog_6_method_3_code
abbrev y_U_at : MethodName := ⟨R_U, "at", "(I)I"⟩
abbrev c_U_set : ByteArray := prog_6_method_4_code
abbrev y_U_set : MethodName := ⟨R_U, "set", "(II)V"⟩
abbrev c_U_takeLast : ByteArray := prog_6_method_5_code
abbrev y_U_takeLast : MethodName := ⟨R_U, "takeLast", "()I"⟩
abbrev c_U_empty : ByteArray := prog_6_method_6_code
abbrev y_U_empty : MethodName := ⟨R_U, "empty", "()V"⟩
abbrev c_U_isIndex : ByteArray := prog_6_method_7_code
abbrev y_U_isIndex : MethodName := ⟨R_U, "isIndex", "(I)Z"⟩
abbrev c_P_init : ByteArray := prog_7_method_1_code
abbrev y_P_init : MethodName := ⟨R_P, "<init>", "()V"⟩
abbrev c_L_link : ByteArray := method_3_code
abbrev y_L_link : MethodName := ⟨R_L, "link", "(LHangOrder;II[J)I"⟩
abbrev c_L_unlink : ByteArray := method_4_code
abbrev y_L_unlink : MethodName := ⟨R_L, "unlink", "(LHangOrder;II[J)I"⟩
abbrev c_L_clear : ByteArray := method_5_code
abbrev y_L_clear : MethodName := ⟨R_L, "clear", "(LHangOrder;I[J)I"⟩
abbrev c_L_touch : ByteArray := method_6_code
abbrev y_L_touch : MethodName := ⟨R_L, "touch", "(LHangOrder;I)I"⟩
abbrev c_L_law : ByteArray := code
abbrev y_L_law : MethodName := ⟨R_L, "law", "([I)Z"⟩
abbrev c_A_copyOf : ByteArray := prog_19_method_123_code
abbrev y_A_copyOf : MethodName := ⟨"java/util/Arrays", "copyOf", "([II)[I"⟩
