section
-- ===== PART A: goes FIRST, ahead of the names: the tables' words, and 'selects' of the private methods out of them =====
/-- a private method of a class that the tables say can be made, by its rows of tables_1 -/
def lw_okq (q : MethodName × Nat) : Prop := (q.1.cls ≠ "java/lang/invoke/MethodHandle" ∧ q.1.cls ≠ "java/lang/invoke/VarHandle") ∧ Cond.instantiable q.1.cls q.2 ∈ tables_1 ∧ Cond.privateMethod q.1 ∈ tables_1 ∧ Cond.instanceMethod q.1 ∈ tables_1
theorem lw_p0 : lw_okq (⟨"HangOrder", "findTouched", "()V"⟩, 7) := ⟨⟨by decide +kernel, by decide +kernel⟩, List.mem_of_getElem? (i := 18) (by decide +kernel), List.mem_of_getElem? (i := 96) (by decide +kernel), List.mem_of_getElem? (i := 97) (by decide +kernel)⟩
theorem lw_p1 : lw_okq (⟨"HangOrder$Numbers", "isIndex", "(I)Z"⟩, 2) := ⟨⟨by decide +kernel, by decide +kernel⟩, List.mem_of_getElem? (i := 38) (by decide +kernel), List.mem_of_getElem? (i := 104) (by decide +kernel), List.mem_of_getElem? (i := 105) (by decide +kernel)⟩
theorem lw_p2 : lw_okq (⟨"HangOrder", "markFound", "(LHangOrder$Node;)V"⟩, 7) := ⟨⟨by decide +kernel, by decide +kernel⟩, List.mem_of_getElem? (i := 18) (by decide +kernel), List.mem_of_getElem? (i := 166) (by decide +kernel), List.mem_of_getElem? (i := 167) (by decide +kernel)⟩
theorem lw_p3 : lw_okq (⟨"HangOrder", "findHanging", "()V"⟩, 7) := ⟨⟨by decide +kernel, by decide +kernel⟩, List.mem_of_getElem? (i := 18) (by decide +kernel), List.mem_of_getElem? (i := 190) (by decide +kernel), List.mem_of_getElem? (i := 191) (by decide +kernel)⟩
theorem lw_p4 : lw_okq (⟨"HangOrder", "countWaiting", "()V"⟩, 7) := ⟨⟨by decide +kernel, by decide +kernel⟩, List.mem_of_getElem? (i := 18) (by decide +kernel), List.mem_of_getElem? (i := 194) (by decide +kernel), List.mem_of_getElem? (i := 195) (by decide +kernel)⟩
theorem lw_p5 : lw_okq (⟨"HangOrder", "workOutReady", "()V"⟩, 7) := ⟨⟨by decide +kernel, by decide +kernel⟩, List.mem_of_getElem? (i := 18) (by decide +kernel), List.mem_of_getElem? (i := 211) (by decide +kernel), List.mem_of_getElem? (i := 212) (by decide +kernel)⟩
theorem lw_p6 : lw_okq (⟨"HangOrder$LeastFirst", "sinkFromTop", "(I)V"⟩, 1) := ⟨⟨by decide +kernel, by decide +kernel⟩, List.mem_of_getElem? (i := 54) (by decide +kernel), List.mem_of_getElem? (i := 228) (by decide +kernel), List.mem_of_getElem? (i := 229) (by decide +kernel)⟩
theorem lw_p7 : lw_okq (⟨"HangOrder$LeastFirst", "lesserBelow", "(I)I"⟩, 1) := ⟨⟨by decide +kernel, by decide +kernel⟩, List.mem_of_getElem? (i := 54) (by decide +kernel), List.mem_of_getElem? (i := 232) (by decide +kernel), List.mem_of_getElem? (i := 233) (by decide +kernel)⟩
theorem lw_p8 : lw_okq (⟨"HangOrder", "releaseOnce", "(LHangOrder$Node;)V"⟩, 7) := ⟨⟨by decide +kernel, by decide +kernel⟩, List.mem_of_getElem? (i := 18) (by decide +kernel), List.mem_of_getElem? (i := 236) (by decide +kernel), List.mem_of_getElem? (i := 237) (by decide +kernel)⟩
theorem lw_p9 : lw_okq (⟨"HangOrder", "settleRinged", "()V"⟩, 7) := ⟨⟨by decide +kernel, by decide +kernel⟩, List.mem_of_getElem? (i := 18) (by decide +kernel), List.mem_of_getElem? (i := 240) (by decide +kernel), List.mem_of_getElem? (i := 241) (by decide +kernel)⟩
theorem lw_p10 : lw_okq (⟨"java/lang/Throwable", "fillInStackTrace", "(I)Ljava/lang/Throwable;"⟩, 6) := ⟨⟨by decide +kernel, by decide +kernel⟩, List.mem_of_getElem? (i := 321) (by decide +kernel), List.mem_of_getElem? (i := 319) (by decide +kernel), List.mem_of_getElem? (i := 320) (by decide +kernel)⟩
theorem lw_p11 : lw_okq (⟨"HangOrder", "linkBetween", "(II)LHangOrder$Link;"⟩, 7) := ⟨⟨by decide +kernel, by decide +kernel⟩, List.mem_of_getElem? (i := 18) (by decide +kernel), List.mem_of_getElem? (i := 351) (by decide +kernel), List.mem_of_getElem? (i := 352) (by decide +kernel)⟩
theorem lw_p12 : lw_okq (⟨"HangOrder$Link", "joinReader", "()V"⟩, 6) := ⟨⟨by decide +kernel, by decide +kernel⟩, List.mem_of_getElem? (i := 372) (by decide +kernel), List.mem_of_getElem? (i := 405) (by decide +kernel), List.mem_of_getElem? (i := 406) (by decide +kernel)⟩
theorem lw_p13 : lw_okq (⟨"HangOrder$Link", "joinSource", "()V"⟩, 6) := ⟨⟨by decide +kernel, by decide +kernel⟩, List.mem_of_getElem? (i := 372) (by decide +kernel), List.mem_of_getElem? (i := 409) (by decide +kernel), List.mem_of_getElem? (i := 410) (by decide +kernel)⟩
theorem lw_p14 : lw_okq (⟨"HangOrder", "markTouched", "(LHangOrder$Node;)V"⟩, 7) := ⟨⟨by decide +kernel, by decide +kernel⟩, List.mem_of_getElem? (i := 18) (by decide +kernel), List.mem_of_getElem? (i := 413) (by decide +kernel), List.mem_of_getElem? (i := 414) (by decide +kernel)⟩
theorem lw_p15 : lw_okq (⟨"HangOrder$Link", "leaveReader", "()V"⟩, 6) := ⟨⟨by decide +kernel, by decide +kernel⟩, List.mem_of_getElem? (i := 372) (by decide +kernel), List.mem_of_getElem? (i := 428) (by decide +kernel), List.mem_of_getElem? (i := 429) (by decide +kernel)⟩
def lw_privs_1 : List (MethodName × Nat) := [(⟨"HangOrder", "findTouched", "()V"⟩, 7), (⟨"HangOrder$Numbers", "isIndex", "(I)Z"⟩, 2), (⟨"HangOrder", "markFound", "(LHangOrder$Node;)V"⟩, 7), (⟨"HangOrder", "findHanging", "()V"⟩, 7), (⟨"HangOrder", "countWaiting", "()V"⟩, 7), (⟨"HangOrder", "workOutReady", "()V"⟩, 7), (⟨"HangOrder$LeastFirst", "sinkFromTop", "(I)V"⟩, 1), (⟨"HangOrder$LeastFirst", "lesserBelow", "(I)I"⟩, 1), (⟨"HangOrder", "releaseOnce", "(LHangOrder$Node;)V"⟩, 7), (⟨"HangOrder", "settleRinged", "()V"⟩, 7), (⟨"java/lang/Throwable", "fillInStackTrace", "(I)Ljava/lang/Throwable;"⟩, 6), (⟨"HangOrder", "linkBetween", "(II)LHangOrder$Link;"⟩, 7), (⟨"HangOrder$Link", "joinReader", "()V"⟩, 6), (⟨"HangOrder$Link", "joinSource", "()V"⟩, 6), (⟨"HangOrder", "markTouched", "(LHangOrder$Node;)V"⟩, 7), (⟨"HangOrder$Link", "leaveReader", "()V"⟩, 6)]
theorem lw_r1 : ∀ q ∈ lw_privs_1, lw_okq q := List.forall_mem_cons.mpr ⟨lw_p0, List.forall_mem_cons.mpr ⟨lw_p1, List.forall_mem_cons.mpr ⟨lw_p2, List.forall_mem_cons.mpr ⟨lw_p3, List.forall_mem_cons.mpr ⟨lw_p4, List.forall_mem_cons.mpr ⟨lw_p5, List.forall_mem_cons.mpr ⟨lw_p6, List.forall_mem_cons.mpr ⟨lw_p7, List.forall_mem_cons.mpr ⟨lw_p8, List.forall_mem_cons.mpr ⟨lw_p9, List.forall_mem_cons.mpr ⟨lw_p10, List.forall_mem_cons.mpr ⟨lw_p11, List.forall_mem_cons.mpr ⟨lw_p12, List.forall_mem_cons.mpr ⟨lw_p13, List.forall_mem_cons.mpr ⟨lw_p14, List.forall_mem_cons.mpr ⟨lw_p15, fun _ h => absurd h List.not_mem_nil⟩⟩⟩⟩⟩⟩⟩⟩⟩⟩⟩⟩⟩⟩⟩⟩
theorem lw_p16 : lw_okq (⟨"HangOrder$Link", "leaveSource", "()V"⟩, 6) := ⟨⟨by decide +kernel, by decide +kernel⟩, List.mem_of_getElem? (i := 372) (by decide +kernel), List.mem_of_getElem? (i := 432) (by decide +kernel), List.mem_of_getElem? (i := 433) (by decide +kernel)⟩
theorem lw_p17 : lw_okq (⟨"HangOrderModel", "place", "(I)I"⟩, 13) := ⟨⟨by decide +kernel, by decide +kernel⟩, List.mem_of_getElem? (i := 450) (by decide +kernel), List.mem_of_getElem? (i := 508) (by decide +kernel), List.mem_of_getElem? (i := 509) (by decide +kernel)⟩
theorem lw_p18 : lw_okq (⟨"HangOrderModel", "find", "(I)I"⟩, 13) := ⟨⟨by decide +kernel, by decide +kernel⟩, List.mem_of_getElem? (i := 450) (by decide +kernel), List.mem_of_getElem? (i := 512) (by decide +kernel), List.mem_of_getElem? (i := 513) (by decide +kernel)⟩
theorem lw_p19 : lw_okq (⟨"HangOrderModel", "linkOf", "(II)I"⟩, 13) := ⟨⟨by decide +kernel, by decide +kernel⟩, List.mem_of_getElem? (i := 450) (by decide +kernel), List.mem_of_getElem? (i := 516) (by decide +kernel), List.mem_of_getElem? (i := 517) (by decide +kernel)⟩
theorem lw_p20 : lw_okq (⟨"HangOrderModel", "cut", "(I)V"⟩, 13) := ⟨⟨by decide +kernel, by decide +kernel⟩, List.mem_of_getElem? (i := 450) (by decide +kernel), List.mem_of_getElem? (i := 524) (by decide +kernel), List.mem_of_getElem? (i := 525) (by decide +kernel)⟩
theorem lw_p21 : lw_okq (⟨"HangOrderModel", "spread", "()V"⟩, 13) := ⟨⟨by decide +kernel, by decide +kernel⟩, List.mem_of_getElem? (i := 450) (by decide +kernel), List.mem_of_getElem? (i := 540) (by decide +kernel), List.mem_of_getElem? (i := 541) (by decide +kernel)⟩
theorem lw_p22 : lw_okq (⟨"HangOrderModel", "findRings", "()V"⟩, 13) := ⟨⟨by decide +kernel, by decide +kernel⟩, List.mem_of_getElem? (i := 450) (by decide +kernel), List.mem_of_getElem? (i := 544) (by decide +kernel), List.mem_of_getElem? (i := 545) (by decide +kernel)⟩
theorem lw_p23 : lw_okq (⟨"HangOrderModel", "isReady", "(I)Z"⟩, 13) := ⟨⟨by decide +kernel, by decide +kernel⟩, List.mem_of_getElem? (i := 450) (by decide +kernel), List.mem_of_getElem? (i := 548) (by decide +kernel), List.mem_of_getElem? (i := 549) (by decide +kernel)⟩
def lw_privs_2 : List (MethodName × Nat) := [(⟨"HangOrder$Link", "leaveSource", "()V"⟩, 6), (⟨"HangOrderModel", "place", "(I)I"⟩, 13), (⟨"HangOrderModel", "find", "(I)I"⟩, 13), (⟨"HangOrderModel", "linkOf", "(II)I"⟩, 13), (⟨"HangOrderModel", "cut", "(I)V"⟩, 13), (⟨"HangOrderModel", "spread", "()V"⟩, 13), (⟨"HangOrderModel", "findRings", "()V"⟩, 13), (⟨"HangOrderModel", "isReady", "(I)Z"⟩, 13)]
theorem lw_r2 : ∀ q ∈ lw_privs_2, lw_okq q := List.forall_mem_cons.mpr ⟨lw_p16, List.forall_mem_cons.mpr ⟨lw_p17, List.forall_mem_cons.mpr ⟨lw_p18, List.forall_mem_cons.mpr ⟨lw_p19, List.forall_mem_cons.mpr ⟨lw_p20, List.forall_mem_cons.mpr ⟨lw_p21, List.forall_mem_cons.mpr ⟨lw_p22, List.forall_mem_cons.mpr ⟨lw_p23, fun _ h => absurd h List.not_mem_nil⟩⟩⟩⟩⟩⟩⟩⟩
def lw_privs : List (MethodName × Nat) := lw_privs_1 ++ (lw_privs_2)
def lw_tbl : List Cond := k2_sels lw_privs ++ tables_1
theorem lw_privs_ok : ∀ q ∈ lw_privs, lw_okq q := by
  show ∀ q ∈ lw_privs_1 ++ (lw_privs_2), lw_okq q
  exact List.forall_mem_append.mpr ⟨lw_r1, lw_r2⟩
end
section
abbrev R_H : String := "HangOrder"
def F_H : u_T := fun k => match k with
  | 0 => ("HangOrder", "nodes", "LHangOrder$NodeTable;", true)
  | 1 => ("HangOrder", "touchedRow", "LHangOrder$Numbers;", true)
  | 2 => ("HangOrder", "foundRow", "LHangOrder$Numbers;", true)
  | 3 => ("HangOrder", "workedRow", "LHangOrder$Numbers;", true)
  | 4 => ("HangOrder", "ready", "LHangOrder$LeastFirst;", true)
  | 5 => ("HangOrder", "linkCount", "I", false)
  | _ => ("HangOrder", "ringedCount", "I", false)
def ft_H : Nat → FieldType := fun k => match k with
  | 0 => .object "HangOrder$NodeTable"
  | 1 => .object "HangOrder$Numbers"
  | 2 => .object "HangOrder$Numbers"
  | 3 => .object "HangOrder$Numbers"
  | 4 => .object "HangOrder$LeastFirst"
  | 5 => .int
  | _ => .int
theorem fn_H : ∀ a, a < 7 → ∀ b, b < 7 → a ≠ b → (F_H a).2.1 ≠ (F_H b).2.1 := by decide +kernel
theorem ft_H_ok : ∀ k, k < 7 → parseFieldDescriptor (F_H k).2.2.1 = some (ft_H k) := by decide +kernel
abbrev R_T : String := "HangOrder$NodeTable"
def F_T : u_T := fun k => match k with
  | _ => ("HangOrder$NodeTable", "pages", "[LHangOrder$Page;", true)
def ft_T : Nat → FieldType := fun k => match k with
  | _ => .array (.object "HangOrder$Page")
theorem fn_T : ∀ a, a < 1 → ∀ b, b < 1 → a ≠ b → (F_T a).2.1 ≠ (F_T b).2.1 := by decide +kernel
theorem ft_T_ok : ∀ k, k < 1 → parseFieldDescriptor (F_T k).2.2.1 = some (ft_T k) := by decide +kernel
abbrev R_P : String := "HangOrder$Page"
def F_P : u_T := fun k => match k with
  | _ => ("HangOrder$Page", "row", "[LHangOrder$Node;", true)
def ft_P : Nat → FieldType := fun k => match k with
  | _ => .array (.object "HangOrder$Node")
theorem fn_P : ∀ a, a < 1 → ∀ b, b < 1 → a ≠ b → (F_P a).2.1 ≠ (F_P b).2.1 := by decide +kernel
theorem ft_P_ok : ∀ k, k < 1 → parseFieldDescriptor (F_P k).2.2.1 = some (ft_P k) := by decide +kernel
abbrev R_N : String := "HangOrder$Node"
def F_N : u_T := fun k => match k with
  | 0 => ("HangOrder$Node", "number", "I", true)
  | 1 => ("HangOrder$Node", "firstRead", "LHangOrder$Link;", false)
  | 2 => ("HangOrder$Node", "firstReader", "LHangOrder$Link;", false)
  | 3 => ("HangOrder$Node", "readCount", "I", false)
  | 4 => ("HangOrder$Node", "readerCount", "I", false)
  | 5 => ("HangOrder$Node", "isTouched", "Z", false)
  | 6 => ("HangOrder$Node", "isRinged", "Z", false)
  | 7 => ("HangOrder$Node", "isFound", "Z", false)
  | _ => ("HangOrder$Node", "waiting", "I", false)
def ft_N : Nat → FieldType := fun k => match k with
  | 0 => .int
  | 1 => .object "HangOrder$Link"
  | 2 => .object "HangOrder$Link"
  | 3 => .int
  | 4 => .int
  | 5 => .boolean
  | 6 => .boolean
  | 7 => .boolean
  | _ => .int
theorem fn_N : ∀ a, a < 9 → ∀ b, b < 9 → a ≠ b → (F_N a).2.1 ≠ (F_N b).2.1 := by decide +kernel
theorem ft_N_ok : ∀ k, k < 9 → parseFieldDescriptor (F_N k).2.2.1 = some (ft_N k) := by decide +kernel
abbrev R_K : String := "HangOrder$Link"
def F_K : u_T := fun k => match k with
  | 0 => ("HangOrder$Link", "reader", "LHangOrder$Node;", true)
  | 1 => ("HangOrder$Link", "source", "LHangOrder$Node;", true)
  | 2 => ("HangOrder$Link", "previousRead", "LHangOrder$Link;", false)
  | 3 => ("HangOrder$Link", "nextRead", "LHangOrder$Link;", false)
  | 4 => ("HangOrder$Link", "previousReader", "LHangOrder$Link;", false)
  | _ => ("HangOrder$Link", "nextReader", "LHangOrder$Link;", false)
def ft_K : Nat → FieldType := fun k => match k with
  | 0 => .object "HangOrder$Node"
  | 1 => .object "HangOrder$Node"
  | 2 => .object "HangOrder$Link"
  | 3 => .object "HangOrder$Link"
  | 4 => .object "HangOrder$Link"
  | _ => .object "HangOrder$Link"
theorem fn_K : ∀ a, a < 6 → ∀ b, b < 6 → a ≠ b → (F_K a).2.1 ≠ (F_K b).2.1 := by decide +kernel
theorem ft_K_ok : ∀ k, k < 6 → parseFieldDescriptor (F_K k).2.2.1 = some (ft_K k) := by decide +kernel
abbrev R_U : String := "HangOrder$Numbers"
def F_U : u_T := fun k => match k with
  | 0 => ("HangOrder$Numbers", "row", "[I", false)
  | _ => ("HangOrder$Numbers", "size", "I", false)
def ft_U : Nat → FieldType := fun k => match k with
  | 0 => .array .int
  | _ => .int
theorem fn_U : ∀ a, a < 2 → ∀ b, b < 2 → a ≠ b → (F_U a).2.1 ≠ (F_U b).2.1 := by decide +kernel
theorem ft_U_ok : ∀ k, k < 2 → parseFieldDescriptor (F_U k).2.2.1 = some (ft_U k) := by decide +kernel
abbrev R_F : String := "HangOrder$LeastFirst"
def F_F : u_T := fun k => match k with
  | _ => ("HangOrder$LeastFirst", "heap", "LHangOrder$Numbers;", true)
def ft_F : Nat → FieldType := fun k => match k with
  | _ => .object "HangOrder$Numbers"
theorem fn_F : ∀ a, a < 1 → ∀ b, b < 1 → a ≠ b → (F_F a).2.1 ≠ (F_F b).2.1 := by decide +kernel
theorem ft_F_ok : ∀ k, k < 1 → parseFieldDescriptor (F_F k).2.2.1 = some (ft_F k) := by decide +kernel
abbrev R_M : String := "HangOrderModel"
def F_M : u_T := fun k => match k with
  | 0 => ("HangOrderModel", "code", "I", false)
  | 1 => ("HangOrderModel", "links", "I", false)
  | 2 => ("HangOrderModel", "from", "[I", true)
  | 3 => ("HangOrderModel", "to", "[I", true)
  | 4 => ("HangOrderModel", "nodes", "I", false)
  | 5 => ("HangOrderModel", "numbers", "[I", true)
  | 6 => ("HangOrderModel", "touched", "[Z", true)
  | 7 => ("HangOrderModel", "ringed", "[Z", true)
  | 8 => ("HangOrderModel", "wanted", "[Z", true)
  | 9 => ("HangOrderModel", "done", "[Z", true)
  | 10 => ("HangOrderModel", "many", "I", false)
  | 11 => ("HangOrderModel", "worked", "[I", true)
  | _ => ("HangOrderModel", "found", "I", false)
def ft_M : Nat → FieldType := fun k => match k with
  | 0 => .int
  | 1 => .int
  | 2 => .array .int
  | 3 => .array .int
  | 4 => .int
  | 5 => .array .int
  | 6 => .array .boolean
  | 7 => .array .boolean
  | 8 => .array .boolean
  | 9 => .array .boolean
  | 10 => .int
  | 11 => .array .int
  | _ => .int
theorem fn_M : ∀ a, a < 13 → ∀ b, b < 13 → a ≠ b → (F_M a).2.1 ≠ (F_M b).2.1 := by decide +kernel
theorem ft_M_ok : ∀ k, k < 13 → parseFieldDescriptor (F_M k).2.2.1 = some (ft_M k) := by decide +kernel
abbrev R_L : String := "HangOrderLaw"
/-- the classes whose objects the stores hold, by their numbers -/
abbrev cls : List vw_C := [(R_H, F_H, 7), (R_T, F_T, 1), (R_P, F_P, 1), (R_N, F_N, 9), (R_K, F_K, 6), (R_U, F_U, 2), (R_F, F_F, 1), (R_M, F_M, 13)]
/-- which of their fields are references -/
def sg : Nat → List Bool := fun c => match c with
  | 0 => [true, true, true, true, true, false, false]
  | 1 => [true]
  | 2 => [true]
  | 3 => [false, true, true, false, false, false, false, false, false]
  | 4 => [true, true, true, true, true, true]
  | 5 => [true, false]
  | 6 => [true]
  | 7 => [false, false, true, true, false, true, true, true, true, true, false, true, false]
  | _ => []
/-- kinds of arrays: 0 int, 1 Page, 2 Node, 3 long, 4 boolean; 0 is of ints, 1 of longs, 2 of references -/
def tk : Nat → Nat := fun t => match t with
  | 1 => 2
  | 2 => 2
  | 3 => 1
  | _ => 0
abbrev tys (dA : Nat → ClassId) : List (ClassId × FieldType) := [(dA 0, .int), (dA 1, .object "HangOrder$Page"), (dA 2, .object "HangOrder$Node"), (dA 3, .long), (dA 4, .boolean)]
abbrev c_H_init : ByteArray := prog_1_method_1_code
abbrev y_H_init : MethodName := ⟨R_H, "<init>", "()V"⟩
abbrev c_H_link : ByteArray := prog_1_method_2_code
abbrev y_H_link : MethodName := ⟨R_H, "link", "(II)Z"⟩
abbrev c_H_unlink : ByteArray := prog_1_method_3_code
abbrev y_H_unlink : MethodName := ⟨R_H, "unlink", "(II)Z"⟩
abbrev c_H_clear : ByteArray := prog_1_method_4_code
abbrev y_H_clear : MethodName := ⟨R_H, "clear", "(I)I"⟩
abbrev c_H_touch : ByteArray := prog_1_method_5_code
abbrev y_H_touch : MethodName := ⟨R_H, "touch", "(I)V"⟩
abbrev c_H_work : ByteArray := prog_1_method_6_code
abbrev y_H_work : MethodName := ⟨R_H, "work", "()I"⟩
abbrev c_H_worked : ByteArray := prog_1_method_7_code
abbrev y_H_worked : MethodName := ⟨R_H, "worked", "(I)I"⟩
abbrev c_H_found : ByteArray := prog_1_method_8_code
abbrev y_H_found : MethodName := ⟨R_H, "found", "()I"⟩
abbrev c_H_ringed : ByteArray := prog_1_method_9_code
abbrev y_H_ringed : MethodName := ⟨R_H, "ringed", "(I)Z"⟩
abbrev c_H_links : ByteArray := prog_1_method_10_code
abbrev y_H_links : MethodName := ⟨R_H, "links", "(II)I"⟩
abbrev c_H_touched : ByteArray := prog_1_method_11_code
abbrev y_H_touched : MethodName := ⟨R_H, "touched", "(I)Z"⟩
abbrev c_H_isNode : ByteArray := prog_1_method_12_code
abbrev y_H_isNode : MethodName := ⟨R_H, "isNode", "(I)Z"⟩
abbrev c_H_requireNode : ByteArray := prog_1_method_13_code
abbrev y_H_requireNode : MethodName := ⟨R_H, "requireNode", "(I)V"⟩
abbrev c_H_linkBetween : ByteArray := prog_1_method_14_code
abbrev y_H_linkBetween : MethodName := ⟨R_H, "linkBetween", "(II)LHangOrder$Link;"⟩
abbrev c_H_markTouched : ByteArray := prog_1_method_15_code
abbrev y_H_markTouched : MethodName := ⟨R_H, "markTouched", "(LHangOrder$Node;)V"⟩
abbrev c_H_markFound : ByteArray := prog_1_method_16_code
abbrev y_H_markFound : MethodName := ⟨R_H, "markFound", "(LHangOrder$Node;)V"⟩
abbrev c_H_findTouched : ByteArray := prog_1_method_17_code
abbrev y_H_findTouched : MethodName := ⟨R_H, "findTouched", "()V"⟩
abbrev c_H_findHanging : ByteArray := prog_1_method_18_code
abbrev y_H_findHanging : MethodName := ⟨R_H, "findHanging", "()V"⟩
abbrev c_H_countWaiting : ByteArray := prog_1_method_19_code
abbrev y_H_countWaiting : MethodName := ⟨R_H, "countWaiting", "()V"⟩
abbrev c_H_readsToWaitFor : ByteArray := prog_1_method_20_code
abbrev y_H_readsToWaitFor : MethodName := ⟨R_H, "readsToWaitFor", "(LHangOrder$Node;)I"⟩
abbrev c_H_workOutReady : ByteArray := prog_1_method_21_code
abbrev y_H_workOutReady : MethodName := ⟨R_H, "workOutReady", "()V"⟩
abbrev c_H_releaseOnce : ByteArray := prog_1_method_22_code
abbrev y_H_releaseOnce : MethodName := ⟨R_H, "releaseOnce", "(LHangOrder$Node;)V"⟩
abbrev c_H_settleRinged : ByteArray := prog_1_method_23_code
abbrev y_H_settleRinged : MethodName := ⟨R_H, "settleRinged", "()V"⟩
abbrev c_M_init : ByteArray := prog_9_method_1_code
abbrev y_M_init : MethodName := ⟨R_M, "<init>", "()V"⟩
abbrev c_M_thrown : ByteArray := prog_9_method_2_code
abbrev y_M_thrown : MethodName := ⟨R_M, "thrown", "()I"⟩
abbrev c_M_isNode : ByteArray := prog_9_method_3_code
abbrev y_M_isNode : MethodName := ⟨R_M, "isNode", "(I)Z"⟩
abbrev c_M_find : ByteArray := prog_9_method_4_code
abbrev y_M_find : MethodName := ⟨R_M, "find", "(I)I"⟩
abbrev c_M_place : ByteArray := prog_9_method_5_code
abbrev y_M_place : MethodName := ⟨R_M, "place", "(I)I"⟩
abbrev c_M_linkOf : ByteArray := prog_9_method_6_code
abbrev y_M_linkOf : MethodName := ⟨R_M, "linkOf", "(II)I"⟩
abbrev c_M_cut : ByteArray := prog_9_method_7_code
abbrev y_M_cut : MethodName := ⟨R_M, "cut", "(I)V"⟩
abbrev c_M_link : ByteArray := prog_9_method_8_code
abbrev y_M_link : MethodName := ⟨R_M, "link", "(II)Z"⟩
abbrev c_M_unlink : ByteArray := prog_9_method_9_code
abbrev y_M_unlink : MethodName := ⟨R_M, "unlink", "(II)Z"⟩
abbrev c_M_clear : ByteArray := prog_9_method_10_code
abbrev y_M_clear : MethodName := ⟨R_M, "clear", "(I)I"⟩
abbrev c_M_touch : ByteArray := prog_9_method_11_code
abbrev y_M_touch : MethodName := ⟨R_M, "touch", "(I)V"⟩
abbrev c_M_spread : ByteArray := prog_9_method_12_code
abbrev y_M_spread : MethodName := ⟨R_M, "spread", "()V"⟩
abbrev c_M_findRings : ByteArray := prog_9_method_13_code
abbrev y_M_findRings : MethodName := ⟨R_M, "findRings", "()V"⟩
abbrev c_M_isReady : ByteArray := prog_9_method_14_code
abbrev y_M_isReady : MethodName := ⟨R_M, "isReady", "(I)Z"⟩
abbrev c_M_work : ByteArray := prog_9_method_15_code
abbrev y_M_work : MethodName := ⟨R_M, "work", "()I"⟩
abbrev c_M_worked : ByteArray := prog_9_method_16_code
abbrev y_M_worked : MethodName := ⟨R_M, "worked", "(I)I"⟩
abbrev c_M_found : ByteArray := prog_9_method_17_code
abbrev y_M_found : MethodName := ⟨R_M, "found", "()I"⟩
abbrev c_M_ringed : ByteArray := prog_9_method_18_code
abbrev y_M_ringed : MethodName := ⟨R_M, "ringed", "(I)Z"⟩
abbrev c_M_links : ByteArray := prog_9_method_19_code
abbrev y_M_links : MethodName := ⟨R_M, "links", "(II)I"⟩
abbrev c_M_touched : ByteArray := prog_9_method_20_code
abbrev y_M_touched : MethodName := ⟨R_M, "touched", "(I)Z"⟩
abbrev c_F_init : ByteArray := prog_2_method_1_code
abbrev y_F_init : MethodName := ⟨R_F, "<init>", "()V"⟩
abbrev c_F_isEmpty : ByteArray := prog_2_method_2_code
abbrev y_F_isEmpty : MethodName := ⟨R_F, "isEmpty", "()Z"⟩
abbrev c_F_put : ByteArray := prog_2_method_3_code
abbrev y_F_put : MethodName := ⟨R_F, "put", "(I)V"⟩
abbrev c_F_take : ByteArray := prog_2_method_4_code
abbrev y_F_take : MethodName := ⟨R_F, "take", "()I"⟩
abbrev c_F_sinkFromTop : ByteArray := prog_2_method_5_code
abbrev y_F_sinkFromTop : MethodName := ⟨R_F, "sinkFromTop", "(I)V"⟩
abbrev c_F_lesserBelow : ByteArray := prog_2_method_6_code
abbrev y_F_lesserBelow : MethodName := ⟨R_F, "lesserBelow", "(I)I"⟩
abbrev c_K_init : ByteArray := prog_3_method_1_code
abbrev y_K_init : MethodName := ⟨R_K, "<init>", "(LHangOrder$Node;LHangOrder$Node;)V"⟩
abbrev c_K_fasten : ByteArray := prog_3_method_2_code
abbrev y_K_fasten : MethodName := ⟨R_K, "fasten", "()V"⟩
abbrev c_K_loosen : ByteArray := prog_3_method_3_code
abbrev y_K_loosen : MethodName := ⟨R_K, "loosen", "()V"⟩
abbrev c_K_joinReader : ByteArray := prog_3_method_4_code
abbrev y_K_joinReader : MethodName := ⟨R_K, "joinReader", "()V"⟩
abbrev c_K_joinSource : ByteArray := prog_3_method_5_code
abbrev y_K_joinSource : MethodName := ⟨R_K, "joinSource", "()V"⟩
abbrev c_K_leaveReader : ByteArray := prog_3_method_6_code
abbrev y_K_leaveReader : MethodName := ⟨R_K, "leaveReader", "()V"⟩
abbrev c_K_leaveSource : ByteArray := prog_3_method_7_code
abbrev y_K_leaveSource : MethodName := ⟨R_K, "leaveSource", "()V"⟩
abbrev c_N_init : ByteArray := prog_4_method_1_code
abbrev y_N_init : MethodName := ⟨R_N, "<init>", "(I)V"⟩
abbrev c_T_init : ByteArray := prog_5_method_1_code
abbrev y_T_init : MethodName := ⟨R_T, "<init>", "()V"⟩
abbrev c_T_at : ByteArray := prog_5_method_2_code
abbrev y_T_at : MethodName := ⟨R_T, "at", "(I)LHangOrder$Node;"⟩
abbrev c_T_of : ByteArray := prog_5_method_3_code
abbrev y_T_of : MethodName := ⟨R_T, "of", "(I)LHangOrder$Node;"⟩
abbrev c_T_pageIndex : ByteArray := prog_5_method_4_code
abbrev y_T_pageIndex : MethodName := ⟨R_T, "pageIndex", "(I)I"⟩
abbrev c_U_init : ByteArray := prog_6_method_1_code
abbrev y_U_init : MethodName := ⟨R_U, "<init>", "()V"⟩
abbrev c_U_add : ByteArray := prog_6_method_2_code
abbrev y_U_add : MethodName := ⟨R_U, "add", "(I)V"⟩
abbrev c_U_at : ByteArray := prog_6_method_3_code
abbrev y_U_at : MethodName := ⟨R_U, "at", "(I)I"⟩
abbrev c_U_set : ByteArray := prog_6_method_4_code
abbrev y_U_set : MethodName := ⟨R_U, "set", "(II)V"⟩
abbrev c_U_takeLast : ByteArray := prog_6_method_5_code
abbrev y_U_takeLast : MethodName := ⟨R_U, "takeLast", "()I"⟩
abbrev c_U_empty : ByteArray := prog_6_method_6_code
abbrev y_U_empty : MethodName := ⟨R_U, "empty", "()V"⟩
abbrev c_U_isIndex : ByteArray := prog_6_method_7_code
abbrev y_U_isIndex : MethodName := ⟨R_U, "isIndex", "(I)Z"⟩
abbrev c_P_init : ByteArray := prog_7_method_1_code
abbrev y_P_init : MethodName := ⟨R_P, "<init>", "()V"⟩
abbrev c_L_link : ByteArray := method_3_code
abbrev y_L_link : MethodName := ⟨R_L, "link", "(LHangOrder;II[J)I"⟩
abbrev c_L_unlink : ByteArray := method_4_code
abbrev y_L_unlink : MethodName := ⟨R_L, "unlink", "(LHangOrder;II[J)I"⟩
abbrev c_L_clear : ByteArray := method_5_code
abbrev y_L_clear : MethodName := ⟨R_L, "clear", "(LHangOrder;I[J)I"⟩
abbrev c_L_touch : ByteArray := method_6_code
abbrev y_L_touch : MethodName := ⟨R_L, "touch", "(LHangOrder;I)I"⟩
abbrev c_L_law : ByteArray := code
abbrev y_L_law : MethodName := ⟨R_L, "law", "([I)Z"⟩
abbrev c_A_copyOf : ByteArray := prog_19_method_123_code
abbrev y_A_copyOf : MethodName := ⟨"java/util/Arrays", "copyOf", "([II)[I"⟩
end
section
/-- the good ones of the tables' words: every method of the system has them all -/
def gd : List Cond := lw_tbl.filter goodWord
theorem gd_tbl {i : Nat} {w : Cond} (h : tables_1[i]? = some w) (hg : goodWord w = true) : w ∈ gd := List.mem_filter.mpr ⟨List.mem_append_right _ (List.mem_of_getElem? h), hg⟩
theorem gd_sel {i : Nat} {w : Cond} (h : (k2_sels lw_privs)[i]? = some w) (hg : goodWord w = true) : w ∈ gd := List.mem_filter.mpr ⟨List.mem_append_left _ (List.mem_of_getElem? h), hg⟩
theorem kw_0 : (Jvm.Cond.initialized "HangOrderLaw") ∈ gd := gd_tbl (i := 0) (by decide +kernel) (by decide +kernel)
theorem kw_1 : (Jvm.Cond.initialized "HangOrder") ∈ gd := gd_tbl (i := 1) (by decide +kernel) (by decide +kernel)
theorem kw_2 : (Jvm.Cond.initialized "HangOrder$NodeTable") ∈ gd := gd_tbl (i := 2) (by decide +kernel) (by decide +kernel)
theorem kw_3 : (Jvm.Cond.initialized "HangOrder$Numbers") ∈ gd := gd_tbl (i := 3) (by decide +kernel) (by decide +kernel)
theorem kw_4 : (Jvm.Cond.initialized "HangOrder$LeastFirst") ∈ gd := gd_tbl (i := 4) (by decide +kernel) (by decide +kernel)
theorem kw_5 : (Jvm.Cond.initialized "HangOrderModel") ∈ gd := gd_tbl (i := 5) (by decide +kernel) (by decide +kernel)
theorem kw_6 : (Jvm.Cond.initialized "java/lang/Throwable") ∈ gd := gd_tbl (i := 6) (by decide +kernel) (by decide +kernel)
theorem kw_7 : (Jvm.Cond.initialized "java/lang/Exception") ∈ gd := gd_tbl (i := 7) (by decide +kernel) (by decide +kernel)
theorem kw_8 : (Jvm.Cond.initialized "java/lang/RuntimeException") ∈ gd := gd_tbl (i := 8) (by decide +kernel) (by decide +kernel)
theorem kw_9 : (Jvm.Cond.initialized "java/lang/IllegalArgumentException") ∈ gd := gd_tbl (i := 9) (by decide +kernel) (by decide +kernel)
theorem kw_10 : (Jvm.Cond.initialized "java/lang/IllegalStateException") ∈ gd := gd_tbl (i := 10) (by decide +kernel) (by decide +kernel)
theorem kw_11 : (Jvm.Cond.initialized "HangOrder$Page") ∈ gd := gd_tbl (i := 11) (by decide +kernel) (by decide +kernel)
theorem kw_12 : (Jvm.Cond.initialized "HangOrder$Node") ∈ gd := gd_tbl (i := 12) (by decide +kernel) (by decide +kernel)
theorem kw_13 : (Jvm.Cond.initialized "HangOrder$Link") ∈ gd := gd_tbl (i := 13) (by decide +kernel) (by decide +kernel)
theorem kw_14 : (Jvm.Cond.initialized "java/util/Arrays") ∈ gd := gd_tbl (i := 14) (by decide +kernel) (by decide +kernel)
theorem kw_15 : (Jvm.Cond.initialized "java/lang/Math") ∈ gd := gd_tbl (i := 15) (by decide +kernel) (by decide +kernel)
theorem kw_16 : (Jvm.Cond.initialized "java/lang/System") ∈ gd := gd_tbl (i := 16) (by decide +kernel) (by decide +kernel)
theorem kw_17 : (Jvm.Cond.classLink "HangOrderLaw" (8 : Nat) "HangOrder") ∈ gd := gd_tbl (i := 17) (by decide +kernel) (by decide +kernel)
theorem kw_18 : (Jvm.Cond.instantiable "HangOrder" (7 : Nat)) ∈ gd := gd_tbl (i := 18) (by decide +kernel) (by decide +kernel)
theorem kw_19 : (Jvm.Cond.methodLink "HangOrderLaw" (28 : Nat) ({ cls := "HangOrder", name := "<init>", desc := "()V" } : Jvm.MethodName)) ∈ gd := gd_tbl (i := 19) (by decide +kernel) (by decide +kernel)
theorem kw_20 : (Jvm.Cond.instanceMethod ({ cls := "HangOrder", name := "<init>", desc := "()V" } : Jvm.MethodName)) ∈ gd := gd_tbl (i := 20) (by decide +kernel) (by decide +kernel)
theorem kw_21 : (Jvm.Cond.code ({ cls := "HangOrder", name := "<init>", desc := "()V" } : Jvm.MethodName) prog_1_method_1_code (1 : Nat) (Option.none : Option Jvm.ClassFile.FieldType)) ∈ gd := gd_tbl (i := 21) (by decide +kernel) (by decide +kernel)
theorem kw_22 : (Jvm.Cond.methodLink "HangOrder" (1 : Nat) ({ cls := "java/lang/Object", name := "<init>", desc := "()V" } : Jvm.MethodName)) ∈ gd := gd_tbl (i := 22) (by decide +kernel) (by decide +kernel)
theorem kw_23 : (Jvm.Cond.instanceMethod ({ cls := "java/lang/Object", name := "<init>", desc := "()V" } : Jvm.MethodName)) ∈ gd := gd_tbl (i := 23) (by decide +kernel) (by decide +kernel)
theorem kw_24 : (Jvm.Cond.code ({ cls := "java/lang/Object", name := "<init>", desc := "()V" } : Jvm.MethodName) object_method_1_code (1 : Nat) (Option.none : Option Jvm.ClassFile.FieldType)) ∈ gd := gd_tbl (i := 24) (by decide +kernel) (by decide +kernel)
theorem kw_25 : (Jvm.Cond.classLink "HangOrder" (7 : Nat) "HangOrder$NodeTable") ∈ gd := gd_tbl (i := 25) (by decide +kernel) (by decide +kernel)
theorem kw_26 : (Jvm.Cond.instantiable "HangOrder$NodeTable" (1 : Nat)) ∈ gd := gd_tbl (i := 26) (by decide +kernel) (by decide +kernel)
theorem kw_28 : (Jvm.Cond.instanceMethod ({ cls := "HangOrder$NodeTable", name := "<init>", desc := "()V" } : Jvm.MethodName)) ∈ gd := gd_tbl (i := 28) (by decide +kernel) (by decide +kernel)
theorem kw_29 : (Jvm.Cond.code ({ cls := "HangOrder$NodeTable", name := "<init>", desc := "()V" } : Jvm.MethodName) prog_5_method_1_code (1 : Nat) (Option.none : Option Jvm.ClassFile.FieldType)) ∈ gd := gd_tbl (i := 29) (by decide +kernel) (by decide +kernel)
theorem kw_30 : (Jvm.Cond.methodLink "HangOrder$NodeTable" (5 : Nat) ({ cls := "java/lang/Object", name := "<init>", desc := "()V" } : Jvm.MethodName)) ∈ gd := gd_tbl (i := 30) (by decide +kernel) (by decide +kernel)
theorem kw_31 : (Jvm.Cond.classLink "HangOrder$NodeTable" (11 : Nat) "HangOrder$Page") ∈ gd := gd_tbl (i := 31) (by decide +kernel) (by decide +kernel)
theorem kw_33 : (Jvm.Cond.fieldLink "HangOrder$NodeTable" (13 : Nat) "HangOrder$NodeTable" "pages" "[LHangOrder$Page;") ∈ gd := gd_tbl (i := 33) (by decide +kernel) (by decide +kernel)
theorem kw_37 : (Jvm.Cond.classLink "HangOrder" (16 : Nat) "HangOrder$Numbers") ∈ gd := gd_tbl (i := 37) (by decide +kernel) (by decide +kernel)
theorem kw_38 : (Jvm.Cond.instantiable "HangOrder$Numbers" (2 : Nat)) ∈ gd := gd_tbl (i := 38) (by decide +kernel) (by decide +kernel)
theorem kw_40 : (Jvm.Cond.instanceMethod ({ cls := "HangOrder$Numbers", name := "<init>", desc := "()V" } : Jvm.MethodName)) ∈ gd := gd_tbl (i := 40) (by decide +kernel) (by decide +kernel)
theorem kw_41 : (Jvm.Cond.code ({ cls := "HangOrder$Numbers", name := "<init>", desc := "()V" } : Jvm.MethodName) prog_6_method_1_code (1 : Nat) (Option.none : Option Jvm.ClassFile.FieldType)) ∈ gd := gd_tbl (i := 41) (by decide +kernel) (by decide +kernel)
theorem kw_42 : (Jvm.Cond.methodLink "HangOrder$Numbers" (3 : Nat) ({ cls := "java/lang/Object", name := "<init>", desc := "()V" } : Jvm.MethodName)) ∈ gd := gd_tbl (i := 42) (by decide +kernel) (by decide +kernel)
theorem kw_43 : (Jvm.Cond.fieldLink "HangOrder$Numbers" (11 : Nat) "HangOrder$Numbers" "row" "[I") ∈ gd := gd_tbl (i := 43) (by decide +kernel) (by decide +kernel)
theorem kw_44 : (Jvm.Cond.fieldLink "HangOrder$Numbers" (15 : Nat) "HangOrder$Numbers" "size" "I") ∈ gd := gd_tbl (i := 44) (by decide +kernel) (by decide +kernel)
theorem kw_45 : (Jvm.Cond.fieldLink "HangOrder$LeastFirst" (16 : Nat) "HangOrder$Numbers" "size" "I") ∈ gd := gd_tbl (i := 45) (by decide +kernel) (by decide +kernel)
theorem kw_46 : (Jvm.Cond.fieldLink "HangOrder" (109 : Nat) "HangOrder$Numbers" "size" "I") ∈ gd := gd_tbl (i := 46) (by decide +kernel) (by decide +kernel)
theorem kw_52 : (Jvm.Cond.arrayClass Jvm.ClassFile.FieldType.int) ∈ gd := gd_tbl (i := 52) (by decide +kernel) (by decide +kernel)
theorem kw_53 : (Jvm.Cond.classLink "HangOrder" (29 : Nat) "HangOrder$LeastFirst") ∈ gd := gd_tbl (i := 53) (by decide +kernel) (by decide +kernel)
theorem kw_54 : (Jvm.Cond.instantiable "HangOrder$LeastFirst" (1 : Nat)) ∈ gd := gd_tbl (i := 54) (by decide +kernel) (by decide +kernel)
theorem kw_56 : (Jvm.Cond.instanceMethod ({ cls := "HangOrder$LeastFirst", name := "<init>", desc := "()V" } : Jvm.MethodName)) ∈ gd := gd_tbl (i := 56) (by decide +kernel) (by decide +kernel)
theorem kw_57 : (Jvm.Cond.code ({ cls := "HangOrder$LeastFirst", name := "<init>", desc := "()V" } : Jvm.MethodName) prog_2_method_1_code (1 : Nat) (Option.none : Option Jvm.ClassFile.FieldType)) ∈ gd := gd_tbl (i := 57) (by decide +kernel) (by decide +kernel)
theorem kw_58 : (Jvm.Cond.methodLink "HangOrder$LeastFirst" (1 : Nat) ({ cls := "java/lang/Object", name := "<init>", desc := "()V" } : Jvm.MethodName)) ∈ gd := gd_tbl (i := 58) (by decide +kernel) (by decide +kernel)
theorem kw_59 : (Jvm.Cond.classLink "HangOrder$LeastFirst" (7 : Nat) "HangOrder$Numbers") ∈ gd := gd_tbl (i := 59) (by decide +kernel) (by decide +kernel)
theorem kw_61 : (Jvm.Cond.fieldLink "HangOrder$LeastFirst" (10 : Nat) "HangOrder$LeastFirst" "heap" "LHangOrder$Numbers;") ∈ gd := gd_tbl (i := 61) (by decide +kernel) (by decide +kernel)
theorem kw_65 : (Jvm.Cond.fieldLink "HangOrder" (10 : Nat) "HangOrder" "nodes" "LHangOrder$NodeTable;") ∈ gd := gd_tbl (i := 65) (by decide +kernel) (by decide +kernel)
theorem kw_66 : (Jvm.Cond.fieldLink "HangOrder" (19 : Nat) "HangOrder" "touchedRow" "LHangOrder$Numbers;") ∈ gd := gd_tbl (i := 66) (by decide +kernel) (by decide +kernel)
theorem kw_67 : (Jvm.Cond.fieldLink "HangOrder" (23 : Nat) "HangOrder" "foundRow" "LHangOrder$Numbers;") ∈ gd := gd_tbl (i := 67) (by decide +kernel) (by decide +kernel)
theorem kw_68 : (Jvm.Cond.fieldLink "HangOrder" (26 : Nat) "HangOrder" "workedRow" "LHangOrder$Numbers;") ∈ gd := gd_tbl (i := 68) (by decide +kernel) (by decide +kernel)
theorem kw_69 : (Jvm.Cond.fieldLink "HangOrder" (32 : Nat) "HangOrder" "ready" "LHangOrder$LeastFirst;") ∈ gd := gd_tbl (i := 69) (by decide +kernel) (by decide +kernel)
theorem kw_70 : (Jvm.Cond.fieldLink "HangOrder" (44 : Nat) "HangOrder" "linkCount" "I") ∈ gd := gd_tbl (i := 70) (by decide +kernel) (by decide +kernel)
theorem kw_71 : (Jvm.Cond.fieldLink "HangOrder" (116 : Nat) "HangOrder" "ringedCount" "I") ∈ gd := gd_tbl (i := 71) (by decide +kernel) (by decide +kernel)
theorem kw_87 : (Jvm.Cond.methodLink "HangOrderLaw" (53 : Nat) ({ cls := "HangOrder", name := "work", desc := "()I" } : Jvm.MethodName)) ∈ gd := gd_tbl (i := 87) (by decide +kernel) (by decide +kernel)
theorem kw_88 : (Jvm.Cond.instanceMethod ({ cls := "HangOrder", name := "work", desc := "()I" } : Jvm.MethodName)) ∈ gd := gd_tbl (i := 88) (by decide +kernel) (by decide +kernel)
theorem kw_89 : (Jvm.Cond.selects "HangOrder" ({ cls := "HangOrder", name := "work", desc := "()I" } : Jvm.MethodName) ({ cls := "HangOrder", name := "work", desc := "()I" } : Jvm.MethodName)) ∈ gd := gd_tbl (i := 89) (by decide +kernel) (by decide +kernel)
theorem kw_90 : (Jvm.Cond.code ({ cls := "HangOrder", name := "work", desc := "()I" } : Jvm.MethodName) prog_1_method_6_code (1 : Nat) (Option.some Jvm.ClassFile.FieldType.int)) ∈ gd := gd_tbl (i := 90) (by decide +kernel) (by decide +kernel)
theorem kw_91 : (Jvm.Cond.methodLink "HangOrder" (91 : Nat) ({ cls := "HangOrder$Numbers", name := "empty", desc := "()V" } : Jvm.MethodName)) ∈ gd := gd_tbl (i := 91) (by decide +kernel) (by decide +kernel)
theorem kw_92 : (Jvm.Cond.instanceMethod ({ cls := "HangOrder$Numbers", name := "empty", desc := "()V" } : Jvm.MethodName)) ∈ gd := gd_tbl (i := 92) (by decide +kernel) (by decide +kernel)
theorem kw_93 : (Jvm.Cond.selects "HangOrder$Numbers" ({ cls := "HangOrder$Numbers", name := "empty", desc := "()V" } : Jvm.MethodName) ({ cls := "HangOrder$Numbers", name := "empty", desc := "()V" } : Jvm.MethodName)) ∈ gd := gd_tbl (i := 93) (by decide +kernel) (by decide +kernel)
theorem kw_94 : (Jvm.Cond.code ({ cls := "HangOrder$Numbers", name := "empty", desc := "()V" } : Jvm.MethodName) prog_6_method_6_code (1 : Nat) (Option.none : Option Jvm.ClassFile.FieldType)) ∈ gd := gd_tbl (i := 94) (by decide +kernel) (by decide +kernel)
theorem kw_95 : (Jvm.Cond.methodLink "HangOrder" (94 : Nat) ({ cls := "HangOrder", name := "findTouched", desc := "()V" } : Jvm.MethodName)) ∈ gd := gd_tbl (i := 95) (by decide +kernel) (by decide +kernel)
theorem kw_97 : (Jvm.Cond.instanceMethod ({ cls := "HangOrder", name := "findTouched", desc := "()V" } : Jvm.MethodName)) ∈ gd := gd_tbl (i := 97) (by decide +kernel) (by decide +kernel)
theorem kw_98 : (Jvm.Cond.code ({ cls := "HangOrder", name := "findTouched", desc := "()V" } : Jvm.MethodName) prog_1_method_17_code (3 : Nat) (Option.none : Option Jvm.ClassFile.FieldType)) ∈ gd := gd_tbl (i := 98) (by decide +kernel) (by decide +kernel)
theorem kw_99 : (Jvm.Cond.methodLink "HangOrder" (112 : Nat) ({ cls := "HangOrder$Numbers", name := "at", desc := "(I)I" } : Jvm.MethodName)) ∈ gd := gd_tbl (i := 99) (by decide +kernel) (by decide +kernel)
theorem kw_100 : (Jvm.Cond.instanceMethod ({ cls := "HangOrder$Numbers", name := "at", desc := "(I)I" } : Jvm.MethodName)) ∈ gd := gd_tbl (i := 100) (by decide +kernel) (by decide +kernel)
theorem kw_101 : (Jvm.Cond.selects "HangOrder$Numbers" ({ cls := "HangOrder$Numbers", name := "at", desc := "(I)I" } : Jvm.MethodName) ({ cls := "HangOrder$Numbers", name := "at", desc := "(I)I" } : Jvm.MethodName)) ∈ gd := gd_tbl (i := 101) (by decide +kernel) (by decide +kernel)
theorem kw_102 : (Jvm.Cond.code ({ cls := "HangOrder$Numbers", name := "at", desc := "(I)I" } : Jvm.MethodName) prog_6_method_3_code (2 : Nat) (Option.some Jvm.ClassFile.FieldType.int)) ∈ gd := gd_tbl (i := 102) (by decide +kernel) (by decide +kernel)
theorem kw_103 : (Jvm.Cond.methodLink "HangOrder$Numbers" (25 : Nat) ({ cls := "HangOrder$Numbers", name := "isIndex", desc := "(I)Z" } : Jvm.MethodName)) ∈ gd := gd_tbl (i := 103) (by decide +kernel) (by decide +kernel)
theorem kw_105 : (Jvm.Cond.instanceMethod ({ cls := "HangOrder$Numbers", name := "isIndex", desc := "(I)Z" } : Jvm.MethodName)) ∈ gd := gd_tbl (i := 105) (by decide +kernel) (by decide +kernel)
theorem kw_106 : (Jvm.Cond.code ({ cls := "HangOrder$Numbers", name := "isIndex", desc := "(I)Z" } : Jvm.MethodName) prog_6_method_7_code (2 : Nat) (Option.some Jvm.ClassFile.FieldType.boolean)) ∈ gd := gd_tbl (i := 106) (by decide +kernel) (by decide +kernel)
theorem kw_107 : (Jvm.Cond.methodLink "HangOrder" (56 : Nat) ({ cls := "HangOrder$NodeTable", name := "of", desc := "(I)LHangOrder$Node;" } : Jvm.MethodName)) ∈ gd := gd_tbl (i := 107) (by decide +kernel) (by decide +kernel)
theorem kw_108 : (Jvm.Cond.instanceMethod ({ cls := "HangOrder$NodeTable", name := "of", desc := "(I)LHangOrder$Node;" } : Jvm.MethodName)) ∈ gd := gd_tbl (i := 108) (by decide +kernel) (by decide +kernel)
theorem kw_109 : (Jvm.Cond.selects "HangOrder$NodeTable" ({ cls := "HangOrder$NodeTable", name := "of", desc := "(I)LHangOrder$Node;" } : Jvm.MethodName) ({ cls := "HangOrder$NodeTable", name := "of", desc := "(I)LHangOrder$Node;" } : Jvm.MethodName)) ∈ gd := gd_tbl (i := 109) (by decide +kernel) (by decide +kernel)
theorem kw_110 : (Jvm.Cond.code ({ cls := "HangOrder$NodeTable", name := "of", desc := "(I)LHangOrder$Node;" } : Jvm.MethodName) prog_5_method_3_code (5 : Nat) (Option.some (Jvm.ClassFile.FieldType.object "HangOrder$Node"))) ∈ gd := gd_tbl (i := 110) (by decide +kernel) (by decide +kernel)
theorem kw_111 : (Jvm.Cond.methodLink "HangOrder$NodeTable" (21 : Nat) ({ cls := "HangOrder$NodeTable", name := "pageIndex", desc := "(I)I" } : Jvm.MethodName)) ∈ gd := gd_tbl (i := 111) (by decide +kernel) (by decide +kernel)
theorem kw_112 : (Jvm.Cond.static ({ cls := "HangOrder$NodeTable", name := "pageIndex", desc := "(I)I" } : Jvm.MethodName)) ∈ gd := gd_tbl (i := 112) (by decide +kernel) (by decide +kernel)
theorem kw_113 : (Jvm.Cond.code ({ cls := "HangOrder$NodeTable", name := "pageIndex", desc := "(I)I" } : Jvm.MethodName) prog_5_method_4_code (1 : Nat) (Option.some Jvm.ClassFile.FieldType.int)) ∈ gd := gd_tbl (i := 113) (by decide +kernel) (by decide +kernel)
theorem kw_114 : (Jvm.Cond.instantiable "HangOrder$Page" (1 : Nat)) ∈ gd := gd_tbl (i := 114) (by decide +kernel) (by decide +kernel)
theorem kw_116 : (Jvm.Cond.instanceMethod ({ cls := "HangOrder$Page", name := "<init>", desc := "()V" } : Jvm.MethodName)) ∈ gd := gd_tbl (i := 116) (by decide +kernel) (by decide +kernel)
theorem kw_117 : (Jvm.Cond.code ({ cls := "HangOrder$Page", name := "<init>", desc := "()V" } : Jvm.MethodName) prog_7_method_1_code (1 : Nat) (Option.none : Option Jvm.ClassFile.FieldType)) ∈ gd := gd_tbl (i := 117) (by decide +kernel) (by decide +kernel)
theorem kw_118 : (Jvm.Cond.methodLink "HangOrder$Page" (1 : Nat) ({ cls := "java/lang/Object", name := "<init>", desc := "()V" } : Jvm.MethodName)) ∈ gd := gd_tbl (i := 118) (by decide +kernel) (by decide +kernel)
theorem kw_119 : (Jvm.Cond.classLink "HangOrder$Page" (9 : Nat) "HangOrder$Node") ∈ gd := gd_tbl (i := 119) (by decide +kernel) (by decide +kernel)
theorem kw_121 : (Jvm.Cond.fieldLink "HangOrder$Page" (11 : Nat) "HangOrder$Page" "row" "[LHangOrder$Node;") ∈ gd := gd_tbl (i := 121) (by decide +kernel) (by decide +kernel)
theorem kw_122 : (Jvm.Cond.fieldLink "HangOrder$NodeTable" (25 : Nat) "HangOrder$Page" "row" "[LHangOrder$Node;") ∈ gd := gd_tbl (i := 122) (by decide +kernel) (by decide +kernel)
theorem kw_126 : (Jvm.Cond.classLink "HangOrder$NodeTable" (30 : Nat) "HangOrder$Node") ∈ gd := gd_tbl (i := 126) (by decide +kernel) (by decide +kernel)
theorem kw_127 : (Jvm.Cond.instantiable "HangOrder$Node" (9 : Nat)) ∈ gd := gd_tbl (i := 127) (by decide +kernel) (by decide +kernel)
theorem kw_128 : (Jvm.Cond.methodLink "HangOrder$NodeTable" (32 : Nat) ({ cls := "HangOrder$Node", name := "<init>", desc := "(I)V" } : Jvm.MethodName)) ∈ gd := gd_tbl (i := 128) (by decide +kernel) (by decide +kernel)
theorem kw_129 : (Jvm.Cond.instanceMethod ({ cls := "HangOrder$Node", name := "<init>", desc := "(I)V" } : Jvm.MethodName)) ∈ gd := gd_tbl (i := 129) (by decide +kernel) (by decide +kernel)
theorem kw_130 : (Jvm.Cond.code ({ cls := "HangOrder$Node", name := "<init>", desc := "(I)V" } : Jvm.MethodName) prog_4_method_1_code (2 : Nat) (Option.none : Option Jvm.ClassFile.FieldType)) ∈ gd := gd_tbl (i := 130) (by decide +kernel) (by decide +kernel)
theorem kw_131 : (Jvm.Cond.methodLink "HangOrder$Node" (1 : Nat) ({ cls := "java/lang/Object", name := "<init>", desc := "()V" } : Jvm.MethodName)) ∈ gd := gd_tbl (i := 131) (by decide +kernel) (by decide +kernel)
theorem kw_132 : (Jvm.Cond.fieldLink "HangOrder$Node" (7 : Nat) "HangOrder$Node" "number" "I") ∈ gd := gd_tbl (i := 132) (by decide +kernel) (by decide +kernel)
theorem kw_133 : (Jvm.Cond.fieldLink "HangOrder" (143 : Nat) "HangOrder$Node" "number" "I") ∈ gd := gd_tbl (i := 133) (by decide +kernel) (by decide +kernel)
theorem kw_134 : (Jvm.Cond.fieldLink "HangOrder$Link" (28 : Nat) "HangOrder$Node" "firstRead" "LHangOrder$Link;") ∈ gd := gd_tbl (i := 134) (by decide +kernel) (by decide +kernel)
theorem kw_135 : (Jvm.Cond.fieldLink "HangOrder" (84 : Nat) "HangOrder$Node" "firstRead" "LHangOrder$Link;") ∈ gd := gd_tbl (i := 135) (by decide +kernel) (by decide +kernel)
theorem kw_136 : (Jvm.Cond.fieldLink "HangOrder$Link" (44 : Nat) "HangOrder$Node" "firstReader" "LHangOrder$Link;") ∈ gd := gd_tbl (i := 136) (by decide +kernel) (by decide +kernel)
theorem kw_137 : (Jvm.Cond.fieldLink "HangOrder" (155 : Nat) "HangOrder$Node" "firstReader" "LHangOrder$Link;") ∈ gd := gd_tbl (i := 137) (by decide +kernel) (by decide +kernel)
theorem kw_138 : (Jvm.Cond.fieldLink "HangOrder" (79 : Nat) "HangOrder$Node" "readCount" "I") ∈ gd := gd_tbl (i := 138) (by decide +kernel) (by decide +kernel)
theorem kw_139 : (Jvm.Cond.fieldLink "HangOrder$Link" (40 : Nat) "HangOrder$Node" "readCount" "I") ∈ gd := gd_tbl (i := 139) (by decide +kernel) (by decide +kernel)
theorem kw_140 : (Jvm.Cond.fieldLink "HangOrder$Link" (53 : Nat) "HangOrder$Node" "readerCount" "I") ∈ gd := gd_tbl (i := 140) (by decide +kernel) (by decide +kernel)
theorem kw_141 : (Jvm.Cond.fieldLink "HangOrder" (129 : Nat) "HangOrder$Node" "readerCount" "I") ∈ gd := gd_tbl (i := 141) (by decide +kernel) (by decide +kernel)
theorem kw_142 : (Jvm.Cond.fieldLink "HangOrder" (132 : Nat) "HangOrder$Node" "isTouched" "Z") ∈ gd := gd_tbl (i := 142) (by decide +kernel) (by decide +kernel)
theorem kw_143 : (Jvm.Cond.fieldLink "HangOrder" (121 : Nat) "HangOrder$Node" "isRinged" "Z") ∈ gd := gd_tbl (i := 143) (by decide +kernel) (by decide +kernel)
theorem kw_144 : (Jvm.Cond.fieldLink "HangOrder" (149 : Nat) "HangOrder$Node" "isFound" "Z") ∈ gd := gd_tbl (i := 144) (by decide +kernel) (by decide +kernel)
theorem kw_145 : (Jvm.Cond.fieldLink "HangOrder" (165 : Nat) "HangOrder$Node" "waiting" "I") ∈ gd := gd_tbl (i := 145) (by decide +kernel) (by decide +kernel)
theorem kw_165 : (Jvm.Cond.methodLink "HangOrder" (152 : Nat) ({ cls := "HangOrder", name := "markFound", desc := "(LHangOrder$Node;)V" } : Jvm.MethodName)) ∈ gd := gd_tbl (i := 165) (by decide +kernel) (by decide +kernel)
theorem kw_167 : (Jvm.Cond.instanceMethod ({ cls := "HangOrder", name := "markFound", desc := "(LHangOrder$Node;)V" } : Jvm.MethodName)) ∈ gd := gd_tbl (i := 167) (by decide +kernel) (by decide +kernel)
theorem kw_168 : (Jvm.Cond.code ({ cls := "HangOrder", name := "markFound", desc := "(LHangOrder$Node;)V" } : Jvm.MethodName) prog_1_method_16_code (2 : Nat) (Option.none : Option Jvm.ClassFile.FieldType)) ∈ gd := gd_tbl (i := 168) (by decide +kernel) (by decide +kernel)
theorem kw_169 : (Jvm.Cond.methodLink "HangOrder" (146 : Nat) ({ cls := "HangOrder$Numbers", name := "add", desc := "(I)V" } : Jvm.MethodName)) ∈ gd := gd_tbl (i := 169) (by decide +kernel) (by decide +kernel)
theorem kw_170 : (Jvm.Cond.instanceMethod ({ cls := "HangOrder$Numbers", name := "add", desc := "(I)V" } : Jvm.MethodName)) ∈ gd := gd_tbl (i := 170) (by decide +kernel) (by decide +kernel)
theorem kw_171 : (Jvm.Cond.selects "HangOrder$Numbers" ({ cls := "HangOrder$Numbers", name := "add", desc := "(I)V" } : Jvm.MethodName) ({ cls := "HangOrder$Numbers", name := "add", desc := "(I)V" } : Jvm.MethodName)) ∈ gd := gd_tbl (i := 171) (by decide +kernel) (by decide +kernel)
theorem kw_172 : (Jvm.Cond.code ({ cls := "HangOrder$Numbers", name := "add", desc := "(I)V" } : Jvm.MethodName) prog_6_method_2_code (2 : Nat) (Option.none : Option Jvm.ClassFile.FieldType)) ∈ gd := gd_tbl (i := 172) (by decide +kernel) (by decide +kernel)
theorem kw_173 : (Jvm.Cond.methodLink "HangOrder$Numbers" (19 : Nat) ({ cls := "java/util/Arrays", name := "copyOf", desc := "([II)[I" } : Jvm.MethodName)) ∈ gd := gd_tbl (i := 173) (by decide +kernel) (by decide +kernel)
theorem kw_174 : (Jvm.Cond.static ({ cls := "java/util/Arrays", name := "copyOf", desc := "([II)[I" } : Jvm.MethodName)) ∈ gd := gd_tbl (i := 174) (by decide +kernel) (by decide +kernel)
theorem kw_175 : (Jvm.Cond.code ({ cls := "java/util/Arrays", name := "copyOf", desc := "([II)[I" } : Jvm.MethodName) prog_19_method_123_code (3 : Nat) (Option.some (Jvm.ClassFile.FieldType.array Jvm.ClassFile.FieldType.int))) ∈ gd := gd_tbl (i := 175) (by decide +kernel) (by decide +kernel)
theorem kw_176 : (Jvm.Cond.methodLink "java/util/Arrays" (316 : Nat) ({ cls := "[I", name := "clone", desc := "()Ljava/lang/Object;" } : Jvm.MethodName)) ∈ gd := gd_tbl (i := 176) (by decide +kernel) (by decide +kernel)
theorem kw_177 : (Jvm.Cond.sameMethod "[I" "java/lang/Object" "clone" "()Ljava/lang/Object;") ∈ gd := gd_tbl (i := 177) (by decide +kernel) (by decide +kernel)
theorem kw_178 : (Jvm.Cond.native ({ cls := "java/lang/Object", name := "clone", desc := "()Ljava/lang/Object;" } : Jvm.MethodName)) ∈ gd := gd_tbl (i := 178) (by decide +kernel) (by decide +kernel)
theorem kw_179 : (Jvm.Cond.instanceMethod ({ cls := "java/lang/Object", name := "clone", desc := "()Ljava/lang/Object;" } : Jvm.MethodName)) ∈ gd := gd_tbl (i := 179) (by decide +kernel) (by decide +kernel)
theorem kw_180 : (Jvm.Cond.selects "[I" ({ cls := "[I", name := "clone", desc := "()Ljava/lang/Object;" } : Jvm.MethodName) ({ cls := "java/lang/Object", name := "clone", desc := "()Ljava/lang/Object;" } : Jvm.MethodName)) ∈ gd := gd_tbl (i := 180) (by decide +kernel) (by decide +kernel)
theorem kw_182 : (Jvm.Cond.classLink "java/util/Arrays" (317 : Nat) "[I") ∈ gd := gd_tbl (i := 182) (by decide +kernel) (by decide +kernel)
theorem kw_183 : (Jvm.Cond.methodLink "java/util/Arrays" (304 : Nat) ({ cls := "java/lang/Math", name := "min", desc := "(II)I" } : Jvm.MethodName)) ∈ gd := gd_tbl (i := 183) (by decide +kernel) (by decide +kernel)
theorem kw_184 : (Jvm.Cond.static ({ cls := "java/lang/Math", name := "min", desc := "(II)I" } : Jvm.MethodName)) ∈ gd := gd_tbl (i := 184) (by decide +kernel) (by decide +kernel)
theorem kw_185 : (Jvm.Cond.code ({ cls := "java/lang/Math", name := "min", desc := "(II)I" } : Jvm.MethodName) prog_14_method_69_code (2 : Nat) (Option.some Jvm.ClassFile.FieldType.int)) ∈ gd := gd_tbl (i := 185) (by decide +kernel) (by decide +kernel)
theorem kw_186 : (Jvm.Cond.methodLink "java/util/Arrays" (150 : Nat) ({ cls := "java/lang/System", name := "arraycopy", desc := "(Ljava/lang/Object;ILjava/lang/Object;II)V" } : Jvm.MethodName)) ∈ gd := gd_tbl (i := 186) (by decide +kernel) (by decide +kernel)
theorem kw_187 : (Jvm.Cond.static ({ cls := "java/lang/System", name := "arraycopy", desc := "(Ljava/lang/Object;ILjava/lang/Object;II)V" } : Jvm.MethodName)) ∈ gd := gd_tbl (i := 187) (by decide +kernel) (by decide +kernel)
theorem kw_188 : (Jvm.Cond.native ({ cls := "java/lang/System", name := "arraycopy", desc := "(Ljava/lang/Object;ILjava/lang/Object;II)V" } : Jvm.MethodName)) ∈ gd := gd_tbl (i := 188) (by decide +kernel) (by decide +kernel)
theorem kw_189 : (Jvm.Cond.methodLink "HangOrder" (97 : Nat) ({ cls := "HangOrder", name := "findHanging", desc := "()V" } : Jvm.MethodName)) ∈ gd := gd_tbl (i := 189) (by decide +kernel) (by decide +kernel)
theorem kw_191 : (Jvm.Cond.instanceMethod ({ cls := "HangOrder", name := "findHanging", desc := "()V" } : Jvm.MethodName)) ∈ gd := gd_tbl (i := 191) (by decide +kernel) (by decide +kernel)
theorem kw_192 : (Jvm.Cond.code ({ cls := "HangOrder", name := "findHanging", desc := "()V" } : Jvm.MethodName) prog_1_method_18_code (4 : Nat) (Option.none : Option Jvm.ClassFile.FieldType)) ∈ gd := gd_tbl (i := 192) (by decide +kernel) (by decide +kernel)
theorem kw_193 : (Jvm.Cond.methodLink "HangOrder" (100 : Nat) ({ cls := "HangOrder", name := "countWaiting", desc := "()V" } : Jvm.MethodName)) ∈ gd := gd_tbl (i := 193) (by decide +kernel) (by decide +kernel)
theorem kw_195 : (Jvm.Cond.instanceMethod ({ cls := "HangOrder", name := "countWaiting", desc := "()V" } : Jvm.MethodName)) ∈ gd := gd_tbl (i := 195) (by decide +kernel) (by decide +kernel)
theorem kw_196 : (Jvm.Cond.code ({ cls := "HangOrder", name := "countWaiting", desc := "()V" } : Jvm.MethodName) prog_1_method_19_code (3 : Nat) (Option.none : Option Jvm.ClassFile.FieldType)) ∈ gd := gd_tbl (i := 196) (by decide +kernel) (by decide +kernel)
theorem kw_197 : (Jvm.Cond.methodLink "HangOrder" (161 : Nat) ({ cls := "HangOrder", name := "readsToWaitFor", desc := "(LHangOrder$Node;)I" } : Jvm.MethodName)) ∈ gd := gd_tbl (i := 197) (by decide +kernel) (by decide +kernel)
theorem kw_198 : (Jvm.Cond.static ({ cls := "HangOrder", name := "readsToWaitFor", desc := "(LHangOrder$Node;)I" } : Jvm.MethodName)) ∈ gd := gd_tbl (i := 198) (by decide +kernel) (by decide +kernel)
theorem kw_199 : (Jvm.Cond.code ({ cls := "HangOrder", name := "readsToWaitFor", desc := "(LHangOrder$Node;)I" } : Jvm.MethodName) prog_1_method_20_code (3 : Nat) (Option.some Jvm.ClassFile.FieldType.int)) ∈ gd := gd_tbl (i := 199) (by decide +kernel) (by decide +kernel)
theorem kw_200 : (Jvm.Cond.methodLink "HangOrder" (168 : Nat) ({ cls := "HangOrder$LeastFirst", name := "put", desc := "(I)V" } : Jvm.MethodName)) ∈ gd := gd_tbl (i := 200) (by decide +kernel) (by decide +kernel)
theorem kw_201 : (Jvm.Cond.instanceMethod ({ cls := "HangOrder$LeastFirst", name := "put", desc := "(I)V" } : Jvm.MethodName)) ∈ gd := gd_tbl (i := 201) (by decide +kernel) (by decide +kernel)
theorem kw_202 : (Jvm.Cond.selects "HangOrder$LeastFirst" ({ cls := "HangOrder$LeastFirst", name := "put", desc := "(I)V" } : Jvm.MethodName) ({ cls := "HangOrder$LeastFirst", name := "put", desc := "(I)V" } : Jvm.MethodName)) ∈ gd := gd_tbl (i := 202) (by decide +kernel) (by decide +kernel)
theorem kw_203 : (Jvm.Cond.code ({ cls := "HangOrder$LeastFirst", name := "put", desc := "(I)V" } : Jvm.MethodName) prog_2_method_3_code (4 : Nat) (Option.none : Option Jvm.ClassFile.FieldType)) ∈ gd := gd_tbl (i := 203) (by decide +kernel) (by decide +kernel)
theorem kw_204 : (Jvm.Cond.methodLink "HangOrder$LeastFirst" (20 : Nat) ({ cls := "HangOrder$Numbers", name := "add", desc := "(I)V" } : Jvm.MethodName)) ∈ gd := gd_tbl (i := 204) (by decide +kernel) (by decide +kernel)
theorem kw_205 : (Jvm.Cond.methodLink "HangOrder$LeastFirst" (24 : Nat) ({ cls := "HangOrder$Numbers", name := "at", desc := "(I)I" } : Jvm.MethodName)) ∈ gd := gd_tbl (i := 205) (by decide +kernel) (by decide +kernel)
theorem kw_206 : (Jvm.Cond.methodLink "HangOrder$LeastFirst" (28 : Nat) ({ cls := "HangOrder$Numbers", name := "set", desc := "(II)V" } : Jvm.MethodName)) ∈ gd := gd_tbl (i := 206) (by decide +kernel) (by decide +kernel)
theorem kw_207 : (Jvm.Cond.instanceMethod ({ cls := "HangOrder$Numbers", name := "set", desc := "(II)V" } : Jvm.MethodName)) ∈ gd := gd_tbl (i := 207) (by decide +kernel) (by decide +kernel)
theorem kw_208 : (Jvm.Cond.selects "HangOrder$Numbers" ({ cls := "HangOrder$Numbers", name := "set", desc := "(II)V" } : Jvm.MethodName) ({ cls := "HangOrder$Numbers", name := "set", desc := "(II)V" } : Jvm.MethodName)) ∈ gd := gd_tbl (i := 208) (by decide +kernel) (by decide +kernel)
theorem kw_209 : (Jvm.Cond.code ({ cls := "HangOrder$Numbers", name := "set", desc := "(II)V" } : Jvm.MethodName) prog_6_method_4_code (3 : Nat) (Option.none : Option Jvm.ClassFile.FieldType)) ∈ gd := gd_tbl (i := 209) (by decide +kernel) (by decide +kernel)
theorem kw_210 : (Jvm.Cond.methodLink "HangOrder" (103 : Nat) ({ cls := "HangOrder", name := "workOutReady", desc := "()V" } : Jvm.MethodName)) ∈ gd := gd_tbl (i := 210) (by decide +kernel) (by decide +kernel)
theorem kw_212 : (Jvm.Cond.instanceMethod ({ cls := "HangOrder", name := "workOutReady", desc := "()V" } : Jvm.MethodName)) ∈ gd := gd_tbl (i := 212) (by decide +kernel) (by decide +kernel)
theorem kw_213 : (Jvm.Cond.code ({ cls := "HangOrder", name := "workOutReady", desc := "()V" } : Jvm.MethodName) prog_1_method_21_code (4 : Nat) (Option.none : Option Jvm.ClassFile.FieldType)) ∈ gd := gd_tbl (i := 213) (by decide +kernel) (by decide +kernel)
theorem kw_214 : (Jvm.Cond.methodLink "HangOrder" (171 : Nat) ({ cls := "HangOrder$LeastFirst", name := "isEmpty", desc := "()Z" } : Jvm.MethodName)) ∈ gd := gd_tbl (i := 214) (by decide +kernel) (by decide +kernel)
theorem kw_215 : (Jvm.Cond.instanceMethod ({ cls := "HangOrder$LeastFirst", name := "isEmpty", desc := "()Z" } : Jvm.MethodName)) ∈ gd := gd_tbl (i := 215) (by decide +kernel) (by decide +kernel)
theorem kw_216 : (Jvm.Cond.selects "HangOrder$LeastFirst" ({ cls := "HangOrder$LeastFirst", name := "isEmpty", desc := "()Z" } : Jvm.MethodName) ({ cls := "HangOrder$LeastFirst", name := "isEmpty", desc := "()Z" } : Jvm.MethodName)) ∈ gd := gd_tbl (i := 216) (by decide +kernel) (by decide +kernel)
theorem kw_217 : (Jvm.Cond.code ({ cls := "HangOrder$LeastFirst", name := "isEmpty", desc := "()Z" } : Jvm.MethodName) prog_2_method_2_code (1 : Nat) (Option.some Jvm.ClassFile.FieldType.boolean)) ∈ gd := gd_tbl (i := 217) (by decide +kernel) (by decide +kernel)
theorem kw_218 : (Jvm.Cond.methodLink "HangOrder" (175 : Nat) ({ cls := "HangOrder$LeastFirst", name := "take", desc := "()I" } : Jvm.MethodName)) ∈ gd := gd_tbl (i := 218) (by decide +kernel) (by decide +kernel)
theorem kw_219 : (Jvm.Cond.instanceMethod ({ cls := "HangOrder$LeastFirst", name := "take", desc := "()I" } : Jvm.MethodName)) ∈ gd := gd_tbl (i := 219) (by decide +kernel) (by decide +kernel)
theorem kw_220 : (Jvm.Cond.selects "HangOrder$LeastFirst" ({ cls := "HangOrder$LeastFirst", name := "take", desc := "()I" } : Jvm.MethodName) ({ cls := "HangOrder$LeastFirst", name := "take", desc := "()I" } : Jvm.MethodName)) ∈ gd := gd_tbl (i := 220) (by decide +kernel) (by decide +kernel)
theorem kw_221 : (Jvm.Cond.code ({ cls := "HangOrder$LeastFirst", name := "take", desc := "()I" } : Jvm.MethodName) prog_2_method_4_code (3 : Nat) (Option.some Jvm.ClassFile.FieldType.int)) ∈ gd := gd_tbl (i := 221) (by decide +kernel) (by decide +kernel)
theorem kw_222 : (Jvm.Cond.methodLink "HangOrder$LeastFirst" (32 : Nat) ({ cls := "HangOrder$Numbers", name := "takeLast", desc := "()I" } : Jvm.MethodName)) ∈ gd := gd_tbl (i := 222) (by decide +kernel) (by decide +kernel)
theorem kw_223 : (Jvm.Cond.instanceMethod ({ cls := "HangOrder$Numbers", name := "takeLast", desc := "()I" } : Jvm.MethodName)) ∈ gd := gd_tbl (i := 223) (by decide +kernel) (by decide +kernel)
theorem kw_224 : (Jvm.Cond.selects "HangOrder$Numbers" ({ cls := "HangOrder$Numbers", name := "takeLast", desc := "()I" } : Jvm.MethodName) ({ cls := "HangOrder$Numbers", name := "takeLast", desc := "()I" } : Jvm.MethodName)) ∈ gd := gd_tbl (i := 224) (by decide +kernel) (by decide +kernel)
theorem kw_225 : (Jvm.Cond.code ({ cls := "HangOrder$Numbers", name := "takeLast", desc := "()I" } : Jvm.MethodName) prog_6_method_5_code (2 : Nat) (Option.some Jvm.ClassFile.FieldType.int)) ∈ gd := gd_tbl (i := 225) (by decide +kernel) (by decide +kernel)
theorem kw_226 : (Jvm.Cond.methodLink "HangOrder$Numbers" (29 : Nat) ({ cls := "HangOrder$Numbers", name := "at", desc := "(I)I" } : Jvm.MethodName)) ∈ gd := gd_tbl (i := 226) (by decide +kernel) (by decide +kernel)
theorem kw_227 : (Jvm.Cond.methodLink "HangOrder$LeastFirst" (36 : Nat) ({ cls := "HangOrder$LeastFirst", name := "sinkFromTop", desc := "(I)V" } : Jvm.MethodName)) ∈ gd := gd_tbl (i := 227) (by decide +kernel) (by decide +kernel)
theorem kw_229 : (Jvm.Cond.instanceMethod ({ cls := "HangOrder$LeastFirst", name := "sinkFromTop", desc := "(I)V" } : Jvm.MethodName)) ∈ gd := gd_tbl (i := 229) (by decide +kernel) (by decide +kernel)
theorem kw_230 : (Jvm.Cond.code ({ cls := "HangOrder$LeastFirst", name := "sinkFromTop", desc := "(I)V" } : Jvm.MethodName) prog_2_method_5_code (4 : Nat) (Option.none : Option Jvm.ClassFile.FieldType)) ∈ gd := gd_tbl (i := 230) (by decide +kernel) (by decide +kernel)
theorem kw_231 : (Jvm.Cond.methodLink "HangOrder$LeastFirst" (39 : Nat) ({ cls := "HangOrder$LeastFirst", name := "lesserBelow", desc := "(I)I" } : Jvm.MethodName)) ∈ gd := gd_tbl (i := 231) (by decide +kernel) (by decide +kernel)
theorem kw_233 : (Jvm.Cond.instanceMethod ({ cls := "HangOrder$LeastFirst", name := "lesserBelow", desc := "(I)I" } : Jvm.MethodName)) ∈ gd := gd_tbl (i := 233) (by decide +kernel) (by decide +kernel)
theorem kw_234 : (Jvm.Cond.code ({ cls := "HangOrder$LeastFirst", name := "lesserBelow", desc := "(I)I" } : Jvm.MethodName) prog_2_method_6_code (4 : Nat) (Option.some Jvm.ClassFile.FieldType.int)) ∈ gd := gd_tbl (i := 234) (by decide +kernel) (by decide +kernel)
theorem kw_235 : (Jvm.Cond.methodLink "HangOrder" (179 : Nat) ({ cls := "HangOrder", name := "releaseOnce", desc := "(LHangOrder$Node;)V" } : Jvm.MethodName)) ∈ gd := gd_tbl (i := 235) (by decide +kernel) (by decide +kernel)
theorem kw_237 : (Jvm.Cond.instanceMethod ({ cls := "HangOrder", name := "releaseOnce", desc := "(LHangOrder$Node;)V" } : Jvm.MethodName)) ∈ gd := gd_tbl (i := 237) (by decide +kernel) (by decide +kernel)
theorem kw_238 : (Jvm.Cond.code ({ cls := "HangOrder", name := "releaseOnce", desc := "(LHangOrder$Node;)V" } : Jvm.MethodName) prog_1_method_22_code (2 : Nat) (Option.none : Option Jvm.ClassFile.FieldType)) ∈ gd := gd_tbl (i := 238) (by decide +kernel) (by decide +kernel)
theorem kw_239 : (Jvm.Cond.methodLink "HangOrder" (106 : Nat) ({ cls := "HangOrder", name := "settleRinged", desc := "()V" } : Jvm.MethodName)) ∈ gd := gd_tbl (i := 239) (by decide +kernel) (by decide +kernel)
theorem kw_241 : (Jvm.Cond.instanceMethod ({ cls := "HangOrder", name := "settleRinged", desc := "()V" } : Jvm.MethodName)) ∈ gd := gd_tbl (i := 241) (by decide +kernel) (by decide +kernel)
theorem kw_242 : (Jvm.Cond.code ({ cls := "HangOrder", name := "settleRinged", desc := "()V" } : Jvm.MethodName) prog_1_method_23_code (3 : Nat) (Option.none : Option Jvm.ClassFile.FieldType)) ∈ gd := gd_tbl (i := 242) (by decide +kernel) (by decide +kernel)
theorem kw_243 : (Jvm.Cond.methodLink "HangOrderLaw" (57 : Nat) ({ cls := "HangOrder", name := "worked", desc := "(I)I" } : Jvm.MethodName)) ∈ gd := gd_tbl (i := 243) (by decide +kernel) (by decide +kernel)
theorem kw_244 : (Jvm.Cond.instanceMethod ({ cls := "HangOrder", name := "worked", desc := "(I)I" } : Jvm.MethodName)) ∈ gd := gd_tbl (i := 244) (by decide +kernel) (by decide +kernel)
theorem kw_245 : (Jvm.Cond.selects "HangOrder" ({ cls := "HangOrder", name := "worked", desc := "(I)I" } : Jvm.MethodName) ({ cls := "HangOrder", name := "worked", desc := "(I)I" } : Jvm.MethodName)) ∈ gd := gd_tbl (i := 245) (by decide +kernel) (by decide +kernel)
theorem kw_246 : (Jvm.Cond.code ({ cls := "HangOrder", name := "worked", desc := "(I)I" } : Jvm.MethodName) prog_1_method_7_code (2 : Nat) (Option.some Jvm.ClassFile.FieldType.int)) ∈ gd := gd_tbl (i := 246) (by decide +kernel) (by decide +kernel)
theorem kw_247 : (Jvm.Cond.methodLink "HangOrderLaw" (61 : Nat) ({ cls := "HangOrder", name := "found", desc := "()I" } : Jvm.MethodName)) ∈ gd := gd_tbl (i := 247) (by decide +kernel) (by decide +kernel)
theorem kw_248 : (Jvm.Cond.instanceMethod ({ cls := "HangOrder", name := "found", desc := "()I" } : Jvm.MethodName)) ∈ gd := gd_tbl (i := 248) (by decide +kernel) (by decide +kernel)
theorem kw_249 : (Jvm.Cond.selects "HangOrder" ({ cls := "HangOrder", name := "found", desc := "()I" } : Jvm.MethodName) ({ cls := "HangOrder", name := "found", desc := "()I" } : Jvm.MethodName)) ∈ gd := gd_tbl (i := 249) (by decide +kernel) (by decide +kernel)
theorem kw_250 : (Jvm.Cond.code ({ cls := "HangOrder", name := "found", desc := "()I" } : Jvm.MethodName) prog_1_method_8_code (1 : Nat) (Option.some Jvm.ClassFile.FieldType.int)) ∈ gd := gd_tbl (i := 250) (by decide +kernel) (by decide +kernel)
theorem kw_251 : (Jvm.Cond.methodLink "HangOrderLaw" (65 : Nat) ({ cls := "HangOrder", name := "ringed", desc := "(I)Z" } : Jvm.MethodName)) ∈ gd := gd_tbl (i := 251) (by decide +kernel) (by decide +kernel)
theorem kw_252 : (Jvm.Cond.instanceMethod ({ cls := "HangOrder", name := "ringed", desc := "(I)Z" } : Jvm.MethodName)) ∈ gd := gd_tbl (i := 252) (by decide +kernel) (by decide +kernel)
theorem kw_253 : (Jvm.Cond.selects "HangOrder" ({ cls := "HangOrder", name := "ringed", desc := "(I)Z" } : Jvm.MethodName) ({ cls := "HangOrder", name := "ringed", desc := "(I)Z" } : Jvm.MethodName)) ∈ gd := gd_tbl (i := 253) (by decide +kernel) (by decide +kernel)
theorem kw_254 : (Jvm.Cond.code ({ cls := "HangOrder", name := "ringed", desc := "(I)Z" } : Jvm.MethodName) prog_1_method_9_code (3 : Nat) (Option.some Jvm.ClassFile.FieldType.boolean)) ∈ gd := gd_tbl (i := 254) (by decide +kernel) (by decide +kernel)
theorem kw_255 : (Jvm.Cond.methodLink "HangOrder" (119 : Nat) ({ cls := "HangOrder$NodeTable", name := "at", desc := "(I)LHangOrder$Node;" } : Jvm.MethodName)) ∈ gd := gd_tbl (i := 255) (by decide +kernel) (by decide +kernel)
theorem kw_256 : (Jvm.Cond.instanceMethod ({ cls := "HangOrder$NodeTable", name := "at", desc := "(I)LHangOrder$Node;" } : Jvm.MethodName)) ∈ gd := gd_tbl (i := 256) (by decide +kernel) (by decide +kernel)
theorem kw_257 : (Jvm.Cond.selects "HangOrder$NodeTable" ({ cls := "HangOrder$NodeTable", name := "at", desc := "(I)LHangOrder$Node;" } : Jvm.MethodName) ({ cls := "HangOrder$NodeTable", name := "at", desc := "(I)LHangOrder$Node;" } : Jvm.MethodName)) ∈ gd := gd_tbl (i := 257) (by decide +kernel) (by decide +kernel)
theorem kw_258 : (Jvm.Cond.code ({ cls := "HangOrder$NodeTable", name := "at", desc := "(I)LHangOrder$Node;" } : Jvm.MethodName) prog_5_method_2_code (3 : Nat) (Option.some (Jvm.ClassFile.FieldType.object "HangOrder$Node"))) ∈ gd := gd_tbl (i := 258) (by decide +kernel) (by decide +kernel)
theorem kw_260 : (Jvm.Cond.static ({ cls := "HangOrder", name := "isNode", desc := "(I)Z" } : Jvm.MethodName)) ∈ gd := gd_tbl (i := 260) (by decide +kernel) (by decide +kernel)
theorem kw_261 : (Jvm.Cond.code ({ cls := "HangOrder", name := "isNode", desc := "(I)Z" } : Jvm.MethodName) prog_1_method_12_code (1 : Nat) (Option.some Jvm.ClassFile.FieldType.boolean)) ∈ gd := gd_tbl (i := 261) (by decide +kernel) (by decide +kernel)
theorem kw_262 : (Jvm.Cond.methodLink "HangOrderLaw" (70 : Nat) ({ cls := "HangOrder", name := "links", desc := "(II)I" } : Jvm.MethodName)) ∈ gd := gd_tbl (i := 262) (by decide +kernel) (by decide +kernel)
theorem kw_263 : (Jvm.Cond.instanceMethod ({ cls := "HangOrder", name := "links", desc := "(II)I" } : Jvm.MethodName)) ∈ gd := gd_tbl (i := 263) (by decide +kernel) (by decide +kernel)
theorem kw_264 : (Jvm.Cond.selects "HangOrder" ({ cls := "HangOrder", name := "links", desc := "(II)I" } : Jvm.MethodName) ({ cls := "HangOrder", name := "links", desc := "(II)I" } : Jvm.MethodName)) ∈ gd := gd_tbl (i := 264) (by decide +kernel) (by decide +kernel)
theorem kw_265 : (Jvm.Cond.code ({ cls := "HangOrder", name := "links", desc := "(II)I" } : Jvm.MethodName) prog_1_method_10_code (4 : Nat) (Option.some Jvm.ClassFile.FieldType.int)) ∈ gd := gd_tbl (i := 265) (by decide +kernel) (by decide +kernel)
theorem kw_266 : (Jvm.Cond.methodLink "HangOrder" (125 : Nat) ({ cls := "HangOrder", name := "isNode", desc := "(I)Z" } : Jvm.MethodName)) ∈ gd := gd_tbl (i := 266) (by decide +kernel) (by decide +kernel)
theorem kw_267 : (Jvm.Cond.methodLink "HangOrderLaw" (75 : Nat) ({ cls := "HangOrder", name := "touched", desc := "(I)Z" } : Jvm.MethodName)) ∈ gd := gd_tbl (i := 267) (by decide +kernel) (by decide +kernel)
theorem kw_268 : (Jvm.Cond.instanceMethod ({ cls := "HangOrder", name := "touched", desc := "(I)Z" } : Jvm.MethodName)) ∈ gd := gd_tbl (i := 268) (by decide +kernel) (by decide +kernel)
theorem kw_269 : (Jvm.Cond.selects "HangOrder" ({ cls := "HangOrder", name := "touched", desc := "(I)Z" } : Jvm.MethodName) ({ cls := "HangOrder", name := "touched", desc := "(I)Z" } : Jvm.MethodName)) ∈ gd := gd_tbl (i := 269) (by decide +kernel) (by decide +kernel)
theorem kw_270 : (Jvm.Cond.code ({ cls := "HangOrder", name := "touched", desc := "(I)Z" } : Jvm.MethodName) prog_1_method_11_code (3 : Nat) (Option.some Jvm.ClassFile.FieldType.boolean)) ∈ gd := gd_tbl (i := 270) (by decide +kernel) (by decide +kernel)
theorem kw_271 : (Jvm.Cond.methodLink "HangOrderLaw" (32 : Nat) ({ cls := "HangOrderLaw", name := "link", desc := "(LHangOrder;II[J)I" } : Jvm.MethodName)) ∈ gd := gd_tbl (i := 271) (by decide +kernel) (by decide +kernel)
theorem kw_272 : (Jvm.Cond.static ({ cls := "HangOrderLaw", name := "link", desc := "(LHangOrder;II[J)I" } : Jvm.MethodName)) ∈ gd := gd_tbl (i := 272) (by decide +kernel) (by decide +kernel)
theorem kw_274 : (Jvm.Cond.classLink "HangOrderLaw" (13 : Nat) "java/lang/IllegalArgumentException") ∈ gd := gd_tbl (i := 274) (by decide +kernel) (by decide +kernel)
theorem kw_275 : (Jvm.Cond.classLink "HangOrderLaw" (15 : Nat) "java/lang/IllegalStateException") ∈ gd := gd_tbl (i := 275) (by decide +kernel) (by decide +kernel)
theorem kw_276 : (Jvm.Cond.methodLink "HangOrderLaw" (7 : Nat) ({ cls := "HangOrder", name := "link", desc := "(II)Z" } : Jvm.MethodName)) ∈ gd := gd_tbl (i := 276) (by decide +kernel) (by decide +kernel)
theorem kw_277 : (Jvm.Cond.instanceMethod ({ cls := "HangOrder", name := "link", desc := "(II)Z" } : Jvm.MethodName)) ∈ gd := gd_tbl (i := 277) (by decide +kernel) (by decide +kernel)
theorem kw_278 : (Jvm.Cond.selects "HangOrder" ({ cls := "HangOrder", name := "link", desc := "(II)Z" } : Jvm.MethodName) ({ cls := "HangOrder", name := "link", desc := "(II)Z" } : Jvm.MethodName)) ∈ gd := gd_tbl (i := 278) (by decide +kernel) (by decide +kernel)
theorem kw_279 : (Jvm.Cond.code ({ cls := "HangOrder", name := "link", desc := "(II)Z" } : Jvm.MethodName) prog_1_method_2_code (4 : Nat) (Option.some Jvm.ClassFile.FieldType.boolean)) ∈ gd := gd_tbl (i := 279) (by decide +kernel) (by decide +kernel)
theorem kw_280 : (Jvm.Cond.methodLink "HangOrder" (36 : Nat) ({ cls := "HangOrder", name := "requireNode", desc := "(I)V" } : Jvm.MethodName)) ∈ gd := gd_tbl (i := 280) (by decide +kernel) (by decide +kernel)
theorem kw_281 : (Jvm.Cond.static ({ cls := "HangOrder", name := "requireNode", desc := "(I)V" } : Jvm.MethodName)) ∈ gd := gd_tbl (i := 281) (by decide +kernel) (by decide +kernel)
theorem kw_282 : (Jvm.Cond.code ({ cls := "HangOrder", name := "requireNode", desc := "(I)V" } : Jvm.MethodName) prog_1_method_13_code (1 : Nat) (Option.none : Option Jvm.ClassFile.FieldType)) ∈ gd := gd_tbl (i := 282) (by decide +kernel) (by decide +kernel)
theorem kw_283 : (Jvm.Cond.classLink "HangOrder" (135 : Nat) "java/lang/IllegalArgumentException") ∈ gd := gd_tbl (i := 283) (by decide +kernel) (by decide +kernel)
theorem kw_284 : (Jvm.Cond.instantiable "java/lang/IllegalArgumentException" (6 : Nat)) ∈ gd := gd_tbl (i := 284) (by decide +kernel) (by decide +kernel)
theorem kw_292 : (Jvm.Cond.selects "java/lang/IllegalArgumentException" ({ cls := "java/lang/Throwable", name := "fillInStackTrace", desc := "(I)Ljava/lang/Throwable;" } : Jvm.MethodName) ({ cls := "java/lang/Throwable", name := "fillInStackTrace", desc := "(I)Ljava/lang/Throwable;" } : Jvm.MethodName)) ∈ gd := gd_tbl (i := 292) (by decide +kernel) (by decide +kernel)
theorem kw_293 : (Jvm.Cond.selects "java/lang/IllegalArgumentException" ({ cls := "java/lang/Throwable", name := "fillInStackTrace", desc := "()Ljava/lang/Throwable;" } : Jvm.MethodName) ({ cls := "java/lang/Throwable", name := "fillInStackTrace", desc := "()Ljava/lang/Throwable;" } : Jvm.MethodName)) ∈ gd := gd_tbl (i := 293) (by decide +kernel) (by decide +kernel)
theorem kw_304 : (Jvm.Cond.fieldLink "java/lang/Throwable" (198 : Nat) "java/lang/Throwable" "backtrace" "Ljava/lang/Object;") ∈ gd := gd_tbl (i := 304) (by decide +kernel) (by decide +kernel)
theorem kw_306 : (Jvm.Cond.instanceMethod ({ cls := "java/lang/Throwable", name := "<init>", desc := "()V" } : Jvm.MethodName)) ∈ gd := gd_tbl (i := 306) (by decide +kernel) (by decide +kernel)
theorem kw_307 : (Jvm.Cond.code ({ cls := "java/lang/Throwable", name := "<init>", desc := "()V" } : Jvm.MethodName) prog_18_method_1_code (1 : Nat) (Option.none : Option Jvm.ClassFile.FieldType)) ∈ gd := gd_tbl (i := 307) (by decide +kernel) (by decide +kernel)
theorem kw_308 : (Jvm.Cond.methodLink "java/lang/Throwable" (1 : Nat) ({ cls := "java/lang/Object", name := "<init>", desc := "()V" } : Jvm.MethodName)) ∈ gd := gd_tbl (i := 308) (by decide +kernel) (by decide +kernel)
theorem kw_309 : (Jvm.Cond.fieldLink "java/lang/Throwable" (13 : Nat) "java/lang/Throwable" "UNASSIGNED_STACK" "[Ljava/lang/StackTraceElement;") ∈ gd := gd_tbl (i := 309) (by decide +kernel) (by decide +kernel)
theorem kw_311 : (Jvm.Cond.fieldLink "java/lang/Throwable" (20 : Nat) "java/lang/Throwable" "SUPPRESSED_SENTINEL" "Ljava/util/List;") ∈ gd := gd_tbl (i := 311) (by decide +kernel) (by decide +kernel)
theorem kw_313 : (Jvm.Cond.methodLink "java/lang/Throwable" (27 : Nat) ({ cls := "java/lang/Throwable", name := "fillInStackTrace", desc := "()Ljava/lang/Throwable;" } : Jvm.MethodName)) ∈ gd := gd_tbl (i := 313) (by decide +kernel) (by decide +kernel)
theorem kw_314 : (Jvm.Cond.instanceMethod ({ cls := "java/lang/Throwable", name := "fillInStackTrace", desc := "()Ljava/lang/Throwable;" } : Jvm.MethodName)) ∈ gd := gd_tbl (i := 314) (by decide +kernel) (by decide +kernel)
theorem kw_315 : (Jvm.Cond.sameMethod "java/lang/Throwable" "java/lang/Throwable" "fillInStackTrace" "()Ljava/lang/Throwable;") ∈ gd := gd_tbl (i := 315) (by decide +kernel) (by decide +kernel)
theorem kw_316 : (Jvm.Cond.selects "java/lang/IllegalStateException" ({ cls := "java/lang/Throwable", name := "fillInStackTrace", desc := "()Ljava/lang/Throwable;" } : Jvm.MethodName) ({ cls := "java/lang/Throwable", name := "fillInStackTrace", desc := "()Ljava/lang/Throwable;" } : Jvm.MethodName)) ∈ gd := gd_tbl (i := 316) (by decide +kernel) (by decide +kernel)
theorem kw_318 : (Jvm.Cond.methodLink "java/lang/Throwable" (202 : Nat) ({ cls := "java/lang/Throwable", name := "fillInStackTrace", desc := "(I)Ljava/lang/Throwable;" } : Jvm.MethodName)) ∈ gd := gd_tbl (i := 318) (by decide +kernel) (by decide +kernel)
theorem kw_320 : (Jvm.Cond.instanceMethod ({ cls := "java/lang/Throwable", name := "fillInStackTrace", desc := "(I)Ljava/lang/Throwable;" } : Jvm.MethodName)) ∈ gd := gd_tbl (i := 320) (by decide +kernel) (by decide +kernel)
theorem kw_321 : (Jvm.Cond.instantiable "java/lang/Throwable" (6 : Nat)) ∈ gd := gd_tbl (i := 321) (by decide +kernel) (by decide +kernel)
theorem kw_322 : (Jvm.Cond.native ({ cls := "java/lang/Throwable", name := "fillInStackTrace", desc := "(I)Ljava/lang/Throwable;" } : Jvm.MethodName)) ∈ gd := gd_tbl (i := 322) (by decide +kernel) (by decide +kernel)
theorem kw_324 : (Jvm.Cond.methodLink "HangOrder" (139 : Nat) ({ cls := "java/lang/IllegalArgumentException", name := "<init>", desc := "(Ljava/lang/String;)V" } : Jvm.MethodName)) ∈ gd := gd_tbl (i := 324) (by decide +kernel) (by decide +kernel)
theorem kw_325 : (Jvm.Cond.instanceMethod ({ cls := "java/lang/IllegalArgumentException", name := "<init>", desc := "(Ljava/lang/String;)V" } : Jvm.MethodName)) ∈ gd := gd_tbl (i := 325) (by decide +kernel) (by decide +kernel)
theorem kw_326 : (Jvm.Cond.code ({ cls := "java/lang/IllegalArgumentException", name := "<init>", desc := "(Ljava/lang/String;)V" } : Jvm.MethodName) prog_12_method_2_code (2 : Nat) (Option.none : Option Jvm.ClassFile.FieldType)) ∈ gd := gd_tbl (i := 326) (by decide +kernel) (by decide +kernel)
theorem kw_327 : (Jvm.Cond.methodLink "java/lang/IllegalArgumentException" (7 : Nat) ({ cls := "java/lang/RuntimeException", name := "<init>", desc := "(Ljava/lang/String;)V" } : Jvm.MethodName)) ∈ gd := gd_tbl (i := 327) (by decide +kernel) (by decide +kernel)
theorem kw_328 : (Jvm.Cond.instanceMethod ({ cls := "java/lang/RuntimeException", name := "<init>", desc := "(Ljava/lang/String;)V" } : Jvm.MethodName)) ∈ gd := gd_tbl (i := 328) (by decide +kernel) (by decide +kernel)
theorem kw_329 : (Jvm.Cond.code ({ cls := "java/lang/RuntimeException", name := "<init>", desc := "(Ljava/lang/String;)V" } : Jvm.MethodName) prog_15_method_2_code (2 : Nat) (Option.none : Option Jvm.ClassFile.FieldType)) ∈ gd := gd_tbl (i := 329) (by decide +kernel) (by decide +kernel)
theorem kw_330 : (Jvm.Cond.methodLink "java/lang/RuntimeException" (7 : Nat) ({ cls := "java/lang/Exception", name := "<init>", desc := "(Ljava/lang/String;)V" } : Jvm.MethodName)) ∈ gd := gd_tbl (i := 330) (by decide +kernel) (by decide +kernel)
theorem kw_331 : (Jvm.Cond.instanceMethod ({ cls := "java/lang/Exception", name := "<init>", desc := "(Ljava/lang/String;)V" } : Jvm.MethodName)) ∈ gd := gd_tbl (i := 331) (by decide +kernel) (by decide +kernel)
theorem kw_332 : (Jvm.Cond.code ({ cls := "java/lang/Exception", name := "<init>", desc := "(Ljava/lang/String;)V" } : Jvm.MethodName) prog_11_method_2_code (2 : Nat) (Option.none : Option Jvm.ClassFile.FieldType)) ∈ gd := gd_tbl (i := 332) (by decide +kernel) (by decide +kernel)
theorem kw_333 : (Jvm.Cond.methodLink "java/lang/Exception" (7 : Nat) ({ cls := "java/lang/Throwable", name := "<init>", desc := "(Ljava/lang/String;)V" } : Jvm.MethodName)) ∈ gd := gd_tbl (i := 333) (by decide +kernel) (by decide +kernel)
theorem kw_334 : (Jvm.Cond.instanceMethod ({ cls := "java/lang/Throwable", name := "<init>", desc := "(Ljava/lang/String;)V" } : Jvm.MethodName)) ∈ gd := gd_tbl (i := 334) (by decide +kernel) (by decide +kernel)
theorem kw_335 : (Jvm.Cond.code ({ cls := "java/lang/Throwable", name := "<init>", desc := "(Ljava/lang/String;)V" } : Jvm.MethodName) prog_18_method_2_code (2 : Nat) (Option.none : Option Jvm.ClassFile.FieldType)) ∈ gd := gd_tbl (i := 335) (by decide +kernel) (by decide +kernel)
theorem kw_336 : (Jvm.Cond.fieldLink "java/lang/Throwable" (198 : Nat) "java/lang/Throwable" "backtrace" "Ljava/lang/Object;") ∈ gd := gd_tbl (i := 336) (by decide +kernel) (by decide +kernel)
theorem kw_337 : (Jvm.Cond.fieldLink "java/lang/Throwable" (31 : Nat) "java/lang/Throwable" "detailMessage" "Ljava/lang/String;") ∈ gd := gd_tbl (i := 337) (by decide +kernel) (by decide +kernel)
theorem kw_338 : (Jvm.Cond.fieldLink "java/lang/Throwable" (7 : Nat) "java/lang/Throwable" "cause" "Ljava/lang/Throwable;") ∈ gd := gd_tbl (i := 338) (by decide +kernel) (by decide +kernel)
theorem kw_339 : (Jvm.Cond.fieldLink "java/lang/Throwable" (17 : Nat) "java/lang/Throwable" "stackTrace" "[Ljava/lang/StackTraceElement;") ∈ gd := gd_tbl (i := 339) (by decide +kernel) (by decide +kernel)
theorem kw_340 : (Jvm.Cond.fieldLink "java/lang/Throwable" (24 : Nat) "java/lang/Throwable" "suppressedExceptions" "Ljava/util/List;") ∈ gd := gd_tbl (i := 340) (by decide +kernel) (by decide +kernel)
theorem kw_349 : (Jvm.Cond.arrayClass Jvm.ClassFile.FieldType.byte) ∈ gd := gd_tbl (i := 349) (by decide +kernel) (by decide +kernel)
theorem kw_350 : (Jvm.Cond.methodLink "HangOrder" (40 : Nat) ({ cls := "HangOrder", name := "linkBetween", desc := "(II)LHangOrder$Link;" } : Jvm.MethodName)) ∈ gd := gd_tbl (i := 350) (by decide +kernel) (by decide +kernel)
theorem kw_352 : (Jvm.Cond.instanceMethod ({ cls := "HangOrder", name := "linkBetween", desc := "(II)LHangOrder$Link;" } : Jvm.MethodName)) ∈ gd := gd_tbl (i := 352) (by decide +kernel) (by decide +kernel)
theorem kw_353 : (Jvm.Cond.code ({ cls := "HangOrder", name := "linkBetween", desc := "(II)LHangOrder$Link;" } : Jvm.MethodName) prog_1_method_14_code (5 : Nat) (Option.some (Jvm.ClassFile.FieldType.object "HangOrder$Link"))) ∈ gd := gd_tbl (i := 353) (by decide +kernel) (by decide +kernel)
theorem kw_354 : (Jvm.Cond.constant "HangOrder" (48 : Nat) (65536 : Int32)) ∈ gd := gd_tbl (i := 354) (by decide +kernel) (by decide +kernel)
theorem kw_355 : (Jvm.Cond.classLink "HangOrder" (49 : Nat) "java/lang/IllegalStateException") ∈ gd := gd_tbl (i := 355) (by decide +kernel) (by decide +kernel)
theorem kw_356 : (Jvm.Cond.instantiable "java/lang/IllegalStateException" (6 : Nat)) ∈ gd := gd_tbl (i := 356) (by decide +kernel) (by decide +kernel)
theorem kw_358 : (Jvm.Cond.selects "java/lang/IllegalStateException" ({ cls := "java/lang/Throwable", name := "fillInStackTrace", desc := "(I)Ljava/lang/Throwable;" } : Jvm.MethodName) ({ cls := "java/lang/Throwable", name := "fillInStackTrace", desc := "(I)Ljava/lang/Throwable;" } : Jvm.MethodName)) ∈ gd := gd_tbl (i := 358) (by decide +kernel) (by decide +kernel)
theorem kw_365 : (Jvm.Cond.methodLink "HangOrder" (53 : Nat) ({ cls := "java/lang/IllegalStateException", name := "<init>", desc := "(Ljava/lang/String;)V" } : Jvm.MethodName)) ∈ gd := gd_tbl (i := 365) (by decide +kernel) (by decide +kernel)
theorem kw_366 : (Jvm.Cond.instanceMethod ({ cls := "java/lang/IllegalStateException", name := "<init>", desc := "(Ljava/lang/String;)V" } : Jvm.MethodName)) ∈ gd := gd_tbl (i := 366) (by decide +kernel) (by decide +kernel)
theorem kw_367 : (Jvm.Cond.code ({ cls := "java/lang/IllegalStateException", name := "<init>", desc := "(Ljava/lang/String;)V" } : Jvm.MethodName) prog_13_method_2_code (2 : Nat) (Option.none : Option Jvm.ClassFile.FieldType)) ∈ gd := gd_tbl (i := 367) (by decide +kernel) (by decide +kernel)
theorem kw_368 : (Jvm.Cond.methodLink "java/lang/IllegalStateException" (7 : Nat) ({ cls := "java/lang/RuntimeException", name := "<init>", desc := "(Ljava/lang/String;)V" } : Jvm.MethodName)) ∈ gd := gd_tbl (i := 368) (by decide +kernel) (by decide +kernel)
theorem kw_371 : (Jvm.Cond.classLink "HangOrder" (60 : Nat) "HangOrder$Link") ∈ gd := gd_tbl (i := 371) (by decide +kernel) (by decide +kernel)
theorem kw_372 : (Jvm.Cond.instantiable "HangOrder$Link" (6 : Nat)) ∈ gd := gd_tbl (i := 372) (by decide +kernel) (by decide +kernel)
theorem kw_373 : (Jvm.Cond.methodLink "HangOrder" (62 : Nat) ({ cls := "HangOrder$Link", name := "<init>", desc := "(LHangOrder$Node;LHangOrder$Node;)V" } : Jvm.MethodName)) ∈ gd := gd_tbl (i := 373) (by decide +kernel) (by decide +kernel)
theorem kw_374 : (Jvm.Cond.instanceMethod ({ cls := "HangOrder$Link", name := "<init>", desc := "(LHangOrder$Node;LHangOrder$Node;)V" } : Jvm.MethodName)) ∈ gd := gd_tbl (i := 374) (by decide +kernel) (by decide +kernel)
theorem kw_375 : (Jvm.Cond.code ({ cls := "HangOrder$Link", name := "<init>", desc := "(LHangOrder$Node;LHangOrder$Node;)V" } : Jvm.MethodName) prog_3_method_1_code (3 : Nat) (Option.none : Option Jvm.ClassFile.FieldType)) ∈ gd := gd_tbl (i := 375) (by decide +kernel) (by decide +kernel)
theorem kw_376 : (Jvm.Cond.methodLink "HangOrder$Link" (1 : Nat) ({ cls := "java/lang/Object", name := "<init>", desc := "()V" } : Jvm.MethodName)) ∈ gd := gd_tbl (i := 376) (by decide +kernel) (by decide +kernel)
theorem kw_377 : (Jvm.Cond.fieldLink "HangOrder$Link" (7 : Nat) "HangOrder$Link" "reader" "LHangOrder$Node;") ∈ gd := gd_tbl (i := 377) (by decide +kernel) (by decide +kernel)
theorem kw_378 : (Jvm.Cond.fieldLink "HangOrder" (75 : Nat) "HangOrder$Link" "reader" "LHangOrder$Node;") ∈ gd := gd_tbl (i := 378) (by decide +kernel) (by decide +kernel)
theorem kw_379 : (Jvm.Cond.fieldLink "HangOrder$Link" (13 : Nat) "HangOrder$Link" "source" "LHangOrder$Node;") ∈ gd := gd_tbl (i := 379) (by decide +kernel) (by decide +kernel)
theorem kw_380 : (Jvm.Cond.fieldLink "HangOrder" (140 : Nat) "HangOrder$Link" "source" "LHangOrder$Node;") ∈ gd := gd_tbl (i := 380) (by decide +kernel) (by decide +kernel)
theorem kw_381 : (Jvm.Cond.fieldLink "HangOrder$Link" (37 : Nat) "HangOrder$Link" "previousRead" "LHangOrder$Link;") ∈ gd := gd_tbl (i := 381) (by decide +kernel) (by decide +kernel)
theorem kw_382 : (Jvm.Cond.fieldLink "HangOrder$Link" (34 : Nat) "HangOrder$Link" "nextRead" "LHangOrder$Link;") ∈ gd := gd_tbl (i := 382) (by decide +kernel) (by decide +kernel)
theorem kw_383 : (Jvm.Cond.fieldLink "HangOrder" (88 : Nat) "HangOrder$Link" "nextRead" "LHangOrder$Link;") ∈ gd := gd_tbl (i := 383) (by decide +kernel) (by decide +kernel)
theorem kw_384 : (Jvm.Cond.fieldLink "HangOrder$Link" (50 : Nat) "HangOrder$Link" "previousReader" "LHangOrder$Link;") ∈ gd := gd_tbl (i := 384) (by decide +kernel) (by decide +kernel)
theorem kw_385 : (Jvm.Cond.fieldLink "HangOrder$Link" (47 : Nat) "HangOrder$Link" "nextReader" "LHangOrder$Link;") ∈ gd := gd_tbl (i := 385) (by decide +kernel) (by decide +kernel)
theorem kw_386 : (Jvm.Cond.fieldLink "HangOrder" (158 : Nat) "HangOrder$Link" "nextReader" "LHangOrder$Link;") ∈ gd := gd_tbl (i := 386) (by decide +kernel) (by decide +kernel)
theorem kw_400 : (Jvm.Cond.methodLink "HangOrder" (65 : Nat) ({ cls := "HangOrder$Link", name := "fasten", desc := "()V" } : Jvm.MethodName)) ∈ gd := gd_tbl (i := 400) (by decide +kernel) (by decide +kernel)
theorem kw_401 : (Jvm.Cond.instanceMethod ({ cls := "HangOrder$Link", name := "fasten", desc := "()V" } : Jvm.MethodName)) ∈ gd := gd_tbl (i := 401) (by decide +kernel) (by decide +kernel)
theorem kw_402 : (Jvm.Cond.selects "HangOrder$Link" ({ cls := "HangOrder$Link", name := "fasten", desc := "()V" } : Jvm.MethodName) ({ cls := "HangOrder$Link", name := "fasten", desc := "()V" } : Jvm.MethodName)) ∈ gd := gd_tbl (i := 402) (by decide +kernel) (by decide +kernel)
theorem kw_403 : (Jvm.Cond.code ({ cls := "HangOrder$Link", name := "fasten", desc := "()V" } : Jvm.MethodName) prog_3_method_2_code (1 : Nat) (Option.none : Option Jvm.ClassFile.FieldType)) ∈ gd := gd_tbl (i := 403) (by decide +kernel) (by decide +kernel)
theorem kw_404 : (Jvm.Cond.methodLink "HangOrder$Link" (16 : Nat) ({ cls := "HangOrder$Link", name := "joinReader", desc := "()V" } : Jvm.MethodName)) ∈ gd := gd_tbl (i := 404) (by decide +kernel) (by decide +kernel)
theorem kw_406 : (Jvm.Cond.instanceMethod ({ cls := "HangOrder$Link", name := "joinReader", desc := "()V" } : Jvm.MethodName)) ∈ gd := gd_tbl (i := 406) (by decide +kernel) (by decide +kernel)
theorem kw_407 : (Jvm.Cond.code ({ cls := "HangOrder$Link", name := "joinReader", desc := "()V" } : Jvm.MethodName) prog_3_method_4_code (1 : Nat) (Option.none : Option Jvm.ClassFile.FieldType)) ∈ gd := gd_tbl (i := 407) (by decide +kernel) (by decide +kernel)
theorem kw_408 : (Jvm.Cond.methodLink "HangOrder$Link" (19 : Nat) ({ cls := "HangOrder$Link", name := "joinSource", desc := "()V" } : Jvm.MethodName)) ∈ gd := gd_tbl (i := 408) (by decide +kernel) (by decide +kernel)
theorem kw_410 : (Jvm.Cond.instanceMethod ({ cls := "HangOrder$Link", name := "joinSource", desc := "()V" } : Jvm.MethodName)) ∈ gd := gd_tbl (i := 410) (by decide +kernel) (by decide +kernel)
theorem kw_411 : (Jvm.Cond.code ({ cls := "HangOrder$Link", name := "joinSource", desc := "()V" } : Jvm.MethodName) prog_3_method_5_code (1 : Nat) (Option.none : Option Jvm.ClassFile.FieldType)) ∈ gd := gd_tbl (i := 411) (by decide +kernel) (by decide +kernel)
theorem kw_412 : (Jvm.Cond.methodLink "HangOrder" (68 : Nat) ({ cls := "HangOrder", name := "markTouched", desc := "(LHangOrder$Node;)V" } : Jvm.MethodName)) ∈ gd := gd_tbl (i := 412) (by decide +kernel) (by decide +kernel)
theorem kw_414 : (Jvm.Cond.instanceMethod ({ cls := "HangOrder", name := "markTouched", desc := "(LHangOrder$Node;)V" } : Jvm.MethodName)) ∈ gd := gd_tbl (i := 414) (by decide +kernel) (by decide +kernel)
theorem kw_415 : (Jvm.Cond.code ({ cls := "HangOrder", name := "markTouched", desc := "(LHangOrder$Node;)V" } : Jvm.MethodName) prog_1_method_15_code (2 : Nat) (Option.none : Option Jvm.ClassFile.FieldType)) ∈ gd := gd_tbl (i := 415) (by decide +kernel) (by decide +kernel)
theorem kw_416 : (Jvm.Cond.methodLink "HangOrderLaw" (42 : Nat) ({ cls := "HangOrderLaw", name := "unlink", desc := "(LHangOrder;II[J)I" } : Jvm.MethodName)) ∈ gd := gd_tbl (i := 416) (by decide +kernel) (by decide +kernel)
theorem kw_417 : (Jvm.Cond.static ({ cls := "HangOrderLaw", name := "unlink", desc := "(LHangOrder;II[J)I" } : Jvm.MethodName)) ∈ gd := gd_tbl (i := 417) (by decide +kernel) (by decide +kernel)
theorem kw_419 : (Jvm.Cond.methodLink "HangOrderLaw" (17 : Nat) ({ cls := "HangOrder", name := "unlink", desc := "(II)Z" } : Jvm.MethodName)) ∈ gd := gd_tbl (i := 419) (by decide +kernel) (by decide +kernel)
theorem kw_420 : (Jvm.Cond.instanceMethod ({ cls := "HangOrder", name := "unlink", desc := "(II)Z" } : Jvm.MethodName)) ∈ gd := gd_tbl (i := 420) (by decide +kernel) (by decide +kernel)
theorem kw_421 : (Jvm.Cond.selects "HangOrder" ({ cls := "HangOrder", name := "unlink", desc := "(II)Z" } : Jvm.MethodName) ({ cls := "HangOrder", name := "unlink", desc := "(II)Z" } : Jvm.MethodName)) ∈ gd := gd_tbl (i := 421) (by decide +kernel) (by decide +kernel)
theorem kw_422 : (Jvm.Cond.code ({ cls := "HangOrder", name := "unlink", desc := "(II)Z" } : Jvm.MethodName) prog_1_method_3_code (4 : Nat) (Option.some Jvm.ClassFile.FieldType.boolean)) ∈ gd := gd_tbl (i := 422) (by decide +kernel) (by decide +kernel)
theorem kw_423 : (Jvm.Cond.methodLink "HangOrder" (72 : Nat) ({ cls := "HangOrder$Link", name := "loosen", desc := "()V" } : Jvm.MethodName)) ∈ gd := gd_tbl (i := 423) (by decide +kernel) (by decide +kernel)
theorem kw_424 : (Jvm.Cond.instanceMethod ({ cls := "HangOrder$Link", name := "loosen", desc := "()V" } : Jvm.MethodName)) ∈ gd := gd_tbl (i := 424) (by decide +kernel) (by decide +kernel)
theorem kw_425 : (Jvm.Cond.selects "HangOrder$Link" ({ cls := "HangOrder$Link", name := "loosen", desc := "()V" } : Jvm.MethodName) ({ cls := "HangOrder$Link", name := "loosen", desc := "()V" } : Jvm.MethodName)) ∈ gd := gd_tbl (i := 425) (by decide +kernel) (by decide +kernel)
theorem kw_426 : (Jvm.Cond.code ({ cls := "HangOrder$Link", name := "loosen", desc := "()V" } : Jvm.MethodName) prog_3_method_3_code (1 : Nat) (Option.none : Option Jvm.ClassFile.FieldType)) ∈ gd := gd_tbl (i := 426) (by decide +kernel) (by decide +kernel)
theorem kw_427 : (Jvm.Cond.methodLink "HangOrder$Link" (22 : Nat) ({ cls := "HangOrder$Link", name := "leaveReader", desc := "()V" } : Jvm.MethodName)) ∈ gd := gd_tbl (i := 427) (by decide +kernel) (by decide +kernel)
theorem kw_429 : (Jvm.Cond.instanceMethod ({ cls := "HangOrder$Link", name := "leaveReader", desc := "()V" } : Jvm.MethodName)) ∈ gd := gd_tbl (i := 429) (by decide +kernel) (by decide +kernel)
theorem kw_430 : (Jvm.Cond.code ({ cls := "HangOrder$Link", name := "leaveReader", desc := "()V" } : Jvm.MethodName) prog_3_method_6_code (1 : Nat) (Option.none : Option Jvm.ClassFile.FieldType)) ∈ gd := gd_tbl (i := 430) (by decide +kernel) (by decide +kernel)
theorem kw_431 : (Jvm.Cond.methodLink "HangOrder$Link" (25 : Nat) ({ cls := "HangOrder$Link", name := "leaveSource", desc := "()V" } : Jvm.MethodName)) ∈ gd := gd_tbl (i := 431) (by decide +kernel) (by decide +kernel)
theorem kw_433 : (Jvm.Cond.instanceMethod ({ cls := "HangOrder$Link", name := "leaveSource", desc := "()V" } : Jvm.MethodName)) ∈ gd := gd_tbl (i := 433) (by decide +kernel) (by decide +kernel)
theorem kw_434 : (Jvm.Cond.code ({ cls := "HangOrder$Link", name := "leaveSource", desc := "()V" } : Jvm.MethodName) prog_3_method_7_code (1 : Nat) (Option.none : Option Jvm.ClassFile.FieldType)) ∈ gd := gd_tbl (i := 434) (by decide +kernel) (by decide +kernel)
theorem kw_435 : (Jvm.Cond.methodLink "HangOrderLaw" (45 : Nat) ({ cls := "HangOrderLaw", name := "clear", desc := "(LHangOrder;I[J)I" } : Jvm.MethodName)) ∈ gd := gd_tbl (i := 435) (by decide +kernel) (by decide +kernel)
theorem kw_436 : (Jvm.Cond.static ({ cls := "HangOrderLaw", name := "clear", desc := "(LHangOrder;I[J)I" } : Jvm.MethodName)) ∈ gd := gd_tbl (i := 436) (by decide +kernel) (by decide +kernel)
theorem kw_438 : (Jvm.Cond.methodLink "HangOrderLaw" (20 : Nat) ({ cls := "HangOrder", name := "clear", desc := "(I)I" } : Jvm.MethodName)) ∈ gd := gd_tbl (i := 438) (by decide +kernel) (by decide +kernel)
theorem kw_439 : (Jvm.Cond.instanceMethod ({ cls := "HangOrder", name := "clear", desc := "(I)I" } : Jvm.MethodName)) ∈ gd := gd_tbl (i := 439) (by decide +kernel) (by decide +kernel)
theorem kw_440 : (Jvm.Cond.selects "HangOrder" ({ cls := "HangOrder", name := "clear", desc := "(I)I" } : Jvm.MethodName) ({ cls := "HangOrder", name := "clear", desc := "(I)I" } : Jvm.MethodName)) ∈ gd := gd_tbl (i := 440) (by decide +kernel) (by decide +kernel)
theorem kw_441 : (Jvm.Cond.code ({ cls := "HangOrder", name := "clear", desc := "(I)I" } : Jvm.MethodName) prog_1_method_4_code (6 : Nat) (Option.some Jvm.ClassFile.FieldType.int)) ∈ gd := gd_tbl (i := 441) (by decide +kernel) (by decide +kernel)
theorem kw_442 : (Jvm.Cond.methodLink "HangOrderLaw" (49 : Nat) ({ cls := "HangOrderLaw", name := "touch", desc := "(LHangOrder;I)I" } : Jvm.MethodName)) ∈ gd := gd_tbl (i := 442) (by decide +kernel) (by decide +kernel)
theorem kw_443 : (Jvm.Cond.static ({ cls := "HangOrderLaw", name := "touch", desc := "(LHangOrder;I)I" } : Jvm.MethodName)) ∈ gd := gd_tbl (i := 443) (by decide +kernel) (by decide +kernel)
theorem kw_445 : (Jvm.Cond.methodLink "HangOrderLaw" (24 : Nat) ({ cls := "HangOrder", name := "touch", desc := "(I)V" } : Jvm.MethodName)) ∈ gd := gd_tbl (i := 445) (by decide +kernel) (by decide +kernel)
theorem kw_446 : (Jvm.Cond.instanceMethod ({ cls := "HangOrder", name := "touch", desc := "(I)V" } : Jvm.MethodName)) ∈ gd := gd_tbl (i := 446) (by decide +kernel) (by decide +kernel)
theorem kw_447 : (Jvm.Cond.selects "HangOrder" ({ cls := "HangOrder", name := "touch", desc := "(I)V" } : Jvm.MethodName) ({ cls := "HangOrder", name := "touch", desc := "(I)V" } : Jvm.MethodName)) ∈ gd := gd_tbl (i := 447) (by decide +kernel) (by decide +kernel)
theorem kw_448 : (Jvm.Cond.code ({ cls := "HangOrder", name := "touch", desc := "(I)V" } : Jvm.MethodName) prog_1_method_5_code (2 : Nat) (Option.none : Option Jvm.ClassFile.FieldType)) ∈ gd := gd_tbl (i := 448) (by decide +kernel) (by decide +kernel)
theorem kw_449 : (Jvm.Cond.classLink "HangOrderLaw" (29 : Nat) "HangOrderModel") ∈ gd := gd_tbl (i := 449) (by decide +kernel) (by decide +kernel)
theorem kw_450 : (Jvm.Cond.instantiable "HangOrderModel" (13 : Nat)) ∈ gd := gd_tbl (i := 450) (by decide +kernel) (by decide +kernel)
theorem kw_451 : (Jvm.Cond.methodLink "HangOrderLaw" (31 : Nat) ({ cls := "HangOrderModel", name := "<init>", desc := "()V" } : Jvm.MethodName)) ∈ gd := gd_tbl (i := 451) (by decide +kernel) (by decide +kernel)
theorem kw_452 : (Jvm.Cond.instanceMethod ({ cls := "HangOrderModel", name := "<init>", desc := "()V" } : Jvm.MethodName)) ∈ gd := gd_tbl (i := 452) (by decide +kernel) (by decide +kernel)
theorem kw_453 : (Jvm.Cond.code ({ cls := "HangOrderModel", name := "<init>", desc := "()V" } : Jvm.MethodName) prog_9_method_1_code (1 : Nat) (Option.none : Option Jvm.ClassFile.FieldType)) ∈ gd := gd_tbl (i := 453) (by decide +kernel) (by decide +kernel)
theorem kw_454 : (Jvm.Cond.methodLink "HangOrderModel" (1 : Nat) ({ cls := "java/lang/Object", name := "<init>", desc := "()V" } : Jvm.MethodName)) ∈ gd := gd_tbl (i := 454) (by decide +kernel) (by decide +kernel)
theorem kw_455 : (Jvm.Cond.fieldLink "HangOrderModel" (35 : Nat) "HangOrderModel" "code" "I") ∈ gd := gd_tbl (i := 455) (by decide +kernel) (by decide +kernel)
theorem kw_456 : (Jvm.Cond.fieldLink "HangOrderModel" (46 : Nat) "HangOrderModel" "links" "I") ∈ gd := gd_tbl (i := 456) (by decide +kernel) (by decide +kernel)
theorem kw_457 : (Jvm.Cond.fieldLink "HangOrderModel" (7 : Nat) "HangOrderModel" "from" "[I") ∈ gd := gd_tbl (i := 457) (by decide +kernel) (by decide +kernel)
theorem kw_458 : (Jvm.Cond.fieldLink "HangOrderModel" (13 : Nat) "HangOrderModel" "to" "[I") ∈ gd := gd_tbl (i := 458) (by decide +kernel) (by decide +kernel)
theorem kw_459 : (Jvm.Cond.fieldLink "HangOrderModel" (39 : Nat) "HangOrderModel" "nodes" "I") ∈ gd := gd_tbl (i := 459) (by decide +kernel) (by decide +kernel)
theorem kw_460 : (Jvm.Cond.fieldLink "HangOrderModel" (16 : Nat) "HangOrderModel" "numbers" "[I") ∈ gd := gd_tbl (i := 460) (by decide +kernel) (by decide +kernel)
theorem kw_461 : (Jvm.Cond.fieldLink "HangOrderModel" (19 : Nat) "HangOrderModel" "touched" "[Z") ∈ gd := gd_tbl (i := 461) (by decide +kernel) (by decide +kernel)
theorem kw_462 : (Jvm.Cond.fieldLink "HangOrderModel" (23 : Nat) "HangOrderModel" "ringed" "[Z") ∈ gd := gd_tbl (i := 462) (by decide +kernel) (by decide +kernel)
theorem kw_463 : (Jvm.Cond.fieldLink "HangOrderModel" (26 : Nat) "HangOrderModel" "wanted" "[Z") ∈ gd := gd_tbl (i := 463) (by decide +kernel) (by decide +kernel)
theorem kw_464 : (Jvm.Cond.fieldLink "HangOrderModel" (29 : Nat) "HangOrderModel" "done" "[Z") ∈ gd := gd_tbl (i := 464) (by decide +kernel) (by decide +kernel)
theorem kw_465 : (Jvm.Cond.fieldLink "HangOrderModel" (70 : Nat) "HangOrderModel" "many" "I") ∈ gd := gd_tbl (i := 465) (by decide +kernel) (by decide +kernel)
theorem kw_466 : (Jvm.Cond.fieldLink "HangOrderModel" (32 : Nat) "HangOrderModel" "worked" "[I") ∈ gd := gd_tbl (i := 466) (by decide +kernel) (by decide +kernel)
theorem kw_467 : (Jvm.Cond.fieldLink "HangOrderModel" (73 : Nat) "HangOrderModel" "found" "I") ∈ gd := gd_tbl (i := 467) (by decide +kernel) (by decide +kernel)
theorem kw_495 : (Jvm.Cond.arrayClass Jvm.ClassFile.FieldType.boolean) ∈ gd := gd_tbl (i := 495) (by decide +kernel) (by decide +kernel)
theorem kw_496 : (Jvm.Cond.methodLink "HangOrderLaw" (38 : Nat) ({ cls := "HangOrderModel", name := "thrown", desc := "()I" } : Jvm.MethodName)) ∈ gd := gd_tbl (i := 496) (by decide +kernel) (by decide +kernel)
theorem kw_497 : (Jvm.Cond.instanceMethod ({ cls := "HangOrderModel", name := "thrown", desc := "()I" } : Jvm.MethodName)) ∈ gd := gd_tbl (i := 497) (by decide +kernel) (by decide +kernel)
theorem kw_498 : (Jvm.Cond.selects "HangOrderModel" ({ cls := "HangOrderModel", name := "thrown", desc := "()I" } : Jvm.MethodName) ({ cls := "HangOrderModel", name := "thrown", desc := "()I" } : Jvm.MethodName)) ∈ gd := gd_tbl (i := 498) (by decide +kernel) (by decide +kernel)
theorem kw_499 : (Jvm.Cond.code ({ cls := "HangOrderModel", name := "thrown", desc := "()I" } : Jvm.MethodName) prog_9_method_2_code (1 : Nat) (Option.some Jvm.ClassFile.FieldType.int)) ∈ gd := gd_tbl (i := 499) (by decide +kernel) (by decide +kernel)
theorem kw_500 : (Jvm.Cond.methodLink "HangOrderLaw" (37 : Nat) ({ cls := "HangOrderModel", name := "link", desc := "(II)Z" } : Jvm.MethodName)) ∈ gd := gd_tbl (i := 500) (by decide +kernel) (by decide +kernel)
theorem kw_501 : (Jvm.Cond.instanceMethod ({ cls := "HangOrderModel", name := "link", desc := "(II)Z" } : Jvm.MethodName)) ∈ gd := gd_tbl (i := 501) (by decide +kernel) (by decide +kernel)
theorem kw_502 : (Jvm.Cond.selects "HangOrderModel" ({ cls := "HangOrderModel", name := "link", desc := "(II)Z" } : Jvm.MethodName) ({ cls := "HangOrderModel", name := "link", desc := "(II)Z" } : Jvm.MethodName)) ∈ gd := gd_tbl (i := 502) (by decide +kernel) (by decide +kernel)
theorem kw_503 : (Jvm.Cond.code ({ cls := "HangOrderModel", name := "link", desc := "(II)Z" } : Jvm.MethodName) prog_9_method_8_code (5 : Nat) (Option.some Jvm.ClassFile.FieldType.boolean)) ∈ gd := gd_tbl (i := 503) (by decide +kernel) (by decide +kernel)
theorem kw_504 : (Jvm.Cond.methodLink "HangOrderModel" (49 : Nat) ({ cls := "HangOrderModel", name := "isNode", desc := "(I)Z" } : Jvm.MethodName)) ∈ gd := gd_tbl (i := 504) (by decide +kernel) (by decide +kernel)
theorem kw_505 : (Jvm.Cond.static ({ cls := "HangOrderModel", name := "isNode", desc := "(I)Z" } : Jvm.MethodName)) ∈ gd := gd_tbl (i := 505) (by decide +kernel) (by decide +kernel)
theorem kw_506 : (Jvm.Cond.code ({ cls := "HangOrderModel", name := "isNode", desc := "(I)Z" } : Jvm.MethodName) prog_9_method_3_code (1 : Nat) (Option.some Jvm.ClassFile.FieldType.boolean)) ∈ gd := gd_tbl (i := 506) (by decide +kernel) (by decide +kernel)
theorem kw_507 : (Jvm.Cond.methodLink "HangOrderModel" (53 : Nat) ({ cls := "HangOrderModel", name := "place", desc := "(I)I" } : Jvm.MethodName)) ∈ gd := gd_tbl (i := 507) (by decide +kernel) (by decide +kernel)
theorem kw_509 : (Jvm.Cond.instanceMethod ({ cls := "HangOrderModel", name := "place", desc := "(I)I" } : Jvm.MethodName)) ∈ gd := gd_tbl (i := 509) (by decide +kernel) (by decide +kernel)
theorem kw_510 : (Jvm.Cond.code ({ cls := "HangOrderModel", name := "place", desc := "(I)I" } : Jvm.MethodName) prog_9_method_5_code (3 : Nat) (Option.some Jvm.ClassFile.FieldType.int)) ∈ gd := gd_tbl (i := 510) (by decide +kernel) (by decide +kernel)
theorem kw_511 : (Jvm.Cond.methodLink "HangOrderModel" (42 : Nat) ({ cls := "HangOrderModel", name := "find", desc := "(I)I" } : Jvm.MethodName)) ∈ gd := gd_tbl (i := 511) (by decide +kernel) (by decide +kernel)
theorem kw_513 : (Jvm.Cond.instanceMethod ({ cls := "HangOrderModel", name := "find", desc := "(I)I" } : Jvm.MethodName)) ∈ gd := gd_tbl (i := 513) (by decide +kernel) (by decide +kernel)
theorem kw_514 : (Jvm.Cond.code ({ cls := "HangOrderModel", name := "find", desc := "(I)I" } : Jvm.MethodName) prog_9_method_4_code (3 : Nat) (Option.some Jvm.ClassFile.FieldType.int)) ∈ gd := gd_tbl (i := 514) (by decide +kernel) (by decide +kernel)
theorem kw_515 : (Jvm.Cond.methodLink "HangOrderModel" (56 : Nat) ({ cls := "HangOrderModel", name := "linkOf", desc := "(II)I" } : Jvm.MethodName)) ∈ gd := gd_tbl (i := 515) (by decide +kernel) (by decide +kernel)
theorem kw_517 : (Jvm.Cond.instanceMethod ({ cls := "HangOrderModel", name := "linkOf", desc := "(II)I" } : Jvm.MethodName)) ∈ gd := gd_tbl (i := 517) (by decide +kernel) (by decide +kernel)
theorem kw_518 : (Jvm.Cond.code ({ cls := "HangOrderModel", name := "linkOf", desc := "(II)I" } : Jvm.MethodName) prog_9_method_6_code (4 : Nat) (Option.some Jvm.ClassFile.FieldType.int)) ∈ gd := gd_tbl (i := 518) (by decide +kernel) (by decide +kernel)
theorem kw_519 : (Jvm.Cond.methodLink "HangOrderLaw" (44 : Nat) ({ cls := "HangOrderModel", name := "unlink", desc := "(II)Z" } : Jvm.MethodName)) ∈ gd := gd_tbl (i := 519) (by decide +kernel) (by decide +kernel)
theorem kw_520 : (Jvm.Cond.instanceMethod ({ cls := "HangOrderModel", name := "unlink", desc := "(II)Z" } : Jvm.MethodName)) ∈ gd := gd_tbl (i := 520) (by decide +kernel) (by decide +kernel)
theorem kw_521 : (Jvm.Cond.selects "HangOrderModel" ({ cls := "HangOrderModel", name := "unlink", desc := "(II)Z" } : Jvm.MethodName) ({ cls := "HangOrderModel", name := "unlink", desc := "(II)Z" } : Jvm.MethodName)) ∈ gd := gd_tbl (i := 521) (by decide +kernel) (by decide +kernel)
theorem kw_522 : (Jvm.Cond.code ({ cls := "HangOrderModel", name := "unlink", desc := "(II)Z" } : Jvm.MethodName) prog_9_method_9_code (4 : Nat) (Option.some Jvm.ClassFile.FieldType.boolean)) ∈ gd := gd_tbl (i := 522) (by decide +kernel) (by decide +kernel)
theorem kw_523 : (Jvm.Cond.methodLink "HangOrderModel" (60 : Nat) ({ cls := "HangOrderModel", name := "cut", desc := "(I)V" } : Jvm.MethodName)) ∈ gd := gd_tbl (i := 523) (by decide +kernel) (by decide +kernel)
theorem kw_525 : (Jvm.Cond.instanceMethod ({ cls := "HangOrderModel", name := "cut", desc := "(I)V" } : Jvm.MethodName)) ∈ gd := gd_tbl (i := 525) (by decide +kernel) (by decide +kernel)
theorem kw_526 : (Jvm.Cond.code ({ cls := "HangOrderModel", name := "cut", desc := "(I)V" } : Jvm.MethodName) prog_9_method_7_code (3 : Nat) (Option.none : Option Jvm.ClassFile.FieldType)) ∈ gd := gd_tbl (i := 526) (by decide +kernel) (by decide +kernel)
theorem kw_527 : (Jvm.Cond.methodLink "HangOrderLaw" (48 : Nat) ({ cls := "HangOrderModel", name := "clear", desc := "(I)I" } : Jvm.MethodName)) ∈ gd := gd_tbl (i := 527) (by decide +kernel) (by decide +kernel)
theorem kw_528 : (Jvm.Cond.instanceMethod ({ cls := "HangOrderModel", name := "clear", desc := "(I)I" } : Jvm.MethodName)) ∈ gd := gd_tbl (i := 528) (by decide +kernel) (by decide +kernel)
theorem kw_529 : (Jvm.Cond.selects "HangOrderModel" ({ cls := "HangOrderModel", name := "clear", desc := "(I)I" } : Jvm.MethodName) ({ cls := "HangOrderModel", name := "clear", desc := "(I)I" } : Jvm.MethodName)) ∈ gd := gd_tbl (i := 529) (by decide +kernel) (by decide +kernel)
theorem kw_530 : (Jvm.Cond.code ({ cls := "HangOrderModel", name := "clear", desc := "(I)I" } : Jvm.MethodName) prog_9_method_10_code (5 : Nat) (Option.some Jvm.ClassFile.FieldType.int)) ∈ gd := gd_tbl (i := 530) (by decide +kernel) (by decide +kernel)
theorem kw_531 : (Jvm.Cond.methodLink "HangOrderLaw" (52 : Nat) ({ cls := "HangOrderModel", name := "touch", desc := "(I)V" } : Jvm.MethodName)) ∈ gd := gd_tbl (i := 531) (by decide +kernel) (by decide +kernel)
theorem kw_532 : (Jvm.Cond.instanceMethod ({ cls := "HangOrderModel", name := "touch", desc := "(I)V" } : Jvm.MethodName)) ∈ gd := gd_tbl (i := 532) (by decide +kernel) (by decide +kernel)
theorem kw_533 : (Jvm.Cond.selects "HangOrderModel" ({ cls := "HangOrderModel", name := "touch", desc := "(I)V" } : Jvm.MethodName) ({ cls := "HangOrderModel", name := "touch", desc := "(I)V" } : Jvm.MethodName)) ∈ gd := gd_tbl (i := 533) (by decide +kernel) (by decide +kernel)
theorem kw_534 : (Jvm.Cond.code ({ cls := "HangOrderModel", name := "touch", desc := "(I)V" } : Jvm.MethodName) prog_9_method_11_code (2 : Nat) (Option.none : Option Jvm.ClassFile.FieldType)) ∈ gd := gd_tbl (i := 534) (by decide +kernel) (by decide +kernel)
theorem kw_535 : (Jvm.Cond.methodLink "HangOrderLaw" (56 : Nat) ({ cls := "HangOrderModel", name := "work", desc := "()I" } : Jvm.MethodName)) ∈ gd := gd_tbl (i := 535) (by decide +kernel) (by decide +kernel)
theorem kw_536 : (Jvm.Cond.instanceMethod ({ cls := "HangOrderModel", name := "work", desc := "()I" } : Jvm.MethodName)) ∈ gd := gd_tbl (i := 536) (by decide +kernel) (by decide +kernel)
theorem kw_537 : (Jvm.Cond.selects "HangOrderModel" ({ cls := "HangOrderModel", name := "work", desc := "()I" } : Jvm.MethodName) ({ cls := "HangOrderModel", name := "work", desc := "()I" } : Jvm.MethodName)) ∈ gd := gd_tbl (i := 537) (by decide +kernel) (by decide +kernel)
theorem kw_538 : (Jvm.Cond.code ({ cls := "HangOrderModel", name := "work", desc := "()I" } : Jvm.MethodName) prog_9_method_15_code (3 : Nat) (Option.some Jvm.ClassFile.FieldType.int)) ∈ gd := gd_tbl (i := 538) (by decide +kernel) (by decide +kernel)
theorem kw_539 : (Jvm.Cond.methodLink "HangOrderModel" (64 : Nat) ({ cls := "HangOrderModel", name := "spread", desc := "()V" } : Jvm.MethodName)) ∈ gd := gd_tbl (i := 539) (by decide +kernel) (by decide +kernel)
theorem kw_541 : (Jvm.Cond.instanceMethod ({ cls := "HangOrderModel", name := "spread", desc := "()V" } : Jvm.MethodName)) ∈ gd := gd_tbl (i := 541) (by decide +kernel) (by decide +kernel)
theorem kw_542 : (Jvm.Cond.code ({ cls := "HangOrderModel", name := "spread", desc := "()V" } : Jvm.MethodName) prog_9_method_12_code (3 : Nat) (Option.none : Option Jvm.ClassFile.FieldType)) ∈ gd := gd_tbl (i := 542) (by decide +kernel) (by decide +kernel)
theorem kw_543 : (Jvm.Cond.methodLink "HangOrderModel" (67 : Nat) ({ cls := "HangOrderModel", name := "findRings", desc := "()V" } : Jvm.MethodName)) ∈ gd := gd_tbl (i := 543) (by decide +kernel) (by decide +kernel)
theorem kw_545 : (Jvm.Cond.instanceMethod ({ cls := "HangOrderModel", name := "findRings", desc := "()V" } : Jvm.MethodName)) ∈ gd := gd_tbl (i := 545) (by decide +kernel) (by decide +kernel)
theorem kw_546 : (Jvm.Cond.code ({ cls := "HangOrderModel", name := "findRings", desc := "()V" } : Jvm.MethodName) prog_9_method_13_code (5 : Nat) (Option.none : Option Jvm.ClassFile.FieldType)) ∈ gd := gd_tbl (i := 546) (by decide +kernel) (by decide +kernel)
theorem kw_547 : (Jvm.Cond.methodLink "HangOrderModel" (76 : Nat) ({ cls := "HangOrderModel", name := "isReady", desc := "(I)Z" } : Jvm.MethodName)) ∈ gd := gd_tbl (i := 547) (by decide +kernel) (by decide +kernel)
theorem kw_549 : (Jvm.Cond.instanceMethod ({ cls := "HangOrderModel", name := "isReady", desc := "(I)Z" } : Jvm.MethodName)) ∈ gd := gd_tbl (i := 549) (by decide +kernel) (by decide +kernel)
theorem kw_550 : (Jvm.Cond.code ({ cls := "HangOrderModel", name := "isReady", desc := "(I)Z" } : Jvm.MethodName) prog_9_method_14_code (4 : Nat) (Option.some Jvm.ClassFile.FieldType.boolean)) ∈ gd := gd_tbl (i := 550) (by decide +kernel) (by decide +kernel)
theorem kw_551 : (Jvm.Cond.methodLink "HangOrderLaw" (60 : Nat) ({ cls := "HangOrderModel", name := "worked", desc := "(I)I" } : Jvm.MethodName)) ∈ gd := gd_tbl (i := 551) (by decide +kernel) (by decide +kernel)
theorem kw_552 : (Jvm.Cond.instanceMethod ({ cls := "HangOrderModel", name := "worked", desc := "(I)I" } : Jvm.MethodName)) ∈ gd := gd_tbl (i := 552) (by decide +kernel) (by decide +kernel)
theorem kw_553 : (Jvm.Cond.selects "HangOrderModel" ({ cls := "HangOrderModel", name := "worked", desc := "(I)I" } : Jvm.MethodName) ({ cls := "HangOrderModel", name := "worked", desc := "(I)I" } : Jvm.MethodName)) ∈ gd := gd_tbl (i := 553) (by decide +kernel) (by decide +kernel)
theorem kw_554 : (Jvm.Cond.code ({ cls := "HangOrderModel", name := "worked", desc := "(I)I" } : Jvm.MethodName) prog_9_method_16_code (2 : Nat) (Option.some Jvm.ClassFile.FieldType.int)) ∈ gd := gd_tbl (i := 554) (by decide +kernel) (by decide +kernel)
theorem kw_555 : (Jvm.Cond.methodLink "HangOrderLaw" (64 : Nat) ({ cls := "HangOrderModel", name := "found", desc := "()I" } : Jvm.MethodName)) ∈ gd := gd_tbl (i := 555) (by decide +kernel) (by decide +kernel)
theorem kw_556 : (Jvm.Cond.instanceMethod ({ cls := "HangOrderModel", name := "found", desc := "()I" } : Jvm.MethodName)) ∈ gd := gd_tbl (i := 556) (by decide +kernel) (by decide +kernel)
theorem kw_557 : (Jvm.Cond.selects "HangOrderModel" ({ cls := "HangOrderModel", name := "found", desc := "()I" } : Jvm.MethodName) ({ cls := "HangOrderModel", name := "found", desc := "()I" } : Jvm.MethodName)) ∈ gd := gd_tbl (i := 557) (by decide +kernel) (by decide +kernel)
theorem kw_558 : (Jvm.Cond.code ({ cls := "HangOrderModel", name := "found", desc := "()I" } : Jvm.MethodName) prog_9_method_17_code (1 : Nat) (Option.some Jvm.ClassFile.FieldType.int)) ∈ gd := gd_tbl (i := 558) (by decide +kernel) (by decide +kernel)
theorem kw_559 : (Jvm.Cond.methodLink "HangOrderLaw" (69 : Nat) ({ cls := "HangOrderModel", name := "ringed", desc := "(I)Z" } : Jvm.MethodName)) ∈ gd := gd_tbl (i := 559) (by decide +kernel) (by decide +kernel)
theorem kw_560 : (Jvm.Cond.instanceMethod ({ cls := "HangOrderModel", name := "ringed", desc := "(I)Z" } : Jvm.MethodName)) ∈ gd := gd_tbl (i := 560) (by decide +kernel) (by decide +kernel)
theorem kw_561 : (Jvm.Cond.selects "HangOrderModel" ({ cls := "HangOrderModel", name := "ringed", desc := "(I)Z" } : Jvm.MethodName) ({ cls := "HangOrderModel", name := "ringed", desc := "(I)Z" } : Jvm.MethodName)) ∈ gd := gd_tbl (i := 561) (by decide +kernel) (by decide +kernel)
theorem kw_562 : (Jvm.Cond.code ({ cls := "HangOrderModel", name := "ringed", desc := "(I)Z" } : Jvm.MethodName) prog_9_method_18_code (3 : Nat) (Option.some Jvm.ClassFile.FieldType.boolean)) ∈ gd := gd_tbl (i := 562) (by decide +kernel) (by decide +kernel)
theorem kw_563 : (Jvm.Cond.methodLink "HangOrderLaw" (74 : Nat) ({ cls := "HangOrderModel", name := "links", desc := "(II)I" } : Jvm.MethodName)) ∈ gd := gd_tbl (i := 563) (by decide +kernel) (by decide +kernel)
theorem kw_564 : (Jvm.Cond.instanceMethod ({ cls := "HangOrderModel", name := "links", desc := "(II)I" } : Jvm.MethodName)) ∈ gd := gd_tbl (i := 564) (by decide +kernel) (by decide +kernel)
theorem kw_565 : (Jvm.Cond.selects "HangOrderModel" ({ cls := "HangOrderModel", name := "links", desc := "(II)I" } : Jvm.MethodName) ({ cls := "HangOrderModel", name := "links", desc := "(II)I" } : Jvm.MethodName)) ∈ gd := gd_tbl (i := 565) (by decide +kernel) (by decide +kernel)
theorem kw_566 : (Jvm.Cond.code ({ cls := "HangOrderModel", name := "links", desc := "(II)I" } : Jvm.MethodName) prog_9_method_19_code (6 : Nat) (Option.some Jvm.ClassFile.FieldType.int)) ∈ gd := gd_tbl (i := 566) (by decide +kernel) (by decide +kernel)
theorem kw_567 : (Jvm.Cond.methodLink "HangOrderLaw" (78 : Nat) ({ cls := "HangOrderModel", name := "touched", desc := "(I)Z" } : Jvm.MethodName)) ∈ gd := gd_tbl (i := 567) (by decide +kernel) (by decide +kernel)
theorem kw_568 : (Jvm.Cond.instanceMethod ({ cls := "HangOrderModel", name := "touched", desc := "(I)Z" } : Jvm.MethodName)) ∈ gd := gd_tbl (i := 568) (by decide +kernel) (by decide +kernel)
theorem kw_569 : (Jvm.Cond.selects "HangOrderModel" ({ cls := "HangOrderModel", name := "touched", desc := "(I)Z" } : Jvm.MethodName) ({ cls := "HangOrderModel", name := "touched", desc := "(I)Z" } : Jvm.MethodName)) ∈ gd := gd_tbl (i := 569) (by decide +kernel) (by decide +kernel)
theorem kw_570 : (Jvm.Cond.code ({ cls := "HangOrderModel", name := "touched", desc := "(I)Z" } : Jvm.MethodName) prog_9_method_20_code (3 : Nat) (Option.some Jvm.ClassFile.FieldType.boolean)) ∈ gd := gd_tbl (i := 570) (by decide +kernel) (by decide +kernel)
theorem kw_571 : (Jvm.Cond.arrayClass Jvm.ClassFile.FieldType.long) ∈ gd := gd_tbl (i := 571) (by decide +kernel) (by decide +kernel)
theorem kw_572 : (Jvm.Cond.sameMethod "java/lang/Throwable" "java/lang/Throwable" "fillInStackTrace" "(I)Ljava/lang/Throwable;") ∈ gd := gd_tbl (i := 572) (by decide +kernel) (by decide +kernel)
theorem ks_0 : Cond.selects "HangOrder" ⟨"HangOrder", "findTouched", "()V"⟩ ⟨"HangOrder", "findTouched", "()V"⟩ ∈ gd := gd_sel (i := 0) (by decide +kernel) (by decide +kernel)
theorem ks_1 : Cond.selects "HangOrder$Numbers" ⟨"HangOrder$Numbers", "isIndex", "(I)Z"⟩ ⟨"HangOrder$Numbers", "isIndex", "(I)Z"⟩ ∈ gd := gd_sel (i := 1) (by decide +kernel) (by decide +kernel)
theorem ks_2 : Cond.selects "HangOrder" ⟨"HangOrder", "markFound", "(LHangOrder$Node;)V"⟩ ⟨"HangOrder", "markFound", "(LHangOrder$Node;)V"⟩ ∈ gd := gd_sel (i := 2) (by decide +kernel) (by decide +kernel)
theorem ks_3 : Cond.selects "HangOrder" ⟨"HangOrder", "findHanging", "()V"⟩ ⟨"HangOrder", "findHanging", "()V"⟩ ∈ gd := gd_sel (i := 3) (by decide +kernel) (by decide +kernel)
theorem ks_4 : Cond.selects "HangOrder" ⟨"HangOrder", "countWaiting", "()V"⟩ ⟨"HangOrder", "countWaiting", "()V"⟩ ∈ gd := gd_sel (i := 4) (by decide +kernel) (by decide +kernel)
theorem ks_5 : Cond.selects "HangOrder" ⟨"HangOrder", "workOutReady", "()V"⟩ ⟨"HangOrder", "workOutReady", "()V"⟩ ∈ gd := gd_sel (i := 5) (by decide +kernel) (by decide +kernel)
theorem ks_6 : Cond.selects "HangOrder$LeastFirst" ⟨"HangOrder$LeastFirst", "sinkFromTop", "(I)V"⟩ ⟨"HangOrder$LeastFirst", "sinkFromTop", "(I)V"⟩ ∈ gd := gd_sel (i := 6) (by decide +kernel) (by decide +kernel)
theorem ks_7 : Cond.selects "HangOrder$LeastFirst" ⟨"HangOrder$LeastFirst", "lesserBelow", "(I)I"⟩ ⟨"HangOrder$LeastFirst", "lesserBelow", "(I)I"⟩ ∈ gd := gd_sel (i := 7) (by decide +kernel) (by decide +kernel)
theorem ks_8 : Cond.selects "HangOrder" ⟨"HangOrder", "releaseOnce", "(LHangOrder$Node;)V"⟩ ⟨"HangOrder", "releaseOnce", "(LHangOrder$Node;)V"⟩ ∈ gd := gd_sel (i := 8) (by decide +kernel) (by decide +kernel)
theorem ks_9 : Cond.selects "HangOrder" ⟨"HangOrder", "settleRinged", "()V"⟩ ⟨"HangOrder", "settleRinged", "()V"⟩ ∈ gd := gd_sel (i := 9) (by decide +kernel) (by decide +kernel)
theorem ks_10 : Cond.selects "java/lang/Throwable" ⟨"java/lang/Throwable", "fillInStackTrace", "(I)Ljava/lang/Throwable;"⟩ ⟨"java/lang/Throwable", "fillInStackTrace", "(I)Ljava/lang/Throwable;"⟩ ∈ gd := gd_sel (i := 10) (by decide +kernel) (by decide +kernel)
theorem ks_11 : Cond.selects "HangOrder" ⟨"HangOrder", "linkBetween", "(II)LHangOrder$Link;"⟩ ⟨"HangOrder", "linkBetween", "(II)LHangOrder$Link;"⟩ ∈ gd := gd_sel (i := 11) (by decide +kernel) (by decide +kernel)
theorem ks_12 : Cond.selects "HangOrder$Link" ⟨"HangOrder$Link", "joinReader", "()V"⟩ ⟨"HangOrder$Link", "joinReader", "()V"⟩ ∈ gd := gd_sel (i := 12) (by decide +kernel) (by decide +kernel)
theorem ks_13 : Cond.selects "HangOrder$Link" ⟨"HangOrder$Link", "joinSource", "()V"⟩ ⟨"HangOrder$Link", "joinSource", "()V"⟩ ∈ gd := gd_sel (i := 13) (by decide +kernel) (by decide +kernel)
theorem ks_14 : Cond.selects "HangOrder" ⟨"HangOrder", "markTouched", "(LHangOrder$Node;)V"⟩ ⟨"HangOrder", "markTouched", "(LHangOrder$Node;)V"⟩ ∈ gd := gd_sel (i := 14) (by decide +kernel) (by decide +kernel)
theorem ks_15 : Cond.selects "HangOrder$Link" ⟨"HangOrder$Link", "leaveReader", "()V"⟩ ⟨"HangOrder$Link", "leaveReader", "()V"⟩ ∈ gd := gd_sel (i := 15) (by decide +kernel) (by decide +kernel)
theorem ks_16 : Cond.selects "HangOrder$Link" ⟨"HangOrder$Link", "leaveSource", "()V"⟩ ⟨"HangOrder$Link", "leaveSource", "()V"⟩ ∈ gd := gd_sel (i := 16) (by decide +kernel) (by decide +kernel)
theorem ks_17 : Cond.selects "HangOrderModel" ⟨"HangOrderModel", "place", "(I)I"⟩ ⟨"HangOrderModel", "place", "(I)I"⟩ ∈ gd := gd_sel (i := 17) (by decide +kernel) (by decide +kernel)
theorem ks_18 : Cond.selects "HangOrderModel" ⟨"HangOrderModel", "find", "(I)I"⟩ ⟨"HangOrderModel", "find", "(I)I"⟩ ∈ gd := gd_sel (i := 18) (by decide +kernel) (by decide +kernel)
theorem ks_19 : Cond.selects "HangOrderModel" ⟨"HangOrderModel", "linkOf", "(II)I"⟩ ⟨"HangOrderModel", "linkOf", "(II)I"⟩ ∈ gd := gd_sel (i := 19) (by decide +kernel) (by decide +kernel)
theorem ks_20 : Cond.selects "HangOrderModel" ⟨"HangOrderModel", "cut", "(I)V"⟩ ⟨"HangOrderModel", "cut", "(I)V"⟩ ∈ gd := gd_sel (i := 20) (by decide +kernel) (by decide +kernel)
theorem ks_21 : Cond.selects "HangOrderModel" ⟨"HangOrderModel", "spread", "()V"⟩ ⟨"HangOrderModel", "spread", "()V"⟩ ∈ gd := gd_sel (i := 21) (by decide +kernel) (by decide +kernel)
theorem ks_22 : Cond.selects "HangOrderModel" ⟨"HangOrderModel", "findRings", "()V"⟩ ⟨"HangOrderModel", "findRings", "()V"⟩ ∈ gd := gd_sel (i := 22) (by decide +kernel) (by decide +kernel)
theorem ks_23 : Cond.selects "HangOrderModel" ⟨"HangOrderModel", "isReady", "(I)Z"⟩ ⟨"HangOrderModel", "isReady", "(I)Z"⟩ ∈ gd := gd_sel (i := 23) (by decide +kernel) (by decide +kernel)
theorem in_H : ∀ w ∈ u_ws R_H F_H 7, w ∈ gd := by decide +kernel
theorem in_T : ∀ w ∈ u_ws R_T F_T 1, w ∈ gd := by decide +kernel
theorem in_P : ∀ w ∈ u_ws R_P F_P 1, w ∈ gd := by decide +kernel
theorem in_N : ∀ w ∈ u_ws R_N F_N 9, w ∈ gd := by decide +kernel
theorem in_K : ∀ w ∈ u_ws R_K F_K 6, w ∈ gd := by decide +kernel
theorem in_U : ∀ w ∈ u_ws R_U F_U 2, w ∈ gd := by decide +kernel
theorem in_F : ∀ w ∈ u_ws R_F F_F 1, w ∈ gd := by decide +kernel
theorem in_M : ∀ w ∈ u_ws R_M F_M 13, w ∈ gd := by decide +kernel
end
section
theorem d_H_init_0 : decode c_H_init 0 = .ok (.aload_n 0, 1) := by decide +kernel
theorem d_H_init_1 : decode c_H_init 1 = .ok (.invokespecial 1, 3) := by decide +kernel
theorem d_H_init_4 : decode c_H_init 4 = .ok (.aload_n 0, 1) := by decide +kernel
theorem d_H_init_5 : decode c_H_init 5 = .ok (.new 7, 3) := by decide +kernel
theorem d_H_init_8 : decode c_H_init 8 = .ok (.dup, 1) := by decide +kernel
theorem d_H_init_9 : decode c_H_init 9 = .ok (.invokespecial 9, 3) := by decide +kernel
theorem d_H_init_12 : decode c_H_init 12 = .ok (.putfield 10, 3) := by decide +kernel
theorem d_H_init_15 : decode c_H_init 15 = .ok (.aload_n 0, 1) := by decide +kernel
theorem d_H_init_16 : decode c_H_init 16 = .ok (.new 16, 3) := by decide +kernel
theorem d_H_init_19 : decode c_H_init 19 = .ok (.dup, 1) := by decide +kernel
theorem d_H_init_20 : decode c_H_init 20 = .ok (.invokespecial 18, 3) := by decide +kernel
theorem d_H_init_23 : decode c_H_init 23 = .ok (.putfield 19, 3) := by decide +kernel
theorem d_H_init_26 : decode c_H_init 26 = .ok (.aload_n 0, 1) := by decide +kernel
theorem d_H_init_27 : decode c_H_init 27 = .ok (.new 16, 3) := by decide +kernel
theorem d_H_init_30 : decode c_H_init 30 = .ok (.dup, 1) := by decide +kernel
theorem d_H_init_31 : decode c_H_init 31 = .ok (.invokespecial 18, 3) := by decide +kernel
theorem d_H_init_34 : decode c_H_init 34 = .ok (.putfield 23, 3) := by decide +kernel
theorem d_H_init_37 : decode c_H_init 37 = .ok (.aload_n 0, 1) := by decide +kernel
theorem d_H_init_38 : decode c_H_init 38 = .ok (.new 16, 3) := by decide +kernel
theorem d_H_init_41 : decode c_H_init 41 = .ok (.dup, 1) := by decide +kernel
theorem d_H_init_42 : decode c_H_init 42 = .ok (.invokespecial 18, 3) := by decide +kernel
theorem d_H_init_45 : decode c_H_init 45 = .ok (.putfield 26, 3) := by decide +kernel
theorem d_H_init_48 : decode c_H_init 48 = .ok (.aload_n 0, 1) := by decide +kernel
theorem d_H_init_49 : decode c_H_init 49 = .ok (.new 29, 3) := by decide +kernel
theorem d_H_init_52 : decode c_H_init 52 = .ok (.dup, 1) := by decide +kernel
theorem d_H_init_53 : decode c_H_init 53 = .ok (.invokespecial 31, 3) := by decide +kernel
theorem d_H_init_56 : decode c_H_init 56 = .ok (.putfield 32, 3) := by decide +kernel
theorem d_H_init_59 : decode c_H_init 59 = .ok (.return_, 1) := by decide +kernel
theorem d_H_link_0 : decode c_H_link 0 = .ok (.iload_n 1, 1) := by decide +kernel
theorem d_H_link_1 : decode c_H_link 1 = .ok (.invokestatic 36, 3) := by decide +kernel
theorem d_H_link_4 : decode c_H_link 4 = .ok (.iload_n 2, 1) := by decide +kernel
theorem d_H_link_5 : decode c_H_link 5 = .ok (.invokestatic 36, 3) := by decide +kernel
theorem d_H_link_8 : decode c_H_link 8 = .ok (.aload_n 0, 1) := by decide +kernel
theorem d_H_link_9 : decode c_H_link 9 = .ok (.iload_n 1, 1) := by decide +kernel
theorem d_H_link_10 : decode c_H_link 10 = .ok (.iload_n 2, 1) := by decide +kernel
theorem d_H_link_11 : decode c_H_link 11 = .ok (.invokevirtual 40, 3) := by decide +kernel
theorem d_H_link_14 : decode c_H_link 14 = .ok (.ifnull 5, 3) := by decide +kernel
theorem d_H_link_17 : decode c_H_link 17 = .ok (.iconst 0, 1) := by decide +kernel
theorem d_H_link_18 : decode c_H_link 18 = .ok (.ireturn, 1) := by decide +kernel
theorem d_H_link_19 : decode c_H_link 19 = .ok (.aload_n 0, 1) := by decide +kernel
theorem d_H_link_20 : decode c_H_link 20 = .ok (.getfield 44, 3) := by decide +kernel
theorem d_H_link_23 : decode c_H_link 23 = .ok (.ldc 48, 2) := by decide +kernel
theorem d_H_link_25 : decode c_H_link 25 = .ok (.if_icmp .lt 13, 3) := by decide +kernel
theorem d_H_link_28 : decode c_H_link 28 = .ok (.new 49, 3) := by decide +kernel
theorem d_H_link_31 : decode c_H_link 31 = .ok (.dup, 1) := by decide +kernel
theorem d_H_link_32 : decode c_H_link 32 = .ok (.ldc 51, 2) := by decide +kernel
theorem d_H_link_34 : decode c_H_link 34 = .ok (.invokespecial 53, 3) := by decide +kernel
theorem d_H_link_37 : decode c_H_link 37 = .ok (.athrow, 1) := by decide +kernel
theorem d_H_link_38 : decode c_H_link 38 = .ok (.aload_n 0, 1) := by decide +kernel
theorem d_H_link_39 : decode c_H_link 39 = .ok (.getfield 10, 3) := by decide +kernel
theorem d_H_link_42 : decode c_H_link 42 = .ok (.iload_n 1, 1) := by decide +kernel
theorem d_H_link_43 : decode c_H_link 43 = .ok (.invokevirtual 56, 3) := by decide +kernel
theorem d_H_link_46 : decode c_H_link 46 = .ok (.astore_n 3, 1) := by decide +kernel
theorem d_H_link_47 : decode c_H_link 47 = .ok (.new 60, 3) := by decide +kernel
theorem d_H_link_50 : decode c_H_link 50 = .ok (.dup, 1) := by decide +kernel
theorem d_H_link_51 : decode c_H_link 51 = .ok (.aload_n 3, 1) := by decide +kernel
theorem d_H_link_52 : decode c_H_link 52 = .ok (.aload_n 0, 1) := by decide +kernel
theorem d_H_link_53 : decode c_H_link 53 = .ok (.getfield 10, 3) := by decide +kernel
theorem d_H_link_56 : decode c_H_link 56 = .ok (.iload_n 2, 1) := by decide +kernel
theorem d_H_link_57 : decode c_H_link 57 = .ok (.invokevirtual 56, 3) := by decide +kernel
theorem d_H_link_60 : decode c_H_link 60 = .ok (.invokespecial 62, 3) := by decide +kernel
theorem d_H_link_63 : decode c_H_link 63 = .ok (.invokevirtual 65, 3) := by decide +kernel
theorem d_H_link_66 : decode c_H_link 66 = .ok (.aload_n 0, 1) := by decide +kernel
theorem d_H_link_67 : decode c_H_link 67 = .ok (.dup, 1) := by decide +kernel
theorem d_H_link_68 : decode c_H_link 68 = .ok (.getfield 44, 3) := by decide +kernel
theorem d_H_link_71 : decode c_H_link 71 = .ok (.iconst 1, 1) := by decide +kernel
theorem d_H_link_72 : decode c_H_link 72 = .ok (.iadd, 1) := by decide +kernel
theorem d_H_link_73 : decode c_H_link 73 = .ok (.putfield 44, 3) := by decide +kernel
theorem d_H_link_76 : decode c_H_link 76 = .ok (.aload_n 0, 1) := by decide +kernel
theorem d_H_link_77 : decode c_H_link 77 = .ok (.aload_n 3, 1) := by decide +kernel
theorem d_H_link_78 : decode c_H_link 78 = .ok (.invokevirtual 68, 3) := by decide +kernel
theorem d_H_link_81 : decode c_H_link 81 = .ok (.iconst 1, 1) := by decide +kernel
theorem d_H_link_82 : decode c_H_link 82 = .ok (.ireturn, 1) := by decide +kernel
theorem d_H_unlink_0 : decode c_H_unlink 0 = .ok (.iload_n 1, 1) := by decide +kernel
theorem d_H_unlink_1 : decode c_H_unlink 1 = .ok (.invokestatic 36, 3) := by decide +kernel
theorem d_H_unlink_4 : decode c_H_unlink 4 = .ok (.iload_n 2, 1) := by decide +kernel
theorem d_H_unlink_5 : decode c_H_unlink 5 = .ok (.invokestatic 36, 3) := by decide +kernel
theorem d_H_unlink_8 : decode c_H_unlink 8 = .ok (.aload_n 0, 1) := by decide +kernel
theorem d_H_unlink_9 : decode c_H_unlink 9 = .ok (.iload_n 1, 1) := by decide +kernel
theorem d_H_unlink_10 : decode c_H_unlink 10 = .ok (.iload_n 2, 1) := by decide +kernel
theorem d_H_unlink_11 : decode c_H_unlink 11 = .ok (.invokevirtual 40, 3) := by decide +kernel
theorem d_H_unlink_14 : decode c_H_unlink 14 = .ok (.astore_n 3, 1) := by decide +kernel
theorem d_H_unlink_15 : decode c_H_unlink 15 = .ok (.aload_n 3, 1) := by decide +kernel
theorem d_H_unlink_16 : decode c_H_unlink 16 = .ok (.ifnonnull 5, 3) := by decide +kernel
theorem d_H_unlink_19 : decode c_H_unlink 19 = .ok (.iconst 0, 1) := by decide +kernel
theorem d_H_unlink_20 : decode c_H_unlink 20 = .ok (.ireturn, 1) := by decide +kernel
theorem d_H_unlink_21 : decode c_H_unlink 21 = .ok (.aload_n 3, 1) := by decide +kernel
theorem d_H_unlink_22 : decode c_H_unlink 22 = .ok (.invokevirtual 72, 3) := by decide +kernel
theorem d_H_unlink_25 : decode c_H_unlink 25 = .ok (.aload_n 0, 1) := by decide +kernel
theorem d_H_unlink_26 : decode c_H_unlink 26 = .ok (.dup, 1) := by decide +kernel
theorem d_H_unlink_27 : decode c_H_unlink 27 = .ok (.getfield 44, 3) := by decide +kernel
theorem d_H_unlink_30 : decode c_H_unlink 30 = .ok (.iconst 1, 1) := by decide +kernel
theorem d_H_unlink_31 : decode c_H_unlink 31 = .ok (.isub, 1) := by decide +kernel
theorem d_H_unlink_32 : decode c_H_unlink 32 = .ok (.putfield 44, 3) := by decide +kernel
theorem d_H_unlink_35 : decode c_H_unlink 35 = .ok (.aload_n 0, 1) := by decide +kernel
theorem d_H_unlink_36 : decode c_H_unlink 36 = .ok (.aload_n 3, 1) := by decide +kernel
theorem d_H_unlink_37 : decode c_H_unlink 37 = .ok (.getfield 75, 3) := by decide +kernel
theorem d_H_unlink_40 : decode c_H_unlink 40 = .ok (.invokevirtual 68, 3) := by decide +kernel
theorem d_H_unlink_43 : decode c_H_unlink 43 = .ok (.iconst 1, 1) := by decide +kernel
theorem d_H_unlink_44 : decode c_H_unlink 44 = .ok (.ireturn, 1) := by decide +kernel
theorem d_H_clear_0 : decode c_H_clear 0 = .ok (.iload_n 1, 1) := by decide +kernel
theorem d_H_clear_1 : decode c_H_clear 1 = .ok (.invokestatic 36, 3) := by decide +kernel
theorem d_H_clear_4 : decode c_H_clear 4 = .ok (.aload_n 0, 1) := by decide +kernel
theorem d_H_clear_5 : decode c_H_clear 5 = .ok (.getfield 10, 3) := by decide +kernel
theorem d_H_clear_8 : decode c_H_clear 8 = .ok (.iload_n 1, 1) := by decide +kernel
theorem d_H_clear_9 : decode c_H_clear 9 = .ok (.invokevirtual 56, 3) := by decide +kernel
theorem d_H_clear_12 : decode c_H_clear 12 = .ok (.astore_n 2, 1) := by decide +kernel
theorem d_H_clear_13 : decode c_H_clear 13 = .ok (.aload_n 2, 1) := by decide +kernel
theorem d_H_clear_14 : decode c_H_clear 14 = .ok (.getfield 79, 3) := by decide +kernel
theorem d_H_clear_17 : decode c_H_clear 17 = .ok (.istore_n 3, 1) := by decide +kernel
theorem d_H_clear_18 : decode c_H_clear 18 = .ok (.aload_n 2, 1) := by decide +kernel
theorem d_H_clear_19 : decode c_H_clear 19 = .ok (.getfield 84, 3) := by decide +kernel
theorem d_H_clear_22 : decode c_H_clear 22 = .ok (.astore 4, 2) := by decide +kernel
theorem d_H_clear_24 : decode c_H_clear 24 = .ok (.aload 4, 2) := by decide +kernel
theorem d_H_clear_26 : decode c_H_clear 26 = .ok (.ifnull 22, 3) := by decide +kernel
theorem d_H_clear_29 : decode c_H_clear 29 = .ok (.aload 4, 2) := by decide +kernel
theorem d_H_clear_31 : decode c_H_clear 31 = .ok (.getfield 88, 3) := by decide +kernel
theorem d_H_clear_34 : decode c_H_clear 34 = .ok (.astore 5, 2) := by decide +kernel
theorem d_H_clear_36 : decode c_H_clear 36 = .ok (.aload 4, 2) := by decide +kernel
theorem d_H_clear_38 : decode c_H_clear 38 = .ok (.invokevirtual 72, 3) := by decide +kernel
theorem d_H_clear_41 : decode c_H_clear 41 = .ok (.aload 5, 2) := by decide +kernel
theorem d_H_clear_43 : decode c_H_clear 43 = .ok (.astore 4, 2) := by decide +kernel
theorem d_H_clear_45 : decode c_H_clear 45 = .ok (.goto (-21), 3) := by decide +kernel
theorem d_H_clear_48 : decode c_H_clear 48 = .ok (.aload_n 0, 1) := by decide +kernel
theorem d_H_clear_49 : decode c_H_clear 49 = .ok (.dup, 1) := by decide +kernel
theorem d_H_clear_50 : decode c_H_clear 50 = .ok (.getfield 44, 3) := by decide +kernel
theorem d_H_clear_53 : decode c_H_clear 53 = .ok (.iload_n 3, 1) := by decide +kernel
theorem d_H_clear_54 : decode c_H_clear 54 = .ok (.isub, 1) := by decide +kernel
theorem d_H_clear_55 : decode c_H_clear 55 = .ok (.putfield 44, 3) := by decide +kernel
theorem d_H_clear_58 : decode c_H_clear 58 = .ok (.aload_n 0, 1) := by decide +kernel
theorem d_H_clear_59 : decode c_H_clear 59 = .ok (.aload_n 2, 1) := by decide +kernel
theorem d_H_clear_60 : decode c_H_clear 60 = .ok (.invokevirtual 68, 3) := by decide +kernel
theorem d_H_clear_63 : decode c_H_clear 63 = .ok (.iload_n 3, 1) := by decide +kernel
theorem d_H_clear_64 : decode c_H_clear 64 = .ok (.ireturn, 1) := by decide +kernel
theorem d_H_touch_0 : decode c_H_touch 0 = .ok (.iload_n 1, 1) := by decide +kernel
theorem d_H_touch_1 : decode c_H_touch 1 = .ok (.invokestatic 36, 3) := by decide +kernel
theorem d_H_touch_4 : decode c_H_touch 4 = .ok (.aload_n 0, 1) := by decide +kernel
theorem d_H_touch_5 : decode c_H_touch 5 = .ok (.aload_n 0, 1) := by decide +kernel
theorem d_H_touch_6 : decode c_H_touch 6 = .ok (.getfield 10, 3) := by decide +kernel
theorem d_H_touch_9 : decode c_H_touch 9 = .ok (.iload_n 1, 1) := by decide +kernel
theorem d_H_touch_10 : decode c_H_touch 10 = .ok (.invokevirtual 56, 3) := by decide +kernel
theorem d_H_touch_13 : decode c_H_touch 13 = .ok (.invokevirtual 68, 3) := by decide +kernel
theorem d_H_touch_16 : decode c_H_touch 16 = .ok (.return_, 1) := by decide +kernel
theorem d_H_work_0 : decode c_H_work 0 = .ok (.aload_n 0, 1) := by decide +kernel
theorem d_H_work_1 : decode c_H_work 1 = .ok (.getfield 23, 3) := by decide +kernel
theorem d_H_work_4 : decode c_H_work 4 = .ok (.invokevirtual 91, 3) := by decide +kernel
theorem d_H_work_7 : decode c_H_work 7 = .ok (.aload_n 0, 1) := by decide +kernel
theorem d_H_work_8 : decode c_H_work 8 = .ok (.getfield 26, 3) := by decide +kernel
theorem d_H_work_11 : decode c_H_work 11 = .ok (.invokevirtual 91, 3) := by decide +kernel
theorem d_H_work_14 : decode c_H_work 14 = .ok (.aload_n 0, 1) := by decide +kernel
theorem d_H_work_15 : decode c_H_work 15 = .ok (.invokevirtual 94, 3) := by decide +kernel
theorem d_H_work_18 : decode c_H_work 18 = .ok (.aload_n 0, 1) := by decide +kernel
theorem d_H_work_19 : decode c_H_work 19 = .ok (.invokevirtual 97, 3) := by decide +kernel
theorem d_H_work_22 : decode c_H_work 22 = .ok (.aload_n 0, 1) := by decide +kernel
theorem d_H_work_23 : decode c_H_work 23 = .ok (.invokevirtual 100, 3) := by decide +kernel
theorem d_H_work_26 : decode c_H_work 26 = .ok (.aload_n 0, 1) := by decide +kernel
theorem d_H_work_27 : decode c_H_work 27 = .ok (.invokevirtual 103, 3) := by decide +kernel
theorem d_H_work_30 : decode c_H_work 30 = .ok (.aload_n 0, 1) := by decide +kernel
theorem d_H_work_31 : decode c_H_work 31 = .ok (.invokevirtual 106, 3) := by decide +kernel
theorem d_H_work_34 : decode c_H_work 34 = .ok (.aload_n 0, 1) := by decide +kernel
theorem d_H_work_35 : decode c_H_work 35 = .ok (.getfield 26, 3) := by decide +kernel
theorem d_H_work_38 : decode c_H_work 38 = .ok (.getfield 109, 3) := by decide +kernel
theorem d_H_work_41 : decode c_H_work 41 = .ok (.ireturn, 1) := by decide +kernel
theorem d_H_worked_0 : decode c_H_worked 0 = .ok (.aload_n 0, 1) := by decide +kernel
theorem d_H_worked_1 : decode c_H_worked 1 = .ok (.getfield 26, 3) := by decide +kernel
theorem d_H_worked_4 : decode c_H_worked 4 = .ok (.iload_n 1, 1) := by decide +kernel
theorem d_H_worked_5 : decode c_H_worked 5 = .ok (.invokevirtual 112, 3) := by decide +kernel
theorem d_H_worked_8 : decode c_H_worked 8 = .ok (.ireturn, 1) := by decide +kernel
theorem d_H_found_0 : decode c_H_found 0 = .ok (.aload_n 0, 1) := by decide +kernel
theorem d_H_found_1 : decode c_H_found 1 = .ok (.getfield 116, 3) := by decide +kernel
theorem d_H_found_4 : decode c_H_found 4 = .ok (.ireturn, 1) := by decide +kernel
theorem d_H_ringed_0 : decode c_H_ringed 0 = .ok (.aload_n 0, 1) := by decide +kernel
theorem d_H_ringed_1 : decode c_H_ringed 1 = .ok (.getfield 10, 3) := by decide +kernel
theorem d_H_ringed_4 : decode c_H_ringed 4 = .ok (.iload_n 1, 1) := by decide +kernel
theorem d_H_ringed_5 : decode c_H_ringed 5 = .ok (.invokevirtual 119, 3) := by decide +kernel
theorem d_H_ringed_8 : decode c_H_ringed 8 = .ok (.astore_n 2, 1) := by decide +kernel
theorem d_H_ringed_9 : decode c_H_ringed 9 = .ok (.aload_n 2, 1) := by decide +kernel
theorem d_H_ringed_10 : decode c_H_ringed 10 = .ok (.ifnull 14, 3) := by decide +kernel
theorem d_H_ringed_13 : decode c_H_ringed 13 = .ok (.aload_n 2, 1) := by decide +kernel
theorem d_H_ringed_14 : decode c_H_ringed 14 = .ok (.getfield 121, 3) := by decide +kernel
theorem d_H_ringed_17 : decode c_H_ringed 17 = .ok (.ifCond .eq 7, 3) := by decide +kernel
theorem d_H_ringed_20 : decode c_H_ringed 20 = .ok (.iconst 1, 1) := by decide +kernel
theorem d_H_ringed_21 : decode c_H_ringed 21 = .ok (.goto 4, 3) := by decide +kernel
theorem d_H_ringed_24 : decode c_H_ringed 24 = .ok (.iconst 0, 1) := by decide +kernel
theorem d_H_ringed_25 : decode c_H_ringed 25 = .ok (.ireturn, 1) := by decide +kernel
theorem d_H_links_0 : decode c_H_links 0 = .ok (.iload_n 1, 1) := by decide +kernel
theorem d_H_links_1 : decode c_H_links 1 = .ok (.invokestatic 125, 3) := by decide +kernel
theorem d_H_links_4 : decode c_H_links 4 = .ok (.ifCond .eq 12, 3) := by decide +kernel
theorem d_H_links_7 : decode c_H_links 7 = .ok (.iload_n 2, 1) := by decide +kernel
theorem d_H_links_8 : decode c_H_links 8 = .ok (.ifCond .eq 10, 3) := by decide +kernel
theorem d_H_links_11 : decode c_H_links 11 = .ok (.iload_n 2, 1) := by decide +kernel
theorem d_H_links_12 : decode c_H_links 12 = .ok (.iconst 1, 1) := by decide +kernel
theorem d_H_links_13 : decode c_H_links 13 = .ok (.if_icmp .eq 5, 3) := by decide +kernel
theorem d_H_links_16 : decode c_H_links 16 = .ok (.iconst (-1), 1) := by decide +kernel
theorem d_H_links_17 : decode c_H_links 17 = .ok (.ireturn, 1) := by decide +kernel
theorem d_H_links_18 : decode c_H_links 18 = .ok (.aload_n 0, 1) := by decide +kernel
theorem d_H_links_19 : decode c_H_links 19 = .ok (.getfield 10, 3) := by decide +kernel
theorem d_H_links_22 : decode c_H_links 22 = .ok (.iload_n 1, 1) := by decide +kernel
theorem d_H_links_23 : decode c_H_links 23 = .ok (.invokevirtual 119, 3) := by decide +kernel
theorem d_H_links_26 : decode c_H_links 26 = .ok (.astore_n 3, 1) := by decide +kernel
theorem d_H_links_27 : decode c_H_links 27 = .ok (.aload_n 3, 1) := by decide +kernel
theorem d_H_links_28 : decode c_H_links 28 = .ok (.ifnonnull 5, 3) := by decide +kernel
theorem d_H_links_31 : decode c_H_links 31 = .ok (.iconst 0, 1) := by decide +kernel
theorem d_H_links_32 : decode c_H_links 32 = .ok (.ireturn, 1) := by decide +kernel
theorem d_H_links_33 : decode c_H_links 33 = .ok (.iload_n 2, 1) := by decide +kernel
theorem d_H_links_34 : decode c_H_links 34 = .ok (.ifCond .ne 10, 3) := by decide +kernel
theorem d_H_links_37 : decode c_H_links 37 = .ok (.aload_n 3, 1) := by decide +kernel
theorem d_H_links_38 : decode c_H_links 38 = .ok (.getfield 129, 3) := by decide +kernel
theorem d_H_links_41 : decode c_H_links 41 = .ok (.goto 7, 3) := by decide +kernel
theorem d_H_links_44 : decode c_H_links 44 = .ok (.aload_n 3, 1) := by decide +kernel
theorem d_H_links_45 : decode c_H_links 45 = .ok (.getfield 79, 3) := by decide +kernel
theorem d_H_links_48 : decode c_H_links 48 = .ok (.ireturn, 1) := by decide +kernel
theorem d_H_touched_0 : decode c_H_touched 0 = .ok (.aload_n 0, 1) := by decide +kernel
theorem d_H_touched_1 : decode c_H_touched 1 = .ok (.getfield 10, 3) := by decide +kernel
theorem d_H_touched_4 : decode c_H_touched 4 = .ok (.iload_n 1, 1) := by decide +kernel
theorem d_H_touched_5 : decode c_H_touched 5 = .ok (.invokevirtual 119, 3) := by decide +kernel
theorem d_H_touched_8 : decode c_H_touched 8 = .ok (.astore_n 2, 1) := by decide +kernel
theorem d_H_touched_9 : decode c_H_touched 9 = .ok (.aload_n 2, 1) := by decide +kernel
theorem d_H_touched_10 : decode c_H_touched 10 = .ok (.ifnull 14, 3) := by decide +kernel
theorem d_H_touched_13 : decode c_H_touched 13 = .ok (.aload_n 2, 1) := by decide +kernel
theorem d_H_touched_14 : decode c_H_touched 14 = .ok (.getfield 132, 3) := by decide +kernel
theorem d_H_touched_17 : decode c_H_touched 17 = .ok (.ifCond .eq 7, 3) := by decide +kernel
theorem d_H_touched_20 : decode c_H_touched 20 = .ok (.iconst 1, 1) := by decide +kernel
theorem d_H_touched_21 : decode c_H_touched 21 = .ok (.goto 4, 3) := by decide +kernel
theorem d_H_touched_24 : decode c_H_touched 24 = .ok (.iconst 0, 1) := by decide +kernel
theorem d_H_touched_25 : decode c_H_touched 25 = .ok (.ireturn, 1) := by decide +kernel
theorem d_H_isNode_0 : decode c_H_isNode 0 = .ok (.iload_n 0, 1) := by decide +kernel
theorem d_H_isNode_1 : decode c_H_isNode 1 = .ok (.ifCond .lt 14, 3) := by decide +kernel
theorem d_H_isNode_4 : decode c_H_isNode 4 = .ok (.iload_n 0, 1) := by decide +kernel
theorem d_H_isNode_5 : decode c_H_isNode 5 = .ok (.sipush 16384, 3) := by decide +kernel
theorem d_H_isNode_8 : decode c_H_isNode 8 = .ok (.if_icmp .ge 7, 3) := by decide +kernel
theorem d_H_isNode_11 : decode c_H_isNode 11 = .ok (.iconst 1, 1) := by decide +kernel
theorem d_H_isNode_12 : decode c_H_isNode 12 = .ok (.goto 4, 3) := by decide +kernel
theorem d_H_isNode_15 : decode c_H_isNode 15 = .ok (.iconst 0, 1) := by decide +kernel
theorem d_H_isNode_16 : decode c_H_isNode 16 = .ok (.ireturn, 1) := by decide +kernel
theorem d_H_requireNode_0 : decode c_H_requireNode 0 = .ok (.iload_n 0, 1) := by decide +kernel
theorem d_H_requireNode_1 : decode c_H_requireNode 1 = .ok (.invokestatic 125, 3) := by decide +kernel
theorem d_H_requireNode_4 : decode c_H_requireNode 4 = .ok (.ifCond .ne 13, 3) := by decide +kernel
theorem d_H_requireNode_7 : decode c_H_requireNode 7 = .ok (.new 135, 3) := by decide +kernel
theorem d_H_requireNode_10 : decode c_H_requireNode 10 = .ok (.dup, 1) := by decide +kernel
theorem d_H_requireNode_11 : decode c_H_requireNode 11 = .ok (.ldc 137, 2) := by decide +kernel
theorem d_H_requireNode_13 : decode c_H_requireNode 13 = .ok (.invokespecial 139, 3) := by decide +kernel
theorem d_H_requireNode_16 : decode c_H_requireNode 16 = .ok (.athrow, 1) := by decide +kernel
theorem d_H_requireNode_17 : decode c_H_requireNode 17 = .ok (.return_, 1) := by decide +kernel
theorem d_H_linkBetween_0 : decode c_H_linkBetween 0 = .ok (.aload_n 0, 1) := by decide +kernel
theorem d_H_linkBetween_1 : decode c_H_linkBetween 1 = .ok (.getfield 10, 3) := by decide +kernel
theorem d_H_linkBetween_4 : decode c_H_linkBetween 4 = .ok (.iload_n 1, 1) := by decide +kernel
theorem d_H_linkBetween_5 : decode c_H_linkBetween 5 = .ok (.invokevirtual 119, 3) := by decide +kernel
theorem d_H_linkBetween_8 : decode c_H_linkBetween 8 = .ok (.astore_n 3, 1) := by decide +kernel
theorem d_H_linkBetween_9 : decode c_H_linkBetween 9 = .ok (.aload_n 3, 1) := by decide +kernel
theorem d_H_linkBetween_10 : decode c_H_linkBetween 10 = .ok (.ifnonnull 5, 3) := by decide +kernel
theorem d_H_linkBetween_13 : decode c_H_linkBetween 13 = .ok (.aconst_null, 1) := by decide +kernel
theorem d_H_linkBetween_14 : decode c_H_linkBetween 14 = .ok (.areturn, 1) := by decide +kernel
theorem d_H_linkBetween_15 : decode c_H_linkBetween 15 = .ok (.aload_n 3, 1) := by decide +kernel
theorem d_H_linkBetween_16 : decode c_H_linkBetween 16 = .ok (.getfield 84, 3) := by decide +kernel
theorem d_H_linkBetween_19 : decode c_H_linkBetween 19 = .ok (.astore 4, 2) := by decide +kernel
theorem d_H_linkBetween_21 : decode c_H_linkBetween 21 = .ok (.aload 4, 2) := by decide +kernel
theorem d_H_linkBetween_23 : decode c_H_linkBetween 23 = .ok (.ifnull 25, 3) := by decide +kernel
theorem d_H_linkBetween_26 : decode c_H_linkBetween 26 = .ok (.aload 4, 2) := by decide +kernel
theorem d_H_linkBetween_28 : decode c_H_linkBetween 28 = .ok (.getfield 140, 3) := by decide +kernel
theorem d_H_linkBetween_31 : decode c_H_linkBetween 31 = .ok (.getfield 143, 3) := by decide +kernel
theorem d_H_linkBetween_34 : decode c_H_linkBetween 34 = .ok (.iload_n 2, 1) := by decide +kernel
theorem d_H_linkBetween_35 : decode c_H_linkBetween 35 = .ok (.if_icmp .eq 13, 3) := by decide +kernel
theorem d_H_linkBetween_38 : decode c_H_linkBetween 38 = .ok (.aload 4, 2) := by decide +kernel
theorem d_H_linkBetween_40 : decode c_H_linkBetween 40 = .ok (.getfield 88, 3) := by decide +kernel
theorem d_H_linkBetween_43 : decode c_H_linkBetween 43 = .ok (.astore 4, 2) := by decide +kernel
theorem d_H_linkBetween_45 : decode c_H_linkBetween 45 = .ok (.goto (-24), 3) := by decide +kernel
theorem d_H_linkBetween_48 : decode c_H_linkBetween 48 = .ok (.aload 4, 2) := by decide +kernel
theorem d_H_linkBetween_50 : decode c_H_linkBetween 50 = .ok (.areturn, 1) := by decide +kernel
theorem d_H_markTouched_0 : decode c_H_markTouched 0 = .ok (.aload_n 1, 1) := by decide +kernel
theorem d_H_markTouched_1 : decode c_H_markTouched 1 = .ok (.getfield 132, 3) := by decide +kernel
theorem d_H_markTouched_4 : decode c_H_markTouched 4 = .ok (.ifCond .ne 19, 3) := by decide +kernel
theorem d_H_markTouched_7 : decode c_H_markTouched 7 = .ok (.aload_n 1, 1) := by decide +kernel
theorem d_H_markTouched_8 : decode c_H_markTouched 8 = .ok (.iconst 1, 1) := by decide +kernel
theorem d_H_markTouched_9 : decode c_H_markTouched 9 = .ok (.putfield 132, 3) := by decide +kernel
theorem d_H_markTouched_12 : decode c_H_markTouched 12 = .ok (.aload_n 0, 1) := by decide +kernel
theorem d_H_markTouched_13 : decode c_H_markTouched 13 = .ok (.getfield 19, 3) := by decide +kernel
theorem d_H_markTouched_16 : decode c_H_markTouched 16 = .ok (.aload_n 1, 1) := by decide +kernel
theorem d_H_markTouched_17 : decode c_H_markTouched 17 = .ok (.getfield 143, 3) := by decide +kernel
theorem d_H_markTouched_20 : decode c_H_markTouched 20 = .ok (.invokevirtual 146, 3) := by decide +kernel
theorem d_H_markTouched_23 : decode c_H_markTouched 23 = .ok (.return_, 1) := by decide +kernel
theorem d_H_markFound_0 : decode c_H_markFound 0 = .ok (.aload_n 1, 1) := by decide +kernel
theorem d_H_markFound_1 : decode c_H_markFound 1 = .ok (.getfield 149, 3) := by decide +kernel
theorem d_H_markFound_4 : decode c_H_markFound 4 = .ok (.ifCond .ne 19, 3) := by decide +kernel
theorem d_H_markFound_7 : decode c_H_markFound 7 = .ok (.aload_n 1, 1) := by decide +kernel
theorem d_H_markFound_8 : decode c_H_markFound 8 = .ok (.iconst 1, 1) := by decide +kernel
theorem d_H_markFound_9 : decode c_H_markFound 9 = .ok (.putfield 149, 3) := by decide +kernel
theorem d_H_markFound_12 : decode c_H_markFound 12 = .ok (.aload_n 0, 1) := by decide +kernel
theorem d_H_markFound_13 : decode c_H_markFound 13 = .ok (.getfield 23, 3) := by decide +kernel
theorem d_H_markFound_16 : decode c_H_markFound 16 = .ok (.aload_n 1, 1) := by decide +kernel
theorem d_H_markFound_17 : decode c_H_markFound 17 = .ok (.getfield 143, 3) := by decide +kernel
theorem d_H_markFound_20 : decode c_H_markFound 20 = .ok (.invokevirtual 146, 3) := by decide +kernel
theorem d_H_markFound_23 : decode c_H_markFound 23 = .ok (.return_, 1) := by decide +kernel
theorem d_H_findTouched_0 : decode c_H_findTouched 0 = .ok (.iconst 0, 1) := by decide +kernel
theorem d_H_findTouched_1 : decode c_H_findTouched 1 = .ok (.istore_n 1, 1) := by decide +kernel
theorem d_H_findTouched_2 : decode c_H_findTouched 2 = .ok (.iload_n 1, 1) := by decide +kernel
theorem d_H_findTouched_3 : decode c_H_findTouched 3 = .ok (.aload_n 0, 1) := by decide +kernel
theorem d_H_findTouched_4 : decode c_H_findTouched 4 = .ok (.getfield 19, 3) := by decide +kernel
theorem d_H_findTouched_7 : decode c_H_findTouched 7 = .ok (.getfield 109, 3) := by decide +kernel
theorem d_H_findTouched_10 : decode c_H_findTouched 10 = .ok (.if_icmp .ge 35, 3) := by decide +kernel
theorem d_H_findTouched_13 : decode c_H_findTouched 13 = .ok (.aload_n 0, 1) := by decide +kernel
theorem d_H_findTouched_14 : decode c_H_findTouched 14 = .ok (.getfield 10, 3) := by decide +kernel
theorem d_H_findTouched_17 : decode c_H_findTouched 17 = .ok (.aload_n 0, 1) := by decide +kernel
theorem d_H_findTouched_18 : decode c_H_findTouched 18 = .ok (.getfield 19, 3) := by decide +kernel
theorem d_H_findTouched_21 : decode c_H_findTouched 21 = .ok (.iload_n 1, 1) := by decide +kernel
theorem d_H_findTouched_22 : decode c_H_findTouched 22 = .ok (.invokevirtual 112, 3) := by decide +kernel
theorem d_H_findTouched_25 : decode c_H_findTouched 25 = .ok (.invokevirtual 56, 3) := by decide +kernel
theorem d_H_findTouched_28 : decode c_H_findTouched 28 = .ok (.astore_n 2, 1) := by decide +kernel
theorem d_H_findTouched_29 : decode c_H_findTouched 29 = .ok (.aload_n 2, 1) := by decide +kernel
theorem d_H_findTouched_30 : decode c_H_findTouched 30 = .ok (.iconst 0, 1) := by decide +kernel
theorem d_H_findTouched_31 : decode c_H_findTouched 31 = .ok (.putfield 132, 3) := by decide +kernel
theorem d_H_findTouched_34 : decode c_H_findTouched 34 = .ok (.aload_n 0, 1) := by decide +kernel
theorem d_H_findTouched_35 : decode c_H_findTouched 35 = .ok (.aload_n 2, 1) := by decide +kernel
theorem d_H_findTouched_36 : decode c_H_findTouched 36 = .ok (.invokevirtual 152, 3) := by decide +kernel
theorem d_H_findTouched_39 : decode c_H_findTouched 39 = .ok (.iinc 1 1, 3) := by decide +kernel
theorem d_H_findTouched_42 : decode c_H_findTouched 42 = .ok (.goto (-40), 3) := by decide +kernel
theorem d_H_findTouched_45 : decode c_H_findTouched 45 = .ok (.aload_n 0, 1) := by decide +kernel
theorem d_H_findTouched_46 : decode c_H_findTouched 46 = .ok (.getfield 19, 3) := by decide +kernel
theorem d_H_findTouched_49 : decode c_H_findTouched 49 = .ok (.invokevirtual 91, 3) := by decide +kernel
theorem d_H_findTouched_52 : decode c_H_findTouched 52 = .ok (.return_, 1) := by decide +kernel
end
section
theorem d_H_findHanging_0 : decode c_H_findHanging 0 = .ok (.iconst 0, 1) := by decide +kernel
theorem d_H_findHanging_1 : decode c_H_findHanging 1 = .ok (.istore_n 1, 1) := by decide +kernel
theorem d_H_findHanging_2 : decode c_H_findHanging 2 = .ok (.iload_n 1, 1) := by decide +kernel
theorem d_H_findHanging_3 : decode c_H_findHanging 3 = .ok (.sipush 16384, 3) := by decide +kernel
theorem d_H_findHanging_6 : decode c_H_findHanging 6 = .ok (.if_icmp .ge 61, 3) := by decide +kernel
theorem d_H_findHanging_9 : decode c_H_findHanging 9 = .ok (.iload_n 1, 1) := by decide +kernel
theorem d_H_findHanging_10 : decode c_H_findHanging 10 = .ok (.aload_n 0, 1) := by decide +kernel
theorem d_H_findHanging_11 : decode c_H_findHanging 11 = .ok (.getfield 23, 3) := by decide +kernel
theorem d_H_findHanging_14 : decode c_H_findHanging 14 = .ok (.getfield 109, 3) := by decide +kernel
theorem d_H_findHanging_17 : decode c_H_findHanging 17 = .ok (.if_icmp .ge 50, 3) := by decide +kernel
theorem d_H_findHanging_20 : decode c_H_findHanging 20 = .ok (.aload_n 0, 1) := by decide +kernel
theorem d_H_findHanging_21 : decode c_H_findHanging 21 = .ok (.getfield 10, 3) := by decide +kernel
theorem d_H_findHanging_24 : decode c_H_findHanging 24 = .ok (.aload_n 0, 1) := by decide +kernel
theorem d_H_findHanging_25 : decode c_H_findHanging 25 = .ok (.getfield 23, 3) := by decide +kernel
theorem d_H_findHanging_28 : decode c_H_findHanging 28 = .ok (.iload_n 1, 1) := by decide +kernel
theorem d_H_findHanging_29 : decode c_H_findHanging 29 = .ok (.invokevirtual 112, 3) := by decide +kernel
theorem d_H_findHanging_32 : decode c_H_findHanging 32 = .ok (.invokevirtual 56, 3) := by decide +kernel
theorem d_H_findHanging_35 : decode c_H_findHanging 35 = .ok (.astore_n 2, 1) := by decide +kernel
theorem d_H_findHanging_36 : decode c_H_findHanging 36 = .ok (.aload_n 2, 1) := by decide +kernel
theorem d_H_findHanging_37 : decode c_H_findHanging 37 = .ok (.getfield 155, 3) := by decide +kernel
theorem d_H_findHanging_40 : decode c_H_findHanging 40 = .ok (.astore_n 3, 1) := by decide +kernel
theorem d_H_findHanging_41 : decode c_H_findHanging 41 = .ok (.aload_n 3, 1) := by decide +kernel
theorem d_H_findHanging_42 : decode c_H_findHanging 42 = .ok (.ifnull 19, 3) := by decide +kernel
theorem d_H_findHanging_45 : decode c_H_findHanging 45 = .ok (.aload_n 0, 1) := by decide +kernel
theorem d_H_findHanging_46 : decode c_H_findHanging 46 = .ok (.aload_n 3, 1) := by decide +kernel
theorem d_H_findHanging_47 : decode c_H_findHanging 47 = .ok (.getfield 75, 3) := by decide +kernel
theorem d_H_findHanging_50 : decode c_H_findHanging 50 = .ok (.invokevirtual 152, 3) := by decide +kernel
theorem d_H_findHanging_53 : decode c_H_findHanging 53 = .ok (.aload_n 3, 1) := by decide +kernel
theorem d_H_findHanging_54 : decode c_H_findHanging 54 = .ok (.getfield 158, 3) := by decide +kernel
theorem d_H_findHanging_57 : decode c_H_findHanging 57 = .ok (.astore_n 3, 1) := by decide +kernel
theorem d_H_findHanging_58 : decode c_H_findHanging 58 = .ok (.goto (-17), 3) := by decide +kernel
theorem d_H_findHanging_61 : decode c_H_findHanging 61 = .ok (.iinc 1 1, 3) := by decide +kernel
theorem d_H_findHanging_64 : decode c_H_findHanging 64 = .ok (.goto (-62), 3) := by decide +kernel
theorem d_H_findHanging_67 : decode c_H_findHanging 67 = .ok (.return_, 1) := by decide +kernel
theorem d_H_countWaiting_0 : decode c_H_countWaiting 0 = .ok (.iconst 0, 1) := by decide +kernel
theorem d_H_countWaiting_1 : decode c_H_countWaiting 1 = .ok (.istore_n 1, 1) := by decide +kernel
theorem d_H_countWaiting_2 : decode c_H_countWaiting 2 = .ok (.iload_n 1, 1) := by decide +kernel
theorem d_H_countWaiting_3 : decode c_H_countWaiting 3 = .ok (.aload_n 0, 1) := by decide +kernel
theorem d_H_countWaiting_4 : decode c_H_countWaiting 4 = .ok (.getfield 23, 3) := by decide +kernel
theorem d_H_countWaiting_7 : decode c_H_countWaiting 7 = .ok (.getfield 109, 3) := by decide +kernel
theorem d_H_countWaiting_10 : decode c_H_countWaiting 10 = .ok (.if_icmp .ge 51, 3) := by decide +kernel
theorem d_H_countWaiting_13 : decode c_H_countWaiting 13 = .ok (.aload_n 0, 1) := by decide +kernel
theorem d_H_countWaiting_14 : decode c_H_countWaiting 14 = .ok (.getfield 10, 3) := by decide +kernel
theorem d_H_countWaiting_17 : decode c_H_countWaiting 17 = .ok (.aload_n 0, 1) := by decide +kernel
theorem d_H_countWaiting_18 : decode c_H_countWaiting 18 = .ok (.getfield 23, 3) := by decide +kernel
theorem d_H_countWaiting_21 : decode c_H_countWaiting 21 = .ok (.iload_n 1, 1) := by decide +kernel
theorem d_H_countWaiting_22 : decode c_H_countWaiting 22 = .ok (.invokevirtual 112, 3) := by decide +kernel
theorem d_H_countWaiting_25 : decode c_H_countWaiting 25 = .ok (.invokevirtual 56, 3) := by decide +kernel
theorem d_H_countWaiting_28 : decode c_H_countWaiting 28 = .ok (.astore_n 2, 1) := by decide +kernel
theorem d_H_countWaiting_29 : decode c_H_countWaiting 29 = .ok (.aload_n 2, 1) := by decide +kernel
theorem d_H_countWaiting_30 : decode c_H_countWaiting 30 = .ok (.aload_n 2, 1) := by decide +kernel
theorem d_H_countWaiting_31 : decode c_H_countWaiting 31 = .ok (.invokestatic 161, 3) := by decide +kernel
theorem d_H_countWaiting_34 : decode c_H_countWaiting 34 = .ok (.putfield 165, 3) := by decide +kernel
theorem d_H_countWaiting_37 : decode c_H_countWaiting 37 = .ok (.aload_n 2, 1) := by decide +kernel
theorem d_H_countWaiting_38 : decode c_H_countWaiting 38 = .ok (.getfield 165, 3) := by decide +kernel
theorem d_H_countWaiting_41 : decode c_H_countWaiting 41 = .ok (.ifCond .ne 14, 3) := by decide +kernel
theorem d_H_countWaiting_44 : decode c_H_countWaiting 44 = .ok (.aload_n 0, 1) := by decide +kernel
theorem d_H_countWaiting_45 : decode c_H_countWaiting 45 = .ok (.getfield 32, 3) := by decide +kernel
theorem d_H_countWaiting_48 : decode c_H_countWaiting 48 = .ok (.aload_n 2, 1) := by decide +kernel
theorem d_H_countWaiting_49 : decode c_H_countWaiting 49 = .ok (.getfield 143, 3) := by decide +kernel
theorem d_H_countWaiting_52 : decode c_H_countWaiting 52 = .ok (.invokevirtual 168, 3) := by decide +kernel
theorem d_H_countWaiting_55 : decode c_H_countWaiting 55 = .ok (.iinc 1 1, 3) := by decide +kernel
theorem d_H_countWaiting_58 : decode c_H_countWaiting 58 = .ok (.goto (-56), 3) := by decide +kernel
theorem d_H_countWaiting_61 : decode c_H_countWaiting 61 = .ok (.return_, 1) := by decide +kernel
theorem d_H_readsToWaitFor_0 : decode c_H_readsToWaitFor 0 = .ok (.iconst 0, 1) := by decide +kernel
theorem d_H_readsToWaitFor_1 : decode c_H_readsToWaitFor 1 = .ok (.istore_n 1, 1) := by decide +kernel
theorem d_H_readsToWaitFor_2 : decode c_H_readsToWaitFor 2 = .ok (.aload_n 0, 1) := by decide +kernel
theorem d_H_readsToWaitFor_3 : decode c_H_readsToWaitFor 3 = .ok (.getfield 84, 3) := by decide +kernel
theorem d_H_readsToWaitFor_6 : decode c_H_readsToWaitFor 6 = .ok (.astore_n 2, 1) := by decide +kernel
theorem d_H_readsToWaitFor_7 : decode c_H_readsToWaitFor 7 = .ok (.aload_n 2, 1) := by decide +kernel
theorem d_H_readsToWaitFor_8 : decode c_H_readsToWaitFor 8 = .ok (.ifnull 34, 3) := by decide +kernel
theorem d_H_readsToWaitFor_11 : decode c_H_readsToWaitFor 11 = .ok (.aload_n 2, 1) := by decide +kernel
theorem d_H_readsToWaitFor_12 : decode c_H_readsToWaitFor 12 = .ok (.getfield 140, 3) := by decide +kernel
theorem d_H_readsToWaitFor_15 : decode c_H_readsToWaitFor 15 = .ok (.getfield 149, 3) := by decide +kernel
theorem d_H_readsToWaitFor_18 : decode c_H_readsToWaitFor 18 = .ok (.ifCond .ne 13, 3) := by decide +kernel
theorem d_H_readsToWaitFor_21 : decode c_H_readsToWaitFor 21 = .ok (.aload_n 2, 1) := by decide +kernel
theorem d_H_readsToWaitFor_22 : decode c_H_readsToWaitFor 22 = .ok (.getfield 140, 3) := by decide +kernel
theorem d_H_readsToWaitFor_25 : decode c_H_readsToWaitFor 25 = .ok (.getfield 121, 3) := by decide +kernel
theorem d_H_readsToWaitFor_28 : decode c_H_readsToWaitFor 28 = .ok (.ifCond .eq 6, 3) := by decide +kernel
theorem d_H_readsToWaitFor_31 : decode c_H_readsToWaitFor 31 = .ok (.iinc 1 1, 3) := by decide +kernel
theorem d_H_readsToWaitFor_34 : decode c_H_readsToWaitFor 34 = .ok (.aload_n 2, 1) := by decide +kernel
theorem d_H_readsToWaitFor_35 : decode c_H_readsToWaitFor 35 = .ok (.getfield 88, 3) := by decide +kernel
theorem d_H_readsToWaitFor_38 : decode c_H_readsToWaitFor 38 = .ok (.astore_n 2, 1) := by decide +kernel
theorem d_H_readsToWaitFor_39 : decode c_H_readsToWaitFor 39 = .ok (.goto (-32), 3) := by decide +kernel
theorem d_H_readsToWaitFor_42 : decode c_H_readsToWaitFor 42 = .ok (.iload_n 1, 1) := by decide +kernel
theorem d_H_readsToWaitFor_43 : decode c_H_readsToWaitFor 43 = .ok (.ireturn, 1) := by decide +kernel
theorem d_H_workOutReady_0 : decode c_H_workOutReady 0 = .ok (.iconst 0, 1) := by decide +kernel
theorem d_H_workOutReady_1 : decode c_H_workOutReady 1 = .ok (.istore_n 1, 1) := by decide +kernel
theorem d_H_workOutReady_2 : decode c_H_workOutReady 2 = .ok (.iload_n 1, 1) := by decide +kernel
theorem d_H_workOutReady_3 : decode c_H_workOutReady 3 = .ok (.aload_n 0, 1) := by decide +kernel
theorem d_H_workOutReady_4 : decode c_H_workOutReady 4 = .ok (.getfield 23, 3) := by decide +kernel
theorem d_H_workOutReady_7 : decode c_H_workOutReady 7 = .ok (.getfield 109, 3) := by decide +kernel
theorem d_H_workOutReady_10 : decode c_H_workOutReady 10 = .ok (.if_icmp .ge 70, 3) := by decide +kernel
theorem d_H_workOutReady_13 : decode c_H_workOutReady 13 = .ok (.aload_n 0, 1) := by decide +kernel
theorem d_H_workOutReady_14 : decode c_H_workOutReady 14 = .ok (.getfield 32, 3) := by decide +kernel
theorem d_H_workOutReady_17 : decode c_H_workOutReady 17 = .ok (.invokevirtual 171, 3) := by decide +kernel
theorem d_H_workOutReady_20 : decode c_H_workOutReady 20 = .ok (.ifCond .ne 60, 3) := by decide +kernel
theorem d_H_workOutReady_23 : decode c_H_workOutReady 23 = .ok (.aload_n 0, 1) := by decide +kernel
theorem d_H_workOutReady_24 : decode c_H_workOutReady 24 = .ok (.getfield 10, 3) := by decide +kernel
theorem d_H_workOutReady_27 : decode c_H_workOutReady 27 = .ok (.aload_n 0, 1) := by decide +kernel
theorem d_H_workOutReady_28 : decode c_H_workOutReady 28 = .ok (.getfield 32, 3) := by decide +kernel
theorem d_H_workOutReady_31 : decode c_H_workOutReady 31 = .ok (.invokevirtual 175, 3) := by decide +kernel
theorem d_H_workOutReady_34 : decode c_H_workOutReady 34 = .ok (.invokevirtual 56, 3) := by decide +kernel
theorem d_H_workOutReady_37 : decode c_H_workOutReady 37 = .ok (.astore_n 2, 1) := by decide +kernel
theorem d_H_workOutReady_38 : decode c_H_workOutReady 38 = .ok (.aload_n 0, 1) := by decide +kernel
theorem d_H_workOutReady_39 : decode c_H_workOutReady 39 = .ok (.getfield 26, 3) := by decide +kernel
theorem d_H_workOutReady_42 : decode c_H_workOutReady 42 = .ok (.aload_n 2, 1) := by decide +kernel
theorem d_H_workOutReady_43 : decode c_H_workOutReady 43 = .ok (.getfield 143, 3) := by decide +kernel
theorem d_H_workOutReady_46 : decode c_H_workOutReady 46 = .ok (.invokevirtual 146, 3) := by decide +kernel
theorem d_H_workOutReady_49 : decode c_H_workOutReady 49 = .ok (.aload_n 2, 1) := by decide +kernel
theorem d_H_workOutReady_50 : decode c_H_workOutReady 50 = .ok (.getfield 155, 3) := by decide +kernel
theorem d_H_workOutReady_53 : decode c_H_workOutReady 53 = .ok (.astore_n 3, 1) := by decide +kernel
theorem d_H_workOutReady_54 : decode c_H_workOutReady 54 = .ok (.aload_n 3, 1) := by decide +kernel
theorem d_H_workOutReady_55 : decode c_H_workOutReady 55 = .ok (.ifnull 19, 3) := by decide +kernel
theorem d_H_workOutReady_58 : decode c_H_workOutReady 58 = .ok (.aload_n 0, 1) := by decide +kernel
theorem d_H_workOutReady_59 : decode c_H_workOutReady 59 = .ok (.aload_n 3, 1) := by decide +kernel
theorem d_H_workOutReady_60 : decode c_H_workOutReady 60 = .ok (.getfield 75, 3) := by decide +kernel
theorem d_H_workOutReady_63 : decode c_H_workOutReady 63 = .ok (.invokevirtual 179, 3) := by decide +kernel
theorem d_H_workOutReady_66 : decode c_H_workOutReady 66 = .ok (.aload_n 3, 1) := by decide +kernel
theorem d_H_workOutReady_67 : decode c_H_workOutReady 67 = .ok (.getfield 158, 3) := by decide +kernel
theorem d_H_workOutReady_70 : decode c_H_workOutReady 70 = .ok (.astore_n 3, 1) := by decide +kernel
theorem d_H_workOutReady_71 : decode c_H_workOutReady 71 = .ok (.goto (-17), 3) := by decide +kernel
theorem d_H_workOutReady_74 : decode c_H_workOutReady 74 = .ok (.iinc 1 1, 3) := by decide +kernel
theorem d_H_workOutReady_77 : decode c_H_workOutReady 77 = .ok (.goto (-75), 3) := by decide +kernel
theorem d_H_workOutReady_80 : decode c_H_workOutReady 80 = .ok (.return_, 1) := by decide +kernel
theorem d_H_releaseOnce_0 : decode c_H_releaseOnce 0 = .ok (.aload_n 1, 1) := by decide +kernel
theorem d_H_releaseOnce_1 : decode c_H_releaseOnce 1 = .ok (.dup, 1) := by decide +kernel
theorem d_H_releaseOnce_2 : decode c_H_releaseOnce 2 = .ok (.getfield 165, 3) := by decide +kernel
theorem d_H_releaseOnce_5 : decode c_H_releaseOnce 5 = .ok (.iconst 1, 1) := by decide +kernel
theorem d_H_releaseOnce_6 : decode c_H_releaseOnce 6 = .ok (.isub, 1) := by decide +kernel
theorem d_H_releaseOnce_7 : decode c_H_releaseOnce 7 = .ok (.putfield 165, 3) := by decide +kernel
theorem d_H_releaseOnce_10 : decode c_H_releaseOnce 10 = .ok (.aload_n 1, 1) := by decide +kernel
theorem d_H_releaseOnce_11 : decode c_H_releaseOnce 11 = .ok (.getfield 165, 3) := by decide +kernel
theorem d_H_releaseOnce_14 : decode c_H_releaseOnce 14 = .ok (.ifCond .ne 14, 3) := by decide +kernel
theorem d_H_releaseOnce_17 : decode c_H_releaseOnce 17 = .ok (.aload_n 0, 1) := by decide +kernel
theorem d_H_releaseOnce_18 : decode c_H_releaseOnce 18 = .ok (.getfield 32, 3) := by decide +kernel
theorem d_H_releaseOnce_21 : decode c_H_releaseOnce 21 = .ok (.aload_n 1, 1) := by decide +kernel
theorem d_H_releaseOnce_22 : decode c_H_releaseOnce 22 = .ok (.getfield 143, 3) := by decide +kernel
theorem d_H_releaseOnce_25 : decode c_H_releaseOnce 25 = .ok (.invokevirtual 168, 3) := by decide +kernel
theorem d_H_releaseOnce_28 : decode c_H_releaseOnce 28 = .ok (.return_, 1) := by decide +kernel
theorem d_H_settleRinged_0 : decode c_H_settleRinged 0 = .ok (.iconst 0, 1) := by decide +kernel
theorem d_H_settleRinged_1 : decode c_H_settleRinged 1 = .ok (.istore_n 1, 1) := by decide +kernel
theorem d_H_settleRinged_2 : decode c_H_settleRinged 2 = .ok (.iload_n 1, 1) := by decide +kernel
theorem d_H_settleRinged_3 : decode c_H_settleRinged 3 = .ok (.aload_n 0, 1) := by decide +kernel
theorem d_H_settleRinged_4 : decode c_H_settleRinged 4 = .ok (.getfield 23, 3) := by decide +kernel
theorem d_H_settleRinged_7 : decode c_H_settleRinged 7 = .ok (.getfield 109, 3) := by decide +kernel
theorem d_H_settleRinged_10 : decode c_H_settleRinged 10 = .ok (.if_icmp .ge 46, 3) := by decide +kernel
theorem d_H_settleRinged_13 : decode c_H_settleRinged 13 = .ok (.aload_n 0, 1) := by decide +kernel
theorem d_H_settleRinged_14 : decode c_H_settleRinged 14 = .ok (.getfield 10, 3) := by decide +kernel
theorem d_H_settleRinged_17 : decode c_H_settleRinged 17 = .ok (.aload_n 0, 1) := by decide +kernel
theorem d_H_settleRinged_18 : decode c_H_settleRinged 18 = .ok (.getfield 23, 3) := by decide +kernel
theorem d_H_settleRinged_21 : decode c_H_settleRinged 21 = .ok (.iload_n 1, 1) := by decide +kernel
theorem d_H_settleRinged_22 : decode c_H_settleRinged 22 = .ok (.invokevirtual 112, 3) := by decide +kernel
theorem d_H_settleRinged_25 : decode c_H_settleRinged 25 = .ok (.invokevirtual 56, 3) := by decide +kernel
theorem d_H_settleRinged_28 : decode c_H_settleRinged 28 = .ok (.astore_n 2, 1) := by decide +kernel
theorem d_H_settleRinged_29 : decode c_H_settleRinged 29 = .ok (.aload_n 2, 1) := by decide +kernel
theorem d_H_settleRinged_30 : decode c_H_settleRinged 30 = .ok (.iconst 0, 1) := by decide +kernel
theorem d_H_settleRinged_31 : decode c_H_settleRinged 31 = .ok (.putfield 149, 3) := by decide +kernel
theorem d_H_settleRinged_34 : decode c_H_settleRinged 34 = .ok (.aload_n 2, 1) := by decide +kernel
theorem d_H_settleRinged_35 : decode c_H_settleRinged 35 = .ok (.aload_n 2, 1) := by decide +kernel
theorem d_H_settleRinged_36 : decode c_H_settleRinged 36 = .ok (.getfield 165, 3) := by decide +kernel
theorem d_H_settleRinged_39 : decode c_H_settleRinged 39 = .ok (.ifCond .le 7, 3) := by decide +kernel
theorem d_H_settleRinged_42 : decode c_H_settleRinged 42 = .ok (.iconst 1, 1) := by decide +kernel
theorem d_H_settleRinged_43 : decode c_H_settleRinged 43 = .ok (.goto 4, 3) := by decide +kernel
theorem d_H_settleRinged_46 : decode c_H_settleRinged 46 = .ok (.iconst 0, 1) := by decide +kernel
theorem d_H_settleRinged_47 : decode c_H_settleRinged 47 = .ok (.putfield 121, 3) := by decide +kernel
theorem d_H_settleRinged_50 : decode c_H_settleRinged 50 = .ok (.iinc 1 1, 3) := by decide +kernel
theorem d_H_settleRinged_53 : decode c_H_settleRinged 53 = .ok (.goto (-51), 3) := by decide +kernel
theorem d_H_settleRinged_56 : decode c_H_settleRinged 56 = .ok (.aload_n 0, 1) := by decide +kernel
theorem d_H_settleRinged_57 : decode c_H_settleRinged 57 = .ok (.aload_n 0, 1) := by decide +kernel
theorem d_H_settleRinged_58 : decode c_H_settleRinged 58 = .ok (.getfield 23, 3) := by decide +kernel
theorem d_H_settleRinged_61 : decode c_H_settleRinged 61 = .ok (.getfield 109, 3) := by decide +kernel
theorem d_H_settleRinged_64 : decode c_H_settleRinged 64 = .ok (.aload_n 0, 1) := by decide +kernel
theorem d_H_settleRinged_65 : decode c_H_settleRinged 65 = .ok (.getfield 26, 3) := by decide +kernel
theorem d_H_settleRinged_68 : decode c_H_settleRinged 68 = .ok (.getfield 109, 3) := by decide +kernel
theorem d_H_settleRinged_71 : decode c_H_settleRinged 71 = .ok (.isub, 1) := by decide +kernel
theorem d_H_settleRinged_72 : decode c_H_settleRinged 72 = .ok (.putfield 116, 3) := by decide +kernel
theorem d_H_settleRinged_75 : decode c_H_settleRinged 75 = .ok (.return_, 1) := by decide +kernel
theorem d_M_init_0 : decode c_M_init 0 = .ok (.aload_n 0, 1) := by decide +kernel
theorem d_M_init_1 : decode c_M_init 1 = .ok (.invokespecial 1, 3) := by decide +kernel
theorem d_M_init_4 : decode c_M_init 4 = .ok (.aload_n 0, 1) := by decide +kernel
theorem d_M_init_5 : decode c_M_init 5 = .ok (.sipush 4096, 3) := by decide +kernel
theorem d_M_init_8 : decode c_M_init 8 = .ok (.newarray .int, 2) := by decide +kernel
theorem d_M_init_10 : decode c_M_init 10 = .ok (.putfield 7, 3) := by decide +kernel
theorem d_M_init_13 : decode c_M_init 13 = .ok (.aload_n 0, 1) := by decide +kernel
theorem d_M_init_14 : decode c_M_init 14 = .ok (.sipush 4096, 3) := by decide +kernel
theorem d_M_init_17 : decode c_M_init 17 = .ok (.newarray .int, 2) := by decide +kernel
theorem d_M_init_19 : decode c_M_init 19 = .ok (.putfield 13, 3) := by decide +kernel
theorem d_M_init_22 : decode c_M_init 22 = .ok (.aload_n 0, 1) := by decide +kernel
theorem d_M_init_23 : decode c_M_init 23 = .ok (.sipush 8192, 3) := by decide +kernel
theorem d_M_init_26 : decode c_M_init 26 = .ok (.newarray .int, 2) := by decide +kernel
theorem d_M_init_28 : decode c_M_init 28 = .ok (.putfield 16, 3) := by decide +kernel
theorem d_M_init_31 : decode c_M_init 31 = .ok (.aload_n 0, 1) := by decide +kernel
theorem d_M_init_32 : decode c_M_init 32 = .ok (.sipush 8192, 3) := by decide +kernel
theorem d_M_init_35 : decode c_M_init 35 = .ok (.newarray .boolean, 2) := by decide +kernel
theorem d_M_init_37 : decode c_M_init 37 = .ok (.putfield 19, 3) := by decide +kernel
theorem d_M_init_40 : decode c_M_init 40 = .ok (.aload_n 0, 1) := by decide +kernel
theorem d_M_init_41 : decode c_M_init 41 = .ok (.sipush 8192, 3) := by decide +kernel
theorem d_M_init_44 : decode c_M_init 44 = .ok (.newarray .boolean, 2) := by decide +kernel
theorem d_M_init_46 : decode c_M_init 46 = .ok (.putfield 23, 3) := by decide +kernel
theorem d_M_init_49 : decode c_M_init 49 = .ok (.aload_n 0, 1) := by decide +kernel
theorem d_M_init_50 : decode c_M_init 50 = .ok (.sipush 8192, 3) := by decide +kernel
theorem d_M_init_53 : decode c_M_init 53 = .ok (.newarray .boolean, 2) := by decide +kernel
theorem d_M_init_55 : decode c_M_init 55 = .ok (.putfield 26, 3) := by decide +kernel
theorem d_M_init_58 : decode c_M_init 58 = .ok (.aload_n 0, 1) := by decide +kernel
theorem d_M_init_59 : decode c_M_init 59 = .ok (.sipush 8192, 3) := by decide +kernel
theorem d_M_init_62 : decode c_M_init 62 = .ok (.newarray .boolean, 2) := by decide +kernel
theorem d_M_init_64 : decode c_M_init 64 = .ok (.putfield 29, 3) := by decide +kernel
theorem d_M_init_67 : decode c_M_init 67 = .ok (.aload_n 0, 1) := by decide +kernel
theorem d_M_init_68 : decode c_M_init 68 = .ok (.sipush 8192, 3) := by decide +kernel
theorem d_M_init_71 : decode c_M_init 71 = .ok (.newarray .int, 2) := by decide +kernel
theorem d_M_init_73 : decode c_M_init 73 = .ok (.putfield 32, 3) := by decide +kernel
theorem d_M_init_76 : decode c_M_init 76 = .ok (.return_, 1) := by decide +kernel
theorem d_M_thrown_0 : decode c_M_thrown 0 = .ok (.aload_n 0, 1) := by decide +kernel
theorem d_M_thrown_1 : decode c_M_thrown 1 = .ok (.getfield 35, 3) := by decide +kernel
theorem d_M_thrown_4 : decode c_M_thrown 4 = .ok (.ireturn, 1) := by decide +kernel
theorem d_M_isNode_0 : decode c_M_isNode 0 = .ok (.iload_n 0, 1) := by decide +kernel
theorem d_M_isNode_1 : decode c_M_isNode 1 = .ok (.ifCond .lt 14, 3) := by decide +kernel
theorem d_M_isNode_4 : decode c_M_isNode 4 = .ok (.iload_n 0, 1) := by decide +kernel
theorem d_M_isNode_5 : decode c_M_isNode 5 = .ok (.sipush 16384, 3) := by decide +kernel
theorem d_M_isNode_8 : decode c_M_isNode 8 = .ok (.if_icmp .ge 7, 3) := by decide +kernel
theorem d_M_isNode_11 : decode c_M_isNode 11 = .ok (.iconst 1, 1) := by decide +kernel
theorem d_M_isNode_12 : decode c_M_isNode 12 = .ok (.goto 4, 3) := by decide +kernel
theorem d_M_isNode_15 : decode c_M_isNode 15 = .ok (.iconst 0, 1) := by decide +kernel
theorem d_M_isNode_16 : decode c_M_isNode 16 = .ok (.ireturn, 1) := by decide +kernel
theorem d_M_find_0 : decode c_M_find 0 = .ok (.iconst 0, 1) := by decide +kernel
theorem d_M_find_1 : decode c_M_find 1 = .ok (.istore_n 2, 1) := by decide +kernel
theorem d_M_find_2 : decode c_M_find 2 = .ok (.iload_n 2, 1) := by decide +kernel
theorem d_M_find_3 : decode c_M_find 3 = .ok (.aload_n 0, 1) := by decide +kernel
theorem d_M_find_4 : decode c_M_find 4 = .ok (.getfield 39, 3) := by decide +kernel
theorem d_M_find_7 : decode c_M_find 7 = .ok (.if_icmp .ge 19, 3) := by decide +kernel
theorem d_M_find_10 : decode c_M_find 10 = .ok (.aload_n 0, 1) := by decide +kernel
theorem d_M_find_11 : decode c_M_find 11 = .ok (.getfield 16, 3) := by decide +kernel
theorem d_M_find_14 : decode c_M_find 14 = .ok (.iload_n 2, 1) := by decide +kernel
theorem d_M_find_15 : decode c_M_find 15 = .ok (.iaload, 1) := by decide +kernel
theorem d_M_find_16 : decode c_M_find 16 = .ok (.iload_n 1, 1) := by decide +kernel
theorem d_M_find_17 : decode c_M_find 17 = .ok (.if_icmp .eq 9, 3) := by decide +kernel
theorem d_M_find_20 : decode c_M_find 20 = .ok (.iinc 2 1, 3) := by decide +kernel
theorem d_M_find_23 : decode c_M_find 23 = .ok (.goto (-21), 3) := by decide +kernel
theorem d_M_find_26 : decode c_M_find 26 = .ok (.iload_n 2, 1) := by decide +kernel
theorem d_M_find_27 : decode c_M_find 27 = .ok (.aload_n 0, 1) := by decide +kernel
theorem d_M_find_28 : decode c_M_find 28 = .ok (.getfield 39, 3) := by decide +kernel
theorem d_M_find_31 : decode c_M_find 31 = .ok (.if_icmp .ge 7, 3) := by decide +kernel
theorem d_M_find_34 : decode c_M_find 34 = .ok (.iload_n 2, 1) := by decide +kernel
theorem d_M_find_35 : decode c_M_find 35 = .ok (.goto 4, 3) := by decide +kernel
theorem d_M_find_38 : decode c_M_find 38 = .ok (.iconst (-1), 1) := by decide +kernel
theorem d_M_find_39 : decode c_M_find 39 = .ok (.ireturn, 1) := by decide +kernel
theorem d_M_place_0 : decode c_M_place 0 = .ok (.aload_n 0, 1) := by decide +kernel
theorem d_M_place_1 : decode c_M_place 1 = .ok (.iload_n 1, 1) := by decide +kernel
theorem d_M_place_2 : decode c_M_place 2 = .ok (.invokevirtual 42, 3) := by decide +kernel
theorem d_M_place_5 : decode c_M_place 5 = .ok (.istore_n 2, 1) := by decide +kernel
theorem d_M_place_6 : decode c_M_place 6 = .ok (.iload_n 2, 1) := by decide +kernel
theorem d_M_place_7 : decode c_M_place 7 = .ok (.ifCond .lt 5, 3) := by decide +kernel
theorem d_M_place_10 : decode c_M_place 10 = .ok (.iload_n 2, 1) := by decide +kernel
theorem d_M_place_11 : decode c_M_place 11 = .ok (.ireturn, 1) := by decide +kernel
theorem d_M_place_12 : decode c_M_place 12 = .ok (.aload_n 0, 1) := by decide +kernel
theorem d_M_place_13 : decode c_M_place 13 = .ok (.getfield 16, 3) := by decide +kernel
theorem d_M_place_16 : decode c_M_place 16 = .ok (.aload_n 0, 1) := by decide +kernel
theorem d_M_place_17 : decode c_M_place 17 = .ok (.getfield 39, 3) := by decide +kernel
theorem d_M_place_20 : decode c_M_place 20 = .ok (.iload_n 1, 1) := by decide +kernel
theorem d_M_place_21 : decode c_M_place 21 = .ok (.iastore, 1) := by decide +kernel
theorem d_M_place_22 : decode c_M_place 22 = .ok (.aload_n 0, 1) := by decide +kernel
theorem d_M_place_23 : decode c_M_place 23 = .ok (.dup, 1) := by decide +kernel
theorem d_M_place_24 : decode c_M_place 24 = .ok (.getfield 39, 3) := by decide +kernel
theorem d_M_place_27 : decode c_M_place 27 = .ok (.iconst 1, 1) := by decide +kernel
theorem d_M_place_28 : decode c_M_place 28 = .ok (.iadd, 1) := by decide +kernel
theorem d_M_place_29 : decode c_M_place 29 = .ok (.putfield 39, 3) := by decide +kernel
theorem d_M_place_32 : decode c_M_place 32 = .ok (.aload_n 0, 1) := by decide +kernel
theorem d_M_place_33 : decode c_M_place 33 = .ok (.getfield 39, 3) := by decide +kernel
theorem d_M_place_36 : decode c_M_place 36 = .ok (.iconst 1, 1) := by decide +kernel
theorem d_M_place_37 : decode c_M_place 37 = .ok (.isub, 1) := by decide +kernel
theorem d_M_place_38 : decode c_M_place 38 = .ok (.ireturn, 1) := by decide +kernel
theorem d_M_linkOf_0 : decode c_M_linkOf 0 = .ok (.iconst 0, 1) := by decide +kernel
theorem d_M_linkOf_1 : decode c_M_linkOf 1 = .ok (.istore_n 3, 1) := by decide +kernel
theorem d_M_linkOf_2 : decode c_M_linkOf 2 = .ok (.iload_n 3, 1) := by decide +kernel
theorem d_M_linkOf_3 : decode c_M_linkOf 3 = .ok (.aload_n 0, 1) := by decide +kernel
theorem d_M_linkOf_4 : decode c_M_linkOf 4 = .ok (.getfield 46, 3) := by decide +kernel
theorem d_M_linkOf_7 : decode c_M_linkOf 7 = .ok (.if_icmp .ge 29, 3) := by decide +kernel
theorem d_M_linkOf_10 : decode c_M_linkOf 10 = .ok (.aload_n 0, 1) := by decide +kernel
theorem d_M_linkOf_11 : decode c_M_linkOf 11 = .ok (.getfield 7, 3) := by decide +kernel
theorem d_M_linkOf_14 : decode c_M_linkOf 14 = .ok (.iload_n 3, 1) := by decide +kernel
theorem d_M_linkOf_15 : decode c_M_linkOf 15 = .ok (.iaload, 1) := by decide +kernel
theorem d_M_linkOf_16 : decode c_M_linkOf 16 = .ok (.iload_n 1, 1) := by decide +kernel
theorem d_M_linkOf_17 : decode c_M_linkOf 17 = .ok (.if_icmp .ne 13, 3) := by decide +kernel
theorem d_M_linkOf_20 : decode c_M_linkOf 20 = .ok (.aload_n 0, 1) := by decide +kernel
theorem d_M_linkOf_21 : decode c_M_linkOf 21 = .ok (.getfield 13, 3) := by decide +kernel
theorem d_M_linkOf_24 : decode c_M_linkOf 24 = .ok (.iload_n 3, 1) := by decide +kernel
theorem d_M_linkOf_25 : decode c_M_linkOf 25 = .ok (.iaload, 1) := by decide +kernel
theorem d_M_linkOf_26 : decode c_M_linkOf 26 = .ok (.iload_n 2, 1) := by decide +kernel
theorem d_M_linkOf_27 : decode c_M_linkOf 27 = .ok (.if_icmp .eq 9, 3) := by decide +kernel
theorem d_M_linkOf_30 : decode c_M_linkOf 30 = .ok (.iinc 3 1, 3) := by decide +kernel
theorem d_M_linkOf_33 : decode c_M_linkOf 33 = .ok (.goto (-31), 3) := by decide +kernel
theorem d_M_linkOf_36 : decode c_M_linkOf 36 = .ok (.iload_n 3, 1) := by decide +kernel
theorem d_M_linkOf_37 : decode c_M_linkOf 37 = .ok (.aload_n 0, 1) := by decide +kernel
theorem d_M_linkOf_38 : decode c_M_linkOf 38 = .ok (.getfield 46, 3) := by decide +kernel
theorem d_M_linkOf_41 : decode c_M_linkOf 41 = .ok (.if_icmp .ge 7, 3) := by decide +kernel
theorem d_M_linkOf_44 : decode c_M_linkOf 44 = .ok (.iload_n 3, 1) := by decide +kernel
theorem d_M_linkOf_45 : decode c_M_linkOf 45 = .ok (.goto 4, 3) := by decide +kernel
theorem d_M_linkOf_48 : decode c_M_linkOf 48 = .ok (.iconst (-1), 1) := by decide +kernel
theorem d_M_linkOf_49 : decode c_M_linkOf 49 = .ok (.ireturn, 1) := by decide +kernel
end
section
theorem d_M_cut_0 : decode c_M_cut 0 = .ok (.iload_n 1, 1) := by decide +kernel
theorem d_M_cut_1 : decode c_M_cut 1 = .ok (.istore_n 2, 1) := by decide +kernel
theorem d_M_cut_2 : decode c_M_cut 2 = .ok (.iload_n 2, 1) := by decide +kernel
theorem d_M_cut_3 : decode c_M_cut 3 = .ok (.iconst 1, 1) := by decide +kernel
theorem d_M_cut_4 : decode c_M_cut 4 = .ok (.iadd, 1) := by decide +kernel
theorem d_M_cut_5 : decode c_M_cut 5 = .ok (.aload_n 0, 1) := by decide +kernel
theorem d_M_cut_6 : decode c_M_cut 6 = .ok (.getfield 46, 3) := by decide +kernel
theorem d_M_cut_9 : decode c_M_cut 9 = .ok (.if_icmp .ge 37, 3) := by decide +kernel
theorem d_M_cut_12 : decode c_M_cut 12 = .ok (.aload_n 0, 1) := by decide +kernel
theorem d_M_cut_13 : decode c_M_cut 13 = .ok (.getfield 7, 3) := by decide +kernel
theorem d_M_cut_16 : decode c_M_cut 16 = .ok (.iload_n 2, 1) := by decide +kernel
theorem d_M_cut_17 : decode c_M_cut 17 = .ok (.aload_n 0, 1) := by decide +kernel
theorem d_M_cut_18 : decode c_M_cut 18 = .ok (.getfield 7, 3) := by decide +kernel
theorem d_M_cut_21 : decode c_M_cut 21 = .ok (.iload_n 2, 1) := by decide +kernel
theorem d_M_cut_22 : decode c_M_cut 22 = .ok (.iconst 1, 1) := by decide +kernel
theorem d_M_cut_23 : decode c_M_cut 23 = .ok (.iadd, 1) := by decide +kernel
theorem d_M_cut_24 : decode c_M_cut 24 = .ok (.iaload, 1) := by decide +kernel
theorem d_M_cut_25 : decode c_M_cut 25 = .ok (.iastore, 1) := by decide +kernel
theorem d_M_cut_26 : decode c_M_cut 26 = .ok (.aload_n 0, 1) := by decide +kernel
theorem d_M_cut_27 : decode c_M_cut 27 = .ok (.getfield 13, 3) := by decide +kernel
theorem d_M_cut_30 : decode c_M_cut 30 = .ok (.iload_n 2, 1) := by decide +kernel
theorem d_M_cut_31 : decode c_M_cut 31 = .ok (.aload_n 0, 1) := by decide +kernel
theorem d_M_cut_32 : decode c_M_cut 32 = .ok (.getfield 13, 3) := by decide +kernel
theorem d_M_cut_35 : decode c_M_cut 35 = .ok (.iload_n 2, 1) := by decide +kernel
theorem d_M_cut_36 : decode c_M_cut 36 = .ok (.iconst 1, 1) := by decide +kernel
theorem d_M_cut_37 : decode c_M_cut 37 = .ok (.iadd, 1) := by decide +kernel
theorem d_M_cut_38 : decode c_M_cut 38 = .ok (.iaload, 1) := by decide +kernel
theorem d_M_cut_39 : decode c_M_cut 39 = .ok (.iastore, 1) := by decide +kernel
theorem d_M_cut_40 : decode c_M_cut 40 = .ok (.iinc 2 1, 3) := by decide +kernel
theorem d_M_cut_43 : decode c_M_cut 43 = .ok (.goto (-41), 3) := by decide +kernel
theorem d_M_cut_46 : decode c_M_cut 46 = .ok (.aload_n 0, 1) := by decide +kernel
theorem d_M_cut_47 : decode c_M_cut 47 = .ok (.dup, 1) := by decide +kernel
theorem d_M_cut_48 : decode c_M_cut 48 = .ok (.getfield 46, 3) := by decide +kernel
theorem d_M_cut_51 : decode c_M_cut 51 = .ok (.iconst 1, 1) := by decide +kernel
theorem d_M_cut_52 : decode c_M_cut 52 = .ok (.isub, 1) := by decide +kernel
theorem d_M_cut_53 : decode c_M_cut 53 = .ok (.putfield 46, 3) := by decide +kernel
theorem d_M_cut_56 : decode c_M_cut 56 = .ok (.return_, 1) := by decide +kernel
theorem d_M_link_0 : decode c_M_link 0 = .ok (.aload_n 0, 1) := by decide +kernel
theorem d_M_link_1 : decode c_M_link 1 = .ok (.iload_n 1, 1) := by decide +kernel
theorem d_M_link_2 : decode c_M_link 2 = .ok (.invokestatic 49, 3) := by decide +kernel
theorem d_M_link_5 : decode c_M_link 5 = .ok (.ifCond .eq 14, 3) := by decide +kernel
theorem d_M_link_8 : decode c_M_link 8 = .ok (.iload_n 2, 1) := by decide +kernel
theorem d_M_link_9 : decode c_M_link 9 = .ok (.invokestatic 49, 3) := by decide +kernel
theorem d_M_link_12 : decode c_M_link 12 = .ok (.ifCond .eq 7, 3) := by decide +kernel
theorem d_M_link_15 : decode c_M_link 15 = .ok (.iconst 0, 1) := by decide +kernel
theorem d_M_link_16 : decode c_M_link 16 = .ok (.goto 4, 3) := by decide +kernel
theorem d_M_link_19 : decode c_M_link 19 = .ok (.iconst 1, 1) := by decide +kernel
theorem d_M_link_20 : decode c_M_link 20 = .ok (.putfield 35, 3) := by decide +kernel
theorem d_M_link_23 : decode c_M_link 23 = .ok (.aload_n 0, 1) := by decide +kernel
theorem d_M_link_24 : decode c_M_link 24 = .ok (.getfield 35, 3) := by decide +kernel
theorem d_M_link_27 : decode c_M_link 27 = .ok (.ifCond .eq 5, 3) := by decide +kernel
theorem d_M_link_30 : decode c_M_link 30 = .ok (.iconst 0, 1) := by decide +kernel
theorem d_M_link_31 : decode c_M_link 31 = .ok (.ireturn, 1) := by decide +kernel
theorem d_M_link_32 : decode c_M_link 32 = .ok (.aload_n 0, 1) := by decide +kernel
theorem d_M_link_33 : decode c_M_link 33 = .ok (.iload_n 1, 1) := by decide +kernel
theorem d_M_link_34 : decode c_M_link 34 = .ok (.invokevirtual 53, 3) := by decide +kernel
theorem d_M_link_37 : decode c_M_link 37 = .ok (.istore_n 3, 1) := by decide +kernel
theorem d_M_link_38 : decode c_M_link 38 = .ok (.aload_n 0, 1) := by decide +kernel
theorem d_M_link_39 : decode c_M_link 39 = .ok (.iload_n 2, 1) := by decide +kernel
theorem d_M_link_40 : decode c_M_link 40 = .ok (.invokevirtual 53, 3) := by decide +kernel
theorem d_M_link_43 : decode c_M_link 43 = .ok (.istore 4, 2) := by decide +kernel
theorem d_M_link_45 : decode c_M_link 45 = .ok (.aload_n 0, 1) := by decide +kernel
theorem d_M_link_46 : decode c_M_link 46 = .ok (.iload_n 3, 1) := by decide +kernel
theorem d_M_link_47 : decode c_M_link 47 = .ok (.iload 4, 2) := by decide +kernel
theorem d_M_link_49 : decode c_M_link 49 = .ok (.invokevirtual 56, 3) := by decide +kernel
theorem d_M_link_52 : decode c_M_link 52 = .ok (.ifCond .lt 5, 3) := by decide +kernel
theorem d_M_link_55 : decode c_M_link 55 = .ok (.iconst 0, 1) := by decide +kernel
theorem d_M_link_56 : decode c_M_link 56 = .ok (.ireturn, 1) := by decide +kernel
theorem d_M_link_57 : decode c_M_link 57 = .ok (.aload_n 0, 1) := by decide +kernel
theorem d_M_link_58 : decode c_M_link 58 = .ok (.getfield 7, 3) := by decide +kernel
theorem d_M_link_61 : decode c_M_link 61 = .ok (.aload_n 0, 1) := by decide +kernel
theorem d_M_link_62 : decode c_M_link 62 = .ok (.getfield 46, 3) := by decide +kernel
theorem d_M_link_65 : decode c_M_link 65 = .ok (.iload_n 3, 1) := by decide +kernel
theorem d_M_link_66 : decode c_M_link 66 = .ok (.iastore, 1) := by decide +kernel
theorem d_M_link_67 : decode c_M_link 67 = .ok (.aload_n 0, 1) := by decide +kernel
theorem d_M_link_68 : decode c_M_link 68 = .ok (.getfield 13, 3) := by decide +kernel
theorem d_M_link_71 : decode c_M_link 71 = .ok (.aload_n 0, 1) := by decide +kernel
theorem d_M_link_72 : decode c_M_link 72 = .ok (.getfield 46, 3) := by decide +kernel
theorem d_M_link_75 : decode c_M_link 75 = .ok (.iload 4, 2) := by decide +kernel
theorem d_M_link_77 : decode c_M_link 77 = .ok (.iastore, 1) := by decide +kernel
theorem d_M_link_78 : decode c_M_link 78 = .ok (.aload_n 0, 1) := by decide +kernel
theorem d_M_link_79 : decode c_M_link 79 = .ok (.dup, 1) := by decide +kernel
theorem d_M_link_80 : decode c_M_link 80 = .ok (.getfield 46, 3) := by decide +kernel
theorem d_M_link_83 : decode c_M_link 83 = .ok (.iconst 1, 1) := by decide +kernel
theorem d_M_link_84 : decode c_M_link 84 = .ok (.iadd, 1) := by decide +kernel
theorem d_M_link_85 : decode c_M_link 85 = .ok (.putfield 46, 3) := by decide +kernel
theorem d_M_link_88 : decode c_M_link 88 = .ok (.aload_n 0, 1) := by decide +kernel
theorem d_M_link_89 : decode c_M_link 89 = .ok (.getfield 19, 3) := by decide +kernel
theorem d_M_link_92 : decode c_M_link 92 = .ok (.iload_n 3, 1) := by decide +kernel
theorem d_M_link_93 : decode c_M_link 93 = .ok (.iconst 1, 1) := by decide +kernel
theorem d_M_link_94 : decode c_M_link 94 = .ok (.bastore, 1) := by decide +kernel
theorem d_M_link_95 : decode c_M_link 95 = .ok (.iconst 1, 1) := by decide +kernel
theorem d_M_link_96 : decode c_M_link 96 = .ok (.ireturn, 1) := by decide +kernel
theorem d_M_unlink_0 : decode c_M_unlink 0 = .ok (.aload_n 0, 1) := by decide +kernel
theorem d_M_unlink_1 : decode c_M_unlink 1 = .ok (.iload_n 1, 1) := by decide +kernel
theorem d_M_unlink_2 : decode c_M_unlink 2 = .ok (.invokestatic 49, 3) := by decide +kernel
theorem d_M_unlink_5 : decode c_M_unlink 5 = .ok (.ifCond .eq 14, 3) := by decide +kernel
theorem d_M_unlink_8 : decode c_M_unlink 8 = .ok (.iload_n 2, 1) := by decide +kernel
theorem d_M_unlink_9 : decode c_M_unlink 9 = .ok (.invokestatic 49, 3) := by decide +kernel
theorem d_M_unlink_12 : decode c_M_unlink 12 = .ok (.ifCond .eq 7, 3) := by decide +kernel
theorem d_M_unlink_15 : decode c_M_unlink 15 = .ok (.iconst 0, 1) := by decide +kernel
theorem d_M_unlink_16 : decode c_M_unlink 16 = .ok (.goto 4, 3) := by decide +kernel
theorem d_M_unlink_19 : decode c_M_unlink 19 = .ok (.iconst 1, 1) := by decide +kernel
theorem d_M_unlink_20 : decode c_M_unlink 20 = .ok (.putfield 35, 3) := by decide +kernel
theorem d_M_unlink_23 : decode c_M_unlink 23 = .ok (.aload_n 0, 1) := by decide +kernel
theorem d_M_unlink_24 : decode c_M_unlink 24 = .ok (.getfield 35, 3) := by decide +kernel
theorem d_M_unlink_27 : decode c_M_unlink 27 = .ok (.ifCond .ne 19, 3) := by decide +kernel
theorem d_M_unlink_30 : decode c_M_unlink 30 = .ok (.aload_n 0, 1) := by decide +kernel
theorem d_M_unlink_31 : decode c_M_unlink 31 = .ok (.iload_n 1, 1) := by decide +kernel
theorem d_M_unlink_32 : decode c_M_unlink 32 = .ok (.invokevirtual 42, 3) := by decide +kernel
theorem d_M_unlink_35 : decode c_M_unlink 35 = .ok (.ifCond .lt 11, 3) := by decide +kernel
theorem d_M_unlink_38 : decode c_M_unlink 38 = .ok (.aload_n 0, 1) := by decide +kernel
theorem d_M_unlink_39 : decode c_M_unlink 39 = .ok (.iload_n 2, 1) := by decide +kernel
theorem d_M_unlink_40 : decode c_M_unlink 40 = .ok (.invokevirtual 42, 3) := by decide +kernel
theorem d_M_unlink_43 : decode c_M_unlink 43 = .ok (.ifCond .ge 5, 3) := by decide +kernel
theorem d_M_unlink_46 : decode c_M_unlink 46 = .ok (.iconst 0, 1) := by decide +kernel
theorem d_M_unlink_47 : decode c_M_unlink 47 = .ok (.ireturn, 1) := by decide +kernel
theorem d_M_unlink_48 : decode c_M_unlink 48 = .ok (.aload_n 0, 1) := by decide +kernel
theorem d_M_unlink_49 : decode c_M_unlink 49 = .ok (.aload_n 0, 1) := by decide +kernel
theorem d_M_unlink_50 : decode c_M_unlink 50 = .ok (.iload_n 1, 1) := by decide +kernel
theorem d_M_unlink_51 : decode c_M_unlink 51 = .ok (.invokevirtual 42, 3) := by decide +kernel
theorem d_M_unlink_54 : decode c_M_unlink 54 = .ok (.aload_n 0, 1) := by decide +kernel
theorem d_M_unlink_55 : decode c_M_unlink 55 = .ok (.iload_n 2, 1) := by decide +kernel
theorem d_M_unlink_56 : decode c_M_unlink 56 = .ok (.invokevirtual 42, 3) := by decide +kernel
theorem d_M_unlink_59 : decode c_M_unlink 59 = .ok (.invokevirtual 56, 3) := by decide +kernel
theorem d_M_unlink_62 : decode c_M_unlink 62 = .ok (.istore_n 3, 1) := by decide +kernel
theorem d_M_unlink_63 : decode c_M_unlink 63 = .ok (.iload_n 3, 1) := by decide +kernel
theorem d_M_unlink_64 : decode c_M_unlink 64 = .ok (.ifCond .ge 5, 3) := by decide +kernel
theorem d_M_unlink_67 : decode c_M_unlink 67 = .ok (.iconst 0, 1) := by decide +kernel
theorem d_M_unlink_68 : decode c_M_unlink 68 = .ok (.ireturn, 1) := by decide +kernel
theorem d_M_unlink_69 : decode c_M_unlink 69 = .ok (.aload_n 0, 1) := by decide +kernel
theorem d_M_unlink_70 : decode c_M_unlink 70 = .ok (.iload_n 3, 1) := by decide +kernel
theorem d_M_unlink_71 : decode c_M_unlink 71 = .ok (.invokevirtual 60, 3) := by decide +kernel
theorem d_M_unlink_74 : decode c_M_unlink 74 = .ok (.aload_n 0, 1) := by decide +kernel
theorem d_M_unlink_75 : decode c_M_unlink 75 = .ok (.getfield 19, 3) := by decide +kernel
theorem d_M_unlink_78 : decode c_M_unlink 78 = .ok (.aload_n 0, 1) := by decide +kernel
theorem d_M_unlink_79 : decode c_M_unlink 79 = .ok (.iload_n 1, 1) := by decide +kernel
theorem d_M_unlink_80 : decode c_M_unlink 80 = .ok (.invokevirtual 42, 3) := by decide +kernel
theorem d_M_unlink_83 : decode c_M_unlink 83 = .ok (.iconst 1, 1) := by decide +kernel
theorem d_M_unlink_84 : decode c_M_unlink 84 = .ok (.bastore, 1) := by decide +kernel
theorem d_M_unlink_85 : decode c_M_unlink 85 = .ok (.iconst 1, 1) := by decide +kernel
theorem d_M_unlink_86 : decode c_M_unlink 86 = .ok (.ireturn, 1) := by decide +kernel
theorem d_M_clear_0 : decode c_M_clear 0 = .ok (.aload_n 0, 1) := by decide +kernel
theorem d_M_clear_1 : decode c_M_clear 1 = .ok (.iload_n 1, 1) := by decide +kernel
theorem d_M_clear_2 : decode c_M_clear 2 = .ok (.invokestatic 49, 3) := by decide +kernel
theorem d_M_clear_5 : decode c_M_clear 5 = .ok (.ifCond .eq 7, 3) := by decide +kernel
theorem d_M_clear_8 : decode c_M_clear 8 = .ok (.iconst 0, 1) := by decide +kernel
theorem d_M_clear_9 : decode c_M_clear 9 = .ok (.goto 4, 3) := by decide +kernel
theorem d_M_clear_12 : decode c_M_clear 12 = .ok (.iconst 1, 1) := by decide +kernel
theorem d_M_clear_13 : decode c_M_clear 13 = .ok (.putfield 35, 3) := by decide +kernel
theorem d_M_clear_16 : decode c_M_clear 16 = .ok (.aload_n 0, 1) := by decide +kernel
theorem d_M_clear_17 : decode c_M_clear 17 = .ok (.getfield 35, 3) := by decide +kernel
theorem d_M_clear_20 : decode c_M_clear 20 = .ok (.ifCond .eq 5, 3) := by decide +kernel
theorem d_M_clear_23 : decode c_M_clear 23 = .ok (.iconst 0, 1) := by decide +kernel
theorem d_M_clear_24 : decode c_M_clear 24 = .ok (.ireturn, 1) := by decide +kernel
theorem d_M_clear_25 : decode c_M_clear 25 = .ok (.aload_n 0, 1) := by decide +kernel
theorem d_M_clear_26 : decode c_M_clear 26 = .ok (.iload_n 1, 1) := by decide +kernel
theorem d_M_clear_27 : decode c_M_clear 27 = .ok (.invokevirtual 53, 3) := by decide +kernel
theorem d_M_clear_30 : decode c_M_clear 30 = .ok (.istore_n 2, 1) := by decide +kernel
theorem d_M_clear_31 : decode c_M_clear 31 = .ok (.iconst 0, 1) := by decide +kernel
theorem d_M_clear_32 : decode c_M_clear 32 = .ok (.istore_n 3, 1) := by decide +kernel
theorem d_M_clear_33 : decode c_M_clear 33 = .ok (.aload_n 0, 1) := by decide +kernel
theorem d_M_clear_34 : decode c_M_clear 34 = .ok (.getfield 46, 3) := by decide +kernel
theorem d_M_clear_37 : decode c_M_clear 37 = .ok (.iconst 1, 1) := by decide +kernel
theorem d_M_clear_38 : decode c_M_clear 38 = .ok (.isub, 1) := by decide +kernel
theorem d_M_clear_39 : decode c_M_clear 39 = .ok (.istore 4, 2) := by decide +kernel
theorem d_M_clear_41 : decode c_M_clear 41 = .ok (.iload 4, 2) := by decide +kernel
theorem d_M_clear_43 : decode c_M_clear 43 = .ok (.ifCond .lt 32, 3) := by decide +kernel
theorem d_M_clear_46 : decode c_M_clear 46 = .ok (.aload_n 0, 1) := by decide +kernel
theorem d_M_clear_47 : decode c_M_clear 47 = .ok (.getfield 7, 3) := by decide +kernel
theorem d_M_clear_50 : decode c_M_clear 50 = .ok (.iload 4, 2) := by decide +kernel
theorem d_M_clear_52 : decode c_M_clear 52 = .ok (.iaload, 1) := by decide +kernel
theorem d_M_clear_53 : decode c_M_clear 53 = .ok (.iload_n 2, 1) := by decide +kernel
theorem d_M_clear_54 : decode c_M_clear 54 = .ok (.if_icmp .eq 6, 3) := by decide +kernel
theorem d_M_clear_57 : decode c_M_clear 57 = .ok (.goto 12, 3) := by decide +kernel
theorem d_M_clear_60 : decode c_M_clear 60 = .ok (.aload_n 0, 1) := by decide +kernel
theorem d_M_clear_61 : decode c_M_clear 61 = .ok (.iload 4, 2) := by decide +kernel
theorem d_M_clear_63 : decode c_M_clear 63 = .ok (.invokevirtual 60, 3) := by decide +kernel
theorem d_M_clear_66 : decode c_M_clear 66 = .ok (.iinc 3 1, 3) := by decide +kernel
theorem d_M_clear_69 : decode c_M_clear 69 = .ok (.iinc 4 (-1), 3) := by decide +kernel
theorem d_M_clear_72 : decode c_M_clear 72 = .ok (.goto (-31), 3) := by decide +kernel
theorem d_M_clear_75 : decode c_M_clear 75 = .ok (.aload_n 0, 1) := by decide +kernel
theorem d_M_clear_76 : decode c_M_clear 76 = .ok (.getfield 19, 3) := by decide +kernel
theorem d_M_clear_79 : decode c_M_clear 79 = .ok (.iload_n 2, 1) := by decide +kernel
theorem d_M_clear_80 : decode c_M_clear 80 = .ok (.iconst 1, 1) := by decide +kernel
theorem d_M_clear_81 : decode c_M_clear 81 = .ok (.bastore, 1) := by decide +kernel
theorem d_M_clear_82 : decode c_M_clear 82 = .ok (.iload_n 3, 1) := by decide +kernel
theorem d_M_clear_83 : decode c_M_clear 83 = .ok (.ireturn, 1) := by decide +kernel
theorem d_M_touch_0 : decode c_M_touch 0 = .ok (.aload_n 0, 1) := by decide +kernel
theorem d_M_touch_1 : decode c_M_touch 1 = .ok (.iload_n 1, 1) := by decide +kernel
theorem d_M_touch_2 : decode c_M_touch 2 = .ok (.invokestatic 49, 3) := by decide +kernel
theorem d_M_touch_5 : decode c_M_touch 5 = .ok (.ifCond .eq 7, 3) := by decide +kernel
theorem d_M_touch_8 : decode c_M_touch 8 = .ok (.iconst 0, 1) := by decide +kernel
theorem d_M_touch_9 : decode c_M_touch 9 = .ok (.goto 4, 3) := by decide +kernel
theorem d_M_touch_12 : decode c_M_touch 12 = .ok (.iconst 1, 1) := by decide +kernel
theorem d_M_touch_13 : decode c_M_touch 13 = .ok (.putfield 35, 3) := by decide +kernel
theorem d_M_touch_16 : decode c_M_touch 16 = .ok (.aload_n 0, 1) := by decide +kernel
theorem d_M_touch_17 : decode c_M_touch 17 = .ok (.getfield 35, 3) := by decide +kernel
theorem d_M_touch_20 : decode c_M_touch 20 = .ok (.ifCond .ne 14, 3) := by decide +kernel
theorem d_M_touch_23 : decode c_M_touch 23 = .ok (.aload_n 0, 1) := by decide +kernel
theorem d_M_touch_24 : decode c_M_touch 24 = .ok (.getfield 19, 3) := by decide +kernel
theorem d_M_touch_27 : decode c_M_touch 27 = .ok (.aload_n 0, 1) := by decide +kernel
theorem d_M_touch_28 : decode c_M_touch 28 = .ok (.iload_n 1, 1) := by decide +kernel
theorem d_M_touch_29 : decode c_M_touch 29 = .ok (.invokevirtual 53, 3) := by decide +kernel
theorem d_M_touch_32 : decode c_M_touch 32 = .ok (.iconst 1, 1) := by decide +kernel
theorem d_M_touch_33 : decode c_M_touch 33 = .ok (.bastore, 1) := by decide +kernel
theorem d_M_touch_34 : decode c_M_touch 34 = .ok (.return_, 1) := by decide +kernel
theorem d_M_spread_0 : decode c_M_spread 0 = .ok (.iconst 0, 1) := by decide +kernel
theorem d_M_spread_1 : decode c_M_spread 1 = .ok (.istore_n 1, 1) := by decide +kernel
theorem d_M_spread_2 : decode c_M_spread 2 = .ok (.iload_n 1, 1) := by decide +kernel
theorem d_M_spread_3 : decode c_M_spread 3 = .ok (.aload_n 0, 1) := by decide +kernel
theorem d_M_spread_4 : decode c_M_spread 4 = .ok (.getfield 39, 3) := by decide +kernel
theorem d_M_spread_7 : decode c_M_spread 7 = .ok (.if_icmp .ge 21, 3) := by decide +kernel
theorem d_M_spread_10 : decode c_M_spread 10 = .ok (.aload_n 0, 1) := by decide +kernel
theorem d_M_spread_11 : decode c_M_spread 11 = .ok (.getfield 26, 3) := by decide +kernel
theorem d_M_spread_14 : decode c_M_spread 14 = .ok (.iload_n 1, 1) := by decide +kernel
theorem d_M_spread_15 : decode c_M_spread 15 = .ok (.aload_n 0, 1) := by decide +kernel
theorem d_M_spread_16 : decode c_M_spread 16 = .ok (.getfield 19, 3) := by decide +kernel
theorem d_M_spread_19 : decode c_M_spread 19 = .ok (.iload_n 1, 1) := by decide +kernel
theorem d_M_spread_20 : decode c_M_spread 20 = .ok (.baload, 1) := by decide +kernel
theorem d_M_spread_21 : decode c_M_spread 21 = .ok (.bastore, 1) := by decide +kernel
theorem d_M_spread_22 : decode c_M_spread 22 = .ok (.iinc 1 1, 3) := by decide +kernel
theorem d_M_spread_25 : decode c_M_spread 25 = .ok (.goto (-23), 3) := by decide +kernel
theorem d_M_spread_28 : decode c_M_spread 28 = .ok (.iconst 1, 1) := by decide +kernel
theorem d_M_spread_29 : decode c_M_spread 29 = .ok (.istore_n 1, 1) := by decide +kernel
theorem d_M_spread_30 : decode c_M_spread 30 = .ok (.iload_n 1, 1) := by decide +kernel
theorem d_M_spread_31 : decode c_M_spread 31 = .ok (.ifCond .eq 69, 3) := by decide +kernel
theorem d_M_spread_34 : decode c_M_spread 34 = .ok (.iconst 0, 1) := by decide +kernel
theorem d_M_spread_35 : decode c_M_spread 35 = .ok (.istore_n 1, 1) := by decide +kernel
theorem d_M_spread_36 : decode c_M_spread 36 = .ok (.iconst 0, 1) := by decide +kernel
theorem d_M_spread_37 : decode c_M_spread 37 = .ok (.istore_n 2, 1) := by decide +kernel
theorem d_M_spread_38 : decode c_M_spread 38 = .ok (.iload_n 2, 1) := by decide +kernel
theorem d_M_spread_39 : decode c_M_spread 39 = .ok (.aload_n 0, 1) := by decide +kernel
theorem d_M_spread_40 : decode c_M_spread 40 = .ok (.getfield 46, 3) := by decide +kernel
theorem d_M_spread_43 : decode c_M_spread 43 = .ok (.if_icmp .ge 54, 3) := by decide +kernel
theorem d_M_spread_46 : decode c_M_spread 46 = .ok (.aload_n 0, 1) := by decide +kernel
theorem d_M_spread_47 : decode c_M_spread 47 = .ok (.getfield 26, 3) := by decide +kernel
theorem d_M_spread_50 : decode c_M_spread 50 = .ok (.aload_n 0, 1) := by decide +kernel
theorem d_M_spread_51 : decode c_M_spread 51 = .ok (.getfield 13, 3) := by decide +kernel
theorem d_M_spread_54 : decode c_M_spread 54 = .ok (.iload_n 2, 1) := by decide +kernel
theorem d_M_spread_55 : decode c_M_spread 55 = .ok (.iaload, 1) := by decide +kernel
theorem d_M_spread_56 : decode c_M_spread 56 = .ok (.baload, 1) := by decide +kernel
theorem d_M_spread_57 : decode c_M_spread 57 = .ok (.ifCond .eq 34, 3) := by decide +kernel
theorem d_M_spread_60 : decode c_M_spread 60 = .ok (.aload_n 0, 1) := by decide +kernel
theorem d_M_spread_61 : decode c_M_spread 61 = .ok (.getfield 26, 3) := by decide +kernel
theorem d_M_spread_64 : decode c_M_spread 64 = .ok (.aload_n 0, 1) := by decide +kernel
theorem d_M_spread_65 : decode c_M_spread 65 = .ok (.getfield 7, 3) := by decide +kernel
theorem d_M_spread_68 : decode c_M_spread 68 = .ok (.iload_n 2, 1) := by decide +kernel
theorem d_M_spread_69 : decode c_M_spread 69 = .ok (.iaload, 1) := by decide +kernel
theorem d_M_spread_70 : decode c_M_spread 70 = .ok (.baload, 1) := by decide +kernel
theorem d_M_spread_71 : decode c_M_spread 71 = .ok (.ifCond .eq 6, 3) := by decide +kernel
theorem d_M_spread_74 : decode c_M_spread 74 = .ok (.goto 17, 3) := by decide +kernel
theorem d_M_spread_77 : decode c_M_spread 77 = .ok (.aload_n 0, 1) := by decide +kernel
theorem d_M_spread_78 : decode c_M_spread 78 = .ok (.getfield 26, 3) := by decide +kernel
theorem d_M_spread_81 : decode c_M_spread 81 = .ok (.aload_n 0, 1) := by decide +kernel
theorem d_M_spread_82 : decode c_M_spread 82 = .ok (.getfield 7, 3) := by decide +kernel
theorem d_M_spread_85 : decode c_M_spread 85 = .ok (.iload_n 2, 1) := by decide +kernel
theorem d_M_spread_86 : decode c_M_spread 86 = .ok (.iaload, 1) := by decide +kernel
theorem d_M_spread_87 : decode c_M_spread 87 = .ok (.iconst 1, 1) := by decide +kernel
theorem d_M_spread_88 : decode c_M_spread 88 = .ok (.bastore, 1) := by decide +kernel
theorem d_M_spread_89 : decode c_M_spread 89 = .ok (.iconst 1, 1) := by decide +kernel
theorem d_M_spread_90 : decode c_M_spread 90 = .ok (.istore_n 1, 1) := by decide +kernel
theorem d_M_spread_91 : decode c_M_spread 91 = .ok (.iinc 2 1, 3) := by decide +kernel
theorem d_M_spread_94 : decode c_M_spread 94 = .ok (.goto (-56), 3) := by decide +kernel
theorem d_M_spread_97 : decode c_M_spread 97 = .ok (.goto (-67), 3) := by decide +kernel
theorem d_M_spread_100 : decode c_M_spread 100 = .ok (.return_, 1) := by decide +kernel
end
section
theorem d_M_findRings_0 : decode c_M_findRings 0 = .ok (.iconst 0, 1) := by decide +kernel
theorem d_M_findRings_1 : decode c_M_findRings 1 = .ok (.istore_n 1, 1) := by decide +kernel
theorem d_M_findRings_2 : decode c_M_findRings 2 = .ok (.iload_n 1, 1) := by decide +kernel
theorem d_M_findRings_3 : decode c_M_findRings 3 = .ok (.aload_n 0, 1) := by decide +kernel
theorem d_M_findRings_4 : decode c_M_findRings 4 = .ok (.getfield 39, 3) := by decide +kernel
theorem d_M_findRings_7 : decode c_M_findRings 7 = .ok (.if_icmp .ge 16, 3) := by decide +kernel
theorem d_M_findRings_10 : decode c_M_findRings 10 = .ok (.aload_n 0, 1) := by decide +kernel
theorem d_M_findRings_11 : decode c_M_findRings 11 = .ok (.getfield 23, 3) := by decide +kernel
theorem d_M_findRings_14 : decode c_M_findRings 14 = .ok (.iload_n 1, 1) := by decide +kernel
theorem d_M_findRings_15 : decode c_M_findRings 15 = .ok (.iconst 1, 1) := by decide +kernel
theorem d_M_findRings_16 : decode c_M_findRings 16 = .ok (.bastore, 1) := by decide +kernel
theorem d_M_findRings_17 : decode c_M_findRings 17 = .ok (.iinc 1 1, 3) := by decide +kernel
theorem d_M_findRings_20 : decode c_M_findRings 20 = .ok (.goto (-18), 3) := by decide +kernel
theorem d_M_findRings_23 : decode c_M_findRings 23 = .ok (.iconst 1, 1) := by decide +kernel
theorem d_M_findRings_24 : decode c_M_findRings 24 = .ok (.istore_n 1, 1) := by decide +kernel
theorem d_M_findRings_25 : decode c_M_findRings 25 = .ok (.iload_n 1, 1) := by decide +kernel
theorem d_M_findRings_26 : decode c_M_findRings 26 = .ok (.ifCond .eq 121, 3) := by decide +kernel
theorem d_M_findRings_29 : decode c_M_findRings 29 = .ok (.iconst 0, 1) := by decide +kernel
theorem d_M_findRings_30 : decode c_M_findRings 30 = .ok (.istore_n 1, 1) := by decide +kernel
theorem d_M_findRings_31 : decode c_M_findRings 31 = .ok (.iconst 0, 1) := by decide +kernel
theorem d_M_findRings_32 : decode c_M_findRings 32 = .ok (.istore_n 2, 1) := by decide +kernel
theorem d_M_findRings_33 : decode c_M_findRings 33 = .ok (.iload_n 2, 1) := by decide +kernel
theorem d_M_findRings_34 : decode c_M_findRings 34 = .ok (.aload_n 0, 1) := by decide +kernel
theorem d_M_findRings_35 : decode c_M_findRings 35 = .ok (.getfield 39, 3) := by decide +kernel
theorem d_M_findRings_38 : decode c_M_findRings 38 = .ok (.if_icmp .ge 106, 3) := by decide +kernel
theorem d_M_findRings_41 : decode c_M_findRings 41 = .ok (.aload_n 0, 1) := by decide +kernel
theorem d_M_findRings_42 : decode c_M_findRings 42 = .ok (.getfield 23, 3) := by decide +kernel
theorem d_M_findRings_45 : decode c_M_findRings 45 = .ok (.iload_n 2, 1) := by decide +kernel
theorem d_M_findRings_46 : decode c_M_findRings 46 = .ok (.baload, 1) := by decide +kernel
theorem d_M_findRings_47 : decode c_M_findRings 47 = .ok (.ifCond .ne 6, 3) := by decide +kernel
theorem d_M_findRings_50 : decode c_M_findRings 50 = .ok (.goto 88, 3) := by decide +kernel
theorem d_M_findRings_53 : decode c_M_findRings 53 = .ok (.iconst 1, 1) := by decide +kernel
theorem d_M_findRings_54 : decode c_M_findRings 54 = .ok (.istore_n 3, 1) := by decide +kernel
theorem d_M_findRings_55 : decode c_M_findRings 55 = .ok (.iconst 0, 1) := by decide +kernel
theorem d_M_findRings_56 : decode c_M_findRings 56 = .ok (.istore 4, 2) := by decide +kernel
theorem d_M_findRings_58 : decode c_M_findRings 58 = .ok (.iload 4, 2) := by decide +kernel
theorem d_M_findRings_60 : decode c_M_findRings 60 = .ok (.aload_n 0, 1) := by decide +kernel
theorem d_M_findRings_61 : decode c_M_findRings 61 = .ok (.getfield 46, 3) := by decide +kernel
theorem d_M_findRings_64 : decode c_M_findRings 64 = .ok (.if_icmp .ge 45, 3) := by decide +kernel
theorem d_M_findRings_67 : decode c_M_findRings 67 = .ok (.iload_n 3, 1) := by decide +kernel
theorem d_M_findRings_68 : decode c_M_findRings 68 = .ok (.ifCond .eq 41, 3) := by decide +kernel
theorem d_M_findRings_71 : decode c_M_findRings 71 = .ok (.aload_n 0, 1) := by decide +kernel
theorem d_M_findRings_72 : decode c_M_findRings 72 = .ok (.getfield 7, 3) := by decide +kernel
theorem d_M_findRings_75 : decode c_M_findRings 75 = .ok (.iload 4, 2) := by decide +kernel
theorem d_M_findRings_77 : decode c_M_findRings 77 = .ok (.iaload, 1) := by decide +kernel
theorem d_M_findRings_78 : decode c_M_findRings 78 = .ok (.iload_n 2, 1) := by decide +kernel
theorem d_M_findRings_79 : decode c_M_findRings 79 = .ok (.if_icmp .ne 18, 3) := by decide +kernel
theorem d_M_findRings_82 : decode c_M_findRings 82 = .ok (.aload_n 0, 1) := by decide +kernel
theorem d_M_findRings_83 : decode c_M_findRings 83 = .ok (.getfield 23, 3) := by decide +kernel
theorem d_M_findRings_86 : decode c_M_findRings 86 = .ok (.aload_n 0, 1) := by decide +kernel
theorem d_M_findRings_87 : decode c_M_findRings 87 = .ok (.getfield 13, 3) := by decide +kernel
theorem d_M_findRings_90 : decode c_M_findRings 90 = .ok (.iload 4, 2) := by decide +kernel
theorem d_M_findRings_92 : decode c_M_findRings 92 = .ok (.iaload, 1) := by decide +kernel
theorem d_M_findRings_93 : decode c_M_findRings 93 = .ok (.baload, 1) := by decide +kernel
theorem d_M_findRings_94 : decode c_M_findRings 94 = .ok (.ifCond .ne 7, 3) := by decide +kernel
theorem d_M_findRings_97 : decode c_M_findRings 97 = .ok (.iconst 1, 1) := by decide +kernel
theorem d_M_findRings_98 : decode c_M_findRings 98 = .ok (.goto 4, 3) := by decide +kernel
theorem d_M_findRings_101 : decode c_M_findRings 101 = .ok (.iconst 0, 1) := by decide +kernel
theorem d_M_findRings_102 : decode c_M_findRings 102 = .ok (.istore_n 3, 1) := by decide +kernel
theorem d_M_findRings_103 : decode c_M_findRings 103 = .ok (.iinc 4 1, 3) := by decide +kernel
theorem d_M_findRings_106 : decode c_M_findRings 106 = .ok (.goto (-48), 3) := by decide +kernel
theorem d_M_findRings_109 : decode c_M_findRings 109 = .ok (.aload_n 0, 1) := by decide +kernel
theorem d_M_findRings_110 : decode c_M_findRings 110 = .ok (.getfield 23, 3) := by decide +kernel
theorem d_M_findRings_113 : decode c_M_findRings 113 = .ok (.iload_n 2, 1) := by decide +kernel
theorem d_M_findRings_114 : decode c_M_findRings 114 = .ok (.iload_n 3, 1) := by decide +kernel
theorem d_M_findRings_115 : decode c_M_findRings 115 = .ok (.ifCond .ne 7, 3) := by decide +kernel
theorem d_M_findRings_118 : decode c_M_findRings 118 = .ok (.iconst 1, 1) := by decide +kernel
theorem d_M_findRings_119 : decode c_M_findRings 119 = .ok (.goto 4, 3) := by decide +kernel
theorem d_M_findRings_122 : decode c_M_findRings 122 = .ok (.iconst 0, 1) := by decide +kernel
theorem d_M_findRings_123 : decode c_M_findRings 123 = .ok (.bastore, 1) := by decide +kernel
theorem d_M_findRings_124 : decode c_M_findRings 124 = .ok (.iload_n 1, 1) := by decide +kernel
theorem d_M_findRings_125 : decode c_M_findRings 125 = .ok (.ifCond .ne 7, 3) := by decide +kernel
theorem d_M_findRings_128 : decode c_M_findRings 128 = .ok (.iload_n 3, 1) := by decide +kernel
theorem d_M_findRings_129 : decode c_M_findRings 129 = .ok (.ifCond .eq 7, 3) := by decide +kernel
theorem d_M_findRings_132 : decode c_M_findRings 132 = .ok (.iconst 1, 1) := by decide +kernel
theorem d_M_findRings_133 : decode c_M_findRings 133 = .ok (.goto 4, 3) := by decide +kernel
theorem d_M_findRings_136 : decode c_M_findRings 136 = .ok (.iconst 0, 1) := by decide +kernel
theorem d_M_findRings_137 : decode c_M_findRings 137 = .ok (.istore_n 1, 1) := by decide +kernel
theorem d_M_findRings_138 : decode c_M_findRings 138 = .ok (.iinc 2 1, 3) := by decide +kernel
theorem d_M_findRings_141 : decode c_M_findRings 141 = .ok (.goto (-108), 3) := by decide +kernel
theorem d_M_findRings_144 : decode c_M_findRings 144 = .ok (.goto (-119), 3) := by decide +kernel
theorem d_M_findRings_147 : decode c_M_findRings 147 = .ok (.return_, 1) := by decide +kernel
theorem d_M_isReady_0 : decode c_M_isReady 0 = .ok (.aload_n 0, 1) := by decide +kernel
theorem d_M_isReady_1 : decode c_M_isReady 1 = .ok (.getfield 26, 3) := by decide +kernel
theorem d_M_isReady_4 : decode c_M_isReady 4 = .ok (.iload_n 1, 1) := by decide +kernel
theorem d_M_isReady_5 : decode c_M_isReady 5 = .ok (.baload, 1) := by decide +kernel
theorem d_M_isReady_6 : decode c_M_isReady 6 = .ok (.ifCond .eq 25, 3) := by decide +kernel
theorem d_M_isReady_9 : decode c_M_isReady 9 = .ok (.aload_n 0, 1) := by decide +kernel
theorem d_M_isReady_10 : decode c_M_isReady 10 = .ok (.getfield 23, 3) := by decide +kernel
theorem d_M_isReady_13 : decode c_M_isReady 13 = .ok (.iload_n 1, 1) := by decide +kernel
theorem d_M_isReady_14 : decode c_M_isReady 14 = .ok (.baload, 1) := by decide +kernel
theorem d_M_isReady_15 : decode c_M_isReady 15 = .ok (.ifCond .ne 16, 3) := by decide +kernel
theorem d_M_isReady_18 : decode c_M_isReady 18 = .ok (.aload_n 0, 1) := by decide +kernel
theorem d_M_isReady_19 : decode c_M_isReady 19 = .ok (.getfield 29, 3) := by decide +kernel
theorem d_M_isReady_22 : decode c_M_isReady 22 = .ok (.iload_n 1, 1) := by decide +kernel
theorem d_M_isReady_23 : decode c_M_isReady 23 = .ok (.baload, 1) := by decide +kernel
theorem d_M_isReady_24 : decode c_M_isReady 24 = .ok (.ifCond .ne 7, 3) := by decide +kernel
theorem d_M_isReady_27 : decode c_M_isReady 27 = .ok (.iconst 1, 1) := by decide +kernel
theorem d_M_isReady_28 : decode c_M_isReady 28 = .ok (.goto 4, 3) := by decide +kernel
theorem d_M_isReady_31 : decode c_M_isReady 31 = .ok (.iconst 0, 1) := by decide +kernel
theorem d_M_isReady_32 : decode c_M_isReady 32 = .ok (.istore_n 2, 1) := by decide +kernel
theorem d_M_isReady_33 : decode c_M_isReady 33 = .ok (.iconst 0, 1) := by decide +kernel
theorem d_M_isReady_34 : decode c_M_isReady 34 = .ok (.istore_n 3, 1) := by decide +kernel
theorem d_M_isReady_35 : decode c_M_isReady 35 = .ok (.iload_n 3, 1) := by decide +kernel
theorem d_M_isReady_36 : decode c_M_isReady 36 = .ok (.aload_n 0, 1) := by decide +kernel
theorem d_M_isReady_37 : decode c_M_isReady 37 = .ok (.getfield 46, 3) := by decide +kernel
theorem d_M_isReady_40 : decode c_M_isReady 40 = .ok (.if_icmp .ge 57, 3) := by decide +kernel
theorem d_M_isReady_43 : decode c_M_isReady 43 = .ok (.iload_n 2, 1) := by decide +kernel
theorem d_M_isReady_44 : decode c_M_isReady 44 = .ok (.ifCond .eq 53, 3) := by decide +kernel
theorem d_M_isReady_47 : decode c_M_isReady 47 = .ok (.aload_n 0, 1) := by decide +kernel
theorem d_M_isReady_48 : decode c_M_isReady 48 = .ok (.getfield 7, 3) := by decide +kernel
theorem d_M_isReady_51 : decode c_M_isReady 51 = .ok (.iload_n 3, 1) := by decide +kernel
theorem d_M_isReady_52 : decode c_M_isReady 52 = .ok (.iaload, 1) := by decide +kernel
theorem d_M_isReady_53 : decode c_M_isReady 53 = .ok (.iload_n 1, 1) := by decide +kernel
theorem d_M_isReady_54 : decode c_M_isReady 54 = .ok (.if_icmp .ne 31, 3) := by decide +kernel
theorem d_M_isReady_57 : decode c_M_isReady 57 = .ok (.aload_n 0, 1) := by decide +kernel
theorem d_M_isReady_58 : decode c_M_isReady 58 = .ok (.getfield 26, 3) := by decide +kernel
theorem d_M_isReady_61 : decode c_M_isReady 61 = .ok (.aload_n 0, 1) := by decide +kernel
theorem d_M_isReady_62 : decode c_M_isReady 62 = .ok (.getfield 13, 3) := by decide +kernel
theorem d_M_isReady_65 : decode c_M_isReady 65 = .ok (.iload_n 3, 1) := by decide +kernel
theorem d_M_isReady_66 : decode c_M_isReady 66 = .ok (.iaload, 1) := by decide +kernel
theorem d_M_isReady_67 : decode c_M_isReady 67 = .ok (.baload, 1) := by decide +kernel
theorem d_M_isReady_68 : decode c_M_isReady 68 = .ok (.ifCond .eq 17, 3) := by decide +kernel
theorem d_M_isReady_71 : decode c_M_isReady 71 = .ok (.aload_n 0, 1) := by decide +kernel
theorem d_M_isReady_72 : decode c_M_isReady 72 = .ok (.getfield 29, 3) := by decide +kernel
theorem d_M_isReady_75 : decode c_M_isReady 75 = .ok (.aload_n 0, 1) := by decide +kernel
theorem d_M_isReady_76 : decode c_M_isReady 76 = .ok (.getfield 13, 3) := by decide +kernel
theorem d_M_isReady_79 : decode c_M_isReady 79 = .ok (.iload_n 3, 1) := by decide +kernel
theorem d_M_isReady_80 : decode c_M_isReady 80 = .ok (.iaload, 1) := by decide +kernel
theorem d_M_isReady_81 : decode c_M_isReady 81 = .ok (.baload, 1) := by decide +kernel
theorem d_M_isReady_82 : decode c_M_isReady 82 = .ok (.ifCond .eq 7, 3) := by decide +kernel
theorem d_M_isReady_85 : decode c_M_isReady 85 = .ok (.iconst 1, 1) := by decide +kernel
theorem d_M_isReady_86 : decode c_M_isReady 86 = .ok (.goto 4, 3) := by decide +kernel
theorem d_M_isReady_89 : decode c_M_isReady 89 = .ok (.iconst 0, 1) := by decide +kernel
theorem d_M_isReady_90 : decode c_M_isReady 90 = .ok (.istore_n 2, 1) := by decide +kernel
theorem d_M_isReady_91 : decode c_M_isReady 91 = .ok (.iinc 3 1, 3) := by decide +kernel
theorem d_M_isReady_94 : decode c_M_isReady 94 = .ok (.goto (-59), 3) := by decide +kernel
theorem d_M_isReady_97 : decode c_M_isReady 97 = .ok (.iload_n 2, 1) := by decide +kernel
theorem d_M_isReady_98 : decode c_M_isReady 98 = .ok (.ireturn, 1) := by decide +kernel
theorem d_M_work_0 : decode c_M_work 0 = .ok (.aload_n 0, 1) := by decide +kernel
theorem d_M_work_1 : decode c_M_work 1 = .ok (.iconst 0, 1) := by decide +kernel
theorem d_M_work_2 : decode c_M_work 2 = .ok (.putfield 35, 3) := by decide +kernel
theorem d_M_work_5 : decode c_M_work 5 = .ok (.aload_n 0, 1) := by decide +kernel
theorem d_M_work_6 : decode c_M_work 6 = .ok (.invokevirtual 64, 3) := by decide +kernel
theorem d_M_work_9 : decode c_M_work 9 = .ok (.aload_n 0, 1) := by decide +kernel
theorem d_M_work_10 : decode c_M_work 10 = .ok (.invokevirtual 67, 3) := by decide +kernel
theorem d_M_work_13 : decode c_M_work 13 = .ok (.aload_n 0, 1) := by decide +kernel
theorem d_M_work_14 : decode c_M_work 14 = .ok (.iconst 0, 1) := by decide +kernel
theorem d_M_work_15 : decode c_M_work 15 = .ok (.putfield 70, 3) := by decide +kernel
theorem d_M_work_18 : decode c_M_work 18 = .ok (.aload_n 0, 1) := by decide +kernel
theorem d_M_work_19 : decode c_M_work 19 = .ok (.iconst 0, 1) := by decide +kernel
theorem d_M_work_20 : decode c_M_work 20 = .ok (.putfield 73, 3) := by decide +kernel
theorem d_M_work_23 : decode c_M_work 23 = .ok (.iconst 0, 1) := by decide +kernel
theorem d_M_work_24 : decode c_M_work 24 = .ok (.istore_n 1, 1) := by decide +kernel
theorem d_M_work_25 : decode c_M_work 25 = .ok (.iload_n 1, 1) := by decide +kernel
theorem d_M_work_26 : decode c_M_work 26 = .ok (.aload_n 0, 1) := by decide +kernel
theorem d_M_work_27 : decode c_M_work 27 = .ok (.getfield 39, 3) := by decide +kernel
theorem d_M_work_30 : decode c_M_work 30 = .ok (.if_icmp .ge 55, 3) := by decide +kernel
theorem d_M_work_33 : decode c_M_work 33 = .ok (.aload_n 0, 1) := by decide +kernel
theorem d_M_work_34 : decode c_M_work 34 = .ok (.getfield 29, 3) := by decide +kernel
theorem d_M_work_37 : decode c_M_work 37 = .ok (.iload_n 1, 1) := by decide +kernel
theorem d_M_work_38 : decode c_M_work 38 = .ok (.iconst 0, 1) := by decide +kernel
theorem d_M_work_39 : decode c_M_work 39 = .ok (.bastore, 1) := by decide +kernel
theorem d_M_work_40 : decode c_M_work 40 = .ok (.aload_n 0, 1) := by decide +kernel
theorem d_M_work_41 : decode c_M_work 41 = .ok (.getfield 19, 3) := by decide +kernel
theorem d_M_work_44 : decode c_M_work 44 = .ok (.iload_n 1, 1) := by decide +kernel
theorem d_M_work_45 : decode c_M_work 45 = .ok (.iconst 0, 1) := by decide +kernel
theorem d_M_work_46 : decode c_M_work 46 = .ok (.bastore, 1) := by decide +kernel
theorem d_M_work_47 : decode c_M_work 47 = .ok (.aload_n 0, 1) := by decide +kernel
theorem d_M_work_48 : decode c_M_work 48 = .ok (.dup, 1) := by decide +kernel
theorem d_M_work_49 : decode c_M_work 49 = .ok (.getfield 73, 3) := by decide +kernel
theorem d_M_work_52 : decode c_M_work 52 = .ok (.aload_n 0, 1) := by decide +kernel
theorem d_M_work_53 : decode c_M_work 53 = .ok (.getfield 26, 3) := by decide +kernel
theorem d_M_work_56 : decode c_M_work 56 = .ok (.iload_n 1, 1) := by decide +kernel
theorem d_M_work_57 : decode c_M_work 57 = .ok (.baload, 1) := by decide +kernel
theorem d_M_work_58 : decode c_M_work 58 = .ok (.ifCond .eq 16, 3) := by decide +kernel
theorem d_M_work_61 : decode c_M_work 61 = .ok (.aload_n 0, 1) := by decide +kernel
theorem d_M_work_62 : decode c_M_work 62 = .ok (.getfield 23, 3) := by decide +kernel
theorem d_M_work_65 : decode c_M_work 65 = .ok (.iload_n 1, 1) := by decide +kernel
theorem d_M_work_66 : decode c_M_work 66 = .ok (.baload, 1) := by decide +kernel
theorem d_M_work_67 : decode c_M_work 67 = .ok (.ifCond .eq 7, 3) := by decide +kernel
theorem d_M_work_70 : decode c_M_work 70 = .ok (.iconst 1, 1) := by decide +kernel
theorem d_M_work_71 : decode c_M_work 71 = .ok (.goto 4, 3) := by decide +kernel
theorem d_M_work_74 : decode c_M_work 74 = .ok (.iconst 0, 1) := by decide +kernel
theorem d_M_work_75 : decode c_M_work 75 = .ok (.iadd, 1) := by decide +kernel
theorem d_M_work_76 : decode c_M_work 76 = .ok (.putfield 73, 3) := by decide +kernel
theorem d_M_work_79 : decode c_M_work 79 = .ok (.iinc 1 1, 3) := by decide +kernel
theorem d_M_work_82 : decode c_M_work 82 = .ok (.goto (-57), 3) := by decide +kernel
theorem d_M_work_85 : decode c_M_work 85 = .ok (.iconst 0, 1) := by decide +kernel
theorem d_M_work_86 : decode c_M_work 86 = .ok (.istore_n 1, 1) := by decide +kernel
theorem d_M_work_87 : decode c_M_work 87 = .ok (.iload_n 1, 1) := by decide +kernel
theorem d_M_work_88 : decode c_M_work 88 = .ok (.ifCond .lt 92, 3) := by decide +kernel
theorem d_M_work_91 : decode c_M_work 91 = .ok (.iconst (-1), 1) := by decide +kernel
theorem d_M_work_92 : decode c_M_work 92 = .ok (.istore_n 1, 1) := by decide +kernel
theorem d_M_work_93 : decode c_M_work 93 = .ok (.iconst 0, 1) := by decide +kernel
theorem d_M_work_94 : decode c_M_work 94 = .ok (.istore_n 2, 1) := by decide +kernel
theorem d_M_work_95 : decode c_M_work 95 = .ok (.iload_n 2, 1) := by decide +kernel
theorem d_M_work_96 : decode c_M_work 96 = .ok (.aload_n 0, 1) := by decide +kernel
theorem d_M_work_97 : decode c_M_work 97 = .ok (.getfield 39, 3) := by decide +kernel
theorem d_M_work_100 : decode c_M_work 100 = .ok (.if_icmp .ge 38, 3) := by decide +kernel
theorem d_M_work_103 : decode c_M_work 103 = .ok (.iload_n 1, 1) := by decide +kernel
theorem d_M_work_104 : decode c_M_work 104 = .ok (.ifCond .lt 18, 3) := by decide +kernel
theorem d_M_work_107 : decode c_M_work 107 = .ok (.aload_n 0, 1) := by decide +kernel
theorem d_M_work_108 : decode c_M_work 108 = .ok (.getfield 16, 3) := by decide +kernel
theorem d_M_work_111 : decode c_M_work 111 = .ok (.iload_n 2, 1) := by decide +kernel
theorem d_M_work_112 : decode c_M_work 112 = .ok (.iaload, 1) := by decide +kernel
theorem d_M_work_113 : decode c_M_work 113 = .ok (.aload_n 0, 1) := by decide +kernel
theorem d_M_work_114 : decode c_M_work 114 = .ok (.getfield 16, 3) := by decide +kernel
theorem d_M_work_117 : decode c_M_work 117 = .ok (.iload_n 1, 1) := by decide +kernel
theorem d_M_work_118 : decode c_M_work 118 = .ok (.iaload, 1) := by decide +kernel
theorem d_M_work_119 : decode c_M_work 119 = .ok (.if_icmp .ge 13, 3) := by decide +kernel
theorem d_M_work_122 : decode c_M_work 122 = .ok (.aload_n 0, 1) := by decide +kernel
theorem d_M_work_123 : decode c_M_work 123 = .ok (.iload_n 2, 1) := by decide +kernel
theorem d_M_work_124 : decode c_M_work 124 = .ok (.invokevirtual 76, 3) := by decide +kernel
theorem d_M_work_127 : decode c_M_work 127 = .ok (.ifCond .eq 5, 3) := by decide +kernel
theorem d_M_work_130 : decode c_M_work 130 = .ok (.iload_n 2, 1) := by decide +kernel
theorem d_M_work_131 : decode c_M_work 131 = .ok (.istore_n 1, 1) := by decide +kernel
theorem d_M_work_132 : decode c_M_work 132 = .ok (.iinc 2 1, 3) := by decide +kernel
theorem d_M_work_135 : decode c_M_work 135 = .ok (.goto (-40), 3) := by decide +kernel
theorem d_M_work_138 : decode c_M_work 138 = .ok (.iload_n 1, 1) := by decide +kernel
theorem d_M_work_139 : decode c_M_work 139 = .ok (.ifCond .ge 6, 3) := by decide +kernel
theorem d_M_work_142 : decode c_M_work 142 = .ok (.goto (-55), 3) := by decide +kernel
theorem d_M_work_145 : decode c_M_work 145 = .ok (.aload_n 0, 1) := by decide +kernel
theorem d_M_work_146 : decode c_M_work 146 = .ok (.getfield 29, 3) := by decide +kernel
theorem d_M_work_149 : decode c_M_work 149 = .ok (.iload_n 1, 1) := by decide +kernel
theorem d_M_work_150 : decode c_M_work 150 = .ok (.iconst 1, 1) := by decide +kernel
theorem d_M_work_151 : decode c_M_work 151 = .ok (.bastore, 1) := by decide +kernel
theorem d_M_work_152 : decode c_M_work 152 = .ok (.aload_n 0, 1) := by decide +kernel
theorem d_M_work_153 : decode c_M_work 153 = .ok (.getfield 32, 3) := by decide +kernel
theorem d_M_work_156 : decode c_M_work 156 = .ok (.aload_n 0, 1) := by decide +kernel
theorem d_M_work_157 : decode c_M_work 157 = .ok (.getfield 70, 3) := by decide +kernel
theorem d_M_work_160 : decode c_M_work 160 = .ok (.aload_n 0, 1) := by decide +kernel
theorem d_M_work_161 : decode c_M_work 161 = .ok (.getfield 16, 3) := by decide +kernel
theorem d_M_work_164 : decode c_M_work 164 = .ok (.iload_n 1, 1) := by decide +kernel
theorem d_M_work_165 : decode c_M_work 165 = .ok (.iaload, 1) := by decide +kernel
theorem d_M_work_166 : decode c_M_work 166 = .ok (.iastore, 1) := by decide +kernel
theorem d_M_work_167 : decode c_M_work 167 = .ok (.aload_n 0, 1) := by decide +kernel
theorem d_M_work_168 : decode c_M_work 168 = .ok (.dup, 1) := by decide +kernel
theorem d_M_work_169 : decode c_M_work 169 = .ok (.getfield 70, 3) := by decide +kernel
theorem d_M_work_172 : decode c_M_work 172 = .ok (.iconst 1, 1) := by decide +kernel
theorem d_M_work_173 : decode c_M_work 173 = .ok (.iadd, 1) := by decide +kernel
theorem d_M_work_174 : decode c_M_work 174 = .ok (.putfield 70, 3) := by decide +kernel
theorem d_M_work_177 : decode c_M_work 177 = .ok (.goto (-90), 3) := by decide +kernel
theorem d_M_work_180 : decode c_M_work 180 = .ok (.aload_n 0, 1) := by decide +kernel
theorem d_M_work_181 : decode c_M_work 181 = .ok (.getfield 70, 3) := by decide +kernel
theorem d_M_work_184 : decode c_M_work 184 = .ok (.ireturn, 1) := by decide +kernel
theorem d_M_worked_0 : decode c_M_worked 0 = .ok (.aload_n 0, 1) := by decide +kernel
theorem d_M_worked_1 : decode c_M_worked 1 = .ok (.iconst 0, 1) := by decide +kernel
theorem d_M_worked_2 : decode c_M_worked 2 = .ok (.putfield 35, 3) := by decide +kernel
theorem d_M_worked_5 : decode c_M_worked 5 = .ok (.iload_n 1, 1) := by decide +kernel
theorem d_M_worked_6 : decode c_M_worked 6 = .ok (.ifCond .lt 20, 3) := by decide +kernel
theorem d_M_worked_9 : decode c_M_worked 9 = .ok (.iload_n 1, 1) := by decide +kernel
theorem d_M_worked_10 : decode c_M_worked 10 = .ok (.aload_n 0, 1) := by decide +kernel
theorem d_M_worked_11 : decode c_M_worked 11 = .ok (.getfield 70, 3) := by decide +kernel
theorem d_M_worked_14 : decode c_M_worked 14 = .ok (.if_icmp .ge 12, 3) := by decide +kernel
theorem d_M_worked_17 : decode c_M_worked 17 = .ok (.aload_n 0, 1) := by decide +kernel
theorem d_M_worked_18 : decode c_M_worked 18 = .ok (.getfield 32, 3) := by decide +kernel
theorem d_M_worked_21 : decode c_M_worked 21 = .ok (.iload_n 1, 1) := by decide +kernel
theorem d_M_worked_22 : decode c_M_worked 22 = .ok (.iaload, 1) := by decide +kernel
theorem d_M_worked_23 : decode c_M_worked 23 = .ok (.goto 4, 3) := by decide +kernel
theorem d_M_worked_26 : decode c_M_worked 26 = .ok (.iconst (-1), 1) := by decide +kernel
theorem d_M_worked_27 : decode c_M_worked 27 = .ok (.ireturn, 1) := by decide +kernel
theorem d_M_found_0 : decode c_M_found 0 = .ok (.aload_n 0, 1) := by decide +kernel
theorem d_M_found_1 : decode c_M_found 1 = .ok (.iconst 0, 1) := by decide +kernel
theorem d_M_found_2 : decode c_M_found 2 = .ok (.putfield 35, 3) := by decide +kernel
theorem d_M_found_5 : decode c_M_found 5 = .ok (.aload_n 0, 1) := by decide +kernel
theorem d_M_found_6 : decode c_M_found 6 = .ok (.getfield 73, 3) := by decide +kernel
theorem d_M_found_9 : decode c_M_found 9 = .ok (.ireturn, 1) := by decide +kernel
theorem d_M_ringed_0 : decode c_M_ringed 0 = .ok (.aload_n 0, 1) := by decide +kernel
theorem d_M_ringed_1 : decode c_M_ringed 1 = .ok (.iconst 0, 1) := by decide +kernel
theorem d_M_ringed_2 : decode c_M_ringed 2 = .ok (.putfield 35, 3) := by decide +kernel
theorem d_M_ringed_5 : decode c_M_ringed 5 = .ok (.iload_n 1, 1) := by decide +kernel
theorem d_M_ringed_6 : decode c_M_ringed 6 = .ok (.invokestatic 49, 3) := by decide +kernel
theorem d_M_ringed_9 : decode c_M_ringed 9 = .ok (.ifCond .eq 11, 3) := by decide +kernel
theorem d_M_ringed_12 : decode c_M_ringed 12 = .ok (.aload_n 0, 1) := by decide +kernel
theorem d_M_ringed_13 : decode c_M_ringed 13 = .ok (.iload_n 1, 1) := by decide +kernel
theorem d_M_ringed_14 : decode c_M_ringed 14 = .ok (.invokevirtual 42, 3) := by decide +kernel
theorem d_M_ringed_17 : decode c_M_ringed 17 = .ok (.goto 4, 3) := by decide +kernel
theorem d_M_ringed_20 : decode c_M_ringed 20 = .ok (.iconst (-1), 1) := by decide +kernel
theorem d_M_ringed_21 : decode c_M_ringed 21 = .ok (.istore_n 2, 1) := by decide +kernel
theorem d_M_ringed_22 : decode c_M_ringed 22 = .ok (.iload_n 2, 1) := by decide +kernel
theorem d_M_ringed_23 : decode c_M_ringed 23 = .ok (.ifCond .lt 16, 3) := by decide +kernel
theorem d_M_ringed_26 : decode c_M_ringed 26 = .ok (.aload_n 0, 1) := by decide +kernel
theorem d_M_ringed_27 : decode c_M_ringed 27 = .ok (.getfield 23, 3) := by decide +kernel
theorem d_M_ringed_30 : decode c_M_ringed 30 = .ok (.iload_n 2, 1) := by decide +kernel
theorem d_M_ringed_31 : decode c_M_ringed 31 = .ok (.baload, 1) := by decide +kernel
theorem d_M_ringed_32 : decode c_M_ringed 32 = .ok (.ifCond .eq 7, 3) := by decide +kernel
theorem d_M_ringed_35 : decode c_M_ringed 35 = .ok (.iconst 1, 1) := by decide +kernel
theorem d_M_ringed_36 : decode c_M_ringed 36 = .ok (.goto 4, 3) := by decide +kernel
theorem d_M_ringed_39 : decode c_M_ringed 39 = .ok (.iconst 0, 1) := by decide +kernel
theorem d_M_ringed_40 : decode c_M_ringed 40 = .ok (.ireturn, 1) := by decide +kernel
end
section
theorem d_M_links_0 : decode c_M_links 0 = .ok (.aload_n 0, 1) := by decide +kernel
theorem d_M_links_1 : decode c_M_links 1 = .ok (.iconst 0, 1) := by decide +kernel
theorem d_M_links_2 : decode c_M_links 2 = .ok (.putfield 35, 3) := by decide +kernel
theorem d_M_links_5 : decode c_M_links 5 = .ok (.iload_n 1, 1) := by decide +kernel
theorem d_M_links_6 : decode c_M_links 6 = .ok (.invokestatic 49, 3) := by decide +kernel
theorem d_M_links_9 : decode c_M_links 9 = .ok (.ifCond .eq 12, 3) := by decide +kernel
theorem d_M_links_12 : decode c_M_links 12 = .ok (.iload_n 2, 1) := by decide +kernel
theorem d_M_links_13 : decode c_M_links 13 = .ok (.ifCond .lt 8, 3) := by decide +kernel
theorem d_M_links_16 : decode c_M_links 16 = .ok (.iload_n 2, 1) := by decide +kernel
theorem d_M_links_17 : decode c_M_links 17 = .ok (.iconst 1, 1) := by decide +kernel
theorem d_M_links_18 : decode c_M_links 18 = .ok (.if_icmp .le 5, 3) := by decide +kernel
theorem d_M_links_21 : decode c_M_links 21 = .ok (.iconst (-1), 1) := by decide +kernel
theorem d_M_links_22 : decode c_M_links 22 = .ok (.ireturn, 1) := by decide +kernel
theorem d_M_links_23 : decode c_M_links 23 = .ok (.aload_n 0, 1) := by decide +kernel
theorem d_M_links_24 : decode c_M_links 24 = .ok (.iload_n 1, 1) := by decide +kernel
theorem d_M_links_25 : decode c_M_links 25 = .ok (.invokevirtual 42, 3) := by decide +kernel
theorem d_M_links_28 : decode c_M_links 28 = .ok (.istore_n 3, 1) := by decide +kernel
theorem d_M_links_29 : decode c_M_links 29 = .ok (.iconst 0, 1) := by decide +kernel
theorem d_M_links_30 : decode c_M_links 30 = .ok (.istore 4, 2) := by decide +kernel
theorem d_M_links_32 : decode c_M_links 32 = .ok (.iconst 0, 1) := by decide +kernel
theorem d_M_links_33 : decode c_M_links 33 = .ok (.istore 5, 2) := by decide +kernel
theorem d_M_links_35 : decode c_M_links 35 = .ok (.iload 5, 2) := by decide +kernel
theorem d_M_links_37 : decode c_M_links 37 = .ok (.aload_n 0, 1) := by decide +kernel
theorem d_M_links_38 : decode c_M_links 38 = .ok (.getfield 46, 3) := by decide +kernel
theorem d_M_links_41 : decode c_M_links 41 = .ok (.if_icmp .ge 44, 3) := by decide +kernel
theorem d_M_links_44 : decode c_M_links 44 = .ok (.iload 4, 2) := by decide +kernel
theorem d_M_links_46 : decode c_M_links 46 = .ok (.iload_n 2, 1) := by decide +kernel
theorem d_M_links_47 : decode c_M_links 47 = .ok (.ifCond .ne 13, 3) := by decide +kernel
theorem d_M_links_50 : decode c_M_links 50 = .ok (.aload_n 0, 1) := by decide +kernel
theorem d_M_links_51 : decode c_M_links 51 = .ok (.getfield 13, 3) := by decide +kernel
theorem d_M_links_54 : decode c_M_links 54 = .ok (.iload 5, 2) := by decide +kernel
theorem d_M_links_56 : decode c_M_links 56 = .ok (.iaload, 1) := by decide +kernel
theorem d_M_links_57 : decode c_M_links 57 = .ok (.goto 10, 3) := by decide +kernel
theorem d_M_links_60 : decode c_M_links 60 = .ok (.aload_n 0, 1) := by decide +kernel
theorem d_M_links_61 : decode c_M_links 61 = .ok (.getfield 7, 3) := by decide +kernel
theorem d_M_links_64 : decode c_M_links 64 = .ok (.iload 5, 2) := by decide +kernel
theorem d_M_links_66 : decode c_M_links 66 = .ok (.iaload, 1) := by decide +kernel
theorem d_M_links_67 : decode c_M_links 67 = .ok (.iload_n 3, 1) := by decide +kernel
theorem d_M_links_68 : decode c_M_links 68 = .ok (.if_icmp .ne 7, 3) := by decide +kernel
theorem d_M_links_71 : decode c_M_links 71 = .ok (.iconst 1, 1) := by decide +kernel
theorem d_M_links_72 : decode c_M_links 72 = .ok (.goto 4, 3) := by decide +kernel
theorem d_M_links_75 : decode c_M_links 75 = .ok (.iconst 0, 1) := by decide +kernel
theorem d_M_links_76 : decode c_M_links 76 = .ok (.iadd, 1) := by decide +kernel
theorem d_M_links_77 : decode c_M_links 77 = .ok (.istore 4, 2) := by decide +kernel
theorem d_M_links_79 : decode c_M_links 79 = .ok (.iinc 5 1, 3) := by decide +kernel
theorem d_M_links_82 : decode c_M_links 82 = .ok (.goto (-47), 3) := by decide +kernel
theorem d_M_links_85 : decode c_M_links 85 = .ok (.iload 4, 2) := by decide +kernel
theorem d_M_links_87 : decode c_M_links 87 = .ok (.ireturn, 1) := by decide +kernel
theorem d_M_touched_0 : decode c_M_touched 0 = .ok (.aload_n 0, 1) := by decide +kernel
theorem d_M_touched_1 : decode c_M_touched 1 = .ok (.iconst 0, 1) := by decide +kernel
theorem d_M_touched_2 : decode c_M_touched 2 = .ok (.putfield 35, 3) := by decide +kernel
theorem d_M_touched_5 : decode c_M_touched 5 = .ok (.iload_n 1, 1) := by decide +kernel
theorem d_M_touched_6 : decode c_M_touched 6 = .ok (.invokestatic 49, 3) := by decide +kernel
theorem d_M_touched_9 : decode c_M_touched 9 = .ok (.ifCond .eq 11, 3) := by decide +kernel
theorem d_M_touched_12 : decode c_M_touched 12 = .ok (.aload_n 0, 1) := by decide +kernel
theorem d_M_touched_13 : decode c_M_touched 13 = .ok (.iload_n 1, 1) := by decide +kernel
theorem d_M_touched_14 : decode c_M_touched 14 = .ok (.invokevirtual 42, 3) := by decide +kernel
theorem d_M_touched_17 : decode c_M_touched 17 = .ok (.goto 4, 3) := by decide +kernel
theorem d_M_touched_20 : decode c_M_touched 20 = .ok (.iconst (-1), 1) := by decide +kernel
theorem d_M_touched_21 : decode c_M_touched 21 = .ok (.istore_n 2, 1) := by decide +kernel
theorem d_M_touched_22 : decode c_M_touched 22 = .ok (.iload_n 2, 1) := by decide +kernel
theorem d_M_touched_23 : decode c_M_touched 23 = .ok (.ifCond .lt 16, 3) := by decide +kernel
theorem d_M_touched_26 : decode c_M_touched 26 = .ok (.aload_n 0, 1) := by decide +kernel
theorem d_M_touched_27 : decode c_M_touched 27 = .ok (.getfield 19, 3) := by decide +kernel
theorem d_M_touched_30 : decode c_M_touched 30 = .ok (.iload_n 2, 1) := by decide +kernel
theorem d_M_touched_31 : decode c_M_touched 31 = .ok (.baload, 1) := by decide +kernel
theorem d_M_touched_32 : decode c_M_touched 32 = .ok (.ifCond .eq 7, 3) := by decide +kernel
theorem d_M_touched_35 : decode c_M_touched 35 = .ok (.iconst 1, 1) := by decide +kernel
theorem d_M_touched_36 : decode c_M_touched 36 = .ok (.goto 4, 3) := by decide +kernel
theorem d_M_touched_39 : decode c_M_touched 39 = .ok (.iconst 0, 1) := by decide +kernel
theorem d_M_touched_40 : decode c_M_touched 40 = .ok (.ireturn, 1) := by decide +kernel
theorem d_F_init_0 : decode c_F_init 0 = .ok (.aload_n 0, 1) := by decide +kernel
theorem d_F_init_1 : decode c_F_init 1 = .ok (.invokespecial 1, 3) := by decide +kernel
theorem d_F_init_4 : decode c_F_init 4 = .ok (.aload_n 0, 1) := by decide +kernel
theorem d_F_init_5 : decode c_F_init 5 = .ok (.new 7, 3) := by decide +kernel
theorem d_F_init_8 : decode c_F_init 8 = .ok (.dup, 1) := by decide +kernel
theorem d_F_init_9 : decode c_F_init 9 = .ok (.invokespecial 9, 3) := by decide +kernel
theorem d_F_init_12 : decode c_F_init 12 = .ok (.putfield 10, 3) := by decide +kernel
theorem d_F_init_15 : decode c_F_init 15 = .ok (.return_, 1) := by decide +kernel
theorem d_F_isEmpty_0 : decode c_F_isEmpty 0 = .ok (.aload_n 0, 1) := by decide +kernel
theorem d_F_isEmpty_1 : decode c_F_isEmpty 1 = .ok (.getfield 10, 3) := by decide +kernel
theorem d_F_isEmpty_4 : decode c_F_isEmpty 4 = .ok (.getfield 16, 3) := by decide +kernel
theorem d_F_isEmpty_7 : decode c_F_isEmpty 7 = .ok (.ifCond .ne 7, 3) := by decide +kernel
theorem d_F_isEmpty_10 : decode c_F_isEmpty 10 = .ok (.iconst 1, 1) := by decide +kernel
theorem d_F_isEmpty_11 : decode c_F_isEmpty 11 = .ok (.goto 4, 3) := by decide +kernel
theorem d_F_isEmpty_14 : decode c_F_isEmpty 14 = .ok (.iconst 0, 1) := by decide +kernel
theorem d_F_isEmpty_15 : decode c_F_isEmpty 15 = .ok (.ireturn, 1) := by decide +kernel
theorem d_F_put_0 : decode c_F_put 0 = .ok (.aload_n 0, 1) := by decide +kernel
theorem d_F_put_1 : decode c_F_put 1 = .ok (.getfield 10, 3) := by decide +kernel
theorem d_F_put_4 : decode c_F_put 4 = .ok (.iload_n 1, 1) := by decide +kernel
theorem d_F_put_5 : decode c_F_put 5 = .ok (.invokevirtual 20, 3) := by decide +kernel
theorem d_F_put_8 : decode c_F_put 8 = .ok (.aload_n 0, 1) := by decide +kernel
theorem d_F_put_9 : decode c_F_put 9 = .ok (.getfield 10, 3) := by decide +kernel
theorem d_F_put_12 : decode c_F_put 12 = .ok (.getfield 16, 3) := by decide +kernel
theorem d_F_put_15 : decode c_F_put 15 = .ok (.iconst 1, 1) := by decide +kernel
theorem d_F_put_16 : decode c_F_put 16 = .ok (.isub, 1) := by decide +kernel
theorem d_F_put_17 : decode c_F_put 17 = .ok (.istore_n 2, 1) := by decide +kernel
theorem d_F_put_18 : decode c_F_put 18 = .ok (.iload_n 2, 1) := by decide +kernel
theorem d_F_put_19 : decode c_F_put 19 = .ok (.ifCond .le 45, 3) := by decide +kernel
theorem d_F_put_22 : decode c_F_put 22 = .ok (.iload_n 2, 1) := by decide +kernel
theorem d_F_put_23 : decode c_F_put 23 = .ok (.iconst 1, 1) := by decide +kernel
theorem d_F_put_24 : decode c_F_put 24 = .ok (.isub, 1) := by decide +kernel
theorem d_F_put_25 : decode c_F_put 25 = .ok (.iconst 1, 1) := by decide +kernel
theorem d_F_put_26 : decode c_F_put 26 = .ok (.ishr, 1) := by decide +kernel
theorem d_F_put_27 : decode c_F_put 27 = .ok (.istore_n 3, 1) := by decide +kernel
theorem d_F_put_28 : decode c_F_put 28 = .ok (.aload_n 0, 1) := by decide +kernel
theorem d_F_put_29 : decode c_F_put 29 = .ok (.getfield 10, 3) := by decide +kernel
theorem d_F_put_32 : decode c_F_put 32 = .ok (.iload_n 3, 1) := by decide +kernel
theorem d_F_put_33 : decode c_F_put 33 = .ok (.invokevirtual 24, 3) := by decide +kernel
theorem d_F_put_36 : decode c_F_put 36 = .ok (.iload_n 1, 1) := by decide +kernel
theorem d_F_put_37 : decode c_F_put 37 = .ok (.if_icmp .gt 6, 3) := by decide +kernel
theorem d_F_put_40 : decode c_F_put 40 = .ok (.goto 24, 3) := by decide +kernel
theorem d_F_put_43 : decode c_F_put 43 = .ok (.aload_n 0, 1) := by decide +kernel
theorem d_F_put_44 : decode c_F_put 44 = .ok (.getfield 10, 3) := by decide +kernel
theorem d_F_put_47 : decode c_F_put 47 = .ok (.iload_n 2, 1) := by decide +kernel
theorem d_F_put_48 : decode c_F_put 48 = .ok (.aload_n 0, 1) := by decide +kernel
theorem d_F_put_49 : decode c_F_put 49 = .ok (.getfield 10, 3) := by decide +kernel
theorem d_F_put_52 : decode c_F_put 52 = .ok (.iload_n 3, 1) := by decide +kernel
theorem d_F_put_53 : decode c_F_put 53 = .ok (.invokevirtual 24, 3) := by decide +kernel
theorem d_F_put_56 : decode c_F_put 56 = .ok (.invokevirtual 28, 3) := by decide +kernel
theorem d_F_put_59 : decode c_F_put 59 = .ok (.iload_n 3, 1) := by decide +kernel
theorem d_F_put_60 : decode c_F_put 60 = .ok (.istore_n 2, 1) := by decide +kernel
theorem d_F_put_61 : decode c_F_put 61 = .ok (.goto (-43), 3) := by decide +kernel
theorem d_F_put_64 : decode c_F_put 64 = .ok (.aload_n 0, 1) := by decide +kernel
theorem d_F_put_65 : decode c_F_put 65 = .ok (.getfield 10, 3) := by decide +kernel
theorem d_F_put_68 : decode c_F_put 68 = .ok (.iload_n 2, 1) := by decide +kernel
theorem d_F_put_69 : decode c_F_put 69 = .ok (.iload_n 1, 1) := by decide +kernel
theorem d_F_put_70 : decode c_F_put 70 = .ok (.invokevirtual 28, 3) := by decide +kernel
theorem d_F_put_73 : decode c_F_put 73 = .ok (.return_, 1) := by decide +kernel
theorem d_F_take_0 : decode c_F_take 0 = .ok (.aload_n 0, 1) := by decide +kernel
theorem d_F_take_1 : decode c_F_take 1 = .ok (.getfield 10, 3) := by decide +kernel
theorem d_F_take_4 : decode c_F_take 4 = .ok (.iconst 0, 1) := by decide +kernel
theorem d_F_take_5 : decode c_F_take 5 = .ok (.invokevirtual 24, 3) := by decide +kernel
theorem d_F_take_8 : decode c_F_take 8 = .ok (.istore_n 1, 1) := by decide +kernel
theorem d_F_take_9 : decode c_F_take 9 = .ok (.aload_n 0, 1) := by decide +kernel
theorem d_F_take_10 : decode c_F_take 10 = .ok (.getfield 10, 3) := by decide +kernel
theorem d_F_take_13 : decode c_F_take 13 = .ok (.invokevirtual 32, 3) := by decide +kernel
theorem d_F_take_16 : decode c_F_take 16 = .ok (.istore_n 2, 1) := by decide +kernel
theorem d_F_take_17 : decode c_F_take 17 = .ok (.aload_n 0, 1) := by decide +kernel
theorem d_F_take_18 : decode c_F_take 18 = .ok (.iload_n 2, 1) := by decide +kernel
theorem d_F_take_19 : decode c_F_take 19 = .ok (.invokevirtual 36, 3) := by decide +kernel
theorem d_F_take_22 : decode c_F_take 22 = .ok (.iload_n 1, 1) := by decide +kernel
theorem d_F_take_23 : decode c_F_take 23 = .ok (.ireturn, 1) := by decide +kernel
theorem d_F_sinkFromTop_0 : decode c_F_sinkFromTop 0 = .ok (.iconst 0, 1) := by decide +kernel
theorem d_F_sinkFromTop_1 : decode c_F_sinkFromTop 1 = .ok (.istore_n 2, 1) := by decide +kernel
theorem d_F_sinkFromTop_2 : decode c_F_sinkFromTop 2 = .ok (.iconst 2, 1) := by decide +kernel
theorem d_F_sinkFromTop_3 : decode c_F_sinkFromTop 3 = .ok (.iload_n 2, 1) := by decide +kernel
theorem d_F_sinkFromTop_4 : decode c_F_sinkFromTop 4 = .ok (.imul, 1) := by decide +kernel
theorem d_F_sinkFromTop_5 : decode c_F_sinkFromTop 5 = .ok (.iconst 1, 1) := by decide +kernel
theorem d_F_sinkFromTop_6 : decode c_F_sinkFromTop 6 = .ok (.iadd, 1) := by decide +kernel
theorem d_F_sinkFromTop_7 : decode c_F_sinkFromTop 7 = .ok (.aload_n 0, 1) := by decide +kernel
theorem d_F_sinkFromTop_8 : decode c_F_sinkFromTop 8 = .ok (.getfield 10, 3) := by decide +kernel
theorem d_F_sinkFromTop_11 : decode c_F_sinkFromTop 11 = .ok (.getfield 16, 3) := by decide +kernel
theorem d_F_sinkFromTop_14 : decode c_F_sinkFromTop 14 = .ok (.if_icmp .ge 45, 3) := by decide +kernel
theorem d_F_sinkFromTop_17 : decode c_F_sinkFromTop 17 = .ok (.aload_n 0, 1) := by decide +kernel
theorem d_F_sinkFromTop_18 : decode c_F_sinkFromTop 18 = .ok (.iload_n 2, 1) := by decide +kernel
theorem d_F_sinkFromTop_19 : decode c_F_sinkFromTop 19 = .ok (.invokevirtual 39, 3) := by decide +kernel
theorem d_F_sinkFromTop_22 : decode c_F_sinkFromTop 22 = .ok (.istore_n 3, 1) := by decide +kernel
theorem d_F_sinkFromTop_23 : decode c_F_sinkFromTop 23 = .ok (.aload_n 0, 1) := by decide +kernel
theorem d_F_sinkFromTop_24 : decode c_F_sinkFromTop 24 = .ok (.getfield 10, 3) := by decide +kernel
theorem d_F_sinkFromTop_27 : decode c_F_sinkFromTop 27 = .ok (.iload_n 3, 1) := by decide +kernel
theorem d_F_sinkFromTop_28 : decode c_F_sinkFromTop 28 = .ok (.invokevirtual 24, 3) := by decide +kernel
theorem d_F_sinkFromTop_31 : decode c_F_sinkFromTop 31 = .ok (.iload_n 1, 1) := by decide +kernel
theorem d_F_sinkFromTop_32 : decode c_F_sinkFromTop 32 = .ok (.if_icmp .lt 6, 3) := by decide +kernel
theorem d_F_sinkFromTop_35 : decode c_F_sinkFromTop 35 = .ok (.goto 24, 3) := by decide +kernel
theorem d_F_sinkFromTop_38 : decode c_F_sinkFromTop 38 = .ok (.aload_n 0, 1) := by decide +kernel
theorem d_F_sinkFromTop_39 : decode c_F_sinkFromTop 39 = .ok (.getfield 10, 3) := by decide +kernel
theorem d_F_sinkFromTop_42 : decode c_F_sinkFromTop 42 = .ok (.iload_n 2, 1) := by decide +kernel
theorem d_F_sinkFromTop_43 : decode c_F_sinkFromTop 43 = .ok (.aload_n 0, 1) := by decide +kernel
theorem d_F_sinkFromTop_44 : decode c_F_sinkFromTop 44 = .ok (.getfield 10, 3) := by decide +kernel
theorem d_F_sinkFromTop_47 : decode c_F_sinkFromTop 47 = .ok (.iload_n 3, 1) := by decide +kernel
theorem d_F_sinkFromTop_48 : decode c_F_sinkFromTop 48 = .ok (.invokevirtual 24, 3) := by decide +kernel
theorem d_F_sinkFromTop_51 : decode c_F_sinkFromTop 51 = .ok (.invokevirtual 28, 3) := by decide +kernel
theorem d_F_sinkFromTop_54 : decode c_F_sinkFromTop 54 = .ok (.iload_n 3, 1) := by decide +kernel
theorem d_F_sinkFromTop_55 : decode c_F_sinkFromTop 55 = .ok (.istore_n 2, 1) := by decide +kernel
theorem d_F_sinkFromTop_56 : decode c_F_sinkFromTop 56 = .ok (.goto (-54), 3) := by decide +kernel
theorem d_F_sinkFromTop_59 : decode c_F_sinkFromTop 59 = .ok (.aload_n 0, 1) := by decide +kernel
theorem d_F_sinkFromTop_60 : decode c_F_sinkFromTop 60 = .ok (.getfield 10, 3) := by decide +kernel
theorem d_F_sinkFromTop_63 : decode c_F_sinkFromTop 63 = .ok (.iload_n 2, 1) := by decide +kernel
theorem d_F_sinkFromTop_64 : decode c_F_sinkFromTop 64 = .ok (.iload_n 1, 1) := by decide +kernel
theorem d_F_sinkFromTop_65 : decode c_F_sinkFromTop 65 = .ok (.invokevirtual 28, 3) := by decide +kernel
theorem d_F_sinkFromTop_68 : decode c_F_sinkFromTop 68 = .ok (.return_, 1) := by decide +kernel
theorem d_F_lesserBelow_0 : decode c_F_lesserBelow 0 = .ok (.iconst 2, 1) := by decide +kernel
theorem d_F_lesserBelow_1 : decode c_F_lesserBelow 1 = .ok (.iload_n 1, 1) := by decide +kernel
theorem d_F_lesserBelow_2 : decode c_F_lesserBelow 2 = .ok (.imul, 1) := by decide +kernel
theorem d_F_lesserBelow_3 : decode c_F_lesserBelow 3 = .ok (.iconst 1, 1) := by decide +kernel
theorem d_F_lesserBelow_4 : decode c_F_lesserBelow 4 = .ok (.iadd, 1) := by decide +kernel
theorem d_F_lesserBelow_5 : decode c_F_lesserBelow 5 = .ok (.istore_n 2, 1) := by decide +kernel
theorem d_F_lesserBelow_6 : decode c_F_lesserBelow 6 = .ok (.iload_n 2, 1) := by decide +kernel
theorem d_F_lesserBelow_7 : decode c_F_lesserBelow 7 = .ok (.iconst 1, 1) := by decide +kernel
theorem d_F_lesserBelow_8 : decode c_F_lesserBelow 8 = .ok (.iadd, 1) := by decide +kernel
theorem d_F_lesserBelow_9 : decode c_F_lesserBelow 9 = .ok (.istore_n 3, 1) := by decide +kernel
theorem d_F_lesserBelow_10 : decode c_F_lesserBelow 10 = .ok (.iload_n 3, 1) := by decide +kernel
theorem d_F_lesserBelow_11 : decode c_F_lesserBelow 11 = .ok (.aload_n 0, 1) := by decide +kernel
theorem d_F_lesserBelow_12 : decode c_F_lesserBelow 12 = .ok (.getfield 10, 3) := by decide +kernel
theorem d_F_lesserBelow_15 : decode c_F_lesserBelow 15 = .ok (.getfield 16, 3) := by decide +kernel
theorem d_F_lesserBelow_18 : decode c_F_lesserBelow 18 = .ok (.if_icmp .ge 26, 3) := by decide +kernel
theorem d_F_lesserBelow_21 : decode c_F_lesserBelow 21 = .ok (.aload_n 0, 1) := by decide +kernel
theorem d_F_lesserBelow_22 : decode c_F_lesserBelow 22 = .ok (.getfield 10, 3) := by decide +kernel
theorem d_F_lesserBelow_25 : decode c_F_lesserBelow 25 = .ok (.iload_n 3, 1) := by decide +kernel
theorem d_F_lesserBelow_26 : decode c_F_lesserBelow 26 = .ok (.invokevirtual 24, 3) := by decide +kernel
theorem d_F_lesserBelow_29 : decode c_F_lesserBelow 29 = .ok (.aload_n 0, 1) := by decide +kernel
theorem d_F_lesserBelow_30 : decode c_F_lesserBelow 30 = .ok (.getfield 10, 3) := by decide +kernel
theorem d_F_lesserBelow_33 : decode c_F_lesserBelow 33 = .ok (.iload_n 2, 1) := by decide +kernel
theorem d_F_lesserBelow_34 : decode c_F_lesserBelow 34 = .ok (.invokevirtual 24, 3) := by decide +kernel
theorem d_F_lesserBelow_37 : decode c_F_lesserBelow 37 = .ok (.if_icmp .ge 7, 3) := by decide +kernel
theorem d_F_lesserBelow_40 : decode c_F_lesserBelow 40 = .ok (.iload_n 3, 1) := by decide +kernel
theorem d_F_lesserBelow_41 : decode c_F_lesserBelow 41 = .ok (.goto 4, 3) := by decide +kernel
theorem d_F_lesserBelow_44 : decode c_F_lesserBelow 44 = .ok (.iload_n 2, 1) := by decide +kernel
theorem d_F_lesserBelow_45 : decode c_F_lesserBelow 45 = .ok (.ireturn, 1) := by decide +kernel
theorem d_K_init_0 : decode c_K_init 0 = .ok (.aload_n 0, 1) := by decide +kernel
theorem d_K_init_1 : decode c_K_init 1 = .ok (.invokespecial 1, 3) := by decide +kernel
theorem d_K_init_4 : decode c_K_init 4 = .ok (.aload_n 0, 1) := by decide +kernel
theorem d_K_init_5 : decode c_K_init 5 = .ok (.aload_n 1, 1) := by decide +kernel
theorem d_K_init_6 : decode c_K_init 6 = .ok (.putfield 7, 3) := by decide +kernel
theorem d_K_init_9 : decode c_K_init 9 = .ok (.aload_n 0, 1) := by decide +kernel
theorem d_K_init_10 : decode c_K_init 10 = .ok (.aload_n 2, 1) := by decide +kernel
theorem d_K_init_11 : decode c_K_init 11 = .ok (.putfield 13, 3) := by decide +kernel
theorem d_K_init_14 : decode c_K_init 14 = .ok (.return_, 1) := by decide +kernel
theorem d_K_fasten_0 : decode c_K_fasten 0 = .ok (.aload_n 0, 1) := by decide +kernel
theorem d_K_fasten_1 : decode c_K_fasten 1 = .ok (.invokevirtual 16, 3) := by decide +kernel
theorem d_K_fasten_4 : decode c_K_fasten 4 = .ok (.aload_n 0, 1) := by decide +kernel
theorem d_K_fasten_5 : decode c_K_fasten 5 = .ok (.invokevirtual 19, 3) := by decide +kernel
theorem d_K_fasten_8 : decode c_K_fasten 8 = .ok (.return_, 1) := by decide +kernel
theorem d_K_loosen_0 : decode c_K_loosen 0 = .ok (.aload_n 0, 1) := by decide +kernel
theorem d_K_loosen_1 : decode c_K_loosen 1 = .ok (.invokevirtual 22, 3) := by decide +kernel
theorem d_K_loosen_4 : decode c_K_loosen 4 = .ok (.aload_n 0, 1) := by decide +kernel
theorem d_K_loosen_5 : decode c_K_loosen 5 = .ok (.invokevirtual 25, 3) := by decide +kernel
theorem d_K_loosen_8 : decode c_K_loosen 8 = .ok (.return_, 1) := by decide +kernel
theorem d_K_joinReader_0 : decode c_K_joinReader 0 = .ok (.aload_n 0, 1) := by decide +kernel
theorem d_K_joinReader_1 : decode c_K_joinReader 1 = .ok (.aload_n 0, 1) := by decide +kernel
theorem d_K_joinReader_2 : decode c_K_joinReader 2 = .ok (.getfield 7, 3) := by decide +kernel
theorem d_K_joinReader_5 : decode c_K_joinReader 5 = .ok (.getfield 28, 3) := by decide +kernel
theorem d_K_joinReader_8 : decode c_K_joinReader 8 = .ok (.putfield 34, 3) := by decide +kernel
theorem d_K_joinReader_11 : decode c_K_joinReader 11 = .ok (.aload_n 0, 1) := by decide +kernel
theorem d_K_joinReader_12 : decode c_K_joinReader 12 = .ok (.getfield 34, 3) := by decide +kernel
theorem d_K_joinReader_15 : decode c_K_joinReader 15 = .ok (.ifnull 11, 3) := by decide +kernel
theorem d_K_joinReader_18 : decode c_K_joinReader 18 = .ok (.aload_n 0, 1) := by decide +kernel
theorem d_K_joinReader_19 : decode c_K_joinReader 19 = .ok (.getfield 34, 3) := by decide +kernel
theorem d_K_joinReader_22 : decode c_K_joinReader 22 = .ok (.aload_n 0, 1) := by decide +kernel
theorem d_K_joinReader_23 : decode c_K_joinReader 23 = .ok (.putfield 37, 3) := by decide +kernel
theorem d_K_joinReader_26 : decode c_K_joinReader 26 = .ok (.aload_n 0, 1) := by decide +kernel
theorem d_K_joinReader_27 : decode c_K_joinReader 27 = .ok (.getfield 7, 3) := by decide +kernel
theorem d_K_joinReader_30 : decode c_K_joinReader 30 = .ok (.aload_n 0, 1) := by decide +kernel
theorem d_K_joinReader_31 : decode c_K_joinReader 31 = .ok (.putfield 28, 3) := by decide +kernel
theorem d_K_joinReader_34 : decode c_K_joinReader 34 = .ok (.aload_n 0, 1) := by decide +kernel
theorem d_K_joinReader_35 : decode c_K_joinReader 35 = .ok (.getfield 7, 3) := by decide +kernel
theorem d_K_joinReader_38 : decode c_K_joinReader 38 = .ok (.dup, 1) := by decide +kernel
theorem d_K_joinReader_39 : decode c_K_joinReader 39 = .ok (.getfield 40, 3) := by decide +kernel
theorem d_K_joinReader_42 : decode c_K_joinReader 42 = .ok (.iconst 1, 1) := by decide +kernel
theorem d_K_joinReader_43 : decode c_K_joinReader 43 = .ok (.iadd, 1) := by decide +kernel
theorem d_K_joinReader_44 : decode c_K_joinReader 44 = .ok (.putfield 40, 3) := by decide +kernel
theorem d_K_joinReader_47 : decode c_K_joinReader 47 = .ok (.return_, 1) := by decide +kernel
theorem d_K_joinSource_0 : decode c_K_joinSource 0 = .ok (.aload_n 0, 1) := by decide +kernel
theorem d_K_joinSource_1 : decode c_K_joinSource 1 = .ok (.aload_n 0, 1) := by decide +kernel
theorem d_K_joinSource_2 : decode c_K_joinSource 2 = .ok (.getfield 13, 3) := by decide +kernel
theorem d_K_joinSource_5 : decode c_K_joinSource 5 = .ok (.getfield 44, 3) := by decide +kernel
theorem d_K_joinSource_8 : decode c_K_joinSource 8 = .ok (.putfield 47, 3) := by decide +kernel
theorem d_K_joinSource_11 : decode c_K_joinSource 11 = .ok (.aload_n 0, 1) := by decide +kernel
theorem d_K_joinSource_12 : decode c_K_joinSource 12 = .ok (.getfield 47, 3) := by decide +kernel
theorem d_K_joinSource_15 : decode c_K_joinSource 15 = .ok (.ifnull 11, 3) := by decide +kernel
theorem d_K_joinSource_18 : decode c_K_joinSource 18 = .ok (.aload_n 0, 1) := by decide +kernel
theorem d_K_joinSource_19 : decode c_K_joinSource 19 = .ok (.getfield 47, 3) := by decide +kernel
theorem d_K_joinSource_22 : decode c_K_joinSource 22 = .ok (.aload_n 0, 1) := by decide +kernel
theorem d_K_joinSource_23 : decode c_K_joinSource 23 = .ok (.putfield 50, 3) := by decide +kernel
theorem d_K_joinSource_26 : decode c_K_joinSource 26 = .ok (.aload_n 0, 1) := by decide +kernel
theorem d_K_joinSource_27 : decode c_K_joinSource 27 = .ok (.getfield 13, 3) := by decide +kernel
theorem d_K_joinSource_30 : decode c_K_joinSource 30 = .ok (.aload_n 0, 1) := by decide +kernel
theorem d_K_joinSource_31 : decode c_K_joinSource 31 = .ok (.putfield 44, 3) := by decide +kernel
theorem d_K_joinSource_34 : decode c_K_joinSource 34 = .ok (.aload_n 0, 1) := by decide +kernel
theorem d_K_joinSource_35 : decode c_K_joinSource 35 = .ok (.getfield 13, 3) := by decide +kernel
theorem d_K_joinSource_38 : decode c_K_joinSource 38 = .ok (.dup, 1) := by decide +kernel
theorem d_K_joinSource_39 : decode c_K_joinSource 39 = .ok (.getfield 53, 3) := by decide +kernel
theorem d_K_joinSource_42 : decode c_K_joinSource 42 = .ok (.iconst 1, 1) := by decide +kernel
theorem d_K_joinSource_43 : decode c_K_joinSource 43 = .ok (.iadd, 1) := by decide +kernel
theorem d_K_joinSource_44 : decode c_K_joinSource 44 = .ok (.putfield 53, 3) := by decide +kernel
theorem d_K_joinSource_47 : decode c_K_joinSource 47 = .ok (.return_, 1) := by decide +kernel
theorem d_K_leaveReader_0 : decode c_K_leaveReader 0 = .ok (.aload_n 0, 1) := by decide +kernel
theorem d_K_leaveReader_1 : decode c_K_leaveReader 1 = .ok (.getfield 37, 3) := by decide +kernel
theorem d_K_leaveReader_4 : decode c_K_leaveReader 4 = .ok (.ifnonnull 17, 3) := by decide +kernel
theorem d_K_leaveReader_7 : decode c_K_leaveReader 7 = .ok (.aload_n 0, 1) := by decide +kernel
theorem d_K_leaveReader_8 : decode c_K_leaveReader 8 = .ok (.getfield 7, 3) := by decide +kernel
theorem d_K_leaveReader_11 : decode c_K_leaveReader 11 = .ok (.aload_n 0, 1) := by decide +kernel
theorem d_K_leaveReader_12 : decode c_K_leaveReader 12 = .ok (.getfield 34, 3) := by decide +kernel
theorem d_K_leaveReader_15 : decode c_K_leaveReader 15 = .ok (.putfield 28, 3) := by decide +kernel
theorem d_K_leaveReader_18 : decode c_K_leaveReader 18 = .ok (.goto 14, 3) := by decide +kernel
theorem d_K_leaveReader_21 : decode c_K_leaveReader 21 = .ok (.aload_n 0, 1) := by decide +kernel
theorem d_K_leaveReader_22 : decode c_K_leaveReader 22 = .ok (.getfield 37, 3) := by decide +kernel
theorem d_K_leaveReader_25 : decode c_K_leaveReader 25 = .ok (.aload_n 0, 1) := by decide +kernel
theorem d_K_leaveReader_26 : decode c_K_leaveReader 26 = .ok (.getfield 34, 3) := by decide +kernel
theorem d_K_leaveReader_29 : decode c_K_leaveReader 29 = .ok (.putfield 34, 3) := by decide +kernel
theorem d_K_leaveReader_32 : decode c_K_leaveReader 32 = .ok (.aload_n 0, 1) := by decide +kernel
theorem d_K_leaveReader_33 : decode c_K_leaveReader 33 = .ok (.getfield 34, 3) := by decide +kernel
theorem d_K_leaveReader_36 : decode c_K_leaveReader 36 = .ok (.ifnull 14, 3) := by decide +kernel
theorem d_K_leaveReader_39 : decode c_K_leaveReader 39 = .ok (.aload_n 0, 1) := by decide +kernel
theorem d_K_leaveReader_40 : decode c_K_leaveReader 40 = .ok (.getfield 34, 3) := by decide +kernel
theorem d_K_leaveReader_43 : decode c_K_leaveReader 43 = .ok (.aload_n 0, 1) := by decide +kernel
theorem d_K_leaveReader_44 : decode c_K_leaveReader 44 = .ok (.getfield 37, 3) := by decide +kernel
theorem d_K_leaveReader_47 : decode c_K_leaveReader 47 = .ok (.putfield 37, 3) := by decide +kernel
theorem d_K_leaveReader_50 : decode c_K_leaveReader 50 = .ok (.aload_n 0, 1) := by decide +kernel
theorem d_K_leaveReader_51 : decode c_K_leaveReader 51 = .ok (.getfield 7, 3) := by decide +kernel
theorem d_K_leaveReader_54 : decode c_K_leaveReader 54 = .ok (.dup, 1) := by decide +kernel
theorem d_K_leaveReader_55 : decode c_K_leaveReader 55 = .ok (.getfield 40, 3) := by decide +kernel
theorem d_K_leaveReader_58 : decode c_K_leaveReader 58 = .ok (.iconst 1, 1) := by decide +kernel
theorem d_K_leaveReader_59 : decode c_K_leaveReader 59 = .ok (.isub, 1) := by decide +kernel
theorem d_K_leaveReader_60 : decode c_K_leaveReader 60 = .ok (.putfield 40, 3) := by decide +kernel
theorem d_K_leaveReader_63 : decode c_K_leaveReader 63 = .ok (.return_, 1) := by decide +kernel
end
section
theorem d_K_leaveSource_0 : decode c_K_leaveSource 0 = .ok (.aload_n 0, 1) := by decide +kernel
theorem d_K_leaveSource_1 : decode c_K_leaveSource 1 = .ok (.getfield 50, 3) := by decide +kernel
theorem d_K_leaveSource_4 : decode c_K_leaveSource 4 = .ok (.ifnonnull 17, 3) := by decide +kernel
theorem d_K_leaveSource_7 : decode c_K_leaveSource 7 = .ok (.aload_n 0, 1) := by decide +kernel
theorem d_K_leaveSource_8 : decode c_K_leaveSource 8 = .ok (.getfield 13, 3) := by decide +kernel
theorem d_K_leaveSource_11 : decode c_K_leaveSource 11 = .ok (.aload_n 0, 1) := by decide +kernel
theorem d_K_leaveSource_12 : decode c_K_leaveSource 12 = .ok (.getfield 47, 3) := by decide +kernel
theorem d_K_leaveSource_15 : decode c_K_leaveSource 15 = .ok (.putfield 44, 3) := by decide +kernel
theorem d_K_leaveSource_18 : decode c_K_leaveSource 18 = .ok (.goto 14, 3) := by decide +kernel
theorem d_K_leaveSource_21 : decode c_K_leaveSource 21 = .ok (.aload_n 0, 1) := by decide +kernel
theorem d_K_leaveSource_22 : decode c_K_leaveSource 22 = .ok (.getfield 50, 3) := by decide +kernel
theorem d_K_leaveSource_25 : decode c_K_leaveSource 25 = .ok (.aload_n 0, 1) := by decide +kernel
theorem d_K_leaveSource_26 : decode c_K_leaveSource 26 = .ok (.getfield 47, 3) := by decide +kernel
theorem d_K_leaveSource_29 : decode c_K_leaveSource 29 = .ok (.putfield 47, 3) := by decide +kernel
theorem d_K_leaveSource_32 : decode c_K_leaveSource 32 = .ok (.aload_n 0, 1) := by decide +kernel
theorem d_K_leaveSource_33 : decode c_K_leaveSource 33 = .ok (.getfield 47, 3) := by decide +kernel
theorem d_K_leaveSource_36 : decode c_K_leaveSource 36 = .ok (.ifnull 14, 3) := by decide +kernel
theorem d_K_leaveSource_39 : decode c_K_leaveSource 39 = .ok (.aload_n 0, 1) := by decide +kernel
theorem d_K_leaveSource_40 : decode c_K_leaveSource 40 = .ok (.getfield 47, 3) := by decide +kernel
theorem d_K_leaveSource_43 : decode c_K_leaveSource 43 = .ok (.aload_n 0, 1) := by decide +kernel
theorem d_K_leaveSource_44 : decode c_K_leaveSource 44 = .ok (.getfield 50, 3) := by decide +kernel
theorem d_K_leaveSource_47 : decode c_K_leaveSource 47 = .ok (.putfield 50, 3) := by decide +kernel
theorem d_K_leaveSource_50 : decode c_K_leaveSource 50 = .ok (.aload_n 0, 1) := by decide +kernel
theorem d_K_leaveSource_51 : decode c_K_leaveSource 51 = .ok (.getfield 13, 3) := by decide +kernel
theorem d_K_leaveSource_54 : decode c_K_leaveSource 54 = .ok (.dup, 1) := by decide +kernel
theorem d_K_leaveSource_55 : decode c_K_leaveSource 55 = .ok (.getfield 53, 3) := by decide +kernel
theorem d_K_leaveSource_58 : decode c_K_leaveSource 58 = .ok (.iconst 1, 1) := by decide +kernel
theorem d_K_leaveSource_59 : decode c_K_leaveSource 59 = .ok (.isub, 1) := by decide +kernel
theorem d_K_leaveSource_60 : decode c_K_leaveSource 60 = .ok (.putfield 53, 3) := by decide +kernel
theorem d_K_leaveSource_63 : decode c_K_leaveSource 63 = .ok (.return_, 1) := by decide +kernel
theorem d_N_init_0 : decode c_N_init 0 = .ok (.aload_n 0, 1) := by decide +kernel
theorem d_N_init_1 : decode c_N_init 1 = .ok (.invokespecial 1, 3) := by decide +kernel
theorem d_N_init_4 : decode c_N_init 4 = .ok (.aload_n 0, 1) := by decide +kernel
theorem d_N_init_5 : decode c_N_init 5 = .ok (.iload_n 1, 1) := by decide +kernel
theorem d_N_init_6 : decode c_N_init 6 = .ok (.putfield 7, 3) := by decide +kernel
theorem d_N_init_9 : decode c_N_init 9 = .ok (.return_, 1) := by decide +kernel
theorem d_T_init_0 : decode c_T_init 0 = .ok (.aload_n 0, 1) := by decide +kernel
theorem d_T_init_1 : decode c_T_init 1 = .ok (.invokespecial 5, 3) := by decide +kernel
theorem d_T_init_4 : decode c_T_init 4 = .ok (.aload_n 0, 1) := by decide +kernel
theorem d_T_init_5 : decode c_T_init 5 = .ok (.sipush 128, 3) := by decide +kernel
theorem d_T_init_8 : decode c_T_init 8 = .ok (.anewarray 11, 3) := by decide +kernel
theorem d_T_init_11 : decode c_T_init 11 = .ok (.putfield 13, 3) := by decide +kernel
theorem d_T_init_14 : decode c_T_init 14 = .ok (.return_, 1) := by decide +kernel
theorem d_T_at_0 : decode c_T_at 0 = .ok (.iload_n 1, 1) := by decide +kernel
theorem d_T_at_1 : decode c_T_at 1 = .ok (.invokestatic 17, 3) := by decide +kernel
theorem d_T_at_4 : decode c_T_at 4 = .ok (.ifCond .ne 5, 3) := by decide +kernel
theorem d_T_at_7 : decode c_T_at 7 = .ok (.aconst_null, 1) := by decide +kernel
theorem d_T_at_8 : decode c_T_at 8 = .ok (.areturn, 1) := by decide +kernel
theorem d_T_at_9 : decode c_T_at 9 = .ok (.aload_n 0, 1) := by decide +kernel
theorem d_T_at_10 : decode c_T_at 10 = .ok (.getfield 13, 3) := by decide +kernel
theorem d_T_at_13 : decode c_T_at 13 = .ok (.iload_n 1, 1) := by decide +kernel
theorem d_T_at_14 : decode c_T_at 14 = .ok (.invokestatic 21, 3) := by decide +kernel
theorem d_T_at_17 : decode c_T_at 17 = .ok (.aaload, 1) := by decide +kernel
theorem d_T_at_18 : decode c_T_at 18 = .ok (.astore_n 2, 1) := by decide +kernel
theorem d_T_at_19 : decode c_T_at 19 = .ok (.aload_n 2, 1) := by decide +kernel
theorem d_T_at_20 : decode c_T_at 20 = .ok (.ifnonnull 7, 3) := by decide +kernel
theorem d_T_at_23 : decode c_T_at 23 = .ok (.aconst_null, 1) := by decide +kernel
theorem d_T_at_24 : decode c_T_at 24 = .ok (.goto 12, 3) := by decide +kernel
theorem d_T_at_27 : decode c_T_at 27 = .ok (.aload_n 2, 1) := by decide +kernel
theorem d_T_at_28 : decode c_T_at 28 = .ok (.getfield 25, 3) := by decide +kernel
theorem d_T_at_31 : decode c_T_at 31 = .ok (.iload_n 1, 1) := by decide +kernel
theorem d_T_at_32 : decode c_T_at 32 = .ok (.bipush 127, 2) := by decide +kernel
theorem d_T_at_34 : decode c_T_at 34 = .ok (.iand, 1) := by decide +kernel
theorem d_T_at_35 : decode c_T_at 35 = .ok (.aaload, 1) := by decide +kernel
theorem d_T_at_36 : decode c_T_at 36 = .ok (.areturn, 1) := by decide +kernel
theorem d_T_of_0 : decode c_T_of 0 = .ok (.iload_n 1, 1) := by decide +kernel
theorem d_T_of_1 : decode c_T_of 1 = .ok (.invokestatic 21, 3) := by decide +kernel
theorem d_T_of_4 : decode c_T_of 4 = .ok (.istore_n 2, 1) := by decide +kernel
theorem d_T_of_5 : decode c_T_of 5 = .ok (.aload_n 0, 1) := by decide +kernel
theorem d_T_of_6 : decode c_T_of 6 = .ok (.getfield 13, 3) := by decide +kernel
theorem d_T_of_9 : decode c_T_of 9 = .ok (.iload_n 2, 1) := by decide +kernel
theorem d_T_of_10 : decode c_T_of 10 = .ok (.aaload, 1) := by decide +kernel
theorem d_T_of_11 : decode c_T_of 11 = .ok (.astore_n 3, 1) := by decide +kernel
theorem d_T_of_12 : decode c_T_of 12 = .ok (.aload_n 3, 1) := by decide +kernel
theorem d_T_of_13 : decode c_T_of 13 = .ok (.ifnonnull 18, 3) := by decide +kernel
theorem d_T_of_16 : decode c_T_of 16 = .ok (.new 11, 3) := by decide +kernel
theorem d_T_of_19 : decode c_T_of 19 = .ok (.dup, 1) := by decide +kernel
theorem d_T_of_20 : decode c_T_of 20 = .ok (.invokespecial 29, 3) := by decide +kernel
theorem d_T_of_23 : decode c_T_of 23 = .ok (.astore_n 3, 1) := by decide +kernel
theorem d_T_of_24 : decode c_T_of 24 = .ok (.aload_n 0, 1) := by decide +kernel
theorem d_T_of_25 : decode c_T_of 25 = .ok (.getfield 13, 3) := by decide +kernel
theorem d_T_of_28 : decode c_T_of 28 = .ok (.iload_n 2, 1) := by decide +kernel
theorem d_T_of_29 : decode c_T_of 29 = .ok (.aload_n 3, 1) := by decide +kernel
theorem d_T_of_30 : decode c_T_of 30 = .ok (.aastore, 1) := by decide +kernel
theorem d_T_of_31 : decode c_T_of 31 = .ok (.aload_n 3, 1) := by decide +kernel
theorem d_T_of_32 : decode c_T_of 32 = .ok (.getfield 25, 3) := by decide +kernel
theorem d_T_of_35 : decode c_T_of 35 = .ok (.iload_n 1, 1) := by decide +kernel
theorem d_T_of_36 : decode c_T_of 36 = .ok (.bipush 127, 2) := by decide +kernel
theorem d_T_of_38 : decode c_T_of 38 = .ok (.iand, 1) := by decide +kernel
theorem d_T_of_39 : decode c_T_of 39 = .ok (.aaload, 1) := by decide +kernel
theorem d_T_of_40 : decode c_T_of 40 = .ok (.astore 4, 2) := by decide +kernel
theorem d_T_of_42 : decode c_T_of 42 = .ok (.aload 4, 2) := by decide +kernel
theorem d_T_of_44 : decode c_T_of 44 = .ok (.ifnonnull 24, 3) := by decide +kernel
theorem d_T_of_47 : decode c_T_of 47 = .ok (.new 30, 3) := by decide +kernel
theorem d_T_of_50 : decode c_T_of 50 = .ok (.dup, 1) := by decide +kernel
theorem d_T_of_51 : decode c_T_of 51 = .ok (.iload_n 1, 1) := by decide +kernel
theorem d_T_of_52 : decode c_T_of 52 = .ok (.invokespecial 32, 3) := by decide +kernel
theorem d_T_of_55 : decode c_T_of 55 = .ok (.astore 4, 2) := by decide +kernel
theorem d_T_of_57 : decode c_T_of 57 = .ok (.aload_n 3, 1) := by decide +kernel
theorem d_T_of_58 : decode c_T_of 58 = .ok (.getfield 25, 3) := by decide +kernel
theorem d_T_of_61 : decode c_T_of 61 = .ok (.iload_n 1, 1) := by decide +kernel
theorem d_T_of_62 : decode c_T_of 62 = .ok (.bipush 127, 2) := by decide +kernel
theorem d_T_of_64 : decode c_T_of 64 = .ok (.iand, 1) := by decide +kernel
theorem d_T_of_65 : decode c_T_of 65 = .ok (.aload 4, 2) := by decide +kernel
theorem d_T_of_67 : decode c_T_of 67 = .ok (.aastore, 1) := by decide +kernel
theorem d_T_of_68 : decode c_T_of 68 = .ok (.aload 4, 2) := by decide +kernel
theorem d_T_of_70 : decode c_T_of 70 = .ok (.areturn, 1) := by decide +kernel
theorem d_T_pageIndex_0 : decode c_T_pageIndex 0 = .ok (.iload_n 0, 1) := by decide +kernel
theorem d_T_pageIndex_1 : decode c_T_pageIndex 1 = .ok (.bipush 7, 2) := by decide +kernel
theorem d_T_pageIndex_3 : decode c_T_pageIndex 3 = .ok (.ishr, 1) := by decide +kernel
theorem d_T_pageIndex_4 : decode c_T_pageIndex 4 = .ok (.bipush 127, 2) := by decide +kernel
theorem d_T_pageIndex_6 : decode c_T_pageIndex 6 = .ok (.iand, 1) := by decide +kernel
theorem d_T_pageIndex_7 : decode c_T_pageIndex 7 = .ok (.ireturn, 1) := by decide +kernel
theorem d_U_init_0 : decode c_U_init 0 = .ok (.aload_n 0, 1) := by decide +kernel
theorem d_U_init_1 : decode c_U_init 1 = .ok (.invokespecial 3, 3) := by decide +kernel
theorem d_U_init_4 : decode c_U_init 4 = .ok (.aload_n 0, 1) := by decide +kernel
theorem d_U_init_5 : decode c_U_init 5 = .ok (.bipush 16, 2) := by decide +kernel
theorem d_U_init_7 : decode c_U_init 7 = .ok (.newarray .int, 2) := by decide +kernel
theorem d_U_init_9 : decode c_U_init 9 = .ok (.putfield 11, 3) := by decide +kernel
theorem d_U_init_12 : decode c_U_init 12 = .ok (.return_, 1) := by decide +kernel
theorem d_U_add_0 : decode c_U_add 0 = .ok (.aload_n 0, 1) := by decide +kernel
theorem d_U_add_1 : decode c_U_add 1 = .ok (.getfield 15, 3) := by decide +kernel
theorem d_U_add_4 : decode c_U_add 4 = .ok (.sipush 16384, 3) := by decide +kernel
theorem d_U_add_7 : decode c_U_add 7 = .ok (.if_icmp .lt 4, 3) := by decide +kernel
theorem d_U_add_10 : decode c_U_add 10 = .ok (.return_, 1) := by decide +kernel
theorem d_U_add_11 : decode c_U_add 11 = .ok (.aload_n 0, 1) := by decide +kernel
theorem d_U_add_12 : decode c_U_add 12 = .ok (.getfield 15, 3) := by decide +kernel
theorem d_U_add_15 : decode c_U_add 15 = .ok (.aload_n 0, 1) := by decide +kernel
theorem d_U_add_16 : decode c_U_add 16 = .ok (.getfield 11, 3) := by decide +kernel
theorem d_U_add_19 : decode c_U_add 19 = .ok (.arraylength, 1) := by decide +kernel
theorem d_U_add_20 : decode c_U_add 20 = .ok (.if_icmp .lt 20, 3) := by decide +kernel
theorem d_U_add_23 : decode c_U_add 23 = .ok (.aload_n 0, 1) := by decide +kernel
theorem d_U_add_24 : decode c_U_add 24 = .ok (.aload_n 0, 1) := by decide +kernel
theorem d_U_add_25 : decode c_U_add 25 = .ok (.getfield 11, 3) := by decide +kernel
theorem d_U_add_28 : decode c_U_add 28 = .ok (.iconst 2, 1) := by decide +kernel
theorem d_U_add_29 : decode c_U_add 29 = .ok (.aload_n 0, 1) := by decide +kernel
theorem d_U_add_30 : decode c_U_add 30 = .ok (.getfield 15, 3) := by decide +kernel
theorem d_U_add_33 : decode c_U_add 33 = .ok (.imul, 1) := by decide +kernel
theorem d_U_add_34 : decode c_U_add 34 = .ok (.invokestatic 19, 3) := by decide +kernel
theorem d_U_add_37 : decode c_U_add 37 = .ok (.putfield 11, 3) := by decide +kernel
theorem d_U_add_40 : decode c_U_add 40 = .ok (.aload_n 0, 1) := by decide +kernel
theorem d_U_add_41 : decode c_U_add 41 = .ok (.getfield 11, 3) := by decide +kernel
theorem d_U_add_44 : decode c_U_add 44 = .ok (.aload_n 0, 1) := by decide +kernel
theorem d_U_add_45 : decode c_U_add 45 = .ok (.getfield 15, 3) := by decide +kernel
theorem d_U_add_48 : decode c_U_add 48 = .ok (.iload_n 1, 1) := by decide +kernel
theorem d_U_add_49 : decode c_U_add 49 = .ok (.iastore, 1) := by decide +kernel
theorem d_U_add_50 : decode c_U_add 50 = .ok (.aload_n 0, 1) := by decide +kernel
theorem d_U_add_51 : decode c_U_add 51 = .ok (.dup, 1) := by decide +kernel
theorem d_U_add_52 : decode c_U_add 52 = .ok (.getfield 15, 3) := by decide +kernel
theorem d_U_add_55 : decode c_U_add 55 = .ok (.iconst 1, 1) := by decide +kernel
theorem d_U_add_56 : decode c_U_add 56 = .ok (.iadd, 1) := by decide +kernel
theorem d_U_add_57 : decode c_U_add 57 = .ok (.putfield 15, 3) := by decide +kernel
theorem d_U_add_60 : decode c_U_add 60 = .ok (.return_, 1) := by decide +kernel
theorem d_U_at_0 : decode c_U_at 0 = .ok (.aload_n 0, 1) := by decide +kernel
theorem d_U_at_1 : decode c_U_at 1 = .ok (.iload_n 1, 1) := by decide +kernel
theorem d_U_at_2 : decode c_U_at 2 = .ok (.invokevirtual 25, 3) := by decide +kernel
theorem d_U_at_5 : decode c_U_at 5 = .ok (.ifCond .eq 12, 3) := by decide +kernel
theorem d_U_at_8 : decode c_U_at 8 = .ok (.aload_n 0, 1) := by decide +kernel
theorem d_U_at_9 : decode c_U_at 9 = .ok (.getfield 11, 3) := by decide +kernel
theorem d_U_at_12 : decode c_U_at 12 = .ok (.iload_n 1, 1) := by decide +kernel
theorem d_U_at_13 : decode c_U_at 13 = .ok (.iaload, 1) := by decide +kernel
theorem d_U_at_14 : decode c_U_at 14 = .ok (.goto 4, 3) := by decide +kernel
theorem d_U_at_17 : decode c_U_at 17 = .ok (.iconst (-1), 1) := by decide +kernel
theorem d_U_at_18 : decode c_U_at 18 = .ok (.ireturn, 1) := by decide +kernel
theorem d_U_set_0 : decode c_U_set 0 = .ok (.aload_n 0, 1) := by decide +kernel
theorem d_U_set_1 : decode c_U_set 1 = .ok (.iload_n 1, 1) := by decide +kernel
theorem d_U_set_2 : decode c_U_set 2 = .ok (.invokevirtual 25, 3) := by decide +kernel
theorem d_U_set_5 : decode c_U_set 5 = .ok (.ifCond .eq 10, 3) := by decide +kernel
theorem d_U_set_8 : decode c_U_set 8 = .ok (.aload_n 0, 1) := by decide +kernel
theorem d_U_set_9 : decode c_U_set 9 = .ok (.getfield 11, 3) := by decide +kernel
theorem d_U_set_12 : decode c_U_set 12 = .ok (.iload_n 1, 1) := by decide +kernel
theorem d_U_set_13 : decode c_U_set 13 = .ok (.iload_n 2, 1) := by decide +kernel
theorem d_U_set_14 : decode c_U_set 14 = .ok (.iastore, 1) := by decide +kernel
theorem d_U_set_15 : decode c_U_set 15 = .ok (.return_, 1) := by decide +kernel
theorem d_U_takeLast_0 : decode c_U_takeLast 0 = .ok (.aload_n 0, 1) := by decide +kernel
theorem d_U_takeLast_1 : decode c_U_takeLast 1 = .ok (.aload_n 0, 1) := by decide +kernel
theorem d_U_takeLast_2 : decode c_U_takeLast 2 = .ok (.getfield 15, 3) := by decide +kernel
theorem d_U_takeLast_5 : decode c_U_takeLast 5 = .ok (.iconst 1, 1) := by decide +kernel
theorem d_U_takeLast_6 : decode c_U_takeLast 6 = .ok (.isub, 1) := by decide +kernel
theorem d_U_takeLast_7 : decode c_U_takeLast 7 = .ok (.invokevirtual 29, 3) := by decide +kernel
theorem d_U_takeLast_10 : decode c_U_takeLast 10 = .ok (.istore_n 1, 1) := by decide +kernel
theorem d_U_takeLast_11 : decode c_U_takeLast 11 = .ok (.aload_n 0, 1) := by decide +kernel
theorem d_U_takeLast_12 : decode c_U_takeLast 12 = .ok (.getfield 15, 3) := by decide +kernel
theorem d_U_takeLast_15 : decode c_U_takeLast 15 = .ok (.ifCond .le 13, 3) := by decide +kernel
theorem d_U_takeLast_18 : decode c_U_takeLast 18 = .ok (.aload_n 0, 1) := by decide +kernel
theorem d_U_takeLast_19 : decode c_U_takeLast 19 = .ok (.dup, 1) := by decide +kernel
theorem d_U_takeLast_20 : decode c_U_takeLast 20 = .ok (.getfield 15, 3) := by decide +kernel
theorem d_U_takeLast_23 : decode c_U_takeLast 23 = .ok (.iconst 1, 1) := by decide +kernel
theorem d_U_takeLast_24 : decode c_U_takeLast 24 = .ok (.isub, 1) := by decide +kernel
theorem d_U_takeLast_25 : decode c_U_takeLast 25 = .ok (.putfield 15, 3) := by decide +kernel
theorem d_U_takeLast_28 : decode c_U_takeLast 28 = .ok (.iload_n 1, 1) := by decide +kernel
theorem d_U_takeLast_29 : decode c_U_takeLast 29 = .ok (.ireturn, 1) := by decide +kernel
theorem d_U_empty_0 : decode c_U_empty 0 = .ok (.aload_n 0, 1) := by decide +kernel
theorem d_U_empty_1 : decode c_U_empty 1 = .ok (.iconst 0, 1) := by decide +kernel
theorem d_U_empty_2 : decode c_U_empty 2 = .ok (.putfield 15, 3) := by decide +kernel
theorem d_U_empty_5 : decode c_U_empty 5 = .ok (.return_, 1) := by decide +kernel
theorem d_U_isIndex_0 : decode c_U_isIndex 0 = .ok (.iload_n 1, 1) := by decide +kernel
theorem d_U_isIndex_1 : decode c_U_isIndex 1 = .ok (.ifCond .lt 24, 3) := by decide +kernel
theorem d_U_isIndex_4 : decode c_U_isIndex 4 = .ok (.iload_n 1, 1) := by decide +kernel
theorem d_U_isIndex_5 : decode c_U_isIndex 5 = .ok (.aload_n 0, 1) := by decide +kernel
theorem d_U_isIndex_6 : decode c_U_isIndex 6 = .ok (.getfield 15, 3) := by decide +kernel
theorem d_U_isIndex_9 : decode c_U_isIndex 9 = .ok (.if_icmp .ge 16, 3) := by decide +kernel
theorem d_U_isIndex_12 : decode c_U_isIndex 12 = .ok (.iload_n 1, 1) := by decide +kernel
theorem d_U_isIndex_13 : decode c_U_isIndex 13 = .ok (.aload_n 0, 1) := by decide +kernel
theorem d_U_isIndex_14 : decode c_U_isIndex 14 = .ok (.getfield 11, 3) := by decide +kernel
theorem d_U_isIndex_17 : decode c_U_isIndex 17 = .ok (.arraylength, 1) := by decide +kernel
theorem d_U_isIndex_18 : decode c_U_isIndex 18 = .ok (.if_icmp .ge 7, 3) := by decide +kernel
theorem d_U_isIndex_21 : decode c_U_isIndex 21 = .ok (.iconst 1, 1) := by decide +kernel
theorem d_U_isIndex_22 : decode c_U_isIndex 22 = .ok (.goto 4, 3) := by decide +kernel
theorem d_U_isIndex_25 : decode c_U_isIndex 25 = .ok (.iconst 0, 1) := by decide +kernel
theorem d_U_isIndex_26 : decode c_U_isIndex 26 = .ok (.ireturn, 1) := by decide +kernel
theorem d_P_init_0 : decode c_P_init 0 = .ok (.aload_n 0, 1) := by decide +kernel
theorem d_P_init_1 : decode c_P_init 1 = .ok (.invokespecial 1, 3) := by decide +kernel
theorem d_P_init_4 : decode c_P_init 4 = .ok (.aload_n 0, 1) := by decide +kernel
theorem d_P_init_5 : decode c_P_init 5 = .ok (.sipush 128, 3) := by decide +kernel
theorem d_P_init_8 : decode c_P_init 8 = .ok (.anewarray 9, 3) := by decide +kernel
theorem d_P_init_11 : decode c_P_init 11 = .ok (.putfield 11, 3) := by decide +kernel
theorem d_P_init_14 : decode c_P_init 14 = .ok (.return_, 1) := by decide +kernel
theorem d_L_link_0 : decode c_L_link 0 = .ok (.aload_n 3, 1) := by decide +kernel
theorem d_L_link_1 : decode c_L_link 1 = .ok (.iconst 0, 1) := by decide +kernel
theorem d_L_link_2 : decode c_L_link 2 = .ok (.aload_n 0, 1) := by decide +kernel
theorem d_L_link_3 : decode c_L_link 3 = .ok (.iload_n 1, 1) := by decide +kernel
theorem d_L_link_4 : decode c_L_link 4 = .ok (.iload_n 2, 1) := by decide +kernel
theorem d_L_link_5 : decode c_L_link 5 = .ok (.invokevirtual 7, 3) := by decide +kernel
theorem d_L_link_8 : decode c_L_link 8 = .ok (.ifCond .eq 7, 3) := by decide +kernel
theorem d_L_link_11 : decode c_L_link 11 = .ok (.lconst 1, 1) := by decide +kernel
theorem d_L_link_12 : decode c_L_link 12 = .ok (.goto 4, 3) := by decide +kernel
theorem d_L_link_15 : decode c_L_link 15 = .ok (.lconst 0, 1) := by decide +kernel
theorem d_L_link_16 : decode c_L_link 16 = .ok (.lastore, 1) := by decide +kernel
theorem d_L_link_17 : decode c_L_link 17 = .ok (.goto 11, 3) := by decide +kernel
theorem d_L_link_20 : decode c_L_link 20 = .ok (.astore 4, 2) := by decide +kernel
theorem d_L_link_22 : decode c_L_link 22 = .ok (.iconst 1, 1) := by decide +kernel
theorem d_L_link_23 : decode c_L_link 23 = .ok (.ireturn, 1) := by decide +kernel
theorem d_L_link_24 : decode c_L_link 24 = .ok (.astore 4, 2) := by decide +kernel
theorem d_L_link_26 : decode c_L_link 26 = .ok (.iconst 2, 1) := by decide +kernel
theorem d_L_link_27 : decode c_L_link 27 = .ok (.ireturn, 1) := by decide +kernel
theorem d_L_link_28 : decode c_L_link 28 = .ok (.iconst 0, 1) := by decide +kernel
theorem d_L_link_29 : decode c_L_link 29 = .ok (.ireturn, 1) := by decide +kernel
theorem d_L_unlink_0 : decode c_L_unlink 0 = .ok (.aload_n 3, 1) := by decide +kernel
theorem d_L_unlink_1 : decode c_L_unlink 1 = .ok (.iconst 0, 1) := by decide +kernel
theorem d_L_unlink_2 : decode c_L_unlink 2 = .ok (.aload_n 0, 1) := by decide +kernel
theorem d_L_unlink_3 : decode c_L_unlink 3 = .ok (.iload_n 1, 1) := by decide +kernel
theorem d_L_unlink_4 : decode c_L_unlink 4 = .ok (.iload_n 2, 1) := by decide +kernel
theorem d_L_unlink_5 : decode c_L_unlink 5 = .ok (.invokevirtual 17, 3) := by decide +kernel
theorem d_L_unlink_8 : decode c_L_unlink 8 = .ok (.ifCond .eq 7, 3) := by decide +kernel
theorem d_L_unlink_11 : decode c_L_unlink 11 = .ok (.lconst 1, 1) := by decide +kernel
theorem d_L_unlink_12 : decode c_L_unlink 12 = .ok (.goto 4, 3) := by decide +kernel
theorem d_L_unlink_15 : decode c_L_unlink 15 = .ok (.lconst 0, 1) := by decide +kernel
theorem d_L_unlink_16 : decode c_L_unlink 16 = .ok (.lastore, 1) := by decide +kernel
theorem d_L_unlink_17 : decode c_L_unlink 17 = .ok (.goto 7, 3) := by decide +kernel
theorem d_L_unlink_20 : decode c_L_unlink 20 = .ok (.astore 4, 2) := by decide +kernel
theorem d_L_unlink_22 : decode c_L_unlink 22 = .ok (.iconst 1, 1) := by decide +kernel
theorem d_L_unlink_23 : decode c_L_unlink 23 = .ok (.ireturn, 1) := by decide +kernel
theorem d_L_unlink_24 : decode c_L_unlink 24 = .ok (.iconst 0, 1) := by decide +kernel
theorem d_L_unlink_25 : decode c_L_unlink 25 = .ok (.ireturn, 1) := by decide +kernel
theorem d_L_clear_0 : decode c_L_clear 0 = .ok (.aload_n 2, 1) := by decide +kernel
theorem d_L_clear_1 : decode c_L_clear 1 = .ok (.iconst 0, 1) := by decide +kernel
theorem d_L_clear_2 : decode c_L_clear 2 = .ok (.aload_n 0, 1) := by decide +kernel
theorem d_L_clear_3 : decode c_L_clear 3 = .ok (.iload_n 1, 1) := by decide +kernel
theorem d_L_clear_4 : decode c_L_clear 4 = .ok (.invokevirtual 20, 3) := by decide +kernel
theorem d_L_clear_7 : decode c_L_clear 7 = .ok (.i2l, 1) := by decide +kernel
theorem d_L_clear_8 : decode c_L_clear 8 = .ok (.lastore, 1) := by decide +kernel
theorem d_L_clear_9 : decode c_L_clear 9 = .ok (.goto 6, 3) := by decide +kernel
theorem d_L_clear_12 : decode c_L_clear 12 = .ok (.astore_n 3, 1) := by decide +kernel
theorem d_L_clear_13 : decode c_L_clear 13 = .ok (.iconst 1, 1) := by decide +kernel
theorem d_L_clear_14 : decode c_L_clear 14 = .ok (.ireturn, 1) := by decide +kernel
theorem d_L_clear_15 : decode c_L_clear 15 = .ok (.iconst 0, 1) := by decide +kernel
theorem d_L_clear_16 : decode c_L_clear 16 = .ok (.ireturn, 1) := by decide +kernel
theorem d_L_touch_0 : decode c_L_touch 0 = .ok (.aload_n 0, 1) := by decide +kernel
theorem d_L_touch_1 : decode c_L_touch 1 = .ok (.iload_n 1, 1) := by decide +kernel
theorem d_L_touch_2 : decode c_L_touch 2 = .ok (.invokevirtual 24, 3) := by decide +kernel
theorem d_L_touch_5 : decode c_L_touch 5 = .ok (.goto 6, 3) := by decide +kernel
theorem d_L_touch_8 : decode c_L_touch 8 = .ok (.astore_n 2, 1) := by decide +kernel
theorem d_L_touch_9 : decode c_L_touch 9 = .ok (.iconst 1, 1) := by decide +kernel
theorem d_L_touch_10 : decode c_L_touch 10 = .ok (.ireturn, 1) := by decide +kernel
theorem d_L_touch_11 : decode c_L_touch 11 = .ok (.iconst 0, 1) := by decide +kernel
theorem d_L_touch_12 : decode c_L_touch 12 = .ok (.ireturn, 1) := by decide +kernel
end
section
theorem d_L_law_0 : decode c_L_law 0 = .ok (.new 8, 3) := by decide +kernel
theorem d_L_law_3 : decode c_L_law 3 = .ok (.dup, 1) := by decide +kernel
theorem d_L_law_4 : decode c_L_law 4 = .ok (.invokespecial 28, 3) := by decide +kernel
theorem d_L_law_7 : decode c_L_law 7 = .ok (.astore_n 1, 1) := by decide +kernel
theorem d_L_law_8 : decode c_L_law 8 = .ok (.new 29, 3) := by decide +kernel
theorem d_L_law_11 : decode c_L_law 11 = .ok (.dup, 1) := by decide +kernel
theorem d_L_law_12 : decode c_L_law 12 = .ok (.invokespecial 31, 3) := by decide +kernel
theorem d_L_law_15 : decode c_L_law 15 = .ok (.astore_n 2, 1) := by decide +kernel
theorem d_L_law_16 : decode c_L_law 16 = .ok (.iconst 1, 1) := by decide +kernel
theorem d_L_law_17 : decode c_L_law 17 = .ok (.newarray .long, 2) := by decide +kernel
theorem d_L_law_19 : decode c_L_law 19 = .ok (.astore_n 3, 1) := by decide +kernel
theorem d_L_law_20 : decode c_L_law 20 = .ok (.iconst 0, 1) := by decide +kernel
theorem d_L_law_21 : decode c_L_law 21 = .ok (.istore 4, 2) := by decide +kernel
theorem d_L_law_23 : decode c_L_law 23 = .ok (.iload 4, 2) := by decide +kernel
theorem d_L_law_25 : decode c_L_law 25 = .ok (.aload_n 0, 1) := by decide +kernel
theorem d_L_law_26 : decode c_L_law 26 = .ok (.arraylength, 1) := by decide +kernel
theorem d_L_law_27 : decode c_L_law 27 = .ok (.iconst 3, 1) := by decide +kernel
theorem d_L_law_28 : decode c_L_law 28 = .ok (.isub, 1) := by decide +kernel
theorem d_L_law_29 : decode c_L_law 29 = .ok (.if_icmp .gt 449, 3) := by decide +kernel
theorem d_L_law_32 : decode c_L_law 32 = .ok (.aload_n 0, 1) := by decide +kernel
theorem d_L_law_33 : decode c_L_law 33 = .ok (.iload 4, 2) := by decide +kernel
theorem d_L_law_35 : decode c_L_law 35 = .ok (.iaload, 1) := by decide +kernel
theorem d_L_law_36 : decode c_L_law 36 = .ok (.bipush 15, 2) := by decide +kernel
theorem d_L_law_38 : decode c_L_law 38 = .ok (.iand, 1) := by decide +kernel
theorem d_L_law_39 : decode c_L_law 39 = .ok (.tableswitch 433 0 9 #[53, 128, 203, 259, 295, 308, 333, 346, 371, 408], 53) := by decide +kernel
theorem d_L_law_92 : decode c_L_law 92 = .ok (.aload_n 1, 1) := by decide +kernel
theorem d_L_law_93 : decode c_L_law 93 = .ok (.aload_n 0, 1) := by decide +kernel
theorem d_L_law_94 : decode c_L_law 94 = .ok (.iload 4, 2) := by decide +kernel
theorem d_L_law_96 : decode c_L_law 96 = .ok (.iconst 1, 1) := by decide +kernel
theorem d_L_law_97 : decode c_L_law 97 = .ok (.iadd, 1) := by decide +kernel
theorem d_L_law_98 : decode c_L_law 98 = .ok (.iaload, 1) := by decide +kernel
theorem d_L_law_99 : decode c_L_law 99 = .ok (.aload_n 0, 1) := by decide +kernel
theorem d_L_law_100 : decode c_L_law 100 = .ok (.iload 4, 2) := by decide +kernel
theorem d_L_law_102 : decode c_L_law 102 = .ok (.iconst 2, 1) := by decide +kernel
theorem d_L_law_103 : decode c_L_law 103 = .ok (.iadd, 1) := by decide +kernel
theorem d_L_law_104 : decode c_L_law 104 = .ok (.iaload, 1) := by decide +kernel
theorem d_L_law_105 : decode c_L_law 105 = .ok (.aload_n 3, 1) := by decide +kernel
theorem d_L_law_106 : decode c_L_law 106 = .ok (.invokestatic 32, 3) := by decide +kernel
theorem d_L_law_109 : decode c_L_law 109 = .ok (.istore 5, 2) := by decide +kernel
theorem d_L_law_111 : decode c_L_law 111 = .ok (.aload_n 2, 1) := by decide +kernel
theorem d_L_law_112 : decode c_L_law 112 = .ok (.aload_n 0, 1) := by decide +kernel
theorem d_L_law_113 : decode c_L_law 113 = .ok (.iload 4, 2) := by decide +kernel
theorem d_L_law_115 : decode c_L_law 115 = .ok (.iconst 1, 1) := by decide +kernel
theorem d_L_law_116 : decode c_L_law 116 = .ok (.iadd, 1) := by decide +kernel
theorem d_L_law_117 : decode c_L_law 117 = .ok (.iaload, 1) := by decide +kernel
theorem d_L_law_118 : decode c_L_law 118 = .ok (.aload_n 0, 1) := by decide +kernel
theorem d_L_law_119 : decode c_L_law 119 = .ok (.iload 4, 2) := by decide +kernel
theorem d_L_law_121 : decode c_L_law 121 = .ok (.iconst 2, 1) := by decide +kernel
theorem d_L_law_122 : decode c_L_law 122 = .ok (.iadd, 1) := by decide +kernel
theorem d_L_law_123 : decode c_L_law 123 = .ok (.iaload, 1) := by decide +kernel
theorem d_L_law_124 : decode c_L_law 124 = .ok (.invokevirtual 37, 3) := by decide +kernel
theorem d_L_law_127 : decode c_L_law 127 = .ok (.istore 6, 2) := by decide +kernel
theorem d_L_law_129 : decode c_L_law 129 = .ok (.aload_n 2, 1) := by decide +kernel
theorem d_L_law_130 : decode c_L_law 130 = .ok (.invokevirtual 38, 3) := by decide +kernel
theorem d_L_law_133 : decode c_L_law 133 = .ok (.iload 5, 2) := by decide +kernel
theorem d_L_law_135 : decode c_L_law 135 = .ok (.if_icmp .eq 5, 3) := by decide +kernel
theorem d_L_law_138 : decode c_L_law 138 = .ok (.iconst 0, 1) := by decide +kernel
theorem d_L_law_139 : decode c_L_law 139 = .ok (.ireturn, 1) := by decide +kernel
theorem d_L_law_140 : decode c_L_law 140 = .ok (.iload 5, 2) := by decide +kernel
theorem d_L_law_142 : decode c_L_law 142 = .ok (.ifCond .ne 22, 3) := by decide +kernel
theorem d_L_law_145 : decode c_L_law 145 = .ok (.aload_n 3, 1) := by decide +kernel
theorem d_L_law_146 : decode c_L_law 146 = .ok (.iconst 0, 1) := by decide +kernel
theorem d_L_law_147 : decode c_L_law 147 = .ok (.laload, 1) := by decide +kernel
theorem d_L_law_148 : decode c_L_law 148 = .ok (.iload 6, 2) := by decide +kernel
theorem d_L_law_150 : decode c_L_law 150 = .ok (.ifCond .eq 7, 3) := by decide +kernel
theorem d_L_law_153 : decode c_L_law 153 = .ok (.lconst 1, 1) := by decide +kernel
theorem d_L_law_154 : decode c_L_law 154 = .ok (.goto 4, 3) := by decide +kernel
theorem d_L_law_157 : decode c_L_law 157 = .ok (.lconst 0, 1) := by decide +kernel
theorem d_L_law_158 : decode c_L_law 158 = .ok (.lcmp, 1) := by decide +kernel
theorem d_L_law_159 : decode c_L_law 159 = .ok (.ifCond .eq 5, 3) := by decide +kernel
theorem d_L_law_162 : decode c_L_law 162 = .ok (.iconst 0, 1) := by decide +kernel
theorem d_L_law_163 : decode c_L_law 163 = .ok (.ireturn, 1) := by decide +kernel
theorem d_L_law_164 : decode c_L_law 164 = .ok (.goto 308, 3) := by decide +kernel
theorem d_L_law_167 : decode c_L_law 167 = .ok (.aload_n 1, 1) := by decide +kernel
theorem d_L_law_168 : decode c_L_law 168 = .ok (.aload_n 0, 1) := by decide +kernel
theorem d_L_law_169 : decode c_L_law 169 = .ok (.iload 4, 2) := by decide +kernel
theorem d_L_law_171 : decode c_L_law 171 = .ok (.iconst 1, 1) := by decide +kernel
theorem d_L_law_172 : decode c_L_law 172 = .ok (.iadd, 1) := by decide +kernel
theorem d_L_law_173 : decode c_L_law 173 = .ok (.iaload, 1) := by decide +kernel
theorem d_L_law_174 : decode c_L_law 174 = .ok (.aload_n 0, 1) := by decide +kernel
theorem d_L_law_175 : decode c_L_law 175 = .ok (.iload 4, 2) := by decide +kernel
theorem d_L_law_177 : decode c_L_law 177 = .ok (.iconst 2, 1) := by decide +kernel
theorem d_L_law_178 : decode c_L_law 178 = .ok (.iadd, 1) := by decide +kernel
theorem d_L_law_179 : decode c_L_law 179 = .ok (.iaload, 1) := by decide +kernel
theorem d_L_law_180 : decode c_L_law 180 = .ok (.aload_n 3, 1) := by decide +kernel
theorem d_L_law_181 : decode c_L_law 181 = .ok (.invokestatic 42, 3) := by decide +kernel
theorem d_L_law_184 : decode c_L_law 184 = .ok (.istore 5, 2) := by decide +kernel
theorem d_L_law_186 : decode c_L_law 186 = .ok (.aload_n 2, 1) := by decide +kernel
theorem d_L_law_187 : decode c_L_law 187 = .ok (.aload_n 0, 1) := by decide +kernel
theorem d_L_law_188 : decode c_L_law 188 = .ok (.iload 4, 2) := by decide +kernel
theorem d_L_law_190 : decode c_L_law 190 = .ok (.iconst 1, 1) := by decide +kernel
theorem d_L_law_191 : decode c_L_law 191 = .ok (.iadd, 1) := by decide +kernel
theorem d_L_law_192 : decode c_L_law 192 = .ok (.iaload, 1) := by decide +kernel
theorem d_L_law_193 : decode c_L_law 193 = .ok (.aload_n 0, 1) := by decide +kernel
theorem d_L_law_194 : decode c_L_law 194 = .ok (.iload 4, 2) := by decide +kernel
theorem d_L_law_196 : decode c_L_law 196 = .ok (.iconst 2, 1) := by decide +kernel
theorem d_L_law_197 : decode c_L_law 197 = .ok (.iadd, 1) := by decide +kernel
theorem d_L_law_198 : decode c_L_law 198 = .ok (.iaload, 1) := by decide +kernel
theorem d_L_law_199 : decode c_L_law 199 = .ok (.invokevirtual 44, 3) := by decide +kernel
theorem d_L_law_202 : decode c_L_law 202 = .ok (.istore 6, 2) := by decide +kernel
theorem d_L_law_204 : decode c_L_law 204 = .ok (.aload_n 2, 1) := by decide +kernel
theorem d_L_law_205 : decode c_L_law 205 = .ok (.invokevirtual 38, 3) := by decide +kernel
theorem d_L_law_208 : decode c_L_law 208 = .ok (.iload 5, 2) := by decide +kernel
theorem d_L_law_210 : decode c_L_law 210 = .ok (.if_icmp .eq 5, 3) := by decide +kernel
theorem d_L_law_213 : decode c_L_law 213 = .ok (.iconst 0, 1) := by decide +kernel
theorem d_L_law_214 : decode c_L_law 214 = .ok (.ireturn, 1) := by decide +kernel
theorem d_L_law_215 : decode c_L_law 215 = .ok (.iload 5, 2) := by decide +kernel
theorem d_L_law_217 : decode c_L_law 217 = .ok (.ifCond .ne 22, 3) := by decide +kernel
theorem d_L_law_220 : decode c_L_law 220 = .ok (.aload_n 3, 1) := by decide +kernel
theorem d_L_law_221 : decode c_L_law 221 = .ok (.iconst 0, 1) := by decide +kernel
theorem d_L_law_222 : decode c_L_law 222 = .ok (.laload, 1) := by decide +kernel
theorem d_L_law_223 : decode c_L_law 223 = .ok (.iload 6, 2) := by decide +kernel
theorem d_L_law_225 : decode c_L_law 225 = .ok (.ifCond .eq 7, 3) := by decide +kernel
theorem d_L_law_228 : decode c_L_law 228 = .ok (.lconst 1, 1) := by decide +kernel
theorem d_L_law_229 : decode c_L_law 229 = .ok (.goto 4, 3) := by decide +kernel
theorem d_L_law_232 : decode c_L_law 232 = .ok (.lconst 0, 1) := by decide +kernel
theorem d_L_law_233 : decode c_L_law 233 = .ok (.lcmp, 1) := by decide +kernel
theorem d_L_law_234 : decode c_L_law 234 = .ok (.ifCond .eq 5, 3) := by decide +kernel
theorem d_L_law_237 : decode c_L_law 237 = .ok (.iconst 0, 1) := by decide +kernel
theorem d_L_law_238 : decode c_L_law 238 = .ok (.ireturn, 1) := by decide +kernel
theorem d_L_law_239 : decode c_L_law 239 = .ok (.goto 233, 3) := by decide +kernel
theorem d_L_law_242 : decode c_L_law 242 = .ok (.aload_n 1, 1) := by decide +kernel
theorem d_L_law_243 : decode c_L_law 243 = .ok (.aload_n 0, 1) := by decide +kernel
theorem d_L_law_244 : decode c_L_law 244 = .ok (.iload 4, 2) := by decide +kernel
theorem d_L_law_246 : decode c_L_law 246 = .ok (.iconst 1, 1) := by decide +kernel
theorem d_L_law_247 : decode c_L_law 247 = .ok (.iadd, 1) := by decide +kernel
theorem d_L_law_248 : decode c_L_law 248 = .ok (.iaload, 1) := by decide +kernel
theorem d_L_law_249 : decode c_L_law 249 = .ok (.aload_n 3, 1) := by decide +kernel
theorem d_L_law_250 : decode c_L_law 250 = .ok (.invokestatic 45, 3) := by decide +kernel
theorem d_L_law_253 : decode c_L_law 253 = .ok (.istore 5, 2) := by decide +kernel
theorem d_L_law_255 : decode c_L_law 255 = .ok (.aload_n 2, 1) := by decide +kernel
theorem d_L_law_256 : decode c_L_law 256 = .ok (.aload_n 0, 1) := by decide +kernel
theorem d_L_law_257 : decode c_L_law 257 = .ok (.iload 4, 2) := by decide +kernel
theorem d_L_law_259 : decode c_L_law 259 = .ok (.iconst 1, 1) := by decide +kernel
theorem d_L_law_260 : decode c_L_law 260 = .ok (.iadd, 1) := by decide +kernel
theorem d_L_law_261 : decode c_L_law 261 = .ok (.iaload, 1) := by decide +kernel
theorem d_L_law_262 : decode c_L_law 262 = .ok (.invokevirtual 48, 3) := by decide +kernel
theorem d_L_law_265 : decode c_L_law 265 = .ok (.istore 6, 2) := by decide +kernel
theorem d_L_law_267 : decode c_L_law 267 = .ok (.aload_n 2, 1) := by decide +kernel
theorem d_L_law_268 : decode c_L_law 268 = .ok (.invokevirtual 38, 3) := by decide +kernel
theorem d_L_law_271 : decode c_L_law 271 = .ok (.iload 5, 2) := by decide +kernel
theorem d_L_law_273 : decode c_L_law 273 = .ok (.if_icmp .eq 5, 3) := by decide +kernel
theorem d_L_law_276 : decode c_L_law 276 = .ok (.iconst 0, 1) := by decide +kernel
theorem d_L_law_277 : decode c_L_law 277 = .ok (.ireturn, 1) := by decide +kernel
theorem d_L_law_278 : decode c_L_law 278 = .ok (.iload 5, 2) := by decide +kernel
theorem d_L_law_280 : decode c_L_law 280 = .ok (.ifCond .ne 15, 3) := by decide +kernel
theorem d_L_law_283 : decode c_L_law 283 = .ok (.aload_n 3, 1) := by decide +kernel
theorem d_L_law_284 : decode c_L_law 284 = .ok (.iconst 0, 1) := by decide +kernel
theorem d_L_law_285 : decode c_L_law 285 = .ok (.laload, 1) := by decide +kernel
theorem d_L_law_286 : decode c_L_law 286 = .ok (.iload 6, 2) := by decide +kernel
theorem d_L_law_288 : decode c_L_law 288 = .ok (.i2l, 1) := by decide +kernel
theorem d_L_law_289 : decode c_L_law 289 = .ok (.lcmp, 1) := by decide +kernel
theorem d_L_law_290 : decode c_L_law 290 = .ok (.ifCond .eq 5, 3) := by decide +kernel
theorem d_L_law_293 : decode c_L_law 293 = .ok (.iconst 0, 1) := by decide +kernel
theorem d_L_law_294 : decode c_L_law 294 = .ok (.ireturn, 1) := by decide +kernel
theorem d_L_law_295 : decode c_L_law 295 = .ok (.goto 177, 3) := by decide +kernel
theorem d_L_law_298 : decode c_L_law 298 = .ok (.aload_n 1, 1) := by decide +kernel
theorem d_L_law_299 : decode c_L_law 299 = .ok (.aload_n 0, 1) := by decide +kernel
theorem d_L_law_300 : decode c_L_law 300 = .ok (.iload 4, 2) := by decide +kernel
theorem d_L_law_302 : decode c_L_law 302 = .ok (.iconst 1, 1) := by decide +kernel
theorem d_L_law_303 : decode c_L_law 303 = .ok (.iadd, 1) := by decide +kernel
theorem d_L_law_304 : decode c_L_law 304 = .ok (.iaload, 1) := by decide +kernel
theorem d_L_law_305 : decode c_L_law 305 = .ok (.invokestatic 49, 3) := by decide +kernel
theorem d_L_law_308 : decode c_L_law 308 = .ok (.istore 5, 2) := by decide +kernel
theorem d_L_law_310 : decode c_L_law 310 = .ok (.aload_n 2, 1) := by decide +kernel
theorem d_L_law_311 : decode c_L_law 311 = .ok (.aload_n 0, 1) := by decide +kernel
theorem d_L_law_312 : decode c_L_law 312 = .ok (.iload 4, 2) := by decide +kernel
theorem d_L_law_314 : decode c_L_law 314 = .ok (.iconst 1, 1) := by decide +kernel
theorem d_L_law_315 : decode c_L_law 315 = .ok (.iadd, 1) := by decide +kernel
theorem d_L_law_316 : decode c_L_law 316 = .ok (.iaload, 1) := by decide +kernel
theorem d_L_law_317 : decode c_L_law 317 = .ok (.invokevirtual 52, 3) := by decide +kernel
theorem d_L_law_320 : decode c_L_law 320 = .ok (.aload_n 2, 1) := by decide +kernel
theorem d_L_law_321 : decode c_L_law 321 = .ok (.invokevirtual 38, 3) := by decide +kernel
theorem d_L_law_324 : decode c_L_law 324 = .ok (.iload 5, 2) := by decide +kernel
theorem d_L_law_326 : decode c_L_law 326 = .ok (.if_icmp .eq 5, 3) := by decide +kernel
theorem d_L_law_329 : decode c_L_law 329 = .ok (.iconst 0, 1) := by decide +kernel
theorem d_L_law_330 : decode c_L_law 330 = .ok (.ireturn, 1) := by decide +kernel
theorem d_L_law_331 : decode c_L_law 331 = .ok (.goto 141, 3) := by decide +kernel
theorem d_L_law_334 : decode c_L_law 334 = .ok (.aload_n 1, 1) := by decide +kernel
theorem d_L_law_335 : decode c_L_law 335 = .ok (.invokevirtual 53, 3) := by decide +kernel
theorem d_L_law_338 : decode c_L_law 338 = .ok (.aload_n 2, 1) := by decide +kernel
theorem d_L_law_339 : decode c_L_law 339 = .ok (.invokevirtual 56, 3) := by decide +kernel
theorem d_L_law_342 : decode c_L_law 342 = .ok (.if_icmp .eq 130, 3) := by decide +kernel
theorem d_L_law_345 : decode c_L_law 345 = .ok (.iconst 0, 1) := by decide +kernel
theorem d_L_law_346 : decode c_L_law 346 = .ok (.ireturn, 1) := by decide +kernel
theorem d_L_law_347 : decode c_L_law 347 = .ok (.aload_n 1, 1) := by decide +kernel
theorem d_L_law_348 : decode c_L_law 348 = .ok (.aload_n 0, 1) := by decide +kernel
theorem d_L_law_349 : decode c_L_law 349 = .ok (.iload 4, 2) := by decide +kernel
theorem d_L_law_351 : decode c_L_law 351 = .ok (.iconst 1, 1) := by decide +kernel
theorem d_L_law_352 : decode c_L_law 352 = .ok (.iadd, 1) := by decide +kernel
theorem d_L_law_353 : decode c_L_law 353 = .ok (.iaload, 1) := by decide +kernel
theorem d_L_law_354 : decode c_L_law 354 = .ok (.invokevirtual 57, 3) := by decide +kernel
theorem d_L_law_357 : decode c_L_law 357 = .ok (.aload_n 2, 1) := by decide +kernel
theorem d_L_law_358 : decode c_L_law 358 = .ok (.aload_n 0, 1) := by decide +kernel
theorem d_L_law_359 : decode c_L_law 359 = .ok (.iload 4, 2) := by decide +kernel
theorem d_L_law_361 : decode c_L_law 361 = .ok (.iconst 1, 1) := by decide +kernel
theorem d_L_law_362 : decode c_L_law 362 = .ok (.iadd, 1) := by decide +kernel
theorem d_L_law_363 : decode c_L_law 363 = .ok (.iaload, 1) := by decide +kernel
theorem d_L_law_364 : decode c_L_law 364 = .ok (.invokevirtual 60, 3) := by decide +kernel
theorem d_L_law_367 : decode c_L_law 367 = .ok (.if_icmp .eq 105, 3) := by decide +kernel
theorem d_L_law_370 : decode c_L_law 370 = .ok (.iconst 0, 1) := by decide +kernel
theorem d_L_law_371 : decode c_L_law 371 = .ok (.ireturn, 1) := by decide +kernel
theorem d_L_law_372 : decode c_L_law 372 = .ok (.aload_n 1, 1) := by decide +kernel
theorem d_L_law_373 : decode c_L_law 373 = .ok (.invokevirtual 61, 3) := by decide +kernel
theorem d_L_law_376 : decode c_L_law 376 = .ok (.aload_n 2, 1) := by decide +kernel
theorem d_L_law_377 : decode c_L_law 377 = .ok (.invokevirtual 64, 3) := by decide +kernel
theorem d_L_law_380 : decode c_L_law 380 = .ok (.if_icmp .eq 92, 3) := by decide +kernel
theorem d_L_law_383 : decode c_L_law 383 = .ok (.iconst 0, 1) := by decide +kernel
theorem d_L_law_384 : decode c_L_law 384 = .ok (.ireturn, 1) := by decide +kernel
theorem d_L_law_385 : decode c_L_law 385 = .ok (.aload_n 1, 1) := by decide +kernel
theorem d_L_law_386 : decode c_L_law 386 = .ok (.aload_n 0, 1) := by decide +kernel
theorem d_L_law_387 : decode c_L_law 387 = .ok (.iload 4, 2) := by decide +kernel
theorem d_L_law_389 : decode c_L_law 389 = .ok (.iconst 1, 1) := by decide +kernel
theorem d_L_law_390 : decode c_L_law 390 = .ok (.iadd, 1) := by decide +kernel
theorem d_L_law_391 : decode c_L_law 391 = .ok (.iaload, 1) := by decide +kernel
theorem d_L_law_392 : decode c_L_law 392 = .ok (.invokevirtual 65, 3) := by decide +kernel
theorem d_L_law_395 : decode c_L_law 395 = .ok (.aload_n 2, 1) := by decide +kernel
theorem d_L_law_396 : decode c_L_law 396 = .ok (.aload_n 0, 1) := by decide +kernel
theorem d_L_law_397 : decode c_L_law 397 = .ok (.iload 4, 2) := by decide +kernel
theorem d_L_law_399 : decode c_L_law 399 = .ok (.iconst 1, 1) := by decide +kernel
theorem d_L_law_400 : decode c_L_law 400 = .ok (.iadd, 1) := by decide +kernel
theorem d_L_law_401 : decode c_L_law 401 = .ok (.iaload, 1) := by decide +kernel
theorem d_L_law_402 : decode c_L_law 402 = .ok (.invokevirtual 69, 3) := by decide +kernel
theorem d_L_law_405 : decode c_L_law 405 = .ok (.if_icmp .eq 67, 3) := by decide +kernel
theorem d_L_law_408 : decode c_L_law 408 = .ok (.iconst 0, 1) := by decide +kernel
theorem d_L_law_409 : decode c_L_law 409 = .ok (.ireturn, 1) := by decide +kernel
theorem d_L_law_410 : decode c_L_law 410 = .ok (.aload_n 1, 1) := by decide +kernel
theorem d_L_law_411 : decode c_L_law 411 = .ok (.aload_n 0, 1) := by decide +kernel
theorem d_L_law_412 : decode c_L_law 412 = .ok (.iload 4, 2) := by decide +kernel
theorem d_L_law_414 : decode c_L_law 414 = .ok (.iconst 1, 1) := by decide +kernel
theorem d_L_law_415 : decode c_L_law 415 = .ok (.iadd, 1) := by decide +kernel
theorem d_L_law_416 : decode c_L_law 416 = .ok (.iaload, 1) := by decide +kernel
theorem d_L_law_417 : decode c_L_law 417 = .ok (.aload_n 0, 1) := by decide +kernel
theorem d_L_law_418 : decode c_L_law 418 = .ok (.iload 4, 2) := by decide +kernel
theorem d_L_law_420 : decode c_L_law 420 = .ok (.iconst 2, 1) := by decide +kernel
theorem d_L_law_421 : decode c_L_law 421 = .ok (.iadd, 1) := by decide +kernel
theorem d_L_law_422 : decode c_L_law 422 = .ok (.iaload, 1) := by decide +kernel
theorem d_L_law_423 : decode c_L_law 423 = .ok (.invokevirtual 70, 3) := by decide +kernel
theorem d_L_law_426 : decode c_L_law 426 = .ok (.aload_n 2, 1) := by decide +kernel
theorem d_L_law_427 : decode c_L_law 427 = .ok (.aload_n 0, 1) := by decide +kernel
theorem d_L_law_428 : decode c_L_law 428 = .ok (.iload 4, 2) := by decide +kernel
theorem d_L_law_430 : decode c_L_law 430 = .ok (.iconst 1, 1) := by decide +kernel
theorem d_L_law_431 : decode c_L_law 431 = .ok (.iadd, 1) := by decide +kernel
theorem d_L_law_432 : decode c_L_law 432 = .ok (.iaload, 1) := by decide +kernel
theorem d_L_law_433 : decode c_L_law 433 = .ok (.aload_n 0, 1) := by decide +kernel
theorem d_L_law_434 : decode c_L_law 434 = .ok (.iload 4, 2) := by decide +kernel
theorem d_L_law_436 : decode c_L_law 436 = .ok (.iconst 2, 1) := by decide +kernel
theorem d_L_law_437 : decode c_L_law 437 = .ok (.iadd, 1) := by decide +kernel
theorem d_L_law_438 : decode c_L_law 438 = .ok (.iaload, 1) := by decide +kernel
theorem d_L_law_439 : decode c_L_law 439 = .ok (.invokevirtual 74, 3) := by decide +kernel
theorem d_L_law_442 : decode c_L_law 442 = .ok (.if_icmp .eq 30, 3) := by decide +kernel
theorem d_L_law_445 : decode c_L_law 445 = .ok (.iconst 0, 1) := by decide +kernel
theorem d_L_law_446 : decode c_L_law 446 = .ok (.ireturn, 1) := by decide +kernel
theorem d_L_law_447 : decode c_L_law 447 = .ok (.aload_n 1, 1) := by decide +kernel
theorem d_L_law_448 : decode c_L_law 448 = .ok (.aload_n 0, 1) := by decide +kernel
theorem d_L_law_449 : decode c_L_law 449 = .ok (.iload 4, 2) := by decide +kernel
theorem d_L_law_451 : decode c_L_law 451 = .ok (.iconst 1, 1) := by decide +kernel
theorem d_L_law_452 : decode c_L_law 452 = .ok (.iadd, 1) := by decide +kernel
theorem d_L_law_453 : decode c_L_law 453 = .ok (.iaload, 1) := by decide +kernel
theorem d_L_law_454 : decode c_L_law 454 = .ok (.invokevirtual 75, 3) := by decide +kernel
theorem d_L_law_457 : decode c_L_law 457 = .ok (.aload_n 2, 1) := by decide +kernel
theorem d_L_law_458 : decode c_L_law 458 = .ok (.aload_n 0, 1) := by decide +kernel
theorem d_L_law_459 : decode c_L_law 459 = .ok (.iload 4, 2) := by decide +kernel
theorem d_L_law_461 : decode c_L_law 461 = .ok (.iconst 1, 1) := by decide +kernel
theorem d_L_law_462 : decode c_L_law 462 = .ok (.iadd, 1) := by decide +kernel
theorem d_L_law_463 : decode c_L_law 463 = .ok (.iaload, 1) := by decide +kernel
theorem d_L_law_464 : decode c_L_law 464 = .ok (.invokevirtual 78, 3) := by decide +kernel
theorem d_L_law_467 : decode c_L_law 467 = .ok (.if_icmp .eq 5, 3) := by decide +kernel
theorem d_L_law_470 : decode c_L_law 470 = .ok (.iconst 0, 1) := by decide +kernel
theorem d_L_law_471 : decode c_L_law 471 = .ok (.ireturn, 1) := by decide +kernel
theorem d_L_law_472 : decode c_L_law 472 = .ok (.iinc 4 3, 3) := by decide +kernel
theorem d_L_law_475 : decode c_L_law 475 = .ok (.goto (-452), 3) := by decide +kernel
theorem d_L_law_478 : decode c_L_law 478 = .ok (.iconst 1, 1) := by decide +kernel
theorem d_L_law_479 : decode c_L_law 479 = .ok (.ireturn, 1) := by decide +kernel
end
section
/-! PURE: who reads whom (E v u: v reads u), what isn't ringed (Acc), what a work finds, and the run of the least ready ones. -/
def gN (E : Nat → Nat → Prop) (v : Nat) : Prop := Acc (fun u w => E w u) v
theorem gN_mk {E : Nat → Nat → Prop} {v : Nat} (h : ∀ u, E v u → gN E u) : gN E v := Acc.intro v h
theorem gN_down {E : Nat → Nat → Prop} {v u : Nat} (h : gN E v) (hu : E v u) : gN E u := Acc.inv h hu
theorem gN_ind {E : Nat → Nat → Prop} {P : Nat → Prop} {v : Nat} (h : gN E v) (hp : ∀ v, (∀ u, E v u → gN E u) → (∀ u, E v u → P u) → P v) : P v := by
  unfold gN at h
  induction h with
  | intro v h1 ih => exact hp v h1 ih
/-- a set that holds the touched ones and with a node all its readers -/
def gUp (E : Nat → Nat → Prop) (T F : Nat → Prop) : Prop := (∀ v, T v → F v) ∧ ∀ v u, E v u → F u → F v
/-- what a work finds: the least such set -/
def gF (E : Nat → Nat → Prop) (T : Nat → Prop) (v : Nat) : Prop := ∀ F : Nat → Prop, gUp E T F → F v
theorem gF_up (E : Nat → Nat → Prop) (T : Nat → Prop) : gUp E T (gF E T) := ⟨fun v hv F hF => hF.1 v hv, fun v u hvu hu F hF => hF.2 v u hvu (hu F hF)⟩
theorem gF_le {E : Nat → Nat → Prop} {T F : Nat → Prop} (h : gUp E T F) {v : Nat} (hv : gF E T v) : F v := hv F h
/-- where nothing touched is read, ringed stays what it was -/
theorem gN_old {E O : Nat → Nat → Prop} {T : Nat → Prop} (hE : ∀ v, ¬ T v → ∀ u, E v u ↔ O v u) {v : Nat} (hv : ¬ gF E T v) : gN E v ↔ gN O v := by
  have hdn : ∀ v, ¬ gF E T v → ∀ u, E v u → ¬ gF E T u := fun v hv u hu h => hv ((gF_up E T).2 v u hu h)
  have hT : ∀ v, ¬ gF E T v → ¬ T v := fun v hv h => hv ((gF_up E T).1 v h)
  constructor
  · intro h
    revert hv
    refine gN_ind (P := fun v => ¬ gF E T v → gN O v) h ?_
    intro v _ ih hv
    exact gN_mk fun u hu => ih u ((hE v (hT v hv) u).mpr hu) (hdn v hv u ((hE v (hT v hv) u).mpr hu))
  · intro h
    revert hv
    refine gN_ind (P := fun v => ¬ gF E T v → gN E v) h ?_
    intro v _ ih hv
    exact gN_mk fun u hu => ih u ((hE v (hT v hv) u).mp hu) (hdn v hv u hu)
/-- x may be worked out behind those of p -/
def gC (E : Nat → Nat → Prop) (F : Nat → Prop) (p : List Nat) (x : Nat) : Prop := F x ∧ gN E x ∧ x ∉ p ∧ ∀ u, E x u → F u → gN E u → u ∈ p
/-- l is the run: always the least that may be, until none may -/
def gR (E : Nat → Nat → Prop) (F : Nat → Prop) (l : List Nat) : Prop :=
  (∀ k x, l[k]? = some x → gC E F (l.take k) x ∧ ∀ y, gC E F (l.take k) y → x ≤ y) ∧ ∀ x, ¬ gC E F l x
theorem gR_take {E : Nat → Nat → Prop} {F : Nat → Prop} {l1 l2 : List Nat} (h1 : gR E F l1) (h2 : gR E F l2) : ∀ k, k ≤ l1.length → l2.take k = l1.take k := by
  intro k
  induction k with
  | zero => intro _; simp
  | succ k ih =>
    intro hk
    have e := ih (by omega)
    have hx : l1[k]? = some l1[k] := List.getElem?_eq_getElem (by omega)
    obtain ⟨c1, m1⟩ := h1.1 k _ hx
    rw [← e] at c1
    by_cases hl : k < l2.length
    · have hy : l2[k]? = some l2[k] := List.getElem?_eq_getElem hl
      obtain ⟨c2, m2⟩ := h2.1 k _ hy
      have a1 := m2 _ c1
      rw [e] at c2
      have a2 := m1 _ c2
      have ee : l2[k] = l1[k] := by omega
      rw [List.take_add_one, List.take_add_one, e, hx, hy, ee]
    · have hall : l2.take k = l2 := List.take_of_length_le (by omega)
      rw [hall] at c1
      exact absurd c1 (h2.2 _)
theorem gR_eq {E : Nat → Nat → Prop} {F : Nat → Prop} {l1 l2 : List Nat} (h1 : gR E F l1) (h2 : gR E F l2) : l1 = l2 := by
  have a := gR_take h1 h2 l1.length (Nat.le_refl _)
  have b := gR_take h2 h1 l2.length (Nat.le_refl _)
  rw [List.take_length] at a b
  have hle : l1.length ≤ l2.length := by
    have := congrArg List.length a
    rw [List.length_take] at this
    omega
  have hle2 : l2.length ≤ l1.length := by
    have := congrArg List.length b
    rw [List.length_take] at this
    omega
  rw [← a]
  exact List.take_of_length_le (by omega)
theorem gR_mem {E : Nat → Nat → Prop} {F : Nat → Prop} {l : List Nat} (h : gR E F l) {x : Nat} : x ∈ l ↔ F x ∧ gN E x := by
  constructor
  · intro hx
    obtain ⟨k, hk⟩ := List.getElem?_of_mem hx
    obtain ⟨c1, -⟩ := h.1 k x hk
    exact ⟨c1.1, c1.2.1⟩
  · rintro ⟨hF, hN⟩
    revert hF
    refine gN_ind (P := fun x => F x → x ∈ l) hN ?_
    intro v h1 ih hF
    by_cases hv : v ∈ l
    · exact hv
    · exact absurd ⟨hF, gN_mk h1, hv, fun u hu hFu _ => ih u hu hFu⟩ (h.2 v)
theorem gR_nodup {E : Nat → Nat → Prop} {F : Nat → Prop} {l : List Nat} (h : gR E F l) : ∀ i j x : Nat, l[i]? = some x → l[j]? = some x → i = j := by
  have key : ∀ i j x : Nat, i < j → l[i]? = some x → l[j]? = some x → False := by
    intro i j x hij hi hj
    obtain ⟨c1, -⟩ := h.1 j x hj
    refine c1.2.2.1 (List.mem_of_getElem? (i := i) ?_)
    rw [List.getElem?_take, if_pos hij]
    exact hi
  intro i j x hi hj
  rcases Nat.lt_trichotomy i j with q | q | q
  · exact (key i j x q hi hj).elim
  · exact q
  · exact (key j i x q hj hi).elim
end
section
/-! PURE: a heap in a row of numbers, with one place on the move -/
def hp_ok (v : Nat → Nat) (n : Nat) : Prop := ∀ i, 0 < i → i < n → v ((i - 1) / 2) ≤ v i
def hp_set (v : Nat → Nat) (n x : Nat) : Prop := ∃ i, i < n ∧ v i = x
def hp_inj (v : Nat → Nat) (n : Nat) : Prop := ∀ i j, i < n → j < n → v i = v j → i = j
def hp_sw (v : Nat → Nat) (p q : Nat) : Nat → Nat := fun i => if i = p then v q else if i = q then v p else v i
def hp_up (v : Nat → Nat) (n p : Nat) : Prop := p < n ∧ (∀ i, 0 < i → i < n → i ≠ p → v ((i - 1) / 2) ≤ v i) ∧ ∀ i, 0 < i → i < n → (i - 1) / 2 = p → 0 < p → v ((p - 1) / 2) ≤ v i
def hp_dn (v : Nat → Nat) (n p : Nat) : Prop := (∀ i, 0 < i → i < n → (i - 1) / 2 ≠ p → v ((i - 1) / 2) ≤ v i) ∧ ∀ i, 0 < i → i < n → (i - 1) / 2 = p → 0 < p → v ((p - 1) / 2) ≤ v i
theorem hp_sw_p (v : Nat → Nat) (p q : Nat) : hp_sw v p q p = v q := by simp [hp_sw]
theorem hp_sw_q (v : Nat → Nat) (p q : Nat) : hp_sw v p q q = v p := by
  unfold hp_sw
  by_cases h : q = p
  · subst h; simp
  · simp [h]
theorem hp_sw_o (v : Nat → Nat) {p q i : Nat} (h1 : i ≠ p) (h2 : i ≠ q) : hp_sw v p q i = v i := by simp [hp_sw, h1, h2]
theorem hp_up_step {v : Nat → Nat} {n p : Nat} (h : hp_up v n p) (hp : 0 < p) (hlt : v p < v ((p - 1) / 2)) : hp_up (hp_sw v p ((p - 1) / 2)) n ((p - 1) / 2) := by
  obtain ⟨hpn, h1, h2⟩ := h
  have hq : (p - 1) / 2 < p := by omega
  refine ⟨by omega, fun i hi hin hne => ?_, fun i hi hin hpar hq0 => ?_⟩
  · by_cases e : i = p
    · subst e
      rw [hp_sw_p, hp_sw_q]
      omega
    · rw [hp_sw_o v e hne]
      by_cases e1 : (i - 1) / 2 = p
      · rw [e1, hp_sw_p]
        exact h2 i hi hin e1 hp
      · by_cases e2 : (i - 1) / 2 = (p - 1) / 2
        · rw [e2, hp_sw_q]
          have := h1 i hi hin e
          rw [e2] at this
          omega
        · rw [hp_sw_o v e1 e2]
          exact h1 i hi hin e
  · rw [hp_sw_o v (i := ((p - 1) / 2 - 1) / 2) (by omega) (by omega)]
    have hq1 := h1 ((p - 1) / 2) hq0 (by omega) (by omega)
    by_cases e : i = p
    · subst e
      rw [hp_sw_p]
      exact hq1
    · rw [hp_sw_o v e (by omega)]
      have := h1 i hi hin e
      rw [hpar] at this
      omega
theorem hp_up_end {v : Nat → Nat} {n p : Nat} (h : hp_up v n p) (hp : p = 0 ∨ v ((p - 1) / 2) ≤ v p) : hp_ok v n := by
  intro i hi hin
  by_cases e : i = p
  · subst e
    rcases hp with h0 | h0
    · omega
    · exact h0
  · exact h.2.1 i hi hin e
theorem hp_up_start {v w : Nat → Nat} {n : Nat} (h : hp_ok v n) (hw : ∀ i, i < n → w i = v i) : hp_up w (n + 1) n := by
  refine ⟨by omega, fun i hi hin hne => ?_, fun i hi hin hpar hp => by omega⟩
  rw [hw i (by omega), hw ((i - 1) / 2) (by omega)]
  exact h i hi (by omega)
theorem hp_dn_step {v : Nat → Nat} {n p b : Nat} (h : hp_dn v n p) (hb : b < n) (hbp : b = 2 * p + 1 ∨ b = 2 * p + 2) (hmin : ∀ i, 0 < i → i < n → (i - 1) / 2 = p → v b ≤ v i) (hlt : v b < v p) : hp_dn (hp_sw v p b) n b := by
  obtain ⟨h1, h2⟩ := h
  refine ⟨fun i hi hin hne => ?_, fun i hi hin hpar hb0 => ?_⟩
  · by_cases e : (i - 1) / 2 = p
    · rw [e, hp_sw_p]
      by_cases e2 : i = b
      · subst e2
        rw [hp_sw_q]
        omega
      · rw [hp_sw_o v (by omega) e2]
        exact hmin i hi hin e
    · rw [hp_sw_o v e hne]
      by_cases e2 : i = b
      · exfalso
        rcases hbp with q | q <;> omega
      · by_cases e3 : i = p
        · subst e3
          rw [hp_sw_p]
          exact h2 b (by omega) hb (by rcases hbp with q | q <;> omega) hi
        · rw [hp_sw_o v e3 e2]
          exact h1 i hi hin e
  · have hpb : (b - 1) / 2 = p := by rcases hbp with q | q <;> omega
    rw [hpb, hp_sw_p, hp_sw_o v (by omega) (by omega)]
    have := h1 i hi hin (by omega)
    rw [hpar] at this
    exact this
theorem hp_dn_end {v : Nat → Nat} {n p : Nat} (h : hp_dn v n p) (hp : ∀ i, 0 < i → i < n → (i - 1) / 2 = p → v p ≤ v i) : hp_ok v n := by
  intro i hi hin
  by_cases e : (i - 1) / 2 = p
  · rw [e]; exact hp i hi hin e
  · exact h.1 i hi hin e
theorem hp_dn_start {v w : Nat → Nat} {n : Nat} (h : hp_ok v (n + 1)) (hw : ∀ i, 0 < i → i < n → w i = v i) : hp_dn w n 0 := by
  refine ⟨fun i hi hin hne => ?_, fun i hi hin hpar hp => by omega⟩
  rw [hw i hi hin, hw ((i - 1) / 2) (by omega) (by omega)]
  exact h i hi (by omega)
theorem hp_least {v : Nat → Nat} {n : Nat} (h : hp_ok v n) : ∀ i, i < n → v 0 ≤ v i := by
  intro i
  induction i using Nat.strongRecOn with
  | _ i ih =>
    intro hin
    by_cases e : i = 0
    · subst e; omega
    · have h1 := h i (by omega) hin
      have h2 := ih ((i - 1) / 2) (by omega) (by omega)
      omega
theorem hp_sw_set {v : Nat → Nat} {n p q : Nat} (hp : p < n) (hq : q < n) (x : Nat) : hp_set (hp_sw v p q) n x ↔ hp_set v n x := by
  constructor
  · rintro ⟨i, hi, hx⟩
    by_cases e : i = p
    · subst e; rw [hp_sw_p] at hx; exact ⟨q, hq, hx⟩
    · by_cases e2 : i = q
      · subst e2; rw [hp_sw_q] at hx; exact ⟨p, hp, hx⟩
      · rw [hp_sw_o v e e2] at hx; exact ⟨i, hi, hx⟩
  · rintro ⟨i, hi, hx⟩
    by_cases e : i = p
    · subst e; exact ⟨q, hq, by rw [hp_sw_q]; exact hx⟩
    · by_cases e2 : i = q
      · subst e2; exact ⟨p, hp, by rw [hp_sw_p]; exact hx⟩
      · exact ⟨i, hi, by rw [hp_sw_o v e e2]; exact hx⟩
theorem hp_sw_inj {v : Nat → Nat} {n p q : Nat} (hp : p < n) (hq : q < n) (h : hp_inj v n) : hp_inj (hp_sw v p q) n := by
  have key : ∀ i, ∃ j, hp_sw v p q i = v j ∧ (i < n → j < n) ∧ (∀ i' j', hp_sw v p q i' = v j' → True) ∧ ((i = p ∧ j = q) ∨ (i ≠ p ∧ i = q ∧ j = p) ∨ (i ≠ p ∧ i ≠ q ∧ j = i)) := by
    intro i
    by_cases e : i = p
    · subst e; exact ⟨q, hp_sw_p v i q, fun _ => hq, fun _ _ _ => trivial, Or.inl ⟨rfl, rfl⟩⟩
    · by_cases e2 : i = q
      · subst e2; exact ⟨p, hp_sw_q v p i, fun _ => hp, fun _ _ _ => trivial, Or.inr (Or.inl ⟨e, rfl, rfl⟩)⟩
      · exact ⟨i, hp_sw_o v e e2, fun h => h, fun _ _ _ => trivial, Or.inr (Or.inr ⟨e, e2, rfl⟩)⟩
  intro i j hi hj hij
  obtain ⟨i', a1, a2, -, a3⟩ := key i
  obtain ⟨j', b1, b2, -, b3⟩ := key j
  have e := h i' j' (a2 hi) (b2 hj) (by rw [← a1, ← b1]; exact hij)
  omega
end
section
/-! PURE: a chain with links both ways, by places: first is its head, each one's next and previous stand where the list has them -/
def chI (rf : Nat → Nat → Option Nat) (fP fN : Nat) (first : Option Nat) (l : List Nat) : Prop :=
  first = l[0]? ∧ ∀ i k : Nat, l[i]? = some k → rf k fN = l[i + 1]? ∧ rf k fP = (if i = 0 then none else l[i - 1]?)
theorem nd_ij {l : List Nat} (h : l.Nodup) {i j x : Nat} (hi : l[i]? = some x) (hj : l[j]? = some x) : i = j :=
  (List.getElem?_inj (List.getElem?_eq_some_iff.mp hi).1 h).mp (hi.trans hj.symm)
theorem chI_push {rf rf' : Nat → Nat → Option Nat} {fP fN : Nat} {first : Option Nat} {l : List Nat} {k : Nat} (h : chI rf fP fN first l) (hnd : l.Nodup) (hn : rf' k fN = first) (hp : rf' k fP = none)
    (h1 : ∀ j ∈ l, rf' j fN = rf j fN) (h2 : ∀ j ∈ l, rf' j fP = if first = some j then some k else rf j fP) : chI rf' fP fN (some k) (k :: l) := by
  obtain ⟨hf, hl⟩ := h
  refine ⟨rfl, fun i j hj => ?_⟩
  cases i with
  | zero =>
    have e : k = j := by simpa using hj
    subst e
    exact ⟨by rw [hn, hf]; simp, by rw [hp]; simp⟩
  | succ i =>
    have hj' : l[i]? = some j := by simpa using hj
    obtain ⟨a1, a2⟩ := hl i j hj'
    have hm := List.mem_of_getElem? hj'
    refine ⟨by rw [h1 j hm, a1]; simp, ?_⟩
    rw [h2 j hm, if_neg (Nat.succ_ne_zero i)]
    by_cases e : i = 0
    · subst e
      rw [if_pos (by rw [hf]; exact hj')]
      simp
    · rw [if_neg (fun z => e (nd_ij hnd hj' (by rw [← hf]; exact z))), a2, if_neg e]
      obtain ⟨i', rfl⟩ := Nat.exists_eq_succ_of_ne_zero e
      simp
theorem chI_del {rf rf' : Nat → Nat → Option Nat} {fP fN : Nat} {first : Option Nat} {l : List Nat} {j k : Nat} (h : chI rf fP fN first l) (hnd : l.Nodup) (hj : l[j]? = some k)
    (hN : ∀ x ∈ l, x ≠ k → rf' x fN = if rf k fP = some x then rf k fN else rf x fN) (hP : ∀ x ∈ l, x ≠ k → rf' x fP = if rf k fN = some x then rf k fP else rf x fP) :
    chI rf' fP fN (if rf k fP = none then rf k fN else first) (l.eraseIdx j) := by
  obtain ⟨hf, hl⟩ := h
  obtain ⟨kN, kP⟩ := hl j k hj
  have hjl : j < l.length := (List.getElem?_eq_some_iff.mp hj).1
  constructor
  · rw [List.getElem?_eraseIdx]
    by_cases e : j = 0
    · subst e
      rw [if_pos rfl] at kP
      rw [if_pos kP, kN]
      simp
    · rw [if_neg e] at kP
      have hne : ¬ rf k fP = none := by
        rw [kP, List.getElem?_eq_getElem (show j - 1 < l.length by omega)]
        exact fun z => by cases z
      rw [if_neg hne, if_pos (by omega), hf]
  · intro i x hx
    rw [List.getElem?_eraseIdx] at hx
    rw [List.getElem?_eraseIdx, List.getElem?_eraseIdx]
    by_cases hij : i < j
    · rw [if_pos hij] at hx
      obtain ⟨a1, a2⟩ := hl i x hx
      have hxk : x ≠ k := fun z => by subst z; have := nd_ij hnd hx hj; omega
      have hm := List.mem_of_getElem? hx
      rw [hN x hm hxk, hP x hm hxk]
      constructor
      · by_cases e : i + 1 = j
        · rw [if_pos (by rw [kP, if_neg (by omega), show j - 1 = i by omega]; exact hx), kN, if_neg (by omega), e]
        · rw [if_neg, a1, if_pos (by omega)]
          rw [kP]
          intro z
          by_cases e0 : j = 0
          · omega
          · rw [if_neg e0] at z
            have := nd_ij hnd hx z
            omega
      · rw [if_neg, a2]
        · by_cases e0 : i = 0
          · rw [if_pos e0, if_pos e0]
          · rw [if_neg e0, if_neg e0, if_pos (by omega)]
        · rw [kN]
          intro z
          have := nd_ij hnd hx z
          omega
    · rw [if_neg hij] at hx
      obtain ⟨a1, a2⟩ := hl (i + 1) x hx
      have hxk : x ≠ k := fun z => by subst z; have := nd_ij hnd hx hj; omega
      have hm := List.mem_of_getElem? hx
      rw [hN x hm hxk, hP x hm hxk]
      constructor
      · rw [if_neg, a1, if_neg (by omega)]
        rw [kP]
        intro z
        by_cases e0 : j = 0
        · rw [if_pos e0] at z; cases z
        · rw [if_neg e0] at z
          have := nd_ij hnd hx z
          omega
      · by_cases e : i = j
        · subst e
          rw [if_pos (by rw [kN]; exact hx), kP]
          by_cases e0 : i = 0
          · rw [if_pos e0, if_pos e0]
          · rw [if_neg e0, if_neg e0, if_pos (by omega)]
        · rw [if_neg, a2, if_neg (by omega), if_neg (by omega), if_neg (by omega)]
          · rw [show i + 1 - 1 = i - 1 + 1 by omega]
          · rw [kN]
            intro z
            have := nd_ij hnd hx z
            omega
theorem chI_keep {rf rf' : Nat → Nat → Option Nat} {fP fN : Nat} {first : Option Nat} {l : List Nat} (h : chI rf fP fN first l) (hk : ∀ x ∈ l, rf' x fN = rf x fN ∧ rf' x fP = rf x fP) : chI rf' fP fN first l := by
  refine ⟨h.1, fun i k hi => ?_⟩
  obtain ⟨a, b⟩ := hk k (List.mem_of_getElem? hi)
  rw [a, b]
  exact h.2 i k hi
end
section
/-- what the tables say of links among nest mates, and of arrays of references: not among the good words -/
def nst : List (String × Nat × MethodName × String) := [("HangOrder", 9, ⟨"HangOrder$NodeTable", "<init>", "()V"⟩, "HangOrder"), ("HangOrder", 18, ⟨"HangOrder$Numbers", "<init>", "()V"⟩, "HangOrder"), ("HangOrder", 31, ⟨"HangOrder$LeastFirst", "<init>", "()V"⟩, "HangOrder"), ("HangOrder$LeastFirst", 9, ⟨"HangOrder$Numbers", "<init>", "()V"⟩, "HangOrder"), ("HangOrder$NodeTable", 29, ⟨"HangOrder$Page", "<init>", "()V"⟩, "HangOrder"), ("HangOrder$NodeTable", 17, ⟨"HangOrder", "isNode", "(I)Z"⟩, "HangOrder")]
def sKx (U : State) : Prop := (∀ q ∈ nst, va_Nw (.methodLinkNest q.1 q.2.1 q.2.2.1 q.2.2.2) U) ∧ va_AO "HangOrder$Page" U ∧ va_AO "HangOrder$Node" U
theorem sKx_warm {s U : State} (hW : s.WarmedH U.vm) (h : sKx s) : sKx U := ⟨fun q hq => va_Nw.warmM hW (h.1 q hq), va_AO.moved hW.alike h.2.1, va_AO.moved hW.alike h.2.2⟩
theorem sKx_same {s U : State} (hv : s.vm = U.vm) (h : sKx s) : sKx U := ⟨fun q hq => va_Nw.same rfl hv (h.1 q hq), va_AO.moved (by rw [hv]; exact Vm.Alike.refl _) h.2.1, va_AO.moved (by rw [hv]; exact Vm.Alike.refl _) h.2.2⟩
/-! THE STORE: a picture of many cells as four functions. kd: what stands at an address (an object of class ci, or an array of kind t and length n); R, I, L: what a place (address, index) holds, as a reference, an int, a long. -/
abbrev sK : Type := Nat ⊕ (Nat × Nat)
abbrev sS : Type := (Nat → Option sK) × (Nat → Nat → Option Nat) × (Nat → Nat → Int32) × (Nat → Nat → Int64)
abbrev sM : Type := Nat → Option va_E
/-- the fields of an object whose kinds are g (true: a reference) -/
def sFs (g : List Bool) (r : Nat → Option Nat) (i : Nat → Int32) : List Value := (List.range g.length).map (fun k => if g.getD k false then va_rf (r k) else .int (i k))
/-- the contents of an array by its kind (0 int and its like, 1 long, else references) -/
def sCt (t : Nat) (r : Nat → Option Nat) (i : Nat → Int32) (l : Nat → Int64) : (Nat → Int32) ⊕ (Nat → Int64) ⊕ (Nat → UInt32) ⊕ (Nat → UInt64) ⊕ (Nat → Option Nat) :=
  if t = 0 then .inl i else if t = 1 then .inr (.inl l) else .inr (.inr (.inr (.inr r)))
def sMk (sg : Nat → List Bool) (tk : Nat → Nat) (dA : Nat → ClassId) (S : sS) : sM := fun a => match S.1 a with
  | none => none
  | some (.inl ci) => some (.inr (ci, sFs (sg ci) (S.2.1 a) (S.2.2.1 a)))
  | some (.inr tn) => some (.inl (dA tn.1, tn.2, sCt (tk tn.1) (S.2.1 a) (S.2.2.1 a) (S.2.2.2 a)))
def sU (M : sM) (a : Nat) (x : va_E) : sM := fun b => if b = a then some x else M b
/-- a function of two places, changed at one -/
def up2 {α : Type} (f : Nat → Nat → α) (a k : Nat) (x : α) : Nat → Nat → α := fun b j => if b = a ∧ j = k then x else f b j
/-- a row of a function of two places, changed whole -/
def upr {α : Type} (f : Nat → Nat → α) (a : Nat) (r : Nat → α) : Nat → Nat → α := fun b => if b = a then r else f b
theorem up2_self {α : Type} (f : Nat → Nat → α) (a k : Nat) (x : α) : up2 f a k x a k = x := by simp [up2]
theorem up2_row {α : Type} (f : Nat → Nat → α) (a k : Nat) (x : α) : up2 f a k x a = fun j => if j = k then x else f a j := by funext j; simp [up2]
theorem up2_off {α : Type} (f : Nat → Nat → α) {a k b : Nat} (x : α) (h : b ≠ a) : up2 f a k x b = f b := by funext j; simp [up2, h]
theorem up2_ne {α : Type} (f : Nat → Nat → α) {a k b j : Nat} (x : α) (h : j ≠ k) : up2 f a k x b j = f b j := by simp [up2, h]
theorem upr_self {α : Type} (f : Nat → Nat → α) (a : Nat) (r : Nat → α) : upr f a r a = r := by simp [upr]
theorem upr_off {α : Type} (f : Nat → Nat → α) {a b : Nat} (r : Nat → α) (h : b ≠ a) : upr f a r b = f b := by simp [upr, h]
def sG (M : sM) (ws : va_W) : Prop := ∀ (a : Nat) (x : va_E), M a = some x ↔ ∃ k : Nat, ws[k]? = some (a, x)
theorem sG_set {A : Nat → Prop} {M : sM} {ws : va_W} {a k : Nat} {x y : va_E} (h : sG M ws) (hD : va_D A ws) (hk : ws[k]? = some (a, x)) : sG (sU M a y) (ws.set k (a, y)) := by
  intro b z
  have hlt : k < ws.length := (List.getElem?_eq_some_iff.mp hk).1
  constructor
  · intro hb
    by_cases e : b = a
    · subst e
      have hz : y = z := by simpa [sU] using hb
      subst hz
      exact ⟨k, by rw [List.getElem?_set_self hlt]⟩
    · have hb' : M b = some z := by simpa [sU, e] using hb
      obtain ⟨j, hj⟩ := (h b z).mp hb'
      refine ⟨j, ?_⟩
      have hjk : k ≠ j := by
        intro q
        subst q
        rw [hk] at hj
        exact e (congrArg Prod.fst (Option.some.inj hj)).symm
      rw [List.getElem?_set_ne hjk]
      exact hj
  · rintro ⟨j, hj⟩
    by_cases q : k = j
    · subst q
      rw [List.getElem?_set_self hlt] at hj
      have e := Option.some.inj hj
      have e1 : a = b := congrArg Prod.fst e
      have e2 : y = z := congrArg Prod.snd e
      subst e1; subst e2
      simp [sU]
    · rw [List.getElem?_set_ne q] at hj
      have hb : M b = some z := (h b z).mpr ⟨j, hj⟩
      have e : b ≠ a := fun e => q (hD.1 k j (a, x) (b, z) hk hj e.symm)
      simpa [sU, e] using hb
theorem sG_fresh {A : Nat → Prop} {M : sM} {ws : va_W} {q : Nat} {x : va_E} (h : sG M ws) (hD : va_D A (ws ++ [(q, x)])) : M q = none := by
  cases hq : M q with
  | none => rfl
  | some y =>
    obtain ⟨k, hk⟩ := (h q y).mp hq
    have hl := (List.getElem?_eq_some_iff.mp hk).1
    have h1 : (ws ++ [(q, x)])[k]? = some (q, y) := by rw [List.getElem?_append_left hl]; exact hk
    have h2 : (ws ++ [(q, x)])[ws.length]? = some (q, x) := by rw [List.getElem?_append_right (Nat.le_refl _), Nat.sub_self]; rfl
    have := hD.1 _ _ _ _ h1 h2 rfl
    omega
theorem sG_push {A : Nat → Prop} {M : sM} {ws : va_W} {q : Nat} {x : va_E} (h : sG M ws) (hD : va_D A (ws ++ [(q, x)])) : sG (sU M q x) (ws ++ [(q, x)]) := by
  have hq := sG_fresh h hD
  have h2 : (ws ++ [(q, x)])[ws.length]? = some (q, x) := by rw [List.getElem?_append_right (Nat.le_refl _), Nat.sub_self]; rfl
  intro b z
  constructor
  · intro hb
    by_cases e : b = q
    · subst e
      have hz : x = z := by simpa [sU] using hb
      subst hz
      exact ⟨ws.length, h2⟩
    · have hb' : M b = some z := by simpa [sU, e] using hb
      obtain ⟨j, hj⟩ := (h b z).mp hb'
      exact ⟨j, by rw [List.getElem?_append_left (List.getElem?_eq_some_iff.mp hj).1]; exact hj⟩
  · rintro ⟨j, hj⟩
    by_cases hl : j < ws.length
    · rw [List.getElem?_append_left hl] at hj
      have hb : M b = some z := (h b z).mpr ⟨j, hj⟩
      have e : b ≠ q := fun e => by rw [e, hq] at hb; cases hb
      simpa [sU, e] using hb
    · rw [List.getElem?_append_right (by omega)] at hj
      have hz : j - ws.length < 1 := (List.getElem?_eq_some_iff.mp hj).1
      rw [show j - ws.length = 0 by omega] at hj
      have e := Option.some.inj hj
      have e1 : q = b := congrArg Prod.fst e
      have e2 : x = z := congrArg Prod.snd e
      subst e1; subst e2
      simp [sU]
/-- which cells a method over the store may change: the store's, and those that it makes -/
def sA (S : sS) (sz : Nat) : Nat → Prop := fun q => S.1 q ≠ none ∨ sz ≤ q
theorem sMk_some {sg : Nat → List Bool} {tk : Nat → Nat} {dA : Nat → ClassId} {S : sS} {a : Nat} {x : va_E} (h : sMk sg tk dA S a = some x) : S.1 a ≠ none := by
  intro q
  rw [sMk, q] at h
  cases h
theorem sMk_ex {sg : Nat → List Bool} {tk : Nat → Nat} {dA : Nat → ClassId} {S : sS} {a : Nat} (h : S.1 a ≠ none) : ∃ x, sMk sg tk dA S a = some x := by
  unfold sMk
  cases hk : S.1 a with
  | none => exact absurd hk h
  | some k => cases k with
    | inl ci => exact ⟨_, rfl⟩
    | inr tn => exact ⟨_, rfl⟩
theorem sMk_obj {sg : Nat → List Bool} {tk : Nat → Nat} {dA : Nat → ClassId} {S : sS} {a ci : Nat} (h : S.1 a = some (.inl ci)) : sMk sg tk dA S a = some (.inr (ci, sFs (sg ci) (S.2.1 a) (S.2.2.1 a))) := by
  rw [sMk, h]
theorem sMk_arr {sg : Nat → List Bool} {tk : Nat → Nat} {dA : Nat → ClassId} {S : sS} {a t n : Nat} (h : S.1 a = some (.inr (t, n))) : sMk sg tk dA S a = some (.inl (dA t, n, sCt (tk t) (S.2.1 a) (S.2.2.1 a) (S.2.2.2 a))) := by
  rw [sMk, h]
theorem sFs_len (g : List Bool) (r : Nat → Option Nat) (i : Nat → Int32) : (sFs g r i).length = g.length := by simp [sFs]
theorem sFs_at (g : List Bool) (r : Nat → Option Nat) (i : Nat → Int32) {k : Nat} (hk : k < g.length) : (sFs g r i)[k]? = some (if g.getD k false then va_rf (r k) else .int (i k)) := by
  simp [sFs, hk]
theorem sFs_seti {g : List Bool} {k : Nat} (hg : g[k]? = some false) (r : Nat → Option Nat) (i : Nat → Int32) (x : Int32) : (sFs g r i).set k (.int x) = sFs g r (fun j => if j = k then x else i j) := by
  have hk : k < g.length := (List.getElem?_eq_some_iff.mp hg).1
  apply List.ext_getElem?
  intro j
  by_cases hj : j = k
  · subst hj
    rw [List.getElem?_set_self (by rw [sFs_len]; exact hk), sFs_at g r _ hk]
    simp [List.getD, hg]
  · rw [List.getElem?_set_ne (fun q => hj q.symm)]
    by_cases hl : j < g.length
    · rw [sFs_at g r _ hl, sFs_at g r _ hl]
      simp [hj]
    · rw [List.getElem?_eq_none (by rw [sFs_len]; omega), List.getElem?_eq_none (by rw [sFs_len]; omega)]
theorem sFs_setr {g : List Bool} {k : Nat} (hg : g[k]? = some true) (r : Nat → Option Nat) (i : Nat → Int32) (x : Option Nat) : (sFs g r i).set k (va_rf x) = sFs g (fun j => if j = k then x else r j) i := by
  have hk : k < g.length := (List.getElem?_eq_some_iff.mp hg).1
  apply List.ext_getElem?
  intro j
  by_cases hj : j = k
  · subst hj
    rw [List.getElem?_set_self (by rw [sFs_len]; exact hk), sFs_at g _ i hk]
    simp [List.getD, hg]
  · rw [List.getElem?_set_ne (fun q => hj q.symm)]
    by_cases hl : j < g.length
    · rw [sFs_at g _ i hl, sFs_at g _ i hl]
      simp [hj]
    · rw [List.getElem?_eq_none (by rw [sFs_len]; omega), List.getElem?_eq_none (by rw [sFs_len]; omega)]
end
section
theorem sMk_seti {sg : Nat → List Bool} {tk : Nat → Nat} {dA : Nat → ClassId} {kd : Nat → Option sK} {rf : Nat → Nat → Option Nat} {it : Nat → Nat → Int32} {lg : Nat → Nat → Int64} {a ci k : Nat} (x : Int32) (h : kd a = some (.inl ci)) (hg : (sg ci)[k]? = some false) :
    sMk sg tk dA (kd, rf, up2 it a k x, lg) = sU (sMk sg tk dA (kd, rf, it, lg)) a (.inr (ci, (sFs (sg ci) (rf a) (it a)).set k (.int x))) := by
  funext b
  by_cases hb : b = a
  · subst hb
    simp [sMk, sU, h, sFs_seti hg, up2_row]
  · simp [sMk, sU, hb, up2_off]
theorem sMk_setr {sg : Nat → List Bool} {tk : Nat → Nat} {dA : Nat → ClassId} {kd : Nat → Option sK} {rf : Nat → Nat → Option Nat} {it : Nat → Nat → Int32} {lg : Nat → Nat → Int64} {a ci k : Nat} (x : Option Nat) (h : kd a = some (.inl ci)) (hg : (sg ci)[k]? = some true) :
    sMk sg tk dA (kd, up2 rf a k x, it, lg) = sU (sMk sg tk dA (kd, rf, it, lg)) a (.inr (ci, (sFs (sg ci) (rf a) (it a)).set k (va_rf x))) := by
  funext b
  by_cases hb : b = a
  · subst hb
    simp [sMk, sU, h, sFs_setr hg, up2_row]
  · simp [sMk, sU, hb, up2_off]
theorem sMk_ari {sg : Nat → List Bool} {tk : Nat → Nat} {dA : Nat → ClassId} {kd : Nat → Option sK} {rf : Nat → Nat → Option Nat} {it : Nat → Nat → Int32} {lg : Nat → Nat → Int64} {a t n k : Nat} (x : Int32) (h : kd a = some (.inr (t, n))) (ht : tk t = 0) :
    sMk sg tk dA (kd, rf, up2 it a k x, lg) = sU (sMk sg tk dA (kd, rf, it, lg)) a (.inl (dA t, n, .inl (upd (it a) k x))) := by
  funext b
  by_cases hb : b = a
  · subst hb
    simp [sMk, sU, h, sCt, ht, up2_row]
    rfl
  · simp [sMk, sU, hb, up2_off]
theorem sMk_arl {sg : Nat → List Bool} {tk : Nat → Nat} {dA : Nat → ClassId} {kd : Nat → Option sK} {rf : Nat → Nat → Option Nat} {it : Nat → Nat → Int32} {lg : Nat → Nat → Int64} {a t n k : Nat} (x : Int64) (h : kd a = some (.inr (t, n))) (ht : tk t = 1) :
    sMk sg tk dA (kd, rf, it, up2 lg a k x) = sU (sMk sg tk dA (kd, rf, it, lg)) a (.inl (dA t, n, .inr (.inl (vp_updL (lg a) k x)))) := by
  funext b
  by_cases hb : b = a
  · subst hb
    simp [sMk, sU, h, sCt, ht, up2_row]
    rfl
  · simp [sMk, sU, hb, up2_off]
theorem sMk_arq {sg : Nat → List Bool} {tk : Nat → Nat} {dA : Nat → ClassId} {kd : Nat → Option sK} {rf : Nat → Nat → Option Nat} {it : Nat → Nat → Int32} {lg : Nat → Nat → Int64} {a t n k : Nat} (x : Option Nat) (h : kd a = some (.inr (t, n))) (ht : tk t = 2) :
    sMk sg tk dA (kd, up2 rf a k x, it, lg) = sU (sMk sg tk dA (kd, rf, it, lg)) a (.inl (dA t, n, .inr (.inr (.inr (.inr (va_up (rf a) k x)))))) := by
  funext b
  by_cases hb : b = a
  · subst hb
    simp [sMk, sU, h, sCt, ht, up2_row]
    rfl
  · simp [sMk, sU, hb, up2_off]
/-- a new cell: its row is blank -/
def sNew (S : sS) (q : Nat) (k : sK) : sS := (va_up S.1 q (some k), upr S.2.1 q (fun _ => none), upr S.2.2.1 q (fun _ => 0), upr S.2.2.2 q (fun _ => 0))
theorem sMk_newo {sg : Nat → List Bool} {tk : Nat → Nat} {dA : Nat → ClassId} {S : sS} {q ci : Nat} :
    sMk sg tk dA (sNew S q (.inl ci)) = sU (sMk sg tk dA S) q (.inr (ci, sFs (sg ci) (fun _ => none) (fun _ => 0))) := by
  funext b
  by_cases hb : b = q
  · subst hb
    simp [sMk, sNew, sU, va_up, upr]
  · simp [sMk, sNew, sU, hb, va_up, upr]
theorem sMk_newa {sg : Nat → List Bool} {tk : Nat → Nat} {dA : Nat → ClassId} {S : sS} {q t n : Nat} :
    sMk sg tk dA (sNew S q (.inr (t, n))) = sU (sMk sg tk dA S) q (.inl (dA t, n, sCt (tk t) (fun _ => none) (fun _ => 0) (fun _ => 0))) := by
  funext b
  by_cases hb : b = q
  · subst hb
    simp [sMk, sNew, sU, va_up, upr]
  · simp [sMk, sNew, sU, hb, va_up, upr]
/-- the store S stands in the heap H; since H0 nothing outside A has changed -/
def sW (sg : Nat → List Bool) (tk : Nat → Nat) (D : va_G) (dA : Nat → ClassId) (cl : List vw_C) (A : Nat → Prop) (H0 : Heap) (S : sS) (H : Heap) (locs : List Loc) : Prop :=
  (∀ q, H0.size ≤ q → A q) ∧ ∃ ws : va_W, sG (sMk sg tk dA S) ws ∧ va_P D cl ws H ∧ va_D A ws ∧ va_S A H0 H locs
/-- the store S in a state, as a method's start has it -/
def sP (sg : Nat → List Bool) (tk : Nat → Nat) (D : va_G) (dA : Nat → ClassId) (cl : List vw_C) (tys : List (ClassId × FieldType)) (S : sS) (sz : Nat) (U : State) : Prop :=
  U.heap.size = sz ∧ (∃ ws : va_W, sG (sMk sg tk dA S) ws ∧ va_P D cl ws U.heap ∧ va_D (fun _ => True) ws) ∧ va_K D cl tys U ∧ sKx U
/-- the store S2 in a state, as a method's end has it, that began with S -/
def sB (sg : Nat → List Bool) (tk : Nat → Nat) (D : va_G) (dA : Nat → ClassId) (cl : List vw_C) (S : sS) (sz : Nat) (S2 : sS) (t : State) : Prop :=
  ∃ ws : va_W, sG (sMk sg tk dA S2) ws ∧ va_P D cl ws t.heap ∧ va_D (sA S sz) ws
theorem sP_blind {sg : Nat → List Bool} {tk : Nat → Nat} {D : va_G} {dA : Nat → ClassId} {cl : List vw_C} {tys : List (ClassId × FieldType)} {S : sS} {sz : Nat} {av : List Value} : FrameBlind (va_Pc av (sP sg tk D dA cl tys S sz)) :=
  fun a U g mk q => by
    obtain ⟨q0, q1, q2, qK, qX⟩ := q
    exact ⟨q0, q1, q2, va_K.moved (u := U) (U := U.calling g mk a) (Vm.Alike.refl U.vm) qK, sKx_same (s := U) (U := U.calling g mk a) rfl qX⟩
theorem sW_start {sg : Nat → List Bool} {tk : Nat → Nat} {D : va_G} {dA : Nat → ClassId} {cl : List vw_C} {tys : List (ClassId × FieldType)} {S : sS} {sz : Nat} {s : State} (h : sP sg tk D dA cl tys S sz s) : sW sg tk D dA cl (sA S sz) s.heap S s.heap [] := by
  obtain ⟨hsz, ⟨ws, hG, hP, hD⟩, hK, hX⟩ := h
  refine ⟨fun q hq => Or.inr (by omega), ws, hG, hP, ⟨hD.1, fun k q hk => ?_⟩, va_S.rf⟩
  exact Or.inl (sMk_some ((hG q.1 q.2).mpr ⟨k, hk⟩))
theorem sW.F {sg : Nat → List Bool} {tk : Nat → Nat} {D : va_G} {dA : Nat → ClassId} {cl : List vw_C} {A : Nat → Prop} {s t : State} {S : sS} {H : Heap} {locs : List Loc} (h : sW sg tk D dA cl A s.heap S H locs) (ht : t.heap = H) : va_F A s t := by
  obtain ⟨-, ws, -, -, -, hS⟩ := h
  exact hS.F ht
theorem sW.locs {sg : Nat → List Bool} {tk : Nat → Nat} {D : va_G} {dA : Nat → ClassId} {cl : List vw_C} {A : Nat → Prop} {H0 H : Heap} {S : sS} {locs : List Loc} (h : sW sg tk D dA cl A H0 S H locs) : ∀ q ∈ locs, A q.base := by
  obtain ⟨-, ws, -, -, -, hS⟩ := h
  exact hS.2.2
theorem sW.B {sg : Nat → List Bool} {tk : Nat → Nat} {D : va_G} {dA : Nat → ClassId} {cl : List vw_C} {S0 : sS} {sz : Nat} {H0 H : Heap} {t : State} {S : sS} {locs : List Loc} (h : sW sg tk D dA cl (sA S0 sz) H0 S H locs) (ht : t.heap = H) : sB sg tk D dA cl S0 sz S t := by
  obtain ⟨-, ws, hG, hP, hD, -⟩ := h
  exact ⟨ws, hG, by rw [ht]; exact hP, hD⟩
/-- for a call with the whole store -/
theorem sW.pre {sg : Nat → List Bool} {tk : Nat → Nat} {D : va_G} {dA : Nat → ClassId} {cl : List vw_C} {tys : List (ClassId × FieldType)} {A : Nat → Prop} {H0 H : Heap} {s : State} {S : sS} {locs : List Loc} {av : List Value} (h : sW sg tk D dA cl A H0 S H locs) (hK : va_K D cl tys s) (hX : sKx s) :
    ∀ U : State, U.heap = H → s.WarmedH U.vm → va_Pc av (sP sg tk D dA cl tys S H.size) av.toArray U := by
  obtain ⟨-, ws, hG, hP, hD, -⟩ := h
  intro U hU hW
  exact ⟨rfl, by rw [hU], ⟨ws, hG, by rw [hU]; exact hP, hD.weaken (fun _ _ _ _ => trivial)⟩, va_K.moved hW.alike hK, sKx_warm hW hX⟩
/-- for a call with a part of the store -/
theorem sW.free {sg : Nat → List Bool} {tk : Nat → Nat} {D : va_G} {dA : Nat → ClassId} {cl : List vw_C} {A : Nat → Prop} {H0 H : Heap} {S : sS} {locs : List Loc} (h : sW sg tk D dA cl A H0 S H locs) : ∀ q, sA S H.size q → A q := by
  obtain ⟨hA, ws, hG, hP, hD, hS⟩ := h
  intro q hq
  rcases hq with hq | hq
  · obtain ⟨x, hx⟩ := sMk_ex (sg := sg) (tk := tk) (dA := dA) hq
    obtain ⟨k, hk⟩ := (hG q x).mp hx
    exact hD.2 k _ hk
  · exact hA q (Nat.le_trans hS.1 hq)
theorem sW.recv {sg : Nat → List Bool} {tk : Nat → Nat} {D : va_G} {dA : Nat → ClassId} {cl : List vw_C} {tys : List (ClassId × FieldType)} {A : Nat → Prop} {H0 H : Heap} {s : State} {S : sS} {locs : List Loc} (h : sW sg tk D dA cl A H0 S H locs) (hK : va_K D cl tys s) {a ci : Nat} (ha : S.1 a = some (.inl ci)) {q : vw_C} (hc : cl[ci]? = some q) :
    ∃ cell : Cell, H[a]? = some cell ∧ cell.vm.isStatics = false ∧ s.vm.findClass q.1 = some cell.cls := by
  obtain ⟨-, ws, hG, hP, -, -⟩ := h
  obtain ⟨k, hk⟩ := (hG a _).mp (sMk_obj ha)
  exact va_recv hK hP hc hk
theorem sW.lt {sg : Nat → List Bool} {tk : Nat → Nat} {D : va_G} {dA : Nat → ClassId} {cl : List vw_C} {A : Nat → Prop} {H0 H : Heap} {S : sS} {locs : List Loc} (h : sW sg tk D dA cl A H0 S H locs) {a : Nat} (ha : S.1 a ≠ none) : a < H.size := by
  obtain ⟨-, ws, hG, hP, -, -⟩ := h
  obtain ⟨x, hx⟩ := sMk_ex (sg := sg) (tk := tk) (dA := dA) ha
  obtain ⟨k, hk⟩ := (hG a x).mp hx
  exact (hP k _ hk).lt
theorem rf_narrow (n : String) (x : Option Nat) : narrow (.object n) (va_rf x) = va_rf x := by cases x <;> rfl
theorem rf_fits (n : String) (x : Option Nat) : fits (.object n) (va_rf x) = true := by cases x <;> rfl
theorem rf_narrowA (t : FieldType) (x : Option Nat) : narrow (.array t) (va_rf x) = va_rf x := by cases x <;> rfl
theorem rf_fitsA (t : FieldType) (x : Option Nat) : fits (.array t) (va_rf x) = true := by cases x <;> rfl
theorem rf_cat (x : Option Nat) : (va_rf x).category = 1 := by cases x <;> rfl
end
section
section SROWS
variable {p : Program} {l : Launch} {e : Env} {Rm : Room} {s : State} {m : MethodId} {args : Array Value} {below : List Frame} {meth : Method} {c : Code} {H : Heap} {locs : List Loc} {cells slots : Nat} {Q : State → Prop}
variable {cc : ByteArray} {pc : Nat} {ls : Array Slot} {rest st0 : List Value} {D : va_G} {cl : List vw_C} {A : Nat → Prop} {a : Nat} {tys : List (ClassId × FieldType)} {H0 : Heap}
variable {sg : Nat → List Bool} {tk : Nat → Nat} {dA : Nat → ClassId} {kd : Nat → Option sK} {rf : Nat → Nat → Option Nat} {it : Nat → Nat → Int32} {lg : Nat → Nat → Int64}
theorem s_geti (hexec : p.tables.exec = Jvm.exec) (hb : c.code = cc) {own ref C : String} {T : u_T} {N ci index : Nat} {Ts : List Cond} (hts : ∀ w ∈ Ts, w.before args s = true) (hin : ∀ w ∈ u_ws C T N, w ∈ Ts) (hown : s.vm.findClass own = some m.cls) (hK : va_K D cl tys s) (hM : sW sg tk D dA cl A H0 (kd, rf, it, lg) H locs) (ha : kd a = some (.inl ci)) (hc : cl[ci]? = some (C, T, N)) (k : Nat) (hk : k < N) (hg : (sg ci)[k]? = some false) (hlink : (Cond.fieldLink own index ref (T k).2.1 (T k).2.2.1).before args s = true) (hsame : ∀ x, s.fieldFound? (T k).1 (T k).2.1 (T k).2.2.1 = some x → s.fieldFound? ref (T k).2.1 (T k).2.2.1 = some x) (hdg : decode cc pc = .ok (.getfield index, 3))
    (kk : W p l e Rm s m args below meth c H locs cells slots Q (F0 m (pc + 3) ls (.int (it a k) :: rest))) : W p l e Rm s m args below meth c H locs cells slots Q (F0 m pc ls (.ref a :: rest)) := by
  obtain ⟨hAll, ws, hG, hP, hD, hS⟩ := hM
  obtain ⟨q0, hq⟩ := (hG a _).mp (sMk_obj ha)
  exact va_get hexec hb hts hin hown hK hP q0 hq hc k hk hlink hsame (v := .int (it a k)) (by rw [sFs_at _ _ _ (List.getElem?_eq_some_iff.mp hg).1]; simp [List.getD, hg]) hdg kk
theorem s_getr (hexec : p.tables.exec = Jvm.exec) (hb : c.code = cc) {own ref C : String} {T : u_T} {N ci index : Nat} {Ts : List Cond} (hts : ∀ w ∈ Ts, w.before args s = true) (hin : ∀ w ∈ u_ws C T N, w ∈ Ts) (hown : s.vm.findClass own = some m.cls) (hK : va_K D cl tys s) (hM : sW sg tk D dA cl A H0 (kd, rf, it, lg) H locs) (ha : kd a = some (.inl ci)) (hc : cl[ci]? = some (C, T, N)) (k : Nat) (hk : k < N) (hg : (sg ci)[k]? = some true) (hlink : (Cond.fieldLink own index ref (T k).2.1 (T k).2.2.1).before args s = true) (hsame : ∀ x, s.fieldFound? (T k).1 (T k).2.1 (T k).2.2.1 = some x → s.fieldFound? ref (T k).2.1 (T k).2.2.1 = some x) (hdg : decode cc pc = .ok (.getfield index, 3))
    (kk : W p l e Rm s m args below meth c H locs cells slots Q (F0 m (pc + 3) ls (va_rf (rf a k) :: rest))) : W p l e Rm s m args below meth c H locs cells slots Q (F0 m pc ls (.ref a :: rest)) := by
  obtain ⟨hAll, ws, hG, hP, hD, hS⟩ := hM
  obtain ⟨q0, hq⟩ := (hG a _).mp (sMk_obj ha)
  exact va_get hexec hb hts hin hown hK hP q0 hq hc k hk hlink hsame (v := va_rf (rf a k)) (by rw [sFs_at _ _ _ (List.getElem?_eq_some_iff.mp hg).1]; simp [List.getD, hg]) hdg kk
theorem s_puti (hexec : p.tables.exec = Jvm.exec) (hb : c.code = cc) {own ref C : String} {T : u_T} {N ci index : Nat} {Ts : List Cond} (hts : ∀ w ∈ Ts, w.before args s = true) (hin : ∀ w ∈ u_ws C T N, w ∈ Ts) (ty0 : Nat → FieldType) (hty : ∀ k, k < N → parseFieldDescriptor (T k).2.2.1 = some (ty0 k)) (hnm : ∀ a, a < N → ∀ b, b < N → a ≠ b → (T a).2.1 ≠ (T b).2.1) (hown : s.vm.findClass own = some m.cls) (hK : va_K D cl tys s) (hM : sW sg tk D dA cl A H0 (kd, rf, it, lg) H locs) (ha : kd a = some (.inl ci)) (hc : cl[ci]? = some (C, T, N)) (k : Nat) (hk : k < N) (hg : (sg ci)[k]? = some false) (hlink : (Cond.fieldLink own index ref (T k).2.1 (T k).2.2.1).before args s = true) (hsame : ∀ x, s.fieldFound? (T k).1 (T k).2.1 (T k).2.2.1 = some x → s.fieldFound? ref (T k).2.1 (T k).2.2.1 = some x) (hfin : (T k).2.2.2 = false) {x : Int32} (hn : narrow (ty0 k) (.int x) = .int x) (hfit : fits (ty0 k) (.int x) = true) (hdg : decode cc pc = .ok (.putfield index, 3))
    (kk : ∀ (H1 : Heap) (locs1 : List Loc), sW sg tk D dA cl A H0 (kd, rf, up2 it a k x, lg) H1 locs1 → W p l e Rm s m args below meth c H1 locs1 cells slots Q (F0 m (pc + 3) ls rest)) : W p l e Rm s m args below meth c H locs cells slots Q (F0 m pc ls (.int x :: .ref a :: rest)) := by
  obtain ⟨hAll, ws, hG, hP, hD, hS⟩ := hM
  obtain ⟨q0, hq⟩ := (hG a _).mp (sMk_obj ha)
  refine va_put hexec hb hts hin ty0 hty hnm hown hK hP hD hS q0 hq hc k hk hlink hsame hfin (ty := ty0 k) (v := .int x) (hty k hk) hn hfit (by rw [sFs_len]; exact (List.getElem?_eq_some_iff.mp hg).1) hdg fun H1 locs1 hP1 hD1 hS1 => ?_
  exact kk H1 locs1 ⟨hAll, _, by rw [sMk_seti x ha hg]; exact sG_set hG hD hq, hP1, hD1, hS1⟩
theorem s_putr (hexec : p.tables.exec = Jvm.exec) (hb : c.code = cc) {own ref C : String} {T : u_T} {N ci index : Nat} {Ts : List Cond} (hts : ∀ w ∈ Ts, w.before args s = true) (hin : ∀ w ∈ u_ws C T N, w ∈ Ts) (ty0 : Nat → FieldType) (hty : ∀ k, k < N → parseFieldDescriptor (T k).2.2.1 = some (ty0 k)) (hnm : ∀ a, a < N → ∀ b, b < N → a ≠ b → (T a).2.1 ≠ (T b).2.1) (hown : s.vm.findClass own = some m.cls) (hK : va_K D cl tys s) (hM : sW sg tk D dA cl A H0 (kd, rf, it, lg) H locs) (ha : kd a = some (.inl ci)) (hc : cl[ci]? = some (C, T, N)) (k : Nat) (hk : k < N) (hg : (sg ci)[k]? = some true) (hlink : (Cond.fieldLink own index ref (T k).2.1 (T k).2.2.1).before args s = true) (hsame : ∀ x, s.fieldFound? (T k).1 (T k).2.1 (T k).2.2.1 = some x → s.fieldFound? ref (T k).2.1 (T k).2.2.1 = some x) (hfin : (T k).2.2.2 = false) (x : Option Nat) (hn : narrow (ty0 k) (va_rf x) = va_rf x) (hfit : fits (ty0 k) (va_rf x) = true) (hdg : decode cc pc = .ok (.putfield index, 3))
    (kk : ∀ (H1 : Heap) (locs1 : List Loc), sW sg tk D dA cl A H0 (kd, up2 rf a k x, it, lg) H1 locs1 → W p l e Rm s m args below meth c H1 locs1 cells slots Q (F0 m (pc + 3) ls rest)) : W p l e Rm s m args below meth c H locs cells slots Q (F0 m pc ls (va_rf x :: .ref a :: rest)) := by
  obtain ⟨hAll, ws, hG, hP, hD, hS⟩ := hM
  obtain ⟨q0, hq⟩ := (hG a _).mp (sMk_obj ha)
  refine va_put hexec hb hts hin ty0 hty hnm hown hK hP hD hS q0 hq hc k hk hlink hsame hfin (ty := ty0 k) (v := va_rf x) (hty k hk) hn hfit (by rw [sFs_len]; exact (List.getElem?_eq_some_iff.mp hg).1) hdg fun H1 locs1 hP1 hD1 hS1 => ?_
  exact kk H1 locs1 ⟨hAll, _, by rw [sMk_setr x ha hg]; exact sG_set hG hD hq, hP1, hD1, hS1⟩
/-- final fields, in a constructor -/
theorem s_putFi (hexec : p.tables.exec = Jvm.exec) (hb : c.code = cc) {own ref C : String} {T : u_T} {N ci index : Nat} {Ts : List Cond} (hts : ∀ w ∈ Ts, w.before args s = true) (hin : ∀ w ∈ u_ws C T N, w ∈ Ts) (ty0 : Nat → FieldType) (hty : ∀ k, k < N → parseFieldDescriptor (T k).2.2.1 = some (ty0 k)) (hnm : ∀ a, a < N → ∀ b, b < N → a ≠ b → (T a).2.1 ≠ (T b).2.1) (hown : s.vm.findClass own = some m.cls) (hK : va_K D cl tys s) (hM : sW sg tk D dA cl A H0 (kd, rf, it, lg) H locs) (ha : kd a = some (.inl ci)) (hc : cl[ci]? = some (C, T, N)) (k : Nat) (hk : k < N) (hg : (sg ci)[k]? = some false) (hlink : (Cond.fieldLink own index ref (T k).2.1 (T k).2.2.1).before args s = true) (hsame : ∀ x, s.fieldFound? (T k).1 (T k).2.1 (T k).2.2.1 = some x → s.fieldFound? ref (T k).2.1 (T k).2.2.1 = some x) (hfin : (T k).2.2.2 = true) (hin2 : meth.name = "<init>") (hdecl : (T k).1 = own) {x : Int32} (hn : narrow (ty0 k) (.int x) = .int x) (hfit : fits (ty0 k) (.int x) = true) (hdg : decode cc pc = .ok (.putfield index, 3))
    (kk : ∀ (H1 : Heap) (locs1 : List Loc), sW sg tk D dA cl A H0 (kd, rf, up2 it a k x, lg) H1 locs1 → W p l e Rm s m args below meth c H1 locs1 cells slots Q (F0 m (pc + 3) ls rest)) : W p l e Rm s m args below meth c H locs cells slots Q (F0 m pc ls (.int x :: .ref a :: rest)) := by
  obtain ⟨hAll, ws, hG, hP, hD, hS⟩ := hM
  obtain ⟨q0, hq⟩ := (hG a _).mp (sMk_obj ha)
  refine va_putF hexec hb hts hin ty0 hty hnm hown hK hP hD hS q0 hq hc k hk hlink hsame hfin hin2 hdecl (ty := ty0 k) (v := .int x) (hty k hk) hn hfit (by rw [sFs_len]; exact (List.getElem?_eq_some_iff.mp hg).1) hdg fun H1 locs1 hP1 hD1 hS1 => ?_
  exact kk H1 locs1 ⟨hAll, _, by rw [sMk_seti x ha hg]; exact sG_set hG hD hq, hP1, hD1, hS1⟩
theorem s_putFr (hexec : p.tables.exec = Jvm.exec) (hb : c.code = cc) {own ref C : String} {T : u_T} {N ci index : Nat} {Ts : List Cond} (hts : ∀ w ∈ Ts, w.before args s = true) (hin : ∀ w ∈ u_ws C T N, w ∈ Ts) (ty0 : Nat → FieldType) (hty : ∀ k, k < N → parseFieldDescriptor (T k).2.2.1 = some (ty0 k)) (hnm : ∀ a, a < N → ∀ b, b < N → a ≠ b → (T a).2.1 ≠ (T b).2.1) (hown : s.vm.findClass own = some m.cls) (hK : va_K D cl tys s) (hM : sW sg tk D dA cl A H0 (kd, rf, it, lg) H locs) (ha : kd a = some (.inl ci)) (hc : cl[ci]? = some (C, T, N)) (k : Nat) (hk : k < N) (hg : (sg ci)[k]? = some true) (hlink : (Cond.fieldLink own index ref (T k).2.1 (T k).2.2.1).before args s = true) (hsame : ∀ x, s.fieldFound? (T k).1 (T k).2.1 (T k).2.2.1 = some x → s.fieldFound? ref (T k).2.1 (T k).2.2.1 = some x) (hfin : (T k).2.2.2 = true) (hin2 : meth.name = "<init>") (hdecl : (T k).1 = own) (x : Option Nat) (hn : narrow (ty0 k) (va_rf x) = va_rf x) (hfit : fits (ty0 k) (va_rf x) = true) (hdg : decode cc pc = .ok (.putfield index, 3))
    (kk : ∀ (H1 : Heap) (locs1 : List Loc), sW sg tk D dA cl A H0 (kd, up2 rf a k x, it, lg) H1 locs1 → W p l e Rm s m args below meth c H1 locs1 cells slots Q (F0 m (pc + 3) ls rest)) : W p l e Rm s m args below meth c H locs cells slots Q (F0 m pc ls (va_rf x :: .ref a :: rest)) := by
  obtain ⟨hAll, ws, hG, hP, hD, hS⟩ := hM
  obtain ⟨q0, hq⟩ := (hG a _).mp (sMk_obj ha)
  refine va_putF hexec hb hts hin ty0 hty hnm hown hK hP hD hS q0 hq hc k hk hlink hsame hfin hin2 hdecl (ty := ty0 k) (v := va_rf x) (hty k hk) hn hfit (by rw [sFs_len]; exact (List.getElem?_eq_some_iff.mp hg).1) hdg fun H1 locs1 hP1 hD1 hS1 => ?_
  exact kk H1 locs1 ⟨hAll, _, by rw [sMk_setr x ha hg]; exact sG_set hG hD hq, hP1, hD1, hS1⟩
/-- a new object -/
theorem s_new {S : sS} (hexec : p.tables.exec = Jvm.exec) (hb : c.code = cc) {own C : String} {T : u_T} {N ci index : Nat} {Ts : List Cond} (hts : ∀ w ∈ Ts, w.before args s = true) (hin : ∀ w ∈ u_ws C T N, w ∈ Ts) (ty : Nat → FieldType) (hty : ∀ k, k < N → parseFieldDescriptor (T k).2.2.1 = some (ty k)) (hown : s.vm.findClass own = some m.cls) (hcl : (Cond.classLink own index C).before args s = true) (hinst : (Cond.instantiable C N).before args s = true) (hini : (Cond.initialized C).before args s = true)
    (hK : va_K D cl tys s) (hM : sW sg tk D dA cl A H0 S H locs) (hc : cl[ci]? = some (C, T, N)) (hfs : ∀ j, j < N → defaultValue (ty j) = vp_V (sFs (sg ci) (fun _ => none) (fun _ => 0)) j) (hcells : cells + 1 ≤ Rm.cells) (hslots : slots + N ≤ Rm.slots) (hdg : decode cc pc = .ok (.new index, 3))
    (kk : ∀ (q : Nat) (H1 : Heap), S.1 q = none → sW sg tk D dA cl A H0 (sNew S q (.inl ci)) H1 locs → W p l e Rm s m args below meth c H1 locs (cells + 1) (slots + N) Q (F0 m (pc + 3) ls (.ref q :: rest))) : W p l e Rm s m args below meth c H locs cells slots Q (F0 m pc ls rest) := by
  obtain ⟨hAll, ws, hG, hP, hD, hS⟩ := hM
  refine va_new hexec hb hts hin ty hty hown hcl hinst hini hK hP hD hS hAll hc hfs hcells hslots hdg fun q H1 hP1 hD1 hS1 => ?_
  have hq := sG_fresh hG hD1
  refine kk q H1 ?_ ⟨hAll, _, by rw [sMk_newo]; exact sG_push hG hD1, hP1, hD1, hS1⟩
  cases hz : S.1 q with
  | none => rfl
  | some y =>
    obtain ⟨x, hx⟩ := sMk_ex (sg := sg) (tk := tk) (dA := dA) (S := S) (a := q) (by rw [hz]; exact fun h => by cases h)
    rw [hx] at hq
    cases hq
/-- a new array of ints or their like (kind 0) -/
theorem s_newi {S : sS} {t : Nat} (hexec : p.tables.exec = Jvm.exec) (hb : c.code = cc) {atype : ArrayType} (harr : (Cond.arrayClass (newarray.typeOf atype)).before args s = true) {ty : FieldType} (hty : newarray.typeOf atype = ty) (hd0 : defaultValue ty = .int 0) (hRA : ∀ cA, va_RA s cA ty → s.vm.findClass ("[" ++ ty.toString) = some cA) (hK : va_K D cl tys s) (ht : tys[t]? = some (dA t, ty)) (htk : tk t = 0) (hM : sW sg tk D dA cl A H0 S H locs)
    {n : Int32} {N' : Nat} (hn : ¬ n < 0) (hN : n.toNatClampNeg = N') (hbytes : N' * componentBytes ty ≤ 536870912) (hcells : cells + 1 ≤ Rm.cells) (hslots : slots + N' ≤ Rm.slots) (hdg : decode cc pc = .ok (.newarray atype, 2))
    (kk : ∀ (q : Nat) (H1 : Heap), S.1 q = none → sW sg tk D dA cl A H0 (sNew S q (.inr (t, N'))) H1 locs → W p l e Rm s m args below meth c H1 locs (cells + 1) (slots + N') Q (F0 m (pc + 2) ls (.ref q :: rest))) : W p l e Rm s m args below meth c H locs cells slots Q (F0 m pc ls (.int n :: rest)) := by
  obtain ⟨hAll, ws, hG, hP, hD, hS⟩ := hM
  refine va_newa hexec hb harr hty hK hP hD hS hAll (a0 := (N', .inl (fun _ => 0))) (fun cA => by rw [vp_cell_i, hd0]) hn hN hbytes hcells hslots hdg fun q cA H1 hK1 hP1 hD1 hS1 => ?_
  have h1 := hRA _ (hK1.2 tys.length (cA, ty) (by rw [List.getElem?_append_right (Nat.le_refl _), Nat.sub_self]; rfl)).2
  have h2 := hRA _ (hK.2 t _ ht).2
  have hcA : cA = dA t := Option.some.inj (h1.symm.trans h2)
  subst hcA
  have hq := sG_fresh hG hD1
  refine kk q H1 ?_ ⟨hAll, _, by rw [sMk_newa, htk]; exact sG_push hG hD1, hP1, hD1, hS1⟩
  cases hz : S.1 q with
  | none => rfl
  | some y =>
    obtain ⟨x, hx⟩ := sMk_ex (sg := sg) (tk := tk) (dA := dA) (S := S) (a := q) (by rw [hz]; exact fun h => by cases h)
    rw [hx] at hq
    cases hq
/-- a new array of longs (kind 1) -/
theorem s_newl {S : sS} {t : Nat} (hexec : p.tables.exec = Jvm.exec) (hb : c.code = cc) {atype : ArrayType} (harr : (Cond.arrayClass (newarray.typeOf atype)).before args s = true) (hty : newarray.typeOf atype = .long) (hK : va_K D cl tys s) (ht : tys[t]? = some (dA t, .long)) (htk : tk t = 1) (hM : sW sg tk D dA cl A H0 S H locs)
    {n : Int32} {N' : Nat} (hn : ¬ n < 0) (hN : n.toNatClampNeg = N') (hbytes : N' * componentBytes .long ≤ 536870912) (hcells : cells + 1 ≤ Rm.cells) (hslots : slots + N' ≤ Rm.slots) (hdg : decode cc pc = .ok (.newarray atype, 2))
    (kk : ∀ (q : Nat) (H1 : Heap), S.1 q = none → sW sg tk D dA cl A H0 (sNew S q (.inr (t, N'))) H1 locs → W p l e Rm s m args below meth c H1 locs (cells + 1) (slots + N') Q (F0 m (pc + 2) ls (.ref q :: rest))) : W p l e Rm s m args below meth c H locs cells slots Q (F0 m pc ls (.int n :: rest)) := by
  obtain ⟨hAll, ws, hG, hP, hD, hS⟩ := hM
  refine va_newa hexec hb harr hty hK hP hD hS hAll (a0 := (N', .inr (.inl (fun _ => 0)))) (fun cA => by rw [vp_cell_l]; rfl) hn hN hbytes hcells hslots hdg fun q cA H1 hK1 hP1 hD1 hS1 => ?_
  have h1 : s.vm.findClass ("[" ++ FieldType.long.toString) = some cA := (hK1.2 tys.length (cA, .long) (by rw [List.getElem?_append_right (Nat.le_refl _), Nat.sub_self]; rfl)).2
  have h2 : s.vm.findClass ("[" ++ FieldType.long.toString) = some (dA t) := (hK.2 t _ ht).2
  have hcA : cA = dA t := Option.some.inj (h1.symm.trans h2)
  subst hcA
  have hq := sG_fresh hG hD1
  refine kk q H1 ?_ ⟨hAll, _, by rw [sMk_newa, htk]; exact sG_push hG hD1, hP1, hD1, hS1⟩
  cases hz : S.1 q with
  | none => rfl
  | some y =>
    obtain ⟨x, hx⟩ := sMk_ex (sg := sg) (tk := tk) (dA := dA) (S := S) (a := q) (by rw [hz]; exact fun h => by cases h)
    rw [hx] at hq
    cases hq
/-- a new array of references (kind 2) -/
theorem s_newq {S : sS} {t : Nat} (hexec : p.tables.exec = Jvm.exec) (hb : c.code = cc) {own C : String} {index : Nat} (hown : s.vm.findClass own = some m.cls) (hclink : (Cond.classLink own index C).before args s = true) (hover : (Cond.arrayOver (.object C)).before args s = true) (hK : va_K D cl tys s) (ht : tys[t]? = some (dA t, .object C)) (htk : tk t = 2) (hM : sW sg tk D dA cl A H0 S H locs)
    {n : Int32} {N' : Nat} (hn : ¬ n < 0) (hN : n.toNatClampNeg = N') (hbytes : N' * 4 ≤ 536870912) (hcells : cells + 1 ≤ Rm.cells) (hslots : slots + N' ≤ Rm.slots) (hdg : decode cc pc = .ok (.anewarray index, 3))
    (kk : ∀ (q : Nat) (H1 : Heap), S.1 q = none → sW sg tk D dA cl A H0 (sNew S q (.inr (t, N'))) H1 locs → W p l e Rm s m args below meth c H1 locs (cells + 1) (slots + N') Q (F0 m (pc + 3) ls (.ref q :: rest))) : W p l e Rm s m args below meth c H locs cells slots Q (F0 m pc ls (.int n :: rest)) := by
  obtain ⟨hAll, ws, hG, hP, hD, hS⟩ := hM
  refine va_newq hexec hb hown hclink (va_AO.of hover) hK hP hD hS hAll hn hN hbytes hcells hslots hdg fun q cA H1 hK1 hP1 hD1 hS1 => ?_
  obtain ⟨_, _, -, -, -, h1⟩ := (hK1.2 tys.length (cA, .object C) (by rw [List.getElem?_append_right (Nat.le_refl _), Nat.sub_self]; rfl)).2
  obtain ⟨_, _, -, -, -, h2⟩ := (hK.2 t _ ht).2
  have hcA : cA = dA t := Option.some.inj (h1.symm.trans h2)
  subst hcA
  have hq := sG_fresh hG hD1
  refine kk q H1 ?_ ⟨hAll, _, by rw [sMk_newa, htk]; exact sG_push hG hD1, hP1, hD1, hS1⟩
  cases hz : S.1 q with
  | none => rfl
  | some y =>
    obtain ⟨x, hx⟩ := sMk_ex (sg := sg) (tk := tk) (dA := dA) (S := S) (a := q) (by rw [hz]; exact fun h => by cases h)
    rw [hx] at hq
    cases hq
theorem sMk_ki {S : sS} {t n : Nat} (h : S.1 a = some (.inr (t, n))) (ht : tk t = 0) : sMk sg tk dA S a = some (.inl (dA t, n, .inl (S.2.2.1 a))) := by rw [sMk_arr h, ht]; rfl
theorem sMk_kl {S : sS} {t n : Nat} (h : S.1 a = some (.inr (t, n))) (ht : tk t = 1) : sMk sg tk dA S a = some (.inl (dA t, n, .inr (.inl (S.2.2.2 a)))) := by rw [sMk_arr h, ht]; rfl
theorem sMk_kq {S : sS} {t n : Nat} (h : S.1 a = some (.inr (t, n))) (ht : tk t = 2) : sMk sg tk dA S a = some (.inl (dA t, n, .inr (.inr (.inr (.inr (S.2.1 a)))))) := by rw [sMk_arr h, ht]; rfl
theorem s_ild (hexec : p.tables.exec = Jvm.exec) (hb : c.code = cc) (hK : va_K D cl tys s) (hM : sW sg tk D dA cl A H0 (kd, rf, it, lg) H locs) {t n : Nat} (ha : kd a = some (.inr (t, n))) (htk : tk t = 0) (ht : tys[t]? = some (dA t, .int)) {i : Int32} (hin : vp_in i n) (hdg : decode cc pc = .ok (.iaload, 1))
    (kk : W p l e Rm s m args below meth c H locs cells slots Q (F0 m (pc + 1) ls (.int (it a i.toNatClampNeg) :: rest))) : W p l e Rm s m args below meth c H locs cells slots Q (F0 m pc ls (.int i :: .ref a :: rest)) := by
  obtain ⟨hAll, ws, hG, hP, hD, hS⟩ := hM
  obtain ⟨q0, hq⟩ := (hG a _).mp (sMk_ki ha htk)
  exact va_iald hexec hb hK hP q0 t hq ht hin hdg kk
theorem s_zld (hexec : p.tables.exec = Jvm.exec) (hb : c.code = cc) (hK : va_K D cl tys s) (hM : sW sg tk D dA cl A H0 (kd, rf, it, lg) H locs) {t n : Nat} (ha : kd a = some (.inr (t, n))) (htk : tk t = 0) (ht : tys[t]? = some (dA t, .boolean)) {i : Int32} (hin : vp_in i n) (hdg : decode cc pc = .ok (.baload, 1))
    (kk : W p l e Rm s m args below meth c H locs cells slots Q (F0 m (pc + 1) ls (.int (it a i.toNatClampNeg) :: rest))) : W p l e Rm s m args below meth c H locs cells slots Q (F0 m pc ls (.int i :: .ref a :: rest)) := by
  obtain ⟨hAll, ws, hG, hP, hD, hS⟩ := hM
  obtain ⟨q0, hq⟩ := (hG a _).mp (sMk_ki ha htk)
  exact va_zald hexec hb hK hP q0 t hq ht hin hdg kk
theorem s_lld (hexec : p.tables.exec = Jvm.exec) (hb : c.code = cc) (hK : va_K D cl tys s) (hM : sW sg tk D dA cl A H0 (kd, rf, it, lg) H locs) {t n : Nat} (ha : kd a = some (.inr (t, n))) (htk : tk t = 1) (ht : tys[t]? = some (dA t, .long)) {i : Int32} (hin : vp_in i n) (hdg : decode cc pc = .ok (.laload, 1))
    (kk : W p l e Rm s m args below meth c H locs cells slots Q (F0 m (pc + 1) ls (.long (lg a i.toNatClampNeg) :: rest))) : W p l e Rm s m args below meth c H locs cells slots Q (F0 m pc ls (.int i :: .ref a :: rest)) := by
  obtain ⟨hAll, ws, hG, hP, hD, hS⟩ := hM
  obtain ⟨q0, hq⟩ := (hG a _).mp (sMk_kl ha htk)
  exact va_lald hexec hb hK hP q0 t hq ht hin hdg kk
theorem s_ald (hexec : p.tables.exec = Jvm.exec) (hb : c.code = cc) (hK : va_K D cl tys s) (hM : sW sg tk D dA cl A H0 (kd, rf, it, lg) H locs) {C : String} {t n : Nat} (ha : kd a = some (.inr (t, n))) (htk : tk t = 2) (ht : tys[t]? = some (dA t, .object C)) {i : Int32} (hin : vp_in i n) (hdg : decode cc pc = .ok (.aaload, 1))
    (kk : W p l e Rm s m args below meth c H locs cells slots Q (F0 m (pc + 1) ls (va_rf (rf a i.toNatClampNeg) :: rest))) : W p l e Rm s m args below meth c H locs cells slots Q (F0 m pc ls (.int i :: .ref a :: rest)) := by
  obtain ⟨hAll, ws, hG, hP, hD, hS⟩ := hM
  obtain ⟨q0, hq⟩ := (hG a _).mp (sMk_kq ha htk)
  exact va_aldq hexec hb hK hP q0 t hq ht hin hdg kk
theorem s_len (hexec : p.tables.exec = Jvm.exec) (hb : c.code = cc) (hK : va_K D cl tys s) (hM : sW sg tk D dA cl A H0 (kd, rf, it, lg) H locs) {ty : FieldType} {t n : Nat} (ha : kd a = some (.inr (t, n))) (ht : tys[t]? = some (dA t, ty)) (hdg : decode cc pc = .ok (.arraylength, 1))
    (kk : W p l e Rm s m args below meth c H locs cells slots Q (F0 m (pc + 1) ls (.int (nI n) :: rest))) : W p l e Rm s m args below meth c H locs cells slots Q (F0 m pc ls (.ref a :: rest)) := by
  obtain ⟨hAll, ws, hG, hP, hD, hS⟩ := hM
  obtain ⟨q0, hq⟩ := (hG a _).mp (sMk_arr ha)
  exact va_alen hexec hb hK hP q0 t hq ht (v := nI n) rfl hdg kk
theorem s_ist (hexec : p.tables.exec = Jvm.exec) (hb : c.code = cc) (hK : va_K D cl tys s) (hM : sW sg tk D dA cl A H0 (kd, rf, it, lg) H locs) {t n : Nat} (ha : kd a = some (.inr (t, n))) (htk : tk t = 0) (ht : tys[t]? = some (dA t, .int)) {i x : Int32} (hin : vp_in i n) (hdg : decode cc pc = .ok (.iastore, 1))
    (kk : ∀ (H1 : Heap) (locs1 : List Loc), sW sg tk D dA cl A H0 (kd, rf, up2 it a i.toNatClampNeg x, lg) H1 locs1 → W p l e Rm s m args below meth c H1 locs1 cells slots Q (F0 m (pc + 1) ls rest)) : W p l e Rm s m args below meth c H locs cells slots Q (F0 m pc ls (.int x :: .int i :: .ref a :: rest)) := by
  obtain ⟨hAll, ws, hG, hP, hD, hS⟩ := hM
  obtain ⟨q0, hq⟩ := (hG a _).mp (sMk_ki ha htk)
  refine va_iast hexec hb hK hP hD hS q0 t hq ht hin hdg fun H1 locs1 hP1 hD1 hS1 => ?_
  exact kk H1 locs1 ⟨hAll, _, by rw [sMk_ari x ha htk]; exact sG_set hG hD hq, hP1, hD1, hS1⟩
theorem s_lst (hexec : p.tables.exec = Jvm.exec) (hb : c.code = cc) (hK : va_K D cl tys s) (hM : sW sg tk D dA cl A H0 (kd, rf, it, lg) H locs) {t n : Nat} (ha : kd a = some (.inr (t, n))) (htk : tk t = 1) (ht : tys[t]? = some (dA t, .long)) {i : Int32} {x : Int64} (hin : vp_in i n) (hdg : decode cc pc = .ok (.lastore, 1))
    (kk : ∀ (H1 : Heap) (locs1 : List Loc), sW sg tk D dA cl A H0 (kd, rf, it, up2 lg a i.toNatClampNeg x) H1 locs1 → W p l e Rm s m args below meth c H1 locs1 cells slots Q (F0 m (pc + 1) ls rest)) : W p l e Rm s m args below meth c H locs cells slots Q (F0 m pc ls (.long x :: .int i :: .ref a :: rest)) := by
  obtain ⟨hAll, ws, hG, hP, hD, hS⟩ := hM
  obtain ⟨q0, hq⟩ := (hG a _).mp (sMk_kl ha htk)
  refine va_last hexec hb hK hP hD hS q0 t hq ht hin hdg fun H1 locs1 hP1 hD1 hS1 => ?_
  exact kk H1 locs1 ⟨hAll, _, by rw [sMk_arl x ha htk]; exact sG_set hG hD hq, hP1, hD1, hS1⟩
theorem s_ast (hexec : p.tables.exec = Jvm.exec) (hb : c.code = cc) (hK : va_K D cl tys s) (hM : sW sg tk D dA cl A H0 (kd, rf, it, lg) H locs) {r : vw_C} {t n v ci : Nat} (ha : kd a = some (.inr (t, n))) (htk : tk t = 2) (ht : tys[t]? = some (dA t, .object r.1)) (hv : kd v = some (.inl ci)) (hc : cl[ci]? = some r) {i : Int32} (hin : vp_in i n) (hdg : decode cc pc = .ok (.aastore, 1))
    (kk : ∀ (H1 : Heap) (locs1 : List Loc), sW sg tk D dA cl A H0 (kd, up2 rf a i.toNatClampNeg (some v), it, lg) H1 locs1 → W p l e Rm s m args below meth c H1 locs1 cells slots Q (F0 m (pc + 1) ls rest)) : W p l e Rm s m args below meth c H locs cells slots Q (F0 m pc ls (.ref v :: .int i :: .ref a :: rest)) := by
  obtain ⟨hAll, ws, hG, hP, hD, hS⟩ := hM
  obtain ⟨q0, hq⟩ := (hG a _).mp (sMk_kq ha htk)
  obtain ⟨q1, hq1⟩ := (hG v _).mp (sMk_obj hv)
  refine va_astq hexec hb hK hP hD hS q0 t q1 ci hq ht hq1 hc hin hdg fun H1 locs1 hP1 hD1 hS1 => ?_
  exact kk H1 locs1 ⟨hAll, _, by rw [sMk_arq (some v) ha htk]; exact sG_set hG hD hq, hP1, hD1, hS1⟩
/-- a call with the whole store, behind which the store is u -/
theorem s_calli {S : sS} {mc ms : Nat} {a : Array Value} {post : Int32 → sS → Prop} (hr : va_Run p l e Rm s m args below meth c H locs cells slots mc ms (F0 m pc ls st0) rest (va_Qi post (sB sg tk D dA cl S H.size) (sA S H.size) a) (sA S H.size)) (hM : sW sg tk D dA cl A H0 S H locs)
    (kk : ∀ (r : Int32) (u : sS) (H1 : Heap) (locs1 : List Loc), post r u → sW sg tk D dA cl A H0 u H1 locs1 → W p l e Rm s m args below meth c H1 locs1 (cells + mc) (slots + ms) Q (F0 m (pc + 3) ls (.int r :: rest))) : W p l e Rm s m args below meth c H locs cells slots Q (F0 m pc ls st0) := by
  have hf := hM.free
  obtain ⟨hAll, ws, hG, hP, hD, hS⟩ := hM
  refine va_calli hr hS (fun q _ h => hf q h) hf fun r u t H1 locs1 ht hvm hp hB hz hk hS1 => ?_
  obtain ⟨ws1, hG1, hP1, hD1⟩ := hB
  exact kk r u H1 locs1 hp ⟨hAll, ws1, hG1, by rw [← ht]; exact hP1, hD1.weaken (fun _ _ _ h => hf _ h), hS1⟩
theorem s_callv {S : sS} {mc ms : Nat} {a : Array Value} {post : sS → Prop} (hr : va_Run p l e Rm s m args below meth c H locs cells slots mc ms (F0 m pc ls st0) rest (va_Qv post (sB sg tk D dA cl S H.size) (sA S H.size) a) (sA S H.size)) (hM : sW sg tk D dA cl A H0 S H locs)
    (kk : ∀ (u : sS) (H1 : Heap) (locs1 : List Loc), post u → sW sg tk D dA cl A H0 u H1 locs1 → W p l e Rm s m args below meth c H1 locs1 (cells + mc) (slots + ms) Q (F0 m (pc + 3) ls rest)) : W p l e Rm s m args below meth c H locs cells slots Q (F0 m pc ls st0) := by
  have hf := hM.free
  obtain ⟨hAll, ws, hG, hP, hD, hS⟩ := hM
  refine va_callv hr hS (fun q _ h => hf q h) hf fun u t H1 locs1 ht hvm hp hB hz hk hS1 => ?_
  obtain ⟨ws1, hG1, hP1, hD1⟩ := hB
  exact kk u H1 locs1 hp ⟨hAll, ws1, hG1, by rw [← ht]; exact hP1, hD1.weaken (fun _ _ _ h => hf _ h), hS1⟩
theorem s_callq {S : sS} {mc ms : Nat} {a : Array Value} {post : Option Nat → sS → Prop} (hr : va_Run p l e Rm s m args below meth c H locs cells slots mc ms (F0 m pc ls st0) rest (va_Qq post (sB sg tk D dA cl S H.size) (sA S H.size) a) (sA S H.size)) (hM : sW sg tk D dA cl A H0 S H locs)
    (kk : ∀ (r : Option Nat) (u : sS) (H1 : Heap) (locs1 : List Loc), post r u → sW sg tk D dA cl A H0 u H1 locs1 → W p l e Rm s m args below meth c H1 locs1 (cells + mc) (slots + ms) Q (F0 m (pc + 3) ls (va_rf r :: rest))) : W p l e Rm s m args below meth c H locs cells slots Q (F0 m pc ls st0) := by
  have hf := hM.free
  obtain ⟨hAll, ws, hG, hP, hD, hS⟩ := hM
  refine va_callq hr hS (fun q _ h => hf q h) hf fun r u t H1 locs1 ht hvm hp hB hz hk hS1 => ?_
  obtain ⟨ws1, hG1, hP1, hD1⟩ := hB
  exact kk r u H1 locs1 hp ⟨hAll, ws1, hG1, by rw [← ht]; exact hP1, hD1.weaken (fun _ _ _ h => hf _ h), hS1⟩
/-- ends -/
theorem s_iret {S0 S : sS} {sz : Nat} {post : Int32 → sS → Prop} {v : Int32} (hexec : p.tables.exec = Jvm.exec) (hb : c.code = cc) (hr : meth.sig.returnType = some .int) (hM : sW sg tk D dA cl (sA S0 sz) s.heap S H locs) (hp : post v S) (hdg : decode cc pc = .ok (.ireturn, 1)) (hlocks : meth.locks = false) :
    W p l e Rm s m args below meth c H locs cells slots (MQ below (va_Qi post (sB sg tk D dA cl S0 sz) (sA S0 sz)) args s cells slots (sA S0 sz)) (F0 m pc ls [.int v]) :=
  W.iret (v := v) hexec hb hr (fun t ht hW => ⟨⟨v, S, rfl, hp, hM.B ht⟩, hM.F ht⟩) hM.locs hdg hlocks
theorem s_zret {S0 S : sS} {sz : Nat} {post : Int32 → sS → Prop} {v : Int32} {ty : FieldType} (hexec : p.tables.exec = Jvm.exec) (hb : c.code = cc) (hr : meth.sig.returnType = some ty) (hn : narrow ty (.int v) = .int v) (hM : sW sg tk D dA cl (sA S0 sz) s.heap S H locs) (hp : post v S) (hdg : decode cc pc = .ok (.ireturn, 1)) (hlocks : meth.locks = false) :
    W p l e Rm s m args below meth c H locs cells slots (MQ below (va_Qi post (sB sg tk D dA cl S0 sz) (sA S0 sz)) args s cells slots (sA S0 sz)) (F0 m pc ls [.int v]) :=
  W.zret (v := v) hexec hb hr hn (fun t ht hW => ⟨⟨v, S, rfl, hp, hM.B ht⟩, hM.F ht⟩) hM.locs hdg hlocks
theorem s_vret {S0 S : sS} {sz : Nat} {post : sS → Prop} (hexec : p.tables.exec = Jvm.exec) (hb : c.code = cc) (hr : meth.sig.returnType = none) (hM : sW sg tk D dA cl (sA S0 sz) s.heap S H locs) (hp : post S) (hdg : decode cc pc = .ok (.return_, 1)) (hlocks : meth.locks = false) :
    W p l e Rm s m args below meth c H locs cells slots (MQ below (va_Qv post (sB sg tk D dA cl S0 sz) (sA S0 sz)) args s cells slots (sA S0 sz)) (F0 m pc ls []) :=
  W.vret hexec hb hr (fun t ht hW => ⟨⟨S, rfl, hp, hM.B ht⟩, hM.F ht⟩) hM.locs hdg hlocks
theorem s_qret {S0 S : sS} {sz : Nat} {post : Option Nat → sS → Prop} (v : Option Nat) {rt : FieldType} (hexec : p.tables.exec = Jvm.exec) (hb : c.code = cc) (hr : meth.sig.returnType = some rt) (hrt : (∃ n, rt = .object n) ∨ ∃ t, rt = .array t) (hM : sW sg tk D dA cl (sA S0 sz) s.heap S H locs) (hp : post v S) (hdg : decode cc pc = .ok (.areturn, 1)) (hlocks : meth.locks = false) :
    W p l e Rm s m args below meth c H locs cells slots (MQ below (va_Qq post (sB sg tk D dA cl S0 sz) (sA S0 sz)) args s cells slots (sA S0 sz)) (F0 m pc ls [va_rf v]) :=
  W.aret (v := va_rf v) hexec hb hr hrt (va_rf_or v) (fun t ht hW => ⟨⟨v, S, rfl, hp, hM.B ht⟩, hM.F ht⟩) hM.locs hdg hlocks
/-- locals and branches over references that may be null -/
theorem q_aload_n (hexec : p.tables.exec = Jvm.exec) (hb : c.code = cc) {k : Fin 4} {i : Nat} {x : Option Nat} (hdg : decode cc pc = .ok (.aload_n k, 1)) (hi : (k : Nat) = i) (hl : ls[i]? = some (.val (va_rf x)))
    (kk : W p l e Rm s m args below meth c H locs cells slots Q (F0 m (pc + 1) ls (va_rf x :: rest))) : W p l e Rm s m args below meth c H locs cells slots Q (F0 m pc ls rest) := by
  cases x with
  | none => exact lv_aload_nN hexec hb hdg hi hl kk
  | some y => exact lv_aload_n hexec hb hdg hi hl kk
theorem q_aload (hexec : p.tables.exec = Jvm.exec) (hb : c.code = cc) {i : Nat} {x : Option Nat} (hdg : decode cc pc = .ok (.aload i, 2)) (hl : ls[i]? = some (.val (va_rf x)))
    (kk : W p l e Rm s m args below meth c H locs cells slots Q (F0 m (pc + 2) ls (va_rf x :: rest))) : W p l e Rm s m args below meth c H locs cells slots Q (F0 m pc ls rest) := by
  cases x with
  | none => exact lv_aloadN hexec hb hdg hl kk
  | some y => exact lv_aload hexec hb hdg hl kk
theorem q_ifnull (hexec : p.tables.exec = Jvm.exec) (hb : c.code = cc) {x : Option Nat} {off : Int} {tgt : Nat} (hdg : decode cc pc = .ok (.ifnull off, 3)) (ht : (pc : Int) + off = (tgt : Int))
    (kn : x = none → W p l e Rm s m args below meth c H locs cells slots Q (F0 m tgt ls rest)) (ks : ∀ y, x = some y → W p l e Rm s m args below meth c H locs cells slots Q (F0 m (pc + 3) ls rest)) : W p l e Rm s m args below meth c H locs cells slots Q (F0 m pc ls (va_rf x :: rest)) := by
  cases x with
  | none => exact lv_ifnullN hexec hb hdg ht (kn rfl)
  | some y => exact lv_ifnull hexec hb hdg (ks y rfl)
theorem q_ifnonnull (hexec : p.tables.exec = Jvm.exec) (hb : c.code = cc) {x : Option Nat} {off : Int} {tgt : Nat} (hdg : decode cc pc = .ok (.ifnonnull off, 3)) (ht : (pc : Int) + off = (tgt : Int))
    (ks : ∀ y, x = some y → W p l e Rm s m args below meth c H locs cells slots Q (F0 m tgt ls rest)) (kn : x = none → W p l e Rm s m args below meth c H locs cells slots Q (F0 m (pc + 3) ls rest)) : W p l e Rm s m args below meth c H locs cells slots Q (F0 m pc ls (va_rf x :: rest)) := by
  cases x with
  | none => exact lv_ifnonnullN hexec hb hdg (kn rfl)
  | some y => exact lv_ifnonnull hexec hb hdg ht (ks y rfl)
end SROWS
end
section
/-! the locals as a row of values by their places; all of one slot -/
def lc (ls : Array Slot) (n : Nat) (vs : List (Option Value)) : Prop := lv_has ls n [] ∧ ∀ (i : Nat) (v : Value), vs[i]? = some (some v) → v.category = 1 ∧ ls[i]? = some (.val v)
def lvOf (vs : List (Option Value)) : List (Nat × Value) := (List.range vs.length).filterMap (fun i => (vs[i]?).join.map (fun v => (i, v)))
theorem lvOf_mem {vs : List (Option Value)} {q : Nat × Value} : q ∈ lvOf vs ↔ vs[q.1]? = some (some q.2) := by
  obtain ⟨i, v⟩ := q
  simp only [lvOf, List.mem_filterMap, List.mem_range]
  constructor
  · rintro ⟨j, hj, h⟩
    cases hv : vs[j]? with
    | none => rw [hv] at h; simp at h
    | some o => cases o with
      | none => rw [hv] at h; simp at h
      | some w =>
        rw [hv] at h
        have h2 : (j, w) = (i, v) := by simpa using h
        have e1 : j = i := congrArg Prod.fst h2
        have e2 : w = v := congrArg Prod.snd h2
        subst e1; subst e2
        exact hv
  · intro h
    exact ⟨i, (List.getElem?_eq_some_iff.mp h).1, by rw [h]; rfl⟩
theorem lc.has {ls : Array Slot} {n : Nat} {vs : List (Option Value)} (h : lc ls n vs) : lv_has ls n (lvOf vs) := ⟨h.1.1, h.1.2.1, fun q hq => (h.2 q.1 q.2 (lvOf_mem.mp hq)).2⟩
theorem lc.sz {ls : Array Slot} {n : Nat} {vs : List (Option Value)} (h : lc ls n vs) : ls.size = n := h.1.1
theorem lc.at {ls : Array Slot} {n : Nat} {vs : List (Option Value)} (h : lc ls n vs) {i : Nat} {v : Value} (hv : vs[i]? = some (some v)) : ls[i]? = some (.val v) := (h.2 i v hv).2
theorem lc.weak {ls : Array Slot} {n : Nat} {vs vs' : List (Option Value)} (h : lc ls n vs) (hv : ∀ (i : Nat) (v : Value), vs'[i]? = some (some v) → vs[i]? = some (some v)) : lc ls n vs' := ⟨h.1, fun i v hi => h.2 i v (hv i v hi)⟩
theorem lc_put {ls' : Array Slot} {n i : Nat} {vs : List (Option Value)} {v : Value} {ls : Array Slot} (h : lc ls n vs) (hc : v.category = 1) (h' : lv_has ls' n ((i, v) :: (lvOf vs).filter (fun q => !(q.1 == i) && !(q.1 + 1 == i && q.2.category == 2)))) : lc ls' n (vs.set i (some v)) := by
  refine ⟨⟨h'.1, h'.2.1, fun q hq => by cases hq⟩, fun j w hj => ?_⟩
  by_cases e : j = i
  · subst e
    have hl : j < (vs.set j (some v)).length := (List.getElem?_eq_some_iff.mp hj).1
    rw [List.length_set] at hl
    rw [List.getElem?_set_self hl] at hj
    have hw : v = w := Option.some.inj (Option.some.inj hj)
    subst hw
    exact ⟨hc, h'.2.2 (j, v) List.mem_cons_self⟩
  · rw [List.getElem?_set_ne (fun q => e q.symm)] at hj
    obtain ⟨h1, h2⟩ := h.2 j w hj
    refine ⟨h1, h'.2.2 (j, w) (List.mem_cons_of_mem _ (List.mem_filter.mpr ⟨lvOf_mem.mpr hj, ?_⟩))⟩
    simp [e, h1]
theorem lv_args1 : ∀ (av : List Value) (k : Nat), (∀ v ∈ av, v.category = 1) → ∀ (i : Nat) (v : Value), av[i]? = some v → (k + i, v) ∈ lv_args k av
  | [], k, _, i, v, h => by simp at h
  | w :: av, k, hc, 0, v, h => by
    have e : w = v := by simpa using h
    subst e
    exact List.mem_cons_self
  | w :: av, k, hc, i + 1, v, h => by
    have h1 : w.category = 1 := hc w List.mem_cons_self
    have h2 : av[i]? = some v := by simpa using h
    have := lv_args1 av (k + 1) (fun z hz => hc z (List.mem_cons_of_mem _ hz)) i v h2
    rw [lv_args, if_neg (by omega)]
    refine List.mem_cons_of_mem _ ?_
    rw [show k + (i + 1) = k + 1 + i by omega]
    exact this
theorem lc_entry {ls : Array Slot} {n : Nat} {av : List Value} (h : lv_has ls n (lv_args 0 av)) (hc : ∀ v ∈ av, v.category = 1) (k : Nat) : lc ls n (av.map some ++ List.replicate k none) := by
  refine ⟨⟨h.1, h.2.1, fun q hq => by cases hq⟩, fun i v hi => ?_⟩
  by_cases hl : i < av.length
  · rw [List.getElem?_append_left (by simpa using hl), List.getElem?_map] at hi
    have hv : av[i]? = some v := by
      cases hz : av[i]? with
      | none => rw [hz] at hi; simp at hi
      | some w => rw [hz] at hi; have := Option.some.inj (Option.some.inj hi); rw [this]
    have hm := lv_args1 av 0 hc i v hv
    rw [Nat.zero_add] at hm
    exact ⟨hc v (List.mem_of_getElem? hv), h.2.2 (i, v) hm⟩
  · rw [List.getElem?_append_right (by simpa using hl)] at hi
    have := List.mem_of_getElem? hi
    have h2 := (List.mem_replicate.mp this).2
    cases h2
section LCROWS
variable {p : Program} {l : Launch} {e : Env} {Rm : Room} {s : State} {m : MethodId} {args : Array Value} {below : List Frame} {meth : Method} {c : Code} {H : Heap} {locs : List Loc} {cells slots : Nat} {Q : State → Prop}
variable {cc : ByteArray} {pc : Nat} {ls : Array Slot} {rest : List Value} {n : Nat} {vs : List (Option Value)}
theorem q_istore_n (hexec : p.tables.exec = Jvm.exec) (hb : c.code = cc) {k : Fin 4} {i : Nat} {x : Int32} (hdg : decode cc pc = .ok (.istore_n k, 1)) (hi : (k : Nat) = i) (h : lc ls n vs) (hn : i < n)
    (kk : ∀ ls' : Array Slot, lc ls' n (vs.set i (some (.int x))) → W p l e Rm s m args below meth c H locs cells slots Q (F0 m (pc + 1) ls' rest)) : W p l e Rm s m args below meth c H locs cells slots Q (F0 m pc ls (.int x :: rest)) :=
  lv_istore_n hexec hb hdg hi h.has hn rfl (fun ls' h' => kk ls' (lc_put h rfl h'))
theorem q_istore (hexec : p.tables.exec = Jvm.exec) (hb : c.code = cc) {i : Nat} {x : Int32} (hdg : decode cc pc = .ok (.istore i, 2)) (h : lc ls n vs) (hn : i < n)
    (kk : ∀ ls' : Array Slot, lc ls' n (vs.set i (some (.int x))) → W p l e Rm s m args below meth c H locs cells slots Q (F0 m (pc + 2) ls' rest)) : W p l e Rm s m args below meth c H locs cells slots Q (F0 m pc ls (.int x :: rest)) :=
  lv_istore hexec hb hdg h.has hn rfl (fun ls' h' => kk ls' (lc_put h rfl h'))
theorem q_astore_n (hexec : p.tables.exec = Jvm.exec) (hb : c.code = cc) {k : Fin 4} {i : Nat} (x : Option Nat) (hdg : decode cc pc = .ok (.astore_n k, 1)) (hi : (k : Nat) = i) (h : lc ls n vs) (hn : i < n)
    (kk : ∀ ls' : Array Slot, lc ls' n (vs.set i (some (va_rf x))) → W p l e Rm s m args below meth c H locs cells slots Q (F0 m (pc + 1) ls' rest)) : W p l e Rm s m args below meth c H locs cells slots Q (F0 m pc ls (va_rf x :: rest)) := by
  cases x with
  | none => exact lv_astore_nN hexec hb hdg hi h.has hn rfl (fun ls' h' => kk ls' (lc_put h rfl h'))
  | some y => exact lv_astore_n hexec hb hdg hi h.has hn rfl (fun ls' h' => kk ls' (lc_put h rfl h'))
theorem q_astore (hexec : p.tables.exec = Jvm.exec) (hb : c.code = cc) {i : Nat} (x : Option Nat) (hdg : decode cc pc = .ok (.astore i, 2)) (h : lc ls n vs) (hn : i < n)
    (kk : ∀ ls' : Array Slot, lc ls' n (vs.set i (some (va_rf x))) → W p l e Rm s m args below meth c H locs cells slots Q (F0 m (pc + 2) ls' rest)) : W p l e Rm s m args below meth c H locs cells slots Q (F0 m pc ls (va_rf x :: rest)) := by
  cases x with
  | none => exact lv_astoreN hexec hb hdg h.has hn rfl (fun ls' h' => kk ls' (lc_put h rfl h'))
  | some y => exact lv_astore hexec hb hdg h.has hn rfl (fun ls' h' => kk ls' (lc_put h rfl h'))
theorem q_iinc (hexec : p.tables.exec = Jvm.exec) (hb : c.code = cc) {i : Nat} {d : Int} {x : Int32} (v : Int32) (hdg : decode cc pc = .ok (.iinc i d, 3)) (h : lc ls n vs) (hk : vs[i]? = some (some (.int x))) (hv : x + Int32.ofInt d = v) (hn : i < n)
    (kk : ∀ ls' : Array Slot, lc ls' n (vs.set i (some (.int v))) → W p l e Rm s m args below meth c H locs cells slots Q (F0 m (pc + 3) ls' rest)) : W p l e Rm s m args below meth c H locs cells slots Q (F0 m pc ls rest) := by
  obtain ⟨q, hq⟩ := List.getElem?_of_mem (lvOf_mem.mpr hk : ((i, Value.int x) : Nat × Value) ∈ lvOf vs)
  exact lv_iinc hexec hb hdg h.has hq hv hn rfl (fun ls' h' => kk ls' (lc_put h rfl h'))
theorem q_iload_n (hexec : p.tables.exec = Jvm.exec) (hb : c.code = cc) {k : Fin 4} {i : Nat} {x : Int32} (hdg : decode cc pc = .ok (.iload_n k, 1)) (hi : (k : Nat) = i) (h : lc ls n vs) (hv : vs[i]? = some (some (.int x)))
    (kk : W p l e Rm s m args below meth c H locs cells slots Q (F0 m (pc + 1) ls (.int x :: rest))) : W p l e Rm s m args below meth c H locs cells slots Q (F0 m pc ls rest) :=
  lv_iload_n hexec hb hdg hi (h.at hv) kk
theorem q_iload (hexec : p.tables.exec = Jvm.exec) (hb : c.code = cc) {i : Nat} {x : Int32} (hdg : decode cc pc = .ok (.iload i, 2)) (h : lc ls n vs) (hv : vs[i]? = some (some (.int x)))
    (kk : W p l e Rm s m args below meth c H locs cells slots Q (F0 m (pc + 2) ls (.int x :: rest))) : W p l e Rm s m args below meth c H locs cells slots Q (F0 m pc ls rest) :=
  lv_iload hexec hb hdg (h.at hv) kk
theorem q_al_n (hexec : p.tables.exec = Jvm.exec) (hb : c.code = cc) {k : Fin 4} {i : Nat} {x : Option Nat} (hdg : decode cc pc = .ok (.aload_n k, 1)) (hi : (k : Nat) = i) (h : lc ls n vs) (hv : vs[i]? = some (some (va_rf x)))
    (kk : W p l e Rm s m args below meth c H locs cells slots Q (F0 m (pc + 1) ls (va_rf x :: rest))) : W p l e Rm s m args below meth c H locs cells slots Q (F0 m pc ls rest) :=
  q_aload_n hexec hb hdg hi (h.at hv) kk
theorem q_al (hexec : p.tables.exec = Jvm.exec) (hb : c.code = cc) {i : Nat} {x : Option Nat} (hdg : decode cc pc = .ok (.aload i, 2)) (h : lc ls n vs) (hv : vs[i]? = some (some (va_rf x)))
    (kk : W p l e Rm s m args below meth c H locs cells slots Q (F0 m (pc + 2) ls (va_rf x :: rest))) : W p l e Rm s m args below meth c H locs cells slots Q (F0 m pc ls rest) :=
  q_aload hexec hb hdg (h.at hv) kk
end LCROWS
/-- a contract over the store out of the walk of its body -/
theorem s_met {l : Launch} {sg : Nat → List Bool} {tk : Nat → Nat} {D : va_G} {dA : Nat → ClassId} {cl : List vw_C} {tys : List (ClassId × FieldType)} {S : sS} {sz : Nat} {y : MethodName} {ws ws' : List Cond} {rm : Room} {Qc : Array Value → State → Outcome → State → Prop} {mc ms : Nat} {cc : ByteArray} {maxL : Nat} {ret : Option FieldType} {av : List Value}
    (hy : plainName y.cls = true) (hw : ws = Cond.code y cc maxL ret :: ws') (hav : ∀ v ∈ av, v.category = 1) (hlen : (lg_sl av).length ≤ maxL)
    (body : ∀ (p : Program) (e : Env) (s : State) (m : MethodId) (args : Array Value) (below : List Frame) (meth : Method) (c : Code) (ls : Array Slot), p.tables.exec = Jvm.exec → c.code = cc → meth.sig.returnType = ret → (∀ w ∈ ws, w.before args s = true) → s.vm.findClass y.cls = some m.cls → meth.locks = false → meth.name = y.name → c.maxLocals = maxL → va_K D cl tys s → sKx s → s.heap.size = sz → sW sg tk D dA cl (sA S sz) s.heap S s.heap [] → lc ls maxL (av.map some ++ List.replicate (maxL - av.length) none) →
      W p l e rm s m args below meth c s.heap [] 0 0 (MQ below Qc args s mc ms (sA S sz)) (F0 m 0 ls [])) :
    Met l y ws rm (va_Pc av (sP sg tk D dA cl tys S sz)) Qc mc ms (sA S sz) := by
  refine Met.ofW (cc := cc) (maxL := maxL) (ret := ret) hy hw ?_
  intro p e s m args below meth c s₁ B hml hv
  obtain ⟨rfl, hv⟩ := hv
  have hl := lv_entry av (n := maxL) hlen
  rw [lg_entry_eq]
  generalize (lg_sl av ++ List.replicate (maxL - (lg_sl av).length) Slot.unset).toArray = ls at hl ⊢
  exact body p e s m _ below meth c ls B.exec B.bytes B.returns (atoms_spec (ws := ws) B.pre) (findClass_of_methodNamed B.named) B.notSynchronized (name_of_methodNamed B.named B.method).1 hml hv.2.2.1 hv.2.2.2 hv.1 (sW_start hv) (lc_entry hl hav _)
end
section
/-! two stores side by side: a call with the first one -/
def sJ (S1 S2 : sS) : sS := (fun a => match S1.1 a with | some k => some k | none => S2.1 a, fun a => match S1.1 a with | some _ => S1.2.1 a | none => S2.2.1 a, fun a => match S1.1 a with | some _ => S1.2.2.1 a | none => S2.2.2.1 a, fun a => match S1.1 a with | some _ => S1.2.2.2 a | none => S2.2.2.2 a)
def sDj (S1 S2 : sS) : Prop := ∀ a, S1.1 a ≠ none → S2.1 a = none
theorem sMk_J {sg : Nat → List Bool} {tk : Nat → Nat} {dA : Nat → ClassId} (S1 S2 : sS) (a : Nat) : sMk sg tk dA (sJ S1 S2) a = match S1.1 a with | some _ => sMk sg tk dA S1 a | none => sMk sg tk dA S2 a := by
  unfold sMk sJ
  cases h : S1.1 a with
  | none => simp [h]
  | some k => cases k <;> simp [h]
theorem sD_nd {A : Nat → Prop} {ws : va_W} (h : va_D A ws) : (ws.map Prod.fst).Nodup := by
  rw [List.nodup_iff_pairwise_ne, List.pairwise_iff_getElem]
  intro i j hi hj hij e
  have hi' : i < ws.length := by simpa using hi
  have hj' : j < ws.length := by simpa using hj
  have e1 : ws[i].1 = ws[j].1 := by simpa using e
  have := h.1 i j _ _ (List.getElem?_eq_getElem hi') (List.getElem?_eq_getElem hj') e1
  omega
theorem sD_of {A : Nat → Prop} {ws : va_W} (h : (ws.map Prod.fst).Nodup) (hA : ∀ q ∈ ws, A q.1) : va_D A ws := by
  refine ⟨fun i j p q hi hj e => ?_, fun k q hk => hA q (List.mem_of_getElem? hk)⟩
  have hi' := (List.getElem?_eq_some_iff.mp hi).1
  have e1 : (ws.map Prod.fst)[i]? = (ws.map Prod.fst)[j]? := by rw [List.getElem?_map, List.getElem?_map, hi, hj]; simp [e]
  exact (List.getElem?_inj (by simpa using hi') h).mp e1
theorem sG_mem {M : sM} {ws : va_W} (h : sG M ws) {a : Nat} {x : va_E} : (a, x) ∈ ws ↔ M a = some x := by
  rw [h a x]
  constructor
  · intro hm
    obtain ⟨k, hk⟩ := List.getElem?_of_mem hm
    exact ⟨k, hk⟩
  · rintro ⟨k, hk⟩
    exact List.mem_of_getElem? hk
theorem sG_of {M : sM} {ws : va_W} (h : ∀ a x, (a, x) ∈ ws ↔ M a = some x) : sG M ws := fun a x => by
  rw [← h a x]
  constructor
  · intro hm
    obtain ⟨k, hk⟩ := List.getElem?_of_mem hm
    exact ⟨k, hk⟩
  · rintro ⟨k, hk⟩
    exact List.mem_of_getElem? hk
theorem sJ_1 {S1 S2 : sS} {a : Nat} (h : S1.1 a ≠ none) : (sJ S1 S2).1 a = S1.1 a := by
  unfold sJ
  cases hk : S1.1 a with
  | none => exact absurd hk h
  | some k => simp [hk]
theorem sJ_pre {sg : Nat → List Bool} {tk : Nat → Nat} {D : va_G} {dA : Nat → ClassId} {cl : List vw_C} {tys : List (ClassId × FieldType)} {A : Nat → Prop} {H0 H : Heap} {s : State} {S1 S2 : sS} {locs : List Loc} {av : List Value} (h : sW sg tk D dA cl A H0 (sJ S1 S2) H locs) (hK : va_K D cl tys s) (hX : sKx s) :
    ∀ U : State, U.heap = H → s.WarmedH U.vm → va_Pc av (sP sg tk D dA cl tys S1 H.size) av.toArray U := by
  obtain ⟨-, ws, hG, hP, hD, -⟩ := h
  intro U hU hW
  refine ⟨rfl, by rw [hU], ⟨ws.filter (fun q => (S1.1 q.1).isSome), sG_of fun a x => ?_, fun k q hk => ?_, sD_of ?_ (fun _ _ => trivial)⟩, va_K.moved hW.alike hK, sKx_warm hW hX⟩
  · rw [List.mem_filter, sG_mem hG, sMk_J]
    cases hk : S1.1 a with
    | none => simp [sMk, hk]
    | some k => simp
  · obtain ⟨j, hj⟩ := List.getElem?_of_mem (List.mem_filter.mp (List.mem_of_getElem? hk)).1
    rw [hU]
    exact hP j q hj
  · exact (sD_nd hD).sublist ((List.filter_sublist).map _)
theorem sJ_free {sg : Nat → List Bool} {tk : Nat → Nat} {D : va_G} {dA : Nat → ClassId} {cl : List vw_C} {A : Nat → Prop} {H0 H : Heap} {S1 S2 : sS} {locs : List Loc} (h : sW sg tk D dA cl A H0 (sJ S1 S2) H locs) : ∀ q, sA S1 H.size q → A q := by
  intro q hq
  rcases hq with hq | hq
  · exact h.free q (Or.inl (by rw [sJ_1 hq]; exact hq))
  · exact h.free q (Or.inr hq)
theorem sJ_post {sg : Nat → List Bool} {tk : Nat → Nat} {D : va_G} {dA : Nat → ClassId} {cl : List vw_C} {A : Nat → Prop} {H0 H H1 : Heap} {t : State} {S1 S2 u : sS} {locs locs1 : List Loc} (h : sW sg tk D dA cl A H0 (sJ S1 S2) H locs) (hd : sDj S1 S2) (hB : sB sg tk D dA cl S1 H.size u t) (ht : t.heap = H1)
    (hk : ∀ q : Nat, q < H.size → ¬ sA S1 H.size q → H1[q]? = H[q]?) (hS1 : va_S A H0 H1 locs1) : sW sg tk D dA cl A H0 (sJ u S2) H1 locs1 ∧ sDj u S2 := by
  have hf := sJ_free h
  obtain ⟨hA, ws, hG, hP, hD, hS⟩ := h
  obtain ⟨w1, hG1, hP1, hD1⟩ := hB
  have hat : ∀ q ∈ ws, q.1 < H.size := fun q hq => by
    obtain ⟨j, hj⟩ := List.getElem?_of_mem hq
    exact (hP j q hj).lt
  have h2lt : ∀ a, S2.1 a ≠ none → S1.1 a = none → a < H.size := fun a ha h1 => by
    obtain ⟨x, hx⟩ := sMk_ex (sg := sg) (tk := tk) (dA := dA) ha
    exact hat (a, x) ((sG_mem hG).mpr (by rw [sMk_J, h1]; exact hx))
  have hdj : sDj u S2 := by
    intro a ha
    cases h2 : S2.1 a with
    | none => rfl
    | some k =>
      have h2' : S2.1 a ≠ none := by rw [h2]; exact fun z => by cases z
      have h1 : S1.1 a = none := by
        cases h1 : S1.1 a with
        | none => rfl
        | some k1 =>
          have := hd a (by rw [h1]; exact fun z => by cases z)
          exact absurd this h2'
      obtain ⟨x, hx⟩ := sMk_ex (sg := sg) (tk := tk) (dA := dA) ha
      obtain ⟨j, hj⟩ := (hG1 a x).mp hx
      rcases hD1.2 j _ hj with z | z
      · exact absurd h1 z
      · have := h2lt a h2' h1
        have z' : H.size ≤ a := z
        omega
  refine ⟨⟨hA, w1 ++ ws.filter (fun q => (S1.1 q.1).isNone), sG_of fun a x => ?_, fun k q hq => ?_, sD_of ?_ ?_, hS1⟩, hdj⟩
  · rw [List.mem_append, sG_mem hG1, List.mem_filter, sG_mem hG, sMk_J, sMk_J]
    cases hu : u.1 a with
    | none =>
      have e1 : sMk sg tk dA u a = none := by simp [sMk, hu]
      rw [e1]
      cases h1 : S1.1 a with
      | none => simp
      | some k =>
        have h2 : S2.1 a = none := hd a (by rw [h1]; exact fun z => by cases z)
        simp [sMk, h2]
    | some k =>
      have h2 : S2.1 a = none := hdj a (by rw [hu]; exact fun z => by cases z)
      cases h1 : S1.1 a with
      | none => simp [sMk, h2]
      | some k => simp
  · rcases List.mem_append.mp (List.mem_of_getElem? hq) with hm | hm
    · obtain ⟨j, hj⟩ := List.getElem?_of_mem hm
      rw [← ht]
      exact hP1 j q hj
    · obtain ⟨hm1, hm2⟩ := List.mem_filter.mp hm
      obtain ⟨j, hj⟩ := List.getElem?_of_mem hm1
      refine (hP j q hj).kept (hk q.1 (hat q hm1) ?_)
      rintro (z | z)
      · exact z (by simpa using hm2)
      · have := hat q hm1
        omega
  · rw [List.map_append, List.nodup_append]
    refine ⟨sD_nd hD1, (sD_nd hD).sublist ((List.filter_sublist).map _), fun x hx y hy e => ?_⟩
    subst e
    obtain ⟨q, hq, e1⟩ := List.mem_map.mp hx
    obtain ⟨r, hr, e2⟩ := List.mem_map.mp hy
    obtain ⟨hm1, hm2⟩ := List.mem_filter.mp hr
    obtain ⟨j, hj⟩ := List.getElem?_of_mem hq
    rcases hD1.2 j q hj with z | z
    · rw [e1, ← e2] at z
      exact z (by simpa using hm2)
    · have := hat r hm1
      omega
  · intro q hq
    rcases List.mem_append.mp hq with hm | hm
    · obtain ⟨j, hj⟩ := List.getElem?_of_mem hm
      exact hf _ (hD1.2 j q hj)
    · obtain ⟨j, hj⟩ := List.getElem?_of_mem (List.mem_filter.mp hm).1
      exact hD.2 j q hj
end
section
/-! calls: every method has its own code's word and all the good words; a room by levels -/
abbrev rmk (f c s : Nat) : Room := { frames := f, cells := c, slots := s, locals := 26 * f + 40 }
abbrev SW (D : va_G) (dA : Nat → ClassId) (A : Nat → Prop) (H0 : Heap) (S : sS) (H : Heap) (locs : List Loc) : Prop := sW sg tk D dA cls A H0 S H locs
abbrev SP (D : va_G) (dA : Nat → ClassId) (S : sS) (sz : Nat) : State → Prop := sP sg tk D dA cls (tys dA) S sz
abbrev SB (D : va_G) (dA : Nat → ClassId) (S : sS) (sz : Nat) : sS → State → Prop := sB sg tk D dA cls S sz
/-- contracts: an int, nothing, a reference comes back -/
abbrev cI (l : Launch) (y : MethodName) (b : ByteArray) (n : Nat) (r : Option FieldType) (rm : Room) (D : va_G) (dA : Nat → ClassId) (S : sS) (sz : Nat) (av : List Value) (post : Int32 → sS → Prop) (mc ms : Nat) : Prop := Met l y (.code y b n r :: gd) rm (va_Pc av (SP D dA S sz)) (va_Qi post (SB D dA S sz) (sA S sz)) mc ms (sA S sz)
abbrev cV (l : Launch) (y : MethodName) (b : ByteArray) (n : Nat) (rm : Room) (D : va_G) (dA : Nat → ClassId) (S : sS) (sz : Nat) (av : List Value) (post : sS → Prop) (mc ms : Nat) : Prop := Met l y (.code y b n none :: gd) rm (va_Pc av (SP D dA S sz)) (va_Qv post (SB D dA S sz) (sA S sz)) mc ms (sA S sz)
abbrev cQ (l : Launch) (y : MethodName) (b : ByteArray) (n : Nat) (r : Option FieldType) (rm : Room) (D : va_G) (dA : Nat → ClassId) (S : sS) (sz : Nat) (av : List Value) (post : Option Nat → sS → Prop) (mc ms : Nat) : Prop := Met l y (.code y b n r :: gd) rm (va_Pc av (SP D dA S sz)) (va_Qq post (SB D dA S sz) (sA S sz)) mc ms (sA S sz)
theorem gd_good {w : Cond} (h : w ∈ gd) : (w.onTables && w.keeps) = true ∨ ∃ ty, w = .arrayClass ty := good_of_word (List.mem_filter.mp h).2
theorem gd_all {y : MethodName} {b : ByteArray} {n : Nat} {r : Option FieldType} (h : Cond.code y b n r ∈ gd) : GoodIn gd (.code y b n r :: gd) := fun w hw => by
  rcases List.mem_cons.mp hw with e | e
  · rw [e]; exact ⟨h, gd_good h⟩
  · exact ⟨e, gd_good e⟩
theorem gd_hts {y : MethodName} {b : ByteArray} {n : Nat} {r : Option FieldType} {args : Array Value} {s : State} (h : ∀ w ∈ (Cond.code y b n r :: gd), w.before args s = true) : ∀ w ∈ gd, w.before args s = true := fun w hw => h w (List.mem_cons_of_mem _ hw)
section RUNS
variable {p : Program} {l : Launch} {e : Env} {Rm : Room} {s : State} {m : MethodId} {args : Array Value} {below : List Frame} {meth : Method} {c : Code} {H : Heap} {locs : List Loc} {cells slots : Nat}
variable {cc : ByteArray} {pc nL : Nat} {ls : Array Slot} {rest st0 : List Value} {S : sS} {D : va_G} {dA : Nat → ClassId}
variable {own : String} {idx n mc ms : Nat} {y : MethodName} {b : ByteArray} {r : Option FieldType} {rm : Room} {Qc : Array Value → State → Outcome → State → Prop}
theorem r_V {a : Nat} (nA : Nat) (As : List Value) (hA : As.length = nA) (hx : p.tables.exec = Jvm.exec) (hb : c.code = cc) (hml : c.maxLocals = nL) (hown : s.vm.findClass own = some m.cls) (hg : ∀ w ∈ gd, w.before args s = true)
    (hC : Met l y (.code y b n r :: gd) rm (va_Pc (.ref a :: As) (SP D dA S H.size)) Qc mc ms (sA S H.size))
    (hpre : ∀ U : State, U.heap = H → s.WarmedH U.vm → va_Pc (.ref a :: As) (SP D dA S H.size) (Value.ref a :: As).toArray U)
    (hrecv : ∃ cell : Cell, H[a]? = some cell ∧ cell.vm.isStatics = false ∧ s.vm.findClass y.cls = some cell.cls)
    (w1 : Cond.methodLink own idx y ∈ gd) (w2 : Cond.instanceMethod y ∈ gd) (w3 : Cond.selects y.cls y y ∈ gd) (w4 : Cond.initialized y.cls ∈ gd) (w5 : Cond.code y b n r ∈ gd)
    (hd : y.cls ≠ "java/lang/invoke/MethodHandle" ∧ y.cls ≠ "java/lang/invoke/VarHandle" ∧ (parseMethodDescriptor y.desc).map (fun d => d.parameters.length) = some nA)
    (hR : rm.frames + 1 ≤ Rm.frames ∧ 8 + (n + 11) + rm.locals ≤ Rm.locals) (hrc : rm.cells = mc) (hrs : rm.slots = ms) (hl : ls.size = nL) (hroom : (rest.map fun v => v.category).sum ≤ 8)
    (hdg : decode cc pc = .ok (.invokevirtual idx, 3)) (hcs : cells + mc ≤ Rm.cells ∧ slots + ms ≤ Rm.slots) (hst : st0 = As.reverse ++ .ref a :: rest) :
    va_Run p l e Rm s m args below meth c H locs cells slots mc ms (F0 m pc ls st0) rest (Qc (Value.ref a :: As).toArray) (sA S H.size) := by
  subst hst
  refine va_runV (Ts := gd) (C := y.cls) (n := nA) ⟨hx, hb, hml, hown, hg⟩ hC (cwV nA hg ?_ rfl hrc hrs ⟨rfl, hd⟩ hR) ⟨sP_blind, hrecv, hpre⟩ rfl hA hl rfl (lv_room hroom) hdg hcs
  intro w hw
  rcases List.mem_append.mp hw with h | h
  · simp only [List.mem_cons, List.not_mem_nil, or_false] at h
    rcases h with rfl | rfl | rfl | rfl
    · exact ⟨w1, gd_good w1⟩
    · exact ⟨w2, gd_good w2⟩
    · exact ⟨w3, gd_good w3⟩
    · exact ⟨w4, gd_good w4⟩
  · exact gd_all w5 w h
theorem r_S (nA : Nat) (As : List Value) (hA : As.length = nA) (hx : p.tables.exec = Jvm.exec) (hb : c.code = cc) (hml : c.maxLocals = nL) (hown : s.vm.findClass own = some m.cls) (hg : ∀ w ∈ gd, w.before args s = true)
    (hC : Met l y (.code y b n r :: gd) rm (va_Pc As (SP D dA S H.size)) Qc mc ms (sA S H.size))
    (hpre : ∀ U : State, U.heap = H → s.WarmedH U.vm → va_Pc As (SP D dA S H.size) As.toArray U)
    (w1 : Cond.methodLink own idx y ∈ gd) (w2 : Cond.static y ∈ gd) (w4 : Cond.initialized y.cls ∈ gd) (w5 : Cond.code y b n r ∈ gd)
    (hd : y.cls ≠ "java/lang/invoke/MethodHandle" ∧ y.cls ≠ "java/lang/invoke/VarHandle" ∧ (parseMethodDescriptor y.desc).map (fun d => d.parameters.length) = some nA)
    (hR : rm.frames + 1 ≤ Rm.frames ∧ 8 + (n + 11) + rm.locals ≤ Rm.locals) (hrc : rm.cells = mc) (hrs : rm.slots = ms) (hl : ls.size = nL) (hroom : (rest.map fun v => v.category).sum ≤ 8)
    (hdg : decode cc pc = .ok (.invokestatic idx, 3)) (hcs : cells + mc ≤ Rm.cells ∧ slots + ms ≤ Rm.slots) (hst : st0 = As.reverse ++ rest) :
    va_Run p l e Rm s m args below meth c H locs cells slots mc ms (F0 m pc ls st0) rest (Qc As.toArray) (sA S H.size) := by
  subst hst
  refine va_runS (Ts := gd) (n := nA) ⟨hx, hb, hml, hown, hg⟩ hC (va_cwS nA hg ?_ rfl hrc hrs hd hR) ⟨sP_blind, hpre⟩ rfl hA hl rfl (lv_room hroom) hdg hcs
  intro w hw
  rcases List.mem_append.mp hw with h | h
  · simp only [List.mem_cons, List.not_mem_nil, or_false] at h
    rcases h with rfl | rfl | rfl
    · exact ⟨w1, gd_good w1⟩
    · exact ⟨w2, gd_good w2⟩
    · exact ⟨w4, gd_good w4⟩
  · exact gd_all w5 w h
theorem r_I {a : Nat} (nA : Nat) (As : List Value) (hA : As.length = nA) (hx : p.tables.exec = Jvm.exec) (hb : c.code = cc) (hml : c.maxLocals = nL) (hown : s.vm.findClass own = some m.cls) (hg : ∀ w ∈ gd, w.before args s = true)
    (hC : Met l y (.code y b n none :: gd) rm (va_Pc (.ref a :: As) (SP D dA S H.size)) Qc mc ms (sA S H.size))
    (hpre : ∀ U : State, U.heap = H → s.WarmedH U.vm → va_Pc (.ref a :: As) (SP D dA S H.size) (Value.ref a :: As).toArray U) (hy1 : y.name = "<init>")
    (w1 : Cond.methodLink own idx y ∈ gd) (w2 : Cond.instanceMethod y ∈ gd) (w4 : Cond.initialized y.cls ∈ gd) (w5 : Cond.code y b n none ∈ gd)
    (hd : y.cls ≠ "java/lang/invoke/MethodHandle" ∧ y.cls ≠ "java/lang/invoke/VarHandle" ∧ (parseMethodDescriptor y.desc).map (fun d => d.parameters.length) = some nA)
    (hR : rm.frames + 1 ≤ Rm.frames ∧ 8 + (n + 11) + rm.locals ≤ Rm.locals) (hrc : rm.cells = mc) (hrs : rm.slots = ms) (hl : ls.size = nL) (hroom : (rest.map fun v => v.category).sum ≤ 8)
    (hdg : decode cc pc = .ok (.invokespecial idx, 3)) (hcs : cells + mc ≤ Rm.cells ∧ slots + ms ≤ Rm.slots) (hst : st0 = As.reverse ++ .ref a :: rest) :
    va_Run p l e Rm s m args below meth c H locs cells slots mc ms (F0 m pc ls st0) rest (Qc (Value.ref a :: As).toArray) (sA S H.size) := by
  subst hst
  exact va_runI (Ts := gd) (n := nA) ⟨hx, hb, hml, hown, hg⟩ hC (cwI nA hg (gd_all w5) rfl hrc hrs (hg _ w4) (hg _ w1) (hg _ w2) hy1 hd hR) ⟨sP_blind, hpre⟩ rfl hA hl rfl (lv_room hroom) hdg hcs
/-- nest mates -/
theorem r_IN {a : Nat} {host : String} (nA : Nat) (As : List Value) (hA : As.length = nA) (hx : p.tables.exec = Jvm.exec) (hb : c.code = cc) (hml : c.maxLocals = nL) (hown : s.vm.findClass own = some m.cls) (hg : ∀ w ∈ gd, w.before args s = true)
    (hC : Met l y (.code y b n none :: gd) rm (va_Pc (.ref a :: As) (SP D dA S H.size)) Qc mc ms (sA S H.size))
    (hpre : ∀ U : State, U.heap = H → s.WarmedH U.vm → va_Pc (.ref a :: As) (SP D dA S H.size) (Value.ref a :: As).toArray U) (hy1 : y.name = "<init>")
    (w1 : va_Nw (.methodLinkNest own idx y host) s) (w2 : Cond.instanceMethod y ∈ gd) (w4 : Cond.initialized y.cls ∈ gd) (w5 : Cond.code y b n none ∈ gd)
    (hd : y.cls ≠ "java/lang/invoke/MethodHandle" ∧ y.cls ≠ "java/lang/invoke/VarHandle" ∧ (parseMethodDescriptor y.desc).map (fun d => d.parameters.length) = some nA)
    (hR : rm.frames + 1 ≤ Rm.frames ∧ 8 + (n + 11) + rm.locals ≤ Rm.locals) (hrc : rm.cells = mc) (hrs : rm.slots = ms) (hl : ls.size = nL) (hroom : (rest.map fun v => v.category).sum ≤ 8)
    (hdg : decode cc pc = .ok (.invokespecial idx, 3)) (hcs : cells + mc ≤ Rm.cells ∧ slots + ms ≤ Rm.slots) (hst : st0 = As.reverse ++ .ref a :: rest) :
    va_Run p l e Rm s m args below meth c H locs cells slots mc ms (F0 m pc ls st0) rest (Qc (Value.ref a :: As).toArray) (sA S H.size) := by
  subst hst
  exact va_runIN (Ts := gd) (n := nA) ⟨hx, hb, hml, hown, hg⟩ hC ⟨va_cnB nA hg (gd_all w5) rfl hrc hrs w1 (hg _ w4) hd hR, hy1, hg _ w2⟩ ⟨sP_blind, hpre⟩ rfl hA hl rfl (lv_room hroom) hdg hcs
theorem r_SN {host : String} (nA : Nat) (As : List Value) (hA : As.length = nA) (hx : p.tables.exec = Jvm.exec) (hb : c.code = cc) (hml : c.maxLocals = nL) (hown : s.vm.findClass own = some m.cls) (hg : ∀ w ∈ gd, w.before args s = true)
    (hC : Met l y (.code y b n r :: gd) rm (va_Pc As (SP D dA S H.size)) Qc mc ms (sA S H.size))
    (hpre : ∀ U : State, U.heap = H → s.WarmedH U.vm → va_Pc As (SP D dA S H.size) As.toArray U)
    (w1 : va_Nw (.methodLinkNest own idx y host) s) (w2 : Cond.static y ∈ gd) (w4 : Cond.initialized y.cls ∈ gd) (w5 : Cond.code y b n r ∈ gd)
    (hd : y.cls ≠ "java/lang/invoke/MethodHandle" ∧ y.cls ≠ "java/lang/invoke/VarHandle" ∧ (parseMethodDescriptor y.desc).map (fun d => d.parameters.length) = some nA)
    (hR : rm.frames + 1 ≤ Rm.frames ∧ 8 + (n + 11) + rm.locals ≤ Rm.locals) (hrc : rm.cells = mc) (hrs : rm.slots = ms) (hl : ls.size = nL) (hroom : (rest.map fun v => v.category).sum ≤ 8)
    (hdg : decode cc pc = .ok (.invokestatic idx, 3)) (hcs : cells + mc ≤ Rm.cells ∧ slots + ms ≤ Rm.slots) (hst : st0 = As.reverse ++ rest) :
    va_Run p l e Rm s m args below meth c H locs cells slots mc ms (F0 m pc ls st0) rest (Qc As.toArray) (sA S H.size) := by
  subst hst
  exact va_runSN (Ts := gd) (n := nA) ⟨hx, hb, hml, hown, hg⟩ hC ⟨va_cnB nA hg (gd_all w5) rfl hrc hrs w1 (hg _ w4) hd hR, hg _ w2, trivial⟩ ⟨sP_blind, hpre⟩ rfl hA hl rfl (lv_room hroom) hdg hcs
end RUNS
end
section
/-! compares of numbers that are naturals -/
theorem vi_of {k : Int32} {n : Nat} (h0 : ¬ k < 0) (h1 : ¬ nI n ≤ k) (hn : n < 2 ^ 31) : vp_in k n := by
  obtain ⟨j, hj, e⟩ := nI_of h0
  subst e
  exact vp_in_nI (Nat.lt_of_not_le fun q => h1 (nI_le q hj)) hn
theorem vi_ge {k : Int32} {n : Nat} (h1 : nI n ≤ k) (hn : n < 2 ^ 31) : ¬ vp_in k n := by
  intro h
  obtain ⟨j, hj, e⟩ := vp_in_of h hn
  subst e
  have := (nI_leI hn (by omega)).mp h1
  omega
theorem vi_le {k : Int32} {n c : Nat} (h : vp_in k n) (hnc : n ≤ c) (hc : c < 2 ^ 31) : vp_in k c := by
  obtain ⟨j, hj, e⟩ := vp_in_of h (by omega)
  subst e
  exact vp_in_nI (by omega) hc
section NCMP
variable {p : Program} {l : Launch} {e : Env} {Rm : Room} {s : State} {m : MethodId} {args : Array Value} {below : List Frame} {meth : Method} {c : Code} {H : Heap} {locs : List Loc} {cells slots : Nat} {Q : State → Prop}
variable {cc : ByteArray} {pc : Nat} {ls : Array Slot} {rest : List Value} {x y tgt : Nat} {off : Int}
theorem n_lt (hx : p.tables.exec = Jvm.exec) (hb : c.code = cc) (hdg : decode cc pc = .ok (.if_icmp .lt off, 3)) (ht : (pc : Int) + off = (tgt : Int)) (h1 : x < 2 ^ 31) (h2 : y < 2 ^ 31)
    (kt : x < y → W p l e Rm s m args below meth c H locs cells slots Q (F0 m tgt ls rest)) (kf : y ≤ x → W p l e Rm s m args below meth c H locs cells slots Q (F0 m (pc + 3) ls rest)) : W p l e Rm s m args below meth c H locs cells slots Q (F0 m pc ls (.int (nI y) :: .int (nI x) :: rest)) :=
  lv_icmp_lt hx hb hdg ht (fun h => kt ((nI_ltI h1 h2).mp h)) (fun h => kf (Nat.le_of_not_lt fun q => h ((nI_ltI h1 h2).mpr q)))
theorem n_ge (hx : p.tables.exec = Jvm.exec) (hb : c.code = cc) (hdg : decode cc pc = .ok (.if_icmp .ge off, 3)) (ht : (pc : Int) + off = (tgt : Int)) (h1 : x < 2 ^ 31) (h2 : y < 2 ^ 31)
    (kt : y ≤ x → W p l e Rm s m args below meth c H locs cells slots Q (F0 m tgt ls rest)) (kf : x < y → W p l e Rm s m args below meth c H locs cells slots Q (F0 m (pc + 3) ls rest)) : W p l e Rm s m args below meth c H locs cells slots Q (F0 m pc ls (.int (nI y) :: .int (nI x) :: rest)) :=
  lv_icmp_ge hx hb hdg ht (fun h => kt ((nI_leI h2 h1).mp h)) (fun h => kf (Nat.lt_of_not_le fun q => h ((nI_leI h2 h1).mpr q)))
theorem n_gt (hx : p.tables.exec = Jvm.exec) (hb : c.code = cc) (hdg : decode cc pc = .ok (.if_icmp .gt off, 3)) (ht : (pc : Int) + off = (tgt : Int)) (h1 : x < 2 ^ 31) (h2 : y < 2 ^ 31)
    (kt : y < x → W p l e Rm s m args below meth c H locs cells slots Q (F0 m tgt ls rest)) (kf : x ≤ y → W p l e Rm s m args below meth c H locs cells slots Q (F0 m (pc + 3) ls rest)) : W p l e Rm s m args below meth c H locs cells slots Q (F0 m pc ls (.int (nI y) :: .int (nI x) :: rest)) :=
  lv_icmp_gt hx hb hdg ht (fun h => kt ((nI_ltI h2 h1).mp h)) (fun h => kf (Nat.le_of_not_lt fun q => h ((nI_ltI h2 h1).mpr q)))
theorem n_eq (hx : p.tables.exec = Jvm.exec) (hb : c.code = cc) (hdg : decode cc pc = .ok (.if_icmp .eq off, 3)) (ht : (pc : Int) + off = (tgt : Int)) (h1 : x < 2 ^ 31) (h2 : y < 2 ^ 31)
    (kt : x = y → W p l e Rm s m args below meth c H locs cells slots Q (F0 m tgt ls rest)) (kf : x ≠ y → W p l e Rm s m args below meth c H locs cells slots Q (F0 m (pc + 3) ls rest)) : W p l e Rm s m args below meth c H locs cells slots Q (F0 m pc ls (.int (nI y) :: .int (nI x) :: rest)) :=
  lv_icmp_eq hx hb hdg ht (fun h => kt ((nI_eq h1 h2).mp h)) (fun h => kf (fun q => h ((nI_eq h1 h2).mpr q)))
theorem n_ne (hx : p.tables.exec = Jvm.exec) (hb : c.code = cc) (hdg : decode cc pc = .ok (.if_icmp .ne off, 3)) (ht : (pc : Int) + off = (tgt : Int)) (h1 : x < 2 ^ 31) (h2 : y < 2 ^ 31)
    (kt : x ≠ y → W p l e Rm s m args below meth c H locs cells slots Q (F0 m tgt ls rest)) (kf : x = y → W p l e Rm s m args below meth c H locs cells slots Q (F0 m (pc + 3) ls rest)) : W p l e Rm s m args below meth c H locs cells slots Q (F0 m pc ls (.int (nI y) :: .int (nI x) :: rest)) :=
  lv_icmp_ne hx hb hdg ht (fun h => kt (fun q => h ((nI_eq h1 h2).mpr q))) (fun h => kf ((nI_eq h1 h2).mp h))
end NCMP
/-- what a method left as it was: all cells of S but those of P -/
def sFr (S S2 : sS) (P : Nat → Prop) : Prop := ∀ b, S.1 b ≠ none → S2.1 b = S.1 b ∧ (¬ P b → S2.2.1 b = S.2.1 b ∧ S2.2.2.1 b = S.2.2.1 b ∧ S2.2.2.2 b = S.2.2.2 b)
theorem sFr.rf {S : sS} {P : Nat → Prop} : sFr S S P := fun b _ => ⟨rfl, fun _ => ⟨rfl, rfl, rfl⟩⟩
theorem sFr.tr {S S2 S3 : sS} {P P2 P3 : Nat → Prop} (h : sFr S S2 P) (h2 : sFr S2 S3 P2) (hP : ∀ b, S.1 b ≠ none → P b → P3 b) (hP2 : ∀ b, S.1 b ≠ none → P2 b → P3 b) : sFr S S3 P3 := by
  intro b hb
  obtain ⟨a1, a2⟩ := h b hb
  obtain ⟨b1, b2⟩ := h2 b (by rw [a1]; exact hb)
  refine ⟨b1.trans a1, fun hn => ?_⟩
  obtain ⟨x1, x2, x3⟩ := a2 (fun q => hn (hP b hb q))
  obtain ⟨y1, y2, y3⟩ := b2 (fun q => hn (hP2 b hb q))
  exact ⟨y1.trans x1, y2.trans x2, y3.trans x3⟩
theorem sFr.weak {S S2 : sS} {P P2 : Nat → Prop} (h : sFr S S2 P) (hP : ∀ b, S.1 b ≠ none → P b → P2 b) : sFr S S2 P2 := fun b hb => ⟨(h b hb).1, fun hn => (h b hb).2 fun q => hn (hP b hb q)⟩
theorem sFr.kd {S S2 : sS} {P : Nat → Prop} (h : sFr S S2 P) {b : Nat} {k : sK} (hb : S.1 b = some k) : S2.1 b = some k := by rw [(h b (by rw [hb]; exact fun z => by cases z)).1, hb]
/-- Numbers: at a, its row at r of length cap, n numbers f -/
def Nm (S : sS) (a r cap n : Nat) (f : Nat → Nat) : Prop :=
  S.1 a = some (.inl 5) ∧ S.2.1 a 0 = some r ∧ S.1 r = some (.inr (0, cap)) ∧ S.2.2.1 a 1 = nI n ∧ n ≤ cap ∧ 16 ≤ cap ∧ cap ≤ 32768 ∧ ∀ i, i < n → S.2.2.1 r i = nI (f i)
end
section
theorem sMk_row {sg : Nat → List Bool} {tk : Nat → Nat} {dA : Nat → ClassId} {kd : Nat → Option sK} {rf : Nat → Nat → Option Nat} {it : Nat → Nat → Int32} {lg : Nat → Nat → Int64} {a t n : Nat} (g : Nat → Int32) (h : kd a = some (.inr (t, n))) (ht : tk t = 0) :
    sMk sg tk dA (kd, rf, upr it a g, lg) = sU (sMk sg tk dA (kd, rf, it, lg)) a (.inl (dA t, n, .inl g)) := by
  funext b
  by_cases hb : b = a
  · subst hb
    simp [sMk, sU, h, sCt, ht, upr]
  · simp [sMk, sU, hb, upr]
section SCPY
variable {p : Program} {l : Launch} {e : Env} {Rm : Room} {s : State} {m : MethodId} {args : Array Value} {below : List Frame} {meth : Method} {c : Code} {H : Heap} {locs : List Loc} {cells slots : Nat} {Q : State → Prop}
variable {cc : ByteArray} {pc : Nat} {ls : Array Slot} {rest : List Value} {D : va_G} {cl : List vw_C} {A : Nat → Prop} {tys : List (ClassId × FieldType)} {H0 : Heap}
variable {sg : Nat → List Bool} {tk : Nat → Nat} {dA : Nat → ClassId} {kd : Nat → Option sK} {rf : Nat → Nat → Option Nat} {it : Nat → Nat → Int32} {lg : Nat → Nat → Int64}
theorem s_cpy (hexec : p.tables.exec = Jvm.exec) (hb : c.code = cc) (hml : c.maxLocals = ls.size) {own : String} {index : Nat} (hown : s.vm.findClass own = some m.cls) (hlink : (Cond.methodLink own index arraycopyName).before args s = true) (hnat : (Cond.native arraycopyName).before args s = true) (hstat : (Cond.static arraycopyName).before args s = true) (hini : (Cond.initialized "java/lang/System").before args s = true)
    (hK : va_K D cl tys s) (hM : sW sg tk D dA cl A H0 (kd, rf, it, lg) H locs) {a0 a t n0 n1 : Nat} (ha0 : kd a0 = some (.inr (t, n0))) (ha1 : kd a = some (.inr (t, n1))) (htk : tk t = 0) (ht : tys[t]? = some (dA t, .int))
    {sp dp n : Int32} (h1 : ¬ sp < 0) (h2 : ¬ dp < 0) (h3 : ¬ n < 0) (h4 : sp.toNatClampNeg + n.toNatClampNeg ≤ n0) (h5 : dp.toNatClampNeg + n.toNatClampNeg ≤ n1)
    (hframes : 1 ≤ Rm.frames) (hlocals : (rest.map fun v => v.category).sum + (nativeFrameWords "java/lang/System" "arraycopy" 5 + 11) ≤ Rm.locals) (hdg : decode cc pc = .ok (.invokestatic index, 3))
    (kk : ∀ (H1 : Heap) (locs1 : List Loc), sW sg tk D dA cl A H0 (kd, rf, upr it a (va_cpy (it a0) (it a) sp.toNatClampNeg dp.toNatClampNeg n.toNatClampNeg), lg) H1 locs1 → W p l e Rm s m args below meth c H1 locs1 cells slots Q (F0 m (pc + 3) ls rest)) : W p l e Rm s m args below meth c H locs cells slots Q (F0 m pc ls (.int n :: .int dp :: .ref a :: .int sp :: .ref a0 :: rest)) := by
  obtain ⟨hAll, ws, hG, hP, hD, hS⟩ := hM
  obtain ⟨q0, hq0⟩ := (hG a0 _).mp (sMk_ki ha0 htk)
  obtain ⟨q1, hq1⟩ := (hG a _).mp (sMk_ki ha1 htk)
  refine va_copyi hexec hb hml hown hlink hnat hstat hini hK hP hD hS q0 q1 t t hq0 hq1 ht ht rfl h1 h2 h3 h4 h5 (fun i hi => rfl) hframes hlocals hdg fun H1 locs1 hP1 hD1 hS1 => ?_
  exact kk H1 locs1 ⟨hAll, _, by rw [sMk_row _ ha1 htk]; exact sG_set hG hD hq1, hP1, hD1, hS1⟩
end SCPY
/-- a new cell and its contents -/
theorem upr_upr {α : Type} (f : Nat → Nat → α) (a : Nat) (r r2 : Nat → α) : upr (upr f a r) a r2 = upr f a r2 := by
  funext b
  by_cases h : b = a <;> simp [upr, h]
theorem sk_ne {kd : Nat → Option sK} {a q : Nat} {k : sK} (ha : kd a = some k) (hq : kd q = none) : a ≠ q := fun z => by
  rw [z, hq] at ha
  cases ha
theorem cV_mono {l : Launch} {y : MethodName} {b : ByteArray} {n : Nat} {rm : Room} {D : va_G} {dA : Nat → ClassId} {S : sS} {sz : Nat} {av : List Value} {post post' : sS → Prop} {mc ms : Nat} (h : cV l y b n rm D dA S sz av post mc ms) (hp : ∀ u, post u → post' u) : cV l y b n rm D dA S sz av post' mc ms :=
  MetFree.mono h (fun _ _ h => h) (fun _ _ _ _ _ h => h) (fun a s o t _ q => by
    obtain ⟨⟨⟨u, h1, h2, h3⟩, h4⟩, h5⟩ := q
    exact ⟨⟨⟨u, h1, hp u h2, h3⟩, h4⟩, h5⟩)
theorem cI_mono {l : Launch} {y : MethodName} {b : ByteArray} {n : Nat} {r : Option FieldType} {rm : Room} {D : va_G} {dA : Nat → ClassId} {S : sS} {sz : Nat} {av : List Value} {post post' : Int32 → sS → Prop} {mc ms : Nat} (h : cI l y b n r rm D dA S sz av post mc ms) (hp : ∀ x u, post x u → post' x u) : cI l y b n r rm D dA S sz av post' mc ms :=
  MetFree.mono h (fun _ _ h => h) (fun _ _ _ _ _ h => h) (fun a s o t _ q => by
    obtain ⟨⟨⟨x, u, h1, h2, h3⟩, h4⟩, h5⟩ := q
    exact ⟨⟨⟨x, u, h1, hp x u h2, h3⟩, h4⟩, h5⟩)
theorem cQ_mono {l : Launch} {y : MethodName} {b : ByteArray} {n : Nat} {r : Option FieldType} {rm : Room} {D : va_G} {dA : Nat → ClassId} {S : sS} {sz : Nat} {av : List Value} {post post' : Option Nat → sS → Prop} {mc ms : Nat} (h : cQ l y b n r rm D dA S sz av post mc ms) (hp : ∀ x u, post x u → post' x u) : cQ l y b n r rm D dA S sz av post' mc ms :=
  MetFree.mono h (fun _ _ h => h) (fun _ _ _ _ _ h => h) (fun a s o t _ q => by
    obtain ⟨⟨⟨x, u, h1, h2, h3⟩, h4⟩, h5⟩ := q
    exact ⟨⟨⟨x, u, h1, hp x u h2, h3⟩, h4⟩, h5⟩)
end
section
theorem df_H : ∀ j, j < 7 → defaultValue (ft_H j) = vp_V (sFs (sg 0) (fun _ => none) (fun _ => 0)) j := by decide +kernel
theorem df_T : ∀ j, j < 1 → defaultValue (ft_T j) = vp_V (sFs (sg 1) (fun _ => none) (fun _ => 0)) j := by decide +kernel
theorem df_P : ∀ j, j < 1 → defaultValue (ft_P j) = vp_V (sFs (sg 2) (fun _ => none) (fun _ => 0)) j := by decide +kernel
theorem df_N : ∀ j, j < 9 → defaultValue (ft_N j) = vp_V (sFs (sg 3) (fun _ => none) (fun _ => 0)) j := by decide +kernel
theorem df_K : ∀ j, j < 6 → defaultValue (ft_K j) = vp_V (sFs (sg 4) (fun _ => none) (fun _ => 0)) j := by decide +kernel
theorem df_U : ∀ j, j < 2 → defaultValue (ft_U j) = vp_V (sFs (sg 5) (fun _ => none) (fun _ => 0)) j := by decide +kernel
theorem df_F : ∀ j, j < 1 → defaultValue (ft_F j) = vp_V (sFs (sg 6) (fun _ => none) (fun _ => 0)) j := by decide +kernel
theorem df_M : ∀ j, j < 13 → defaultValue (ft_M j) = vp_V (sFs (sg 7) (fun _ => none) (fun _ => 0)) j := by decide +kernel
end
section
set_option maxHeartbeats 4000000 in
set_option maxRecDepth 100000 in
theorem m_U_isIndex (l : Launch) (D : va_G) (dA : Nat → ClassId) (S : sS) (sz : Nat) (a r cap n : Nat) (f : Nat → Nat) (k : Int32) (h : Nm S a r cap n f) :
    cI l y_U_isIndex c_U_isIndex 2 (some .boolean) (rmk 0 0 0) D dA S sz [.ref a, .int k] (fun x u => u = S ∧ ((x = 1 ∧ vp_in k n) ∨ (x = 0 ∧ ¬ vp_in k n))) (0) (0) := by
  obtain ⟨kd, rf, it, lg⟩ := S
  obtain ⟨ka, hrow, kr, hn, hle, h16, hcap, hf⟩ := h
  dsimp only at ka hrow kr hn hf
  refine s_met (cc := c_U_isIndex) (maxL := 2) (by decide) rfl (by simp [Value.category]) (by simp [lg_sl, Value.category]) ?_
  intro p e s m args below meth c ls hx hb hr hts hown hlocks hin hml hK hX hsz hM hl
  have hg := gd_hts hts
  have hl : lc ls 2 [some (va_rf (some a)), some (.int k)] := hl
  refine q_iload_n (i := 1) hx hb d_U_isIndex_0 rfl hl rfl ?_
  refine lv_if_lt (tgt := 25) hx hb d_U_isIndex_1 (by decide) (fun c1 => ?_) (fun c1 => ?_)
  · refine lv_iconst (v := 0) hx hb d_U_isIndex_25 (by decide) ?_
    exact s_zret hx hb hr rfl hM ⟨rfl, Or.inr ⟨rfl, fun q => q (Or.inl c1)⟩⟩ d_U_isIndex_26 hlocks
  · refine q_iload_n (i := 1) hx hb d_U_isIndex_4 rfl hl rfl ?_
    refine q_al_n (i := 0) hx hb d_U_isIndex_5 rfl hl rfl ?_
    refine s_geti (C := R_U) (T := F_U) (N := 2) (ci := 5) hx hb hg in_U hown hK hM (by assumption) rfl 1 (by decide) rfl (hg _ kw_44) (fun _ h9 => h9) d_U_isIndex_6 ?_
    rw [hn]
    refine lv_icmp_ge (tgt := 25) hx hb d_U_isIndex_9 (by decide) (fun c2 => ?_) (fun c2 => ?_)
    · refine lv_iconst (v := 0) hx hb d_U_isIndex_25 (by decide) ?_
      exact s_zret hx hb hr rfl hM ⟨rfl, Or.inr ⟨rfl, vi_ge c2 (by omega)⟩⟩ d_U_isIndex_26 hlocks
    · refine q_iload_n (i := 1) hx hb d_U_isIndex_12 rfl hl rfl ?_
      refine q_al_n (i := 0) hx hb d_U_isIndex_13 rfl hl rfl ?_
      refine s_getr (C := R_U) (T := F_U) (N := 2) (ci := 5) hx hb hg in_U hown hK hM (by assumption) rfl 0 (by decide) rfl (hg _ kw_43) (fun _ h9 => h9) d_U_isIndex_14 ?_
      rw [hrow]
      refine s_len (ty := .int) hx hb hK hM kr rfl d_U_isIndex_17 ?_
      refine lv_icmp_ge (tgt := 25) hx hb d_U_isIndex_18 (by decide) (fun c3 => ?_) (fun c3 => ?_)
      · exact absurd (vi_le (vi_of c1 c2 (by omega)) hle (by omega)) (vi_ge c3 (by omega))
      · refine lv_iconst (v := 1) hx hb d_U_isIndex_21 (by decide) ?_
        refine lv_goto (tgt := 26) hx hb d_U_isIndex_22 (by decide) ?_
        exact s_zret hx hb hr rfl hM ⟨rfl, Or.inl ⟨rfl, vi_of c1 c2 (by omega)⟩⟩ d_U_isIndex_26 hlocks
set_option maxHeartbeats 4000000 in
set_option maxRecDepth 100000 in
theorem m_U_at (l : Launch) (D : va_G) (dA : Nat → ClassId) (S : sS) (sz : Nat) (a r cap n : Nat) (f : Nat → Nat) (k : Int32) (h : Nm S a r cap n f) :
    cI l y_U_at c_U_at 2 (some .int) (rmk 1 0 0) D dA S sz [.ref a, .int k] (fun x u => u = S ∧ ((vp_in k n ∧ x = nI (f k.toNatClampNeg)) ∨ (¬ vp_in k n ∧ x = -1))) (0) (0) := by
  obtain ⟨kd, rf, it, lg⟩ := S
  obtain ⟨ka, hrow, kr, hn, hle, h16, hcap, hf⟩ := h
  dsimp only at ka hrow kr hn hf
  refine s_met (cc := c_U_at) (maxL := 2) (by decide) rfl (by simp [Value.category]) (by simp [lg_sl, Value.category]) ?_
  intro p e s m args below meth c ls hx hb hr hts hown hlocks hin hml hK hX hsz hM hl
  have hg := gd_hts hts
  have hl : lc ls 2 [some (va_rf (some a)), some (.int k)] := hl
  refine q_al_n (i := 0) hx hb d_U_at_0 rfl hl rfl ?_
  refine q_iload_n (i := 1) hx hb d_U_at_1 rfl hl rfl ?_
  refine s_calli (r_V 1 [.int k] rfl hx hb hml hown hg (m_U_isIndex l D dA _ _ a r cap n f k ⟨ka, hrow, kr, hn, hle, h16, hcap, hf⟩) (hM.pre hK hX) (hM.recv hK ka (q := cls.getD 5 (R_H, F_H, 7)) rfl) kw_103 kw_105 ks_1 kw_3 kw_106 (by decide +kernel) ⟨Nat.le_of_ble_eq_true rfl, Nat.le_of_ble_eq_true rfl⟩ rfl rfl hl.sz (by simp [rf_cat, Value.category]) d_U_at_2 ⟨Nat.le_refl _, Nat.le_refl _⟩ rfl) hM (fun r1 u H locs hp hM => ?_)
  obtain ⟨rfl, hp⟩ := hp
  refine lv_if_eq (tgt := 17) hx hb d_U_at_5 (by decide) (fun c1 => ?_) (fun c1 => ?_)
  · refine lv_iconst (v := -1) hx hb d_U_at_17 (by decide) ?_
    rcases hp with ⟨e1, -⟩ | ⟨-, hv⟩
    · rw [e1] at c1; exact absurd c1 (by decide)
    · exact s_iret hx hb hr hM ⟨rfl, Or.inr ⟨hv, rfl⟩⟩ d_U_at_18 hlocks
  · rcases hp with ⟨-, hv⟩ | ⟨e1, -⟩
    · refine q_al_n (i := 0) hx hb d_U_at_8 rfl hl rfl ?_
      refine s_getr (C := R_U) (T := F_U) (N := 2) (ci := 5) hx hb hg in_U hown hK hM (by assumption) rfl 0 (by decide) rfl (hg _ kw_43) (fun _ h9 => h9) d_U_at_9 ?_
      rw [hrow]
      refine q_iload_n (i := 1) hx hb d_U_at_12 rfl hl rfl ?_
      refine s_ild (t := 0) hx hb hK hM kr rfl rfl (vi_le hv hle (by omega)) d_U_at_13 ?_
      refine lv_goto (tgt := 18) hx hb d_U_at_14 (by decide) ?_
      obtain ⟨j, hj, ej⟩ := vp_in_of hv (by omega)
      have ek : k.toNatClampNeg = j := by rw [ej]; exact nI_clamp (by omega)
      exact s_iret hx hb hr hM ⟨rfl, Or.inl ⟨hv, by rw [ek]; exact hf j hj⟩⟩ d_U_at_18 hlocks
    · exact absurd e1 c1
set_option maxHeartbeats 4000000 in
set_option maxRecDepth 100000 in
theorem m_U_set (l : Launch) (D : va_G) (dA : Nat → ClassId) (S : sS) (sz : Nat) (a r cap n : Nat) (f : Nat → Nat) (k x : Int32) (h : Nm S a r cap n f) :
    cV l y_U_set c_U_set 3 (rmk 1 0 0) D dA S sz [.ref a, .int k, .int x] (fun u => (vp_in k n ∧ u = (S.1, S.2.1, up2 S.2.2.1 r k.toNatClampNeg x, S.2.2.2)) ∨ (¬ vp_in k n ∧ u = S)) (0) (0) := by
  obtain ⟨kd, rf, it, lg⟩ := S
  obtain ⟨ka, hrow, kr, hn, hle, h16, hcap, hf⟩ := h
  dsimp only at ka hrow kr hn hf
  refine s_met (cc := c_U_set) (maxL := 3) (by decide) rfl (by simp [Value.category]) (by simp [lg_sl, Value.category]) ?_
  intro p e s m args below meth c ls hx hb hr hts hown hlocks hin hml hK hX hsz hM hl
  have hg := gd_hts hts
  have hl : lc ls 3 [some (va_rf (some a)), some (.int k), some (.int x)] := hl
  refine q_al_n (i := 0) hx hb d_U_set_0 rfl hl rfl ?_
  refine q_iload_n (i := 1) hx hb d_U_set_1 rfl hl rfl ?_
  refine s_calli (r_V 1 [.int k] rfl hx hb hml hown hg (m_U_isIndex l D dA _ _ a r cap n f k ⟨ka, hrow, kr, hn, hle, h16, hcap, hf⟩) (hM.pre hK hX) (hM.recv hK ka (q := cls.getD 5 (R_H, F_H, 7)) rfl) kw_103 kw_105 ks_1 kw_3 kw_106 (by decide +kernel) ⟨Nat.le_of_ble_eq_true rfl, Nat.le_of_ble_eq_true rfl⟩ rfl rfl hl.sz (by simp [rf_cat, Value.category]) d_U_set_2 ⟨Nat.le_refl _, Nat.le_refl _⟩ rfl) hM (fun r1 u H locs hp hM => ?_)
  obtain ⟨rfl, hp⟩ := hp
  refine lv_if_eq (tgt := 15) hx hb d_U_set_5 (by decide) (fun c1 => ?_) (fun c1 => ?_)
  · rcases hp with ⟨e1, -⟩ | ⟨-, hv⟩
    · rw [e1] at c1; exact absurd c1 (by decide)
    · exact s_vret hx hb hr hM (Or.inr ⟨hv, rfl⟩) d_U_set_15 hlocks
  · rcases hp with ⟨-, hv⟩ | ⟨e1, -⟩
    · refine q_al_n (i := 0) hx hb d_U_set_8 rfl hl rfl ?_
      refine s_getr (C := R_U) (T := F_U) (N := 2) (ci := 5) hx hb hg in_U hown hK hM (by assumption) rfl 0 (by decide) rfl (hg _ kw_43) (fun _ h9 => h9) d_U_set_9 ?_
      rw [hrow]
      refine q_iload_n (i := 1) hx hb d_U_set_12 rfl hl rfl ?_
      refine q_iload_n (i := 2) hx hb d_U_set_13 rfl hl rfl ?_
      refine s_ist (t := 0) hx hb hK hM kr rfl rfl (vi_le hv hle (by omega)) d_U_set_14 (fun H locs hM => ?_)
      exact s_vret hx hb hr hM (Or.inl ⟨hv, rfl⟩) d_U_set_15 hlocks
    · exact absurd e1 c1
set_option maxHeartbeats 4000000 in
set_option maxRecDepth 100000 in
theorem m_U_empty (l : Launch) (D : va_G) (dA : Nat → ClassId) (S : sS) (sz : Nat) (a : Nat) (h : S.1 a = some (.inl 5)) :
    cV l y_U_empty c_U_empty 1 (rmk 0 0 0) D dA S sz [.ref a] (fun u => u = (S.1, S.2.1, up2 S.2.2.1 a 1 0, S.2.2.2)) (0) (0) := by
  obtain ⟨kd, rf, it, lg⟩ := S
  have ka : kd a = some (.inl 5) := h
  refine s_met (cc := c_U_empty) (maxL := 1) (by decide) rfl (by simp [Value.category]) (by simp [lg_sl, Value.category]) ?_
  intro p e s m args below meth c ls hx hb hr hts hown hlocks hin hml hK hX hsz hM hl
  have hg := gd_hts hts
  have hl : lc ls 1 [some (va_rf (some a))] := hl
  refine q_al_n (i := 0) hx hb d_U_empty_0 rfl hl rfl ?_
  refine lv_iconst (v := 0) hx hb d_U_empty_1 (by decide) ?_
  refine s_puti (C := R_U) (T := F_U) (N := 2) (ci := 5) hx hb hg in_U ft_U ft_U_ok fn_U hown hK hM (by assumption) rfl 1 (by decide) rfl (hg _ kw_44) (fun _ h9 => h9) rfl rfl rfl d_U_empty_2 (fun H locs hM => ?_)
  exact s_vret hx hb hr hM rfl d_U_empty_5 hlocks
set_option maxHeartbeats 4000000 in
set_option maxRecDepth 100000 in
theorem m_U_takeLast (l : Launch) (D : va_G) (dA : Nat → ClassId) (S : sS) (sz : Nat) (a r cap n : Nat) (f : Nat → Nat) (h : Nm S a r cap n f) (h0 : 0 < n) :
    cI l y_U_takeLast c_U_takeLast 2 (some .int) (rmk 2 0 0) D dA S sz [.ref a] (fun x u => x = nI (f (n - 1)) ∧ u = (S.1, S.2.1, up2 S.2.2.1 a 1 (nI (n - 1)), S.2.2.2)) (0) (0) := by
  obtain ⟨kd, rf, it, lg⟩ := S
  obtain ⟨ka, hrow, kr, hn, hle, h16, hcap, hf⟩ := h
  dsimp only at ka hrow kr hn hf
  refine s_met (cc := c_U_takeLast) (maxL := 2) (by decide) rfl (by simp [Value.category]) (by simp [lg_sl, Value.category]) ?_
  intro p e s m args below meth c ls hx hb hr hts hown hlocks hin hml hK hX hsz hM hl
  have hg := gd_hts hts
  have hl : lc ls 2 [some (va_rf (some a)), none] := hl
  refine q_al_n (i := 0) hx hb d_U_takeLast_0 rfl hl rfl ?_
  refine q_al_n (i := 0) hx hb d_U_takeLast_1 rfl hl rfl ?_
  refine s_geti (C := R_U) (T := F_U) (N := 2) (ci := 5) hx hb hg in_U hown hK hM (by assumption) rfl 1 (by decide) rfl (hg _ kw_44) (fun _ h9 => h9) d_U_takeLast_2 ?_
  rw [hn]
  refine lv_iconst (v := 1) hx hb d_U_takeLast_5 (by decide) ?_
  refine lv_isub hx hb d_U_takeLast_6 ?_
  refine s_calli (r_V 1 [.int (nI n - 1)] rfl hx hb hml hown hg (m_U_at l D dA _ _ a r cap n f (nI n - 1) ⟨ka, hrow, kr, hn, hle, h16, hcap, hf⟩) (hM.pre hK hX) (hM.recv hK ka (q := cls.getD 5 (R_H, F_H, 7)) rfl) kw_226 kw_100 kw_101 kw_3 kw_102 (by decide +kernel) ⟨Nat.le_of_ble_eq_true rfl, Nat.le_of_ble_eq_true rfl⟩ rfl rfl hl.sz (by simp [rf_cat, Value.category]) d_U_takeLast_7 ⟨Nat.le_refl _, Nat.le_refl _⟩ rfl) hM (fun r1 u H locs hp hM => ?_)
  obtain ⟨rfl, hp⟩ := hp
  have e0 : nI n - 1 = nI (n - 1) := by obtain ⟨j, rfl⟩ : ∃ j, n = j + 1 := ⟨n - 1, by omega⟩; exact nI_pred j
  have hr1 : r1 = nI (f (n - 1)) := by
    rcases hp with ⟨-, e1⟩ | ⟨hv, -⟩
    · rw [e1, e0, nI_clamp (by omega)]
    · exact absurd (by rw [e0]; exact vp_in_nI (by omega) (by omega)) hv
  subst hr1
  refine q_istore_n (i := 1) hx hb d_U_takeLast_10 rfl hl (by decide) (fun ls hl => ?_)
  simp only [List.set_cons_succ, List.set_cons_zero] at hl
  refine q_al_n (i := 0) hx hb d_U_takeLast_11 rfl hl rfl ?_
  refine s_geti (C := R_U) (T := F_U) (N := 2) (ci := 5) hx hb hg in_U hown hK hM (by assumption) rfl 1 (by decide) rfl (hg _ kw_44) (fun _ h9 => h9) d_U_takeLast_12 ?_
  rw [hn]
  refine lv_if_le (tgt := 28) hx hb d_U_takeLast_15 (by decide) (fun c1 => ?_) (fun c1 => ?_)
  · exact absurd c1 (nI_nle h0 (by omega))
  · refine q_al_n (i := 0) hx hb d_U_takeLast_18 rfl hl rfl ?_
    refine lv_dup hx hb d_U_takeLast_19 rfl ?_
    refine s_geti (C := R_U) (T := F_U) (N := 2) (ci := 5) hx hb hg in_U hown hK hM (by assumption) rfl 1 (by decide) rfl (hg _ kw_44) (fun _ h9 => h9) d_U_takeLast_20 ?_
    rw [hn]
    refine lv_iconst (v := 1) hx hb d_U_takeLast_23 (by decide) ?_
    refine lv_isub hx hb d_U_takeLast_24 ?_
    rw [e0]
    refine s_puti (C := R_U) (T := F_U) (N := 2) (ci := 5) hx hb hg in_U ft_U ft_U_ok fn_U hown hK hM (by assumption) rfl 1 (by decide) rfl (hg _ kw_44) (fun _ h9 => h9) rfl rfl rfl d_U_takeLast_25 (fun H locs hM => ?_)
    refine q_iload_n (i := 1) hx hb d_U_takeLast_28 rfl hl rfl ?_
    exact s_iret hx hb hr hM ⟨rfl, rfl⟩ d_U_takeLast_29 hlocks
end
section
theorem d_A_copyOf_0 : decode c_A_copyOf 0 = .ok (.iload_n 1, 1) := by decide +kernel
theorem d_A_copyOf_1 : decode c_A_copyOf 1 = .ok (.aload_n 0, 1) := by decide +kernel
theorem d_A_copyOf_2 : decode c_A_copyOf 2 = .ok (.arraylength, 1) := by decide +kernel
theorem d_A_copyOf_3 : decode c_A_copyOf 3 = .ok (.if_icmp .ne 11, 3) := by decide +kernel
theorem d_A_copyOf_6 : decode c_A_copyOf 6 = .ok (.aload_n 0, 1) := by decide +kernel
theorem d_A_copyOf_7 : decode c_A_copyOf 7 = .ok (.invokevirtual 316, 3) := by decide +kernel
theorem d_A_copyOf_10 : decode c_A_copyOf 10 = .ok (.checkcast 317, 3) := by decide +kernel
theorem d_A_copyOf_13 : decode c_A_copyOf 13 = .ok (.areturn, 1) := by decide +kernel
theorem d_A_copyOf_14 : decode c_A_copyOf 14 = .ok (.iload_n 1, 1) := by decide +kernel
theorem d_A_copyOf_15 : decode c_A_copyOf 15 = .ok (.newarray .int, 2) := by decide +kernel
theorem d_A_copyOf_17 : decode c_A_copyOf 17 = .ok (.astore_n 2, 1) := by decide +kernel
theorem d_A_copyOf_18 : decode c_A_copyOf 18 = .ok (.aload_n 0, 1) := by decide +kernel
theorem d_A_copyOf_19 : decode c_A_copyOf 19 = .ok (.iconst 0, 1) := by decide +kernel
theorem d_A_copyOf_20 : decode c_A_copyOf 20 = .ok (.aload_n 2, 1) := by decide +kernel
theorem d_A_copyOf_21 : decode c_A_copyOf 21 = .ok (.iconst 0, 1) := by decide +kernel
theorem d_A_copyOf_22 : decode c_A_copyOf 22 = .ok (.aload_n 0, 1) := by decide +kernel
theorem d_A_copyOf_23 : decode c_A_copyOf 23 = .ok (.arraylength, 1) := by decide +kernel
theorem d_A_copyOf_24 : decode c_A_copyOf 24 = .ok (.iload_n 1, 1) := by decide +kernel
theorem d_A_copyOf_25 : decode c_A_copyOf 25 = .ok (.invokestatic 304, 3) := by decide +kernel
theorem d_A_copyOf_28 : decode c_A_copyOf 28 = .ok (.invokestatic 150, 3) := by decide +kernel
theorem d_A_copyOf_31 : decode c_A_copyOf 31 = .ok (.aload_n 2, 1) := by decide +kernel
theorem d_A_copyOf_32 : decode c_A_copyOf 32 = .ok (.areturn, 1) := by decide +kernel
set_option maxHeartbeats 4000000 in
set_option maxRecDepth 100000 in
theorem m_A_copyOf (l : Launch) (D : va_G) (dA : Nat → ClassId) (S : sS) (sz : Nat) (r cap k : Nat) (kr : S.1 r = some (.inr (0, cap))) (hk : cap < k) (hk2 : k ≤ 32768) :
    cQ l y_A_copyOf c_A_copyOf 3 (some (.array .int)) (rmk 1 1 k) D dA S sz [.ref r, .int (nI k)] (fun x u => ∃ q, x = some q ∧ S.1 q = none ∧ u = (va_up S.1 q (some (.inr (0, k))), upr S.2.1 q (fun _ => none), upr S.2.2.1 q (va_cpy (S.2.2.1 r) (fun _ => 0) 0 0 cap), upr S.2.2.2 q (fun _ => 0))) 1 k := by
  obtain ⟨kd, rf, it, lg⟩ := S
  dsimp only at kr
  refine s_met (cc := c_A_copyOf) (maxL := 3) (by decide) rfl (by simp [Value.category]) (by simp [lg_sl, Value.category]) ?_
  intro p e s m args below meth c ls hx hb hr hts hown hlocks hin hml hK hX hsz hM hl
  have hg := gd_hts hts
  have hl : lc ls 3 [some (va_rf (some r)), some (.int (nI k)), none] := hl
  refine q_iload_n (i := 1) hx hb d_A_copyOf_0 rfl hl rfl ?_
  refine q_al_n (i := 0) hx hb d_A_copyOf_1 rfl hl rfl ?_
  refine s_len (ty := .int) hx hb hK hM kr rfl d_A_copyOf_2 ?_
  refine n_ne (tgt := 14) hx hb d_A_copyOf_3 (by decide) (by omega) (by omega) (fun c1 => ?_) (fun c1 => ?_)
  · refine q_iload_n (i := 1) hx hb d_A_copyOf_14 rfl hl rfl ?_
    refine s_newi (t := 0) (ty := .int) (atype := .int) hx hb (hg _ kw_52) rfl rfl (fun _ h => h) hK rfl rfl hM (nI_pos (by omega)) (nI_clamp (by omega)) (by show k * 4 ≤ _; omega) (by show 0 + 1 ≤ 1; omega) (by show 0 + k ≤ k; omega) d_A_copyOf_15 (fun q H hq hM => ?_)
    refine q_astore_n (i := 2) hx hb (some q) d_A_copyOf_17 rfl hl (by decide) (fun ls hl => ?_)
    simp only [List.set_cons_succ, List.set_cons_zero] at hl
    have hqr : r ≠ q := sk_ne (kd := kd) kr hq
    have kr2 : va_up kd q (some (.inr (0, k))) r = some (.inr (0, cap)) := by rw [va_up_ne _ _ hqr]; exact kr
    have kq2 : va_up kd q (some (.inr (0, k))) q = some (.inr (0, k)) := va_up_self _ _ _
    refine q_al_n (i := 0) hx hb d_A_copyOf_18 rfl hl rfl ?_
    refine lv_iconst (v := 0) hx hb d_A_copyOf_19 (by decide) ?_
    refine q_al_n (i := 2) hx hb d_A_copyOf_20 rfl hl rfl ?_
    refine lv_iconst (v := 0) hx hb d_A_copyOf_21 (by decide) ?_
    refine q_al_n (i := 0) hx hb d_A_copyOf_22 rfl hl rfl ?_
    refine s_len (ty := .int) (t := 0) (n := cap) hx hb hK hM kr2 rfl d_A_copyOf_23 ?_
    refine q_iload_n (i := 1) hx hb d_A_copyOf_24 rfl hl rfl ?_
    refine va_mmin hx hb (by rw [hml]; exact hl.sz.symm) hown (hg _ kw_183) (hg _ kw_184) (hg _ kw_15) (hg _ kw_185) (Nat.le_of_ble_eq_true rfl) (Nat.le_of_ble_eq_true rfl) (by show 0 + 1 ≤ 1; omega) (by show 0 + k ≤ k; omega) d_A_copyOf_25 ?_
    rw [if_neg (show ¬ nI k < nI cap from nI_nlt (by omega) (by omega))]
    refine s_cpy (t := 0) (n0 := cap) (n1 := k) hx hb (by rw [hml]; exact hl.sz.symm) hown (hg _ kw_186) (hg _ kw_188) (hg _ kw_187) (hg _ kw_16) hK hM kr2 kq2 rfl rfl (by decide) (by decide) (nI_pos (by omega)) (by rw [nI_clamp (by omega)]; show 0 + cap ≤ cap; omega) (by rw [nI_clamp (by omega)]; show 0 + cap ≤ k; omega) (Nat.le_of_ble_eq_true rfl) (by show _ ≤ 66; decide +kernel) d_A_copyOf_28 (fun H locs hM => ?_)
    refine q_al_n (i := 2) hx hb d_A_copyOf_31 rfl hl rfl ?_
    have e1 : upr (upr it q (fun _ => 0)) q (va_cpy (upr it q (fun _ => 0) r) (upr it q (fun _ => 0) q) (0 : Int32).toNatClampNeg (0 : Int32).toNatClampNeg (nI cap).toNatClampNeg) = upr it q (va_cpy (it r) (fun _ => 0) 0 0 cap) := by
      rw [upr_upr, upr_self, upr_off _ _ hqr, nI_clamp (by omega)]
      rfl
    have hM : sW sg tk D dA cls (sA (kd, rf, it, lg) sz) s.heap (va_up kd q (some (.inr (0, k))), upr rf q (fun _ => none), upr it q (va_cpy (it r) (fun _ => 0) 0 0 cap), upr lg q (fun _ => 0)) H locs := by rw [← e1]; exact hM
    refine W.widen (k := 1) (n := k) (by omega) (by omega) ?_
    exact s_qret (some q) hx hb hr (Or.inr ⟨_, rfl⟩) hM ⟨q, rfl, hq, rfl⟩ d_A_copyOf_32 hlocks
  · omega
end
section
set_option maxHeartbeats 4000000 in
set_option maxRecDepth 100000 in
theorem m_U_add0 (l : Launch) (D : va_G) (dA : Nat → ClassId) (S : sS) (sz : Nat) (a r cap n : Nat) (f : Nat → Nat) (x : Nat) (h : Nm S a r cap n f) (hlt : n < 16384) (hc : n < cap) :
    cV l y_U_add c_U_add 2 (rmk 2 0 0) D dA S sz [.ref a, .int (nI x)] (fun u => u = (S.1, S.2.1, up2 (up2 S.2.2.1 r n (nI x)) a 1 (nI (n + 1)), S.2.2.2)) (0) (0) := by
  obtain ⟨kd, rf, it, lg⟩ := S
  obtain ⟨ka, hrow, kr, hn, hle, h16, hcap, hf⟩ := h
  dsimp only at ka hrow kr hn hf
  have har : a ≠ r := fun z => by rw [z, kr] at ka; cases ka
  have e1 : up2 it r n (nI x) a 1 = nI n := by rw [up2_off _ _ har]; exact hn
  refine s_met (cc := c_U_add) (maxL := 2) (by decide) rfl (by simp [Value.category]) (by simp [lg_sl, Value.category]) ?_
  intro p e s m args below meth c ls hx hb hr hts hown hlocks hin hml hK hX hsz hM hl
  have hg := gd_hts hts
  have hl : lc ls 2 [some (va_rf (some a)), some (.int (nI x))] := hl
  refine q_al_n (i := 0) hx hb d_U_add_0 rfl hl rfl ?_
  refine s_geti (C := R_U) (T := F_U) (N := 2) (ci := 5) hx hb hg in_U hown hK hM (by assumption) rfl 1 (by decide) rfl (hg _ kw_44) (fun _ h9 => h9) d_U_add_1 ?_
  rw [hn]
  refine lv_sipush (v := nI 16384) hx hb d_U_add_4 (by decide) ?_
  refine n_lt (tgt := 11) hx hb d_U_add_7 (by decide) (by omega) (by omega) (fun c1 => ?_) (fun c1 => ?_)
  · refine q_al_n (i := 0) hx hb d_U_add_11 rfl hl rfl ?_
    refine s_geti (C := R_U) (T := F_U) (N := 2) (ci := 5) hx hb hg in_U hown hK hM (by assumption) rfl 1 (by decide) rfl (hg _ kw_44) (fun _ h9 => h9) d_U_add_12 ?_
    rw [hn]
    refine q_al_n (i := 0) hx hb d_U_add_15 rfl hl rfl ?_
    refine s_getr (C := R_U) (T := F_U) (N := 2) (ci := 5) hx hb hg in_U hown hK hM (by assumption) rfl 0 (by decide) rfl (hg _ kw_43) (fun _ h9 => h9) d_U_add_16 ?_
    rw [hrow]
    refine s_len (ty := .int) hx hb hK hM kr rfl d_U_add_19 ?_
    refine n_lt (tgt := 40) hx hb d_U_add_20 (by decide) (by omega) (by omega) (fun c2 => ?_) (fun c2 => ?_)
    · refine q_al_n (i := 0) hx hb d_U_add_40 rfl hl rfl ?_
      refine s_getr (C := R_U) (T := F_U) (N := 2) (ci := 5) hx hb hg in_U hown hK hM (by assumption) rfl 0 (by decide) rfl (hg _ kw_43) (fun _ h9 => h9) d_U_add_41 ?_
      rw [hrow]
      refine q_al_n (i := 0) hx hb d_U_add_44 rfl hl rfl ?_
      refine s_geti (C := R_U) (T := F_U) (N := 2) (ci := 5) hx hb hg in_U hown hK hM (by assumption) rfl 1 (by decide) rfl (hg _ kw_44) (fun _ h9 => h9) d_U_add_45 ?_
      rw [hn]
      refine q_iload_n (i := 1) hx hb d_U_add_48 rfl hl rfl ?_
      refine s_ist (t := 0) hx hb hK hM kr rfl rfl (vp_in_nI hc (by omega)) d_U_add_49 (fun H locs hM => ?_)
      rw [nI_clamp (by omega)] at hM
      refine q_al_n (i := 0) hx hb d_U_add_50 rfl hl rfl ?_
      refine lv_dup hx hb d_U_add_51 rfl ?_
      refine s_geti (C := R_U) (T := F_U) (N := 2) (ci := 5) hx hb hg in_U hown hK hM (by assumption) rfl 1 (by decide) rfl (hg _ kw_44) (fun _ h9 => h9) d_U_add_52 ?_
      rw [e1]
      refine lv_iconst (v := 1) hx hb d_U_add_55 (by decide) ?_
      refine lv_iadd hx hb d_U_add_56 ?_
      rw [nI_1]
      refine s_puti (C := R_U) (T := F_U) (N := 2) (ci := 5) hx hb hg in_U ft_U ft_U_ok fn_U hown hK hM (by assumption) rfl 1 (by decide) rfl (hg _ kw_44) (fun _ h9 => h9) rfl rfl rfl d_U_add_57 (fun H locs hM => ?_)
      exact s_vret hx hb hr hM rfl d_U_add_60 hlocks
    · omega
  · omega
set_option maxHeartbeats 4000000 in
set_option maxRecDepth 100000 in
theorem m_U_add1 (l : Launch) (D : va_G) (dA : Nat → ClassId) (S : sS) (sz : Nat) (a r cap n : Nat) (f : Nat → Nat) (x : Nat) (h : Nm S a r cap n f) (hlt : n < 16384) (hc : n = cap) :
    cV l y_U_add c_U_add 2 (rmk 2 1 (2 * n)) D dA S sz [.ref a, .int (nI x)] (fun u => ∃ q, S.1 q = none ∧ u = (va_up S.1 q (some (.inr (0, 2 * n))), up2 (upr S.2.1 q (fun _ => none)) a 0 (some q), up2 (up2 (upr S.2.2.1 q (va_cpy (S.2.2.1 r) (fun _ => 0) 0 0 cap)) q n (nI x)) a 1 (nI (n + 1)), upr S.2.2.2 q (fun _ => 0))) (1) (2 * n) := by
  obtain ⟨kd, rf, it, lg⟩ := S
  obtain ⟨ka, hrow, kr, hn, hle, h16, hcap, hf⟩ := h
  dsimp only at ka hrow kr hn hf
  refine s_met (cc := c_U_add) (maxL := 2) (by decide) rfl (by simp [Value.category]) (by simp [lg_sl, Value.category]) ?_
  intro p e s m args below meth c ls hx hb hr hts hown hlocks hin hml hK hX hsz hM hl
  have hg := gd_hts hts
  have hl : lc ls 2 [some (va_rf (some a)), some (.int (nI x))] := hl
  refine q_al_n (i := 0) hx hb d_U_add_0 rfl hl rfl ?_
  refine s_geti (C := R_U) (T := F_U) (N := 2) (ci := 5) hx hb hg in_U hown hK hM (by assumption) rfl 1 (by decide) rfl (hg _ kw_44) (fun _ h9 => h9) d_U_add_1 ?_
  rw [hn]
  refine lv_sipush (v := nI 16384) hx hb d_U_add_4 (by decide) ?_
  refine n_lt (tgt := 11) hx hb d_U_add_7 (by decide) (by omega) (by omega) (fun c1 => ?_) (fun c1 => ?_)
  · refine q_al_n (i := 0) hx hb d_U_add_11 rfl hl rfl ?_
    refine s_geti (C := R_U) (T := F_U) (N := 2) (ci := 5) hx hb hg in_U hown hK hM (by assumption) rfl 1 (by decide) rfl (hg _ kw_44) (fun _ h9 => h9) d_U_add_12 ?_
    rw [hn]
    refine q_al_n (i := 0) hx hb d_U_add_15 rfl hl rfl ?_
    refine s_getr (C := R_U) (T := F_U) (N := 2) (ci := 5) hx hb hg in_U hown hK hM (by assumption) rfl 0 (by decide) rfl (hg _ kw_43) (fun _ h9 => h9) d_U_add_16 ?_
    rw [hrow]
    refine s_len (ty := .int) hx hb hK hM kr rfl d_U_add_19 ?_
    refine n_lt (tgt := 40) hx hb d_U_add_20 (by decide) (by omega) (by omega) (fun c2 => ?_) (fun c2 => ?_)
    · omega
    · refine q_al_n (i := 0) hx hb d_U_add_23 rfl hl rfl ?_
      refine q_al_n (i := 0) hx hb d_U_add_24 rfl hl rfl ?_
      refine s_getr (C := R_U) (T := F_U) (N := 2) (ci := 5) hx hb hg in_U hown hK hM (by assumption) rfl 0 (by decide) rfl (hg _ kw_43) (fun _ h9 => h9) d_U_add_25 ?_
      rw [hrow]
      refine lv_iconst (v := nI 2) hx hb d_U_add_28 (by decide) ?_
      refine q_al_n (i := 0) hx hb d_U_add_29 rfl hl rfl ?_
      refine s_geti (C := R_U) (T := F_U) (N := 2) (ci := 5) hx hb hg in_U hown hK hM (by assumption) rfl 1 (by decide) rfl (hg _ kw_44) (fun _ h9 => h9) d_U_add_30 ?_
      rw [hn]
      refine lv_imul hx hb d_U_add_33 ?_
      rw [pk_mul]
      refine s_callq (r_S 2 [.ref r, .int (nI (2 * n))] rfl hx hb hml hown hg (m_A_copyOf l D dA _ _ r cap (2 * n) kr (by omega) (by omega)) (hM.pre hK hX) kw_173 kw_174 kw_14 kw_175 (by decide +kernel) ⟨Nat.le_of_ble_eq_true rfl, Nat.le_of_ble_eq_true rfl⟩ rfl rfl hl.sz (by first | exact Nat.le_of_ble_eq_true rfl | simp [rf_cat] | simp [rf_cat, Value.category]) d_U_add_34 ⟨by show 0 + 1 ≤ 1; omega, by show 0 + 2 * n ≤ 2 * n; omega⟩ rfl) hM (fun r1 u H locs hp hM => ?_)
      obtain ⟨q, rfl, hq, rfl⟩ := hp
      dsimp only at hq hM
      have haq : a ≠ q := sk_ne ka hq
      have ka2 : va_up kd q (some (.inr (0, 2 * n))) a = some (.inl 5) := by rw [va_up_ne _ _ haq]; exact ka
      have kq2 : va_up kd q (some (.inr (0, 2 * n))) q = some (.inr (0, 2 * n)) := va_up_self _ _ _
      have e2 : upr it q (va_cpy (it r) (fun _ => 0) 0 0 cap) a 1 = nI n := by rw [upr_off _ _ haq]; exact hn
      have e3 : up2 (upr it q (va_cpy (it r) (fun _ => 0) 0 0 cap)) q n (nI x) a 1 = nI n := by rw [up2_off _ _ haq]; exact e2
      refine s_putr (C := R_U) (T := F_U) (N := 2) (ci := 5) hx hb hg in_U ft_U ft_U_ok fn_U hown hK hM ka2 rfl 0 (by decide) rfl (hg _ kw_43) (fun _ h9 => h9) rfl (some q) (rf_narrowA _ _) (rf_fitsA _ _) d_U_add_37 (fun H locs hM => ?_)
      refine q_al_n (i := 0) hx hb d_U_add_40 rfl hl rfl ?_
      refine s_getr (C := R_U) (T := F_U) (N := 2) (ci := 5) hx hb hg in_U hown hK hM ka2 rfl 0 (by decide) rfl (hg _ kw_43) (fun _ h9 => h9) d_U_add_41 ?_
      rw [up2_self]
      refine q_al_n (i := 0) hx hb d_U_add_44 rfl hl rfl ?_
      refine s_geti (C := R_U) (T := F_U) (N := 2) (ci := 5) hx hb hg in_U hown hK hM ka2 rfl 1 (by decide) rfl (hg _ kw_44) (fun _ h9 => h9) d_U_add_45 ?_
      rw [e2]
      refine q_iload_n (i := 1) hx hb d_U_add_48 rfl hl rfl ?_
      refine s_ist (t := 0) hx hb hK hM kq2 rfl rfl (vp_in_nI (by omega) (by omega)) d_U_add_49 (fun H locs hM => ?_)
      rw [nI_clamp (by omega)] at hM
      refine q_al_n (i := 0) hx hb d_U_add_50 rfl hl rfl ?_
      refine lv_dup hx hb d_U_add_51 rfl ?_
      refine s_geti (C := R_U) (T := F_U) (N := 2) (ci := 5) hx hb hg in_U hown hK hM ka2 rfl 1 (by decide) rfl (hg _ kw_44) (fun _ h9 => h9) d_U_add_52 ?_
      rw [e3]
      refine lv_iconst (v := 1) hx hb d_U_add_55 (by decide) ?_
      refine lv_iadd hx hb d_U_add_56 ?_
      rw [nI_1]
      refine s_puti (C := R_U) (T := F_U) (N := 2) (ci := 5) hx hb hg in_U ft_U ft_U_ok fn_U hown hK hM ka2 rfl 1 (by decide) rfl (hg _ kw_44) (fun _ h9 => h9) rfl rfl rfl d_U_add_57 (fun H locs hM => ?_)
      refine W.widen (k := 1) (n := 2 * n) (by omega) (by omega) ?_
      exact s_vret hx hb hr hM ⟨q, hq, rfl⟩ d_U_add_60 hlocks
  · omega
/-- what add does: x behind the others; the row may be a new one -/
def AddP (S : sS) (a r cap n : Nat) (f : Nat → Nat) (x : Nat) (u : sS) : Prop :=
  ∃ r' cap', Nm u a r' cap' (n + 1) (fun i => if i = n then x else f i) ∧ sFr S u (fun b => b = a ∨ b = r) ∧ (r' = r ∨ S.1 r' = none) ∧ cap' = (if n < cap then cap else 2 * n) ∧ (∀ b, S.1 b = none → u.1 b ≠ none → b = r') ∧ (∀ i, i ≠ 0 → u.2.1 a i = S.2.1 a i) ∧ ∀ i, i ≠ 1 → u.2.2.1 a i = S.2.2.1 a i
theorem m_U_add (l : Launch) (D : va_G) (dA : Nat → ClassId) (S : sS) (sz : Nat) (a r cap n : Nat) (f : Nat → Nat) (x : Nat) (h : Nm S a r cap n f) (hlt : n < 16384) :
    cV l y_U_add c_U_add 2 (rmk 2 (if n < cap then 0 else 1) (if n < cap then 0 else 2 * n)) D dA S sz [.ref a, .int (nI x)] (AddP S a r cap n f x) (if n < cap then 0 else 1) (if n < cap then 0 else 2 * n) := by
  have hh := h
  obtain ⟨ka, hrow, kr, hn, hle, h16, hcap, hf⟩ := hh
  have har : a ≠ r := fun z => by rw [z, kr] at ka; cases ka
  by_cases hc : n < cap
  · rw [if_pos hc, if_pos hc]
    refine cV_mono (m_U_add0 l D dA S sz a r cap n f x h hlt hc) ?_
    rintro u rfl
    refine ⟨r, cap, ⟨ka, hrow, kr, up2_self _ _ _ _, by omega, h16, hcap, fun i hi => ?_⟩, fun b hb => ⟨rfl, fun hP => ⟨rfl, ?_, rfl⟩⟩, Or.inl rfl, by rw [if_pos hc], fun b h1 h2 => absurd h1 h2, fun _ _ => rfl, fun i hi => ?_⟩
    · show up2 (up2 S.2.2.1 r n (nI x)) a 1 (nI (n + 1)) r i = nI (if i = n then x else f i)
      rw [up2_off _ _ (fun z => har z.symm)]
      by_cases e : i = n
      · subst e; rw [up2_self, if_pos rfl]
      · rw [if_neg e, up2_ne _ _ e]; exact hf i (by omega)
    · show up2 (up2 S.2.2.1 r n (nI x)) a 1 (nI (n + 1)) b = _
      rw [up2_off _ _ (fun z => hP (Or.inl z)), up2_off _ _ (fun z => hP (Or.inr z))]
    · show up2 (up2 S.2.2.1 r n (nI x)) a 1 (nI (n + 1)) a i = _
      rw [up2_ne _ _ hi, up2_off _ _ har]
  · rw [if_neg hc, if_neg hc]
    refine cV_mono (m_U_add1 l D dA S sz a r cap n f x h hlt (by omega)) ?_
    rintro u ⟨q, hq, rfl⟩
    have haq : a ≠ q := sk_ne ka hq
    have hrq : r ≠ q := sk_ne kr hq
    refine ⟨q, 2 * n, ⟨?_, up2_self _ _ _ _, va_up_self _ _ _, up2_self _ _ _ _, by omega, by omega, by omega, fun i hi => ?_⟩, fun b hb => ?_, Or.inr hq, by rw [if_neg hc], fun b h1 h2 => ?_, fun i hi => ?_, fun i hi => ?_⟩
    · show va_up S.1 q _ a = _
      rw [va_up_ne _ _ haq]; exact ka
    · show up2 (up2 (upr S.2.2.1 q (va_cpy (S.2.2.1 r) (fun _ => 0) 0 0 cap)) q n (nI x)) a 1 (nI (n + 1)) q i = nI (if i = n then x else f i)
      rw [up2_off _ _ (fun z => haq z.symm)]
      by_cases e : i = n
      · subst e; rw [up2_self, if_pos rfl]
      · rw [if_neg e, up2_ne _ _ e, upr_self, pk_cpy_in (Nat.zero_le _) (by omega)]
        rw [show 0 + (i - 0) = i by omega]; exact hf i (by omega)
    · have hbq : b ≠ q := fun z => hb (by rw [z]; exact hq)
      refine ⟨by show va_up S.1 q _ b = _; rw [va_up_ne _ _ hbq], fun hP => ⟨?_, ?_, ?_⟩⟩
      · show up2 (upr S.2.1 q (fun _ => none)) a 0 (some q) b = _
        rw [up2_off _ _ (fun z => hP (Or.inl z)), upr_off _ _ hbq]
      · show up2 (up2 (upr S.2.2.1 q _) q n (nI x)) a 1 (nI (n + 1)) b = _
        rw [up2_off _ _ (fun z => hP (Or.inl z)), up2_off _ _ hbq, upr_off _ _ hbq]
      · show upr S.2.2.2 q (fun _ => 0) b = _
        rw [upr_off _ _ hbq]
    · by_cases e : b = q
      · exact e
      · exact absurd (by show va_up S.1 q _ b = none; rw [va_up_ne _ _ e]; exact h1) h2
    · show up2 (upr S.2.1 q (fun _ => none)) a 0 (some q) a i = _
      rw [up2_ne _ _ hi, upr_off _ _ haq]
    · show up2 (up2 (upr S.2.2.1 q _) q n (nI x)) a 1 (nI (n + 1)) a i = _
      rw [up2_ne _ _ hi, up2_off _ _ haq, upr_off _ _ haq]
end
section
/-- a row of numbers stays where nobody touched it -/
theorem Nm_keep {S u : sS} {a r cap n : Nat} {f : Nat → Nat} {P : Nat → Prop} (h : Nm S a r cap n f) (hF : sFr S u P) (ha : ¬ P a) (hr : ¬ P r) : Nm u a r cap n f := by
  obtain ⟨ka, hrow, kr, hn, hle, h16, hcap, hf⟩ := h
  obtain ⟨a1, a2⟩ := hF a (by rw [ka]; exact fun z => by cases z)
  obtain ⟨b1, b2⟩ := hF r (by rw [kr]; exact fun z => by cases z)
  obtain ⟨a3, a4, -⟩ := a2 ha
  obtain ⟨b3, b4, -⟩ := b2 hr
  exact ⟨by rw [a1]; exact ka, by rw [a3]; exact hrow, by rw [b1]; exact kr, by rw [a4]; exact hn, hle, h16, hcap, fun i hi => by rw [b4]; exact hf i hi⟩
theorem Nm_ne {S : sS} {a r cap n : Nat} {f : Nat → Nat} (h : Nm S a r cap n f) : a ≠ r := fun z => by
  obtain ⟨ka, hrow, kr, -⟩ := h
  rw [z, kr] at ka
  cases ka
theorem Nm_fun {S : sS} {a r cap n : Nat} {f g : Nat → Nat} (h : Nm S a r cap n f) (hg : ∀ i, i < n → g i = f i) : Nm S a r cap n g := by
  obtain ⟨ka, hrow, kr, hn, hle, h16, hcap, hf⟩ := h
  exact ⟨ka, hrow, kr, hn, hle, h16, hcap, fun i hi => by rw [hg i hi]; exact hf i hi⟩
theorem nI_par {p : Nat} (h0 : 0 < p) (h : p < 2 ^ 31) : (nI p - 1) >>> ((1 : Int32) &&& 31) = nI ((p - 1) / 2) := by
  obtain ⟨j, rfl⟩ : ∃ j, p = j + 1 := ⟨p - 1, by omega⟩
  rw [nI_pred, show j + 1 - 1 = j by omega]
  exact pk_shrN (by omega) _ 1 (by decide)
/-- LeastFirst at q: its Numbers at b -/
def Lf (S : sS) (q b r cap n : Nat) (v : Nat → Nat) : Prop := S.1 q = some (.inl 6) ∧ S.2.1 q 0 = some b ∧ Nm S b r cap n v
set_option maxHeartbeats 4000000 in
set_option maxRecDepth 100000 in
theorem m_F_isEmpty (l : Launch) (D : va_G) (dA : Nat → ClassId) (S : sS) (sz : Nat) (q b r cap n : Nat) (v : Nat → Nat) (h : Lf S q b r cap n v) :
    cI l y_F_isEmpty c_F_isEmpty 1 (some .boolean) (rmk 0 0 0) D dA S sz [.ref q] (fun x u => u = S ∧ ((x = 1 ∧ n = 0) ∨ (x = 0 ∧ 0 < n))) (0) (0) := by
  obtain ⟨kd, rf, it, lg⟩ := S
  obtain ⟨kq, hq, ka, hrow, kr, hn, hle, h16, hcap, hf⟩ := h
  dsimp only at kq hq ka hrow kr hn hf
  refine s_met (cc := c_F_isEmpty) (maxL := 1) (by decide) rfl (by simp [Value.category]) (by simp [lg_sl, Value.category]) ?_
  intro p e s m args below meth c ls hx hb hr hts hown hlocks hin hml hK hX hsz hM hl
  have hg := gd_hts hts
  have hl : lc ls 1 [some (va_rf (some q))] := hl
  refine q_al_n (i := 0) hx hb d_F_isEmpty_0 rfl hl rfl ?_
  refine s_getr (C := R_F) (T := F_F) (N := 1) (ci := 6) hx hb hg in_F hown hK hM (by assumption) rfl 0 (by decide) rfl (hg _ kw_61) (fun _ h9 => h9) d_F_isEmpty_1 ?_
  rw [hq]
  refine s_geti (C := R_U) (T := F_U) (N := 2) (ci := 5) hx hb hg in_U hown hK hM (by assumption) rfl 1 (by decide) rfl (hg _ kw_45) (fun _ h9 => h9) d_F_isEmpty_4 ?_
  rw [hn]
  refine lv_if_ne (tgt := 14) hx hb d_F_isEmpty_7 (by decide) (fun c1 => ?_) (fun c1 => ?_)
  · refine lv_iconst (v := 0) hx hb d_F_isEmpty_14 (by decide) ?_
    exact s_zret hx hb hr rfl hM ⟨rfl, Or.inr ⟨rfl, Nat.pos_of_ne_zero fun z => c1 (by rw [z]; rfl)⟩⟩ d_F_isEmpty_15 hlocks
  · refine lv_iconst (v := 1) hx hb d_F_isEmpty_10 (by decide) ?_
    refine lv_goto (tgt := 15) hx hb d_F_isEmpty_11 (by decide) ?_
    exact s_zret hx hb hr rfl hM ⟨rfl, Or.inl ⟨rfl, Decidable.byContradiction fun z => nI_ne0 (Nat.pos_of_ne_zero z) (by omega) c1⟩⟩ d_F_isEmpty_15 hlocks
set_option maxHeartbeats 4000000 in
set_option maxRecDepth 100000 in
theorem put_loop {p : Program} {l : Launch} {e : Env} {s : State} {m : MethodId} {args : Array Value} {below : List Frame} {meth : Method} {c : Code} {D : va_G} {dA : Nat → ClassId} {A : Nat → Prop} {Q : State → Prop} (hx : p.tables.exec = Jvm.exec) (hb : c.code = c_F_put) (hml : c.maxLocals = 4) (hown : s.vm.findClass R_F = some m.cls) (hg : ∀ w ∈ gd, w.before args s = true) (hK : va_K D cls (tys dA) s) (hX : sKx s) {mc ms cells slots : Nat} (hcs : cells ≤ mc ∧ slots ≤ ms) {kd : Nat → Option sK} {rf : Nat → Nat → Option Nat} {lg : Nat → Nat → Int64} {q b r cap N x : Nat} (kq : kd q = some (.inl 6)) (hq : rf q 0 = some b) (hx9 : x < 16384) (it0 : Nat → Nat → Int32) (P : (Nat → Nat) → Prop) (hP : ∀ v i j, i < N → j < N → P v → P (hp_sw v i j))
    (kk : ∀ (it : Nat → Nat → Int32) (v : Nat → Nat) (H : Heap) (locs : List Loc) (ls : Array Slot), SW D dA A s.heap (kd, rf, it, lg) H locs → Nm (kd, rf, it, lg) b r cap N v → hp_ok v N → P v → (∀ z, z ≠ r → it z = it0 z) → W p l e (rmk 3 mc ms) s m args below meth c H locs cells slots Q (F0 m 73 ls [])) :
    ∀ (pl : Nat) (it : Nat → Nat → Int32) (v h : Nat → Nat) (H : Heap) (locs : List Loc) (ls : Array Slot), SW D dA A s.heap (kd, rf, it, lg) H locs → lc ls 4 [some (va_rf (some q)), some (.int (nI x)), some (.int (nI pl)), none] → Nm (kd, rf, it, lg) b r cap N h → hp_up v N pl → v pl = x → (∀ i, i < N → i ≠ pl → h i = v i) → (∀ i, i < N → v i < 16384) → P v → (∀ z, z ≠ r → it z = it0 z) → W p l e (rmk 3 mc ms) s m args below meth c H locs cells slots Q (F0 m 18 ls []) := by
  intro pl
  induction pl using Nat.strongRecOn with
  | _ pl ih =>
    intro it v h H locs ls hM hl hNm hup hvp hhv hv9 hPv hit
    have hNm' := hNm
    obtain ⟨kb, hrow, kr, hn, hle, h16, hcap, hf⟩ := hNm'
    dsimp only at kb hrow kr hn hf
    have hpl : pl < N := hup.1
    have ks : (vp_in (nI pl) N) := vp_in_nI hpl (by omega)
    have fin : ∀ (H : Heap) (locs : List Loc) (ls : Array Slot) (o : Option Value), SW D dA A s.heap (kd, rf, it, lg) H locs → lc ls 4 [some (va_rf (some q)), some (.int (nI x)), some (.int (nI pl)), o] → (pl = 0 ∨ v ((pl - 1) / 2) ≤ v pl) → W p l e (rmk 3 mc ms) s m args below meth c H locs cells slots Q (F0 m 64 ls []) := by
      intro H locs ls o hM hl hend
      refine q_al_n (i := 0) hx hb d_F_put_64 rfl hl rfl ?_
      refine s_getr (C := R_F) (T := F_F) (N := 1) (ci := 6) hx hb hg in_F hown hK hM (by assumption) rfl 0 (by decide) rfl (hg _ kw_61) (fun _ h9 => h9) d_F_put_65 ?_
      rw [hq]
      refine q_iload_n (i := 2) hx hb d_F_put_68 rfl hl rfl ?_
      refine q_iload_n (i := 1) hx hb d_F_put_69 rfl hl rfl ?_
      refine s_callv (r_V 2 [.int (nI pl), .int (nI x)] rfl hx hb hml hown hg (m_U_set l D dA _ _ b r cap N h (nI pl) (nI x) hNm) (hM.pre hK hX) (hM.recv hK kb (q := cls.getD 5 (R_H, F_H, 7)) rfl) kw_206 kw_207 kw_208 kw_3 kw_209 (by decide +kernel) ⟨Nat.le_of_ble_eq_true rfl, Nat.le_of_ble_eq_true rfl⟩ rfl rfl hl.sz (by first | exact Nat.le_of_ble_eq_true rfl | simp [rf_cat] | simp [rf_cat, Value.category]) d_F_put_70 ⟨hcs.1, hcs.2⟩ rfl) hM (fun u H locs hp hM => ?_)
      rcases hp with ⟨-, rfl⟩ | ⟨hz, -⟩
      · dsimp only at hM
        rw [nI_clamp (by omega)] at hM
        refine kk _ v H locs ls hM ⟨kb, hrow, kr, ?_, hle, h16, hcap, fun i hi => ?_⟩ (hp_up_end hup hend) hPv (fun z hz => by rw [up2_off _ _ hz]; exact hit z hz)
        · show up2 it r pl (nI x) b 1 = nI N
          rw [up2_off _ _ (Nm_ne hNm)]; exact hn
        · show up2 it r pl (nI x) r i = nI (v i)
          by_cases e : i = pl
          · rw [e, up2_self, hvp]
          · rw [up2_ne _ _ e, ← hhv i hi e]; exact hf i hi
      · exact absurd ks hz
    refine q_iload_n (i := 2) hx hb d_F_put_18 rfl hl rfl ?_
    refine lv_if_le (tgt := 64) hx hb d_F_put_19 (by decide) (fun c1 => ?_) (fun c1 => ?_)
    · exact fin _ _ _ _ hM hl (Or.inl (Decidable.byContradiction fun z => nI_nle (Nat.pos_of_ne_zero z) (by omega) c1))
    · have h0 : 0 < pl := Nat.pos_of_ne_zero fun z => c1 (by rw [z]; decide)
      have hpar : (pl - 1) / 2 < N := by omega
      have epar : h ((pl - 1) / 2) = v ((pl - 1) / 2) := hhv _ hpar (by omega)
      refine q_iload_n (i := 2) hx hb d_F_put_22 rfl hl rfl ?_
      refine lv_iconst (v := 1) hx hb d_F_put_23 (by decide) ?_
      refine lv_isub hx hb d_F_put_24 ?_
      refine lv_iconst (v := 1) hx hb d_F_put_25 (by decide) ?_
      refine lv_ishr hx hb d_F_put_26 ?_
      rw [nI_par h0 (by omega)]
      refine q_istore_n (i := 3) hx hb d_F_put_27 rfl hl (by decide) (fun ls hl => ?_)
      simp only [List.set_cons_succ, List.set_cons_zero] at hl
      refine q_al_n (i := 0) hx hb d_F_put_28 rfl hl rfl ?_
      refine s_getr (C := R_F) (T := F_F) (N := 1) (ci := 6) hx hb hg in_F hown hK hM (by assumption) rfl 0 (by decide) rfl (hg _ kw_61) (fun _ h9 => h9) d_F_put_29 ?_
      rw [hq]
      refine q_iload_n (i := 3) hx hb d_F_put_32 rfl hl rfl ?_
      refine s_calli (r_V 1 [.int (nI ((pl - 1) / 2))] rfl hx hb hml hown hg (m_U_at l D dA _ _ b r cap N h (nI ((pl - 1) / 2)) hNm) (hM.pre hK hX) (hM.recv hK kb (q := cls.getD 5 (R_H, F_H, 7)) rfl) kw_205 kw_100 kw_101 kw_3 kw_102 (by decide +kernel) ⟨Nat.le_of_ble_eq_true rfl, Nat.le_of_ble_eq_true rfl⟩ rfl rfl hl.sz (by first | exact Nat.le_of_ble_eq_true rfl | simp [rf_cat] | simp [rf_cat, Value.category]) d_F_put_33 ⟨hcs.1, hcs.2⟩ rfl) hM (fun r1 u H locs hp hM => ?_)
      obtain ⟨rfl, hp⟩ := hp
      have e1 : r1 = nI (v ((pl - 1) / 2)) := by
        rcases hp with ⟨-, e⟩ | ⟨z, -⟩
        · rw [e, nI_clamp (by omega), epar]
        · exact absurd (vp_in_nI hpar (by omega)) z
      subst e1
      refine q_iload_n (i := 1) hx hb d_F_put_36 rfl hl rfl ?_
      refine n_gt (tgt := 43) hx hb d_F_put_37 (by decide) (by have := hv9 _ hpar; omega) (by omega) (fun c2 => ?_) (fun c2 => ?_)
      · refine q_al_n (i := 0) hx hb d_F_put_43 rfl hl rfl ?_
        refine s_getr (C := R_F) (T := F_F) (N := 1) (ci := 6) hx hb hg in_F hown hK hM (by assumption) rfl 0 (by decide) rfl (hg _ kw_61) (fun _ h9 => h9) d_F_put_44 ?_
        rw [hq]
        refine q_iload_n (i := 2) hx hb d_F_put_47 rfl hl rfl ?_
        refine q_al_n (i := 0) hx hb d_F_put_48 rfl hl rfl ?_
        refine s_getr (C := R_F) (T := F_F) (N := 1) (ci := 6) hx hb hg in_F hown hK hM (by assumption) rfl 0 (by decide) rfl (hg _ kw_61) (fun _ h9 => h9) d_F_put_49 ?_
        rw [hq]
        refine q_iload_n (i := 3) hx hb d_F_put_52 rfl hl rfl ?_
        refine s_calli (r_V 1 [.int (nI ((pl - 1) / 2))] rfl hx hb hml hown hg (m_U_at l D dA _ _ b r cap N h (nI ((pl - 1) / 2)) hNm) (hM.pre hK hX) (hM.recv hK kb (q := cls.getD 5 (R_H, F_H, 7)) rfl) kw_205 kw_100 kw_101 kw_3 kw_102 (by decide +kernel) ⟨Nat.le_of_ble_eq_true rfl, Nat.le_of_ble_eq_true rfl⟩ rfl rfl hl.sz (by first | exact Nat.le_of_ble_eq_true rfl | simp [rf_cat] | simp [rf_cat, Value.category]) d_F_put_53 ⟨hcs.1, hcs.2⟩ rfl) hM (fun r1 u H locs hp hM => ?_)
        obtain ⟨rfl, hp⟩ := hp
        have e1 : r1 = nI (v ((pl - 1) / 2)) := by
          rcases hp with ⟨-, e⟩ | ⟨z, -⟩
          · rw [e, nI_clamp (by omega), epar]
          · exact absurd (vp_in_nI hpar (by omega)) z
        subst e1
        refine s_callv (r_V 2 [.int (nI pl), .int (nI (v ((pl - 1) / 2)))] rfl hx hb hml hown hg (m_U_set l D dA _ _ b r cap N h (nI pl) (nI (v ((pl - 1) / 2))) hNm) (hM.pre hK hX) (hM.recv hK kb (q := cls.getD 5 (R_H, F_H, 7)) rfl) kw_206 kw_207 kw_208 kw_3 kw_209 (by decide +kernel) ⟨Nat.le_of_ble_eq_true rfl, Nat.le_of_ble_eq_true rfl⟩ rfl rfl hl.sz (by first | exact Nat.le_of_ble_eq_true rfl | simp [rf_cat] | simp [rf_cat, Value.category]) d_F_put_56 ⟨hcs.1, hcs.2⟩ rfl) hM (fun u H locs hp hM => ?_)
        rcases hp with ⟨-, rfl⟩ | ⟨hz, -⟩
        · dsimp only at hM
          rw [nI_clamp (by omega)] at hM
          refine q_iload_n (i := 3) hx hb d_F_put_59 rfl hl rfl ?_
          refine q_istore_n (i := 2) hx hb d_F_put_60 rfl hl (by decide) (fun ls hl => ?_)
          simp only [List.set_cons_succ, List.set_cons_zero] at hl
          refine lv_goto (tgt := 18) hx hb d_F_put_61 (by decide) ?_
          refine ih ((pl - 1) / 2) (by omega) _ (hp_sw v pl ((pl - 1) / 2)) (fun i => if i = pl then v ((pl - 1) / 2) else h i) H locs ls hM (hl.weak ?_) ⟨kb, hrow, kr, ?_, hle, h16, hcap, fun i hi => ?_⟩ (hp_up_step hup h0 (by rw [hvp]; exact c2)) (by rw [hp_sw_q]; exact hvp) (fun i hi hne => ?_) (fun i hi => ?_) (hP v pl ((pl - 1) / 2) hpl hpar hPv) (fun z hz => by rw [up2_off _ _ hz]; exact hit z hz)
          · intro i y hy
            match i, hy with
            | 0, hy => exact hy
            | 1, hy => exact hy
            | 2, hy => exact hy
            | 3, hy => cases hy
            | i + 4, hy => cases hy
          · show up2 it r pl (nI (v ((pl - 1) / 2))) b 1 = nI N
            rw [up2_off _ _ (Nm_ne hNm)]; exact hn
          · show up2 it r pl (nI (v ((pl - 1) / 2))) r i = nI (if i = pl then v ((pl - 1) / 2) else h i)
            by_cases e : i = pl
            · rw [e, up2_self, if_pos rfl]
            · rw [up2_ne _ _ e, if_neg e]; exact hf i hi
          · show (if i = pl then v ((pl - 1) / 2) else h i) = _
            by_cases e : i = pl
            · rw [e, if_pos rfl, hp_sw_p]
            · rw [if_neg e, hp_sw_o v e hne]; exact hhv i hi e
          · by_cases e : i = pl
            · rw [e, hp_sw_p]; exact hv9 _ hpar
            · by_cases e2 : i = (pl - 1) / 2
              · rw [e2, hp_sw_q]; exact hv9 _ hpl
              · rw [hp_sw_o v e e2]; exact hv9 _ hi
        · exact absurd ks hz
      · refine lv_goto (tgt := 64) hx hb d_F_put_40 (by decide) ?_
        exact fin _ _ _ _ hM hl (Or.inr (by rw [hvp]; exact c2))
end
section
/-- what put does -/
def PutP (S : sS) (q b r cap n : Nat) (v : Nat → Nat) (x : Nat) (u : sS) : Prop :=
  ∃ r' cap' v', Lf u q b r' cap' (n + 1) v' ∧ hp_ok v' (n + 1) ∧ ((∀ y, hp_set v' (n + 1) y ↔ hp_set v n y ∨ y = x) ∧ hp_inj v' (n + 1) ∧ ∀ i, i < n + 1 → v' i < 16384) ∧ sFr S u (fun z => z = b ∨ z = r) ∧ (r' = r ∨ S.1 r' = none) ∧ cap' = (if n < cap then cap else 2 * n) ∧ ∀ z, S.1 z = none → u.1 z ≠ none → z = r'
set_option maxHeartbeats 4000000 in
set_option maxRecDepth 100000 in
theorem m_F_put (l : Launch) (D : va_G) (dA : Nat → ClassId) (S : sS) (sz : Nat) (q b r cap n : Nat) (v : Nat → Nat) (x : Nat) (h : Lf S q b r cap n v) (hok : hp_ok v n) (hinj : hp_inj v n) (hset : ¬ hp_set v n x) (hx9 : x < 16384) (hv9 : ∀ i, i < n → v i < 16384) (hlt : n < 16384) :
    cV l y_F_put c_F_put 4 (rmk 3 (if n < cap then 0 else 1) (if n < cap then 0 else 2 * n)) D dA S sz [.ref q, .int (nI x)] (PutP S q b r cap n v x) ((if n < cap then 0 else 1)) ((if n < cap then 0 else 2 * n)) := by
  obtain ⟨kd, rf, it, lg⟩ := S
  obtain ⟨kq, hq, hNm⟩ := h
  have hNm' := hNm
  obtain ⟨kb, hrow, kr, hn, hle, h16, hcap, hf⟩ := hNm'
  dsimp only at kq hq kb hrow kr hn hf
  have hqb : q ≠ b := fun z => by rw [z, kb] at kq; cases kq
  have hqr : q ≠ r := fun z => by rw [z, kr] at kq; cases kq
  refine s_met (cc := c_F_put) (maxL := 4) (by decide) rfl (by simp [Value.category]) (by simp [lg_sl, Value.category]) ?_
  intro p e s m args below meth c ls hx hb hr hts hown hlocks hin hml hK hX hsz hM hl
  have hg := gd_hts hts
  have hl : lc ls 4 [some (va_rf (some q)), some (.int (nI x)), none, none] := hl
  refine q_al_n (i := 0) hx hb d_F_put_0 rfl hl rfl ?_
  refine s_getr (C := R_F) (T := F_F) (N := 1) (ci := 6) hx hb hg in_F hown hK hM (by assumption) rfl 0 (by decide) rfl (hg _ kw_61) (fun _ h9 => h9) d_F_put_1 ?_
  rw [hq]
  refine q_iload_n (i := 1) hx hb d_F_put_4 rfl hl rfl ?_
  refine s_callv (r_V 1 [.int (nI x)] rfl hx hb hml hown hg (m_U_add l D dA _ _ b r cap n v x hNm hlt) (hM.pre hK hX) (hM.recv hK kb (q := cls.getD 5 (R_H, F_H, 7)) rfl) kw_204 kw_170 kw_171 kw_3 kw_172 (by decide +kernel) ⟨Nat.le_of_ble_eq_true rfl, Nat.le_of_ble_eq_true rfl⟩ rfl rfl hl.sz (by first | exact Nat.le_of_ble_eq_true rfl | simp [rf_cat] | simp [rf_cat, Value.category]) d_F_put_5 ⟨Nat.le_of_eq (Nat.zero_add _), Nat.le_of_eq (Nat.zero_add _)⟩ rfl) hM (fun u H locs hp hM => ?_)
  refine W.widen (k := (if n < cap then 0 else 1)) (n := (if n < cap then 0 else 2 * n)) (by omega) (by omega) ?_
  obtain ⟨r', cap', hNm1, hF, hr', hcap', hnew, hao, hai⟩ := hp
  obtain ⟨kd1, rf1, it1, lg1⟩ := u
  have hNm1' := hNm1
  obtain ⟨kb1, hrow1, kr1, hn1, hle1, h161, hcap1, hf1⟩ := hNm1'
  dsimp only at kb1 hrow1 kr1 hn1 hf1
  have kq1 : kd1 q = some (.inl 6) := hF.kd kq
  have hq1 : rf1 q 0 = some b := by
    have e := ((hF q (by show kd q ≠ none; rw [kq]; exact fun z => by cases z)).2 (fun z => z.elim hqb hqr)).1
    have e2 : rf1 q = rf q := e
    rw [e2]; exact hq
  refine q_al_n (i := 0) hx hb d_F_put_8 rfl hl rfl ?_
  refine s_getr (C := R_F) (T := F_F) (N := 1) (ci := 6) hx hb hg in_F hown hK hM (by assumption) rfl 0 (by decide) rfl (hg _ kw_61) (fun _ h9 => h9) d_F_put_9 ?_
  rw [hq1]
  refine s_geti (C := R_U) (T := F_U) (N := 2) (ci := 5) hx hb hg in_U hown hK hM (by assumption) rfl 1 (by decide) rfl (hg _ kw_45) (fun _ h9 => h9) d_F_put_12 ?_
  rw [hn1]
  refine lv_iconst (v := 1) hx hb d_F_put_15 (by decide) ?_
  refine lv_isub hx hb d_F_put_16 ?_
  rw [nI_pred]
  refine q_istore_n (i := 2) hx hb d_F_put_17 rfl hl (by decide) (fun ls hl => ?_)
  simp only [List.set_cons_succ, List.set_cons_zero] at hl
  have hP0 : (∀ y, hp_set (fun i => if i = n then x else v i) (n + 1) y ↔ hp_set v n y ∨ y = x) ∧ hp_inj (fun i => if i = n then x else v i) (n + 1) ∧ ∀ i, i < n + 1 → (fun i => if i = n then x else v i) i < 16384 := by
    refine ⟨fun y => ⟨?_, ?_⟩, fun i j hi hj hij => ?_, fun i hi => ?_⟩
    · rintro ⟨i, hi, e⟩
      dsimp only at e
      by_cases z : i = n
      · rw [if_pos z] at e; exact Or.inr e.symm
      · rw [if_neg z] at e; exact Or.inl ⟨i, by omega, e⟩
    · rintro (⟨i, hi, e⟩ | e)
      · exact ⟨i, by omega, by dsimp only; rw [if_neg (by omega)]; exact e⟩
      · exact ⟨n, by omega, by dsimp only; rw [if_pos rfl]; exact e.symm⟩
    · dsimp only at hij
      by_cases z1 : i = n
      · by_cases z2 : j = n
        · omega
        · rw [if_pos z1, if_neg z2] at hij; exact absurd ⟨j, by omega, hij.symm⟩ hset
      · by_cases z2 : j = n
        · rw [if_neg z1, if_pos z2] at hij; exact absurd ⟨i, by omega, hij⟩ hset
        · rw [if_neg z1, if_neg z2] at hij; exact hinj i j (by omega) (by omega) hij
    · dsimp only
      by_cases z : i = n
      · rw [if_pos z]; exact hx9
      · rw [if_neg z]; exact hv9 i (by omega)
  refine put_loop hx hb hml hown hg hK hX ⟨Nat.le_refl _, Nat.le_refl _⟩ kq1 hq1 hx9 it1 (fun w => (∀ y, hp_set w (n + 1) y ↔ hp_set v n y ∨ y = x) ∧ hp_inj w (n + 1) ∧ ∀ i, i < n + 1 → w i < 16384) ?_ ?_ n it1 (fun i => if i = n then x else v i) (fun i => if i = n then x else v i) H locs ls hM hl hNm1 (hp_up_start hok (fun i hi => if_neg (by omega))) (if_pos rfl) (fun i hi hne => rfl) hP0.2.2 hP0 (fun z hz => rfl)
  · rintro w i j hi hj ⟨a1, a2, a3⟩
    refine ⟨fun y => by rw [hp_sw_set hi hj]; exact a1 y, hp_sw_inj hi hj a2, fun k hk => ?_⟩
    by_cases z : k = i
    · rw [z, hp_sw_p]; exact a3 j hj
    · by_cases z2 : k = j
      · rw [z2, hp_sw_q]; exact a3 i hi
      · rw [hp_sw_o w z z2]; exact a3 k hk
  · intro it2 v2 H locs ls hM hNm2 hok2 hP2 hit2
    refine s_vret hx hb hr hM ⟨r', cap', v2, ⟨kq1, hq1, hNm2⟩, hok2, hP2, ?_, hr', hcap', hnew⟩ d_F_put_73 hlocks
    intro z hz
    obtain ⟨f1, f2⟩ := hF z hz
    refine ⟨f1, fun hn9 => ?_⟩
    obtain ⟨f3, f4, f5⟩ := f2 hn9
    refine ⟨f3, ?_, f5⟩
    have hzr : z ≠ r' := by
      rcases hr' with e | e
      · rw [e]; exact fun y => hn9 (Or.inr y)
      · exact fun y => hz (by rw [y]; exact e)
    show it2 z = _
    rw [hit2 z hzr]; exact f4
set_option maxHeartbeats 4000000 in
set_option maxRecDepth 100000 in
theorem m_F_lesserBelow (l : Launch) (D : va_G) (dA : Nat → ClassId) (S : sS) (sz : Nat) (q b r cap N : Nat) (h : Nat → Nat) (pl : Nat) (hL : Lf S q b r cap N h) (h9 : ∀ i, i < N → h i < 2 ^ 31) (hpl : 2 * pl + 1 < N) :
    cI l y_F_lesserBelow c_F_lesserBelow 4 (some .int) (rmk 2 0 0) D dA S sz [.ref q, .int (nI pl)] (fun x u => u = S ∧ ∃ i, x = nI i ∧ (i = 2 * pl + 1 ∨ i = 2 * pl + 2) ∧ i < N ∧ h i ≤ h (2 * pl + 1) ∧ (2 * pl + 2 < N → h i ≤ h (2 * pl + 2))) (0) (0) := by
  obtain ⟨kd, rf, it, lg⟩ := S
  obtain ⟨kq, hq, hNm⟩ := hL
  have hNm' := hNm
  obtain ⟨kb, hrow, kr, hn, hle, h16, hcap, hf⟩ := hNm'
  dsimp only at kq hq kb hrow kr hn hf
  refine s_met (cc := c_F_lesserBelow) (maxL := 4) (by decide) rfl (by simp [Value.category]) (by simp [lg_sl, Value.category]) ?_
  intro p e s m args below meth c ls hx hb hr hts hown hlocks hin hml hK hX hsz hM hl
  have hg := gd_hts hts
  have hl : lc ls 4 [some (va_rf (some q)), some (.int (nI pl)), none, none] := hl
  refine lv_iconst (v := nI 2) hx hb d_F_lesserBelow_0 (by decide) ?_
  refine q_iload_n (i := 1) hx hb d_F_lesserBelow_1 rfl hl rfl ?_
  refine lv_imul hx hb d_F_lesserBelow_2 ?_
  rw [pk_mul]
  refine lv_iconst (v := 1) hx hb d_F_lesserBelow_3 (by decide) ?_
  refine lv_iadd hx hb d_F_lesserBelow_4 ?_
  rw [nI_1]
  refine q_istore_n (i := 2) hx hb d_F_lesserBelow_5 rfl hl (by decide) (fun ls hl => ?_)
  simp only [List.set_cons_succ, List.set_cons_zero] at hl
  refine q_iload_n (i := 2) hx hb d_F_lesserBelow_6 rfl hl rfl ?_
  refine lv_iconst (v := 1) hx hb d_F_lesserBelow_7 (by decide) ?_
  refine lv_iadd hx hb d_F_lesserBelow_8 ?_
  rw [nI_1]
  refine q_istore_n (i := 3) hx hb d_F_lesserBelow_9 rfl hl (by decide) (fun ls hl => ?_)
  simp only [List.set_cons_succ, List.set_cons_zero] at hl
  refine q_iload_n (i := 3) hx hb d_F_lesserBelow_10 rfl hl rfl ?_
  refine q_al_n (i := 0) hx hb d_F_lesserBelow_11 rfl hl rfl ?_
  refine s_getr (C := R_F) (T := F_F) (N := 1) (ci := 6) hx hb hg in_F hown hK hM (by assumption) rfl 0 (by decide) rfl (hg _ kw_61) (fun _ h9 => h9) d_F_lesserBelow_12 ?_
  rw [hq]
  refine s_geti (C := R_U) (T := F_U) (N := 2) (ci := 5) hx hb hg in_U hown hK hM (by assumption) rfl 1 (by decide) rfl (hg _ kw_45) (fun _ h9 => h9) d_F_lesserBelow_15 ?_
  rw [hn]
  refine n_ge (tgt := 44) hx hb d_F_lesserBelow_18 (by decide) (by omega) (by omega) (fun c1 => ?_) (fun c1 => ?_)
  · refine q_iload_n (i := 2) hx hb d_F_lesserBelow_44 rfl hl rfl ?_
    exact s_iret hx hb hr hM ⟨rfl, 2 * pl + 1, rfl, Or.inl rfl, hpl, Nat.le_refl _, fun z => by omega⟩ d_F_lesserBelow_45 hlocks
  · refine q_al_n (i := 0) hx hb d_F_lesserBelow_21 rfl hl rfl ?_
    refine s_getr (C := R_F) (T := F_F) (N := 1) (ci := 6) hx hb hg in_F hown hK hM (by assumption) rfl 0 (by decide) rfl (hg _ kw_61) (fun _ h9 => h9) d_F_lesserBelow_22 ?_
    rw [hq]
    refine q_iload_n (i := 3) hx hb d_F_lesserBelow_25 rfl hl rfl ?_
    refine s_calli (r_V 1 [.int (nI (2 * pl + 1 + 1))] rfl hx hb hml hown hg (m_U_at l D dA _ _ b r cap N h (nI (2 * pl + 1 + 1)) hNm) (hM.pre hK hX) (hM.recv hK kb (q := cls.getD 5 (R_H, F_H, 7)) rfl) kw_205 kw_100 kw_101 kw_3 kw_102 (by decide +kernel) ⟨Nat.le_of_ble_eq_true rfl, Nat.le_of_ble_eq_true rfl⟩ rfl rfl hl.sz (by first | exact Nat.le_of_ble_eq_true rfl | simp [rf_cat] | simp [rf_cat, Value.category]) d_F_lesserBelow_26 ⟨Nat.le_refl _, Nat.le_refl _⟩ rfl) hM (fun r1 u H locs hp hM => ?_)
    obtain ⟨rfl, hp⟩ := hp
    have e1 : r1 = nI (h (2 * pl + 1 + 1)) := by
      rcases hp with ⟨-, e⟩ | ⟨z, -⟩
      · rw [e, nI_clamp (by omega)]
      · exact absurd (vp_in_nI c1 (by omega)) z
    subst e1
    refine q_al_n (i := 0) hx hb d_F_lesserBelow_29 rfl hl rfl ?_
    refine s_getr (C := R_F) (T := F_F) (N := 1) (ci := 6) hx hb hg in_F hown hK hM (by assumption) rfl 0 (by decide) rfl (hg _ kw_61) (fun _ h9 => h9) d_F_lesserBelow_30 ?_
    rw [hq]
    refine q_iload_n (i := 2) hx hb d_F_lesserBelow_33 rfl hl rfl ?_
    refine s_calli (r_V 1 [.int (nI (2 * pl + 1))] rfl hx hb hml hown hg (m_U_at l D dA _ _ b r cap N h (nI (2 * pl + 1)) hNm) (hM.pre hK hX) (hM.recv hK kb (q := cls.getD 5 (R_H, F_H, 7)) rfl) kw_205 kw_100 kw_101 kw_3 kw_102 (by decide +kernel) ⟨Nat.le_of_ble_eq_true rfl, Nat.le_of_ble_eq_true rfl⟩ rfl rfl hl.sz (by first | exact Nat.le_of_ble_eq_true rfl | simp [rf_cat] | simp [rf_cat, Value.category]) d_F_lesserBelow_34 ⟨Nat.le_refl _, Nat.le_refl _⟩ rfl) hM (fun r1 u H locs hp hM => ?_)
    obtain ⟨rfl, hp⟩ := hp
    have e1 : r1 = nI (h (2 * pl + 1)) := by
      rcases hp with ⟨-, e⟩ | ⟨z, -⟩
      · rw [e, nI_clamp (by omega)]
      · exact absurd (vp_in_nI hpl (by omega)) z
    subst e1
    refine n_ge (tgt := 44) hx hb d_F_lesserBelow_37 (by decide) (h9 _ c1) (h9 _ hpl) (fun c2 => ?_) (fun c2 => ?_)
    · refine q_iload_n (i := 2) hx hb d_F_lesserBelow_44 rfl hl rfl ?_
      exact s_iret hx hb hr hM ⟨rfl, 2 * pl + 1, rfl, Or.inl rfl, hpl, Nat.le_refl _, fun z => c2⟩ d_F_lesserBelow_45 hlocks
    · refine q_iload_n (i := 3) hx hb d_F_lesserBelow_40 rfl hl rfl ?_
      refine lv_goto (tgt := 45) hx hb d_F_lesserBelow_41 (by decide) ?_
      exact s_iret hx hb hr hM ⟨rfl, 2 * pl + 2, rfl, Or.inr rfl, c1, Nat.le_of_lt c2, fun z => Nat.le_refl _⟩ d_F_lesserBelow_45 hlocks
end
section
theorem hp_sw_lt {v : Nat → Nat} {n p q B : Nat} (hp : p < n) (hq : q < n) (h : ∀ i, i < n → v i < B) : ∀ i, i < n → hp_sw v p q i < B := by
  intro i hi
  by_cases z : i = p
  · rw [z, hp_sw_p]; exact h q hq
  · by_cases z2 : i = q
    · rw [z2, hp_sw_q]; exact h p hp
    · rw [hp_sw_o v z z2]; exact h i hi
set_option maxHeartbeats 4000000 in
set_option maxRecDepth 100000 in
theorem sink_loop {p : Program} {l : Launch} {e : Env} {s : State} {m : MethodId} {args : Array Value} {below : List Frame} {meth : Method} {c : Code} {D : va_G} {dA : Nat → ClassId} {A : Nat → Prop} {Q : State → Prop} (hx : p.tables.exec = Jvm.exec) (hb : c.code = c_F_sinkFromTop) (hml : c.maxLocals = 4) (hown : s.vm.findClass R_F = some m.cls) (hg : ∀ w ∈ gd, w.before args s = true) (hK : va_K D cls (tys dA) s) (hX : sKx s) {mc ms cells slots : Nat} (hcs : cells ≤ mc ∧ slots ≤ ms) {kd : Nat → Option sK} {rf : Nat → Nat → Option Nat} {lg : Nat → Nat → Int64} {q b r cap N x : Nat} (kq : kd q = some (.inl 6)) (hq : rf q 0 = some b) (hx9 : x < 16384) (it0 : Nat → Nat → Int32) (P : (Nat → Nat) → Prop) (hP : ∀ v i j, i < N → j < N → P v → P (hp_sw v i j))
    (kk : ∀ (it : Nat → Nat → Int32) (v : Nat → Nat) (H : Heap) (locs : List Loc) (ls : Array Slot), SW D dA A s.heap (kd, rf, it, lg) H locs → Nm (kd, rf, it, lg) b r cap N v → hp_ok v N → P v → (∀ z, z ≠ r → it z = it0 z) → W p l e (rmk 3 mc ms) s m args below meth c H locs cells slots Q (F0 m 68 ls [])) :
    ∀ (k pl : Nat) (it : Nat → Nat → Int32) (v h : Nat → Nat) (H : Heap) (locs : List Loc) (ls : Array Slot) (o : Option Value), N ≤ pl + k → SW D dA A s.heap (kd, rf, it, lg) H locs → lc ls 4 [some (va_rf (some q)), some (.int (nI x)), some (.int (nI pl)), o] → Nm (kd, rf, it, lg) b r cap N h → (pl < N ∨ (N = 0 ∧ pl = 0)) → hp_dn v N pl → v pl = x → (∀ i, i < N → i ≠ pl → h i = v i) → (∀ i, i < N → v i < 16384) → (∀ i, i < N → h i < 16384) → P v → (∀ z, z ≠ r → it z = it0 z) → W p l e (rmk 3 mc ms) s m args below meth c H locs cells slots Q (F0 m 2 ls []) := by
  intro k
  induction k with
  | zero =>
    intro pl it v h H locs ls o hk hM hl hNm hpl hdn hvp hhv hv9 hh9 hPv hit
    have hNm' := hNm
    obtain ⟨kb, hrow, kr, hn, hle, h16, hcap, hf⟩ := hNm'
    dsimp only at kb hrow kr hn hf
    have hN : N = 0 := by omega
    have hp0 : pl = 0 := by omega
    subst hN; subst hp0
    refine lv_iconst (v := nI 2) hx hb d_F_sinkFromTop_2 (by decide) ?_
    refine q_iload_n (i := 2) hx hb d_F_sinkFromTop_3 rfl hl rfl ?_
    refine lv_imul hx hb d_F_sinkFromTop_4 ?_
    rw [pk_mul]
    refine lv_iconst (v := 1) hx hb d_F_sinkFromTop_5 (by decide) ?_
    refine lv_iadd hx hb d_F_sinkFromTop_6 ?_
    rw [nI_1]
    refine q_al_n (i := 0) hx hb d_F_sinkFromTop_7 rfl hl rfl ?_
    refine s_getr (C := R_F) (T := F_F) (N := 1) (ci := 6) hx hb hg in_F hown hK hM (by assumption) rfl 0 (by decide) rfl (hg _ kw_61) (fun _ h9 => h9) d_F_sinkFromTop_8 ?_
    rw [hq]
    refine s_geti (C := R_U) (T := F_U) (N := 2) (ci := 5) hx hb hg in_U hown hK hM (by assumption) rfl 1 (by decide) rfl (hg _ kw_45) (fun _ h9 => h9) d_F_sinkFromTop_11 ?_
    rw [hn]
    refine n_ge (tgt := 59) hx hb d_F_sinkFromTop_14 (by decide) (by omega) (by omega) (fun c1 => ?_) (fun c1 => ?_)
    · refine q_al_n (i := 0) hx hb d_F_sinkFromTop_59 rfl hl rfl ?_
      refine s_getr (C := R_F) (T := F_F) (N := 1) (ci := 6) hx hb hg in_F hown hK hM (by assumption) rfl 0 (by decide) rfl (hg _ kw_61) (fun _ h9 => h9) d_F_sinkFromTop_60 ?_
      rw [hq]
      refine q_iload_n (i := 2) hx hb d_F_sinkFromTop_63 rfl hl rfl ?_
      refine q_iload_n (i := 1) hx hb d_F_sinkFromTop_64 rfl hl rfl ?_
      refine s_callv (r_V 2 [.int (nI 0), .int (nI x)] rfl hx hb hml hown hg (m_U_set l D dA _ _ b r cap 0 h (nI 0) (nI x) hNm) (hM.pre hK hX) (hM.recv hK kb (q := cls.getD 5 (R_H, F_H, 7)) rfl) kw_206 kw_207 kw_208 kw_3 kw_209 (by decide +kernel) ⟨Nat.le_of_ble_eq_true rfl, Nat.le_of_ble_eq_true rfl⟩ rfl rfl hl.sz (by first | exact Nat.le_of_ble_eq_true rfl | simp [rf_cat] | simp [rf_cat, Value.category]) d_F_sinkFromTop_65 ⟨hcs.1, hcs.2⟩ rfl) hM (fun u H locs hp hM => ?_)
      rcases hp with ⟨hz, -⟩ | ⟨-, rfl⟩
      · exact absurd (Nat.zero_le _) (fun z => hz (Or.inr z))
      · exact kk _ v H locs ls hM (Nm_fun hNm (fun i hi => absurd hi (Nat.not_lt_zero i))) (fun i hi hin => absurd hin (Nat.not_lt_zero i)) hPv hit
    · omega
  | succ k ih =>
    intro pl it v h H locs ls o hk hM hl hNm hpl hdn hvp hhv hv9 hh9 hPv hit
    have hNm' := hNm
    obtain ⟨kb, hrow, kr, hn, hle, h16, hcap, hf⟩ := hNm'
    dsimp only at kb hrow kr hn hf
    have fin : ∀ (H : Heap) (locs : List Loc) (ls : Array Slot) (o : Option Value), SW D dA A s.heap (kd, rf, it, lg) H locs → lc ls 4 [some (va_rf (some q)), some (.int (nI x)), some (.int (nI pl)), o] → hp_ok v N → W p l e (rmk 3 mc ms) s m args below meth c H locs cells slots Q (F0 m 59 ls []) := by
      intro H locs ls o hM hl hend
      refine q_al_n (i := 0) hx hb d_F_sinkFromTop_59 rfl hl rfl ?_
      refine s_getr (C := R_F) (T := F_F) (N := 1) (ci := 6) hx hb hg in_F hown hK hM (by assumption) rfl 0 (by decide) rfl (hg _ kw_61) (fun _ h9 => h9) d_F_sinkFromTop_60 ?_
      rw [hq]
      refine q_iload_n (i := 2) hx hb d_F_sinkFromTop_63 rfl hl rfl ?_
      refine q_iload_n (i := 1) hx hb d_F_sinkFromTop_64 rfl hl rfl ?_
      refine s_callv (r_V 2 [.int (nI pl), .int (nI x)] rfl hx hb hml hown hg (m_U_set l D dA _ _ b r cap N h (nI pl) (nI x) hNm) (hM.pre hK hX) (hM.recv hK kb (q := cls.getD 5 (R_H, F_H, 7)) rfl) kw_206 kw_207 kw_208 kw_3 kw_209 (by decide +kernel) ⟨Nat.le_of_ble_eq_true rfl, Nat.le_of_ble_eq_true rfl⟩ rfl rfl hl.sz (by first | exact Nat.le_of_ble_eq_true rfl | simp [rf_cat] | simp [rf_cat, Value.category]) d_F_sinkFromTop_65 ⟨hcs.1, hcs.2⟩ rfl) hM (fun u H locs hp hM => ?_)
      rcases hp with ⟨hz, rfl⟩ | ⟨hz, rfl⟩
      · dsimp only at hM
        rw [nI_clamp (by omega)] at hM
        refine kk _ v H locs ls hM ⟨kb, hrow, kr, ?_, hle, h16, hcap, fun i hi => ?_⟩ hend hPv (fun z hz => by rw [up2_off _ _ hz]; exact hit z hz)
        · show up2 it r pl (nI x) b 1 = nI N
          rw [up2_off _ _ (Nm_ne hNm)]; exact hn
        · show up2 it r pl (nI x) r i = nI (v i)
          by_cases e : i = pl
          · rw [e, up2_self, hvp]
          · rw [up2_ne _ _ e, ← hhv i hi e]; exact hf i hi
      · have hN0 : N = 0 := by
          rcases hpl with z | z
          · exact absurd (vp_in_nI z (by omega)) hz
          · exact z.1
        exact kk _ v H locs ls hM (Nm_fun hNm (fun i hi => by omega)) hend hPv hit
    refine lv_iconst (v := nI 2) hx hb d_F_sinkFromTop_2 (by decide) ?_
    refine q_iload_n (i := 2) hx hb d_F_sinkFromTop_3 rfl hl rfl ?_
    refine lv_imul hx hb d_F_sinkFromTop_4 ?_
    rw [pk_mul]
    refine lv_iconst (v := 1) hx hb d_F_sinkFromTop_5 (by decide) ?_
    refine lv_iadd hx hb d_F_sinkFromTop_6 ?_
    rw [nI_1]
    refine q_al_n (i := 0) hx hb d_F_sinkFromTop_7 rfl hl rfl ?_
    refine s_getr (C := R_F) (T := F_F) (N := 1) (ci := 6) hx hb hg in_F hown hK hM (by assumption) rfl 0 (by decide) rfl (hg _ kw_61) (fun _ h9 => h9) d_F_sinkFromTop_8 ?_
    rw [hq]
    refine s_geti (C := R_U) (T := F_U) (N := 2) (ci := 5) hx hb hg in_U hown hK hM (by assumption) rfl 1 (by decide) rfl (hg _ kw_45) (fun _ h9 => h9) d_F_sinkFromTop_11 ?_
    rw [hn]
    refine n_ge (tgt := 59) hx hb d_F_sinkFromTop_14 (by decide) (by omega) (by omega) (fun c1 => ?_) (fun c1 => ?_)
    · exact fin _ _ _ _ hM hl (hp_dn_end hdn (fun i hi hin hpar => by omega))
    · have hplN : pl < N := by omega
      refine q_al_n (i := 0) hx hb d_F_sinkFromTop_17 rfl hl rfl ?_
      refine q_iload_n (i := 2) hx hb d_F_sinkFromTop_18 rfl hl rfl ?_
      refine s_calli (r_V 1 [.int (nI pl)] rfl hx hb hml hown hg (m_F_lesserBelow l D dA _ _ q b r cap N h pl ⟨kq, hq, hNm⟩ (fun i hi => by have := hh9 i hi; omega) c1) (hM.pre hK hX) (hM.recv hK kq (q := cls.getD 6 (R_H, F_H, 7)) rfl) kw_231 kw_233 ks_7 kw_4 kw_234 (by decide +kernel) ⟨Nat.le_of_ble_eq_true rfl, Nat.le_of_ble_eq_true rfl⟩ rfl rfl hl.sz (by first | exact Nat.le_of_ble_eq_true rfl | simp [rf_cat] | simp [rf_cat, Value.category]) d_F_sinkFromTop_19 ⟨hcs.1, hcs.2⟩ rfl) hM (fun r1 u H locs hp hM => ?_)
      obtain ⟨rfl, i, rfl, hi2, hiN, hm1, hm2⟩ := hp
      have hip : i ≠ pl := by omega
      have ev : h i = v i := hhv i hiN hip
      refine q_istore_n (i := 3) hx hb d_F_sinkFromTop_22 rfl hl (by decide) (fun ls hl => ?_)
      simp only [List.set_cons_succ, List.set_cons_zero] at hl
      refine q_al_n (i := 0) hx hb d_F_sinkFromTop_23 rfl hl rfl ?_
      refine s_getr (C := R_F) (T := F_F) (N := 1) (ci := 6) hx hb hg in_F hown hK hM (by assumption) rfl 0 (by decide) rfl (hg _ kw_61) (fun _ h9 => h9) d_F_sinkFromTop_24 ?_
      rw [hq]
      refine q_iload_n (i := 3) hx hb d_F_sinkFromTop_27 rfl hl rfl ?_
      refine s_calli (r_V 1 [.int (nI i)] rfl hx hb hml hown hg (m_U_at l D dA _ _ b r cap N h (nI (i)) hNm) (hM.pre hK hX) (hM.recv hK kb (q := cls.getD 5 (R_H, F_H, 7)) rfl) kw_205 kw_100 kw_101 kw_3 kw_102 (by decide +kernel) ⟨Nat.le_of_ble_eq_true rfl, Nat.le_of_ble_eq_true rfl⟩ rfl rfl hl.sz (by first | exact Nat.le_of_ble_eq_true rfl | simp [rf_cat] | simp [rf_cat, Value.category]) d_F_sinkFromTop_28 ⟨hcs.1, hcs.2⟩ rfl) hM (fun r1 u H locs hp hM => ?_)
      obtain ⟨rfl, hp⟩ := hp
      have e1 : r1 = nI (v i) := by
        rcases hp with ⟨-, e⟩ | ⟨z, -⟩
        · rw [e, nI_clamp (by omega), ev]
        · exact absurd (vp_in_nI hiN (by omega)) z
      subst e1
      have hmin : ∀ j, 0 < j → j < N → (j - 1) / 2 = pl → v i ≤ v j := by
        intro j hj hjN hjp
        rw [← ev, ← hhv j hjN (by omega)]
        by_cases z : j = 2 * pl + 1
        · rw [z]; exact hm1
        · have z2 : j = 2 * pl + 2 := by omega
          rw [z2]; exact hm2 (by omega)
      refine q_iload_n (i := 1) hx hb d_F_sinkFromTop_31 rfl hl rfl ?_
      refine n_lt (tgt := 38) hx hb d_F_sinkFromTop_32 (by decide) (by have := hv9 i hiN; omega) (by omega) (fun c2 => ?_) (fun c2 => ?_)
      · refine q_al_n (i := 0) hx hb d_F_sinkFromTop_38 rfl hl rfl ?_
        refine s_getr (C := R_F) (T := F_F) (N := 1) (ci := 6) hx hb hg in_F hown hK hM (by assumption) rfl 0 (by decide) rfl (hg _ kw_61) (fun _ h9 => h9) d_F_sinkFromTop_39 ?_
        rw [hq]
        refine q_iload_n (i := 2) hx hb d_F_sinkFromTop_42 rfl hl rfl ?_
        refine q_al_n (i := 0) hx hb d_F_sinkFromTop_43 rfl hl rfl ?_
        refine s_getr (C := R_F) (T := F_F) (N := 1) (ci := 6) hx hb hg in_F hown hK hM (by assumption) rfl 0 (by decide) rfl (hg _ kw_61) (fun _ h9 => h9) d_F_sinkFromTop_44 ?_
        rw [hq]
        refine q_iload_n (i := 3) hx hb d_F_sinkFromTop_47 rfl hl rfl ?_
        refine s_calli (r_V 1 [.int (nI i)] rfl hx hb hml hown hg (m_U_at l D dA _ _ b r cap N h (nI (i)) hNm) (hM.pre hK hX) (hM.recv hK kb (q := cls.getD 5 (R_H, F_H, 7)) rfl) kw_205 kw_100 kw_101 kw_3 kw_102 (by decide +kernel) ⟨Nat.le_of_ble_eq_true rfl, Nat.le_of_ble_eq_true rfl⟩ rfl rfl hl.sz (by first | exact Nat.le_of_ble_eq_true rfl | simp [rf_cat] | simp [rf_cat, Value.category]) d_F_sinkFromTop_48 ⟨hcs.1, hcs.2⟩ rfl) hM (fun r1 u H locs hp hM => ?_)
        obtain ⟨rfl, hp⟩ := hp
        have e1 : r1 = nI (v i) := by
          rcases hp with ⟨-, e⟩ | ⟨z, -⟩
          · rw [e, nI_clamp (by omega), ev]
          · exact absurd (vp_in_nI hiN (by omega)) z
        subst e1
        refine s_callv (r_V 2 [.int (nI pl), .int (nI (v i))] rfl hx hb hml hown hg (m_U_set l D dA _ _ b r cap N h (nI pl) (nI (v i)) hNm) (hM.pre hK hX) (hM.recv hK kb (q := cls.getD 5 (R_H, F_H, 7)) rfl) kw_206 kw_207 kw_208 kw_3 kw_209 (by decide +kernel) ⟨Nat.le_of_ble_eq_true rfl, Nat.le_of_ble_eq_true rfl⟩ rfl rfl hl.sz (by first | exact Nat.le_of_ble_eq_true rfl | simp [rf_cat] | simp [rf_cat, Value.category]) d_F_sinkFromTop_51 ⟨hcs.1, hcs.2⟩ rfl) hM (fun u H locs hp hM => ?_)
        rcases hp with ⟨-, rfl⟩ | ⟨hz, -⟩
        · dsimp only at hM
          rw [nI_clamp (by omega)] at hM
          refine q_iload_n (i := 3) hx hb d_F_sinkFromTop_54 rfl hl rfl ?_
          refine q_istore_n (i := 2) hx hb d_F_sinkFromTop_55 rfl hl (by decide) (fun ls hl => ?_)
          simp only [List.set_cons_succ, List.set_cons_zero] at hl
          refine lv_goto (tgt := 2) hx hb d_F_sinkFromTop_56 (by decide) ?_
          refine ih i _ (hp_sw v pl i) (fun j => if j = pl then v i else h j) H locs ls _ (by omega) hM hl ⟨kb, hrow, kr, ?_, hle, h16, hcap, fun j hj => ?_⟩ (Or.inl hiN) (hp_dn_step hdn hiN hi2 hmin (by rw [hvp]; exact c2)) (by rw [hp_sw_q]; exact hvp) (fun j hj hne => ?_) (fun j hj => ?_) (fun j hj => ?_) (hP v pl i hplN hiN hPv) (fun z hz => by rw [up2_off _ _ hz]; exact hit z hz)
          · show up2 it r pl (nI (v i)) b 1 = nI N
            rw [up2_off _ _ (Nm_ne hNm)]; exact hn
          · show up2 it r pl (nI (v i)) r j = nI (if j = pl then v i else h j)
            by_cases e : j = pl
            · rw [e, up2_self, if_pos rfl]
            · rw [up2_ne _ _ e, if_neg e]; exact hf j hj
          · show (if j = pl then v i else h j) = _
            by_cases e : j = pl
            · rw [e, if_pos rfl, hp_sw_p]
            · rw [if_neg e, hp_sw_o v e hne]; exact hhv j hj e
          · by_cases e : j = pl
            · rw [e, hp_sw_p]; exact hv9 _ hiN
            · by_cases e2 : j = i
              · rw [e2, hp_sw_q]; exact hv9 _ hplN
              · rw [hp_sw_o v e e2]; exact hv9 _ hj
          · show (if j = pl then v i else h j) < 16384
            by_cases e : j = pl
            · rw [if_pos e]; exact hv9 _ hiN
            · rw [if_neg e]; exact hh9 j hj
        · exact absurd (vp_in_nI hplN (by omega)) hz
      · refine lv_goto (tgt := 59) hx hb d_F_sinkFromTop_35 (by decide) ?_
        exact fin _ _ _ _ hM hl (hp_dn_end hdn (fun j hj hjN hjp => by have := hmin j hj hjN hjp; omega))
set_option maxHeartbeats 4000000 in
set_option maxRecDepth 100000 in
theorem m_F_sink (l : Launch) (D : va_G) (dA : Nat → ClassId) (S : sS) (sz : Nat) (q b r cap N : Nat) (h : Nat → Nat) (x : Nat) (v : Nat → Nat) (P : (Nat → Nat) → Prop) (hL : Lf S q b r cap N h) (hdn : hp_dn v N 0) (hv0 : v 0 = x) (hhv : ∀ i, i < N → i ≠ 0 → h i = v i) (hv9 : ∀ i, i < N → v i < 16384) (hh9 : ∀ i, i < N → h i < 16384) (hx9 : x < 16384) (hP : ∀ v i j, i < N → j < N → P v → P (hp_sw v i j)) (hPv : P v) :
    cV l y_F_sinkFromTop c_F_sinkFromTop 4 (rmk 3 0 0) D dA S sz [.ref q, .int (nI x)] (fun u => ∃ it v2, u = (S.1, S.2.1, it, S.2.2.2) ∧ Nm u b r cap N v2 ∧ hp_ok v2 N ∧ P v2 ∧ ∀ z, z ≠ r → it z = S.2.2.1 z) (0) (0) := by
  obtain ⟨kd, rf, it, lg⟩ := S
  obtain ⟨kq, hq, hNm⟩ := hL
  dsimp only at kq hq
  refine s_met (cc := c_F_sinkFromTop) (maxL := 4) (by decide) rfl (by simp [Value.category]) (by simp [lg_sl, Value.category]) ?_
  intro p e s m args below meth c ls hx hb hr hts hown hlocks hin hml hK hX hsz hM hl
  have hg := gd_hts hts
  have hl : lc ls 4 [some (va_rf (some q)), some (.int (nI x)), none, none] := hl
  refine lv_iconst (v := nI 0) hx hb d_F_sinkFromTop_0 (by decide) ?_
  refine q_istore_n (i := 2) hx hb d_F_sinkFromTop_1 rfl hl (by decide) (fun ls hl => ?_)
  simp only [List.set_cons_succ, List.set_cons_zero] at hl
  refine sink_loop hx hb hml hown hg hK hX (mc := 0) (ms := 0) ⟨Nat.le_refl _, Nat.le_refl _⟩ kq hq hx9 it P hP ?_ N 0 it v h s.heap [] ls _ (by omega) hM hl hNm (by omega) hdn hv0 hhv hv9 hh9 hPv (fun z hz => rfl)
  intro it2 v2 H locs ls hM hNm2 hok2 hP2 hit2
  exact s_vret hx hb hr hM ⟨it2, v2, rfl, hNm2, hok2, hP2, hit2⟩ d_F_sinkFromTop_68 hlocks
/-- what take does -/
def TakeP (S : sS) (q b r cap n : Nat) (v : Nat → Nat) (x : Int32) (u : sS) : Prop :=
  x = nI (v 0) ∧ u.1 = S.1 ∧ ∃ v', Lf u q b r cap (n - 1) v' ∧ hp_ok v' (n - 1) ∧ ((∀ y, hp_set v' (n - 1) y ↔ hp_set v n y ∧ y ≠ v 0) ∧ hp_inj v' (n - 1) ∧ ∀ i, i < n - 1 → v' i < 16384) ∧ sFr S u (fun z => z = b ∨ z = r)
set_option maxHeartbeats 4000000 in
set_option maxRecDepth 100000 in
theorem m_F_take (l : Launch) (D : va_G) (dA : Nat → ClassId) (S : sS) (sz : Nat) (q b r cap n : Nat) (v : Nat → Nat) (h : Lf S q b r cap n v) (h0 : 0 < n) (hok : hp_ok v n) (hinj : hp_inj v n) (hv9 : ∀ i, i < n → v i < 16384) :
    cI l y_F_take c_F_take 3 (some .int) (rmk 4 0 0) D dA S sz [.ref q] (TakeP S q b r cap n v) (0) (0) := by
  obtain ⟨kd, rf, it, lg⟩ := S
  obtain ⟨kq, hq, hNm⟩ := h
  have hNm' := hNm
  obtain ⟨kb, hrow, kr, hn, hle, h16, hcap, hf⟩ := hNm'
  dsimp only at kq hq kb hrow kr hn hf
  have hbr : b ≠ r := Nm_ne hNm
  refine s_met (cc := c_F_take) (maxL := 3) (by decide) rfl (by simp [Value.category]) (by simp [lg_sl, Value.category]) ?_
  intro p e s m args below meth c ls hx hb hr hts hown hlocks hin hml hK hX hsz hM hl
  have hg := gd_hts hts
  have hl : lc ls 3 [some (va_rf (some q)), none, none] := hl
  refine q_al_n (i := 0) hx hb d_F_take_0 rfl hl rfl ?_
  refine s_getr (C := R_F) (T := F_F) (N := 1) (ci := 6) hx hb hg in_F hown hK hM (by assumption) rfl 0 (by decide) rfl (hg _ kw_61) (fun _ h9 => h9) d_F_take_1 ?_
  rw [hq]
  refine lv_iconst (v := nI 0) hx hb d_F_take_4 (by decide) ?_
  refine s_calli (r_V 1 [.int (nI 0)] rfl hx hb hml hown hg (m_U_at l D dA _ _ b r cap n v (nI 0) hNm) (hM.pre hK hX) (hM.recv hK kb (q := cls.getD 5 (R_H, F_H, 7)) rfl) kw_205 kw_100 kw_101 kw_3 kw_102 (by decide +kernel) ⟨Nat.le_of_ble_eq_true rfl, Nat.le_of_ble_eq_true rfl⟩ rfl rfl hl.sz (by first | exact Nat.le_of_ble_eq_true rfl | simp [rf_cat] | simp [rf_cat, Value.category]) d_F_take_5 ⟨Nat.le_refl _, Nat.le_refl _⟩ rfl) hM (fun r1 u H locs hp hM => ?_)
  obtain ⟨rfl, hp⟩ := hp
  have e1 : r1 = nI (v 0) := by
    rcases hp with ⟨-, e⟩ | ⟨z, -⟩
    · rw [e, nI_clamp (by omega)]
    · exact absurd (vp_in_nI h0 (by omega)) z
  subst e1
  refine q_istore_n (i := 1) hx hb d_F_take_8 rfl hl (by decide) (fun ls hl => ?_)
  simp only [List.set_cons_succ, List.set_cons_zero] at hl
  refine q_al_n (i := 0) hx hb d_F_take_9 rfl hl rfl ?_
  refine s_getr (C := R_F) (T := F_F) (N := 1) (ci := 6) hx hb hg in_F hown hK hM (by assumption) rfl 0 (by decide) rfl (hg _ kw_61) (fun _ h9 => h9) d_F_take_10 ?_
  rw [hq]
  refine s_calli (r_V 0 [] rfl hx hb hml hown hg (m_U_takeLast l D dA _ _ b r cap n v hNm h0) (hM.pre hK hX) (hM.recv hK kb (q := cls.getD 5 (R_H, F_H, 7)) rfl) kw_222 kw_223 kw_224 kw_3 kw_225 (by decide +kernel) ⟨Nat.le_of_ble_eq_true rfl, Nat.le_of_ble_eq_true rfl⟩ rfl rfl hl.sz (by first | exact Nat.le_of_ble_eq_true rfl | simp [rf_cat] | simp [rf_cat, Value.category]) d_F_take_13 ⟨Nat.le_refl _, Nat.le_refl _⟩ rfl) hM (fun r1 u H locs hp hM => ?_)
  obtain ⟨rfl, rfl⟩ := hp
  dsimp only at hM
  refine q_istore_n (i := 2) hx hb d_F_take_16 rfl hl (by decide) (fun ls hl => ?_)
  simp only [List.set_cons_succ, List.set_cons_zero] at hl
  refine q_al_n (i := 0) hx hb d_F_take_17 rfl hl rfl ?_
  refine q_iload_n (i := 2) hx hb d_F_take_18 rfl hl rfl ?_
  have hNm3 : Nm (kd, rf, up2 it b 1 (nI (n - 1)), lg) b r cap (n - 1) v := ⟨kb, hrow, kr, up2_self _ _ _ _, by omega, h16, hcap, fun i hi => by
    show up2 it b 1 (nI (n - 1)) r i = nI (v i)
    rw [up2_off _ _ (fun z => hbr z.symm)]; exact hf i (by omega)⟩
  have hP0 : (∀ y, hp_set (fun i => if i = 0 then v (n - 1) else v i) (n - 1) y ↔ hp_set v n y ∧ y ≠ v 0) ∧ hp_inj (fun i => if i = 0 then v (n - 1) else v i) (n - 1) ∧ ∀ i, i < n - 1 → (fun i => if i = 0 then v (n - 1) else v i) i < 16384 := by
    refine ⟨fun y => ⟨?_, ?_⟩, fun i j hi hj hij => ?_, fun i hi => ?_⟩
    · rintro ⟨i, hi, e⟩
      dsimp only at e
      by_cases z : i = 0
      · rw [if_pos z] at e
        exact ⟨⟨n - 1, by omega, e⟩, fun y0 => by have := hinj (n - 1) 0 (by omega) h0 (e.trans y0); omega⟩
      · rw [if_neg z] at e
        exact ⟨⟨i, by omega, e⟩, fun y0 => z (hinj i 0 (by omega) h0 (e.trans y0))⟩
    · rintro ⟨⟨i, hi, e⟩, hne⟩
      have hi0 : i ≠ 0 := fun z => hne (by rw [← e, z])
      by_cases z : i = n - 1
      · exact ⟨0, by omega, by dsimp only; rw [if_pos rfl, ← z]; exact e⟩
      · exact ⟨i, by omega, by dsimp only; rw [if_neg hi0]; exact e⟩
    · dsimp only at hij
      by_cases z1 : i = 0
      · by_cases z2 : j = 0
        · omega
        · rw [if_pos z1, if_neg z2] at hij; have := hinj (n - 1) j (by omega) (by omega) hij; omega
      · by_cases z2 : j = 0
        · rw [if_neg z1, if_pos z2] at hij; have := hinj i (n - 1) (by omega) (by omega) hij; omega
        · rw [if_neg z1, if_neg z2] at hij; exact hinj i j (by omega) (by omega) hij
    · dsimp only
      by_cases z : i = 0
      · rw [if_pos z]; exact hv9 _ (by omega)
      · rw [if_neg z]; exact hv9 i (by omega)
  have hok' : hp_ok v (n - 1 + 1) := by rw [show n - 1 + 1 = n by omega]; exact hok
  refine s_callv (r_V 1 [.int (nI (v (n - 1)))] rfl hx hb hml hown hg (m_F_sink l D dA _ _ q b r cap (n - 1) v (v (n - 1)) (fun i => if i = 0 then v (n - 1) else v i) (fun w => (∀ y, hp_set w (n - 1) y ↔ hp_set v n y ∧ y ≠ v 0) ∧ hp_inj w (n - 1) ∧ ∀ i, i < n - 1 → w i < 16384) ⟨kq, hq, hNm3⟩ (hp_dn_start hok' (fun i hi hin => if_neg (by omega))) (if_pos rfl) (fun i hi hne => (if_neg hne).symm) hP0.2.2 (fun i hi => hv9 i (by omega)) (hv9 _ (by omega)) (fun w i j hi hj a => ⟨fun y => (hp_sw_set hi hj y).trans (a.1 y), hp_sw_inj hi hj a.2.1, hp_sw_lt hi hj a.2.2⟩) hP0) (hM.pre hK hX) (hM.recv hK kq (q := cls.getD 6 (R_H, F_H, 7)) rfl) kw_227 kw_229 ks_6 kw_4 kw_230 (by decide +kernel) ⟨Nat.le_of_ble_eq_true rfl, Nat.le_of_ble_eq_true rfl⟩ rfl rfl hl.sz (by first | exact Nat.le_of_ble_eq_true rfl | simp [rf_cat] | simp [rf_cat, Value.category]) d_F_take_19 ⟨Nat.le_refl _, Nat.le_refl _⟩ rfl) hM (fun u H locs hp hM => ?_)
  obtain ⟨it2, v2, rfl, hNm2, hok2, hP2, hit2⟩ := hp
  dsimp only at hM hit2
  refine q_iload_n (i := 1) hx hb d_F_take_22 rfl hl rfl ?_
  refine s_iret hx hb hr hM ⟨rfl, rfl, v2, ⟨kq, hq, hNm2⟩, hok2, hP2, ?_⟩ d_F_take_23 hlocks
  intro z hz
  refine ⟨rfl, fun hn9 => ⟨rfl, ?_, rfl⟩⟩
  show it2 z = it z
  rw [hit2 z (fun y => hn9 (Or.inr y)), up2_off _ _ (fun y => hn9 (Or.inl y))]
end
section
set_option maxHeartbeats 4000000 in
set_option maxRecDepth 100000 in
theorem m_U_init (l : Launch) (D : va_G) (dA : Nat → ClassId) (S : sS) (sz : Nat) (a : Nat) (h : S.1 a = some (.inl 5)) :
    cV l y_U_init c_U_init 1 (rmk 1 1 16) D dA S sz [.ref a] (fun u => ∃ r, S.1 r = none ∧ u = (va_up S.1 r (some (.inr (0, 16))), up2 (upr S.2.1 r (fun _ => none)) a 0 (some r), upr S.2.2.1 r (fun _ => 0), upr S.2.2.2 r (fun _ => 0))) (1) (16) := by
  obtain ⟨kd, rf, it, lg⟩ := S
  have ka : kd a = some (.inl 5) := h
  refine s_met (cc := c_U_init) (maxL := 1) (by decide) rfl (by simp [Value.category]) (by simp [lg_sl, Value.category]) ?_
  intro p e s m args below meth c ls hx hb hr hts hown hlocks hin hml hK hX hsz hM hl
  have hg := gd_hts hts
  have hl : lc ls 1 [some (va_rf (some a))] := hl
  refine q_al_n (i := 0) hx hb d_U_init_0 rfl hl rfl ?_
  refine W.objInit hx hb hown (hg _ kw_42) (hg _ kw_23) (hg _ kw_24) rfl (by rw [hml]; exact hl.sz) rfl d_U_init_1 (Nat.le_of_ble_eq_true rfl) (Nat.le_of_ble_eq_true rfl) ?_
  refine W.eq (g2 := F0 m 4 ls []) rfl ?_
  refine q_al_n (i := 0) hx hb d_U_init_4 rfl hl rfl ?_
  refine lv_bipush (v := nI 16) hx hb d_U_init_5 (by decide) ?_
  refine s_newi (t := 0) (ty := .int) (atype := .int) hx hb (hg _ kw_52) rfl rfl (fun _ h => h) hK rfl rfl hM (nI_pos (by omega)) (nI_clamp (by omega)) (by decide) (by show 0 + 1 ≤ 1; omega) (by show 0 + 16 ≤ 16; omega) d_U_init_7 (fun r H hr9 hM => ?_)
  have ka2 : va_up kd r (some (.inr (0, 16))) a = some (.inl 5) := by rw [va_up_ne _ _ (sk_ne ka hr9)]; exact ka
  refine s_putr (C := R_U) (T := F_U) (N := 2) (ci := 5) hx hb hg in_U ft_U ft_U_ok fn_U hown hK hM ka2 rfl 0 (by decide) rfl (hg _ kw_43) (fun _ h9 => h9) rfl (some r) (rf_narrowA _ _) (rf_fitsA _ _) d_U_init_9 (fun H locs hM => ?_)
  exact s_vret hx hb hr hM ⟨r, hr9, rfl⟩ d_U_init_12 hlocks
set_option maxHeartbeats 4000000 in
set_option maxRecDepth 100000 in
theorem m_P_init (l : Launch) (D : va_G) (dA : Nat → ClassId) (S : sS) (sz : Nat) (a : Nat) (h : S.1 a = some (.inl 2)) :
    cV l y_P_init c_P_init 1 (rmk 1 1 128) D dA S sz [.ref a] (fun u => ∃ r, S.1 r = none ∧ u = (va_up S.1 r (some (.inr (2, 128))), up2 (upr S.2.1 r (fun _ => none)) a 0 (some r), upr S.2.2.1 r (fun _ => 0), upr S.2.2.2 r (fun _ => 0))) (1) (128) := by
  obtain ⟨kd, rf, it, lg⟩ := S
  have ka : kd a = some (.inl 2) := h
  refine s_met (cc := c_P_init) (maxL := 1) (by decide) rfl (by simp [Value.category]) (by simp [lg_sl, Value.category]) ?_
  intro p e s m args below meth c ls hx hb hr0 hts hown hlocks hin hml hK hX hsz hM hl
  have hg := gd_hts hts
  have hl : lc ls 1 [some (va_rf (some a))] := hl
  refine q_al_n (i := 0) hx hb d_P_init_0 rfl hl rfl ?_
  refine W.objInit hx hb hown (hg _ kw_118) (hg _ kw_23) (hg _ kw_24) rfl (by rw [hml]; exact hl.sz) rfl d_P_init_1 (Nat.le_of_ble_eq_true rfl) (Nat.le_of_ble_eq_true rfl) ?_
  refine W.eq (g2 := F0 m 4 ls []) rfl ?_
  refine q_al_n (i := 0) hx hb d_P_init_4 rfl hl rfl ?_
  refine lv_sipush (v := 128) hx hb d_P_init_5 (by decide) ?_
  refine s_newq (t := 2) (C := "HangOrder$Node") (N' := 128) hx hb hown (hg _ kw_119) (va_AO.use hX.2.2) hK rfl rfl hM (by decide) (by decide) (by decide) (by show 0 + 1 ≤ 1; omega) (by show 0 + 128 ≤ 128; omega) d_P_init_8 (fun r H hr hM => ?_)
  have ka2 : va_up kd r (some (.inr (2, 128))) a = some (.inl 2) := by rw [va_up_ne _ _ (sk_ne ka hr)]; exact ka
  refine s_putFr (C := R_P) (T := F_P) (N := 1) (ci := 2) hx hb hg in_P ft_P ft_P_ok fn_P hown hK hM ka2 rfl 0 (by decide) rfl (hg _ kw_121) (fun _ h9 => h9) rfl hin rfl (some r) (rf_narrowA _ _) (rf_fitsA _ _) d_P_init_11 (fun H locs hM => ?_)
  exact s_vret hx hb hr0 hM ⟨r, hr, rfl⟩ d_P_init_14 hlocks
set_option maxHeartbeats 4000000 in
set_option maxRecDepth 100000 in
theorem m_T_init (l : Launch) (D : va_G) (dA : Nat → ClassId) (S : sS) (sz : Nat) (a : Nat) (h : S.1 a = some (.inl 1)) :
    cV l y_T_init c_T_init 1 (rmk 1 1 128) D dA S sz [.ref a] (fun u => ∃ r, S.1 r = none ∧ u = (va_up S.1 r (some (.inr (1, 128))), up2 (upr S.2.1 r (fun _ => none)) a 0 (some r), upr S.2.2.1 r (fun _ => 0), upr S.2.2.2 r (fun _ => 0))) (1) (128) := by
  obtain ⟨kd, rf, it, lg⟩ := S
  have ka : kd a = some (.inl 1) := h
  refine s_met (cc := c_T_init) (maxL := 1) (by decide) rfl (by simp [Value.category]) (by simp [lg_sl, Value.category]) ?_
  intro p e s m args below meth c ls hx hb hr0 hts hown hlocks hin hml hK hX hsz hM hl
  have hg := gd_hts hts
  have hl : lc ls 1 [some (va_rf (some a))] := hl
  refine q_al_n (i := 0) hx hb d_T_init_0 rfl hl rfl ?_
  refine W.objInit hx hb hown (hg _ kw_30) (hg _ kw_23) (hg _ kw_24) rfl (by rw [hml]; exact hl.sz) rfl d_T_init_1 (Nat.le_of_ble_eq_true rfl) (Nat.le_of_ble_eq_true rfl) ?_
  refine W.eq (g2 := F0 m 4 ls []) rfl ?_
  refine q_al_n (i := 0) hx hb d_T_init_4 rfl hl rfl ?_
  refine lv_sipush (v := 128) hx hb d_T_init_5 (by decide) ?_
  refine s_newq (t := 1) (C := "HangOrder$Page") (N' := 128) hx hb hown (hg _ kw_31) (va_AO.use hX.2.1) hK rfl rfl hM (by decide) (by decide) (by decide) (by show 0 + 1 ≤ 1; omega) (by show 0 + 128 ≤ 128; omega) d_T_init_8 (fun r H hr hM => ?_)
  have ka2 : va_up kd r (some (.inr (1, 128))) a = some (.inl 1) := by rw [va_up_ne _ _ (sk_ne ka hr)]; exact ka
  refine s_putFr (C := R_T) (T := F_T) (N := 1) (ci := 1) hx hb hg in_T ft_T ft_T_ok fn_T hown hK hM ka2 rfl 0 (by decide) rfl (hg _ kw_33) (fun _ h9 => h9) rfl hin rfl (some r) (rf_narrowA _ _) (rf_fitsA _ _) d_T_init_11 (fun H locs hM => ?_)
  exact s_vret hx hb hr0 hM ⟨r, hr, rfl⟩ d_T_init_14 hlocks
set_option maxHeartbeats 4000000 in
set_option maxRecDepth 100000 in
theorem m_N_init (l : Launch) (D : va_G) (dA : Nat → ClassId) (S : sS) (sz : Nat) (a : Nat) (k : Int32) (h : S.1 a = some (.inl 3)) :
    cV l y_N_init c_N_init 2 (rmk 1 0 0) D dA S sz [.ref a, .int k] (fun u => u = (S.1, S.2.1, up2 S.2.2.1 a 0 k, S.2.2.2)) (0) (0) := by
  obtain ⟨kd, rf, it, lg⟩ := S
  have ka : kd a = some (.inl 3) := h
  refine s_met (cc := c_N_init) (maxL := 2) (by decide) rfl (by simp [Value.category]) (by simp [lg_sl, Value.category]) ?_
  intro p e s m args below meth c ls hx hb hr hts hown hlocks hin hml hK hX hsz hM hl
  have hg := gd_hts hts
  have hl : lc ls 2 [some (va_rf (some a)), some (.int k)] := hl
  refine q_al_n (i := 0) hx hb d_N_init_0 rfl hl rfl ?_
  refine W.objInit hx hb hown (hg _ kw_131) (hg _ kw_23) (hg _ kw_24) rfl (by rw [hml]; exact hl.sz) rfl d_N_init_1 (Nat.le_of_ble_eq_true rfl) (Nat.le_of_ble_eq_true rfl) ?_
  refine W.eq (g2 := F0 m 4 ls []) rfl ?_
  refine q_al_n (i := 0) hx hb d_N_init_4 rfl hl rfl ?_
  refine q_iload_n (i := 1) hx hb d_N_init_5 rfl hl rfl ?_
  refine s_putFi (C := R_N) (T := F_N) (N := 9) (ci := 3) hx hb hg in_N ft_N ft_N_ok fn_N hown hK hM (by assumption) rfl 0 (by decide) rfl (hg _ kw_132) (fun _ h9 => h9) rfl hin rfl rfl rfl d_N_init_6 (fun H locs hM => ?_)
  exact s_vret hx hb hr hM rfl d_N_init_9 hlocks
set_option maxHeartbeats 4000000 in
set_option maxRecDepth 100000 in
theorem m_K_init (l : Launch) (D : va_G) (dA : Nat → ClassId) (S : sS) (sz : Nat) (a x y : Nat) (h : S.1 a = some (.inl 4)) :
    cV l y_K_init c_K_init 3 (rmk 1 0 0) D dA S sz [.ref a, .ref x, .ref y] (fun u => u = (S.1, up2 (up2 S.2.1 a 0 (some x)) a 1 (some y), S.2.2.1, S.2.2.2)) (0) (0) := by
  obtain ⟨kd, rf, it, lg⟩ := S
  have ka : kd a = some (.inl 4) := h
  refine s_met (cc := c_K_init) (maxL := 3) (by decide) rfl (by simp [Value.category]) (by simp [lg_sl, Value.category]) ?_
  intro p e s m args below meth c ls hx hb hr hts hown hlocks hin hml hK hX hsz hM hl
  have hg := gd_hts hts
  have hl : lc ls 3 [some (va_rf (some a)), some (va_rf (some x)), some (va_rf (some y))] := hl
  refine q_al_n (i := 0) hx hb d_K_init_0 rfl hl rfl ?_
  refine W.objInit hx hb hown (hg _ kw_376) (hg _ kw_23) (hg _ kw_24) rfl (by rw [hml]; exact hl.sz) rfl d_K_init_1 (Nat.le_of_ble_eq_true rfl) (Nat.le_of_ble_eq_true rfl) ?_
  refine W.eq (g2 := F0 m 4 ls []) rfl ?_
  refine q_al_n (i := 0) hx hb d_K_init_4 rfl hl rfl ?_
  refine q_al_n (i := 1) hx hb d_K_init_5 rfl hl rfl ?_
  refine s_putFr (C := R_K) (T := F_K) (N := 6) (ci := 4) hx hb hg in_K ft_K ft_K_ok fn_K hown hK hM (by assumption) rfl 0 (by decide) rfl (hg _ kw_377) (fun _ h9 => h9) rfl hin rfl (_) (rf_narrow _ _) (rf_fits _ _) d_K_init_6 (fun H locs hM => ?_)
  refine q_al_n (i := 0) hx hb d_K_init_9 rfl hl rfl ?_
  refine q_al_n (i := 2) hx hb d_K_init_10 rfl hl rfl ?_
  refine s_putFr (C := R_K) (T := F_K) (N := 6) (ci := 4) hx hb hg in_K ft_K ft_K_ok fn_K hown hK hM (by assumption) rfl 1 (by decide) rfl (hg _ kw_379) (fun _ h9 => h9) rfl hin rfl (_) (rf_narrow _ _) (rf_fits _ _) d_K_init_11 (fun H locs hM => ?_)
  exact s_vret hx hb hr hM rfl d_K_init_14 hlocks
set_option maxHeartbeats 4000000 in
set_option maxRecDepth 100000 in
theorem m_F_init (l : Launch) (D : va_G) (dA : Nat → ClassId) (S : sS) (sz : Nat) (a : Nat) (h : S.1 a = some (.inl 6)) :
    cV l y_F_init c_F_init 1 (rmk 2 2 18) D dA S sz [.ref a] (fun u => ∃ b r, b ≠ r ∧ S.1 b = none ∧ S.1 r = none ∧ Lf u a b r 16 0 (fun _ => 0) ∧ sFr S u (fun z => z = a) ∧ ∀ z, S.1 z = none → u.1 z ≠ none → z = b ∨ z = r) (2) (18) := by
  obtain ⟨kd, rf, it, lg⟩ := S
  have ka : kd a = some (.inl 6) := h
  refine s_met (cc := c_F_init) (maxL := 1) (by decide) rfl (by simp [Value.category]) (by simp [lg_sl, Value.category]) ?_
  intro p e s m args below meth c ls hx hb hr hts hown hlocks hin hml hK hX hsz hM hl
  have hg := gd_hts hts
  have hl : lc ls 1 [some (va_rf (some a))] := hl
  refine q_al_n (i := 0) hx hb d_F_init_0 rfl hl rfl ?_
  refine W.objInit hx hb hown (hg _ kw_58) (hg _ kw_23) (hg _ kw_24) rfl (by rw [hml]; exact hl.sz) rfl d_F_init_1 (Nat.le_of_ble_eq_true rfl) (Nat.le_of_ble_eq_true rfl) ?_
  refine W.eq (g2 := F0 m 4 ls []) rfl ?_
  refine q_al_n (i := 0) hx hb d_F_init_4 rfl hl rfl ?_
  refine s_new (C := R_U) (T := F_U) (N := 2) (ci := 5) hx hb hg in_U ft_U ft_U_ok hown (hg _ kw_59) (hg _ kw_38) (hg _ kw_3) hK hM rfl df_U (by show 0 + 1 ≤ 2; omega) (by show 0 + 2 ≤ 18; omega) d_F_init_5 (fun b H hb9 hM => ?_)
  dsimp only [sNew] at hM hb9
  refine lv_dup hx hb d_F_init_8 rfl ?_
  have hab : a ≠ b := sk_ne ka hb9
  have kb1 : va_up kd b (some (.inl 5)) b = some (.inl 5) := va_up_self _ _ _
  refine s_callv (r_IN (host := "HangOrder") 0 [] rfl hx hb hml hown hg (m_U_init l D dA _ _ b kb1) (hM.pre hK hX) rfl (hX.1 _ (List.mem_of_getElem? (i := 3) rfl)) kw_40 kw_3 kw_41 (by decide +kernel) ⟨Nat.le_of_ble_eq_true rfl, Nat.le_of_ble_eq_true rfl⟩ rfl rfl hl.sz (by first | exact Nat.le_of_ble_eq_true rfl | simp [rf_cat] | simp [rf_cat, Value.category]) d_F_init_9 ⟨by show 0 + 1 + 1 ≤ 2; omega, by show 0 + 2 + 16 ≤ 18; omega⟩ rfl) hM (fun u H locs hp hM => ?_)
  obtain ⟨r, hr9, rfl⟩ := hp
  dsimp only at hr9 hM
  have hbr : b ≠ r := sk_ne kb1 hr9
  have har : a ≠ r := fun z => by rw [← z, va_up_ne _ _ hab, ka] at hr9; cases hr9
  have hrn : kd r = none := by rw [va_up_ne _ _ (fun z => hbr z.symm)] at hr9; exact hr9
  have ka3 : va_up (va_up kd b (some (.inl 5))) r (some (.inr (0, 16))) a = some (.inl 6) := by rw [va_up_ne _ _ har, va_up_ne _ _ hab]; exact ka
  refine s_putFr (C := R_F) (T := F_F) (N := 1) (ci := 6) hx hb hg in_F ft_F ft_F_ok fn_F hown hK hM ka3 rfl 0 (by decide) rfl (hg _ kw_61) (fun _ h9 => h9) rfl hin rfl (some b) (rf_narrow _ _) (rf_fits _ _) d_F_init_12 (fun H locs hM => ?_)
  refine W.widen (k := 2) (n := 18) (by omega) (by omega) ?_
  refine s_vret hx hb hr hM ⟨b, r, hbr, hb9, hrn, ⟨ka3, up2_self _ _ _ _, ?_, ?_, va_up_self _ _ _, ?_, by omega, by omega, by omega, fun i hi => absurd hi (Nat.not_lt_zero i)⟩, fun z hz => ?_, fun z h1 h2 => ?_⟩ d_F_init_15 hlocks
  · show va_up (va_up kd b (some (.inl 5))) r (some (.inr (0, 16))) b = some (.inl 5)
    rw [va_up_ne _ _ hbr, va_up_self]
  · show up2 (up2 (upr (upr rf b (fun _ => none)) r (fun _ => none)) b 0 (some r)) a 0 (some b) b 0 = some r
    rw [up2_off _ _ (fun z => hab z.symm), up2_self]
  · show upr (upr it b (fun _ => 0)) r (fun _ => 0) b 1 = nI 0
    rw [upr_off _ _ hbr, upr_self]; rfl
  · have hzb : z ≠ b := fun y => hz (by rw [y]; exact hb9)
    have hzr : z ≠ r := fun y => hz (by rw [y]; exact hrn)
    refine ⟨by show va_up (va_up kd b _) r _ z = kd z; rw [va_up_ne _ _ hzr, va_up_ne _ _ hzb], fun hn9 => ⟨?_, ?_, ?_⟩⟩
    · show up2 (up2 (upr (upr rf b _) r _) b 0 (some r)) a 0 (some b) z = rf z
      rw [up2_off _ _ hn9, up2_off _ _ hzb, upr_off _ _ hzr, upr_off _ _ hzb]
    · show upr (upr it b _) r _ z = it z
      rw [upr_off _ _ hzr, upr_off _ _ hzb]
    · show upr (upr lg b _) r _ z = lg z
      rw [upr_off _ _ hzr, upr_off _ _ hzb]
  · by_cases e1 : z = b
    · exact Or.inl e1
    · by_cases e2 : z = r
      · exact Or.inr e2
      · exact absurd (by show va_up (va_up kd b _) r _ z = none; rw [va_up_ne _ _ e2, va_up_ne _ _ e1]; exact h1) h2
end
section
theorem nI_pg {j : Nat} (h : j < 16384) : (nI j >>> ((7 : Int32) &&& 31)) &&& 127 = nI (j / 128) := by
  rw [pk_shrN (by omega) _ 7 (by decide), pk_andN (by omega) 7 (by decide)]
  rw [Nat.mod_eq_of_lt (by omega)]
theorem nI_pj {j : Nat} (h : j < 16384) : nI j &&& 127 = nI (j % 128) := pk_andN (by omega) 7 (by decide)
set_option maxHeartbeats 4000000 in
set_option maxRecDepth 100000 in
theorem m_H_isNode (l : Launch) (D : va_G) (dA : Nat → ClassId) (S : sS) (sz : Nat) (k : Int32)  :
    cI l y_H_isNode c_H_isNode 1 (some .boolean) (rmk 0 0 0) D dA S sz [.int k] (fun x u => u = S ∧ ((x = 1 ∧ vp_in k 16384) ∨ (x = 0 ∧ ¬ vp_in k 16384))) (0) (0) := by
  refine s_met (cc := c_H_isNode) (maxL := 1) (by decide) rfl (by simp [Value.category]) (by simp [lg_sl, Value.category]) ?_
  intro p e s m args below meth c ls hx hb hr hts hown hlocks hin hml hK hX hsz hM hl
  have hg := gd_hts hts
  have hl : lc ls 1 [some (.int k)] := hl
  refine q_iload_n (i := 0) hx hb d_H_isNode_0 rfl hl rfl ?_
  refine lv_if_lt (tgt := 15) hx hb d_H_isNode_1 (by decide) (fun c1 => ?_) (fun c1 => ?_)
  · refine lv_iconst (v := 0) hx hb d_H_isNode_15 (by decide) ?_
    exact s_zret hx hb hr rfl hM ⟨rfl, Or.inr ⟨rfl, fun q => q (Or.inl c1)⟩⟩ d_H_isNode_16 hlocks
  · refine q_iload_n (i := 0) hx hb d_H_isNode_4 rfl hl rfl ?_
    refine lv_sipush (v := nI 16384) hx hb d_H_isNode_5 (by decide) ?_
    refine lv_icmp_ge (tgt := 15) hx hb d_H_isNode_8 (by decide) (fun c2 => ?_) (fun c2 => ?_)
    · refine lv_iconst (v := 0) hx hb d_H_isNode_15 (by decide) ?_
      exact s_zret hx hb hr rfl hM ⟨rfl, Or.inr ⟨rfl, vi_ge c2 (by omega)⟩⟩ d_H_isNode_16 hlocks
    · refine lv_iconst (v := 1) hx hb d_H_isNode_11 (by decide) ?_
      refine lv_goto (tgt := 16) hx hb d_H_isNode_12 (by decide) ?_
      exact s_zret hx hb hr rfl hM ⟨rfl, Or.inl ⟨rfl, vi_of c1 c2 (by omega)⟩⟩ d_H_isNode_16 hlocks
set_option maxHeartbeats 4000000 in
set_option maxRecDepth 100000 in
theorem m_T_pageIndex (l : Launch) (D : va_G) (dA : Nat → ClassId) (S : sS) (sz : Nat) (j : Nat) (hj : j < 16384) :
    cI l y_T_pageIndex c_T_pageIndex 1 (some .int) (rmk 0 0 0) D dA S sz [.int (nI j)] (fun x u => u = S ∧ x = nI (j / 128)) (0) (0) := by
  refine s_met (cc := c_T_pageIndex) (maxL := 1) (by decide) rfl (by simp [Value.category]) (by simp [lg_sl, Value.category]) ?_
  intro p e s m args below meth c ls hx hb hr hts hown hlocks hin hml hK hX hsz hM hl
  have hg := gd_hts hts
  have hl : lc ls 1 [some (.int (nI j))] := hl
  refine q_iload_n (i := 0) hx hb d_T_pageIndex_0 rfl hl rfl ?_
  refine lv_bipush (v := 7) hx hb d_T_pageIndex_1 (by decide) ?_
  refine lv_ishr hx hb d_T_pageIndex_3 ?_
  refine lv_bipush (v := 127) hx hb d_T_pageIndex_4 (by decide) ?_
  refine lv_iand hx hb d_T_pageIndex_6 ?_
  rw [nI_pg hj]
  exact s_iret hx hb hr hM ⟨rfl, rfl⟩ d_T_pageIndex_7 hlocks
/-- NodeTable at tb, its pages at pa: node n is at nd n -/
def Tb (S : sS) (tb pa : Nat) (nd : Nat → Option Nat) : Prop :=
  S.1 tb = some (.inl 1) ∧ S.2.1 tb 0 = some pa ∧ S.1 pa = some (.inr (1, 128)) ∧
  (∀ i, i < 128 → (S.2.1 pa i = none ∧ ∀ j, j < 128 → nd (128 * i + j) = none) ∨ ∃ pg row, S.2.1 pa i = some pg ∧ S.1 pg = some (.inl 2) ∧ S.2.1 pg 0 = some row ∧ S.1 row = some (.inr (2, 128)) ∧ ∀ j, j < 128 → S.2.1 row j = nd (128 * i + j)) ∧
  (∀ i i' pg pg' row, i < 128 → i' < 128 → S.2.1 pa i = some pg → S.2.1 pa i' = some pg' → S.2.1 pg 0 = some row → S.2.1 pg' 0 = some row → i = i') ∧
  ∀ n a, nd n = some a → n < 16384 ∧ S.1 a = some (.inl 3) ∧ S.2.2.1 a 0 = nI n
theorem tb_j {j : Nat} : 128 * (j / 128) + j % 128 = j := by omega
set_option maxHeartbeats 4000000 in
set_option maxRecDepth 100000 in
theorem m_T_at (l : Launch) (D : va_G) (dA : Nat → ClassId) (S : sS) (sz : Nat) (tb pa : Nat) (nd : Nat → Option Nat) (k : Int32) (h : Tb S tb pa nd) :
    cQ l y_T_at c_T_at 3 (some (.object "HangOrder$Node")) (rmk 1 0 0) D dA S sz [.ref tb, .int k] (fun x u => u = S ∧ ((vp_in k 16384 ∧ x = nd k.toNatClampNeg) ∨ (¬ vp_in k 16384 ∧ x = none))) (0) (0) := by
  obtain ⟨kd, rf, it, lg⟩ := S
  obtain ⟨kt, ht, kp, hpg, hdi, hnd⟩ := h
  dsimp only at kt ht kp hpg hdi hnd
  refine s_met (cc := c_T_at) (maxL := 3) (by decide) rfl (by simp [Value.category]) (by simp [lg_sl, Value.category]) ?_
  intro p e s m args below meth c ls hx hb hr hts hown hlocks hin hml hK hX hsz hM hl
  have hg := gd_hts hts
  have hl : lc ls 3 [some (va_rf (some tb)), some (.int k), none] := hl
  refine q_iload_n (i := 1) hx hb d_T_at_0 rfl hl rfl ?_
  refine s_calli (r_SN (host := "HangOrder") 1 [.int k] rfl hx hb hml hown hg (m_H_isNode l D dA _ _ k) (hM.pre hK hX) (hX.1 _ (List.mem_of_getElem? (i := 5) rfl)) kw_260 kw_1 kw_261 (by decide +kernel) ⟨Nat.le_of_ble_eq_true rfl, Nat.le_of_ble_eq_true rfl⟩ rfl rfl hl.sz (by first | exact Nat.le_of_ble_eq_true rfl | simp [rf_cat] | simp [rf_cat, Value.category]) d_T_at_1 ⟨Nat.le_refl _, Nat.le_refl _⟩ rfl) hM (fun r1 u H locs hp hM => ?_)
  obtain ⟨rfl, hp⟩ := hp
  refine lv_if_ne (tgt := 9) hx hb d_T_at_4 (by decide) (fun c1 => ?_) (fun c1 => ?_)
  · rcases hp with ⟨-, hv⟩ | ⟨e1, -⟩
    · obtain ⟨j, hj, ej⟩ := vp_in_of hv (by omega)
      have ek : k.toNatClampNeg = j := by rw [ej]; exact nI_clamp (by omega)
      rw [ej] at hl
      refine q_al_n (i := 0) hx hb d_T_at_9 rfl hl rfl ?_
      refine s_getr (C := R_T) (T := F_T) (N := 1) (ci := 1) hx hb hg in_T hown hK hM (by assumption) rfl 0 (by decide) rfl (hg _ kw_33) (fun _ h9 => h9) d_T_at_10 ?_
      rw [ht]
      refine q_iload_n (i := 1) hx hb d_T_at_13 rfl hl rfl ?_
      refine s_calli (r_S 1 [.int (nI j)] rfl hx hb hml hown hg (m_T_pageIndex l D dA _ _ j hj) (hM.pre hK hX) kw_111 kw_112 kw_2 kw_113 (by decide +kernel) ⟨Nat.le_of_ble_eq_true rfl, Nat.le_of_ble_eq_true rfl⟩ rfl rfl hl.sz (by first | exact Nat.le_of_ble_eq_true rfl | simp [rf_cat] | simp [rf_cat, Value.category]) d_T_at_14 ⟨Nat.le_refl _, Nat.le_refl _⟩ rfl) hM (fun r1 u H locs hp hM => ?_)
      obtain ⟨rfl, rfl⟩ := hp
      refine s_ald (t := 1) (C := "HangOrder$Page") hx hb hK hM kp rfl rfl (vp_in_nI (by omega) (by omega)) d_T_at_17 ?_
      rw [nI_clamp (by omega)]
      refine q_astore_n (i := 2) hx hb (_) d_T_at_18 rfl hl (by decide) (fun ls hl => ?_)
      simp only [List.set_cons_succ, List.set_cons_zero] at hl
      refine q_al_n (i := 2) hx hb d_T_at_19 rfl hl rfl ?_
      refine q_ifnonnull (tgt := 27) hx hb d_T_at_20 (by decide) (fun pg c2 => ?_) (fun c2 => ?_)
      · rcases hpg (j / 128) (by omega) with ⟨z, -⟩ | ⟨pg2, row, z1, kg, hro, kro, hrow⟩
        · rw [z] at c2; cases c2
        · have e2 : pg2 = pg := Option.some.inj (z1.symm.trans c2)
          subst e2
          rw [z1] at hl
          refine q_al_n (i := 2) hx hb d_T_at_27 rfl hl rfl ?_
          refine s_getr (C := R_P) (T := F_P) (N := 1) (ci := 2) hx hb hg in_P hown hK hM (by assumption) rfl 0 (by decide) rfl (hg _ kw_122) (fun _ h9 => h9) d_T_at_28 ?_
          rw [hro]
          refine q_iload_n (i := 1) hx hb d_T_at_31 rfl hl rfl ?_
          refine lv_bipush (v := 127) hx hb d_T_at_32 (by decide) ?_
          refine lv_iand hx hb d_T_at_34 ?_
          rw [nI_pj hj]
          refine s_ald (t := 2) (C := "HangOrder$Node") hx hb hK hM kro rfl rfl (vp_in_nI (by omega) (by omega)) d_T_at_35 ?_
          rw [nI_clamp (by omega), hrow _ (by omega), tb_j]
          exact s_qret (nd j) hx hb hr (Or.inl ⟨_, rfl⟩) hM ⟨rfl, Or.inl ⟨hv, by rw [ek]⟩⟩ d_T_at_36 hlocks
      · refine lv_null hx hb d_T_at_23 ?_
        refine lv_goto (tgt := 36) hx hb d_T_at_24 (by decide) ?_
        rcases hpg (j / 128) (by omega) with ⟨-, z⟩ | ⟨pg2, row, z1, -⟩
        · refine s_qret none hx hb hr (Or.inl ⟨_, rfl⟩) hM ⟨rfl, Or.inl ⟨hv, ?_⟩⟩ d_T_at_36 hlocks
          have := z (j % 128) (by omega)
          rw [tb_j] at this
          rw [ek, this]
        · rw [z1] at c2; cases c2
    · exact absurd e1 c1
  · rcases hp with ⟨e1, -⟩ | ⟨-, hv⟩
    · rw [e1] at c1; exact absurd c1 (by decide)
    · refine lv_null hx hb d_T_at_7 ?_
      exact s_qret none hx hb hr (Or.inl ⟨_, rfl⟩) hM ⟨rfl, Or.inr ⟨hv, rfl⟩⟩ d_T_at_8 hlocks
set_option maxHeartbeats 4000000 in
set_option maxRecDepth 100000 in
theorem m_T_of (l : Launch) (D : va_G) (dA : Nat → ClassId) (S : sS) (sz : Nat) (tb pa : Nat) (nd : Nat → Option Nat) (j a : Nat) (h : Tb S tb pa nd) (hj : j < 16384) (ha : nd j = some a) :
    cQ l y_T_of c_T_of 5 (some (.object "HangOrder$Node")) (rmk 2 0 0) D dA S sz [.ref tb, .int (nI j)] (fun x u => u = S ∧ x = some a) (0) (0) := by
  obtain ⟨kd, rf, it, lg⟩ := S
  obtain ⟨kt, ht, kp, hpg, hdi, hnd⟩ := h
  dsimp only at kt ht kp hpg hdi hnd
  refine s_met (cc := c_T_of) (maxL := 5) (by decide) rfl (by simp [Value.category]) (by simp [lg_sl, Value.category]) ?_
  intro p e s m args below meth c ls hx hb hr hts hown hlocks hin hml hK hX hsz hM hl
  have hg := gd_hts hts
  have hl : lc ls 5 [some (va_rf (some tb)), some (.int (nI j)), none, none, none] := hl
  refine q_iload_n (i := 1) hx hb d_T_of_0 rfl hl rfl ?_
  refine s_calli (r_S 1 [.int (nI j)] rfl hx hb hml hown hg (m_T_pageIndex l D dA _ _ j hj) (hM.pre hK hX) kw_111 kw_112 kw_2 kw_113 (by decide +kernel) ⟨Nat.le_of_ble_eq_true rfl, Nat.le_of_ble_eq_true rfl⟩ rfl rfl hl.sz (by first | exact Nat.le_of_ble_eq_true rfl | simp [rf_cat] | simp [rf_cat, Value.category]) d_T_of_1 ⟨Nat.le_refl _, Nat.le_refl _⟩ rfl) hM (fun r1 u H locs hp hM => ?_)
  obtain ⟨rfl, rfl⟩ := hp
  refine q_istore_n (i := 2) hx hb d_T_of_4 rfl hl (by decide) (fun ls hl => ?_)
  simp only [List.set_cons_succ, List.set_cons_zero] at hl
  refine q_al_n (i := 0) hx hb d_T_of_5 rfl hl rfl ?_
  refine s_getr (C := R_T) (T := F_T) (N := 1) (ci := 1) hx hb hg in_T hown hK hM (by assumption) rfl 0 (by decide) rfl (hg _ kw_33) (fun _ h9 => h9) d_T_of_6 ?_
  rw [ht]
  refine q_iload_n (i := 2) hx hb d_T_of_9 rfl hl rfl ?_
  refine s_ald (t := 1) (C := "HangOrder$Page") hx hb hK hM kp rfl rfl (vp_in_nI (by omega) (by omega)) d_T_of_10 ?_
  rw [nI_clamp (by omega)]
  rcases hpg (j / 128) (by omega) with ⟨-, z⟩ | ⟨pg, row, z1, kg, hro, kro, hrow⟩
  · have := z (j % 128) (by omega)
    rw [tb_j, ha] at this
    cases this
  · rw [z1]
    refine q_astore_n (i := 3) hx hb (some pg) d_T_of_11 rfl hl (by decide) (fun ls hl => ?_)
    simp only [List.set_cons_succ, List.set_cons_zero] at hl
    refine q_al_n (i := 3) hx hb d_T_of_12 rfl hl rfl ?_
    refine q_ifnonnull (tgt := 31) hx hb d_T_of_13 (by decide) (fun pg2 c2 => ?_) (fun c2 => ?_)
    · refine q_al_n (i := 3) hx hb d_T_of_31 rfl hl rfl ?_
      refine s_getr (C := R_P) (T := F_P) (N := 1) (ci := 2) hx hb hg in_P hown hK hM (by assumption) rfl 0 (by decide) rfl (hg _ kw_122) (fun _ h9 => h9) d_T_of_32 ?_
      rw [hro]
      refine q_iload_n (i := 1) hx hb d_T_of_35 rfl hl rfl ?_
      refine lv_bipush (v := 127) hx hb d_T_of_36 (by decide) ?_
      refine lv_iand hx hb d_T_of_38 ?_
      rw [nI_pj hj]
      refine s_ald (t := 2) (C := "HangOrder$Node") hx hb hK hM kro rfl rfl (vp_in_nI (by omega) (by omega)) d_T_of_39 ?_
      rw [nI_clamp (by omega), hrow _ (by omega), tb_j, ha]
      refine q_astore hx hb (_) d_T_of_40 hl (by decide) (fun ls hl => ?_)
      simp only [List.set_cons_succ, List.set_cons_zero] at hl
      refine q_al hx hb d_T_of_42 hl rfl ?_
      refine q_ifnonnull (tgt := 68) hx hb d_T_of_44 (by decide) (fun y3 c3 => ?_) (fun c3 => ?_)
      · refine q_al hx hb d_T_of_68 hl rfl ?_
        exact s_qret (some a) hx hb hr (Or.inl ⟨_, rfl⟩) hM ⟨rfl, rfl⟩ d_T_of_70 hlocks
      · cases c3
    · cases c2
end
section
theorem sk_nn {k : sK} {o : Option sK} (h : o = some k) : o ≠ none := fun z => by rw [z] at h; cases h
theorem sk_d {kd : Nat → Option sK} {a b : Nat} {k k2 : sK} (h : kd a = some k) (h2 : kd b = some k2) (hk : k ≠ k2) : a ≠ b := fun z => by
  rw [z, h2] at h
  exact hk (Option.some.inj h).symm
/-- a node made -/
theorem Tb_node {S u : sS} {tb pa j a pg row : Nat} {nd : Nat → Option Nat} (h : Tb S tb pa nd) (hj : j < 16384) (hpg : S.2.1 pa (j / 128) = some pg) (hrow : S.2.1 pg 0 = some row) (kpg : S.1 pg = some (.inl 2)) (krow : S.1 row = some (.inr (2, 128))) (ha : S.1 a = none)
    (hk : ∀ b, b ≠ a → u.1 b = S.1 b) (hka : u.1 a = some (.inl 3)) (hr : ∀ b, b ≠ a → b ≠ row → u.2.1 b = S.2.1 b) (hrr : ∀ k, u.2.1 row k = if k = j % 128 then some a else S.2.1 row k) (hi : ∀ b, b ≠ a → u.2.2.1 b = S.2.2.1 b) (hia : u.2.2.1 a 0 = nI j) : Tb u tb pa (va_up nd j (some a)) := by
  obtain ⟨kt, ht, kp, hpgs, hdi, hnd⟩ := h
  have t1 : tb ≠ a := sk_ne kt ha
  have t2 : tb ≠ row := sk_d kt krow (by decide)
  have p1 : pa ≠ a := sk_ne kp ha
  have p2 : pa ≠ row := sk_d kp krow (by decide)
  refine ⟨by rw [hk tb t1]; exact kt, by rw [hr tb t1 t2]; exact ht, by rw [hk pa p1]; exact kp, fun i hi9 => ?_, fun i i' g g' rw' h1 h2 h3 h4 h5 h6 => ?_, fun n b hb => ?_⟩
  · rcases hpgs i hi9 with ⟨z1, z2⟩ | ⟨g, r9, z1, z2, z3, z4, z5⟩
    · refine Or.inl ⟨by rw [hr pa p1 p2]; exact z1, fun j' hj' => ?_⟩
      rw [va_up_ne _ _ (fun q => ?_)]
      · exact z2 j' hj'
      · have : j / 128 = i := by omega
        rw [this, z1] at hpg; cases hpg
    · have g1 : g ≠ a := sk_ne z2 ha
      have g2 : g ≠ row := sk_d z2 krow (by decide)
      have q1 : r9 ≠ a := sk_ne z4 ha
      refine Or.inr ⟨g, r9, by rw [hr pa p1 p2]; exact z1, by rw [hk g g1]; exact z2, by rw [hr g g1 g2]; exact z3, by rw [hk r9 q1]; exact z4, fun j' hj' => ?_⟩
      by_cases e : r9 = row
      · have ei : i = j / 128 := hdi i (j / 128) g pg row hi9 (by omega) z1 hpg (by rw [← e]; exact z3) hrow
        rw [e, hrr]
        by_cases e2 : j' = j % 128
        · rw [if_pos e2, show 128 * i + j' = j by omega, va_up_self]
        · rw [if_neg e2, va_up_ne _ _ (by omega), ← e]; exact z5 j' hj'
      · have ei : i ≠ j / 128 := fun q => by
          rw [q, hpg] at z1
          have : pg = g := Option.some.inj z1
          rw [← this, hrow] at z3
          exact e (Option.some.inj z3).symm
        rw [hr r9 q1 e, va_up_ne _ _ (by omega)]; exact z5 j' hj'
  · rw [hr pa p1 p2] at h3 h4
    have kk : ∀ (i g : Nat), i < 128 → S.2.1 pa i = some g → u.2.1 g 0 = S.2.1 g 0 := by
      intro i g hi9 hg
      rcases hpgs i hi9 with ⟨z1, -⟩ | ⟨g2, r9, z1, z2, -⟩
      · rw [z1] at hg; cases hg
      · have e : g2 = g := Option.some.inj (z1.symm.trans hg)
        rw [← e, hr g2 (sk_ne z2 ha) (sk_d z2 krow (by decide))]
    rw [kk i g h1 h3] at h5
    rw [kk i' g' h2 h4] at h6
    exact hdi i i' g g' rw' h1 h2 h3 h4 h5 h6
  · by_cases e : n = j
    · rw [e, va_up_self] at hb
      have eb : a = b := Option.some.inj hb
      rw [← eb, e]
      exact ⟨hj, hka, hia⟩
    · rw [va_up_ne _ _ e] at hb
      obtain ⟨b1, b2, b3⟩ := hnd n b hb
      have hba : b ≠ a := sk_ne b2 ha
      exact ⟨b1, by rw [hk b hba]; exact b2, by rw [hi b hba]; exact b3⟩
/-- a page made -/
theorem Tb_page {S u : sS} {tb pa i pg row : Nat} {nd : Nat → Option Nat} (h : Tb S tb pa nd) (hi0 : i < 128) (hno : S.2.1 pa i = none) (kpg : S.1 pg = none) (krow : S.1 row = none) (hne : pg ≠ row)
    (hk : ∀ b, b ≠ pg → b ≠ row → u.1 b = S.1 b) (hkp : u.1 pg = some (.inl 2)) (hkr : u.1 row = some (.inr (2, 128))) (hr : ∀ b, b ≠ pg → b ≠ row → b ≠ pa → u.2.1 b = S.2.1 b) (hrp : u.2.1 pg 0 = some row) (hrr : ∀ k, u.2.1 row k = none) (hpa : ∀ k, u.2.1 pa k = if k = i then some pg else S.2.1 pa k) (hi : ∀ b, b ≠ pg → b ≠ row → u.2.2.1 b = S.2.2.1 b) : Tb u tb pa nd := by
  obtain ⟨kt, ht, kp, hpgs, hdi, hnd⟩ := h
  have ne : ∀ {b : Nat} {k : sK}, S.1 b = some k → b ≠ pg ∧ b ≠ row := fun hb => ⟨sk_ne hb kpg, sk_ne hb krow⟩
  have tpa : tb ≠ pa := sk_d kt kp (by decide)
  have old : ∀ (i' g : Nat), i' < 128 → S.2.1 pa i' = some g → ∃ r9, S.1 g = some (.inl 2) ∧ S.2.1 g 0 = some r9 ∧ S.1 r9 = some (.inr (2, 128)) ∧ u.2.1 g = S.2.1 g := by
    intro i' g hi9 hg
    rcases hpgs i' hi9 with ⟨z1, -⟩ | ⟨g2, r9, z1, z2, z3, z4, -⟩
    · rw [z1] at hg; cases hg
    · have e : g2 = g := Option.some.inj (z1.symm.trans hg)
      subst e
      exact ⟨r9, z2, z3, z4, hr g2 (ne z2).1 (ne z2).2 (sk_d z2 kp (by decide))⟩
  refine ⟨by rw [hk tb (ne kt).1 (ne kt).2]; exact kt, by rw [hr tb (ne kt).1 (ne kt).2 tpa]; exact ht, by rw [hk pa (ne kp).1 (ne kp).2]; exact kp, fun i' hi9 => ?_, fun i1 i2 g g' rw' h1 h2 h3 h4 h5 h6 => ?_, fun n b hb => ?_⟩
  · by_cases e : i' = i
    · refine Or.inr ⟨pg, row, by rw [hpa, if_pos e], hkp, hrp, hkr, fun j' hj' => ?_⟩
      rw [hrr]
      rcases hpgs i' hi9 with ⟨-, z2⟩ | ⟨g, r9, z1, -⟩
      · exact (z2 j' hj').symm
      · rw [e, hno] at z1; cases z1
    · rcases hpgs i' hi9 with ⟨z1, z2⟩ | ⟨g, r9, z1, z2, z3, z4, z5⟩
      · exact Or.inl ⟨by rw [hpa, if_neg e]; exact z1, z2⟩
      · refine Or.inr ⟨g, r9, by rw [hpa, if_neg e]; exact z1, by rw [hk g (ne z2).1 (ne z2).2]; exact z2, by rw [hr g (ne z2).1 (ne z2).2 (sk_d z2 kp (by decide))]; exact z3, by rw [hk r9 (ne z4).1 (ne z4).2]; exact z4, fun j' hj' => ?_⟩
        rw [hr r9 (ne z4).1 (ne z4).2 (sk_d z4 kp (by decide))]; exact z5 j' hj'
  · rw [hpa] at h3 h4
    by_cases e1 : i1 = i
    · by_cases e2 : i2 = i
      · omega
      · rw [if_pos e1] at h3; rw [if_neg e2] at h4
        obtain ⟨r9, z2, z3, z4, z5⟩ := old i2 g' h2 h4
        rw [← Option.some.inj h3, hrp] at h5
        rw [z5, z3] at h6
        have : r9 = row := (Option.some.inj h6).trans (Option.some.inj h5).symm
        exact absurd this (ne z4).2
    · by_cases e2 : i2 = i
      · rw [if_neg e1] at h3; rw [if_pos e2] at h4
        obtain ⟨r9, z2, z3, z4, z5⟩ := old i1 g h1 h3
        rw [← Option.some.inj h4, hrp] at h6
        rw [z5, z3] at h5
        have : r9 = row := (Option.some.inj h5).trans (Option.some.inj h6).symm
        exact absurd this (ne z4).2
      · rw [if_neg e1] at h3; rw [if_neg e2] at h4
        obtain ⟨r9, z2, z3, z4, z5⟩ := old i1 g h1 h3
        obtain ⟨r8, y2, y3, y4, y5⟩ := old i2 g' h2 h4
        rw [z5] at h5
        rw [y5] at h6
        exact hdi i1 i2 g g' rw' h1 h2 h3 h4 h5 h6
  · obtain ⟨b1, b2, b3⟩ := hnd n b hb
    exact ⟨b1, by rw [hk b (ne b2).1 (ne b2).2]; exact b2, by rw [hi b (ne b2).1 (ne b2).2]; exact b3⟩
/-- an array of references -/
def isRA (S : sS) (b : Nat) : Prop := ∃ t n, S.1 b = some (.inr (t, n)) ∧ (t = 1 ∨ t = 2)
/-- what of does: node j stands at a -/
def OfP (S : sS) (tb pa : Nat) (nd : Nat → Option Nat) (j a : Nat) (u : sS) : Prop :=
  Tb u tb pa (va_up nd j (some a)) ∧ (nd j = some a ∨ (nd j = none ∧ S.1 a = none ∧ u.1 a = some (.inl 3) ∧ (∀ k, u.2.1 a k = none) ∧ ∀ k, k ≠ 0 → u.2.2.1 a k = 0)) ∧ sFr S u (isRA S) ∧ ∀ b, S.1 b = none → u.1 b ≠ none → b = a ∨ u.1 b = some (.inl 2) ∨ ∃ n, u.1 b = some (.inr (2, n))
theorem va_up_same {α : Type} {f : Nat → α} {k : Nat} {v : α} (h : f k = v) : va_up f k v = f := by
  funext i
  by_cases e : i = k
  · rw [e, va_up_self, h]
  · rw [va_up_ne _ _ e]
set_option maxHeartbeats 4000000 in
set_option maxRecDepth 100000 in
theorem of_tail {p : Program} {l : Launch} {e : Env} {s : State} {m : MethodId} {args : Array Value} {below : List Frame} {meth : Method} {c : Code} {D : va_G} {dA : Nat → ClassId} {A : Nat → Prop} {Q : State → Prop} (hx : p.tables.exec = Jvm.exec) (hb : c.code = c_T_of) (hml : c.maxLocals = 5) (hown : s.vm.findClass R_T = some m.cls) (hg : ∀ w ∈ gd, w.before args s = true) (hK : va_K D cls (tys dA) s) (hX : sKx s) {mc ms cells slots : Nat} (hcs : cells + 1 ≤ mc ∧ slots + 9 ≤ ms) {S : sS} {tb pa j pg row : Nat} {nd : Nat → Option Nat} {o : Option Value} (h : Tb S tb pa nd) (hj : j < 16384) (hpg : S.2.1 pa (j / 128) = some pg) (hrow : S.2.1 pg 0 = some row) (kpg : S.1 pg = some (.inl 2)) (krow : S.1 row = some (.inr (2, 128)))
    {H : Heap} {locs : List Loc} {ls : Array Slot} (hM : SW D dA A s.heap S H locs) (hl : lc ls 5 [some (va_rf (some tb)), some (.int (nI j)), o, some (va_rf (some pg)), none])
    (kk : ∀ (a : Nat) (u : sS) (H : Heap) (locs : List Loc) (ls : Array Slot), SW D dA A s.heap u H locs → OfP S tb pa nd j a u → W p l e (rmk 2 mc ms) s m args below meth c H locs (cells + 1) (slots + 9) Q (F0 m 70 ls [va_rf (some a)])) : W p l e (rmk 2 mc ms) s m args below meth c H locs cells slots Q (F0 m 31 ls []) := by
  obtain ⟨kd, rf, it, lg⟩ := S
  have h' := h
  obtain ⟨kt, ht, kp, hpgs, hdi, hnd⟩ := h'
  dsimp only at kt ht kp hpgs hdi hnd hpg hrow kpg krow
  have hcont : rf row (j % 128) = nd j := by
    rcases hpgs (j / 128) (by omega) with ⟨z1, -⟩ | ⟨g, r9, z1, z2, z3, z4, z5⟩
    · rw [z1] at hpg; cases hpg
    · have e : g = pg := Option.some.inj (z1.symm.trans hpg)
      subst e
      have e2 : r9 = row := Option.some.inj (z3.symm.trans hrow)
      subst e2
      have := z5 (j % 128) (by omega)
      rw [tb_j] at this; exact this
  refine q_al_n (i := 3) hx hb d_T_of_31 rfl hl rfl ?_
  refine s_getr (C := R_P) (T := F_P) (N := 1) (ci := 2) hx hb hg in_P hown hK hM kpg rfl 0 (by decide) rfl (hg _ kw_122) (fun _ h9 => h9) d_T_of_32 ?_
  rw [hrow]
  refine q_iload_n (i := 1) hx hb d_T_of_35 rfl hl rfl ?_
  refine lv_bipush (v := 127) hx hb d_T_of_36 (by decide) ?_
  refine lv_iand hx hb d_T_of_38 ?_
  rw [nI_pj hj]
  refine s_ald (t := 2) (C := "HangOrder$Node") hx hb hK hM krow rfl rfl (vp_in_nI (by omega) (by omega)) d_T_of_39 ?_
  rw [nI_clamp (by omega), hcont]
  refine q_astore hx hb (_) d_T_of_40 hl (by decide) (fun ls hl => ?_)
  simp only [List.set_cons_succ, List.set_cons_zero] at hl
  refine q_al hx hb d_T_of_42 hl rfl ?_
  refine q_ifnonnull (tgt := 68) hx hb d_T_of_44 (by decide) (fun y3 c3 => ?_) (fun c3 => ?_)
  · refine q_al hx hb d_T_of_68 hl rfl ?_
    rw [c3]
    refine W.widen (k := cells + 1) (n := slots + 9) (by omega) (by omega) ?_
    exact kk y3 _ H locs ls hM ⟨by rw [va_up_same c3]; exact h, Or.inl c3, sFr.rf, fun b h1 h2 => absurd h1 h2⟩
  · refine s_new (C := R_N) (T := F_N) (N := 9) (ci := 3) hx hb hg in_N ft_N ft_N_ok hown (hg _ kw_126) (hg _ kw_127) (hg _ kw_12) hK hM rfl df_N hcs.1 hcs.2 d_T_of_47 (fun a H ha hM => ?_)
    dsimp only [sNew] at hM ha
    have ka : va_up kd a (some (.inl 3)) a = some (.inl 3) := va_up_self _ _ _
    refine lv_dup hx hb d_T_of_50 rfl ?_
    refine q_iload_n (i := 1) hx hb d_T_of_51 rfl hl rfl ?_
    refine s_callv (r_I 1 [.int (nI j)] rfl hx hb hml hown hg (m_N_init l D dA _ _ a (nI j) ka) (hM.pre hK hX) rfl kw_128 kw_129 kw_12 kw_130 (by decide +kernel) ⟨Nat.le_of_ble_eq_true rfl, Nat.le_of_ble_eq_true rfl⟩ rfl rfl hl.sz (by first | exact Nat.le_of_ble_eq_true rfl | simp [rf_cat] | simp [rf_cat, Value.category]) d_T_of_52 ⟨hcs.1, hcs.2⟩ rfl) hM (fun u H locs hp hM => ?_)
    subst hp
    dsimp only at hM
    have n1 : pg ≠ a := sk_ne kpg ha
    have n2 : row ≠ a := sk_ne krow ha
    have kpg2 : va_up kd a (some (.inl 3)) pg = some (.inl 2) := by rw [va_up_ne _ _ n1]; exact kpg
    have krow2 : va_up kd a (some (.inl 3)) row = some (.inr (2, 128)) := by rw [va_up_ne _ _ n2]; exact krow
    have hrow2 : upr rf a (fun _ => none) pg 0 = some row := by rw [upr_off _ _ n1]; exact hrow
    refine q_astore hx hb (some a) d_T_of_55 hl (by decide) (fun ls hl => ?_)
    simp only [List.set_cons_succ, List.set_cons_zero] at hl
    refine q_al_n (i := 3) hx hb d_T_of_57 rfl hl rfl ?_
    refine s_getr (C := R_P) (T := F_P) (N := 1) (ci := 2) hx hb hg in_P hown hK hM kpg2 rfl 0 (by decide) rfl (hg _ kw_122) (fun _ h9 => h9) d_T_of_58 ?_
    rw [hrow2]
    refine q_iload_n (i := 1) hx hb d_T_of_61 rfl hl rfl ?_
    refine lv_bipush (v := 127) hx hb d_T_of_62 (by decide) ?_
    refine lv_iand hx hb d_T_of_64 ?_
    rw [nI_pj hj]
    refine q_al hx hb d_T_of_65 hl rfl ?_
    refine s_ast (t := 2) (ci := 3) (r := (R_N, F_N, 9)) hx hb hK hM krow2 rfl rfl ka rfl (vp_in_nI (by omega) (by omega)) d_T_of_67 (fun H locs hM => ?_)
    rw [nI_clamp (by omega)] at hM
    refine q_al hx hb d_T_of_68 hl rfl ?_
    have hT : Tb (va_up kd a (some (.inl 3)), up2 (upr rf a (fun _ => none)) row (j % 128) (some a), up2 (upr it a (fun _ => 0)) a 0 (nI j), upr lg a (fun _ => 0)) tb pa (va_up nd j (some a)) := by
      refine Tb_node h hj hpg hrow kpg krow ha (fun b hb9 => va_up_ne _ _ hb9) ka (fun b hb9 hb8 => ?_) (fun k => ?_) (fun b hb9 => ?_) (up2_self _ _ _ _)
      · show up2 (upr rf a (fun _ => none)) row (j % 128) (some a) b = rf b
        rw [up2_off _ _ hb8, upr_off _ _ hb9]
      · show up2 (upr rf a (fun _ => none)) row (j % 128) (some a) row k = if k = j % 128 then some a else rf row k
        rw [up2_row, upr_off _ _ n2]
      · show up2 (upr it a (fun _ => 0)) a 0 (nI j) b = it b
        rw [up2_off _ _ hb9, upr_off _ _ hb9]
    refine kk a _ H locs ls hM ⟨hT, Or.inr ⟨c3, ha, ka, fun k => ?_, fun k hk => ?_⟩, fun b hb9 => ?_, fun b h1 h2 => ?_⟩
    · show up2 (upr rf a (fun _ => none)) row (j % 128) (some a) a k = none
      rw [up2_off _ _ (fun z => n2 z.symm), upr_self]
    · show up2 (upr it a (fun _ => 0)) a 0 (nI j) a k = 0
      rw [up2_ne _ _ hk, upr_self]
    · have hba : b ≠ a := fun z => hb9 (by rw [z]; exact ha)
      refine ⟨va_up_ne _ _ hba, fun hn9 => ⟨?_, ?_, ?_⟩⟩
      · show up2 (upr rf a (fun _ => none)) row (j % 128) (some a) b = rf b
        rw [up2_off _ _ (fun z => hn9 (by rw [z]; exact ⟨2, 128, krow, Or.inr rfl⟩)), upr_off _ _ hba]
      · show up2 (upr it a (fun _ => 0)) a 0 (nI j) b = it b
        rw [up2_off _ _ hba, upr_off _ _ hba]
      · show upr lg a (fun _ => 0) b = lg b
        rw [upr_off _ _ hba]
    · by_cases e : b = a
      · exact Or.inl e
      · exact absurd (by show va_up kd a _ b = none; rw [va_up_ne _ _ e]; exact h1) h2
set_option maxHeartbeats 4000000 in
set_option maxRecDepth 100000 in
theorem m_T_ofN (l : Launch) (D : va_G) (dA : Nat → ClassId) (S : sS) (sz : Nat) (tb pa : Nat) (nd : Nat → Option Nat) (j : Nat) (h : Tb S tb pa nd) (hj : j < 16384) :
    cQ l y_T_of c_T_of 5 (some (.object "HangOrder$Node")) (rmk 2 3 138) D dA S sz [.ref tb, .int (nI j)] (fun x u => ∃ a, x = some a ∧ OfP S tb pa nd j a u) (3) (138) := by
  obtain ⟨kd, rf, it, lg⟩ := S
  have h' := h
  obtain ⟨kt, ht, kp, hpgs, hdi, hnd⟩ := h'
  dsimp only at kt ht kp hpgs hdi hnd
  refine s_met (cc := c_T_of) (maxL := 5) (by decide) rfl (by simp [Value.category]) (by simp [lg_sl, Value.category]) ?_
  intro p e s m args below meth c ls hx hb hr hts hown hlocks hin hml hK hX hsz hM hl
  have hg := gd_hts hts
  have hl : lc ls 5 [some (va_rf (some tb)), some (.int (nI j)), none, none, none] := hl
  refine q_iload_n (i := 1) hx hb d_T_of_0 rfl hl rfl ?_
  refine s_calli (r_S 1 [.int (nI j)] rfl hx hb hml hown hg (m_T_pageIndex l D dA _ _ j hj) (hM.pre hK hX) kw_111 kw_112 kw_2 kw_113 (by decide +kernel) ⟨Nat.le_of_ble_eq_true rfl, Nat.le_of_ble_eq_true rfl⟩ rfl rfl hl.sz (by first | exact Nat.le_of_ble_eq_true rfl | simp [rf_cat] | simp [rf_cat, Value.category]) d_T_of_1 ⟨by show 0 + 0 ≤ 3; omega, by show 0 + 0 ≤ 138; omega⟩ rfl) hM (fun r1 u H locs hp hM => ?_)
  obtain ⟨rfl, rfl⟩ := hp
  refine q_istore_n (i := 2) hx hb d_T_of_4 rfl hl (by decide) (fun ls hl => ?_)
  simp only [List.set_cons_succ, List.set_cons_zero] at hl
  refine q_al_n (i := 0) hx hb d_T_of_5 rfl hl rfl ?_
  refine s_getr (C := R_T) (T := F_T) (N := 1) (ci := 1) hx hb hg in_T hown hK hM (by assumption) rfl 0 (by decide) rfl (hg _ kw_33) (fun _ h9 => h9) d_T_of_6 ?_
  rw [ht]
  refine q_iload_n (i := 2) hx hb d_T_of_9 rfl hl rfl ?_
  refine s_ald (t := 1) (C := "HangOrder$Page") hx hb hK hM kp rfl rfl (vp_in_nI (by omega) (by omega)) d_T_of_10 ?_
  rw [nI_clamp (by omega)]
  rcases hpgs (j / 128) (by omega) with ⟨z, -⟩ | ⟨pg, row, z1, kg, hro, kro, hrow⟩
  · rw [z]
    refine q_astore_n (i := 3) hx hb (none) d_T_of_11 rfl hl (by decide) (fun ls hl => ?_)
    simp only [List.set_cons_succ, List.set_cons_zero] at hl
    refine q_al_n (i := 3) hx hb d_T_of_12 rfl hl rfl ?_
    refine q_ifnonnull (tgt := 31) hx hb d_T_of_13 (by decide) (fun pg2 c2 => ?_) (fun c2 => ?_)
    · cases c2
    · refine s_new (C := R_P) (T := F_P) (N := 1) (ci := 2) hx hb hg in_P ft_P ft_P_ok hown (hg _ kw_31) (hg _ kw_114) (hg _ kw_11) hK hM rfl df_P (by show 0 + 0 + 1 ≤ 3; omega) (by show 0 + 0 + 1 ≤ 138; omega) d_T_of_16 (fun pg H hpg hM => ?_)
      dsimp only [sNew] at hM hpg
      have kg : va_up kd pg (some (.inl 2)) pg = some (.inl 2) := va_up_self _ _ _
      refine lv_dup hx hb d_T_of_19 rfl ?_
      refine s_callv (r_IN (host := "HangOrder") 0 [] rfl hx hb hml hown hg (m_P_init l D dA _ _ pg kg) (hM.pre hK hX) rfl (hX.1 _ (List.mem_of_getElem? (i := 4) rfl)) kw_116 kw_11 kw_117 (by decide +kernel) ⟨Nat.le_of_ble_eq_true rfl, Nat.le_of_ble_eq_true rfl⟩ rfl rfl hl.sz (by first | exact Nat.le_of_ble_eq_true rfl | simp [rf_cat] | simp [rf_cat, Value.category]) d_T_of_20 ⟨by show 0 + 0 + 1 + 1 ≤ 3; omega, by show 0 + 0 + 1 + 128 ≤ 138; omega⟩ rfl) hM (fun u H locs hp hM => ?_)
      obtain ⟨row, hr9, rfl⟩ := hp
      dsimp only at hM hr9
      have n1 : pg ≠ row := sk_ne kg hr9
      have hrn : kd row = none := by rw [va_up_ne _ _ (fun z => n1 z.symm)] at hr9; exact hr9
      have ne : ∀ {b : Nat} {k : sK}, kd b = some k → b ≠ pg ∧ b ≠ row := fun hb => ⟨sk_ne hb hpg, sk_ne hb hrn⟩
      have kt2 : va_up (va_up kd pg (some (.inl 2))) row (some (.inr (2, 128))) tb = some (.inl 1) := by rw [va_up_ne _ _ (ne kt).2, va_up_ne _ _ (ne kt).1]; exact kt
      have kp2 : va_up (va_up kd pg (some (.inl 2))) row (some (.inr (2, 128))) pa = some (.inr (1, 128)) := by rw [va_up_ne _ _ (ne kp).2, va_up_ne _ _ (ne kp).1]; exact kp
      have kg2 : va_up (va_up kd pg (some (.inl 2))) row (some (.inr (2, 128))) pg = some (.inl 2) := by rw [va_up_ne _ _ n1, va_up_self]
      have ht2 : up2 (upr (upr rf pg (fun _ => none)) row (fun _ => none)) pg 0 (some row) tb 0 = some pa := by rw [up2_off _ _ (ne kt).1, upr_off _ _ (ne kt).2, upr_off _ _ (ne kt).1]; exact ht
      refine q_astore_n (i := 3) hx hb (some pg) d_T_of_23 rfl hl (by decide) (fun ls hl => ?_)
      simp only [List.set_cons_succ, List.set_cons_zero] at hl
      refine q_al_n (i := 0) hx hb d_T_of_24 rfl hl rfl ?_
      refine s_getr (C := R_T) (T := F_T) (N := 1) (ci := 1) hx hb hg in_T hown hK hM kt2 rfl 0 (by decide) rfl (hg _ kw_33) (fun _ h9 => h9) d_T_of_25 ?_
      rw [ht2]
      refine q_iload_n (i := 2) hx hb d_T_of_28 rfl hl rfl ?_
      refine q_al_n (i := 3) hx hb d_T_of_29 rfl hl rfl ?_
      refine s_ast (t := 1) (ci := 2) (r := (R_P, F_P, 1)) hx hb hK hM kp2 rfl rfl kg2 rfl (vp_in_nI (by omega) (by omega)) d_T_of_30 (fun H locs hM => ?_)
      rw [nI_clamp (by omega)] at hM
      have ppg : pa ≠ pg := (ne kp).1
      have prow : pa ≠ row := (ne kp).2
      have hT : Tb (va_up (va_up kd pg (some (.inl 2))) row (some (.inr (2, 128))), up2 (up2 (upr (upr rf pg (fun _ => none)) row (fun _ => none)) pg 0 (some row)) pa (j / 128) (some pg), upr (upr it pg (fun _ => 0)) row (fun _ => 0), upr (upr lg pg (fun _ => 0)) row (fun _ => 0)) tb pa nd := by
        refine Tb_page h (i := j / 128) (by omega) z hpg hrn n1 (fun b h1 h2 => ?_) kg2 (va_up_self _ _ _) (fun b h1 h2 h3 => ?_) ?_ (fun k => ?_) (fun k => ?_) (fun b h1 h2 => ?_)
        · show va_up (va_up kd pg _) row _ b = kd b
          rw [va_up_ne _ _ h2, va_up_ne _ _ h1]
        · show up2 (up2 (upr (upr rf pg _) row _) pg 0 (some row)) pa (j / 128) (some pg) b = rf b
          rw [up2_off _ _ h3, up2_off _ _ h1, upr_off _ _ h2, upr_off _ _ h1]
        · show up2 (up2 (upr (upr rf pg _) row _) pg 0 (some row)) pa (j / 128) (some pg) pg 0 = some row
          rw [up2_off _ _ (fun y => ppg y.symm), up2_self]
        · show up2 (up2 (upr (upr rf pg _) row _) pg 0 (some row)) pa (j / 128) (some pg) row k = none
          rw [up2_off _ _ (fun y => prow y.symm), up2_off _ _ (fun y => n1 y.symm), upr_self]
        · show up2 (up2 (upr (upr rf pg _) row _) pg 0 (some row)) pa (j / 128) (some pg) pa k = if k = j / 128 then some pg else rf pa k
          rw [up2_row, up2_off _ _ ppg, upr_off _ _ prow, upr_off _ _ ppg]
        · show upr (upr it pg _) row _ b = it b
          rw [upr_off _ _ h2, upr_off _ _ h1]
      refine of_tail hx hb hml hown hg hK hX (mc := 3) (ms := 138) ⟨by omega, by omega⟩ hT hj (up2_self _ _ _ _) ?_ kg2 (va_up_self _ _ _) hM hl ?_
      · show up2 (up2 (upr (upr rf pg _) row _) pg 0 (some row)) pa (j / 128) (some pg) pg 0 = some row
        rw [up2_off _ _ (fun y => ppg y.symm), up2_self]
      · rintro a u H locs ls hM ⟨o1, o2, o3, o4⟩
        refine W.widen (k := 3) (n := 138) (by omega) (by omega) ?_
        have hF0 : sFr (kd, rf, it, lg) (va_up (va_up kd pg (some (.inl 2))) row (some (.inr (2, 128))), up2 (up2 (upr (upr rf pg (fun _ => none)) row (fun _ => none)) pg 0 (some row)) pa (j / 128) (some pg), upr (upr it pg (fun _ => 0)) row (fun _ => 0), upr (upr lg pg (fun _ => 0)) row (fun _ => 0)) (isRA (kd, rf, it, lg)) := by
          intro b hb9
          have b1 : b ≠ pg := fun y => hb9 (by rw [y]; exact hpg)
          have b2 : b ≠ row := fun y => hb9 (by rw [y]; exact hrn)
          refine ⟨by show va_up (va_up kd pg _) row _ b = kd b; rw [va_up_ne _ _ b2, va_up_ne _ _ b1], fun hn9 => ⟨?_, ?_, ?_⟩⟩
          · show up2 (up2 (upr (upr rf pg _) row _) pg 0 (some row)) pa (j / 128) (some pg) b = rf b
            rw [up2_off _ _ (fun y => hn9 (by rw [y]; exact ⟨1, 128, kp, Or.inl rfl⟩)), up2_off _ _ b1, upr_off _ _ b2, upr_off _ _ b1]
          · show upr (upr it pg _) row _ b = it b
            rw [upr_off _ _ b2, upr_off _ _ b1]
          · show upr (upr lg pg _) row _ b = lg b
            rw [upr_off _ _ b2, upr_off _ _ b1]
        refine s_qret (some a) hx hb hr (Or.inl ⟨_, rfl⟩) hM ⟨a, rfl, o1, ?_, hF0.tr o3 (fun b _ q => q) (fun b hb9 q => ?_), fun b h1 h2 => ?_⟩ d_T_of_70 hlocks
        · rcases o2 with q | ⟨q1, q2, q3⟩
          · exact Or.inl q
          · refine Or.inr ⟨q1, ?_, q3⟩
            dsimp only at q2
            by_cases y1 : a = pg
            · rw [y1, kg2] at q2; cases q2
            · by_cases y2 : a = row
              · rw [y2, va_up_self] at q2; cases q2
              · rw [va_up_ne _ _ y2, va_up_ne _ _ y1] at q2; exact q2
        · obtain ⟨t, n, q1, q2⟩ := q
          exact ⟨t, n, by rw [← (hF0 b hb9).1]; exact q1, q2⟩
        · by_cases y1 : b = pg
          · exact Or.inr (Or.inl (by rw [y1]; exact o3.kd kg2))
          · by_cases y2 : b = row
            · exact Or.inr (Or.inr ⟨128, by rw [y2]; exact o3.kd (va_up_self _ _ _)⟩)
            · exact o4 b (by show va_up (va_up kd pg _) row _ b = none; rw [va_up_ne _ _ y2, va_up_ne _ _ y1]; exact h1) h2
  · rw [z1]
    refine q_astore_n (i := 3) hx hb (some pg) d_T_of_11 rfl hl (by decide) (fun ls hl => ?_)
    simp only [List.set_cons_succ, List.set_cons_zero] at hl
    refine q_al_n (i := 3) hx hb d_T_of_12 rfl hl rfl ?_
    refine q_ifnonnull (tgt := 31) hx hb d_T_of_13 (by decide) (fun pg2 c2 => ?_) (fun c2 => ?_)
    · refine of_tail hx hb hml hown hg hK hX (mc := 3) (ms := 138) ⟨by omega, by omega⟩ h hj z1 hro kg kro hM hl ?_
      intro a u H locs ls hM hO
      refine W.widen (k := 3) (n := 138) (by omega) (by omega) ?_
      exact s_qret (some a) hx hb hr (Or.inl ⟨_, rfl⟩) hM ⟨a, rfl, hO⟩ d_T_of_70 hlocks
    · cases c2
end
section
/-- what a link's joining does: k before the first of a -/
def JoinP (S : sS) (k a ff fc fp fn : Nat) (u : sS) : Prop := u.1 = S.1 ∧ u.2.2.2 = S.2.2.2 ∧ u.2.2.1 = up2 S.2.2.1 a fc (S.2.2.1 a fc + 1) ∧
  ∀ b i, u.2.1 b i = if b = a ∧ i = ff then some k else if i = fp ∧ S.2.1 a ff = some b then some k else if b = k ∧ i = fn then S.2.1 a ff else S.2.1 b i
/-- what its leaving does -/
def LeaveP (S : sS) (k a ff fc fp fn : Nat) (u : sS) : Prop := u.1 = S.1 ∧ u.2.2.2 = S.2.2.2 ∧ u.2.2.1 = up2 S.2.2.1 a fc (S.2.2.1 a fc - 1) ∧
  ∀ b i, u.2.1 b i = if i = fp ∧ S.2.1 k fn = some b then S.2.1 k fp else if S.2.1 k fp = none then (if b = a ∧ i = ff then S.2.1 k fn else S.2.1 b i) else if i = fn ∧ S.2.1 k fp = some b then S.2.1 k fn else S.2.1 b i
set_option maxHeartbeats 4000000 in
set_option maxRecDepth 100000 in
theorem m_K_joinReader (l : Launch) (D : va_G) (dA : Nat → ClassId) (S : sS) (sz : Nat) (k a : Nat) (kk : S.1 k = some (.inl 4)) (ka : S.1 a = some (.inl 3)) (ho : S.2.1 k 0 = some a) (hy : ∀ y, S.2.1 a 1 = some y → S.1 y = some (.inl 4)) :
    cV l y_K_joinReader c_K_joinReader 1 (rmk 0 0 0) D dA S sz [.ref k] (JoinP S k a 1 3 2 3) (0) (0) := by
  obtain ⟨kd, rf, it, lg⟩ := S
  dsimp only at kk ka ho hy
  have hka : k ≠ a := sk_d kk ka (by decide)
  refine s_met (cc := c_K_joinReader) (maxL := 1) (by decide) rfl (by simp [Value.category]) (by simp [lg_sl, Value.category]) ?_
  intro p e s m args below meth c ls hx hb hr hts hown hlocks hin hml hK hX hsz hM hl
  have hg := gd_hts hts
  have hl : lc ls 1 [some (va_rf (some k))] := hl
  have tail : ∀ (rf2 : Nat → Nat → Option Nat) (H : Heap) (locs : List Loc), SW D dA (sA (kd, rf, it, lg) sz) s.heap (kd, rf2, it, lg) H locs → rf2 k 0 = some a → (∀ b i, up2 rf2 a 1 (some k) b i = if b = a ∧ i = 1 then some k else if i = 2 ∧ rf a 1 = some b then some k else if b = k ∧ i = 3 then rf a 1 else rf b i) → W p l e (rmk 0 0 0) s m args below meth c H locs 0 0 (MQ below (va_Qv (JoinP (kd, rf, it, lg) k a 1 3 2 3) (SB D dA (kd, rf, it, lg) sz) (sA (kd, rf, it, lg) sz)) args s 0 0 (sA (kd, rf, it, lg) sz)) (F0 m 26 ls []) := by
    intro rf2 H locs hM h1 h2
    refine q_al_n (i := 0) hx hb d_K_joinReader_26 rfl hl rfl ?_
    refine s_getr (C := R_K) (T := F_K) (N := 6) (ci := 4) hx hb hg in_K hown hK hM kk rfl 0 (by decide) rfl (hg _ kw_377) (fun _ h9 => h9) d_K_joinReader_27 ?_
    rw [h1]
    refine q_al_n (i := 0) hx hb d_K_joinReader_30 rfl hl rfl ?_
    refine s_putr (C := R_N) (T := F_N) (N := 9) (ci := 3) hx hb hg in_N ft_N ft_N_ok fn_N hown hK hM ka rfl 1 (by decide) rfl (hg _ kw_134) (fun _ h9 => h9) rfl (some k) (rf_narrow _ _) (rf_fits _ _) d_K_joinReader_31 (fun H locs hM => ?_)
    refine q_al_n (i := 0) hx hb d_K_joinReader_34 rfl hl rfl ?_
    refine s_getr (C := R_K) (T := F_K) (N := 6) (ci := 4) hx hb hg in_K hown hK hM kk rfl 0 (by decide) rfl (hg _ kw_377) (fun _ h9 => h9) d_K_joinReader_35 ?_
    rw [up2_off _ _ hka, h1]
    refine lv_dup hx hb d_K_joinReader_38 rfl ?_
    refine s_geti (C := R_N) (T := F_N) (N := 9) (ci := 3) hx hb hg in_N hown hK hM ka rfl 3 (by decide) rfl (hg _ kw_139) (fun _ h9 => h9) d_K_joinReader_39 ?_
    refine lv_iconst (v := 1) hx hb d_K_joinReader_42 (by decide) ?_
    refine lv_iadd hx hb d_K_joinReader_43 ?_
    refine s_puti (C := R_N) (T := F_N) (N := 9) (ci := 3) hx hb hg in_N ft_N ft_N_ok fn_N hown hK hM ka rfl 3 (by decide) rfl (hg _ kw_139) (fun _ h9 => h9) rfl rfl rfl d_K_joinReader_44 (fun H locs hM => ?_)
    exact s_vret hx hb hr hM ⟨rfl, rfl, rfl, h2⟩ d_K_joinReader_47 hlocks
  refine q_al_n (i := 0) hx hb d_K_joinReader_0 rfl hl rfl ?_
  refine q_al_n (i := 0) hx hb d_K_joinReader_1 rfl hl rfl ?_
  refine s_getr (C := R_K) (T := F_K) (N := 6) (ci := 4) hx hb hg in_K hown hK hM kk rfl 0 (by decide) rfl (hg _ kw_377) (fun _ h9 => h9) d_K_joinReader_2 ?_
  rw [ho]
  refine s_getr (C := R_N) (T := F_N) (N := 9) (ci := 3) hx hb hg in_N hown hK hM ka rfl 1 (by decide) rfl (hg _ kw_134) (fun _ h9 => h9) d_K_joinReader_5 ?_
  refine s_putr (C := R_K) (T := F_K) (N := 6) (ci := 4) hx hb hg in_K ft_K ft_K_ok fn_K hown hK hM kk rfl 3 (by decide) rfl (hg _ kw_382) (fun _ h9 => h9) rfl (_) (rf_narrow _ _) (rf_fits _ _) d_K_joinReader_8 (fun H locs hM => ?_)
  refine q_al_n (i := 0) hx hb d_K_joinReader_11 rfl hl rfl ?_
  refine s_getr (C := R_K) (T := F_K) (N := 6) (ci := 4) hx hb hg in_K hown hK hM kk rfl 3 (by decide) rfl (hg _ kw_382) (fun _ h9 => h9) d_K_joinReader_12 ?_
  rw [up2_self]
  refine q_ifnull (tgt := 26) hx hb d_K_joinReader_15 (by decide) (fun c1 => ?_) (fun y c1 => ?_)
  · refine tail _ H locs hM (by rw [up2_ne _ _ (by decide)]; exact ho) (fun b i => ?_)
    rw [c1]
    simp only [up2]
    by_cases e1 : b = a ∧ i = 1
    · simp [e1]
    · by_cases e2 : b = k ∧ i = 3
      · simp [e1, e2, c1]
      · simp [e1, e2]
  · refine q_al_n (i := 0) hx hb d_K_joinReader_18 rfl hl rfl ?_
    refine s_getr (C := R_K) (T := F_K) (N := 6) (ci := 4) hx hb hg in_K hown hK hM kk rfl 3 (by decide) rfl (hg _ kw_382) (fun _ h9 => h9) d_K_joinReader_19 ?_
    rw [up2_self, c1]
    refine q_al_n (i := 0) hx hb d_K_joinReader_22 rfl hl rfl ?_
    have ky : kd y = some (.inl 4) := hy y c1
    refine s_putr (C := R_K) (T := F_K) (N := 6) (ci := 4) hx hb hg in_K ft_K ft_K_ok fn_K hown hK hM ky rfl 2 (by decide) rfl (hg _ kw_381) (fun _ h9 => h9) rfl (some k) (rf_narrow _ _) (rf_fits _ _) d_K_joinReader_23 (fun H locs hM => ?_)
    refine tail _ H locs hM (by rw [up2_ne _ _ (by decide), up2_ne _ _ (by decide)]; exact ho) (fun b i => ?_)
    rw [c1]
    simp only [up2]
    by_cases e1 : b = a ∧ i = 1
    · simp [e1]
    · by_cases e2 : b = y ∧ i = 2
      · simp [e1, e2]
      · have e3 : ¬ (i = 2 ∧ some y = some b) := fun z => e2 ⟨(Option.some.inj z.2).symm, z.1⟩
        rw [if_neg e1, if_neg e2, if_neg e1, if_neg e3]
set_option maxHeartbeats 4000000 in
set_option maxRecDepth 100000 in
theorem m_K_leaveReader (l : Launch) (D : va_G) (dA : Nat → ClassId) (S : sS) (sz : Nat) (k a : Nat) (kk : S.1 k = some (.inl 4)) (ka : S.1 a = some (.inl 3)) (ho : S.2.1 k 0 = some a) (hp0 : ∀ y, S.2.1 k 2 = some y → S.1 y = some (.inl 4) ∧ y ≠ k) (hn0 : ∀ y, S.2.1 k 3 = some y → S.1 y = some (.inl 4) ∧ y ≠ k) :
    cV l y_K_leaveReader c_K_leaveReader 1 (rmk 0 0 0) D dA S sz [.ref k] (LeaveP S k a 1 3 2 3) (0) (0) := by
  obtain ⟨kd, rf, it, lg⟩ := S
  dsimp only at kk ka ho hp0 hn0
  have hka : k ≠ a := sk_d kk ka (by decide)
  refine s_met (cc := c_K_leaveReader) (maxL := 1) (by decide) rfl (by simp [Value.category]) (by simp [lg_sl, Value.category]) ?_
  intro p e s m args below meth c ls hx hb hr hts hown hlocks hin hml hK hX hsz hM hl
  have hg := gd_hts hts
  have hl : lc ls 1 [some (va_rf (some k))] := hl
  have tail2 : ∀ (rf2 : Nat → Nat → Option Nat) (H : Heap) (locs : List Loc), SW D dA (sA (kd, rf, it, lg) sz) s.heap (kd, rf2, it, lg) H locs → rf2 k 0 = some a → (∀ b i, rf2 b i = if i = 2 ∧ rf k 3 = some b then rf k 2 else if rf k 2 = none then (if b = a ∧ i = 1 then rf k 3 else rf b i) else if i = 3 ∧ rf k 2 = some b then rf k 3 else rf b i) → W p l e (rmk 0 0 0) s m args below meth c H locs 0 0 (MQ below (va_Qv (LeaveP (kd, rf, it, lg) k a 1 3 2 3) (SB D dA (kd, rf, it, lg) sz) (sA (kd, rf, it, lg) sz)) args s 0 0 (sA (kd, rf, it, lg) sz)) (F0 m 50 ls []) := by
    intro rf2 H locs hM h1 h2
    refine q_al_n (i := 0) hx hb d_K_leaveReader_50 rfl hl rfl ?_
    refine s_getr (C := R_K) (T := F_K) (N := 6) (ci := 4) hx hb hg in_K hown hK hM kk rfl 0 (by decide) rfl (hg _ kw_377) (fun _ h9 => h9) d_K_leaveReader_51 ?_
    rw [h1]
    refine lv_dup hx hb d_K_leaveReader_54 rfl ?_
    refine s_geti (C := R_N) (T := F_N) (N := 9) (ci := 3) hx hb hg in_N hown hK hM ka rfl 3 (by decide) rfl (hg _ kw_139) (fun _ h9 => h9) d_K_leaveReader_55 ?_
    refine lv_iconst (v := 1) hx hb d_K_leaveReader_58 (by decide) ?_
    refine lv_isub hx hb d_K_leaveReader_59 ?_
    refine s_puti (C := R_N) (T := F_N) (N := 9) (ci := 3) hx hb hg in_N ft_N ft_N_ok fn_N hown hK hM ka rfl 3 (by decide) rfl (hg _ kw_139) (fun _ h9 => h9) rfl rfl rfl d_K_leaveReader_60 (fun H locs hM => ?_)
    exact s_vret hx hb hr hM ⟨rfl, rfl, rfl, h2⟩ d_K_leaveReader_63 hlocks
  have tail : ∀ (rf1 : Nat → Nat → Option Nat) (H : Heap) (locs : List Loc), SW D dA (sA (kd, rf, it, lg) sz) s.heap (kd, rf1, it, lg) H locs → (∀ i, rf1 k i = rf k i) → (∀ b i, rf1 b i = if rf k 2 = none then (if b = a ∧ i = 1 then rf k 3 else rf b i) else if i = 3 ∧ rf k 2 = some b then rf k 3 else rf b i) → W p l e (rmk 0 0 0) s m args below meth c H locs 0 0 (MQ below (va_Qv (LeaveP (kd, rf, it, lg) k a 1 3 2 3) (SB D dA (kd, rf, it, lg) sz) (sA (kd, rf, it, lg) sz)) args s 0 0 (sA (kd, rf, it, lg) sz)) (F0 m 32 ls []) := by
    intro rf1 H locs hM h1 h2
    refine q_al_n (i := 0) hx hb d_K_leaveReader_32 rfl hl rfl ?_
    refine s_getr (C := R_K) (T := F_K) (N := 6) (ci := 4) hx hb hg in_K hown hK hM kk rfl 3 (by decide) rfl (hg _ kw_382) (fun _ h9 => h9) d_K_leaveReader_33 ?_
    rw [h1]
    refine q_ifnull (tgt := 50) hx hb d_K_leaveReader_36 (by decide) (fun c2 => ?_) (fun y c2 => ?_)
    · refine tail2 rf1 H locs hM (by rw [h1]; exact ho) (fun b i => ?_)
      rw [h2, c2, if_neg (fun z : i = 2 ∧ none = some b => by cases z.2)]
    · refine q_al_n (i := 0) hx hb d_K_leaveReader_39 rfl hl rfl ?_
      refine s_getr (C := R_K) (T := F_K) (N := 6) (ci := 4) hx hb hg in_K hown hK hM kk rfl 3 (by decide) rfl (hg _ kw_382) (fun _ h9 => h9) d_K_leaveReader_40 ?_
      rw [h1, c2]
      refine q_al_n (i := 0) hx hb d_K_leaveReader_43 rfl hl rfl ?_
      refine s_getr (C := R_K) (T := F_K) (N := 6) (ci := 4) hx hb hg in_K hown hK hM kk rfl 2 (by decide) rfl (hg _ kw_381) (fun _ h9 => h9) d_K_leaveReader_44 ?_
      rw [h1]
      obtain ⟨ky, hyk⟩ := hn0 y c2
      refine s_putr (C := R_K) (T := F_K) (N := 6) (ci := 4) hx hb hg in_K ft_K ft_K_ok fn_K hown hK hM ky rfl 2 (by decide) rfl (hg _ kw_381) (fun _ h9 => h9) rfl (_) (rf_narrow _ _) (rf_fits _ _) d_K_leaveReader_47 (fun H locs hM => ?_)
      refine tail2 _ H locs hM (by rw [up2_ne _ _ (by decide), h1]; exact ho) (fun b i => ?_)
      by_cases e : b = y ∧ i = 2
      · rw [e.1, e.2, up2_self, if_pos ⟨rfl, c2⟩]
      · rw [if_neg (fun z : i = 2 ∧ rf k 3 = some b => e ⟨Option.some.inj (z.2.symm.trans c2), z.1⟩), ← h2]
        simp only [up2]
        rw [if_neg e]
  refine q_al_n (i := 0) hx hb d_K_leaveReader_0 rfl hl rfl ?_
  refine s_getr (C := R_K) (T := F_K) (N := 6) (ci := 4) hx hb hg in_K hown hK hM kk rfl 2 (by decide) rfl (hg _ kw_381) (fun _ h9 => h9) d_K_leaveReader_1 ?_
  refine q_ifnonnull (tgt := 21) hx hb d_K_leaveReader_4 (by decide) (fun y c1 => ?_) (fun c1 => ?_)
  · refine q_al_n (i := 0) hx hb d_K_leaveReader_21 rfl hl rfl ?_
    refine s_getr (C := R_K) (T := F_K) (N := 6) (ci := 4) hx hb hg in_K hown hK hM kk rfl 2 (by decide) rfl (hg _ kw_381) (fun _ h9 => h9) d_K_leaveReader_22 ?_
    rw [c1]
    refine q_al_n (i := 0) hx hb d_K_leaveReader_25 rfl hl rfl ?_
    refine s_getr (C := R_K) (T := F_K) (N := 6) (ci := 4) hx hb hg in_K hown hK hM kk rfl 3 (by decide) rfl (hg _ kw_382) (fun _ h9 => h9) d_K_leaveReader_26 ?_
    obtain ⟨ky, hyk⟩ := hp0 y c1
    refine s_putr (C := R_K) (T := F_K) (N := 6) (ci := 4) hx hb hg in_K ft_K ft_K_ok fn_K hown hK hM ky rfl 3 (by decide) rfl (hg _ kw_382) (fun _ h9 => h9) rfl (_) (rf_narrow _ _) (rf_fits _ _) d_K_leaveReader_29 (fun H locs hM => ?_)
    refine tail _ H locs hM (fun i => by rw [up2_off _ _ (fun z => hyk z.symm)]) (fun b i => ?_)
    rw [if_neg (by rw [c1]; exact fun z => by cases z)]
    simp only [up2]
    by_cases e : b = y ∧ i = 3
    · rw [if_pos e, if_pos ⟨e.2, by rw [e.1]; exact c1⟩]
    · rw [if_neg e, if_neg (fun z => e ⟨Option.some.inj (z.2.symm.trans c1), z.1⟩)]
  · refine q_al_n (i := 0) hx hb d_K_leaveReader_7 rfl hl rfl ?_
    refine s_getr (C := R_K) (T := F_K) (N := 6) (ci := 4) hx hb hg in_K hown hK hM kk rfl 0 (by decide) rfl (hg _ kw_377) (fun _ h9 => h9) d_K_leaveReader_8 ?_
    rw [ho]
    refine q_al_n (i := 0) hx hb d_K_leaveReader_11 rfl hl rfl ?_
    refine s_getr (C := R_K) (T := F_K) (N := 6) (ci := 4) hx hb hg in_K hown hK hM kk rfl 3 (by decide) rfl (hg _ kw_382) (fun _ h9 => h9) d_K_leaveReader_12 ?_
    refine s_putr (C := R_N) (T := F_N) (N := 9) (ci := 3) hx hb hg in_N ft_N ft_N_ok fn_N hown hK hM ka rfl 1 (by decide) rfl (hg _ kw_134) (fun _ h9 => h9) rfl (_) (rf_narrow _ _) (rf_fits _ _) d_K_leaveReader_15 (fun H locs hM => ?_)
    refine lv_goto (tgt := 32) hx hb d_K_leaveReader_18 (by decide) ?_
    refine tail _ H locs hM (fun i => by rw [up2_off _ _ hka]) (fun b i => ?_)
    rw [if_pos c1]
    rfl
set_option maxHeartbeats 4000000 in
set_option maxRecDepth 100000 in
theorem m_K_joinSource (l : Launch) (D : va_G) (dA : Nat → ClassId) (S : sS) (sz : Nat) (k a : Nat) (kk : S.1 k = some (.inl 4)) (ka : S.1 a = some (.inl 3)) (ho : S.2.1 k 1 = some a) (hy : ∀ y, S.2.1 a 2 = some y → S.1 y = some (.inl 4)) :
    cV l y_K_joinSource c_K_joinSource 1 (rmk 0 0 0) D dA S sz [.ref k] (JoinP S k a 2 4 4 5) (0) (0) := by
  obtain ⟨kd, rf, it, lg⟩ := S
  dsimp only at kk ka ho hy
  have hka : k ≠ a := sk_d kk ka (by decide)
  refine s_met (cc := c_K_joinSource) (maxL := 1) (by decide) rfl (by simp [Value.category]) (by simp [lg_sl, Value.category]) ?_
  intro p e s m args below meth c ls hx hb hr hts hown hlocks hin hml hK hX hsz hM hl
  have hg := gd_hts hts
  have hl : lc ls 1 [some (va_rf (some k))] := hl
  have tail : ∀ (rf2 : Nat → Nat → Option Nat) (H : Heap) (locs : List Loc), SW D dA (sA (kd, rf, it, lg) sz) s.heap (kd, rf2, it, lg) H locs → rf2 k 1 = some a → (∀ b i, up2 rf2 a 2 (some k) b i = if b = a ∧ i = 2 then some k else if i = 4 ∧ rf a 2 = some b then some k else if b = k ∧ i = 5 then rf a 2 else rf b i) → W p l e (rmk 0 0 0) s m args below meth c H locs 0 0 (MQ below (va_Qv (JoinP (kd, rf, it, lg) k a 2 4 4 5) (SB D dA (kd, rf, it, lg) sz) (sA (kd, rf, it, lg) sz)) args s 0 0 (sA (kd, rf, it, lg) sz)) (F0 m 26 ls []) := by
    intro rf2 H locs hM h1 h2
    refine q_al_n (i := 0) hx hb d_K_joinSource_26 rfl hl rfl ?_
    refine s_getr (C := R_K) (T := F_K) (N := 6) (ci := 4) hx hb hg in_K hown hK hM kk rfl 1 (by decide) rfl (hg _ kw_379) (fun _ h9 => h9) d_K_joinSource_27 ?_
    rw [h1]
    refine q_al_n (i := 0) hx hb d_K_joinSource_30 rfl hl rfl ?_
    refine s_putr (C := R_N) (T := F_N) (N := 9) (ci := 3) hx hb hg in_N ft_N ft_N_ok fn_N hown hK hM ka rfl 2 (by decide) rfl (hg _ kw_136) (fun _ h9 => h9) rfl (some k) (rf_narrow _ _) (rf_fits _ _) d_K_joinSource_31 (fun H locs hM => ?_)
    refine q_al_n (i := 0) hx hb d_K_joinSource_34 rfl hl rfl ?_
    refine s_getr (C := R_K) (T := F_K) (N := 6) (ci := 4) hx hb hg in_K hown hK hM kk rfl 1 (by decide) rfl (hg _ kw_379) (fun _ h9 => h9) d_K_joinSource_35 ?_
    rw [up2_off _ _ hka, h1]
    refine lv_dup hx hb d_K_joinSource_38 rfl ?_
    refine s_geti (C := R_N) (T := F_N) (N := 9) (ci := 3) hx hb hg in_N hown hK hM ka rfl 4 (by decide) rfl (hg _ kw_140) (fun _ h9 => h9) d_K_joinSource_39 ?_
    refine lv_iconst (v := 1) hx hb d_K_joinSource_42 (by decide) ?_
    refine lv_iadd hx hb d_K_joinSource_43 ?_
    refine s_puti (C := R_N) (T := F_N) (N := 9) (ci := 3) hx hb hg in_N ft_N ft_N_ok fn_N hown hK hM ka rfl 4 (by decide) rfl (hg _ kw_140) (fun _ h9 => h9) rfl rfl rfl d_K_joinSource_44 (fun H locs hM => ?_)
    exact s_vret hx hb hr hM ⟨rfl, rfl, rfl, h2⟩ d_K_joinSource_47 hlocks
  refine q_al_n (i := 0) hx hb d_K_joinSource_0 rfl hl rfl ?_
  refine q_al_n (i := 0) hx hb d_K_joinSource_1 rfl hl rfl ?_
  refine s_getr (C := R_K) (T := F_K) (N := 6) (ci := 4) hx hb hg in_K hown hK hM kk rfl 1 (by decide) rfl (hg _ kw_379) (fun _ h9 => h9) d_K_joinSource_2 ?_
  rw [ho]
  refine s_getr (C := R_N) (T := F_N) (N := 9) (ci := 3) hx hb hg in_N hown hK hM ka rfl 2 (by decide) rfl (hg _ kw_136) (fun _ h9 => h9) d_K_joinSource_5 ?_
  refine s_putr (C := R_K) (T := F_K) (N := 6) (ci := 4) hx hb hg in_K ft_K ft_K_ok fn_K hown hK hM kk rfl 5 (by decide) rfl (hg _ kw_385) (fun _ h9 => h9) rfl (_) (rf_narrow _ _) (rf_fits _ _) d_K_joinSource_8 (fun H locs hM => ?_)
  refine q_al_n (i := 0) hx hb d_K_joinSource_11 rfl hl rfl ?_
  refine s_getr (C := R_K) (T := F_K) (N := 6) (ci := 4) hx hb hg in_K hown hK hM kk rfl 5 (by decide) rfl (hg _ kw_385) (fun _ h9 => h9) d_K_joinSource_12 ?_
  rw [up2_self]
  refine q_ifnull (tgt := 26) hx hb d_K_joinSource_15 (by decide) (fun c1 => ?_) (fun y c1 => ?_)
  · refine tail _ H locs hM (by rw [up2_ne _ _ (by decide)]; exact ho) (fun b i => ?_)
    rw [c1]
    simp only [up2]
    by_cases e1 : b = a ∧ i = 2
    · simp [e1]
    · by_cases e2 : b = k ∧ i = 5
      · simp [e1, e2, c1]
      · simp [e1, e2]
  · refine q_al_n (i := 0) hx hb d_K_joinSource_18 rfl hl rfl ?_
    refine s_getr (C := R_K) (T := F_K) (N := 6) (ci := 4) hx hb hg in_K hown hK hM kk rfl 5 (by decide) rfl (hg _ kw_385) (fun _ h9 => h9) d_K_joinSource_19 ?_
    rw [up2_self, c1]
    refine q_al_n (i := 0) hx hb d_K_joinSource_22 rfl hl rfl ?_
    have ky : kd y = some (.inl 4) := hy y c1
    refine s_putr (C := R_K) (T := F_K) (N := 6) (ci := 4) hx hb hg in_K ft_K ft_K_ok fn_K hown hK hM ky rfl 4 (by decide) rfl (hg _ kw_384) (fun _ h9 => h9) rfl (some k) (rf_narrow _ _) (rf_fits _ _) d_K_joinSource_23 (fun H locs hM => ?_)
    refine tail _ H locs hM (by rw [up2_ne _ _ (by decide), up2_ne _ _ (by decide)]; exact ho) (fun b i => ?_)
    rw [c1]
    simp only [up2]
    by_cases e1 : b = a ∧ i = 2
    · simp [e1]
    · by_cases e2 : b = y ∧ i = 4
      · simp [e1, e2]
      · have e3 : ¬ (i = 4 ∧ some y = some b) := fun z => e2 ⟨(Option.some.inj z.2).symm, z.1⟩
        rw [if_neg e1, if_neg e2, if_neg e1, if_neg e3]
set_option maxHeartbeats 4000000 in
set_option maxRecDepth 100000 in
theorem m_K_leaveSource (l : Launch) (D : va_G) (dA : Nat → ClassId) (S : sS) (sz : Nat) (k a : Nat) (kk : S.1 k = some (.inl 4)) (ka : S.1 a = some (.inl 3)) (ho : S.2.1 k 1 = some a) (hp0 : ∀ y, S.2.1 k 4 = some y → S.1 y = some (.inl 4) ∧ y ≠ k) (hn0 : ∀ y, S.2.1 k 5 = some y → S.1 y = some (.inl 4) ∧ y ≠ k) :
    cV l y_K_leaveSource c_K_leaveSource 1 (rmk 0 0 0) D dA S sz [.ref k] (LeaveP S k a 2 4 4 5) (0) (0) := by
  obtain ⟨kd, rf, it, lg⟩ := S
  dsimp only at kk ka ho hp0 hn0
  have hka : k ≠ a := sk_d kk ka (by decide)
  refine s_met (cc := c_K_leaveSource) (maxL := 1) (by decide) rfl (by simp [Value.category]) (by simp [lg_sl, Value.category]) ?_
  intro p e s m args below meth c ls hx hb hr hts hown hlocks hin hml hK hX hsz hM hl
  have hg := gd_hts hts
  have hl : lc ls 1 [some (va_rf (some k))] := hl
  have tail2 : ∀ (rf2 : Nat → Nat → Option Nat) (H : Heap) (locs : List Loc), SW D dA (sA (kd, rf, it, lg) sz) s.heap (kd, rf2, it, lg) H locs → rf2 k 1 = some a → (∀ b i, rf2 b i = if i = 4 ∧ rf k 5 = some b then rf k 4 else if rf k 4 = none then (if b = a ∧ i = 2 then rf k 5 else rf b i) else if i = 5 ∧ rf k 4 = some b then rf k 5 else rf b i) → W p l e (rmk 0 0 0) s m args below meth c H locs 0 0 (MQ below (va_Qv (LeaveP (kd, rf, it, lg) k a 2 4 4 5) (SB D dA (kd, rf, it, lg) sz) (sA (kd, rf, it, lg) sz)) args s 0 0 (sA (kd, rf, it, lg) sz)) (F0 m 50 ls []) := by
    intro rf2 H locs hM h1 h2
    refine q_al_n (i := 0) hx hb d_K_leaveSource_50 rfl hl rfl ?_
    refine s_getr (C := R_K) (T := F_K) (N := 6) (ci := 4) hx hb hg in_K hown hK hM kk rfl 1 (by decide) rfl (hg _ kw_379) (fun _ h9 => h9) d_K_leaveSource_51 ?_
    rw [h1]
    refine lv_dup hx hb d_K_leaveSource_54 rfl ?_
    refine s_geti (C := R_N) (T := F_N) (N := 9) (ci := 3) hx hb hg in_N hown hK hM ka rfl 4 (by decide) rfl (hg _ kw_140) (fun _ h9 => h9) d_K_leaveSource_55 ?_
    refine lv_iconst (v := 1) hx hb d_K_leaveSource_58 (by decide) ?_
    refine lv_isub hx hb d_K_leaveSource_59 ?_
    refine s_puti (C := R_N) (T := F_N) (N := 9) (ci := 3) hx hb hg in_N ft_N ft_N_ok fn_N hown hK hM ka rfl 4 (by decide) rfl (hg _ kw_140) (fun _ h9 => h9) rfl rfl rfl d_K_leaveSource_60 (fun H locs hM => ?_)
    exact s_vret hx hb hr hM ⟨rfl, rfl, rfl, h2⟩ d_K_leaveSource_63 hlocks
  have tail : ∀ (rf1 : Nat → Nat → Option Nat) (H : Heap) (locs : List Loc), SW D dA (sA (kd, rf, it, lg) sz) s.heap (kd, rf1, it, lg) H locs → (∀ i, rf1 k i = rf k i) → (∀ b i, rf1 b i = if rf k 4 = none then (if b = a ∧ i = 2 then rf k 5 else rf b i) else if i = 5 ∧ rf k 4 = some b then rf k 5 else rf b i) → W p l e (rmk 0 0 0) s m args below meth c H locs 0 0 (MQ below (va_Qv (LeaveP (kd, rf, it, lg) k a 2 4 4 5) (SB D dA (kd, rf, it, lg) sz) (sA (kd, rf, it, lg) sz)) args s 0 0 (sA (kd, rf, it, lg) sz)) (F0 m 32 ls []) := by
    intro rf1 H locs hM h1 h2
    refine q_al_n (i := 0) hx hb d_K_leaveSource_32 rfl hl rfl ?_
    refine s_getr (C := R_K) (T := F_K) (N := 6) (ci := 4) hx hb hg in_K hown hK hM kk rfl 5 (by decide) rfl (hg _ kw_385) (fun _ h9 => h9) d_K_leaveSource_33 ?_
    rw [h1]
    refine q_ifnull (tgt := 50) hx hb d_K_leaveSource_36 (by decide) (fun c2 => ?_) (fun y c2 => ?_)
    · refine tail2 rf1 H locs hM (by rw [h1]; exact ho) (fun b i => ?_)
      rw [h2, c2, if_neg (fun z : i = 4 ∧ none = some b => by cases z.2)]
    · refine q_al_n (i := 0) hx hb d_K_leaveSource_39 rfl hl rfl ?_
      refine s_getr (C := R_K) (T := F_K) (N := 6) (ci := 4) hx hb hg in_K hown hK hM kk rfl 5 (by decide) rfl (hg _ kw_385) (fun _ h9 => h9) d_K_leaveSource_40 ?_
      rw [h1, c2]
      refine q_al_n (i := 0) hx hb d_K_leaveSource_43 rfl hl rfl ?_
      refine s_getr (C := R_K) (T := F_K) (N := 6) (ci := 4) hx hb hg in_K hown hK hM kk rfl 4 (by decide) rfl (hg _ kw_384) (fun _ h9 => h9) d_K_leaveSource_44 ?_
      rw [h1]
      obtain ⟨ky, hyk⟩ := hn0 y c2
      refine s_putr (C := R_K) (T := F_K) (N := 6) (ci := 4) hx hb hg in_K ft_K ft_K_ok fn_K hown hK hM ky rfl 4 (by decide) rfl (hg _ kw_384) (fun _ h9 => h9) rfl (_) (rf_narrow _ _) (rf_fits _ _) d_K_leaveSource_47 (fun H locs hM => ?_)
      refine tail2 _ H locs hM (by rw [up2_ne _ _ (by decide), h1]; exact ho) (fun b i => ?_)
      by_cases e : b = y ∧ i = 4
      · rw [e.1, e.2, up2_self, if_pos ⟨rfl, c2⟩]
      · rw [if_neg (fun z : i = 4 ∧ rf k 5 = some b => e ⟨Option.some.inj (z.2.symm.trans c2), z.1⟩), ← h2]
        simp only [up2]
        rw [if_neg e]
  refine q_al_n (i := 0) hx hb d_K_leaveSource_0 rfl hl rfl ?_
  refine s_getr (C := R_K) (T := F_K) (N := 6) (ci := 4) hx hb hg in_K hown hK hM kk rfl 4 (by decide) rfl (hg _ kw_384) (fun _ h9 => h9) d_K_leaveSource_1 ?_
  refine q_ifnonnull (tgt := 21) hx hb d_K_leaveSource_4 (by decide) (fun y c1 => ?_) (fun c1 => ?_)
  · refine q_al_n (i := 0) hx hb d_K_leaveSource_21 rfl hl rfl ?_
    refine s_getr (C := R_K) (T := F_K) (N := 6) (ci := 4) hx hb hg in_K hown hK hM kk rfl 4 (by decide) rfl (hg _ kw_384) (fun _ h9 => h9) d_K_leaveSource_22 ?_
    rw [c1]
    refine q_al_n (i := 0) hx hb d_K_leaveSource_25 rfl hl rfl ?_
    refine s_getr (C := R_K) (T := F_K) (N := 6) (ci := 4) hx hb hg in_K hown hK hM kk rfl 5 (by decide) rfl (hg _ kw_385) (fun _ h9 => h9) d_K_leaveSource_26 ?_
    obtain ⟨ky, hyk⟩ := hp0 y c1
    refine s_putr (C := R_K) (T := F_K) (N := 6) (ci := 4) hx hb hg in_K ft_K ft_K_ok fn_K hown hK hM ky rfl 5 (by decide) rfl (hg _ kw_385) (fun _ h9 => h9) rfl (_) (rf_narrow _ _) (rf_fits _ _) d_K_leaveSource_29 (fun H locs hM => ?_)
    refine tail _ H locs hM (fun i => by rw [up2_off _ _ (fun z => hyk z.symm)]) (fun b i => ?_)
    rw [if_neg (by rw [c1]; exact fun z => by cases z)]
    simp only [up2]
    by_cases e : b = y ∧ i = 5
    · rw [if_pos e, if_pos ⟨e.2, by rw [e.1]; exact c1⟩]
    · rw [if_neg e, if_neg (fun z => e ⟨Option.some.inj (z.2.symm.trans c1), z.1⟩)]
  · refine q_al_n (i := 0) hx hb d_K_leaveSource_7 rfl hl rfl ?_
    refine s_getr (C := R_K) (T := F_K) (N := 6) (ci := 4) hx hb hg in_K hown hK hM kk rfl 1 (by decide) rfl (hg _ kw_379) (fun _ h9 => h9) d_K_leaveSource_8 ?_
    rw [ho]
    refine q_al_n (i := 0) hx hb d_K_leaveSource_11 rfl hl rfl ?_
    refine s_getr (C := R_K) (T := F_K) (N := 6) (ci := 4) hx hb hg in_K hown hK hM kk rfl 5 (by decide) rfl (hg _ kw_385) (fun _ h9 => h9) d_K_leaveSource_12 ?_
    refine s_putr (C := R_N) (T := F_N) (N := 9) (ci := 3) hx hb hg in_N ft_N ft_N_ok fn_N hown hK hM ka rfl 2 (by decide) rfl (hg _ kw_136) (fun _ h9 => h9) rfl (_) (rf_narrow _ _) (rf_fits _ _) d_K_leaveSource_15 (fun H locs hM => ?_)
    refine lv_goto (tgt := 32) hx hb d_K_leaveSource_18 (by decide) ?_
    refine tail _ H locs hM (fun i => by rw [up2_off _ _ hka]) (fun b i => ?_)
    rw [if_pos c1]
    rfl
set_option maxHeartbeats 4000000 in
set_option maxRecDepth 100000 in
theorem m_K_fasten (l : Launch) (D : va_G) (dA : Nat → ClassId) (S : sS) (sz : Nat) (k a b : Nat) (hya : ∀ y, S.2.1 a 1 = some y → S.1 y = some (.inl 4)) (hyb : ∀ y, S.2.1 b 2 = some y → S.1 y = some (.inl 4)) (kk : S.1 k = some (.inl 4)) (ka : S.1 a = some (.inl 3)) (kb : S.1 b = some (.inl 3)) (h0 : S.2.1 k 0 = some a) (h1 : S.2.1 k 1 = some b) :
    cV l y_K_fasten c_K_fasten 1 (rmk 1 0 0) D dA S sz [.ref k] (fun u => ∃ u1, JoinP S k a 1 3 2 3 u1 ∧ JoinP u1 k b 2 4 4 5 u) (0) (0) := by
  obtain ⟨kd, rf, it, lg⟩ := S
  dsimp only at kk ka kb h0 h1
  refine s_met (cc := c_K_fasten) (maxL := 1) (by decide) rfl (by simp [Value.category]) (by simp [lg_sl, Value.category]) ?_
  intro p e s m args below meth c ls hx hb hr hts hown hlocks hin hml hK hX hsz hM hl
  have hg := gd_hts hts
  have hl : lc ls 1 [some (va_rf (some k))] := hl
  refine q_al_n (i := 0) hx hb d_K_fasten_0 rfl hl rfl ?_
  refine s_callv (r_V 0 [] rfl hx hb hml hown hg (m_K_joinReader l D dA _ _ k a kk ka h0 hya) (hM.pre hK hX) (hM.recv hK kk (q := cls.getD 4 (R_H, F_H, 7)) rfl) kw_404 kw_406 ks_12 kw_13 kw_407 (by decide +kernel) ⟨Nat.le_of_ble_eq_true rfl, Nat.le_of_ble_eq_true rfl⟩ rfl rfl hl.sz (by first | exact Nat.le_of_ble_eq_true rfl | simp [rf_cat] | simp [rf_cat, Value.category]) d_K_fasten_1 ⟨Nat.le_refl _, Nat.le_refl _⟩ rfl) hM (fun u H locs hp hM => ?_)
  have hp1 := hp
  obtain ⟨e1, e2, e3, e4⟩ := hp
  obtain ⟨kd1, rf1, it1, lg1⟩ := u
  dsimp only at e1 e2 e3 e4
  subst e1
  have hka : k ≠ a := sk_d kk ka (by decide)
  have hkb : b ≠ k := sk_d kb kk (by decide)
  have h11 : rf1 k 1 = some b := by rw [e4, if_neg (fun z => hka z.1), if_neg (fun z => by cases z.1), if_neg (fun z => by cases z.2)]; exact h1
  have h12 : rf1 b 2 = rf b 2 := by
    rw [e4, if_neg (fun z => by cases z.2), if_neg (fun z => ?_), if_neg (fun z => hkb z.1)]
    have := hya b z.2
    exact sk_d this kb (by decide) rfl
  refine q_al_n (i := 0) hx hb d_K_fasten_4 rfl hl rfl ?_
  refine s_callv (r_V 0 [] rfl hx hb hml hown hg (m_K_joinSource l D dA _ _ k b kk kb h11 (fun y hy => by have hy2 : rf1 b 2 = some y := hy; rw [h12] at hy2; exact hyb y hy2)) (hM.pre hK hX) (hM.recv hK kk (q := cls.getD 4 (R_H, F_H, 7)) rfl) kw_408 kw_410 ks_13 kw_13 kw_411 (by decide +kernel) ⟨Nat.le_of_ble_eq_true rfl, Nat.le_of_ble_eq_true rfl⟩ rfl rfl hl.sz (by first | exact Nat.le_of_ble_eq_true rfl | simp [rf_cat] | simp [rf_cat, Value.category]) d_K_fasten_5 ⟨Nat.le_refl _, Nat.le_refl _⟩ rfl) hM (fun u H locs hp hM => ?_)
  exact s_vret hx hb hr hM ⟨_, hp1, hp⟩ d_K_fasten_8 hlocks
set_option maxHeartbeats 4000000 in
set_option maxRecDepth 100000 in
theorem m_K_loosen (l : Launch) (D : va_G) (dA : Nat → ClassId) (S : sS) (sz : Nat) (k a b : Nat) (hk4 : ∀ i y, 2 ≤ i → i ≤ 5 → S.2.1 k i = some y → S.1 y = some (.inl 4)) (kk : S.1 k = some (.inl 4)) (ka : S.1 a = some (.inl 3)) (kb : S.1 b = some (.inl 3)) (h0 : S.2.1 k 0 = some a) (h1 : S.2.1 k 1 = some b) (hs : ∀ i, 2 ≤ i → i ≤ 5 → S.2.1 k i ≠ some k) :
    cV l y_K_loosen c_K_loosen 1 (rmk 1 0 0) D dA S sz [.ref k] (fun u => ∃ u1, LeaveP S k a 1 3 2 3 u1 ∧ LeaveP u1 k b 2 4 4 5 u) (0) (0) := by
  obtain ⟨kd, rf, it, lg⟩ := S
  dsimp only at kk ka kb h0 h1 hs
  refine s_met (cc := c_K_loosen) (maxL := 1) (by decide) rfl (by simp [Value.category]) (by simp [lg_sl, Value.category]) ?_
  intro p e s m args below meth c ls hx hb hr hts hown hlocks hin hml hK hX hsz hM hl
  have hg := gd_hts hts
  have hl : lc ls 1 [some (va_rf (some k))] := hl
  refine q_al_n (i := 0) hx hb d_K_loosen_0 rfl hl rfl ?_
  refine s_callv (r_V 0 [] rfl hx hb hml hown hg (m_K_leaveReader l D dA _ _ k a kk ka h0 (fun y hy => ⟨hk4 2 y (by decide) (by decide) hy, fun z => hs 2 (by decide) (by decide) (by rw [z] at hy; exact hy)⟩) (fun y hy => ⟨hk4 3 y (by decide) (by decide) hy, fun z => hs 3 (by decide) (by decide) (by rw [z] at hy; exact hy)⟩)) (hM.pre hK hX) (hM.recv hK kk (q := cls.getD 4 (R_H, F_H, 7)) rfl) kw_427 kw_429 ks_15 kw_13 kw_430 (by decide +kernel) ⟨Nat.le_of_ble_eq_true rfl, Nat.le_of_ble_eq_true rfl⟩ rfl rfl hl.sz (by first | exact Nat.le_of_ble_eq_true rfl | simp [rf_cat] | simp [rf_cat, Value.category]) d_K_loosen_1 ⟨Nat.le_refl _, Nat.le_refl _⟩ rfl) hM (fun u H locs hp hM => ?_)
  have hp1 := hp
  obtain ⟨e1, e2, e3, e4⟩ := hp
  obtain ⟨kd1, rf1, it1, lg1⟩ := u
  dsimp only at e1 e2 e3 e4
  subst e1
  have hka : k ≠ a := sk_d kk ka (by decide)
  have hk1 : ∀ i, i ≠ 2 → i ≠ 3 → rf1 k i = rf k i := by
    intro i i2 i3
    rw [e4, if_neg (fun z => i2 z.1)]
    by_cases c : rf k 2 = none
    · rw [if_pos c, if_neg (fun z => hka z.1)]
    · rw [if_neg c, if_neg (fun z => i3 z.1)]
  have h11 : rf1 k 1 = some b := by rw [hk1 1 (by decide) (by decide)]; exact h1
  have h14 : rf1 k 4 = rf k 4 := hk1 4 (by decide) (by decide)
  have h15 : rf1 k 5 = rf k 5 := hk1 5 (by decide) (by decide)
  refine q_al_n (i := 0) hx hb d_K_loosen_4 rfl hl rfl ?_
  refine s_callv (r_V 0 [] rfl hx hb hml hown hg (m_K_leaveSource l D dA _ _ k b kk kb h11 (fun y hy => by have hy2 : rf1 k 4 = some y := hy; rw [h14] at hy2; exact ⟨hk4 4 y (by decide) (by decide) hy2, fun z => hs 4 (by decide) (by decide) (by rw [z] at hy2; exact hy2)⟩) (fun y hy => by have hy2 : rf1 k 5 = some y := hy; rw [h15] at hy2; exact ⟨hk4 5 y (by decide) (by decide) hy2, fun z => hs 5 (by decide) (by decide) (by rw [z] at hy2; exact hy2)⟩)) (hM.pre hK hX) (hM.recv hK kk (q := cls.getD 4 (R_H, F_H, 7)) rfl) kw_431 kw_433 ks_16 kw_13 kw_434 (by decide +kernel) ⟨Nat.le_of_ble_eq_true rfl, Nat.le_of_ble_eq_true rfl⟩ rfl rfl hl.sz (by first | exact Nat.le_of_ble_eq_true rfl | simp [rf_cat] | simp [rf_cat, Value.category]) d_K_loosen_5 ⟨Nat.le_refl _, Nat.le_refl _⟩ rfl) hM (fun u H locs hp hM => ?_)
  exact s_vret hx hb hr hM ⟨_, hp1, hp⟩ d_K_loosen_8 hlocks
end
section
/-! the graph of nodes and links in the store: node v at nd v; rd v: its links to what it reads, with the numbers read; sr v: the links of its readers, with their numbers -/
def gkk : sK → Bool
  | .inl c => c == 1 || c == 2 || c == 3 || c == 4
  | .inr tn => tn.1 == 1 || tn.1 == 2
def Gr9 (S : sS) (tb pa : Nat) (nd : Nat → Option Nat) (rd sr : Nat → List (Nat × Nat)) : Prop :=
  Tb S tb pa nd ∧
  (∀ v a, nd v = some a → chI S.2.1 2 3 (S.2.1 a 1) ((rd v).map Prod.fst) ∧ S.2.2.1 a 3 = nI (rd v).length ∧ chI S.2.1 4 5 (S.2.1 a 2) ((sr v).map Prod.fst) ∧ S.2.2.1 a 4 = nI (sr v).length) ∧
  (∀ v, ((rd v).map Prod.fst).Nodup ∧ ((sr v).map Prod.fst).Nodup ∧ ((rd v).map Prod.snd).Nodup ∧ (nd v = none → rd v = [] ∧ sr v = [])) ∧
  (∀ v k u, (k, u) ∈ rd v → S.1 k = some (.inl 4) ∧ (∃ a, nd v = some a ∧ S.2.1 k 0 = some a) ∧ (∃ b, nd u = some b ∧ S.2.1 k 1 = some b) ∧ (k, v) ∈ sr u) ∧
  ∀ u k v, (k, v) ∈ sr u → (k, u) ∈ rd v
/-- who reads whom -/
def rE (rd : Nat → List (Nat × Nat)) (v u : Nat) : Prop := ∃ k, (k, u) ∈ rd v
theorem Tb_dep {S u : sS} {tb pa : Nat} {nd : Nat → Option Nat} (h : Tb S tb pa nd) (hg : ∀ b k, S.1 b = some k → gkk k = true → u.1 b = S.1 b ∧ u.2.1 b = S.2.1 b) (hi : ∀ v a, nd v = some a → u.2.2.1 a 0 = S.2.2.1 a 0) : Tb u tb pa nd := by
  obtain ⟨kt, ht, kp, hpgs, hdi, hnd⟩ := h
  have pg : ∀ i g, i < 128 → S.2.1 pa i = some g → u.2.1 g = S.2.1 g := by
    intro i g hi9 hg9
    rcases hpgs i hi9 with ⟨z1, -⟩ | ⟨g2, r9, z1, z2, -⟩
    · rw [z1] at hg9; cases hg9
    · have e : g2 = g := Option.some.inj (z1.symm.trans hg9)
      rw [← e]; exact (hg g2 _ z2 rfl).2
  have ep := (hg pa _ kp rfl).2
  refine ⟨by rw [(hg tb _ kt rfl).1]; exact kt, by rw [(hg tb _ kt rfl).2]; exact ht, by rw [(hg pa _ kp rfl).1]; exact kp, fun i hi9 => ?_, fun i i' g g' r9 h1 h2 h3 h4 h5 h6 => ?_, fun n a hn => ?_⟩
  · rcases hpgs i hi9 with ⟨z1, z2⟩ | ⟨g, r9, z1, z2, z3, z4, z5⟩
    · exact Or.inl ⟨by rw [ep]; exact z1, z2⟩
    · refine Or.inr ⟨g, r9, by rw [ep]; exact z1, by rw [(hg g _ z2 rfl).1]; exact z2, by rw [(hg g _ z2 rfl).2]; exact z3, by rw [(hg r9 _ z4 rfl).1]; exact z4, fun j hj => ?_⟩
      rw [(hg r9 _ z4 rfl).2]; exact z5 j hj
  · rw [ep] at h3 h4
    rw [pg i g h1 h3] at h5
    rw [pg i' g' h2 h4] at h6
    exact hdi i i' g g' r9 h1 h2 h3 h4 h5 h6
  · obtain ⟨b1, b2, b3⟩ := hnd n a hn
    exact ⟨b1, by rw [(hg a _ b2 rfl).1]; exact b2, by rw [hi n a hn]; exact b3⟩
theorem Gr9.nk {S : sS} {tb pa : Nat} {nd : Nat → Option Nat} {rd sr : Nat → List (Nat × Nat)} (h : Gr9 S tb pa nd rd sr) {v a : Nat} (hv : nd v = some a) : v < 16384 ∧ S.1 a = some (.inl 3) ∧ S.2.2.1 a 0 = nI v := h.1.2.2.2.2.2 v a hv
theorem Gr9.inj {S : sS} {tb pa : Nat} {nd : Nat → Option Nat} {rd sr : Nat → List (Nat × Nat)} (h : Gr9 S tb pa nd rd sr) {v w a : Nat} (hv : nd v = some a) (hw : nd w = some a) : v = w := by
  obtain ⟨a1, -, a3⟩ := h.nk hv
  obtain ⟨b1, -, b3⟩ := h.nk hw
  exact (nI_eq (by omega) (by omega)).mp (a3.symm.trans b3)
/-- the graph stands on its own cells alone -/
theorem Gr9_dep {S u : sS} {tb pa : Nat} {nd : Nat → Option Nat} {rd sr : Nat → List (Nat × Nat)} (h : Gr9 S tb pa nd rd sr) (hg : ∀ b k, S.1 b = some k → gkk k = true → u.1 b = S.1 b ∧ u.2.1 b = S.2.1 b) (hi : ∀ v a, nd v = some a → ∀ i, i = 0 ∨ i = 3 ∨ i = 4 → u.2.2.1 a i = S.2.2.1 a i) : Gr9 u tb pa nd rd sr := by
  have h' := h
  obtain ⟨hT, hc, hn, hr, hs⟩ := h'
  refine ⟨Tb_dep hT hg (fun v a hv => hi v a hv 0 (Or.inl rfl)), fun v a hv => ?_, hn, fun v k w hk => ?_, hs⟩
  · obtain ⟨c1, c2, c3, c4⟩ := hc v a hv
    have ea := (hg a _ (h.nk hv).2.1 rfl).2
    refine ⟨?_, by rw [hi v a hv 3 (Or.inr (Or.inl rfl))]; exact c2, ?_, by rw [hi v a hv 4 (Or.inr (Or.inr rfl))]; exact c4⟩
    · rw [ea]
      refine chI_keep c1 (fun x hx => ?_)
      obtain ⟨⟨k, w⟩, hm, e⟩ := List.mem_map.mp hx
      have kx := (hr v k w hm).1
      have e2 : k = x := e
      rw [e2] at kx
      rw [(hg x _ kx rfl).2]; exact ⟨rfl, rfl⟩
    · rw [ea]
      refine chI_keep c3 (fun x hx => ?_)
      obtain ⟨⟨k, w⟩, hm, e⟩ := List.mem_map.mp hx
      have kx := (hr w k v (hs v k w hm)).1
      have e2 : k = x := e
      rw [e2] at kx
      rw [(hg x _ kx rfl).2]; exact ⟨rfl, rfl⟩
  · obtain ⟨d1, ⟨a, d2, d3⟩, ⟨b, d4, d5⟩, d6⟩ := hr v k w hk
    have ek := hg k _ d1 rfl
    exact ⟨by rw [ek.1]; exact d1, ⟨a, d2, by rw [ek.2]; exact d3⟩, ⟨b, d4, by rw [ek.2]; exact d5⟩, d6⟩
theorem Gr9_fr {S u : sS} {tb pa : Nat} {nd : Nat → Option Nat} {rd sr : Nat → List (Nat × Nat)} {P : Nat → Prop} (h : Gr9 S tb pa nd rd sr) (hF : sFr S u P) (hP : ∀ b k, S.1 b = some k → gkk k = true → ¬ P b) : Gr9 u tb pa nd rd sr := by
  refine Gr9_dep h (fun b k hb hk => ?_) (fun v a hv i hi => ?_)
  · obtain ⟨a1, a2⟩ := hF b (sk_nn hb)
    exact ⟨a1, (a2 (hP b k hb hk)).1⟩
  · have ka := (h.nk hv).2.1
    obtain ⟨a1, a2⟩ := hF a (sk_nn ka)
    rw [(a2 (hP a _ ka rfl)).2.1]
/-- a flag of a node, or a number of another cell, changed -/
theorem Gr9_it {S : sS} {tb pa : Nat} {nd : Nat → Option Nat} {rd sr : Nat → List (Nat × Nat)} (h : Gr9 S tb pa nd rd sr) {a i : Nat} {x : Int32} (hi : i ≠ 0 ∧ i ≠ 3 ∧ i ≠ 4) : Gr9 (S.1, S.2.1, up2 S.2.2.1 a i x, S.2.2.2) tb pa nd rd sr :=
  Gr9_dep h (fun b k hb hk => ⟨rfl, rfl⟩) (fun v b hv j hj => by
    show up2 S.2.2.1 a i x b j = S.2.2.1 b j
    rw [up2_ne _ _ (by omega)])
end
section
/-- the object's own fields -/
def Hd (S : sS) (h0 tb tr fr wr q : Nat) : Prop := S.1 h0 = some (.inl 0) ∧ S.2.1 h0 0 = some tb ∧ S.2.1 h0 1 = some tr ∧ S.2.1 h0 2 = some fr ∧ S.2.1 h0 3 = some wr ∧ S.2.1 h0 4 = some q
theorem Hd_fr {S u : sS} {h0 tb tr fr wr q : Nat} {P : Nat → Prop} (h : Hd S h0 tb tr fr wr q) (hF : sFr S u P) (hP : ¬ P h0) : Hd u h0 tb tr fr wr q := by
  obtain ⟨k, h1⟩ := h
  obtain ⟨a1, a2⟩ := hF h0 (sk_nn k)
  have e := (a2 hP).1
  exact ⟨by rw [a1]; exact k, by rw [e]; exact h1⟩
/-- what markFound does -/
def MarkFoundP (S : sS) (a fr r cap n : Nat) (f : Nat → Nat) (v : Nat) (u : sS) : Prop :=
  (S.2.2.1 a 7 ≠ 0 ∧ u = S) ∨ (S.2.2.1 a 7 = 0 ∧ AddP (S.1, S.2.1, up2 S.2.2.1 a 7 1, S.2.2.2) fr r cap n f v u)
set_option maxHeartbeats 4000000 in
set_option maxRecDepth 100000 in
theorem m_H_markFound (l : Launch) (D : va_G) (dA : Nat → ClassId) (S : sS) (sz : Nat) (h0 tb tr fr wr q a r cap n v : Nat) (f : Nat → Nat) (hH : Hd S h0 tb tr fr wr q) (ka : S.1 a = some (.inl 3)) (hv : S.2.2.1 a 0 = nI v) (hN : Nm S fr r cap n f) (hlt : n < 16384) :
    cV l y_H_markFound c_H_markFound 2 (rmk 3 (if S.2.2.1 a 7 = 0 ∧ ¬ n < cap then 1 else 0) (if S.2.2.1 a 7 = 0 ∧ ¬ n < cap then 2 * n else 0)) D dA S sz [.ref h0, .ref a] (MarkFoundP S a fr r cap n f v) ((if S.2.2.1 a 7 = 0 ∧ ¬ n < cap then 1 else 0)) ((if S.2.2.1 a 7 = 0 ∧ ¬ n < cap then 2 * n else 0)) := by
  obtain ⟨kd, rf, it, lg⟩ := S
  obtain ⟨kh, e0, e1, e2, e3, e4⟩ := hH
  dsimp only at kh e0 e1 e2 e3 e4 ka hv
  have hN' := hN
  obtain ⟨kn, hrow, kr, hn, hle, h16, hcap, hf⟩ := hN'
  dsimp only at kn hrow kr hn hf
  have han : fr ≠ a := sk_d kn ka (by decide)
  have har : r ≠ a := sk_d kr ka (fun z => by cases z)
  refine s_met (cc := c_H_markFound) (maxL := 2) (by decide) rfl (by simp [Value.category]) (by simp [lg_sl, Value.category]) ?_
  intro p e s m args below meth c ls hx hb hr hts hown hlocks hin hml hK hX hsz hM hl
  have hg := gd_hts hts
  have hl : lc ls 2 [some (va_rf (some h0)), some (va_rf (some a))] := hl
  refine q_al_n (i := 1) hx hb d_H_markFound_0 rfl hl rfl ?_
  refine s_geti (C := R_N) (T := F_N) (N := 9) (ci := 3) hx hb hg in_N hown hK hM ka rfl 7 (by decide) rfl (hg _ kw_144) (fun _ h9 => h9) d_H_markFound_1 ?_
  refine lv_if_ne (tgt := 23) hx hb d_H_markFound_4 (by decide) (fun c1 => ?_) (fun c1 => ?_)
  · refine W.widen (k := (if it a 7 = 0 ∧ ¬ n < cap then 1 else 0)) (n := (if it a 7 = 0 ∧ ¬ n < cap then 2 * n else 0)) (Nat.zero_le _) (Nat.zero_le _) ?_
    exact s_vret hx hb hr hM (Or.inl ⟨c1, rfl⟩) d_H_markFound_23 hlocks
  · have c0 : it a 7 = 0 := c1
    refine q_al_n (i := 1) hx hb d_H_markFound_7 rfl hl rfl ?_
    refine lv_iconst (v := 1) hx hb d_H_markFound_8 (by decide) ?_
    refine s_puti (C := R_N) (T := F_N) (N := 9) (ci := 3) hx hb hg in_N ft_N ft_N_ok fn_N hown hK hM ka rfl 7 (by decide) rfl (hg _ kw_144) (fun _ h9 => h9) rfl rfl rfl d_H_markFound_9 (fun H locs hM => ?_)
    refine q_al_n (i := 0) hx hb d_H_markFound_12 rfl hl rfl ?_
    refine s_getr (C := R_H) (T := F_H) (N := 7) (ci := 0) hx hb hg in_H hown hK hM kh rfl 2 (by decide) rfl (hg _ kw_67) (fun _ h9 => h9) d_H_markFound_13 ?_
    rw [e2]
    refine q_al_n (i := 1) hx hb d_H_markFound_16 rfl hl rfl ?_
    refine s_geti (C := R_N) (T := F_N) (N := 9) (ci := 3) hx hb hg in_N hown hK hM ka rfl 0 (by decide) rfl (hg _ kw_133) (fun _ h9 => h9) d_H_markFound_17 ?_
    rw [up2_ne _ _ (by decide), hv]
    have hN2 : Nm (kd, rf, up2 it a 7 1, lg) fr r cap n f := ⟨kn, hrow, kr, by show up2 it a 7 1 fr 1 = nI n; rw [up2_off _ _ han]; exact hn, hle, h16, hcap, fun i hi => by show up2 it a 7 1 r i = nI (f i); rw [up2_off _ _ har]; exact hf i hi⟩
    have em : (if it a 7 = 0 ∧ ¬ n < cap then 1 else 0) = (if n < cap then 0 else 1) := by
      by_cases z : n < cap
      · rw [if_pos z, if_neg (fun y => y.2 z)]
      · rw [if_neg z, if_pos ⟨c0, z⟩]
    have es : (if it a 7 = 0 ∧ ¬ n < cap then 2 * n else 0) = (if n < cap then 0 else 2 * n) := by
      by_cases z : n < cap
      · rw [if_pos z, if_neg (fun y => y.2 z)]
      · rw [if_neg z, if_pos ⟨c0, z⟩]
    rw [em, es]
    refine s_callv (r_V 1 [.int (nI v)] rfl hx hb hml hown hg (m_U_add l D dA _ _ fr r cap n f v hN2 hlt) (hM.pre hK hX) (hM.recv hK kn (q := cls.getD 5 (R_H, F_H, 7)) rfl) kw_169 kw_170 kw_171 kw_3 kw_172 (by decide +kernel) ⟨Nat.le_of_ble_eq_true rfl, Nat.le_of_ble_eq_true rfl⟩ rfl rfl hl.sz (by first | exact Nat.le_of_ble_eq_true rfl | simp [rf_cat] | simp [rf_cat, Value.category]) d_H_markFound_20 ⟨Nat.le_of_eq (Nat.zero_add _), Nat.le_of_eq (Nat.zero_add _)⟩ rfl) hM (fun u H locs hp hM => ?_)
    refine W.widen (k := (if n < cap then 0 else 1)) (n := (if n < cap then 0 else 2 * n)) (by omega) (by omega) ?_
    exact s_vret hx hb hr hM (Or.inr ⟨c0, hp⟩) d_H_markFound_23 hlocks
/-- what markTouched does -/
def MarkTouchedP (S : sS) (a tr r cap n : Nat) (f : Nat → Nat) (v : Nat) (u : sS) : Prop :=
  (S.2.2.1 a 5 ≠ 0 ∧ u = S) ∨ (S.2.2.1 a 5 = 0 ∧ AddP (S.1, S.2.1, up2 S.2.2.1 a 5 1, S.2.2.2) tr r cap n f v u)
set_option maxHeartbeats 4000000 in
set_option maxRecDepth 100000 in
theorem m_H_markTouched (l : Launch) (D : va_G) (dA : Nat → ClassId) (S : sS) (sz : Nat) (h0 tb tr fr wr q a r cap n v : Nat) (f : Nat → Nat) (hH : Hd S h0 tb tr fr wr q) (ka : S.1 a = some (.inl 3)) (hv : S.2.2.1 a 0 = nI v) (hN : Nm S tr r cap n f) (hlt : n < 16384) :
    cV l y_H_markTouched c_H_markTouched 2 (rmk 3 (if S.2.2.1 a 5 = 0 ∧ ¬ n < cap then 1 else 0) (if S.2.2.1 a 5 = 0 ∧ ¬ n < cap then 2 * n else 0)) D dA S sz [.ref h0, .ref a] (MarkTouchedP S a tr r cap n f v) ((if S.2.2.1 a 5 = 0 ∧ ¬ n < cap then 1 else 0)) ((if S.2.2.1 a 5 = 0 ∧ ¬ n < cap then 2 * n else 0)) := by
  obtain ⟨kd, rf, it, lg⟩ := S
  obtain ⟨kh, e0, e1, e2, e3, e4⟩ := hH
  dsimp only at kh e0 e1 e2 e3 e4 ka hv
  have hN' := hN
  obtain ⟨kn, hrow, kr, hn, hle, h16, hcap, hf⟩ := hN'
  dsimp only at kn hrow kr hn hf
  have han : tr ≠ a := sk_d kn ka (by decide)
  have har : r ≠ a := sk_d kr ka (fun z => by cases z)
  refine s_met (cc := c_H_markTouched) (maxL := 2) (by decide) rfl (by simp [Value.category]) (by simp [lg_sl, Value.category]) ?_
  intro p e s m args below meth c ls hx hb hr hts hown hlocks hin hml hK hX hsz hM hl
  have hg := gd_hts hts
  have hl : lc ls 2 [some (va_rf (some h0)), some (va_rf (some a))] := hl
  refine q_al_n (i := 1) hx hb d_H_markTouched_0 rfl hl rfl ?_
  refine s_geti (C := R_N) (T := F_N) (N := 9) (ci := 3) hx hb hg in_N hown hK hM ka rfl 5 (by decide) rfl (hg _ kw_142) (fun _ h9 => h9) d_H_markTouched_1 ?_
  refine lv_if_ne (tgt := 23) hx hb d_H_markTouched_4 (by decide) (fun c1 => ?_) (fun c1 => ?_)
  · refine W.widen (k := (if it a 5 = 0 ∧ ¬ n < cap then 1 else 0)) (n := (if it a 5 = 0 ∧ ¬ n < cap then 2 * n else 0)) (Nat.zero_le _) (Nat.zero_le _) ?_
    exact s_vret hx hb hr hM (Or.inl ⟨c1, rfl⟩) d_H_markTouched_23 hlocks
  · have c0 : it a 5 = 0 := c1
    refine q_al_n (i := 1) hx hb d_H_markTouched_7 rfl hl rfl ?_
    refine lv_iconst (v := 1) hx hb d_H_markTouched_8 (by decide) ?_
    refine s_puti (C := R_N) (T := F_N) (N := 9) (ci := 3) hx hb hg in_N ft_N ft_N_ok fn_N hown hK hM ka rfl 5 (by decide) rfl (hg _ kw_142) (fun _ h9 => h9) rfl rfl rfl d_H_markTouched_9 (fun H locs hM => ?_)
    refine q_al_n (i := 0) hx hb d_H_markTouched_12 rfl hl rfl ?_
    refine s_getr (C := R_H) (T := F_H) (N := 7) (ci := 0) hx hb hg in_H hown hK hM kh rfl 1 (by decide) rfl (hg _ kw_66) (fun _ h9 => h9) d_H_markTouched_13 ?_
    rw [e1]
    refine q_al_n (i := 1) hx hb d_H_markTouched_16 rfl hl rfl ?_
    refine s_geti (C := R_N) (T := F_N) (N := 9) (ci := 3) hx hb hg in_N hown hK hM ka rfl 0 (by decide) rfl (hg _ kw_133) (fun _ h9 => h9) d_H_markTouched_17 ?_
    rw [up2_ne _ _ (by decide), hv]
    have hN2 : Nm (kd, rf, up2 it a 5 1, lg) tr r cap n f := ⟨kn, hrow, kr, by show up2 it a 5 1 tr 1 = nI n; rw [up2_off _ _ han]; exact hn, hle, h16, hcap, fun i hi => by show up2 it a 5 1 r i = nI (f i); rw [up2_off _ _ har]; exact hf i hi⟩
    have em : (if it a 5 = 0 ∧ ¬ n < cap then 1 else 0) = (if n < cap then 0 else 1) := by
      by_cases z : n < cap
      · rw [if_pos z, if_neg (fun y => y.2 z)]
      · rw [if_neg z, if_pos ⟨c0, z⟩]
    have es : (if it a 5 = 0 ∧ ¬ n < cap then 2 * n else 0) = (if n < cap then 0 else 2 * n) := by
      by_cases z : n < cap
      · rw [if_pos z, if_neg (fun y => y.2 z)]
      · rw [if_neg z, if_pos ⟨c0, z⟩]
    rw [em, es]
    refine s_callv (r_V 1 [.int (nI v)] rfl hx hb hml hown hg (m_U_add l D dA _ _ tr r cap n f v hN2 hlt) (hM.pre hK hX) (hM.recv hK kn (q := cls.getD 5 (R_H, F_H, 7)) rfl) kw_169 kw_170 kw_171 kw_3 kw_172 (by decide +kernel) ⟨Nat.le_of_ble_eq_true rfl, Nat.le_of_ble_eq_true rfl⟩ rfl rfl hl.sz (by first | exact Nat.le_of_ble_eq_true rfl | simp [rf_cat] | simp [rf_cat, Value.category]) d_H_markTouched_20 ⟨Nat.le_of_eq (Nat.zero_add _), Nat.le_of_eq (Nat.zero_add _)⟩ rfl) hM (fun u H locs hp hM => ?_)
    refine W.widen (k := (if n < cap then 0 else 1)) (n := (if n < cap then 0 else 2 * n)) (by omega) (by omega) ?_
    exact s_vret hx hb hr hM (Or.inr ⟨c0, hp⟩) d_H_markTouched_23 hlocks
end
section
/-- the lengths that a row may have while it holds at most 1024 numbers -/
abbrev pw (c : Nat) : Prop := c = 16 ∨ c = 32 ∨ c = 64 ∨ c = 128 ∨ c = 256 ∨ c = 512 ∨ c = 1024
/-! the object's world: four Numbers (0 touched, 1 found, 2 worked, 3 the heap's), the table, nodes and links -/
def Mz (S : sS) (h0 tb pa q : Nat) (na : Nat → Nat) (nd : Nat → Option Nat) (rd sr : Nat → List (Nat × Nat)) (nr nc nn : Nat → Nat) (nf : Nat → Nat → Nat) : Prop :=
  Hd S h0 tb (na 0) (na 1) (na 2) q ∧ (S.1 q = some (.inl 6) ∧ S.2.1 q 0 = some (na 3)) ∧ Gr9 S tb pa nd rd sr ∧ (∀ i, i < 4 → Nm S (na i) (nr i) (nc i) (nn i) (nf i)) ∧ (∀ i j, i < 4 → j < 4 → na i = na j → i = j) ∧ ∀ i j, i < 4 → j < 4 → nr i = nr j → i = j
/-- a number of a node's, by the node's number -/
def fl (S : sS) (nd : Nat → Option Nat) (i v : Nat) : Int32 := match nd v with
  | some a => S.2.2.1 a i
  | none => 0
theorem fl_at {S : sS} {nd : Nat → Option Nat} {i v a : Nat} (h : nd v = some a) : fl S nd i v = S.2.2.1 a i := by rw [fl, h]
theorem fl_no {S : sS} {nd : Nat → Option Nat} {i v : Nat} (h : nd v = none) : fl S nd i v = 0 := by rw [fl, h]
theorem Nm_fl {S : sS} {a r cap n b i : Nat} {f : Nat → Nat} {x : Int32} (h : Nm S a r cap n f) (ha : a ≠ b) (hr : r ≠ b) : Nm (S.1, S.2.1, up2 S.2.2.1 b i x, S.2.2.2) a r cap n f := by
  obtain ⟨ka, hrow, kr, hn, hle, h16, hcap, hf⟩ := h
  exact ⟨ka, hrow, kr, by show up2 S.2.2.1 b i x a 1 = nI n; rw [up2_off _ _ ha]; exact hn, hle, h16, hcap, fun j hj => by show up2 S.2.2.1 b i x r j = nI (f j); rw [up2_off _ _ hr]; exact hf j hj⟩
theorem Mz_flag {S : sS} {h0 tb pa q : Nat} {na : Nat → Nat} {nd : Nat → Option Nat} {rd sr : Nat → List (Nat × Nat)} {nr nc nn : Nat → Nat} {nf : Nat → Nat → Nat} (h : Mz S h0 tb pa q na nd rd sr nr nc nn nf) {v a i : Nat} (hv : nd v = some a) (hi : 5 ≤ i) (x : Int32) :
    Mz (S.1, S.2.1, up2 S.2.2.1 a i x, S.2.2.2) h0 tb pa q na nd rd sr nr nc nn nf ∧ ∀ j w, fl (S.1, S.2.1, up2 S.2.2.1 a i x, S.2.2.2) nd j w = if w = v ∧ j = i then x else fl S nd j w := by
  obtain ⟨h1, h2, h3, h4, h5⟩ := h
  have ka := (h3.nk hv).2.1
  refine ⟨⟨h1, h2, Gr9_it h3 ⟨by omega, by omega, by omega⟩, fun k hk => ?_, h5⟩, fun j w => ?_⟩
  · have hN := h4 k hk
    exact Nm_fl hN (sk_d hN.1 ka (by decide)) (sk_d hN.2.2.1 ka (fun z => by cases z))
  · cases hw : nd w with
    | none =>
      rw [fl_no hw, fl_no hw, if_neg]
      rintro ⟨e, -⟩
      rw [e, hv] at hw; cases hw
    | some b =>
      rw [fl_at hw, fl_at hw]
      show up2 S.2.2.1 a i x b j = _
      by_cases e : w = v
      · have eb : b = a := by rw [e, hv] at hw; exact (Option.some.inj hw).symm
        rw [eb, e]
        by_cases ej : j = i
        · rw [ej, up2_self, if_pos ⟨rfl, rfl⟩]
        · rw [up2_ne _ _ ej, if_neg (fun z => ej z.2)]
      · have hb : b ≠ a := fun z => e (h3.inj (by rw [z] at hw; exact hw) hv)
        rw [up2_off _ _ hb, if_neg (fun z => e z.1)]
theorem Mz_num {S u : sS} {h0 tb pa q : Nat} {na : Nat → Nat} {nd : Nat → Option Nat} {rd sr : Nat → List (Nat × Nat)} {nr nc nn : Nat → Nat} {nf : Nat → Nat → Nat} (h : Mz S h0 tb pa q na nd rd sr nr nc nn nf) {i r' c' n' : Nat} {f' : Nat → Nat} (hi : i < 4) (hN : Nm u (na i) r' c' n' f') (hF : sFr S u (fun z => z = na i ∨ z = nr i)) (hr : r' = nr i ∨ S.1 r' = none) :
    Mz u h0 tb pa q na nd rd sr (va_up nr i r') (va_up nc i c') (va_up nn i n') (va_up nf i f') ∧ (∀ j w, fl u nd j w = fl S nd j w) ∧ ∀ j, u.2.2.1 h0 j = S.2.2.1 h0 j := by
  obtain ⟨h1, h2, h3, h4, h5, h6⟩ := h
  have hNi := h4 i hi
  have hP : ∀ {b c : Nat}, S.1 b = some (.inl c) → c ≠ 5 → ¬ (b = na i ∨ b = nr i) := by
    intro b c hb hc z
    rcases z with z | z
    · rw [z, hNi.1] at hb; exact hc (Sum.inl.inj (Option.some.inj hb)).symm
    · rw [z, hNi.2.2.1] at hb; cases hb
  have hne : ∀ k, k < 4 → k ≠ i → ¬ (na k = na i ∨ na k = nr i) ∧ ¬ (nr k = na i ∨ nr k = nr i) := by
    intro k hk hki
    have hNk := h4 k hk
    refine ⟨fun z => ?_, fun z => ?_⟩
    · rcases z with z | z
      · exact hki (h5 k i hk hi z)
      · have := hNk.1; rw [z, hNi.2.2.1] at this; cases this
    · rcases z with z | z
      · have := hNk.2.2.1; rw [z, hNi.1] at this; cases this
      · exact hki (h6 k i hk hi z)
  refine ⟨⟨Hd_fr h1 hF (hP h1.1 (by decide)), ?_, ?_, fun k hk => ?_, h5, fun k j hk hj e => ?_⟩, fun j w => ?_, fun j => ?_⟩
  · obtain ⟨a1, a2⟩ := hF q (sk_nn h2.1)
    exact ⟨by rw [a1]; exact h2.1, by rw [(a2 (hP h2.1 (by decide))).1]; exact h2.2⟩
  · refine Gr9_fr h3 hF (fun b k hb hk z => ?_)
    rcases z with z | z
    · rw [z, hNi.1] at hb; rw [← Option.some.inj hb] at hk; cases hk
    · rw [z, hNi.2.2.1] at hb; rw [← Option.some.inj hb] at hk; cases hk
  · by_cases e : k = i
    · rw [e, va_up_self, va_up_self, va_up_self, va_up_self]; exact hN
    · rw [va_up_ne _ _ e, va_up_ne _ _ e, va_up_ne _ _ e, va_up_ne _ _ e]
      exact Nm_keep (h4 k hk) hF (hne k hk e).1 (hne k hk e).2
  · have fr9 : ∀ k, k < 4 → k ≠ i → nr k ≠ r' := by
      intro k hk hki z
      rcases hr with y | y
      · exact hki (h6 k i hk hi (z.trans y))
      · have := (h4 k hk).2.2.1; rw [z, y] at this; cases this
    by_cases e1 : k = i
    · by_cases e2 : j = i
      · omega
      · rw [e1, va_up_self, va_up_ne _ _ e2] at e; exact absurd e.symm (fr9 j hj e2)
    · by_cases e2 : j = i
      · rw [e2, va_up_self, va_up_ne _ _ e1] at e; exact absurd e (fr9 k hk e1)
      · rw [va_up_ne _ _ e1, va_up_ne _ _ e2] at e; exact h6 k j hk hj e
  · cases hw : nd w with
    | none => rw [fl_no hw, fl_no hw]
    | some b =>
      have kb := (h3.nk hw).2.1
      rw [fl_at hw, fl_at hw, ((hF b (sk_nn kb)).2 (hP kb (by decide))).2.1]
  · rw [((hF h0 (sk_nn h1.1)).2 (hP h1.1 (by decide))).2.1]
/-- add to a row of the four -/
theorem Mz_add {S u : sS} {h0 tb pa q : Nat} {na : Nat → Nat} {nd : Nat → Option Nat} {rd sr : Nat → List (Nat × Nat)} {nr nc nn : Nat → Nat} {nf : Nat → Nat → Nat} (h : Mz S h0 tb pa q na nd rd sr nr nc nn nf) {i v : Nat} (hi : i < 4) (hA : AddP S (na i) (nr i) (nc i) (nn i) (nf i) v u) :
    ∃ r', Mz u h0 tb pa q na nd rd sr (va_up nr i r') (va_up nc i (if nn i < nc i then nc i else 2 * nn i)) (va_up nn i (nn i + 1)) (va_up nf i (fun k => if k = nn i then v else nf i k)) ∧ (∀ j w, fl u nd j w = fl S nd j w) ∧ ∀ j, u.2.2.1 h0 j = S.2.2.1 h0 j := by
  obtain ⟨r', c', a1, a2, a3, a4, -⟩ := hA
  subst a4
  exact ⟨r', Mz_num h hi a1 a2 a3⟩
theorem Mz_empty {S : sS} {h0 tb pa q : Nat} {na : Nat → Nat} {nd : Nat → Option Nat} {rd sr : Nat → List (Nat × Nat)} {nr nc nn : Nat → Nat} {nf : Nat → Nat → Nat} (h : Mz S h0 tb pa q na nd rd sr nr nc nn nf) {i : Nat} (hi : i < 4) :
    Mz (S.1, S.2.1, up2 S.2.2.1 (na i) 1 0, S.2.2.2) h0 tb pa q na nd rd sr nr nc (va_up nn i 0) nf ∧ (∀ j w, fl (S.1, S.2.1, up2 S.2.2.1 (na i) 1 0, S.2.2.2) nd j w = fl S nd j w) ∧ ∀ j, up2 S.2.2.1 (na i) 1 0 h0 j = S.2.2.1 h0 j := by
  obtain ⟨ka, hrow, kr, hn, hle, h16, hcap, hf⟩ := h.2.2.2.1 i hi
  have hN : Nm (S.1, S.2.1, up2 S.2.2.1 (na i) 1 0, S.2.2.2) (na i) (nr i) (nc i) 0 (nf i) := ⟨ka, hrow, kr, up2_self _ _ _ _, Nat.zero_le _, h16, hcap, fun k hk => absurd hk (Nat.not_lt_zero k)⟩
  have hF : sFr S (S.1, S.2.1, up2 S.2.2.1 (na i) 1 0, S.2.2.2) (fun z => z = na i ∨ z = nr i) := fun b hb => ⟨rfl, fun hn9 => ⟨rfl, by show up2 S.2.2.1 (na i) 1 0 b = _; rw [up2_off _ _ (fun z => hn9 (Or.inl z))], rfl⟩⟩
  have := Mz_num h hi hN hF (Or.inl rfl)
  rw [va_up_same (f := nr) (k := i) rfl, va_up_same (f := nc) (k := i) rfl, va_up_same (f := nf) (k := i) rfl] at this
  exact this
theorem hp_set_push {f g : Nat → Nat} {n v : Nat} (hg : ∀ i, i < n → g i = f i) (hv : g n = v) (x : Nat) : hp_set g (n + 1) x ↔ hp_set f n x ∨ x = v := by
  constructor
  · rintro ⟨i, hi, e⟩
    by_cases z : i = n
    · rw [z, hv] at e; exact Or.inr e.symm
    · exact Or.inl ⟨i, by omega, by rw [← hg i (by omega)]; exact e⟩
  · rintro (⟨i, hi, e⟩ | e)
    · exact ⟨i, by omega, by rw [hg i hi]; exact e⟩
    · exact ⟨n, by omega, by rw [hv, e]⟩
theorem hp_inj_push {f g : Nat → Nat} {n v : Nat} (h : hp_inj f n) (hg : ∀ i, i < n → g i = f i) (hv : g n = v) (hs : ¬ hp_set f n v) : hp_inj g (n + 1) := by
  intro i j hi hj e
  by_cases z1 : i = n
  · by_cases z2 : j = n
    · omega
    · rw [z1, hv, hg j (by omega)] at e; exact absurd ⟨j, by omega, e.symm⟩ hs
  · by_cases z2 : j = n
    · rw [z2, hv, hg i (by omega)] at e; exact absurd ⟨i, by omega, e⟩ hs
    · rw [hg i (by omega), hg j (by omega)] at e; exact h i j (by omega) (by omega) e
end
section
/-- findTouched's loop, k of the touched ones found -/
def FtI (S0 S : sS) (h0 tb pa q : Nat) (na : Nat → Nat) (nd : Nat → Option Nat) (rd sr : Nat → List (Nat × Nat)) (nr0 nc0 nn : Nat → Nat) (nf0 : Nat → Nat → Nat) (nr nc : Nat → Nat) (nf : Nat → Nat → Nat) (k : Nat) : Prop :=
  Mz S h0 tb pa q na nd rd sr nr nc (va_up nn 1 k) nf ∧ (∀ i, i < k → nf 1 i = nf0 0 i) ∧ (∀ i, i ≠ 1 → nf i = nf0 i ∧ nc i = nc0 i ∧ nr i = nr0 i) ∧ pw (nc 1) ∧ (∀ v, fl S nd 5 v ≠ 0 → ∃ i, k ≤ i ∧ i < nn 0 ∧ nf0 0 i = v) ∧ (∀ v, (hp_set (nf0 0) k v → fl S nd 7 v = 1) ∧ (¬ hp_set (nf0 0) k v → fl S nd 7 v = 0)) ∧ (∀ j v, j ≠ 5 → j ≠ 7 → fl S nd j v = fl S0 nd j v) ∧ ∀ j, S.2.2.1 h0 j = S0.2.2.1 h0 j
set_option maxHeartbeats 4000000 in
set_option maxRecDepth 100000 in
theorem ft_loop {p : Program} {l : Launch} {e : Env} {s : State} {m : MethodId} {args : Array Value} {below : List Frame} {meth : Method} {c : Code} {D : va_G} {dA : Nat → ClassId} {A : Nat → Prop} {Q : State → Prop} (hx : p.tables.exec = Jvm.exec) (hb : c.code = c_H_findTouched) (hml : c.maxLocals = 3) (hown : s.vm.findClass R_H = some m.cls) (hg : ∀ w ∈ gd, w.before args s = true) (hK : va_K D cls (tys dA) s) (hX : sKx s) {h0 tb pa q : Nat} {na : Nat → Nat} {nd : Nat → Option Nat} {rd sr : Nat → List (Nat × Nat)} {S0 : sS} {nr0 nc0 nn : Nat → Nat} {nf0 : Nat → Nat → Nat} (hinj : hp_inj (nf0 0) (nn 0)) (hnd : ∀ i, i < nn 0 → nd (nf0 0 i) ≠ none) (hB : nn 0 ≤ 1024)
    (kk : ∀ (S : sS) (nr nc : Nat → Nat) (nf : Nat → Nat → Nat) (H : Heap) (locs : List Loc) (ls : Array Slot) (o : Option Value), SW D dA A s.heap S H locs → lc ls 3 [some (va_rf (some h0)), some (.int (nI (nn 0))), o] → FtI S0 S h0 tb pa q na nd rd sr nr0 nc0 nn nf0 nr nc nf (nn 0) → W p l e (rmk 4 64 2048) s m args below meth c H locs 64 2048 Q (F0 m 45 ls [])) :
    ∀ (d k : Nat) (S : sS) (nr nc : Nat → Nat) (nf : Nat → Nat → Nat) (H : Heap) (locs : List Loc) (ls : Array Slot) (o : Option Value), k + d = nn 0 → SW D dA A s.heap S H locs → lc ls 3 [some (va_rf (some h0)), some (.int (nI k)), o] → FtI S0 S h0 tb pa q na nd rd sr nr0 nc0 nn nf0 nr nc nf k → W p l e (rmk 4 64 2048) s m args below meth c H locs (nc 1 / 16) (2 * nc 1) Q (F0 m 2 ls []) := by
  intro d
  induction d with
  | zero =>
    intro k S nr nc nf H locs ls o hk hM hl hI
    have hk0 : k = nn 0 := by omega
    subst hk0
    obtain ⟨kd, rf, it, lg⟩ := S
    have hZ := hI.1
    have hc9 := hI.2.2.2.1
    obtain ⟨⟨kh, e0, e1, e2, e3, e4⟩, ⟨kq, eq⟩, hG, hN, hna, hnr⟩ := id hZ
    dsimp only at kh e0 e1 e2 e3 e4 kq eq
    have hn0 := (hN 0 (by decide)).2.2.2.1
    have k0 := (hN 0 (by decide)).1
    dsimp only at hn0 k0
    rw [va_up_ne _ _ (by decide)] at hn0
    refine q_iload_n (i := 1) hx hb d_H_findTouched_2 rfl hl rfl ?_
    refine q_al_n (i := 0) hx hb d_H_findTouched_3 rfl hl rfl ?_
    refine s_getr (C := R_H) (T := F_H) (N := 7) (ci := 0) hx hb hg in_H hown hK hM kh rfl 1 (by decide) rfl (hg _ kw_66) (fun _ h9 => h9) d_H_findTouched_4 ?_
    rw [e1]
    refine s_geti (C := R_U) (T := F_U) (N := 2) (ci := 5) hx hb hg in_U hown hK hM k0 rfl 1 (by decide) rfl (hg _ kw_46) (fun _ h9 => h9) d_H_findTouched_7 ?_
    rw [hn0]
    refine n_ge (tgt := 45) hx hb d_H_findTouched_10 (by decide) (by omega) (by omega) (fun c1 => ?_) (fun c1 => ?_)
    · refine W.widen (k := 64) (n := 2048) (by omega) (by omega) ?_
      exact kk _ nr nc nf H locs ls o hM hl hI
    · omega
  | succ d ih =>
    intro k S nr nc nf H locs ls o hk hM hl hI
    obtain ⟨kd, rf, it, lg⟩ := S
    obtain ⟨hZ, i1, i2, hc9, i4, i5, i6, i7⟩ := hI
    obtain ⟨⟨kh, e0, e1, e2, e3, e4⟩, ⟨kq, eq⟩, hG, hN, hna, hnr⟩ := id hZ
    dsimp only at kh e0 e1 e2 e3 e4 kq eq
    have hkn : k < nn 0 := by omega
    have hN0 := hN 0 (by decide)
    have hn0 := hN0.2.2.2.1
    have k0 := hN0.1
    dsimp only at hn0 k0
    rw [va_up_ne _ _ (by decide)] at hn0
    have hN1 := hN 1 (by decide)
    have hle1 : va_up nn 1 k 1 ≤ nc 1 := hN1.2.2.2.2.1
    have h161 : 16 ≤ nc 1 := hN1.2.2.2.2.2.1
    rw [va_up_self] at hle1
    obtain ⟨a, ha⟩ : ∃ a, nd (nf0 0 k) = some a := Option.ne_none_iff_exists'.mp (hnd k hkn)
    have ef : nf 0 k = nf0 0 k := by rw [(i2 0 (by decide)).1]
    obtain ⟨hv9, ka, hva⟩ := hG.nk ha
    dsimp only at ka hva
    refine q_iload_n (i := 1) hx hb d_H_findTouched_2 rfl hl rfl ?_
    refine q_al_n (i := 0) hx hb d_H_findTouched_3 rfl hl rfl ?_
    refine s_getr (C := R_H) (T := F_H) (N := 7) (ci := 0) hx hb hg in_H hown hK hM kh rfl 1 (by decide) rfl (hg _ kw_66) (fun _ h9 => h9) d_H_findTouched_4 ?_
    rw [e1]
    refine s_geti (C := R_U) (T := F_U) (N := 2) (ci := 5) hx hb hg in_U hown hK hM k0 rfl 1 (by decide) rfl (hg _ kw_46) (fun _ h9 => h9) d_H_findTouched_7 ?_
    rw [hn0]
    refine n_ge (tgt := 45) hx hb d_H_findTouched_10 (by decide) (by omega) (by omega) (fun c1 => ?_) (fun c1 => ?_)
    · omega
    · refine q_al_n (i := 0) hx hb d_H_findTouched_13 rfl hl rfl ?_
      refine s_getr (C := R_H) (T := F_H) (N := 7) (ci := 0) hx hb hg in_H hown hK hM kh rfl 0 (by decide) rfl (hg _ kw_65) (fun _ h9 => h9) d_H_findTouched_14 ?_
      rw [e0]
      refine q_al_n (i := 0) hx hb d_H_findTouched_17 rfl hl rfl ?_
      refine s_getr (C := R_H) (T := F_H) (N := 7) (ci := 0) hx hb hg in_H hown hK hM kh rfl 1 (by decide) rfl (hg _ kw_66) (fun _ h9 => h9) d_H_findTouched_18 ?_
      rw [e1]
      refine q_iload_n (i := 1) hx hb d_H_findTouched_21 rfl hl rfl ?_
      refine s_calli (r_V 1 [.int (nI k)] rfl hx hb hml hown hg (m_U_at l D dA _ _ (na 0) (nr 0) (nc 0) (va_up nn 1 k 0) (nf 0) (nI k) hN0) (hM.pre hK hX) (hM.recv hK k0 (q := cls.getD 5 (R_H, F_H, 7)) rfl) kw_99 kw_100 kw_101 kw_3 kw_102 (by decide +kernel) ⟨Nat.le_of_ble_eq_true rfl, Nat.le_of_ble_eq_true rfl⟩ rfl rfl hl.sz (by first | exact Nat.le_of_ble_eq_true rfl | simp [rf_cat] | simp [rf_cat, Value.category]) d_H_findTouched_22 ⟨by show _ ≤ 64; omega, by show _ ≤ 2048; omega⟩ rfl) hM (fun r1 u H locs hp hM => ?_)
      obtain ⟨rfl, hp⟩ := hp
      have er : r1 = nI (nf0 0 k) := by
        rcases hp with ⟨-, e⟩ | ⟨z, -⟩
        · rw [e, nI_clamp (by omega), ef]
        · exact absurd (vp_in_nI (by rw [va_up_ne _ _ (by decide)]; exact hkn) (by rw [va_up_ne _ _ (by decide)]; omega)) z
      subst er
      refine s_callq (r_V 1 [.int (nI (nf0 0 k))] rfl hx hb hml hown hg (m_T_of l D dA _ _ tb pa nd (nf0 0 k) a hG.1 hv9 ha) (hM.pre hK hX) (hM.recv hK hG.1.1 (q := cls.getD 1 (R_H, F_H, 7)) rfl) kw_107 kw_108 kw_109 kw_2 kw_110 (by decide +kernel) ⟨Nat.le_of_ble_eq_true rfl, Nat.le_of_ble_eq_true rfl⟩ rfl rfl hl.sz (by first | exact Nat.le_of_ble_eq_true rfl | simp [rf_cat] | simp [rf_cat, Value.category]) d_H_findTouched_25 ⟨by show _ ≤ 64; omega, by show _ ≤ 2048; omega⟩ rfl) hM (fun r1 u H locs hp hM => ?_)
      obtain ⟨rfl, rfl⟩ := hp
      refine q_astore_n (i := 2) hx hb (_) d_H_findTouched_28 rfl hl (by decide) (fun ls hl => ?_)
      simp only [List.set_cons_succ, List.set_cons_zero] at hl
      refine q_al_n (i := 2) hx hb d_H_findTouched_29 rfl hl rfl ?_
      refine lv_iconst (v := 0) hx hb d_H_findTouched_30 (by decide) ?_
      refine s_puti (C := R_N) (T := F_N) (N := 9) (ci := 3) hx hb hg in_N ft_N ft_N_ok fn_N hown hK hM ka rfl 5 (by decide) rfl (hg _ kw_142) (fun _ h9 => h9) rfl rfl rfl d_H_findTouched_31 (fun H locs hM => ?_)
      have hF1 := Mz_flag hZ ha (i := 5) (by decide) 0
      obtain ⟨hZ1, f1⟩ := hF1
      have h70 : up2 it a 5 0 a 7 = 0 := by
        have h1 := (i5 (nf0 0 k)).2 (fun ⟨i, hi, e⟩ => by have := hinj i k (by omega) hkn e; omega)
        rw [fl_at ha] at h1
        rw [up2_ne _ _ (by decide)]; exact h1
      refine q_al_n (i := 0) hx hb d_H_findTouched_34 rfl hl rfl ?_
      refine q_al_n (i := 2) hx hb d_H_findTouched_35 rfl hl rfl ?_
      have hNf := hZ1.2.2.2.1 1 (by decide)
      rw [va_up_self] at hNf
      refine s_callv (r_V 1 [.ref a] rfl hx hb hml hown hg (m_H_markFound l D dA _ _ h0 tb (na 0) (na 1) (na 2) q a (nr 1) (nc 1) k (nf0 0 k) (nf 1) hZ1.1 ka (by show up2 it a 5 0 a 0 = _; rw [up2_ne _ _ (by decide)]; exact hva) hNf (by omega)) (hM.pre hK hX) (hM.recv hK kh (q := cls.getD 0 (R_H, F_H, 7)) rfl) kw_165 kw_167 ks_2 kw_1 kw_168 (by decide +kernel) ⟨Nat.le_of_ble_eq_true rfl, Nat.le_of_ble_eq_true rfl⟩ rfl rfl hl.sz (by first | exact Nat.le_of_ble_eq_true rfl | simp [rf_cat] | simp [rf_cat, Value.category]) d_H_findTouched_36 ⟨by show _ ≤ 64; split <;> omega, by show _ ≤ 2048; split <;> omega⟩ rfl) hM (fun u H locs hp hM => ?_)
      rcases hp with ⟨z, -⟩ | ⟨-, hA⟩
      · exact absurd h70 z
      · have hF2 := Mz_flag hZ1 ha (i := 7) (by decide) 1
        obtain ⟨hZ2, f2⟩ := hF2
        have hA2 : AddP ((kd, rf, up2 it a 5 0, lg).1, (kd, rf, up2 it a 5 0, lg).2.1, up2 (kd, rf, up2 it a 5 0, lg).2.2.1 a 7 1, (kd, rf, up2 it a 5 0, lg).2.2.2) (na 1) (nr 1) (nc 1) (va_up nn 1 k 1) (nf 1) (nf0 0 k) u := by rw [va_up_self]; exact hA
        obtain ⟨r', hZ3, f3, g3⟩ := Mz_add hZ2 (i := 1) (by decide) hA2
        rw [va_up_self] at hZ3
        have enn : va_up (va_up nn 1 k) 1 (k + 1) = va_up nn 1 (k + 1) := by
          funext j
          by_cases e : j = 1
          · rw [e, va_up_self, va_up_self]
          · rw [va_up_ne _ _ e, va_up_ne _ _ e, va_up_ne _ _ e]
        rw [enn] at hZ3
        have efl : ∀ j v, fl u nd j v = if v = nf0 0 k ∧ j = 7 then 1 else if v = nf0 0 k ∧ j = 5 then 0 else fl (kd, rf, it, lg) nd j v := fun j v => by rw [f3, f2, f1]
        refine W.widen (k := va_up nc 1 (if k < nc 1 then nc 1 else 2 * k) 1 / 16) (n := 2 * va_up nc 1 (if k < nc 1 then nc 1 else 2 * k) 1) ?_ ?_ ?_
        · rw [va_up_self]
          by_cases z : k < nc 1
          · rw [if_pos z, if_neg (fun y => y.2 z)]; omega
          · rw [if_neg z]; split <;> omega
        · rw [va_up_self]
          by_cases z : k < nc 1
          · rw [if_pos z, if_neg (fun y => y.2 z)]; omega
          · rw [if_neg z]; split <;> omega
        refine q_iinc hx hb (nI (k + 1)) d_H_findTouched_39 hl rfl (nI_1 k) (by decide) (fun ls hl => ?_)
        simp only [List.set_cons_succ, List.set_cons_zero] at hl
        refine lv_goto (tgt := 2) hx hb d_H_findTouched_42 (by decide) ?_
        refine ih (k + 1) _ _ _ _ H locs ls _ (by omega) hM hl ⟨hZ3, fun i hi => ?_, fun i hi => ?_, ?_, fun v hv => ?_, fun v => ⟨fun hs => ?_, fun hs => ?_⟩, fun j v j5 j7 => ?_, fun j => ?_⟩
        · rw [va_up_self]
          by_cases e : i = k
          · rw [e, if_pos rfl]
          · rw [if_neg e]; exact i1 i (by omega)
        · rw [va_up_ne _ _ hi, va_up_ne _ _ hi, va_up_ne _ _ hi]; exact i2 i hi
        · rw [va_up_self]; split <;> omega
        · rw [efl] at hv
          by_cases e : v = nf0 0 k
          · rw [if_neg (fun y => by cases y.2), if_pos ⟨e, rfl⟩] at hv; exact absurd rfl hv
          · rw [if_neg (fun y => e y.1), if_neg (fun y => e y.1)] at hv
            obtain ⟨i, q1, q2, q3⟩ := i4 v hv
            have hik : i ≠ k := fun z => e (by rw [← q3, z])
            exact ⟨i, by omega, q2, q3⟩
        · rw [efl]
          by_cases e : v = nf0 0 k
          · rw [if_pos ⟨e, rfl⟩]
          · rw [if_neg (fun y => e y.1), if_neg (fun y => e y.1)]
            refine (i5 v).1 ?_
            obtain ⟨i, q1, q2⟩ := hs
            have hik : i ≠ k := fun z => e (by rw [← q2, z])
            exact ⟨i, by omega, q2⟩
        · have e : v ≠ nf0 0 k := fun y => hs ⟨k, by omega, y.symm⟩
          rw [efl, if_neg (fun y => e y.1), if_neg (fun y => e y.1)]
          exact (i5 v).2 (fun ⟨i, q1, q2⟩ => hs ⟨i, by omega, q2⟩)
        · rw [efl, if_neg (fun y => j7 y.2), if_neg (fun y => j5 y.2)]; exact i6 j v j5 j7
        · have hha : h0 ≠ a := sk_d kh ka (by decide)
          rw [g3]
          show up2 (up2 it a 5 0) a 7 1 h0 j = _
          rw [up2_off _ _ hha, up2_off _ _ hha]; exact i7 j
/-- what findTouched does -/
def FtP (S : sS) (h0 tb pa q : Nat) (na : Nat → Nat) (nd : Nat → Option Nat) (rd sr : Nat → List (Nat × Nat)) (nr0 nc0 nn : Nat → Nat) (nf0 : Nat → Nat → Nat) (u : sS) : Prop :=
  ∃ nr nc nf, Mz u h0 tb pa q na nd rd sr nr nc (va_up (va_up nn 1 (nn 0)) 0 0) nf ∧ (∀ i, i < nn 0 → nf 1 i = nf0 0 i) ∧ (∀ i, i ≠ 1 → nf i = nf0 i ∧ nc i = nc0 i ∧ nr i = nr0 i) ∧ pw (nc 1) ∧ (∀ v, fl u nd 5 v = 0) ∧ (∀ v, (hp_set (nf0 0) (nn 0) v → fl u nd 7 v = 1) ∧ (¬ hp_set (nf0 0) (nn 0) v → fl u nd 7 v = 0)) ∧ (∀ j v, j ≠ 5 → j ≠ 7 → fl u nd j v = fl S nd j v) ∧ ∀ j, u.2.2.1 h0 j = S.2.2.1 h0 j
set_option maxHeartbeats 4000000 in
set_option maxRecDepth 100000 in
theorem m_H_findTouched (l : Launch) (D : va_G) (dA : Nat → ClassId) (S : sS) (sz : Nat) (h0 tb pa q : Nat) (na : Nat → Nat) (nd : Nat → Option Nat) (rd sr : Nat → List (Nat × Nat)) (nr nc nn : Nat → Nat) (nf : Nat → Nat → Nat) (hZ : Mz S h0 tb pa q na nd rd sr nr nc nn nf) (h1 : nn 1 = 0) (hinj : hp_inj (nf 0) (nn 0)) (hnd : ∀ i, i < nn 0 → nd (nf 0 i) ≠ none) (hB : nn 0 ≤ 1024) (hc : pw (nc 1)) (h5 : ∀ v, fl S nd 5 v ≠ 0 → hp_set (nf 0) (nn 0) v) (h7 : ∀ v, fl S nd 7 v = 0) :
    cV l y_H_findTouched c_H_findTouched 3 (rmk 4 64 2048) D dA S sz [.ref h0] (FtP S h0 tb pa q na nd rd sr nr nc nn nf) (64) (2048) := by
  refine s_met (cc := c_H_findTouched) (maxL := 3) (by decide) rfl (by simp [Value.category]) (by simp [lg_sl, Value.category]) ?_
  intro p e s m args below meth c ls hx hb hr hts hown hlocks hin hml hK hX hsz hM hl
  have hg := gd_hts hts
  have hl : lc ls 3 [some (va_rf (some h0)), none, none] := hl
  refine lv_iconst (v := nI 0) hx hb d_H_findTouched_0 (by decide) ?_
  refine q_istore_n (i := 1) hx hb d_H_findTouched_1 rfl hl (by decide) (fun ls hl => ?_)
  simp only [List.set_cons_succ, List.set_cons_zero] at hl
  refine W.widen (k := nc 1 / 16) (n := 2 * nc 1) (Nat.zero_le _) (Nat.zero_le _) ?_
  refine ft_loop hx hb hml hown hg hK hX (S0 := S) (nr0 := nr) (nc0 := nc) (nn := nn) (nf0 := nf) hinj hnd hB ?_ (nn 0) 0 S nr nc nf s.heap [] ls _ (by omega) hM hl ⟨by rw [va_up_same h1]; exact hZ, fun i hi => absurd hi (Nat.not_lt_zero i), fun i hi => ⟨rfl, rfl, rfl⟩, hc, fun v hv => ?_, fun v => ⟨fun ⟨i, hi, _⟩ => absurd hi (Nat.not_lt_zero i), fun _ => h7 v⟩, fun j v _ _ => rfl, fun j => rfl⟩
  · intro S1 nr1 nc1 nf1 H locs ls o hM hl hI
    obtain ⟨kd, rf, it, lg⟩ := S1
    obtain ⟨hZ1, i1, i2, hc9, i4, i5, i6, i7⟩ := hI
    obtain ⟨⟨kh, e0, e1, e2, e3, e4⟩, ⟨kq, eq⟩, hG, hN, hna, hnr⟩ := id hZ1
    dsimp only at kh e0 e1 e2 e3 e4 kq eq
    have k0 := (hN 0 (by decide)).1
    refine q_al_n (i := 0) hx hb d_H_findTouched_45 rfl hl rfl ?_
    refine s_getr (C := R_H) (T := F_H) (N := 7) (ci := 0) hx hb hg in_H hown hK hM kh rfl 1 (by decide) rfl (hg _ kw_66) (fun _ h9 => h9) d_H_findTouched_46 ?_
    rw [e1]
    refine s_callv (r_V 0 [] rfl hx hb hml hown hg (m_U_empty l D dA _ _ (na 0) k0) (hM.pre hK hX) (hM.recv hK k0 (q := cls.getD 5 (R_H, F_H, 7)) rfl) kw_91 kw_92 kw_93 kw_3 kw_94 (by decide +kernel) ⟨Nat.le_of_ble_eq_true rfl, Nat.le_of_ble_eq_true rfl⟩ rfl rfl hl.sz (by first | exact Nat.le_of_ble_eq_true rfl | simp [rf_cat] | simp [rf_cat, Value.category]) d_H_findTouched_49 ⟨by show 64 + 0 ≤ 64; omega, by show 2048 + 0 ≤ 2048; omega⟩ rfl) hM (fun u H locs hp hM => ?_)
    subst hp
    obtain ⟨hZ2, f2, g2⟩ := Mz_empty hZ1 (i := 0) (by decide)
    refine s_vret hx hb hr hM ⟨nr1, nc1, nf1, hZ2, i1, i2, hc9, fun v => ?_, fun v => ?_, fun j v j5 j7 => ?_, fun j => ?_⟩ d_H_findTouched_52 hlocks
    · rw [f2]
      refine Decidable.byContradiction fun z => ?_
      obtain ⟨i, q1, q2, -⟩ := i4 v z
      omega
    · rw [f2]; exact i5 v
    · rw [f2]; exact i6 j v j5 j7
    · exact (g2 j).trans (i7 j)
  · obtain ⟨i, q1, q2⟩ := h5 v hv
    exact ⟨i, Nat.zero_le _, q1, q2⟩
end
section
/-- what is found so far: n numbers f -/
def Fnd (S : sS) (h0 tb pa q : Nat) (na : Nat → Nat) (nd : Nat → Option Nat) (rd sr : Nat → List (Nat × Nat)) (nr nc nn : Nat → Nat) (nf : Nat → Nat → Nat) (r c n : Nat) (f : Nat → Nat) : Prop :=
  Mz S h0 tb pa q na nd rd sr (va_up nr 1 r) (va_up nc 1 c) (va_up nn 1 n) (va_up nf 1 f) ∧ hp_inj f n ∧ (∀ i, i < n → nd (f i) ≠ none) ∧ (∀ v, (hp_set f n v → fl S nd 7 v = 1) ∧ (¬ hp_set f n v → fl S nd 7 v = 0)) ∧ pw c
/-- at most m nodes were named -/
def fewN (nd : Nat → Option Nat) (m : Nat) : Prop := ∃ L : List Nat, L.length ≤ m ∧ ∀ v, nd v ≠ none → v ∈ L
theorem few_le {nd : Nat → Option Nat} {m n : Nat} {f : Nat → Nat} (h : fewN nd m) (hi : hp_inj f n) (hn : ∀ i, i < n → nd (f i) ≠ none) : n ≤ m := by
  obtain ⟨L, hL, hm⟩ := h
  have h1 : ((List.range n).map f).Nodup := by
    rw [List.nodup_iff_pairwise_ne, List.pairwise_iff_getElem]
    intro i j h1 h2 hij e
    have h1' : i < n := by simpa using h1
    have h2' : j < n := by simpa using h2
    have e' : f i = f j := by simpa using e
    have := hi i j h1' h2' e'
    omega
  have h2 : ((List.range n).map f) ⊆ L := by
    intro x hx
    obtain ⟨i, hi9, e⟩ := List.mem_map.mp hx
    rw [← e]
    exact hm _ (hn i (List.mem_range.mp hi9))
  have h3 := List.Nodup.length_le_of_subset h1 h2
  simp at h3
  omega
theorem inj_room {nd : Nat → Option Nat} {m n x : Nat} {f : Nat → Nat} (h : fewN nd m) (hi : hp_inj f n) (hn : ∀ i, i < n → nd (f i) ≠ none) (hx : nd x ≠ none) (hs : ¬ hp_set f n x) : n + 1 ≤ m := by
  refine few_le (f := fun k => if k = n then x else f k) h (hp_inj_push hi (fun i hi => if_neg (by omega)) (if_pos rfl) hs) (fun i hi => ?_)
  by_cases e : i = n
  · rw [if_pos e]; exact hx
  · rw [if_neg e]; exact hn i (by omega)
theorem Fnd_room {S : sS} {h0 tb pa q : Nat} {na : Nat → Nat} {nd : Nat → Option Nat} {rd sr : Nat → List (Nat × Nat)} {nr nc nn : Nat → Nat} {nf : Nat → Nat → Nat} {r c n : Nat} {f : Nat → Nat} (h : Fnd S h0 tb pa q na nd rd sr nr nc nn nf r c n f) (hL : fewN nd 1024) {w a : Nat} (hw : nd w = some a) (z : S.2.2.1 a 7 = 0) : n + 1 ≤ 1024 := by
  obtain ⟨hZ, hinj, hnd, h7, hc⟩ := h
  refine inj_room hL hinj hnd (by rw [hw]; exact fun y => by cases y) (fun y => ?_)
  have := (h7 w).1 y
  rw [fl_at hw, z] at this; cases this
theorem Fnd_mark {S u : sS} {h0 tb pa q : Nat} {na : Nat → Nat} {nd : Nat → Option Nat} {rd sr : Nat → List (Nat × Nat)} {nr nc nn : Nat → Nat} {nf : Nat → Nat → Nat} {r c n : Nat} {f : Nat → Nat} (h : Fnd S h0 tb pa q na nd rd sr nr nc nn nf r c n f) (hL : fewN nd 1024) {w a : Nat} (hw : nd w = some a) (hm : MarkFoundP S a (na 1) r c n f w u) :
    ∃ r' c' n' f', Fnd u h0 tb pa q na nd rd sr nr nc nn nf r' c' n' f' ∧ (∀ v, hp_set f' n' v ↔ hp_set f n v ∨ v = w) ∧ (n ≤ n' ∧ ∀ i, i < n → f' i = f i) ∧ (∀ j v, j ≠ 7 → fl u nd j v = fl S nd j v) ∧ (∀ j, u.2.2.1 h0 j = S.2.2.1 h0 j) ∧ c / 16 + (if S.2.2.1 a 7 = 0 ∧ ¬ n < c then 1 else 0) ≤ c' / 16 ∧ 2 * c + (if S.2.2.1 a 7 = 0 ∧ ¬ n < c then 2 * n else 0) ≤ 2 * c' := by
  obtain ⟨hZ, hinj, hnd, h7, hc⟩ := h
  have hNm := hZ.2.2.2.1 1 (by decide)
  simp only [va_up_self] at hNm
  have hle := hNm.2.2.2.2.1
  have h16 := hNm.2.2.2.2.2.1
  have e7 : S.2.2.1 a 7 = fl S nd 7 w := (fl_at hw).symm
  rcases hm with ⟨z, rfl⟩ | ⟨z, hA⟩
  · have hin : hp_set f n w := Classical.byContradiction fun y => z (by rw [e7]; exact (h7 w).2 y)
    refine ⟨r, c, n, f, ⟨hZ, hinj, hnd, h7, hc⟩, fun v => ⟨Or.inl, fun y => y.elim id (fun y => by rw [y]; exact hin)⟩, ⟨Nat.le_refl _, fun _ _ => rfl⟩, fun _ _ _ => rfl, fun _ => rfl, ?_, ?_⟩
    · rw [if_neg (fun y => z y.1)]; exact Nat.le_refl _
    · rw [if_neg (fun y => z y.1)]; exact Nat.le_refl _
  · have hout : ¬ hp_set f n w := fun y => by have := (h7 w).1 y; rw [← e7, z] at this; cases this
    obtain ⟨hZ2, f2⟩ := Mz_flag hZ hw (i := 7) (by decide) 1
    have hA2 : AddP (S.1, S.2.1, up2 S.2.2.1 a 7 1, S.2.2.2) (na 1) (va_up nr 1 r 1) (va_up nc 1 c 1) (va_up nn 1 n 1) (va_up nf 1 f 1) w u := by simp only [va_up_self]; exact hA
    obtain ⟨r', hZ3, f3, g3⟩ := Mz_add hZ2 (i := 1) (by decide) hA2
    simp only [va_up_self, bx_uu] at hZ3
    have hg : ∀ i, i < n → (fun k => if k = n then w else f k) i = f i := fun i hi => if_neg (by omega)
    have hgn : (fun k => if k = n then w else f k) n = w := if_pos rfl
    have hinj2 := hp_inj_push hinj hg hgn hout
    have hnd2 : ∀ i, i < n + 1 → nd ((fun k => if k = n then w else f k) i) ≠ none := by
      intro i hi
      by_cases e : i = n
      · rw [e, hgn, hw]; exact fun y => by cases y
      · rw [hg i (by omega)]; exact hnd i (by omega)
    have hle2 := few_le hL hinj2 hnd2
    have hset := hp_set_push hg hgn
    have efl : ∀ j v, fl u nd j v = if v = w ∧ j = 7 then 1 else fl S nd j v := fun j v => by rw [f3, f2]
    have hha : h0 ≠ a := sk_d hZ.1.1 (hZ.2.2.1.nk hw).2.1 (by decide)
    refine ⟨r', _, n + 1, _, ⟨hZ3, hinj2, hnd2, fun v => ⟨fun hs => ?_, fun hs => ?_⟩, ?_⟩, hset, ⟨by omega, hg⟩, fun j v hj => ?_, fun j => ?_, ?_, ?_⟩
    · rw [efl]
      by_cases e : v = w
      · rw [if_pos ⟨e, rfl⟩]
      · rw [if_neg (fun y => e y.1)]
        exact (h7 v).1 (((hset v).mp hs).elim id (fun y => absurd y e))
    · have e : v ≠ w := fun y => hs ((hset v).mpr (Or.inr y))
      rw [efl, if_neg (fun y => e y.1)]
      exact (h7 v).2 (fun y => hs ((hset v).mpr (Or.inl y)))
    · split <;> omega
    · rw [efl, if_neg (fun y => hj y.2)]
    · rw [g3]
      show up2 S.2.2.1 a 7 1 h0 j = _
      rw [up2_off _ _ hha]
    · by_cases e : n < c
      · rw [if_neg (fun y => y.2 e), if_pos e]; omega
      · rw [if_pos ⟨z, e⟩, if_neg e]; omega
    · by_cases e : n < c
      · rw [if_neg (fun y => y.2 e), if_pos e]; omega
      · rw [if_pos ⟨z, e⟩, if_neg e]; omega
/-- a place of a list of pairs -/
theorem ml_at {l : List (Nat × Nat)} {j k : Nat} (h : (l.map Prod.fst)[j]? = some k) : ∃ w, l[j]? = some (k, w) := by
  rw [List.getElem?_map] at h
  cases hz : l[j]? with
  | none => rw [hz] at h; cases h
  | some x =>
    rw [hz] at h
    have e : x.1 = k := Option.some.inj h
    exact ⟨x.2, by rw [← e]⟩
end
section
/-- findHanging's loop: the readers of the first k are found -/
def FhI (S0 S : sS) (h0 tb pa q : Nat) (na : Nat → Nat) (nd : Nat → Option Nat) (rd sr : Nat → List (Nat × Nat)) (nr nc nn : Nat → Nat) (nf : Nat → Nat → Nat) (T : Nat → Prop) (r c n : Nat) (f : Nat → Nat) (k : Nat) : Prop :=
  Fnd S h0 tb pa q na nd rd sr nr nc nn nf r c n f ∧ k ≤ n ∧ (∀ i, i < k → ∀ w, rE rd w (f i) → hp_set f n w) ∧ (∀ v, T v → hp_set f n v) ∧ (∀ v, hp_set f n v → gF (rE rd) T v) ∧ (∀ j v, j ≠ 7 → fl S nd j v = fl S0 nd j v) ∧ ∀ j, S.2.2.1 h0 j = S0.2.2.1 h0 j
set_option maxHeartbeats 4000000 in
set_option maxRecDepth 100000 in
theorem fh_in {p : Program} {l : Launch} {e : Env} {s : State} {m : MethodId} {args : Array Value} {below : List Frame} {meth : Method} {c : Code} {D : va_G} {dA : Nat → ClassId} {A : Nat → Prop} {Q : State → Prop} (hx : p.tables.exec = Jvm.exec) (hb : c.code = c_H_findHanging) (hml : c.maxLocals = 4) (hown : s.vm.findClass R_H = some m.cls) (hg : ∀ w ∈ gd, w.before args s = true) (hK : va_K D cls (tys dA) s) (hX : sKx s) {h0 tb pa q : Nat} {na : Nat → Nat} {nd : Nat → Option Nat} {rd sr : Nat → List (Nat × Nat)} {S0 : sS} {nr nc nn : Nat → Nat} {nf : Nat → Nat → Nat} {T : Nat → Prop} (hL : fewN nd 1024) {k v av : Nat} (hv : nd v = some av)
    (kk : ∀ (S : sS) (r c9 n : Nat) (f : Nat → Nat) (H : Heap) (locs : List Loc) (ls : Array Slot) (o : Option Value), SW D dA A s.heap S H locs → lc ls 4 [some (va_rf (some h0)), some (.int (nI k)), some (va_rf (some av)), o] → FhI S0 S h0 tb pa q na nd rd sr nr nc nn nf T r c9 n f k → k < n → f k = v → (∀ w, rE rd w v → hp_set f n w) → W p l e (rmk 4 64 2048) s m args below meth c H locs (c9 / 16) (2 * c9) Q (F0 m 61 ls [])) :
    ∀ (d j : Nat) (S : sS) (r c9 n : Nat) (f : Nat → Nat) (H : Heap) (locs : List Loc) (ls : Array Slot), j + d = (sr v).length → SW D dA A s.heap S H locs → lc ls 4 [some (va_rf (some h0)), some (.int (nI k)), some (va_rf (some av)), some (va_rf (((sr v).map Prod.fst)[j]?))] → FhI S0 S h0 tb pa q na nd rd sr nr nc nn nf T r c9 n f k → k < n → f k = v → (∀ i x w, i < j → (sr v)[i]? = some (x, w) → hp_set f n w) → W p l e (rmk 4 64 2048) s m args below meth c H locs (c9 / 16) (2 * c9) Q (F0 m 41 ls []) := by
  intro d
  induction d with
  | zero =>
    intro j S r c9 n f H locs ls hj hM hl hI hkn hfk hdone
    have e : ((sr v).map Prod.fst)[j]? = none := List.getElem?_eq_none (by rw [List.length_map]; omega)
    rw [e] at hl
    refine q_al_n (i := 3) hx hb d_H_findHanging_41 rfl hl rfl ?_
    refine q_ifnull (tgt := 61) hx hb d_H_findHanging_42 (by decide) (fun c1 => ?_) (fun y c1 => ?_)
    · refine kk S r c9 n f H locs ls _ hM hl hI hkn hfk (fun w hw => ?_)
      obtain ⟨x, hx9⟩ := hw
      obtain ⟨⟨-, -, hG, -⟩, -⟩ := hI.1
      have := (hG.2.2.2.1 w x v hx9).2.2.2
      obtain ⟨i, hi⟩ := List.getElem?_of_mem this
      exact hdone i x w (by have := (List.getElem?_eq_some_iff.mp hi).1; omega) hi
    · cases c1
  | succ d ih =>
    intro j S r c9 n f H locs ls hj hM hl hI hkn hfk hdone
    obtain ⟨kd, rf, it, lg⟩ := S
    obtain ⟨hF, hk, i1, i2, i3, i4, i5⟩ := hI
    have hZ := hF.1
    have hc9 := hF.2.2.2.2
    obtain ⟨⟨kh, e0, e1, e2, e3, e4⟩, ⟨kq, eq⟩, hG, hN, hna, hnr⟩ := id hZ
    dsimp only at kh e0 e1 e2 e3 e4 kq eq
    have hjl : j < ((sr v).map Prod.fst).length := by rw [List.length_map]; omega
    obtain ⟨lk, elk⟩ : ∃ lk, ((sr v).map Prod.fst)[j]? = some lk := ⟨_, List.getElem?_eq_getElem hjl⟩
    obtain ⟨w, ew⟩ := ml_at elk
    have hm := hG.2.2.2.2 v lk w (List.mem_of_getElem? ew)
    obtain ⟨klk, ⟨aw, hw, r0⟩, -, -⟩ := hG.2.2.2.1 w lk v hm
    dsimp only at klk r0
    have r5 : rf lk 5 = ((sr v).map Prod.fst)[j + 1]? := ((hG.2.1 v av hv).2.2.1.2 j lk elk).1
    obtain ⟨hw9, kaw, hiw⟩ := hG.nk hw
    dsimp only at kaw hiw
    have hNf := hN 1 (by decide)
    simp only [va_up_self] at hNf
    have hle1 := hNf.2.2.2.2.1
    have h161 := hNf.2.2.2.2.2.1
    have hn9 := few_le hL hF.2.1 hF.2.2.1
    rw [elk] at hl
    refine q_al_n (i := 3) hx hb d_H_findHanging_41 rfl hl rfl ?_
    refine q_ifnull (tgt := 61) hx hb d_H_findHanging_42 (by decide) (fun c1 => ?_) (fun y c1 => ?_)
    · cases c1
    · refine q_al_n (i := 0) hx hb d_H_findHanging_45 rfl hl rfl ?_
      refine q_al_n (i := 3) hx hb d_H_findHanging_46 rfl hl rfl ?_
      refine s_getr (C := R_K) (T := F_K) (N := 6) (ci := 4) hx hb hg in_K hown hK hM klk rfl 0 (by decide) rfl (hg _ kw_378) (fun _ h9 => h9) d_H_findHanging_47 ?_
      rw [r0]
      refine s_callv (r_V 1 [.ref aw] rfl hx hb hml hown hg (m_H_markFound l D dA _ _ h0 tb (na 0) (na 1) (na 2) q aw r c9 n w f hZ.1 kaw hiw hNf (by omega)) (hM.pre hK hX) (hM.recv hK kh (q := cls.getD 0 (R_H, F_H, 7)) rfl) kw_165 kw_167 ks_2 kw_1 kw_168 (by decide +kernel) ⟨Nat.le_of_ble_eq_true rfl, Nat.le_of_ble_eq_true rfl⟩ rfl rfl hl.sz (by first | exact Nat.le_of_ble_eq_true rfl | simp [rf_cat] | simp [rf_cat, Value.category]) d_H_findHanging_50 ⟨by show _ ≤ 64; split; (rename_i z9; have := Fnd_room hF hL hw z9.1; omega); omega, by show _ ≤ 2048; split; (rename_i z9; have := Fnd_room hF hL hw z9.1; omega); omega⟩ rfl) hM (fun u H locs hp hM => ?_)
      obtain ⟨r', c', n', f', hF', hset, ⟨hnn, hpre⟩, f7, g7, a1, a2⟩ := Fnd_mark hF hL hw hp
      refine W.widen (k := c' / 16) (n := 2 * c') a1 a2 ?_
      obtain ⟨kd1, rf1, it1, lg1⟩ := u
      have hZ1 := hF'.1
      obtain ⟨⟨kh1, e01, e11, e21, e31, e41⟩, ⟨kq1, eq1⟩, hG1, hN1, hna1, hnr1⟩ := id hZ1
      dsimp only at kh1 e01 e11 e21 e31 e41 kq1 eq1
      obtain ⟨klk1, -, -, -⟩ := hG1.2.2.2.1 w lk v hm
      dsimp only at klk1
      have r51 : rf1 lk 5 = ((sr v).map Prod.fst)[j + 1]? := ((hG1.2.1 v av hv).2.2.1.2 j lk elk).1
      refine q_al_n (i := 3) hx hb d_H_findHanging_53 rfl hl rfl ?_
      refine s_getr (C := R_K) (T := F_K) (N := 6) (ci := 4) hx hb hg in_K hown hK hM klk1 rfl 5 (by decide) rfl (hg _ kw_386) (fun _ h9 => h9) d_H_findHanging_54 ?_
      rw [r51]
      refine q_astore_n (i := 3) hx hb (_) d_H_findHanging_57 rfl hl (by decide) (fun ls hl => ?_)
      simp only [List.set_cons_succ, List.set_cons_zero] at hl
      refine lv_goto (tgt := 41) hx hb d_H_findHanging_58 (by decide) ?_
      have hmono : ∀ x, hp_set f n x → hp_set f' n' x := fun x hx9 => (hset x).mpr (Or.inl hx9)
      refine ih (j + 1) _ r' c' n' f' H locs ls (by omega) hM hl ⟨hF', by omega, fun i hi x hx9 => ?_, fun x hx9 => hmono x (i2 x hx9), fun x hx9 => ?_, fun j9 x hj9 => by rw [f7 j9 x hj9]; exact i4 j9 x hj9, fun j9 => by rw [g7]; exact i5 j9⟩ (by omega) (by rw [hpre k hkn]; exact hfk) (fun i x y hi hy => ?_)
      · rw [hpre i (by omega)] at hx9
        exact hmono x (i1 i hi x hx9)
      · rcases (hset x).mp hx9 with y | y
        · exact i3 x y
        · rw [y]
          exact (gF_up (rE rd) T).2 w v ⟨lk, hm⟩ (i3 v ⟨k, hkn, hfk⟩)
      · by_cases e : i = j
        · rw [e, ew] at hy
          have : y = w := (congrArg Prod.snd (Option.some.inj hy)).symm
          exact (hset y).mpr (Or.inr this)
        · exact hmono y (hdone i x y (by omega) hy)
end
section
set_option maxHeartbeats 4000000 in
set_option maxRecDepth 100000 in
theorem fh_out {p : Program} {l : Launch} {e : Env} {s : State} {m : MethodId} {args : Array Value} {below : List Frame} {meth : Method} {c : Code} {D : va_G} {dA : Nat → ClassId} {A : Nat → Prop} {Q : State → Prop} (hx : p.tables.exec = Jvm.exec) (hb : c.code = c_H_findHanging) (hml : c.maxLocals = 4) (hown : s.vm.findClass R_H = some m.cls) (hg : ∀ w ∈ gd, w.before args s = true) (hK : va_K D cls (tys dA) s) (hX : sKx s) {h0 tb pa q : Nat} {na : Nat → Nat} {nd : Nat → Option Nat} {rd sr : Nat → List (Nat × Nat)} {S0 : sS} {nr nc nn : Nat → Nat} {nf : Nat → Nat → Nat} {T : Nat → Prop} (hL : fewN nd 1024)
    (kk : ∀ (S : sS) (r c9 n : Nat) (f : Nat → Nat) (H : Heap) (locs : List Loc) (ls : Array Slot), SW D dA A s.heap S H locs → FhI S0 S h0 tb pa q na nd rd sr nr nc nn nf T r c9 n f n → W p l e (rmk 4 64 2048) s m args below meth c H locs (c9 / 16) (2 * c9) Q (F0 m 67 ls [])) :
    ∀ (d k : Nat) (S : sS) (r c9 n : Nat) (f : Nat → Nat) (H : Heap) (locs : List Loc) (ls : Array Slot) (o2 o3 : Option Value), k + d = 1024 → SW D dA A s.heap S H locs → lc ls 4 [some (va_rf (some h0)), some (.int (nI k)), o2, o3] → FhI S0 S h0 tb pa q na nd rd sr nr nc nn nf T r c9 n f k → W p l e (rmk 4 64 2048) s m args below meth c H locs (c9 / 16) (2 * c9) Q (F0 m 2 ls []) := by
  intro d
  induction d with
  | zero =>
    intro k S r c9 n f H locs ls o2 o3 hd hM hl hI
    have hI' := hI
    obtain ⟨kd, rf, it, lg⟩ := S
    obtain ⟨hF, hk, i1, i2, i3, i4, i5⟩ := hI'
    have hZ := hF.1
    obtain ⟨⟨kh, e0, e1, e2, e3, e4⟩, ⟨kq, eq⟩, hG, hN, hna, hnr⟩ := id hZ
    dsimp only at kh e0 e1 e2 e3 e4 kq eq
    have hN1 := hN 1 (by decide)
    simp only [va_up_self] at hN1
    have hn1 := hN1.2.2.2.1
    have k1 := hN1.1
    dsimp only at hn1 k1
    have hn9 := few_le hL hF.2.1 hF.2.2.1
    have hkn : k = n := by omega
    refine q_iload_n (i := 1) hx hb d_H_findHanging_2 rfl hl rfl ?_
    refine lv_sipush (v := nI 16384) hx hb d_H_findHanging_3 (by decide) ?_
    refine n_ge (tgt := 67) hx hb d_H_findHanging_6 (by decide) (by omega) (by omega) (fun c1 => ?_) (fun c1 => ?_)
    · omega
    · refine q_iload_n (i := 1) hx hb d_H_findHanging_9 rfl hl rfl ?_
      refine q_al_n (i := 0) hx hb d_H_findHanging_10 rfl hl rfl ?_
      refine s_getr (C := R_H) (T := F_H) (N := 7) (ci := 0) hx hb hg in_H hown hK hM kh rfl 2 (by decide) rfl (hg _ kw_67) (fun _ h9 => h9) d_H_findHanging_11 ?_
      rw [e2]
      refine s_geti (C := R_U) (T := F_U) (N := 2) (ci := 5) hx hb hg in_U hown hK hM k1 rfl 1 (by decide) rfl (hg _ kw_46) (fun _ h9 => h9) d_H_findHanging_14 ?_
      rw [hn1]
      refine n_ge (tgt := 67) hx hb d_H_findHanging_17 (by decide) (by omega) (by omega) (fun c2 => ?_) (fun c2 => ?_)
      · rw [hkn] at hI
        exact kk _ r c9 n f H locs ls hM hI
      · omega
  | succ d ih =>
    intro k S r c9 n f H locs ls o2 o3 hd hM hl hI
    have hI' := hI
    obtain ⟨kd, rf, it, lg⟩ := S
    obtain ⟨hF, hk, i1, i2, i3, i4, i5⟩ := hI'
    have hZ := hF.1
    have hc9 := hF.2.2.2.2
    obtain ⟨⟨kh, e0, e1, e2, e3, e4⟩, ⟨kq, eq⟩, hG, hN, hna, hnr⟩ := id hZ
    dsimp only at kh e0 e1 e2 e3 e4 kq eq
    have hN1 := hN 1 (by decide)
    simp only [va_up_self] at hN1
    have hn1 := hN1.2.2.2.1
    have k1 := hN1.1
    dsimp only at hn1 k1
    have hn9 := few_le hL hF.2.1 hF.2.2.1
    refine q_iload_n (i := 1) hx hb d_H_findHanging_2 rfl hl rfl ?_
    refine lv_sipush (v := nI 16384) hx hb d_H_findHanging_3 (by decide) ?_
    refine n_ge (tgt := 67) hx hb d_H_findHanging_6 (by decide) (by omega) (by omega) (fun c1 => ?_) (fun c1 => ?_)
    · omega
    · refine q_iload_n (i := 1) hx hb d_H_findHanging_9 rfl hl rfl ?_
      refine q_al_n (i := 0) hx hb d_H_findHanging_10 rfl hl rfl ?_
      refine s_getr (C := R_H) (T := F_H) (N := 7) (ci := 0) hx hb hg in_H hown hK hM kh rfl 2 (by decide) rfl (hg _ kw_67) (fun _ h9 => h9) d_H_findHanging_11 ?_
      rw [e2]
      refine s_geti (C := R_U) (T := F_U) (N := 2) (ci := 5) hx hb hg in_U hown hK hM k1 rfl 1 (by decide) rfl (hg _ kw_46) (fun _ h9 => h9) d_H_findHanging_14 ?_
      rw [hn1]
      refine n_ge (tgt := 67) hx hb d_H_findHanging_17 (by decide) (by omega) (by omega) (fun c2 => ?_) (fun c2 => ?_)
      · have hkn : k = n := by omega
        rw [hkn] at hI
        exact kk _ r c9 n f H locs ls hM hI
      · obtain ⟨av, hv⟩ : ∃ a, nd (f k) = some a := Option.ne_none_iff_exists'.mp (hF.2.2.1 k c2)
        obtain ⟨hv9, kav, hiv⟩ := hG.nk hv
        dsimp only at kav hiv
        have hfr : rf av 2 = ((sr (f k)).map Prod.fst)[0]? := (hG.2.1 (f k) av hv).2.2.1.1
        refine q_al_n (i := 0) hx hb d_H_findHanging_20 rfl hl rfl ?_
        refine s_getr (C := R_H) (T := F_H) (N := 7) (ci := 0) hx hb hg in_H hown hK hM kh rfl 0 (by decide) rfl (hg _ kw_65) (fun _ h9 => h9) d_H_findHanging_21 ?_
        rw [e0]
        refine q_al_n (i := 0) hx hb d_H_findHanging_24 rfl hl rfl ?_
        refine s_getr (C := R_H) (T := F_H) (N := 7) (ci := 0) hx hb hg in_H hown hK hM kh rfl 2 (by decide) rfl (hg _ kw_67) (fun _ h9 => h9) d_H_findHanging_25 ?_
        rw [e2]
        refine q_iload_n (i := 1) hx hb d_H_findHanging_28 rfl hl rfl ?_
        refine s_calli (r_V 1 [.int (nI k)] rfl hx hb hml hown hg (m_U_at l D dA _ _ (na 1) r c9 n f (nI k) hN1) (hM.pre hK hX) (hM.recv hK k1 (q := cls.getD 5 (R_H, F_H, 7)) rfl) kw_99 kw_100 kw_101 kw_3 kw_102 (by decide +kernel) ⟨Nat.le_of_ble_eq_true rfl, Nat.le_of_ble_eq_true rfl⟩ rfl rfl hl.sz (by first | exact Nat.le_of_ble_eq_true rfl | simp [rf_cat] | simp [rf_cat, Value.category]) d_H_findHanging_29 ⟨by show _ ≤ 64; omega, by show _ ≤ 2048; omega⟩ rfl) hM (fun r1 u H locs hp hM => ?_)
        obtain ⟨rfl, hp⟩ := hp
        have er : r1 = nI (f k) := by
          rcases hp with ⟨-, e⟩ | ⟨z, -⟩
          · rw [e, nI_clamp (by omega)]
          · exact absurd (vp_in_nI c2 (by omega)) z
        subst er
        refine s_callq (r_V 1 [.int (nI (f k))] rfl hx hb hml hown hg (m_T_of l D dA _ _ tb pa nd (f k) av hG.1 hv9 hv) (hM.pre hK hX) (hM.recv hK hG.1.1 (q := cls.getD 1 (R_H, F_H, 7)) rfl) kw_107 kw_108 kw_109 kw_2 kw_110 (by decide +kernel) ⟨Nat.le_of_ble_eq_true rfl, Nat.le_of_ble_eq_true rfl⟩ rfl rfl hl.sz (by first | exact Nat.le_of_ble_eq_true rfl | simp [rf_cat] | simp [rf_cat, Value.category]) d_H_findHanging_32 ⟨by show _ ≤ 64; omega, by show _ ≤ 2048; omega⟩ rfl) hM (fun r1 u H locs hp hM => ?_)
        obtain ⟨rfl, rfl⟩ := hp
        refine q_astore_n (i := 2) hx hb (_) d_H_findHanging_35 rfl hl (by decide) (fun ls hl => ?_)
        simp only [List.set_cons_succ, List.set_cons_zero] at hl
        refine q_al_n (i := 2) hx hb d_H_findHanging_36 rfl hl rfl ?_
        refine s_getr (C := R_N) (T := F_N) (N := 9) (ci := 3) hx hb hg in_N hown hK hM kav rfl 2 (by decide) rfl (hg _ kw_137) (fun _ h9 => h9) d_H_findHanging_37 ?_
        rw [hfr]
        refine q_astore_n (i := 3) hx hb (_) d_H_findHanging_40 rfl hl (by decide) (fun ls hl => ?_)
        simp only [List.set_cons_succ, List.set_cons_zero] at hl
        refine fh_in hx hb hml hown hg hK hX (T := T) (S0 := S0) hL hv ?_ (sr (f k)).length 0 _ r c9 n f H locs ls (by omega) hM hl hI c2 rfl (fun i x y hi => absurd hi (Nat.not_lt_zero i))
        intro S2 r2 c2' n2 f2 H locs ls o hM hl hI2 hk2 hf2 hdone
        refine q_iinc hx hb (nI (k + 1)) d_H_findHanging_61 hl rfl (nI_1 k) (by decide) (fun ls hl => ?_)
        simp only [List.set_cons_succ, List.set_cons_zero] at hl
        refine lv_goto (tgt := 2) hx hb d_H_findHanging_64 (by decide) ?_
        obtain ⟨a1, a2, a3, a4⟩ := hI2
        refine ih (k + 1) S2 r2 c2' n2 f2 H locs ls _ _ (by omega) hM hl ⟨a1, by omega, fun i hi w hw => ?_, a4⟩
        by_cases e : i = k
        · rw [e, hf2] at hw; exact hdone w hw
        · exact a3 i (by omega) w hw
/-- what findHanging does -/
def FhP (S : sS) (h0 tb pa q : Nat) (na : Nat → Nat) (nd : Nat → Option Nat) (rd sr : Nat → List (Nat × Nat)) (nr nc nn : Nat → Nat) (nf : Nat → Nat → Nat) (T : Nat → Prop) (u : sS) : Prop :=
  ∃ r c n f, Fnd u h0 tb pa q na nd rd sr nr nc nn nf r c n f ∧ (∀ v, hp_set f n v ↔ gF (rE rd) T v) ∧ (∀ j v, j ≠ 7 → fl u nd j v = fl S nd j v) ∧ ∀ j, u.2.2.1 h0 j = S.2.2.1 h0 j
set_option maxHeartbeats 4000000 in
set_option maxRecDepth 100000 in
theorem m_H_findHanging (l : Launch) (D : va_G) (dA : Nat → ClassId) (S : sS) (sz : Nat) (h0 tb pa q : Nat) (na : Nat → Nat) (nd : Nat → Option Nat) (rd sr : Nat → List (Nat × Nat)) (nr nc nn : Nat → Nat) (nf : Nat → Nat → Nat) (r c9 n : Nat) (f : Nat → Nat) (hL : fewN nd 1024) (hF : Fnd S h0 tb pa q na nd rd sr nr nc nn nf r c9 n f) :
    cV l y_H_findHanging c_H_findHanging 4 (rmk 4 64 2048) D dA S sz [.ref h0] (FhP S h0 tb pa q na nd rd sr nr nc nn nf (hp_set f n)) (64) (2048) := by
  refine s_met (cc := c_H_findHanging) (maxL := 4) (by decide) rfl (by simp [Value.category]) (by simp [lg_sl, Value.category]) ?_
  intro p e s m args below meth c ls hx hb hr hts hown hlocks hin hml hK hX hsz hM hl
  have hg := gd_hts hts
  have hl : lc ls 4 [some (va_rf (some h0)), none, none, none] := hl
  refine lv_iconst (v := nI 0) hx hb d_H_findHanging_0 (by decide) ?_
  refine q_istore_n (i := 1) hx hb d_H_findHanging_1 rfl hl (by decide) (fun ls hl => ?_)
  simp only [List.set_cons_succ, List.set_cons_zero] at hl
  refine W.widen (k := c9 / 16) (n := 2 * c9) (Nat.zero_le _) (Nat.zero_le _) ?_
  refine fh_out hx hb hml hown hg hK hX (S0 := S) (T := hp_set f n) (nr := nr) (nc := nc) (nn := nn) (nf := nf) hL ?_ 1024 0 S r c9 n f s.heap [] ls _ _ (by omega) hM hl ⟨hF, Nat.zero_le _, fun i hi => absurd hi (Nat.not_lt_zero i), fun v hv => hv, fun v hv => (gF_up (rE rd) (hp_set f n)).1 v hv, fun j v _ => rfl, fun j => rfl⟩
  intro S1 r1 c1 n1 f1 H locs ls hM hI
  obtain ⟨hF1, -, i1, i2, i3, i4, i5⟩ := hI
  have hc1 := hF1.2.2.2.2
  refine W.widen (k := 64) (n := 2048) (by omega) (by omega) ?_
  refine s_vret hx hb hr hM ⟨r1, c1, n1, f1, hF1, fun v => ⟨i3 v, fun hv => gF_le ⟨i2, fun v w hvw hw => ?_⟩ hv⟩, i4, i5⟩ d_H_findHanging_67 hlocks
  obtain ⟨i, hi, e⟩ := hw
  rw [← e] at hvw
  exact i1 i hi v hvw
end
section
/-- of those that are read, how many must be waited for -/
def wp (S : sS) (nd : Nat → Option Nat) (u : Nat) : Bool := decide (fl S nd 7 u ≠ 0 ∨ fl S nd 6 u ≠ 0)
def cnt (p : Nat → Bool) (l : List (Nat × Nat)) : Nat := (l.filter (fun x => p x.2)).length
theorem cnt_le (p : Nat → Bool) (l : List (Nat × Nat)) : cnt p l ≤ l.length := List.length_filter_le _ _
theorem cnt_take {p : Nat → Bool} {l : List (Nat × Nat)} {j k u : Nat} (h : l[j]? = some (k, u)) : cnt p (l.take (j + 1)) = cnt p (l.take j) + (if p u = true then 1 else 0) := by
  unfold cnt
  rw [List.take_add_one, h, List.filter_append, List.length_append]
  by_cases e : p u = true
  · simp [e]
  · simp [e]
set_option maxHeartbeats 4000000 in
set_option maxRecDepth 100000 in
theorem rw_loop {p : Program} {l : Launch} {e : Env} {s : State} {m : MethodId} {args : Array Value} {below : List Frame} {meth : Method} {c : Code} {D : va_G} {dA : Nat → ClassId} {A : Nat → Prop} {Q : State → Prop} (hx : p.tables.exec = Jvm.exec) (hb : c.code = c_H_readsToWaitFor) (hml : c.maxLocals = 3) (hown : s.vm.findClass R_H = some m.cls) (hg : ∀ w ∈ gd, w.before args s = true) (hK : va_K D cls (tys dA) s) (hX : sKx s) {mc ms cells slots : Nat} {S : sS} {tb pa : Nat} {nd : Nat → Option Nat} {rd sr : Nat → List (Nat × Nat)} (hG : Gr9 S tb pa nd rd sr) {v a : Nat} (hv : nd v = some a) {H : Heap} {locs : List Loc} (hM : SW D dA A s.heap S H locs) (hlen : (rd v).length < 2 ^ 31)
    (kk : ∀ (ls : Array Slot) (o : Option Value), lc ls 3 [some (va_rf (some a)), some (.int (nI (cnt (wp S nd) (rd v)))), o] → W p l e (rmk 0 mc ms) s m args below meth c H locs cells slots Q (F0 m 42 ls [])) :
    ∀ (d j : Nat) (ls : Array Slot), j + d = (rd v).length → lc ls 3 [some (va_rf (some a)), some (.int (nI (cnt (wp S nd) ((rd v).take j)))), some (va_rf (((rd v).map Prod.fst)[j]?))] → W p l e (rmk 0 mc ms) s m args below meth c H locs cells slots Q (F0 m 7 ls []) := by
  obtain ⟨kd, rf, it, lg⟩ := S
  intro d
  induction d with
  | zero =>
    intro j ls hj hl
    have e : ((rd v).map Prod.fst)[j]? = none := List.getElem?_eq_none (by rw [List.length_map]; omega)
    have e2 : (rd v).take j = rd v := List.take_of_length_le (by omega)
    rw [e, e2] at hl
    refine q_al_n (i := 2) hx hb d_H_readsToWaitFor_7 rfl hl rfl ?_
    refine q_ifnull (tgt := 42) hx hb d_H_readsToWaitFor_8 (by decide) (fun c1 => ?_) (fun y c1 => ?_)
    · exact kk ls _ hl
    · cases c1
  | succ d ih =>
    intro j ls hj hl
    have hjl : j < ((rd v).map Prod.fst).length := by rw [List.length_map]; omega
    obtain ⟨lk, elk⟩ : ∃ lk, ((rd v).map Prod.fst)[j]? = some lk := ⟨_, List.getElem?_eq_getElem hjl⟩
    obtain ⟨x, ex⟩ := ml_at elk
    obtain ⟨klk, -, ⟨b, hb9, r1⟩, -⟩ := hG.2.2.2.1 v lk x (List.mem_of_getElem? ex)
    dsimp only at klk r1
    have r3 : rf lk 3 = ((rd v).map Prod.fst)[j + 1]? := ((hG.2.1 v a hv).1.2 j lk elk).1
    obtain ⟨-, kb, -⟩ := hG.nk hb9
    dsimp only at kb
    have f7 : fl (kd, rf, it, lg) nd 7 x = it b 7 := fl_at hb9
    have f6 : fl (kd, rf, it, lg) nd 6 x = it b 6 := fl_at hb9
    have ec := cnt_take (p := wp (kd, rf, it, lg) nd) ex
    have hcl : cnt (wp (kd, rf, it, lg) nd) ((rd v).take j) ≤ j := by
      have := cnt_le (wp (kd, rf, it, lg) nd) ((rd v).take j)
      rw [List.length_take] at this; omega
    rw [elk] at hl
    have tail : ∀ (ls : Array Slot) (n : Nat), n = cnt (wp (kd, rf, it, lg) nd) ((rd v).take (j + 1)) → lc ls 3 [some (va_rf (some a)), some (.int (nI n)), some (va_rf (some lk))] → W p l e (rmk 0 mc ms) s m args below meth c H locs cells slots Q (F0 m 34 ls []) := by
      intro ls n hn hl
      rw [hn] at hl
      refine q_al_n (i := 2) hx hb d_H_readsToWaitFor_34 rfl hl rfl ?_
      refine s_getr (C := R_K) (T := F_K) (N := 6) (ci := 4) hx hb hg in_K hown hK hM klk rfl 3 (by decide) rfl (hg _ kw_383) (fun _ h9 => h9) d_H_readsToWaitFor_35 ?_
      rw [r3]
      refine q_astore_n (i := 2) hx hb (_) d_H_readsToWaitFor_38 rfl hl (by decide) (fun ls hl => ?_)
      simp only [List.set_cons_succ, List.set_cons_zero] at hl
      refine lv_goto (tgt := 7) hx hb d_H_readsToWaitFor_39 (by decide) ?_
      exact ih (j + 1) ls (by omega) hl
    have inc : ∀ (ls : Array Slot), wp (kd, rf, it, lg) nd x = true → lc ls 3 [some (va_rf (some a)), some (.int (nI (cnt (wp (kd, rf, it, lg) nd) ((rd v).take j)))), some (va_rf (some lk))] → W p l e (rmk 0 mc ms) s m args below meth c H locs cells slots Q (F0 m 31 ls []) := by
      intro ls hw hl
      refine q_iinc hx hb (nI (cnt (wp (kd, rf, it, lg) nd) ((rd v).take j) + 1)) d_H_readsToWaitFor_31 hl rfl (nI_1 _) (by decide) (fun ls hl => ?_)
      simp only [List.set_cons_succ, List.set_cons_zero] at hl
      exact tail ls _ (by rw [ec, if_pos hw]) hl
    refine q_al_n (i := 2) hx hb d_H_readsToWaitFor_7 rfl hl rfl ?_
    refine q_ifnull (tgt := 42) hx hb d_H_readsToWaitFor_8 (by decide) (fun c1 => ?_) (fun y c1 => ?_)
    · cases c1
    · refine q_al_n (i := 2) hx hb d_H_readsToWaitFor_11 rfl hl rfl ?_
      refine s_getr (C := R_K) (T := F_K) (N := 6) (ci := 4) hx hb hg in_K hown hK hM klk rfl 1 (by decide) rfl (hg _ kw_380) (fun _ h9 => h9) d_H_readsToWaitFor_12 ?_
      rw [r1]
      refine s_geti (C := R_N) (T := F_N) (N := 9) (ci := 3) hx hb hg in_N hown hK hM kb rfl 7 (by decide) rfl (hg _ kw_144) (fun _ h9 => h9) d_H_readsToWaitFor_15 ?_
      refine lv_if_ne (tgt := 31) hx hb d_H_readsToWaitFor_18 (by decide) (fun c2 => ?_) (fun c2 => ?_)
      · exact inc ls (decide_eq_true (Or.inl (by rw [f7]; exact c2))) hl
      · refine q_al_n (i := 2) hx hb d_H_readsToWaitFor_21 rfl hl rfl ?_
        refine s_getr (C := R_K) (T := F_K) (N := 6) (ci := 4) hx hb hg in_K hown hK hM klk rfl 1 (by decide) rfl (hg _ kw_380) (fun _ h9 => h9) d_H_readsToWaitFor_22 ?_
        rw [r1]
        refine s_geti (C := R_N) (T := F_N) (N := 9) (ci := 3) hx hb hg in_N hown hK hM kb rfl 6 (by decide) rfl (hg _ kw_143) (fun _ h9 => h9) d_H_readsToWaitFor_25 ?_
        refine lv_if_eq (tgt := 34) hx hb d_H_readsToWaitFor_28 (by decide) (fun c3 => ?_) (fun c3 => ?_)
        · refine tail ls _ ?_ hl
          rw [ec, if_neg]
          · rfl
          · intro z
            rcases of_decide_eq_true z with y | y
            · rw [f7] at y; exact y c2
            · rw [f6] at y; exact y c3
        · exact inc ls (decide_eq_true (Or.inr (by rw [f6]; exact c3))) hl
set_option maxHeartbeats 4000000 in
set_option maxRecDepth 100000 in
theorem m_H_readsToWaitFor (l : Launch) (D : va_G) (dA : Nat → ClassId) (S : sS) (sz : Nat) (tb pa : Nat) (nd : Nat → Option Nat) (rd sr : Nat → List (Nat × Nat)) (v a : Nat) (hG : Gr9 S tb pa nd rd sr) (hv : nd v = some a) (hlen : (rd v).length < 2 ^ 31) :
    cI l y_H_readsToWaitFor c_H_readsToWaitFor 3 (some .int) (rmk 0 0 0) D dA S sz [.ref a] (fun x u => u = S ∧ x = nI (cnt (wp S nd) (rd v))) (0) (0) := by
  obtain ⟨kd, rf, it, lg⟩ := S
  have ka := (hG.nk hv).2.1
  have h1 : rf a 1 = ((rd v).map Prod.fst)[0]? := (hG.2.1 v a hv).1.1
  dsimp only at ka
  refine s_met (cc := c_H_readsToWaitFor) (maxL := 3) (by decide) rfl (by simp [Value.category]) (by simp [lg_sl, Value.category]) ?_
  intro p e s m args below meth c ls hx hb hr hts hown hlocks hin hml hK hX hsz hM hl
  have hg := gd_hts hts
  have hl : lc ls 3 [some (va_rf (some a)), none, none] := hl
  refine lv_iconst (v := nI 0) hx hb d_H_readsToWaitFor_0 (by decide) ?_
  refine q_istore_n (i := 1) hx hb d_H_readsToWaitFor_1 rfl hl (by decide) (fun ls hl => ?_)
  simp only [List.set_cons_succ, List.set_cons_zero] at hl
  refine q_al_n (i := 0) hx hb d_H_readsToWaitFor_2 rfl hl rfl ?_
  refine s_getr (C := R_N) (T := F_N) (N := 9) (ci := 3) hx hb hg in_N hown hK hM ka rfl 1 (by decide) rfl (hg _ kw_135) (fun _ h9 => h9) d_H_readsToWaitFor_3 ?_
  rw [h1]
  refine q_astore_n (i := 2) hx hb (_) d_H_readsToWaitFor_6 rfl hl (by decide) (fun ls hl => ?_)
  simp only [List.set_cons_succ, List.set_cons_zero] at hl
  refine rw_loop hx hb hml hown hg hK hX hG hv hM hlen ?_ (rd v).length 0 ls (by omega) hl
  intro ls o hl
  refine q_iload_n (i := 1) hx hb d_H_readsToWaitFor_42 rfl hl rfl ?_
  exact s_iret hx hb hr hM ⟨rfl, rfl⟩ d_H_readsToWaitFor_43 hlocks
/-- the heap of the ready ones: n4 numbers v4 -/
def Wz (S : sS) (h0 tb pa q : Nat) (na : Nat → Nat) (nd : Nat → Option Nat) (rd sr : Nat → List (Nat × Nat)) (nr nc nn : Nat → Nat) (nf : Nat → Nat → Nat) (r4 c4 n4 : Nat) (v4 : Nat → Nat) : Prop :=
  Mz S h0 tb pa q na nd rd sr (va_up nr 3 r4) (va_up nc 3 c4) (va_up nn 3 n4) (va_up nf 3 v4) ∧ hp_ok v4 n4 ∧ hp_inj v4 n4 ∧ (∀ i, i < n4 → nd (v4 i) ≠ none) ∧ pw (c4)
theorem Wz_lf {S : sS} {h0 tb pa q : Nat} {na : Nat → Nat} {nd : Nat → Option Nat} {rd sr : Nat → List (Nat × Nat)} {nr nc nn : Nat → Nat} {nf : Nat → Nat → Nat} {r4 c4 n4 : Nat} {v4 : Nat → Nat} (h : Wz S h0 tb pa q na nd rd sr nr nc nn nf r4 c4 n4 v4) : Lf S q (na 3) r4 c4 n4 v4 := by
  have := h.1.2.2.2.1 3 (by decide)
  simp only [va_up_self] at this
  exact ⟨h.1.2.1.1, h.1.2.1.2, this⟩
theorem Wz_lt {S : sS} {h0 tb pa q : Nat} {na : Nat → Nat} {nd : Nat → Option Nat} {rd sr : Nat → List (Nat × Nat)} {nr nc nn : Nat → Nat} {nf : Nat → Nat → Nat} {r4 c4 n4 : Nat} {v4 : Nat → Nat} (h : Wz S h0 tb pa q na nd rd sr nr nc nn nf r4 c4 n4 v4) : ∀ i, i < n4 → v4 i < 16384 := by
  intro i hi
  obtain ⟨a, ha⟩ := Option.ne_none_iff_exists'.mp (h.2.2.2.1 i hi)
  exact (h.1.2.2.1.nk ha).1
theorem Wz_put {S u : sS} {h0 tb pa q : Nat} {na : Nat → Nat} {nd : Nat → Option Nat} {rd sr : Nat → List (Nat × Nat)} {nr nc nn : Nat → Nat} {nf : Nat → Nat → Nat} {r4 c4 n4 : Nat} {v4 : Nat → Nat} (h : Wz S h0 tb pa q na nd rd sr nr nc nn nf r4 c4 n4 v4) (hL : fewN nd 1024) {x : Nat} (hx : nd x ≠ none) (hP : PutP S q (na 3) r4 c4 n4 v4 x u) :
    ∃ r' c' v', Wz u h0 tb pa q na nd rd sr nr nc nn nf r' c' (n4 + 1) v' ∧ (∀ y, hp_set v' (n4 + 1) y ↔ hp_set v4 n4 y ∨ y = x) ∧ (∀ j w, fl u nd j w = fl S nd j w) ∧ (∀ j, u.2.2.1 h0 j = S.2.2.1 h0 j) ∧ c4 / 16 + (if n4 < c4 then 0 else 1) ≤ c' / 16 ∧ 2 * c4 + (if n4 < c4 then 0 else 2 * n4) ≤ 2 * c' := by
  obtain ⟨r', c', v', hLf, hok, ⟨hs, hinj, -⟩, hF, hr', hc', -⟩ := hP
  have hN := (Wz_lf h).2.2
  have hle := hN.2.2.2.2.1
  have h16 := hN.2.2.2.2.2.1
  have hF2 : sFr S u (fun z => z = na 3 ∨ z = va_up nr 3 r4 3) := by rw [va_up_self]; exact hF
  have hr2 : r' = va_up nr 3 r4 3 ∨ S.1 r' = none := by rw [va_up_self]; exact hr'
  obtain ⟨m1, m2, m3⟩ := Mz_num h.1 (i := 3) (by decide) hLf.2.2 hF2 hr2
  simp only [bx_uu] at m1
  have hnd : ∀ i, i < n4 + 1 → nd (v' i) ≠ none := by
    intro i hi
    rcases (hs (v' i)).mp ⟨i, hi, rfl⟩ with ⟨k, hk, e⟩ | e
    · rw [← e]; exact h.2.2.2.1 k hk
    · rw [e]; exact hx
  have hle9 := few_le hL hinj hnd
  refine ⟨r', c', v', ⟨m1, hok, hinj, hnd, ?_⟩, hs, m2, m3, ?_, ?_⟩
  · have := h.2.2.2.2; rw [hc']; split <;> omega
  · rw [hc']
    by_cases e : n4 < c4
    · rw [if_pos e, if_pos e]; omega
    · rw [if_neg e, if_neg e]; omega
  · rw [hc']
    by_cases e : n4 < c4
    · rw [if_pos e, if_pos e]; omega
    · rw [if_neg e, if_neg e]; omega
theorem Wz_take {S u : sS} {h0 tb pa q : Nat} {na : Nat → Nat} {nd : Nat → Option Nat} {rd sr : Nat → List (Nat × Nat)} {nr nc nn : Nat → Nat} {nf : Nat → Nat → Nat} {r4 c4 n4 : Nat} {v4 : Nat → Nat} {x : Int32} (h : Wz S h0 tb pa q na nd rd sr nr nc nn nf r4 c4 n4 v4) (hP : TakeP S q (na 3) r4 c4 n4 v4 x u) :
    x = nI (v4 0) ∧ ∃ v', Wz u h0 tb pa q na nd rd sr nr nc nn nf r4 c4 (n4 - 1) v' ∧ (∀ y, hp_set v' (n4 - 1) y ↔ hp_set v4 n4 y ∧ y ≠ v4 0) ∧ (∀ j w, fl u nd j w = fl S nd j w) ∧ ∀ j, u.2.2.1 h0 j = S.2.2.1 h0 j := by
  obtain ⟨hx, -, v', hLf, hok, ⟨hs, hinj, -⟩, hF⟩ := hP
  have hF2 : sFr S u (fun z => z = na 3 ∨ z = va_up nr 3 r4 3) := by rw [va_up_self]; exact hF
  obtain ⟨m1, m2, m3⟩ := Mz_num h.1 (i := 3) (by decide) hLf.2.2 hF2 (Or.inl (va_up_self _ _ _).symm)
  simp only [bx_uu] at m1
  refine ⟨hx, v', ⟨m1, hok, hinj, fun i hi => ?_, h.2.2.2.2⟩, hs, m2, m3⟩
  obtain ⟨⟨k, hk, e⟩, -⟩ := (hs (v' i)).mp ⟨i, hi, rfl⟩
  rw [← e]; exact h.2.2.2.1 k hk
end
section
theorem Wz_flag {S : sS} {h0 tb pa q : Nat} {na : Nat → Nat} {nd : Nat → Option Nat} {rd sr : Nat → List (Nat × Nat)} {nr nc nn : Nat → Nat} {nf : Nat → Nat → Nat} {r4 c4 n4 : Nat} {v4 : Nat → Nat} (h : Wz S h0 tb pa q na nd rd sr nr nc nn nf r4 c4 n4 v4) {v a i : Nat} (hv : nd v = some a) (hi : 5 ≤ i) (x : Int32) :
    Wz (S.1, S.2.1, up2 S.2.2.1 a i x, S.2.2.2) h0 tb pa q na nd rd sr nr nc nn nf r4 c4 n4 v4 ∧ (∀ j w, fl (S.1, S.2.1, up2 S.2.2.1 a i x, S.2.2.2) nd j w = if w = v ∧ j = i then x else fl S nd j w) ∧ ∀ j, up2 S.2.2.1 a i x h0 j = S.2.2.1 h0 j := by
  obtain ⟨h1, h2⟩ := h
  obtain ⟨g1, g2⟩ := Mz_flag h1 hv hi x
  refine ⟨⟨g1, h2⟩, g2, fun j => ?_⟩
  rw [up2_off _ _ (sk_d h1.1.1 (h1.2.2.1.nk hv).2.1 (by decide))]
theorem wp_same {S S0 : sS} {nd : Nat → Option Nat} (h : ∀ j v, j ≠ 8 → fl S nd j v = fl S0 nd j v) : wp S nd = wp S0 nd := by
  funext u
  unfold wp
  rw [h 7 u (by decide), h 6 u (by decide)]
/-- countWaiting's loop: the first k are counted -/
def CwI (S0 S : sS) (h0 tb pa q : Nat) (na : Nat → Nat) (nd : Nat → Option Nat) (rd sr : Nat → List (Nat × Nat)) (nr nc nn : Nat → Nat) (nf : Nat → Nat → Nat) (r4 c4 n4 : Nat) (v4 : Nat → Nat) (k : Nat) : Prop :=
  Wz S h0 tb pa q na nd rd sr nr nc nn nf r4 c4 n4 v4 ∧ (∀ y, hp_set v4 n4 y ↔ hp_set (nf 1) k y ∧ cnt (wp S0 nd) (rd y) = 0) ∧ (∀ i, i < k → fl S nd 8 (nf 1 i) = nI (cnt (wp S0 nd) (rd (nf 1 i)))) ∧ (∀ j v, j ≠ 8 → fl S nd j v = fl S0 nd j v) ∧ ∀ j, S.2.2.1 h0 j = S0.2.2.1 h0 j
set_option maxHeartbeats 4000000 in
set_option maxRecDepth 100000 in
theorem cw_loop {p : Program} {l : Launch} {e : Env} {s : State} {m : MethodId} {args : Array Value} {below : List Frame} {meth : Method} {c : Code} {D : va_G} {dA : Nat → ClassId} {A : Nat → Prop} {Q : State → Prop} (hx : p.tables.exec = Jvm.exec) (hb : c.code = c_H_countWaiting) (hml : c.maxLocals = 3) (hown : s.vm.findClass R_H = some m.cls) (hg : ∀ w ∈ gd, w.before args s = true) (hK : va_K D cls (tys dA) s) (hX : sKx s) {h0 tb pa q : Nat} {na : Nat → Nat} {nd : Nat → Option Nat} {rd sr : Nat → List (Nat × Nat)} {S0 : sS} {nr nc nn : Nat → Nat} {nf : Nat → Nat → Nat} (hL : fewN nd 1024) (hinj : hp_inj (nf 1) (nn 1)) (hnd : ∀ i, i < nn 1 → nd (nf 1 i) ≠ none) (hlen : ∀ v, (rd v).length < 2 ^ 31)
    (kk : ∀ (S : sS) (r4 c4 n4 : Nat) (v4 : Nat → Nat) (H : Heap) (locs : List Loc) (ls : Array Slot), SW D dA A s.heap S H locs → CwI S0 S h0 tb pa q na nd rd sr nr nc nn nf r4 c4 n4 v4 (nn 1) → W p l e (rmk 4 64 2048) s m args below meth c H locs (c4 / 16) (2 * c4) Q (F0 m 61 ls [])) :
    ∀ (d k : Nat) (S : sS) (r4 c4 n4 : Nat) (v4 : Nat → Nat) (H : Heap) (locs : List Loc) (ls : Array Slot) (o : Option Value), k + d = nn 1 → SW D dA A s.heap S H locs → lc ls 3 [some (va_rf (some h0)), some (.int (nI k)), o] → CwI S0 S h0 tb pa q na nd rd sr nr nc nn nf r4 c4 n4 v4 k → W p l e (rmk 4 64 2048) s m args below meth c H locs (c4 / 16) (2 * c4) Q (F0 m 2 ls []) := by
  have hB : nn 1 ≤ 1024 := few_le hL hinj hnd
  intro d
  induction d with
  | zero =>
    intro k S r4 c4 n4 v4 H locs ls o hk hM hl hI
    have hk0 : k = nn 1 := by omega
    subst hk0
    obtain ⟨kd, rf, it, lg⟩ := S
    have hZ := hI.1.1
    obtain ⟨⟨kh, e0, e1, e2, e3, e4⟩, ⟨kq, eq⟩, hG, hN, hna, hnr⟩ := id hZ
    dsimp only at kh e0 e1 e2 e3 e4 kq eq
    have hN1 := hN 1 (by decide)
    simp only [va_up_ne _ _ (show (1 : Nat) ≠ 3 by decide)] at hN1
    have hn1 := hN1.2.2.2.1
    have k1 := hN1.1
    dsimp only at hn1 k1
    refine q_iload_n (i := 1) hx hb d_H_countWaiting_2 rfl hl rfl ?_
    refine q_al_n (i := 0) hx hb d_H_countWaiting_3 rfl hl rfl ?_
    refine s_getr (C := R_H) (T := F_H) (N := 7) (ci := 0) hx hb hg in_H hown hK hM kh rfl 2 (by decide) rfl (hg _ kw_67) (fun _ h9 => h9) d_H_countWaiting_4 ?_
    rw [e2]
    refine s_geti (C := R_U) (T := F_U) (N := 2) (ci := 5) hx hb hg in_U hown hK hM k1 rfl 1 (by decide) rfl (hg _ kw_46) (fun _ h9 => h9) d_H_countWaiting_7 ?_
    rw [hn1]
    refine n_ge (tgt := 61) hx hb d_H_countWaiting_10 (by decide) (by omega) (by omega) (fun c1 => ?_) (fun c1 => ?_)
    · exact kk _ r4 c4 n4 v4 H locs ls hM hI
    · omega
  | succ d ih =>
    intro k S r4 c4 n4 v4 H locs ls o hk hM hl hI
    obtain ⟨kd, rf, it, lg⟩ := S
    obtain ⟨hW, i1, i2, i3, i4⟩ := hI
    have hZ := hW.1
    have hc9 := hW.2.2.2.2
    obtain ⟨⟨kh, e0, e1, e2, e3, e4⟩, ⟨kq, eq⟩, hG, hN, hna, hnr⟩ := id hZ
    dsimp only at kh e0 e1 e2 e3 e4 kq eq
    have hkn : k < nn 1 := by omega
    have hN1 := hN 1 (by decide)
    simp only [va_up_ne _ _ (show (1 : Nat) ≠ 3 by decide)] at hN1
    have hn1 := hN1.2.2.2.1
    have k1 := hN1.1
    dsimp only at hn1 k1
    obtain ⟨a, ha⟩ : ∃ a, nd (nf 1 k) = some a := Option.ne_none_iff_exists'.mp (hnd k hkn)
    obtain ⟨hv9, ka, hva⟩ := hG.nk ha
    dsimp only at ka hva
    have hn4 : n4 ≤ 1024 := few_le hL hW.2.2.1 hW.2.2.2.1
    have hle4 : n4 ≤ c4 := (Wz_lf hW).2.2.2.2.2.2.1
    have ew : wp (kd, rf, it, lg) nd = wp S0 nd := wp_same i3
    have hout : ¬ hp_set (nf 1) k (nf 1 k) := fun ⟨i, hi, e⟩ => by have := hinj i k (by omega) hkn e; omega
    refine q_iload_n (i := 1) hx hb d_H_countWaiting_2 rfl hl rfl ?_
    refine q_al_n (i := 0) hx hb d_H_countWaiting_3 rfl hl rfl ?_
    refine s_getr (C := R_H) (T := F_H) (N := 7) (ci := 0) hx hb hg in_H hown hK hM kh rfl 2 (by decide) rfl (hg _ kw_67) (fun _ h9 => h9) d_H_countWaiting_4 ?_
    rw [e2]
    refine s_geti (C := R_U) (T := F_U) (N := 2) (ci := 5) hx hb hg in_U hown hK hM k1 rfl 1 (by decide) rfl (hg _ kw_46) (fun _ h9 => h9) d_H_countWaiting_7 ?_
    rw [hn1]
    refine n_ge (tgt := 61) hx hb d_H_countWaiting_10 (by decide) (by omega) (by omega) (fun c1 => ?_) (fun c1 => ?_)
    · omega
    · refine q_al_n (i := 0) hx hb d_H_countWaiting_13 rfl hl rfl ?_
      refine s_getr (C := R_H) (T := F_H) (N := 7) (ci := 0) hx hb hg in_H hown hK hM kh rfl 0 (by decide) rfl (hg _ kw_65) (fun _ h9 => h9) d_H_countWaiting_14 ?_
      rw [e0]
      refine q_al_n (i := 0) hx hb d_H_countWaiting_17 rfl hl rfl ?_
      refine s_getr (C := R_H) (T := F_H) (N := 7) (ci := 0) hx hb hg in_H hown hK hM kh rfl 2 (by decide) rfl (hg _ kw_67) (fun _ h9 => h9) d_H_countWaiting_18 ?_
      rw [e2]
      refine q_iload_n (i := 1) hx hb d_H_countWaiting_21 rfl hl rfl ?_
      refine s_calli (r_V 1 [.int (nI k)] rfl hx hb hml hown hg (m_U_at l D dA _ _ (na 1) (nr 1) (nc 1) (nn 1) (nf 1) (nI k) hN1) (hM.pre hK hX) (hM.recv hK k1 (q := cls.getD 5 (R_H, F_H, 7)) rfl) kw_99 kw_100 kw_101 kw_3 kw_102 (by decide +kernel) ⟨Nat.le_of_ble_eq_true rfl, Nat.le_of_ble_eq_true rfl⟩ rfl rfl hl.sz (by first | exact Nat.le_of_ble_eq_true rfl | simp [rf_cat] | simp [rf_cat, Value.category]) d_H_countWaiting_22 ⟨by show _ ≤ 64; omega, by show _ ≤ 2048; omega⟩ rfl) hM (fun r1 u H locs hp hM => ?_)
      obtain ⟨rfl, hp⟩ := hp
      have er : r1 = nI (nf 1 k) := by
        rcases hp with ⟨-, e⟩ | ⟨z, -⟩
        · rw [e, nI_clamp (by omega)]
        · exact absurd (vp_in_nI hkn (by omega)) z
      subst er
      refine s_callq (r_V 1 [.int (nI (nf 1 k))] rfl hx hb hml hown hg (m_T_of l D dA _ _ tb pa nd (nf 1 k) a hG.1 hv9 ha) (hM.pre hK hX) (hM.recv hK hG.1.1 (q := cls.getD 1 (R_H, F_H, 7)) rfl) kw_107 kw_108 kw_109 kw_2 kw_110 (by decide +kernel) ⟨Nat.le_of_ble_eq_true rfl, Nat.le_of_ble_eq_true rfl⟩ rfl rfl hl.sz (by first | exact Nat.le_of_ble_eq_true rfl | simp [rf_cat] | simp [rf_cat, Value.category]) d_H_countWaiting_25 ⟨by show _ ≤ 64; omega, by show _ ≤ 2048; omega⟩ rfl) hM (fun r1 u H locs hp hM => ?_)
      obtain ⟨rfl, rfl⟩ := hp
      refine q_astore_n (i := 2) hx hb (_) d_H_countWaiting_28 rfl hl (by decide) (fun ls hl => ?_)
      simp only [List.set_cons_succ, List.set_cons_zero] at hl
      refine q_al_n (i := 2) hx hb d_H_countWaiting_29 rfl hl rfl ?_
      refine q_al_n (i := 2) hx hb d_H_countWaiting_30 rfl hl rfl ?_
      refine s_calli (r_S 1 [.ref a] rfl hx hb hml hown hg (m_H_readsToWaitFor l D dA _ _ tb pa nd rd sr (nf 1 k) a hG ha (hlen _)) (hM.pre hK hX) kw_197 kw_198 kw_1 kw_199 (by decide +kernel) ⟨Nat.le_of_ble_eq_true rfl, Nat.le_of_ble_eq_true rfl⟩ rfl rfl hl.sz (by first | exact Nat.le_of_ble_eq_true rfl | simp [rf_cat] | simp [rf_cat, Value.category]) d_H_countWaiting_31 ⟨by show _ ≤ 64; omega, by show _ ≤ 2048; omega⟩ rfl) hM (fun r1 u H locs hp hM => ?_)
      obtain ⟨rfl, rfl⟩ := hp
      rw [ew]
      refine s_puti (C := R_N) (T := F_N) (N := 9) (ci := 3) hx hb hg in_N ft_N ft_N_ok fn_N hown hK hM ka rfl 8 (by decide) rfl (hg _ kw_145) (fun _ h9 => h9) rfl rfl rfl d_H_countWaiting_34 (fun H locs hM => ?_)
      obtain ⟨hW1, f1, g1⟩ := Wz_flag hW ha (i := 8) (by decide) (nI (cnt (wp S0 nd) (rd (nf 1 k))))
      dsimp only at hW1 f1 g1
      have hclt : cnt (wp S0 nd) (rd (nf 1 k)) < 2 ^ 31 := Nat.lt_of_le_of_lt (cnt_le _ _) (hlen _)
      have tail : ∀ (S2 : sS) (r4' c4' n4' : Nat) (v4' : Nat → Nat) (H : Heap) (locs : List Loc), SW D dA A s.heap S2 H locs → Wz S2 h0 tb pa q na nd rd sr nr nc nn nf r4' c4' n4' v4' → (∀ y, hp_set v4' n4' y ↔ hp_set v4 n4 y ∨ (y = nf 1 k ∧ cnt (wp S0 nd) (rd (nf 1 k)) = 0)) → (∀ j w, fl S2 nd j w = if w = nf 1 k ∧ j = 8 then nI (cnt (wp S0 nd) (rd (nf 1 k))) else fl (kd, rf, it, lg) nd j w) → (∀ j, S2.2.2.1 h0 j = it h0 j) → W p l e (rmk 4 64 2048) s m args below meth c H locs (c4' / 16) (2 * c4') Q (F0 m 55 ls []) := by
        intro S2 r4' c4' n4' v4' H locs hM hW2 hs2 hf2 hg2
        refine q_iinc hx hb (nI (k + 1)) d_H_countWaiting_55 hl rfl (nI_1 k) (by decide) (fun ls hl => ?_)
        simp only [List.set_cons_succ, List.set_cons_zero] at hl
        refine lv_goto (tgt := 2) hx hb d_H_countWaiting_58 (by decide) ?_
        refine ih (k + 1) S2 r4' c4' n4' v4' H locs ls _ (by omega) hM hl ⟨hW2, fun y => ?_, fun i hi => ?_, fun j v hj => ?_, fun j => (hg2 j).trans (i4 j)⟩
        · rw [hs2, i1]
          constructor
          · rintro (⟨⟨i, hi, e⟩, z⟩ | ⟨e, z⟩)
            · exact ⟨⟨i, by omega, e⟩, z⟩
            · exact ⟨⟨k, by omega, e.symm⟩, by rw [e]; exact z⟩
          · rintro ⟨⟨i, hi, e⟩, z⟩
            by_cases hik : i = k
            · rw [hik] at e; exact Or.inr ⟨e.symm, by rw [e]; exact z⟩
            · exact Or.inl ⟨⟨i, by omega, e⟩, z⟩
        · rw [hf2]
          by_cases hik : i = k
          · rw [hik, if_pos ⟨rfl, rfl⟩]
          · rw [if_neg (fun y => hik (hinj i k (by omega) hkn y.1))]
            exact i2 i (by omega)
        · rw [hf2, if_neg (fun y => hj y.2)]; exact i3 j v hj
      refine q_al_n (i := 2) hx hb d_H_countWaiting_37 rfl hl rfl ?_
      refine s_geti (C := R_N) (T := F_N) (N := 9) (ci := 3) hx hb hg in_N hown hK hM ka rfl 8 (by decide) rfl (hg _ kw_145) (fun _ h9 => h9) d_H_countWaiting_38 ?_
      rw [up2_self]
      refine lv_if_ne (tgt := 55) hx hb d_H_countWaiting_41 (by decide) (fun c3 => ?_) (fun c3 => ?_)
      · refine tail _ r4 c4 n4 v4 H locs hM hW1 (fun y => ⟨Or.inl, fun z => z.elim id (fun z => absurd (by rw [z.2]; rfl) c3)⟩) f1 g1
      · have c0 : cnt (wp S0 nd) (rd (nf 1 k)) = 0 := (nI_eq hclt (by omega)).mp c3
        have hns : ¬ hp_set v4 n4 (nf 1 k) := fun z => hout ((i1 _).mp z).1
        have hro : n4 + 1 ≤ 1024 := inj_room hL hW.2.2.1 hW.2.2.2.1 (hnd k hkn) hns
        refine q_al_n (i := 0) hx hb d_H_countWaiting_44 rfl hl rfl ?_
        refine s_getr (C := R_H) (T := F_H) (N := 7) (ci := 0) hx hb hg in_H hown hK hM kh rfl 4 (by decide) rfl (hg _ kw_69) (fun _ h9 => h9) d_H_countWaiting_45 ?_
        rw [e4]
        refine q_al_n (i := 2) hx hb d_H_countWaiting_48 rfl hl rfl ?_
        refine s_geti (C := R_N) (T := F_N) (N := 9) (ci := 3) hx hb hg in_N hown hK hM ka rfl 0 (by decide) rfl (hg _ kw_133) (fun _ h9 => h9) d_H_countWaiting_49 ?_
        rw [up2_ne _ _ (by decide), hva]
        refine s_callv (r_V 1 [.int (nI (nf 1 k))] rfl hx hb hml hown hg (m_F_put l D dA _ _ q (na 3) r4 c4 n4 v4 (nf 1 k) (Wz_lf hW1) hW.2.1 hW.2.2.1 hns hv9 (Wz_lt hW) (by omega)) (hM.pre hK hX) (hM.recv hK kq (q := cls.getD 6 (R_H, F_H, 7)) rfl) kw_200 kw_201 kw_202 kw_4 kw_203 (by decide +kernel) ⟨Nat.le_of_ble_eq_true rfl, Nat.le_of_ble_eq_true rfl⟩ rfl rfl hl.sz (by first | exact Nat.le_of_ble_eq_true rfl | simp [rf_cat] | simp [rf_cat, Value.category]) d_H_countWaiting_52 ⟨by show _ ≤ 64; split <;> omega, by show _ ≤ 2048; split <;> omega⟩ rfl) hM (fun u H locs hp hM => ?_)
        obtain ⟨r4', c4', v4', hW2, hs2, hf2, hg2, hb1, hb2⟩ := Wz_put hW1 hL (hnd k hkn) hp
        refine W.widen (k := c4' / 16) (n := 2 * c4') hb1 hb2 ?_
        refine tail _ r4' c4' (n4 + 1) v4' H locs hM hW2 (fun y => ?_) (fun j w => ?_) (fun j => (hg2 j).trans (g1 j))
        · rw [hs2]
          exact ⟨fun z => z.elim Or.inl (fun z => Or.inr ⟨z, c0⟩), fun z => z.elim Or.inl (fun z => Or.inr z.1)⟩
        · rw [hf2]; exact f1 j w
/-- what countWaiting does -/
def CwP (S : sS) (h0 tb pa q : Nat) (na : Nat → Nat) (nd : Nat → Option Nat) (rd sr : Nat → List (Nat × Nat)) (nr nc nn : Nat → Nat) (nf : Nat → Nat → Nat) (u : sS) : Prop :=
  ∃ r4 c4 n4 v4, Wz u h0 tb pa q na nd rd sr nr nc nn nf r4 c4 n4 v4 ∧ (∀ y, hp_set v4 n4 y ↔ hp_set (nf 1) (nn 1) y ∧ cnt (wp S nd) (rd y) = 0) ∧ (∀ y, hp_set (nf 1) (nn 1) y → fl u nd 8 y = nI (cnt (wp S nd) (rd y))) ∧ (∀ j v, j ≠ 8 → fl u nd j v = fl S nd j v) ∧ ∀ j, u.2.2.1 h0 j = S.2.2.1 h0 j
set_option maxHeartbeats 4000000 in
set_option maxRecDepth 100000 in
theorem m_H_countWaiting (l : Launch) (D : va_G) (dA : Nat → ClassId) (S : sS) (sz : Nat) (h0 tb pa q : Nat) (na : Nat → Nat) (nd : Nat → Option Nat) (rd sr : Nat → List (Nat × Nat)) (nr nc nn : Nat → Nat) (nf : Nat → Nat → Nat) (hZ : Mz S h0 tb pa q na nd rd sr nr nc nn nf) (hL : fewN nd 1024) (hinj : hp_inj (nf 1) (nn 1)) (hnd : ∀ i, i < nn 1 → nd (nf 1 i) ≠ none) (hlen : ∀ v, (rd v).length < 2 ^ 31) (h3 : nn 3 = 0) (hc : pw (nc 3)) :
    cV l y_H_countWaiting c_H_countWaiting 3 (rmk 4 64 2048) D dA S sz [.ref h0] (CwP S h0 tb pa q na nd rd sr nr nc nn nf) (64) (2048) := by
  refine s_met (cc := c_H_countWaiting) (maxL := 3) (by decide) rfl (by simp [Value.category]) (by simp [lg_sl, Value.category]) ?_
  intro p e s m args below meth c ls hx hb hr hts hown hlocks hin hml hK hX hsz hM hl
  have hg := gd_hts hts
  have hl : lc ls 3 [some (va_rf (some h0)), none, none] := hl
  refine lv_iconst (v := nI 0) hx hb d_H_countWaiting_0 (by decide) ?_
  refine q_istore_n (i := 1) hx hb d_H_countWaiting_1 rfl hl (by decide) (fun ls hl => ?_)
  simp only [List.set_cons_succ, List.set_cons_zero] at hl
  refine W.widen (k := nc 3 / 16) (n := 2 * nc 3) (Nat.zero_le _) (Nat.zero_le _) ?_
  have hW0 : Wz S h0 tb pa q na nd rd sr nr nc nn nf (nr 3) (nc 3) 0 (nf 3) := by
    refine ⟨?_, fun i h1 h2 => absurd h2 (Nat.not_lt_zero i), fun i j h1 => absurd h1 (Nat.not_lt_zero i), fun i h1 => absurd h1 (Nat.not_lt_zero i), hc⟩
    rw [va_up_same (f := nr) (k := 3) rfl, va_up_same (f := nc) (k := 3) rfl, va_up_same (f := nf) (k := 3) rfl, va_up_same h3]
    exact hZ
  refine cw_loop hx hb hml hown hg hK hX (S0 := S) (nr := nr) (nc := nc) (nn := nn) (nf := nf) hL hinj hnd hlen ?_ (nn 1) 0 S (nr 3) (nc 3) 0 (nf 3) s.heap [] ls _ (by omega) hM hl ⟨hW0, fun y => ⟨fun ⟨i, hi, _⟩ => absurd hi (Nat.not_lt_zero i), fun z => by obtain ⟨⟨i, hi, _⟩, _⟩ := z; exact absurd hi (Nat.not_lt_zero i)⟩, fun i hi => absurd hi (Nat.not_lt_zero i), fun j v _ => rfl, fun j => rfl⟩
  intro S1 r4 c4 n4 v4 H locs ls hM hI
  obtain ⟨hW, i1, i2, i3, i4⟩ := hI
  have hc9 := hW.2.2.2.2
  refine W.widen (k := 64) (n := 2048) (by omega) (by omega) ?_
  exact s_vret hx hb hr hM ⟨r4, c4, n4, v4, hW, i1, fun y ⟨i, hi, e⟩ => by rw [← e]; exact i2 i hi, i3, i4⟩ d_H_countWaiting_61 hlocks
end
section
/-! PURE: what may be worked out behind W, and how counts fall -/
def rdy (E : Nat → Nat → Prop) (F P W : Nat → Prop) (y : Nat) : Prop := F y ∧ ¬ W y ∧ ∀ u, E y u → P u → W u
theorem rdy_gC {E : Nat → Nat → Prop} {F P : Nat → Prop} (hP : ∀ u, P u ↔ F u ∨ ¬ gN E u) {p : List Nat} (hp : ∀ u, u ∈ p → F u ∧ gN E u) (x : Nat) : gC E F p x ↔ rdy E F P (fun u => u ∈ p) x := by
  constructor
  · rintro ⟨h1, h2, h3, h4⟩
    refine ⟨h1, h3, fun u hu hPu => ?_⟩
    have hn := gN_down h2 hu
    rcases (hP u).mp hPu with z | z
    · exact h4 u hu z hn
    · exact absurd hn z
  · rintro ⟨h1, h2, h3⟩
    refine ⟨h1, gN_mk fun u hu => ?_, h2, fun u hu hF _ => h3 u hu ((hP u).mpr (Or.inl hF))⟩
    refine Classical.byContradiction fun z => ?_
    exact z (hp u (h3 u hu ((hP u).mpr (Or.inr z)))).2
theorem lrm_at {g : Nat → Nat} {k j : Nat} : ((List.range k).map g)[j]? = if j < k then some (g j) else none := by
  by_cases h : j < k
  · rw [if_pos h]; simp [h]
  · rw [if_neg h]; simp [h]
theorem lrm_take {g : Nat → Nat} {k j : Nat} (h : j ≤ k) : ((List.range k).map g).take j = (List.range j).map g := by
  apply List.ext_getElem?
  intro i
  rw [List.getElem?_take, lrm_at, lrm_at]
  by_cases z : i < j
  · rw [if_pos z, if_pos z, if_pos (by omega)]
  · rw [if_neg z, if_neg z]
theorem lrm_mem {g : Nat → Nat} {k x : Nat} : x ∈ (List.range k).map g ↔ hp_set g k x := by
  constructor
  · intro h
    obtain ⟨i, hi, e⟩ := List.mem_map.mp h
    exact ⟨i, List.mem_range.mp hi, e⟩
  · rintro ⟨i, hi, e⟩
    exact List.mem_map.mpr ⟨i, List.mem_range.mpr hi, e⟩
/-- the run out of the steps -/
theorem gR_of {E : Nat → Nat → Prop} {F P : Nat → Prop} (hP : ∀ u, P u ↔ F u ∨ ¬ gN E u) {g : Nat → Nat} {k : Nat} (h : ∀ j, j < k → rdy E F P (hp_set g j) (g j) ∧ ∀ y, rdy E F P (hp_set g j) y → g j ≤ y) (he : ∀ y, ¬ rdy E F P (hp_set g k) y) : gR E F ((List.range k).map g) := by
  have hw : ∀ j, (fun u => u ∈ (List.range j).map g) = hp_set g j := fun j => funext fun u => propext lrm_mem
  have hp : ∀ j, j ≤ k → ∀ u, u ∈ (List.range j).map g → F u ∧ gN E u := by
    intro j
    induction j with
    | zero => intro _ u hu; simp at hu
    | succ j ih =>
      intro hj u hu
      obtain ⟨i, hi, e⟩ := lrm_mem.mp hu
      by_cases z : i = j
      · have h1 := (h j (by omega)).1
        rw [← hw j] at h1
        have h2 := (rdy_gC hP (ih (by omega)) (g j)).mpr h1
        rw [← e, z]; exact ⟨h2.1, h2.2.1⟩
      · exact ih (by omega) u (lrm_mem.mpr ⟨i, by omega, e⟩)
  constructor
  · intro j x hx
    rw [lrm_at] at hx
    by_cases z : j < k
    · rw [if_pos z] at hx
      have e : g j = x := Option.some.inj hx
      obtain ⟨a1, a2⟩ := h j z
      rw [← hw j] at a1 a2
      rw [lrm_take (by omega), ← e]
      exact ⟨(rdy_gC hP (hp j (by omega)) (g j)).mpr a1, fun y hy => a2 y ((rdy_gC hP (hp j (by omega)) y).mp hy)⟩
    · rw [if_neg z] at hx; cases hx
  · intro x hx
    have := (rdy_gC hP (hp k (by omega)) x).mp hx
    rw [hw k] at this
    exact he x this
theorem inj_le {f g : Nat → Nat} {n k : Nat} (hi : hp_inj g k) (hs : ∀ i, i < k → hp_set f n (g i)) : k ≤ n := by
  have h1 : ((List.range k).map g).Nodup := by
    rw [List.nodup_iff_pairwise_ne, List.pairwise_iff_getElem]
    intro i j h1 h2 hij e
    have h1' : i < k := by simpa using h1
    have h2' : j < k := by simpa using h2
    have e' : g i = g j := by simpa using e
    have := hi i j h1' h2' e'
    omega
  have h2 : ((List.range k).map g) ⊆ (List.range n).map f := by
    intro x hx
    obtain ⟨i, hi9, e⟩ := List.mem_map.mp hx
    rw [← e]
    exact lrm_mem.mpr (hs i (List.mem_range.mp hi9))
  have h3 := List.Nodup.length_le_of_subset h1 h2
  simp at h3
  omega
/-- those that must be waited for and aren't worked out -/
def wpk (p : Nat → Bool) (g : Nat → Nat) (k u : Nat) : Bool := p u && !((List.range k).any (fun i => g i == u))
theorem wpk_iff {p : Nat → Bool} {g : Nat → Nat} {k u : Nat} : wpk p g k u = true ↔ p u = true ∧ ¬ hp_set g k u := by
  unfold wpk hp_set
  simp
theorem cnt_zero {p : Nat → Bool} {l : List (Nat × Nat)} : cnt p l = 0 ↔ ∀ c u, (c, u) ∈ l → ¬ p u = true := by
  unfold cnt
  rw [List.length_eq_zero_iff, List.filter_eq_nil_iff]
  exact ⟨fun h c u hm => h (c, u) hm, fun h x hm => h x.1 x.2 hm⟩
theorem cnt_drop {p p' : Nat → Bool} {x : Nat} (hp : ∀ u, p' u = true ↔ p u = true ∧ u ≠ x) (hx : p x = true) : ∀ l : List (Nat × Nat), (l.map Prod.snd).Nodup → ((∃ c, (c, x) ∈ l) → cnt p l = cnt p' l + 1) ∧ ((¬ ∃ c, (c, x) ∈ l) → cnt p l = cnt p' l)
  | [], _ => ⟨fun h => (by obtain ⟨c, h⟩ := h; cases h), fun _ => rfl⟩
  | (c, u) :: l, hn => by
    rw [List.map_cons, List.nodup_cons] at hn
    obtain ⟨h1, h2⟩ := cnt_drop hp hx l hn.2
    have hc : ∀ q : Nat → Bool, cnt q ((c, u) :: l) = cnt q l + (if q u = true then 1 else 0) := by
      intro q
      unfold cnt
      by_cases e : q u = true
      · simp [e]
      · simp [e]
    rw [hc, hc]
    by_cases e : u = x
    · subst e
      have hnm : ¬ ∃ c, (c, u) ∈ l := fun ⟨c, h⟩ => hn.1 (List.mem_map.mpr ⟨(c, u), h, rfl⟩)
      have e2 := h2 hnm
      have e3 : ¬ p' u = true := fun z => ((hp u).mp z).2 rfl
      refine ⟨fun _ => ?_, fun z => absurd ⟨c, List.mem_cons_self⟩ z⟩
      rw [if_pos hx, if_neg e3, e2]
    · have e3 : (if p u = true then 1 else 0) = (if p' u = true then 1 else 0) := by
        by_cases z : p u = true
        · rw [if_pos z, if_pos ((hp u).mpr ⟨z, e⟩)]
        · rw [if_neg z, if_neg (fun y => z ((hp u).mp y).1)]
      have e4 : (∃ c', (c', x) ∈ (c, u) :: l) ↔ ∃ c, (c, x) ∈ l := by
        constructor
        · rintro ⟨c', h⟩
          rcases List.mem_cons.mp h with y | y
          · exact absurd (congrArg Prod.snd y).symm e
          · exact ⟨c', y⟩
        · rintro ⟨c', h⟩
          exact ⟨c', List.mem_cons_of_mem _ h⟩
      rw [e4]
      refine ⟨fun z => ?_, fun z => ?_⟩
      · have := h1 z; omega
      · have := h2 z; omega
theorem vu_comm {α : Type} (f : Nat → α) (a b : α) : va_up (va_up f 3 a) 2 b = va_up (va_up f 2 b) 3 a := by
  funext j
  by_cases e : j = 3
  · subst e; rw [va_up_self, va_up_ne _ _ (by decide), va_up_self]
  · by_cases e2 : j = 2
    · subst e2; rw [va_up_self, va_up_ne _ _ (by decide), va_up_self]
    · rw [va_up_ne _ _ e2, va_up_ne _ _ e, va_up_ne _ _ e, va_up_ne _ _ e2]
/-- what releaseOnce does -/
def RelP (S : sS) (h0 tb pa q : Nat) (na : Nat → Nat) (nd : Nat → Option Nat) (rd sr : Nat → List (Nat × Nat)) (nr nc nn : Nat → Nat) (nf : Nat → Nat → Nat) (r4 c4 n4 : Nat) (v4 : Nat → Nat) (v t : Nat) (u : sS) : Prop :=
  ∃ r' c' n' v', Wz u h0 tb pa q na nd rd sr nr nc nn nf r' c' n' v' ∧ (∀ y, hp_set v' n' y ↔ hp_set v4 n4 y ∨ (y = v ∧ t = 0)) ∧ (∀ j w, fl u nd j w = if w = v ∧ j = 8 then nI t else fl S nd j w) ∧ (∀ j, u.2.2.1 h0 j = S.2.2.1 h0 j) ∧ c4 / 16 + (if t = 0 ∧ ¬ n4 < c4 then 1 else 0) ≤ c' / 16 ∧ 2 * c4 + (if t = 0 ∧ ¬ n4 < c4 then 2 * n4 else 0) ≤ 2 * c'
set_option maxHeartbeats 4000000 in
set_option maxRecDepth 100000 in
theorem m_H_releaseOnce (l : Launch) (D : va_G) (dA : Nat → ClassId) (S : sS) (sz : Nat) (h0 tb pa q : Nat) (na : Nat → Nat) (nd : Nat → Option Nat) (rd sr : Nat → List (Nat × Nat)) (nr nc nn : Nat → Nat) (nf : Nat → Nat → Nat) (r4 c4 n4 : Nat) (v4 : Nat → Nat) (v a t : Nat) (hW : Wz S h0 tb pa q na nd rd sr nr nc nn nf r4 c4 n4 v4) (hL : fewN nd 1024) (ha : nd v = some a) (ht : fl S nd 8 v = nI (t + 1)) (ht9 : t + 1 < 2 ^ 31) (hns : t = 0 → ¬ hp_set v4 n4 v) :
    cV l y_H_releaseOnce c_H_releaseOnce 2 (rmk 4 (if t = 0 ∧ ¬ n4 < c4 then 1 else 0) (if t = 0 ∧ ¬ n4 < c4 then 2 * n4 else 0)) D dA S sz [.ref h0, .ref a] (RelP S h0 tb pa q na nd rd sr nr nc nn nf r4 c4 n4 v4 v t) ((if t = 0 ∧ ¬ n4 < c4 then 1 else 0)) ((if t = 0 ∧ ¬ n4 < c4 then 2 * n4 else 0)) := by
  obtain ⟨kd, rf, it, lg⟩ := S
  have hZ := hW.1
  have hc9 := hW.2.2.2.2
  obtain ⟨⟨kh, e0, e1, e2, e3, e4⟩, ⟨kq, eq⟩, hG, hN, hna, hnr⟩ := id hZ
  dsimp only at kh e0 e1 e2 e3 e4 kq eq
  obtain ⟨hv9, ka, hva⟩ := hG.nk ha
  dsimp only at ka hva
  rw [fl_at ha] at ht
  dsimp only at ht
  have hn4 : n4 ≤ 1024 := few_le hL hW.2.2.1 hW.2.2.2.1
  have hle4 : n4 ≤ c4 := (Wz_lf hW).2.2.2.2.2.2.1
  refine s_met (cc := c_H_releaseOnce) (maxL := 2) (by decide) rfl (by simp [Value.category]) (by simp [lg_sl, Value.category]) ?_
  intro p e s m args below meth c ls hx hb hr hts hown hlocks hin hml hK hX hsz hM hl
  have hg := gd_hts hts
  have hl : lc ls 2 [some (va_rf (some h0)), some (va_rf (some a))] := hl
  refine q_al_n (i := 1) hx hb d_H_releaseOnce_0 rfl hl rfl ?_
  refine lv_dup hx hb d_H_releaseOnce_1 (rf_cat _) ?_
  refine s_geti (C := R_N) (T := F_N) (N := 9) (ci := 3) hx hb hg in_N hown hK hM ka rfl 8 (by decide) rfl (hg _ kw_145) (fun _ h9 => h9) d_H_releaseOnce_2 ?_
  rw [ht]
  refine lv_iconst (v := 1) hx hb d_H_releaseOnce_5 (by decide) ?_
  refine lv_isub hx hb d_H_releaseOnce_6 ?_
  have es : nI (t + 1) - 1 = nI t := by rw [← nI_1 t]; simp
  rw [es]
  refine s_puti (C := R_N) (T := F_N) (N := 9) (ci := 3) hx hb hg in_N ft_N ft_N_ok fn_N hown hK hM ka rfl 8 (by decide) rfl (hg _ kw_145) (fun _ h9 => h9) rfl rfl rfl d_H_releaseOnce_7 (fun H locs hM => ?_)
  obtain ⟨hW1, f1, g1⟩ := Wz_flag hW ha (i := 8) (by decide) (nI t)
  dsimp only at hW1 f1 g1
  refine q_al_n (i := 1) hx hb d_H_releaseOnce_10 rfl hl rfl ?_
  refine s_geti (C := R_N) (T := F_N) (N := 9) (ci := 3) hx hb hg in_N hown hK hM ka rfl 8 (by decide) rfl (hg _ kw_145) (fun _ h9 => h9) d_H_releaseOnce_11 ?_
  rw [up2_self]
  refine lv_if_ne (tgt := 28) hx hb d_H_releaseOnce_14 (by decide) (fun c3 => ?_) (fun c3 => ?_)
  · have t0 : ¬ t = 0 := fun z => c3 (by rw [z]; rfl)
    rw [if_neg (fun z => t0 z.1), if_neg (fun z => t0 z.1)]
    refine s_vret hx hb hr hM ⟨r4, c4, n4, v4, hW1, fun y => ⟨Or.inl, fun z => z.elim id (fun z => absurd z.2 t0)⟩, f1, g1, ?_, ?_⟩ d_H_releaseOnce_28 hlocks
    · rw [if_neg (fun z => t0 z.1)]; exact Nat.le_refl _
    · rw [if_neg (fun z => t0 z.1)]; exact Nat.le_refl _
  · have t0 : t = 0 := (nI_eq (by omega) (by omega)).mp c3
    have em : (if t = 0 ∧ ¬ n4 < c4 then 1 else 0) = (if n4 < c4 then 0 else 1) := by
      by_cases z : n4 < c4
      · rw [if_pos z, if_neg (fun y => y.2 z)]
      · rw [if_neg z, if_pos ⟨t0, z⟩]
    have es : (if t = 0 ∧ ¬ n4 < c4 then 2 * n4 else 0) = (if n4 < c4 then 0 else 2 * n4) := by
      by_cases z : n4 < c4
      · rw [if_pos z, if_neg (fun y => y.2 z)]
      · rw [if_neg z, if_pos ⟨t0, z⟩]
    rw [em, es]
    refine q_al_n (i := 0) hx hb d_H_releaseOnce_17 rfl hl rfl ?_
    refine s_getr (C := R_H) (T := F_H) (N := 7) (ci := 0) hx hb hg in_H hown hK hM kh rfl 4 (by decide) rfl (hg _ kw_69) (fun _ h9 => h9) d_H_releaseOnce_18 ?_
    rw [e4]
    refine q_al_n (i := 1) hx hb d_H_releaseOnce_21 rfl hl rfl ?_
    refine s_geti (C := R_N) (T := F_N) (N := 9) (ci := 3) hx hb hg in_N hown hK hM ka rfl 0 (by decide) rfl (hg _ kw_133) (fun _ h9 => h9) d_H_releaseOnce_22 ?_
    rw [up2_ne _ _ (by decide), hva]
    refine s_callv (r_V 1 [.int (nI v)] rfl hx hb hml hown hg (m_F_put l D dA _ _ q (na 3) r4 c4 n4 v4 v (Wz_lf hW1) hW.2.1 hW.2.2.1 (hns t0) hv9 (Wz_lt hW) (by omega)) (hM.pre hK hX) (hM.recv hK kq (q := cls.getD 6 (R_H, F_H, 7)) rfl) kw_200 kw_201 kw_202 kw_4 kw_203 (by decide +kernel) ⟨Nat.le_of_ble_eq_true rfl, Nat.le_of_ble_eq_true rfl⟩ rfl rfl hl.sz (by first | exact Nat.le_of_ble_eq_true rfl | simp [rf_cat] | simp [rf_cat, Value.category]) d_H_releaseOnce_25 ⟨Nat.le_of_eq (Nat.zero_add _), Nat.le_of_eq (Nat.zero_add _)⟩ rfl) hM (fun u H locs hp hM => ?_)
    obtain ⟨r4', c4', v4', hW2, hs2, hf2, hg2, hb1, hb2⟩ := Wz_put hW1 hL (by rw [ha]; exact fun z => by cases z) hp
    refine W.widen (k := (if n4 < c4 then 0 else 1)) (n := (if n4 < c4 then 0 else 2 * n4)) (by omega) (by omega) ?_
    refine s_vret hx hb hr hM ⟨r4', c4', n4 + 1, v4', hW2, fun y => ?_, fun j w => ?_, fun j => (hg2 j).trans (g1 j), ?_, ?_⟩ d_H_releaseOnce_28 hlocks
    · rw [hs2]
      exact ⟨fun z => z.elim Or.inl (fun z => Or.inr ⟨z, t0⟩), fun z => z.elim Or.inl (fun z => Or.inr z.1)⟩
    · rw [hf2]; exact f1 j w
    · rw [em]; exact hb1
    · rw [es]; exact hb2
end
section
/-- the readers that are still to be released -/
def Rem (l : List (Nat × Nat)) (j v : Nat) : Prop := ∃ i c, j ≤ i ∧ l[i]? = some (c, v)
/-- workOutReady's loop, k worked out -/
def WoI (S0 S : sS) (h0 tb pa q : Nat) (na : Nat → Nat) (nd : Nat → Option Nat) (rd sr : Nat → List (Nat × Nat)) (nr nc nn : Nat → Nat) (nf : Nat → Nat → Nat) (r3 c3 k : Nat) (g : Nat → Nat) (r4 c4 n4 : Nat) (v4 : Nat → Nat) : Prop :=
  Wz S h0 tb pa q na nd rd sr (va_up nr 2 r3) (va_up nc 2 c3) (va_up nn 2 k) (va_up nf 2 g) r4 c4 n4 v4 ∧ pw (c3) ∧ hp_inj g k ∧ (∀ j, j < k → rdy (rE rd) (hp_set (nf 1) (nn 1)) (fun u => wp S0 nd u = true) (hp_set g j) (g j) ∧ ∀ y, rdy (rE rd) (hp_set (nf 1) (nn 1)) (fun u => wp S0 nd u = true) (hp_set g j) y → g j ≤ y) ∧ (∀ v, hp_set (nf 1) (nn 1) v → fl S nd 8 v = nI (cnt (wpk (wp S0 nd) g k) (rd v))) ∧ (∀ y, hp_set v4 n4 y ↔ hp_set (nf 1) (nn 1) y ∧ ¬ hp_set g k y ∧ cnt (wpk (wp S0 nd) g k) (rd y) = 0) ∧ (∀ j v, j ≠ 8 → fl S nd j v = fl S0 nd j v) ∧ ∀ j, S.2.2.1 h0 j = S0.2.2.1 h0 j
/-- its inner loop: x was worked out, its first j readers are released -/
def WiI (S0 S : sS) (h0 tb pa q : Nat) (na : Nat → Nat) (nd : Nat → Option Nat) (rd sr : Nat → List (Nat × Nat)) (nr nc nn : Nat → Nat) (nf : Nat → Nat → Nat) (r3 c3 k : Nat) (g : Nat → Nat) (r4 c4 n4 : Nat) (v4 : Nat → Nat) (x j : Nat) : Prop :=
  Wz S h0 tb pa q na nd rd sr (va_up nr 2 r3) (va_up nc 2 c3) (va_up nn 2 k) (va_up nf 2 g) r4 c4 n4 v4 ∧ pw (c3) ∧ (∀ v, hp_set (nf 1) (nn 1) v → (Rem (sr x) j v → fl S nd 8 v = nI (cnt (wpk (wp S0 nd) g k) (rd v) + 1)) ∧ (¬ Rem (sr x) j v → fl S nd 8 v = nI (cnt (wpk (wp S0 nd) g k) (rd v)))) ∧ (∀ y, hp_set v4 n4 y ↔ hp_set (nf 1) (nn 1) y ∧ ¬ hp_set g k y ∧ cnt (wpk (wp S0 nd) g k) (rd y) = 0 ∧ ¬ Rem (sr x) j y) ∧ (∀ j v, j ≠ 8 → fl S nd j v = fl S0 nd j v) ∧ ∀ j, S.2.2.1 h0 j = S0.2.2.1 h0 j
set_option maxHeartbeats 4000000 in
set_option maxRecDepth 100000 in
theorem wo_in {p : Program} {l : Launch} {e : Env} {s : State} {m : MethodId} {args : Array Value} {below : List Frame} {meth : Method} {c : Code} {D : va_G} {dA : Nat → ClassId} {A : Nat → Prop} {Q : State → Prop} (hx : p.tables.exec = Jvm.exec) (hb : c.code = c_H_workOutReady) (hml : c.maxLocals = 4) (hown : s.vm.findClass R_H = some m.cls) (hg : ∀ w ∈ gd, w.before args s = true) (hK : va_K D cls (tys dA) s) (hX : sKx s) {h0 tb pa q : Nat} {na : Nat → Nat} {nd : Nat → Option Nat} {rd sr : Nat → List (Nat × Nat)} {S0 : sS} {nr nc nn : Nat → Nat} {nf : Nat → Nat → Nat} (hL : fewN nd 1024) (hlen : ∀ v, (rd v).length < 2 ^ 30) {r3 c3 k k9 x av : Nat} {g : Nat → Nat} (hv : nd x = some av) (hR : ∀ v c, (c, v) ∈ sr x → hp_set (nf 1) (nn 1) v ∧ ¬ hp_set g k v)
    (kk : ∀ (S : sS) (r4 c4 n4 : Nat) (v4 : Nat → Nat) (H : Heap) (locs : List Loc) (ls : Array Slot) (o : Option Value), SW D dA A s.heap S H locs → lc ls 4 [some (va_rf (some h0)), some (.int (nI k9)), some (va_rf (some av)), o] → WiI S0 S h0 tb pa q na nd rd sr nr nc nn nf r3 c3 k g r4 c4 n4 v4 x (sr x).length → W p l e (rmk 5 128 4096) s m args below meth c H locs (c3 / 16 + c4 / 16) (2 * c3 + 2 * c4) Q (F0 m 74 ls [])) :
    ∀ (d j : Nat) (S : sS) (r4 c4 n4 : Nat) (v4 : Nat → Nat) (H : Heap) (locs : List Loc) (ls : Array Slot), j + d = (sr x).length → SW D dA A s.heap S H locs → lc ls 4 [some (va_rf (some h0)), some (.int (nI k9)), some (va_rf (some av)), some (va_rf (((sr x).map Prod.fst)[j]?))] → WiI S0 S h0 tb pa q na nd rd sr nr nc nn nf r3 c3 k g r4 c4 n4 v4 x j → W p l e (rmk 5 128 4096) s m args below meth c H locs (c3 / 16 + c4 / 16) (2 * c3 + 2 * c4) Q (F0 m 54 ls []) := by
  intro d
  induction d with
  | zero =>
    intro j S r4 c4 n4 v4 H locs ls hj hM hl hI
    have e : ((sr x).map Prod.fst)[j]? = none := List.getElem?_eq_none (by rw [List.length_map]; omega)
    rw [e] at hl
    refine q_al_n (i := 3) hx hb d_H_workOutReady_54 rfl hl rfl ?_
    refine q_ifnull (tgt := 74) hx hb d_H_workOutReady_55 (by decide) (fun c1 => ?_) (fun y c1 => ?_)
    · have ej : j = (sr x).length := by omega
      rw [ej] at hI
      exact kk S r4 c4 n4 v4 H locs ls _ hM hl hI
    · cases c1
  | succ d ih =>
    intro j S r4 c4 n4 v4 H locs ls hj hM hl hI
    obtain ⟨kd, rf, it, lg⟩ := S
    obtain ⟨hW, hc3, i1, i2, i3, i4⟩ := hI
    have hZ := hW.1
    have hc9 := hW.2.2.2.2
    obtain ⟨⟨kh, e0, e1, e2, e3, e4⟩, ⟨kq, eq⟩, hG, hN, hna, hnr⟩ := id hZ
    dsimp only at kh e0 e1 e2 e3 e4 kq eq
    have hn4 : n4 ≤ 1024 := few_le hL hW.2.2.1 hW.2.2.2.1
    have hle4 : n4 ≤ c4 := (Wz_lf hW).2.2.2.2.2.2.1
    have hjl : j < ((sr x).map Prod.fst).length := by rw [List.length_map]; omega
    obtain ⟨lk, elk⟩ : ∃ lk, ((sr x).map Prod.fst)[j]? = some lk := ⟨_, List.getElem?_eq_getElem hjl⟩
    obtain ⟨v, ex⟩ := ml_at elk
    have hmem := hG.2.2.2.2 x lk v (List.mem_of_getElem? ex)
    obtain ⟨klk, ⟨b, hb9, r0⟩, -, -⟩ := hG.2.2.2.1 v lk x hmem
    dsimp only at klk r0
    have r5 : rf lk 5 = ((sr x).map Prod.fst)[j + 1]? := ((hG.2.1 x av hv).2.2.1.2 j lk elk).1
    obtain ⟨hFv, hgv⟩ := hR v lk (List.mem_of_getElem? ex)
    have hrem : Rem (sr x) j v := ⟨j, lk, Nat.le_refl _, ex⟩
    have huniq : ∀ i c, (sr x)[i]? = some (c, v) → i = j := by
      intro i c hi
      have hm2 := hG.2.2.2.2 x c v (List.mem_of_getElem? hi)
      have hnd2 := (hG.2.2.1 v).2.2.1
      obtain ⟨i1, hi1⟩ := List.getElem?_of_mem hmem
      obtain ⟨i2, hi2⟩ := List.getElem?_of_mem hm2
      have e1 : ((rd v).map Prod.snd)[i1]? = some x := by rw [List.getElem?_map, hi1]; rfl
      have e2 : ((rd v).map Prod.snd)[i2]? = some x := by rw [List.getElem?_map, hi2]; rfl
      have e3 := nd_ij hnd2 e1 e2
      rw [e3, hi2] at hi1
      have e4 : c = lk := congrArg Prod.fst (Option.some.inj hi1)
      have e5 : ((sr x).map Prod.fst)[i]? = some lk := by rw [List.getElem?_map, hi, ← e4]; rfl
      exact nd_ij (hG.2.2.1 x).2.1 e5 elk
    have hremS : ∀ y, Rem (sr x) (j + 1) y ↔ Rem (sr x) j y ∧ y ≠ v := by
      intro y
      constructor
      · rintro ⟨i, c, h1, h2⟩
        exact ⟨⟨i, c, by omega, h2⟩, fun z => by rw [z] at h2; have := huniq i c h2; omega⟩
      · rintro ⟨⟨i, c, h1, h2⟩, h3⟩
        refine ⟨i, c, ?_, h2⟩
        by_cases z : i = j
        · rw [z, ex] at h2; exact absurd (congrArg Prod.snd (Option.some.inj h2)).symm h3
        · omega
    have ht := (i1 v hFv).1 hrem
    have hro : n4 + 1 ≤ 1024 := inj_room hL hW.2.2.1 hW.2.2.2.1 (x := v) (by rw [hb9]; exact fun z => by cases z) (fun z => ((i2 v).mp z).2.2.2 hrem)
    have hcl := Nat.lt_of_le_of_lt (cnt_le (wpk (wp S0 nd) g k) (rd v)) (hlen v)
    rw [elk] at hl
    refine q_al_n (i := 3) hx hb d_H_workOutReady_54 rfl hl rfl ?_
    refine q_ifnull (tgt := 74) hx hb d_H_workOutReady_55 (by decide) (fun c1 => ?_) (fun y c1 => ?_)
    · cases c1
    · refine q_al_n (i := 0) hx hb d_H_workOutReady_58 rfl hl rfl ?_
      refine q_al_n (i := 3) hx hb d_H_workOutReady_59 rfl hl rfl ?_
      refine s_getr (C := R_K) (T := F_K) (N := 6) (ci := 4) hx hb hg in_K hown hK hM klk rfl 0 (by decide) rfl (hg _ kw_378) (fun _ h9 => h9) d_H_workOutReady_60 ?_
      rw [r0]
      refine s_callv (r_V 1 [.ref b] rfl hx hb hml hown hg (m_H_releaseOnce l D dA _ _ h0 tb pa q na nd rd sr (va_up nr 2 r3) (va_up nc 2 c3) (va_up nn 2 k) (va_up nf 2 g) r4 c4 n4 v4 v b (cnt (wpk (wp S0 nd) g k) (rd v)) hW hL hb9 ht (by omega) (fun _ z => ((i2 v).mp z).2.2.2 hrem)) (hM.pre hK hX) (hM.recv hK kh (q := cls.getD 0 (R_H, F_H, 7)) rfl) kw_235 kw_237 ks_8 kw_1 kw_238 (by decide +kernel) ⟨Nat.le_of_ble_eq_true rfl, Nat.le_of_ble_eq_true rfl⟩ rfl rfl hl.sz (by first | exact Nat.le_of_ble_eq_true rfl | simp [rf_cat] | simp [rf_cat, Value.category]) d_H_workOutReady_63 ⟨by show _ ≤ 128; split <;> omega, by show _ ≤ 4096; split <;> omega⟩ rfl) hM (fun u H locs hp hM => ?_)
      obtain ⟨r4', c4', n4', v4', hW2, hs2, hf2, hg2, hb1, hb2⟩ := hp
      refine W.widen (k := c3 / 16 + c4' / 16) (n := 2 * c3 + 2 * c4') (by omega) (by omega) ?_
      have klk2 : u.1 lk = some (.inl 4) := (hW2.1.2.2.1.2.2.2.1 v lk x hmem).1
      have r52 : u.2.1 lk 5 = ((sr x).map Prod.fst)[j + 1]? := ((hW2.1.2.2.1.2.1 x av hv).2.2.1.2 j lk elk).1
      obtain ⟨kd2, rf2, it2, lg2⟩ := u
      dsimp only at klk2 r52
      refine q_al_n (i := 3) hx hb d_H_workOutReady_66 rfl hl rfl ?_
      refine s_getr (C := R_K) (T := F_K) (N := 6) (ci := 4) hx hb hg in_K hown hK hM klk2 rfl 5 (by decide) rfl (hg _ kw_386) (fun _ h9 => h9) d_H_workOutReady_67 ?_
      rw [r52]
      refine q_astore_n (i := 3) hx hb (_) d_H_workOutReady_70 rfl hl (by decide) (fun ls hl => ?_)
      simp only [List.set_cons_succ, List.set_cons_zero] at hl
      refine lv_goto (tgt := 54) hx hb d_H_workOutReady_71 (by decide) ?_
      refine ih (j + 1) _ r4' c4' n4' v4' H locs ls (by omega) hM hl ⟨hW2, hc3, fun y hy => ⟨fun z => ?_, fun z => ?_⟩, fun y => ?_, fun i y hi => ?_, fun i => (hg2 i).trans (i4 i)⟩
      · obtain ⟨z1, z2⟩ := (hremS y).mp z
        rw [hf2, if_neg (fun y9 => z2 y9.1)]
        exact (i1 y hy).1 z1
      · rw [hf2]
        by_cases e : y = v
        · rw [if_pos ⟨e, rfl⟩, e]
        · rw [if_neg (fun y9 => e y9.1)]
          exact (i1 y hy).2 (fun z1 => z ((hremS y).mpr ⟨z1, e⟩))
      · rw [hs2, i2, hremS]
        constructor
        · rintro (⟨a1, a2, a3, a4⟩ | ⟨a1, a2⟩)
          · exact ⟨a1, a2, a3, fun z => a4 z.1⟩
          · rw [a1]; exact ⟨hFv, hgv, a2, fun z => z.2 rfl⟩
        · rintro ⟨a1, a2, a3, a4⟩
          by_cases e : y = v
          · rw [e] at a3; exact Or.inr ⟨e, a3⟩
          · exact Or.inl ⟨a1, a2, a3, fun z => a4 ⟨z, e⟩⟩
      · rw [hf2, if_neg (fun y9 => hi y9.2)]; exact i3 i y hi
set_option maxHeartbeats 4000000 in
set_option maxRecDepth 100000 in
theorem wo_out {p : Program} {l : Launch} {e : Env} {s : State} {m : MethodId} {args : Array Value} {below : List Frame} {meth : Method} {c : Code} {D : va_G} {dA : Nat → ClassId} {A : Nat → Prop} {Q : State → Prop} (hx : p.tables.exec = Jvm.exec) (hb : c.code = c_H_workOutReady) (hml : c.maxLocals = 4) (hown : s.vm.findClass R_H = some m.cls) (hg : ∀ w ∈ gd, w.before args s = true) (hK : va_K D cls (tys dA) s) (hX : sKx s) {h0 tb pa q : Nat} {na : Nat → Nat} {nd : Nat → Option Nat} {rd sr : Nat → List (Nat × Nat)} {S0 : sS} {nr nc nn : Nat → Nat} {nf : Nat → Nat → Nat} (hL : fewN nd 1024) (hlen : ∀ v, (rd v).length < 2 ^ 30) (hinj : hp_inj (nf 1) (nn 1)) (hnd : ∀ i, i < nn 1 → nd (nf 1 i) ≠ none) (hup : ∀ v u, rE rd v u → hp_set (nf 1) (nn 1) u → hp_set (nf 1) (nn 1) v) (hwp : ∀ v, hp_set (nf 1) (nn 1) v → wp S0 nd v = true)
    (kk : ∀ (S : sS) (r3 c3 k : Nat) (g : Nat → Nat) (r4 c4 : Nat) (v4 : Nat → Nat) (H : Heap) (locs : List Loc) (ls : Array Slot), SW D dA A s.heap S H locs → WoI S0 S h0 tb pa q na nd rd sr nr nc nn nf r3 c3 k g r4 c4 0 v4 → W p l e (rmk 5 128 4096) s m args below meth c H locs (c3 / 16 + c4 / 16) (2 * c3 + 2 * c4) Q (F0 m 80 ls [])) :
    ∀ (d k : Nat) (S : sS) (r3 c3 : Nat) (g : Nat → Nat) (r4 c4 n4 : Nat) (v4 : Nat → Nat) (H : Heap) (locs : List Loc) (ls : Array Slot) (o2 o3 : Option Value), k + d = nn 1 + 1 → SW D dA A s.heap S H locs → lc ls 4 [some (va_rf (some h0)), some (.int (nI k)), o2, o3] → WoI S0 S h0 tb pa q na nd rd sr nr nc nn nf r3 c3 k g r4 c4 n4 v4 → W p l e (rmk 5 128 4096) s m args below meth c H locs (c3 / 16 + c4 / 16) (2 * c3 + 2 * c4) Q (F0 m 2 ls []) := by
  have hB : nn 1 ≤ 1024 := few_le hL hinj hnd
  intro d
  induction d with
  | zero =>
    intro k S r3 c3 g r4 c4 n4 v4 H locs ls o2 o3 hk hM hl hI
    have := inj_le hI.2.2.1 (fun i hi => (hI.2.2.2.1 i hi).1.1)
    omega
  | succ d ih =>
    intro k S r3 c3 g r4 c4 n4 v4 H locs ls o2 o3 hk hM hl hI
    have hI' := hI
    obtain ⟨kd, rf, it, lg⟩ := S
    obtain ⟨hW, hc3, hgi, i0, i1, i2, i3, i4⟩ := hI'
    have hkn := inj_le hgi (fun i hi => (i0 i hi).1.1)
    have hZ := hW.1
    have hc9 := hW.2.2.2.2
    obtain ⟨⟨kh, e0, e1, e2, e3, e4⟩, ⟨kq, eq⟩, hG, hN, hna, hnr⟩ := id hZ
    dsimp only at kh e0 e1 e2 e3 e4 kq eq
    have hn4 : n4 ≤ 1024 := few_le hL hW.2.2.1 hW.2.2.2.1
    have hle4 : n4 ≤ c4 := (Wz_lf hW).2.2.2.2.2.2.1
    have hN1 := hN 1 (by decide)
    simp only [va_up_ne _ _ (show (1 : Nat) ≠ 3 by decide), va_up_ne _ _ (show (1 : Nat) ≠ 2 by decide)] at hN1
    have hn1 := hN1.2.2.2.1
    have k1 := hN1.1
    dsimp only at hn1 k1
    refine q_iload_n (i := 1) hx hb d_H_workOutReady_2 rfl hl rfl ?_
    refine q_al_n (i := 0) hx hb d_H_workOutReady_3 rfl hl rfl ?_
    refine s_getr (C := R_H) (T := F_H) (N := 7) (ci := 0) hx hb hg in_H hown hK hM kh rfl 2 (by decide) rfl (hg _ kw_67) (fun _ h9 => h9) d_H_workOutReady_4 ?_
    rw [e2]
    refine s_geti (C := R_U) (T := F_U) (N := 2) (ci := 5) hx hb hg in_U hown hK hM k1 rfl 1 (by decide) rfl (hg _ kw_46) (fun _ h9 => h9) d_H_workOutReady_7 ?_
    rw [hn1]
    refine n_ge (tgt := 80) hx hb d_H_workOutReady_10 (by decide) (by omega) (by omega) (fun c1 => ?_) (fun c1 => ?_)
    · have hz : n4 = 0 := by
        refine Classical.byContradiction fun z => ?_
        obtain ⟨a1, a2, -⟩ := (i2 (v4 0)).mp ⟨0, by omega, rfl⟩
        have q1 := hp_inj_push (f := g) (g := fun i => if i = k then v4 0 else g i) (n := k) (v := v4 0) hgi (fun i hi => if_neg (by omega)) (if_pos rfl) a2
        have q2 := inj_le q1 (f := nf 1) (n := nn 1) (fun i hi => ?_)
        · omega
        · by_cases e : i = k
          · rw [if_pos e]; exact a1
          · rw [if_neg e]; exact (i0 i (by omega)).1.1
      subst hz
      exact kk _ r3 c3 k g r4 c4 v4 H locs ls hM hI
    · refine q_al_n (i := 0) hx hb d_H_workOutReady_13 rfl hl rfl ?_
      refine s_getr (C := R_H) (T := F_H) (N := 7) (ci := 0) hx hb hg in_H hown hK hM kh rfl 4 (by decide) rfl (hg _ kw_69) (fun _ h9 => h9) d_H_workOutReady_14 ?_
      rw [e4]
      refine s_calli (r_V 0 [] rfl hx hb hml hown hg (m_F_isEmpty l D dA _ _ q (na 3) r4 c4 n4 v4 (Wz_lf hW)) (hM.pre hK hX) (hM.recv hK kq (q := cls.getD 6 (R_H, F_H, 7)) rfl) kw_214 kw_215 kw_216 kw_4 kw_217 (by decide +kernel) ⟨Nat.le_of_ble_eq_true rfl, Nat.le_of_ble_eq_true rfl⟩ rfl rfl hl.sz (by first | exact Nat.le_of_ble_eq_true rfl | simp [rf_cat] | simp [rf_cat, Value.category]) d_H_workOutReady_17 ⟨by show _ ≤ 128; omega, by show _ ≤ 4096; omega⟩ rfl) hM (fun r1 u H locs hp hM => ?_)
      obtain ⟨rfl, hp⟩ := hp
      refine lv_if_ne (tgt := 80) hx hb d_H_workOutReady_20 (by decide) (fun c2 => ?_) (fun c2 => ?_)
      · have hz : n4 = 0 := by
          rcases hp with ⟨-, z⟩ | ⟨z, -⟩
          · exact z
          · exact absurd z c2
        subst hz
        exact kk _ r3 c3 k g r4 c4 v4 H locs ls hM hI
      · have h04 : 0 < n4 := by
          rcases hp with ⟨z, -⟩ | ⟨-, z⟩
          · rw [z] at c2; cases c2
          · exact z
        refine q_al_n (i := 0) hx hb d_H_workOutReady_23 rfl hl rfl ?_
        refine s_getr (C := R_H) (T := F_H) (N := 7) (ci := 0) hx hb hg in_H hown hK hM kh rfl 0 (by decide) rfl (hg _ kw_65) (fun _ h9 => h9) d_H_workOutReady_24 ?_
        rw [e0]
        refine q_al_n (i := 0) hx hb d_H_workOutReady_27 rfl hl rfl ?_
        refine s_getr (C := R_H) (T := F_H) (N := 7) (ci := 0) hx hb hg in_H hown hK hM kh rfl 4 (by decide) rfl (hg _ kw_69) (fun _ h9 => h9) d_H_workOutReady_28 ?_
        rw [e4]
        refine s_calli (r_V 0 [] rfl hx hb hml hown hg (m_F_take l D dA _ _ q (na 3) r4 c4 n4 v4 (Wz_lf hW) h04 hW.2.1 hW.2.2.1 (Wz_lt hW)) (hM.pre hK hX) (hM.recv hK kq (q := cls.getD 6 (R_H, F_H, 7)) rfl) kw_218 kw_219 kw_220 kw_4 kw_221 (by decide +kernel) ⟨Nat.le_of_ble_eq_true rfl, Nat.le_of_ble_eq_true rfl⟩ rfl rfl hl.sz (by first | exact Nat.le_of_ble_eq_true rfl | simp [rf_cat] | simp [rf_cat, Value.category]) d_H_workOutReady_31 ⟨by show _ ≤ 128; omega, by show _ ≤ 4096; omega⟩ rfl) hM (fun r1 u H locs hp hM => ?_)
        obtain ⟨er, v4', hW1, hs1, f1, g1⟩ := Wz_take hW hp
        subst er
        have hxin : hp_set v4 n4 (v4 0) := ⟨0, h04, rfl⟩
        obtain ⟨hxF, hxg, hxc⟩ := (i2 (v4 0)).mp hxin
        have hleast := hp_least hW.2.1
        generalize v4 0 = x at hxF hxg hxc hs1 hleast
        obtain ⟨i9, hi9, ei9⟩ := id hxF
        obtain ⟨a, ha⟩ : ∃ a, nd x = some a := Option.ne_none_iff_exists'.mp (by rw [← ei9]; exact hnd i9 hi9)
        have hZ1 := hW1.1
        clear hp
        obtain ⟨kd1, rf1, it1, lg1⟩ := u
        obtain ⟨⟨kh1, e01, e11, e21, e31, e41⟩, ⟨kq1, eq1⟩, hG1, hN1, hna1, hnr1⟩ := id hZ1
        dsimp only at kh1 e01 e11 e21 e31 e41 kq1 eq1
        obtain ⟨hv9, ka, hva⟩ := hG1.nk ha
        dsimp only at ka hva
        refine s_callq (r_V 1 [.int (nI x)] rfl hx hb hml hown hg (m_T_of l D dA _ _ tb pa nd x a hG1.1 hv9 ha) (hM.pre hK hX) (hM.recv hK hG1.1.1 (q := cls.getD 1 (R_H, F_H, 7)) rfl) kw_107 kw_108 kw_109 kw_2 kw_110 (by decide +kernel) ⟨Nat.le_of_ble_eq_true rfl, Nat.le_of_ble_eq_true rfl⟩ rfl rfl hl.sz (by first | exact Nat.le_of_ble_eq_true rfl | simp [rf_cat] | simp [rf_cat, Value.category]) d_H_workOutReady_34 ⟨by show _ ≤ 128; omega, by show _ ≤ 4096; omega⟩ rfl) hM (fun r1 u H locs hp hM => ?_)
        obtain ⟨rfl, rfl⟩ := hp
        refine q_astore_n (i := 2) hx hb (_) d_H_workOutReady_37 rfl hl (by decide) (fun ls hl => ?_)
        simp only [List.set_cons_succ, List.set_cons_zero] at hl
        refine q_al_n (i := 0) hx hb d_H_workOutReady_38 rfl hl rfl ?_
        refine s_getr (C := R_H) (T := F_H) (N := 7) (ci := 0) hx hb hg in_H hown hK hM kh1 rfl 3 (by decide) rfl (hg _ kw_68) (fun _ h9 => h9) d_H_workOutReady_39 ?_
        rw [e31]
        refine q_al_n (i := 2) hx hb d_H_workOutReady_42 rfl hl rfl ?_
        refine s_geti (C := R_N) (T := F_N) (N := 9) (ci := 3) hx hb hg in_N hown hK hM ka rfl 0 (by decide) rfl (hg _ kw_133) (fun _ h9 => h9) d_H_workOutReady_43 ?_
        rw [hva]
        have hN2 := hN1 2 (by decide)
        simp only [va_up_ne _ _ (show (2 : Nat) ≠ 3 by decide), va_up_self] at hN2
        have hle3 : k ≤ c3 := hN2.2.2.2.2.1
        have h163 : 16 ≤ c3 := hN2.2.2.2.2.2.1
        refine s_callv (r_V 1 [.int (nI x)] rfl hx hb hml hown hg (m_U_add l D dA _ _ (na 2) r3 c3 k g x hN2 (by omega)) (hM.pre hK hX) (hM.recv hK hN2.1 (q := cls.getD 5 (R_H, F_H, 7)) rfl) kw_169 kw_170 kw_171 kw_3 kw_172 (by decide +kernel) ⟨Nat.le_of_ble_eq_true rfl, Nat.le_of_ble_eq_true rfl⟩ rfl rfl hl.sz (by first | exact Nat.le_of_ble_eq_true rfl | simp [rf_cat] | simp [rf_cat, Value.category]) d_H_workOutReady_46 ⟨by show _ ≤ 128; split <;> omega, by show _ ≤ 4096; split <;> omega⟩ rfl) hM (fun u H locs hp hM => ?_)
        have hA2 : AddP (kd1, rf1, it1, lg1) (na 2) (va_up (va_up nr 2 r3) 3 r4 2) (va_up (va_up nc 2 c3) 3 c4 2) (va_up (va_up nn 2 k) 3 (n4 - 1) 2) (va_up (va_up nf 2 g) 3 v4' 2) x u := by simp only [va_up_ne _ _ (show (2 : Nat) ≠ 3 by decide), va_up_self]; exact hp
        obtain ⟨r3', hZ2, f2, g2⟩ := Mz_add hZ1 (i := 2) (by decide) hA2
        simp only [va_up_ne _ _ (show (2 : Nat) ≠ 3 by decide), va_up_self, vu_comm, bx_uu] at hZ2
        clear hp hA2
        have hset : ∀ y, hp_set (fun i => if i = k then x else g i) (k + 1) y ↔ hp_set g k y ∨ y = x := hp_set_push (fun i hi => if_neg (by omega)) (if_pos rfl)
        have hg'i : hp_inj (fun i => if i = k then x else g i) (k + 1) := hp_inj_push hgi (fun i hi => if_neg (by omega)) (if_pos rfl) hxg
        have hwx : wpk (wp S0 nd) g k x = true := wpk_iff.mpr ⟨hwp x hxF, hxg⟩
        have hself : ¬ rE rd x x := fun ⟨c, hc⟩ => (cnt_zero.mp hxc) c x hc hwx
        have hdrop : ∀ v, ((∃ c, (c, x) ∈ rd v) → cnt (wpk (wp S0 nd) g k) (rd v) = cnt (wpk (wp S0 nd) (fun i => if i = k then x else g i) (k + 1)) (rd v) + 1) ∧ ((¬ ∃ c, (c, x) ∈ rd v) → cnt (wpk (wp S0 nd) g k) (rd v) = cnt (wpk (wp S0 nd) (fun i => if i = k then x else g i) (k + 1)) (rd v)) := by
          intro v
          refine cnt_drop (fun y => ?_) hwx (rd v) (hG.2.2.1 v).2.2.1
          rw [wpk_iff, wpk_iff, hset]
          constructor
          · rintro ⟨b1, b2⟩; exact ⟨⟨b1, fun z => b2 (Or.inl z)⟩, fun z => b2 (Or.inr z)⟩
          · rintro ⟨⟨b1, b2⟩, b3⟩; exact ⟨b1, fun z => z.elim b2 b3⟩
        have hremE : ∀ v, Rem (sr x) 0 v ↔ ∃ c, (c, x) ∈ rd v := by
          intro v
          constructor
          · rintro ⟨i, c, -, hi⟩; exact ⟨c, hG.2.2.2.2 x c v (List.mem_of_getElem? hi)⟩
          · rintro ⟨c, hc⟩
            obtain ⟨i, hi⟩ := List.getElem?_of_mem (hG.2.2.2.1 v c x hc).2.2.2
            exact ⟨i, c, Nat.zero_le _, hi⟩
        have hrd : rdy (rE rd) (hp_set (nf 1) (nn 1)) (fun u => wp S0 nd u = true) (hp_set g k) x := ⟨hxF, hxg, fun y ⟨c, hc⟩ hy => Classical.byContradiction fun z => (cnt_zero.mp hxc) c y hc (wpk_iff.mpr ⟨hy, z⟩)⟩
        have hmin : ∀ y, rdy (rE rd) (hp_set (nf 1) (nn 1)) (fun u => wp S0 nd u = true) (hp_set g k) y → x ≤ y := by
          rintro y ⟨b1, b2, b3⟩
          obtain ⟨i, hi, e⟩ := (i2 y).mpr ⟨b1, b2, cnt_zero.mpr (fun c z hc hz => (wpk_iff.mp hz).2 (b3 z ⟨c, hc⟩ (wpk_iff.mp hz).1))⟩
          rw [← e]; exact hleast i hi
        have hR : ∀ v c, (c, v) ∈ sr x → hp_set (nf 1) (nn 1) v ∧ ¬ hp_set (fun i => if i = k then x else g i) (k + 1) v := by
          intro v c hc
          have hvx : rE rd v x := ⟨c, hG.2.2.2.2 x c v hc⟩
          refine ⟨hup v x hvx hxF, fun z => ?_⟩
          rcases (hset v).mp z with ⟨i, hi, e⟩ | e
          · have := (i0 i hi).1.2.2 x (by rw [e]; exact hvx) (hwp x hxF)
            obtain ⟨i', hi', e'⟩ := this
            exact hxg ⟨i', by omega, e'⟩
          · rw [e] at hvx; exact hself hvx
        have ka2 := (hZ2.2.2.1.nk ha).2.1
        have hfr : u.2.1 a 2 = ((sr x).map Prod.fst)[0]? := (hZ2.2.2.1.2.1 x a ha).2.2.1.1
        have hn1' : n4 - 1 ≤ 1024 := by omega
        have hgen : ∃ c3', c3' = (if k < c3 then c3 else 2 * k) := ⟨_, rfl⟩
        obtain ⟨c3', hc3'⟩ := hgen
        rw [← hc3'] at hZ2
        have hb3 : pw (c3') := by rw [hc3']; split <;> omega
        have hb31 : c3 / 16 + (if k < c3 then 0 else 1) ≤ c3' / 16 := by
          rw [hc3']
          by_cases z : k < c3
          · rw [if_pos z, if_pos z]; omega
          · rw [if_neg z, if_neg z]; omega
        have hb32 : 2 * c3 + (if k < c3 then 0 else 2 * k) ≤ 2 * c3' := by
          rw [hc3']
          by_cases z : k < c3
          · rw [if_pos z, if_pos z]; omega
          · rw [if_neg z, if_neg z]; omega
        refine W.widen (k := c3' / 16 + c4 / 16) (n := 2 * c3' + 2 * c4) (by omega) (by omega) ?_
        obtain ⟨kd2, rf2, it2, lg2⟩ := u
        dsimp only at ka2 hfr
        refine q_al_n (i := 2) hx hb d_H_workOutReady_49 rfl hl rfl ?_
        refine s_getr (C := R_N) (T := F_N) (N := 9) (ci := 3) hx hb hg in_N hown hK hM ka2 rfl 2 (by decide) rfl (hg _ kw_137) (fun _ h9 => h9) d_H_workOutReady_50 ?_
        rw [hfr]
        refine q_astore_n (i := 3) hx hb (_) d_H_workOutReady_53 rfl hl (by decide) (fun ls hl => ?_)
        simp only [List.set_cons_succ, List.set_cons_zero] at hl
        refine wo_in hx hb hml hown hg hK hX (S0 := S0) (nr := nr) (nc := nc) (nn := nn) (nf := nf) (x := x) (k := k + 1) hL hlen ha hR ?_ (sr x).length 0 _ r4 c4 (n4 - 1) v4' H locs ls (by omega) hM hl ⟨⟨hZ2, hW1.2⟩, hb3, fun v hv => ?_, fun y => ?_, fun j v hj => ?_, fun j => ?_⟩
        · intro S3 r4' c4' n4' v4'' H locs ls o hM hl hI3
          obtain ⟨hW3, -, j1, j2, j3, j4⟩ := hI3
          have hno : ∀ v, ¬ Rem (sr x) (sr x).length v := fun v ⟨i, c, h1, h2⟩ => by have := (List.getElem?_eq_some_iff.mp h2).1; omega
          refine q_iinc hx hb (nI (k + 1)) d_H_workOutReady_74 hl rfl (nI_1 k) (by decide) (fun ls hl => ?_)
          simp only [List.set_cons_succ, List.set_cons_zero] at hl
          refine lv_goto (tgt := 2) hx hb d_H_workOutReady_77 (by decide) ?_
          refine ih (k + 1) S3 _ c3' _ r4' c4' n4' v4'' H locs ls _ _ (by omega) hM hl ⟨hW3, hb3, hg'i, fun j hj => ?_, fun v hv => (j1 v hv).2 (hno v), fun y => ?_, j3, j4⟩
          · have hsj : hp_set (fun i => if i = k then x else g i) j = hp_set g j := by
              funext y
              refine propext ⟨fun ⟨i, hi, e⟩ => ⟨i, hi, ?_⟩, fun ⟨i, hi, e⟩ => ⟨i, hi, ?_⟩⟩
              · dsimp only at e; rw [if_neg (by omega)] at e; exact e
              · dsimp only; rw [if_neg (by omega)]; exact e
            rw [hsj]
            by_cases e : j = k
            · show _ ∧ _
              rw [if_pos e, e]; exact ⟨hrd, hmin⟩
            · show _ ∧ _
              rw [if_neg e]; exact i0 j (by omega)
          · rw [j2]
            exact ⟨fun ⟨b1, b2, b3, _⟩ => ⟨b1, b2, b3⟩, fun ⟨b1, b2, b3⟩ => ⟨b1, b2, b3, hno y⟩⟩
        · rw [f2, f1, i1 v hv]
          refine ⟨fun z => ?_, fun z => ?_⟩
          · rw [(hdrop v).1 ((hremE v).mp z)]
          · rw [(hdrop v).2 (fun y => z ((hremE v).mpr y))]
        · rw [hs1, i2, hset, hremE]
          constructor
          · rintro ⟨⟨b1, b2, b3⟩, b4⟩
            have hne : ¬ ∃ c, (c, x) ∈ rd y := fun ⟨c, hc⟩ => (cnt_zero.mp b3) c x hc hwx
            exact ⟨b1, fun z => z.elim b2 b4, by rw [← (hdrop y).2 hne]; exact b3, hne⟩
          · rintro ⟨b1, b2, b3, b4⟩
            exact ⟨⟨b1, fun z => b2 (Or.inl z), by rw [(hdrop y).2 b4]; exact b3⟩, fun z => b2 (Or.inr z)⟩
        · rw [f2, f1]; exact i3 j v hj
        · exact (g2 j).trans ((g1 j).trans (i4 j))
/-- what workOutReady does -/
def WoP (S : sS) (h0 tb pa q : Nat) (na : Nat → Nat) (nd : Nat → Option Nat) (rd sr : Nat → List (Nat × Nat)) (nr nc nn : Nat → Nat) (nf : Nat → Nat → Nat) (u : sS) : Prop :=
  ∃ r3 c3 k g r4 c4 v4, Mz u h0 tb pa q na nd rd sr (va_up (va_up nr 2 r3) 3 r4) (va_up (va_up nc 2 c3) 3 c4) (va_up (va_up nn 2 k) 3 0) (va_up (va_up nf 2 g) 3 v4) ∧ pw (c3) ∧ pw (c4) ∧ hp_inj g k ∧ (∀ j, j < k → rdy (rE rd) (hp_set (nf 1) (nn 1)) (fun u => wp S nd u = true) (hp_set g j) (g j) ∧ ∀ y, rdy (rE rd) (hp_set (nf 1) (nn 1)) (fun u => wp S nd u = true) (hp_set g j) y → g j ≤ y) ∧ (∀ y, ¬ rdy (rE rd) (hp_set (nf 1) (nn 1)) (fun u => wp S nd u = true) (hp_set g k) y) ∧ (∀ v, hp_set (nf 1) (nn 1) v → (fl u nd 8 v = nI (cnt (wpk (wp S nd) g k) (rd v)))) ∧ (∀ j v, j ≠ 8 → fl u nd j v = fl S nd j v) ∧ ∀ j, u.2.2.1 h0 j = S.2.2.1 h0 j
set_option maxHeartbeats 4000000 in
set_option maxRecDepth 100000 in
theorem m_H_workOutReady (l : Launch) (D : va_G) (dA : Nat → ClassId) (S : sS) (sz : Nat) (h0 tb pa q : Nat) (na : Nat → Nat) (nd : Nat → Option Nat) (rd sr : Nat → List (Nat × Nat)) (nr nc nn : Nat → Nat) (nf : Nat → Nat → Nat) (r4 c4 n4 : Nat) (v4 : Nat → Nat) (hW : Wz S h0 tb pa q na nd rd sr nr nc nn nf r4 c4 n4 v4) (hL : fewN nd 1024) (hlen : ∀ v, (rd v).length < 2 ^ 30) (hinj : hp_inj (nf 1) (nn 1)) (hnd : ∀ i, i < nn 1 → nd (nf 1 i) ≠ none) (hup : ∀ v u, rE rd v u → hp_set (nf 1) (nn 1) u → hp_set (nf 1) (nn 1) v) (hwp : ∀ v, hp_set (nf 1) (nn 1) v → wp S nd v = true) (h2 : nn 2 = 0) (hc : pw (nc 2)) (h8 : ∀ v, hp_set (nf 1) (nn 1) v → fl S nd 8 v = nI (cnt (wp S nd) (rd v))) (h4 : ∀ y, hp_set v4 n4 y ↔ hp_set (nf 1) (nn 1) y ∧ cnt (wp S nd) (rd y) = 0) :
    cV l y_H_workOutReady c_H_workOutReady 4 (rmk 5 128 4096) D dA S sz [.ref h0] (WoP S h0 tb pa q na nd rd sr nr nc nn nf) (128) (4096) := by
  refine s_met (cc := c_H_workOutReady) (maxL := 4) (by decide) rfl (by simp [Value.category]) (by simp [lg_sl, Value.category]) ?_
  intro p e s m args below meth c ls hx hb hr hts hown hlocks hin hml hK hX hsz hM hl
  have hg := gd_hts hts
  have hl : lc ls 4 [some (va_rf (some h0)), none, none, none] := hl
  refine lv_iconst (v := nI 0) hx hb d_H_workOutReady_0 (by decide) ?_
  refine q_istore_n (i := 1) hx hb d_H_workOutReady_1 rfl hl (by decide) (fun ls hl => ?_)
  simp only [List.set_cons_succ, List.set_cons_zero] at hl
  refine W.widen (k := nc 2 / 16 + c4 / 16) (n := 2 * nc 2 + 2 * c4) (Nat.zero_le _) (Nat.zero_le _) ?_
  have ewk : wpk (wp S nd) (nf 2) 0 = wp S nd := by funext u9; simp [wpk]
  have hn0 : ∀ y, ¬ hp_set (nf 2) 0 y := fun y ⟨i, hi, _⟩ => absurd hi (Nat.not_lt_zero i)
  have hW0 : Wz S h0 tb pa q na nd rd sr (va_up nr 2 (nr 2)) (va_up nc 2 (nc 2)) (va_up nn 2 0) (va_up nf 2 (nf 2)) r4 c4 n4 v4 := by
    rw [va_up_same (f := nr) (k := 2) rfl, va_up_same (f := nc) (k := 2) rfl, va_up_same (f := nf) (k := 2) rfl, va_up_same h2]
    exact hW
  refine wo_out hx hb hml hown hg hK hX (S0 := S) (nr := nr) (nc := nc) (nn := nn) (nf := nf) hL hlen hinj hnd hup hwp ?_ (nn 1 + 1) 0 S (nr 2) (nc 2) (nf 2) r4 c4 n4 v4 s.heap [] ls _ _ (by omega) hM hl ⟨hW0, hc, fun i j hi => absurd hi (Nat.not_lt_zero i), fun j hj => absurd hj (Nat.not_lt_zero j), by rw [ewk]; exact h8, fun y => ?_, fun j v _ => rfl, fun j => rfl⟩
  · intro S1 r3 c3 k g r4 c4 v4 H locs ls hM hI
    obtain ⟨hW1, hc3, hgi, i0, i1, i2, i3, i4⟩ := hI
    have hc9 := hW1.2.2.2.2
    refine W.widen (k := 128) (n := 4096) (by omega) (by omega) ?_
    refine s_vret hx hb hr hM ⟨r3, c3, k, g, r4, c4, v4, hW1.1, hc3, hc9, hgi, i0, fun y hy => ?_, i1, i3, i4⟩ d_H_workOutReady_80 hlocks
    obtain ⟨b1, b2, b3⟩ := hy
    obtain ⟨i, hi, -⟩ := (i2 y).mpr ⟨b1, b2, cnt_zero.mpr (fun c z hc hz => (wpk_iff.mp hz).2 (b3 z ⟨c, hc⟩ (wpk_iff.mp hz).1))⟩
    exact absurd hi (Nat.not_lt_zero i)
  · rw [ewk, h4]
    exact ⟨fun ⟨b1, b2⟩ => ⟨b1, hn0 y, b2⟩, fun ⟨b1, _, b2⟩ => ⟨b1, b2⟩⟩
end
section
theorem nI_sub {a b : Nat} (h : b ≤ a) : nI a - nI b = nI (a - b) := by
  have e : nI (a - b) + nI b = nI a := by rw [nI_add, Nat.sub_add_cancel h]
  rw [← e, Int32.add_sub_cancel]
/-- a number of the object's own, changed -/
theorem Mz_own {S : sS} {h0 tb pa q : Nat} {na : Nat → Nat} {nd : Nat → Option Nat} {rd sr : Nat → List (Nat × Nat)} {nr nc nn : Nat → Nat} {nf : Nat → Nat → Nat} (h : Mz S h0 tb pa q na nd rd sr nr nc nn nf) (i : Nat) (x : Int32) : Mz (S.1, S.2.1, up2 S.2.2.1 h0 i x, S.2.2.2) h0 tb pa q na nd rd sr nr nc nn nf ∧ ∀ j w, fl (S.1, S.2.1, up2 S.2.2.1 h0 i x, S.2.2.2) nd j w = fl S nd j w := by
  obtain ⟨h1, h2, h3, h4, h5⟩ := h
  refine ⟨⟨h1, h2, Gr9_dep h3 (fun b k hb hk => ⟨rfl, rfl⟩) (fun v b hv j hj => ?_), fun k hk => ?_, h5⟩, fun j w => ?_⟩
  · show up2 S.2.2.1 h0 i x b j = S.2.2.1 b j
    rw [up2_off _ _ (sk_d (h3.nk hv).2.1 h1.1 (by decide))]
  · have hN := h4 k hk
    exact Nm_fl hN (sk_d hN.1 h1.1 (by decide)) (sk_d hN.2.2.1 h1.1 (fun z => by cases z))
  · cases hw : nd w with
    | none => rw [fl_no hw, fl_no hw]
    | some b =>
      rw [fl_at hw, fl_at hw]
      show up2 S.2.2.1 h0 i x b j = _
      rw [up2_off _ _ (sk_d (h3.nk hw).2.1 h1.1 (by decide))]
/-- settleRinged's loop: the first k are settled -/
def SrI (S0 S : sS) (h0 tb pa q : Nat) (na : Nat → Nat) (nd : Nat → Option Nat) (rd sr : Nat → List (Nat × Nat)) (nr nc nn : Nat → Nat) (nf : Nat → Nat → Nat) (wt : Nat → Nat) (k : Nat) : Prop :=
  Mz S h0 tb pa q na nd rd sr nr nc nn nf ∧ (∀ v, hp_set (nf 1) k v → fl S nd 7 v = 0 ∧ fl S nd 6 v = if wt v = 0 then 0 else 1) ∧ (∀ j v, ¬ hp_set (nf 1) k v → fl S nd j v = fl S0 nd j v) ∧ (∀ j v, j ≠ 6 → j ≠ 7 → fl S nd j v = fl S0 nd j v) ∧ ∀ j, S.2.2.1 h0 j = S0.2.2.1 h0 j
set_option maxHeartbeats 4000000 in
set_option maxRecDepth 100000 in
theorem sr_loop {p : Program} {l : Launch} {e : Env} {s : State} {m : MethodId} {args : Array Value} {below : List Frame} {meth : Method} {c : Code} {D : va_G} {dA : Nat → ClassId} {A : Nat → Prop} {Q : State → Prop} (hx : p.tables.exec = Jvm.exec) (hb : c.code = c_H_settleRinged) (hml : c.maxLocals = 3) (hown : s.vm.findClass R_H = some m.cls) (hg : ∀ w ∈ gd, w.before args s = true) (hK : va_K D cls (tys dA) s) (hX : sKx s) {h0 tb pa q : Nat} {na : Nat → Nat} {nd : Nat → Option Nat} {rd sr : Nat → List (Nat × Nat)} {S0 : sS} {nr nc nn : Nat → Nat} {nf : Nat → Nat → Nat} {wt : Nat → Nat} (hB : nn 1 ≤ 1024) (hinj : hp_inj (nf 1) (nn 1)) (hnd : ∀ i, i < nn 1 → nd (nf 1 i) ≠ none) (hwt : ∀ v, hp_set (nf 1) (nn 1) v → fl S0 nd 8 v = nI (wt v) ∧ wt v < 2 ^ 31)
    (kk : ∀ (S : sS) (H : Heap) (locs : List Loc) (ls : Array Slot) (o1 o2 : Option Value), SW D dA A s.heap S H locs → lc ls 3 [some (va_rf (some h0)), o1, o2] → SrI S0 S h0 tb pa q na nd rd sr nr nc nn nf wt (nn 1) → W p l e (rmk 4 0 0) s m args below meth c H locs 0 0 Q (F0 m 56 ls [])) :
    ∀ (d k : Nat) (S : sS) (H : Heap) (locs : List Loc) (ls : Array Slot) (o : Option Value), k + d = nn 1 → SW D dA A s.heap S H locs → lc ls 3 [some (va_rf (some h0)), some (.int (nI k)), o] → SrI S0 S h0 tb pa q na nd rd sr nr nc nn nf wt k → W p l e (rmk 4 0 0) s m args below meth c H locs 0 0 Q (F0 m 2 ls []) := by
  intro d
  induction d with
  | zero =>
    intro k S H locs ls o hk hM hl hI
    have hk0 : k = nn 1 := by omega
    subst hk0
    obtain ⟨kd, rf, it, lg⟩ := S
    have hZ := hI.1
    obtain ⟨⟨kh, e0, e1, e2, e3, e4⟩, ⟨kq, eq⟩, hG, hN, hna, hnr⟩ := id hZ
    dsimp only at kh e0 e1 e2 e3 e4 kq eq
    have hN1 := hN 1 (by decide)
    have hn1 := hN1.2.2.2.1
    have k1 := hN1.1
    dsimp only at hn1 k1
    refine q_iload_n (i := 1) hx hb d_H_settleRinged_2 rfl hl rfl ?_
    refine q_al_n (i := 0) hx hb d_H_settleRinged_3 rfl hl rfl ?_
    refine s_getr (C := R_H) (T := F_H) (N := 7) (ci := 0) hx hb hg in_H hown hK hM kh rfl 2 (by decide) rfl (hg _ kw_67) (fun _ h9 => h9) d_H_settleRinged_4 ?_
    rw [e2]
    refine s_geti (C := R_U) (T := F_U) (N := 2) (ci := 5) hx hb hg in_U hown hK hM k1 rfl 1 (by decide) rfl (hg _ kw_46) (fun _ h9 => h9) d_H_settleRinged_7 ?_
    rw [hn1]
    refine n_ge (tgt := 56) hx hb d_H_settleRinged_10 (by decide) (by omega) (by omega) (fun c1 => ?_) (fun c1 => ?_)
    · exact kk _ H locs ls _ _ hM hl hI
    · omega
  | succ d ih =>
    intro k S H locs ls o hk hM hl hI
    obtain ⟨kd, rf, it, lg⟩ := S
    obtain ⟨hZ, i1, i2, i3, i4⟩ := hI
    obtain ⟨⟨kh, e0, e1, e2, e3, e4⟩, ⟨kq, eq⟩, hG, hN, hna, hnr⟩ := id hZ
    dsimp only at kh e0 e1 e2 e3 e4 kq eq
    have hkn : k < nn 1 := by omega
    have hN1 := hN 1 (by decide)
    have hn1 := hN1.2.2.2.1
    have k1 := hN1.1
    dsimp only at hn1 k1
    obtain ⟨a, ha⟩ : ∃ a, nd (nf 1 k) = some a := Option.ne_none_iff_exists'.mp (hnd k hkn)
    obtain ⟨hv9, ka, hva⟩ := hG.nk ha
    dsimp only at ka hva
    have hout : ¬ hp_set (nf 1) k (nf 1 k) := fun ⟨i, hi, e⟩ => by have := hinj i k (by omega) hkn e; omega
    obtain ⟨hw1, hw2⟩ := hwt (nf 1 k) ⟨k, hkn, rfl⟩
    have e8 : it a 8 = nI (wt (nf 1 k)) := by
      have := i3 8 (nf 1 k) (by decide) (by decide)
      rw [hw1, fl_at ha] at this
      exact this
    refine q_iload_n (i := 1) hx hb d_H_settleRinged_2 rfl hl rfl ?_
    refine q_al_n (i := 0) hx hb d_H_settleRinged_3 rfl hl rfl ?_
    refine s_getr (C := R_H) (T := F_H) (N := 7) (ci := 0) hx hb hg in_H hown hK hM kh rfl 2 (by decide) rfl (hg _ kw_67) (fun _ h9 => h9) d_H_settleRinged_4 ?_
    rw [e2]
    refine s_geti (C := R_U) (T := F_U) (N := 2) (ci := 5) hx hb hg in_U hown hK hM k1 rfl 1 (by decide) rfl (hg _ kw_46) (fun _ h9 => h9) d_H_settleRinged_7 ?_
    rw [hn1]
    refine n_ge (tgt := 56) hx hb d_H_settleRinged_10 (by decide) (by omega) (by omega) (fun c1 => ?_) (fun c1 => ?_)
    · omega
    · refine q_al_n (i := 0) hx hb d_H_settleRinged_13 rfl hl rfl ?_
      refine s_getr (C := R_H) (T := F_H) (N := 7) (ci := 0) hx hb hg in_H hown hK hM kh rfl 0 (by decide) rfl (hg _ kw_65) (fun _ h9 => h9) d_H_settleRinged_14 ?_
      rw [e0]
      refine q_al_n (i := 0) hx hb d_H_settleRinged_17 rfl hl rfl ?_
      refine s_getr (C := R_H) (T := F_H) (N := 7) (ci := 0) hx hb hg in_H hown hK hM kh rfl 2 (by decide) rfl (hg _ kw_67) (fun _ h9 => h9) d_H_settleRinged_18 ?_
      rw [e2]
      refine q_iload_n (i := 1) hx hb d_H_settleRinged_21 rfl hl rfl ?_
      refine s_calli (r_V 1 [.int (nI k)] rfl hx hb hml hown hg (m_U_at l D dA _ _ (na 1) (nr 1) (nc 1) (nn 1) (nf 1) (nI k) hN1) (hM.pre hK hX) (hM.recv hK k1 (q := cls.getD 5 (R_H, F_H, 7)) rfl) kw_99 kw_100 kw_101 kw_3 kw_102 (by decide +kernel) ⟨Nat.le_of_ble_eq_true rfl, Nat.le_of_ble_eq_true rfl⟩ rfl rfl hl.sz (by first | exact Nat.le_of_ble_eq_true rfl | simp [rf_cat] | simp [rf_cat, Value.category]) d_H_settleRinged_22 ⟨Nat.le_refl _, Nat.le_refl _⟩ rfl) hM (fun r1 u H locs hp hM => ?_)
      obtain ⟨rfl, hp⟩ := hp
      have er : r1 = nI (nf 1 k) := by
        rcases hp with ⟨-, e⟩ | ⟨z, -⟩
        · rw [e, nI_clamp (by omega)]
        · exact absurd (vp_in_nI hkn (by omega)) z
      subst er
      refine s_callq (r_V 1 [.int (nI (nf 1 k))] rfl hx hb hml hown hg (m_T_of l D dA _ _ tb pa nd (nf 1 k) a hG.1 hv9 ha) (hM.pre hK hX) (hM.recv hK hG.1.1 (q := cls.getD 1 (R_H, F_H, 7)) rfl) kw_107 kw_108 kw_109 kw_2 kw_110 (by decide +kernel) ⟨Nat.le_of_ble_eq_true rfl, Nat.le_of_ble_eq_true rfl⟩ rfl rfl hl.sz (by first | exact Nat.le_of_ble_eq_true rfl | simp [rf_cat] | simp [rf_cat, Value.category]) d_H_settleRinged_25 ⟨Nat.le_refl _, Nat.le_refl _⟩ rfl) hM (fun r1 u H locs hp hM => ?_)
      obtain ⟨rfl, rfl⟩ := hp
      refine q_astore_n (i := 2) hx hb (_) d_H_settleRinged_28 rfl hl (by decide) (fun ls hl => ?_)
      simp only [List.set_cons_succ, List.set_cons_zero] at hl
      refine q_al_n (i := 2) hx hb d_H_settleRinged_29 rfl hl rfl ?_
      refine lv_iconst (v := 0) hx hb d_H_settleRinged_30 (by decide) ?_
      refine s_puti (C := R_N) (T := F_N) (N := 9) (ci := 3) hx hb hg in_N ft_N ft_N_ok fn_N hown hK hM ka rfl 7 (by decide) rfl (hg _ kw_144) (fun _ h9 => h9) rfl rfl rfl d_H_settleRinged_31 (fun H locs hM => ?_)
      obtain ⟨hZ1, f1⟩ := Mz_flag hZ ha (i := 7) (by decide) 0
      dsimp only at hZ1 f1
      have hha : h0 ≠ a := sk_d kh ka (by decide)
      have tail : ∀ (x : Int32) (H : Heap) (locs : List Loc), x = (if wt (nf 1 k) = 0 then 0 else 1) → SW D dA A s.heap (kd, rf, up2 (up2 it a 7 0) a 6 x, lg) H locs → W p l e (rmk 4 0 0) s m args below meth c H locs 0 0 Q (F0 m 50 ls []) := by
        intro x H locs hxe hM
        obtain ⟨hZ2, f2⟩ := Mz_flag hZ1 ha (i := 6) (by decide) x
        dsimp only at hZ2 f2
        refine q_iinc hx hb (nI (k + 1)) d_H_settleRinged_50 hl rfl (nI_1 k) (by decide) (fun ls hl => ?_)
        simp only [List.set_cons_succ, List.set_cons_zero] at hl
        refine lv_goto (tgt := 2) hx hb d_H_settleRinged_53 (by decide) ?_
        refine ih (k + 1) _ H locs ls _ (by omega) hM hl ⟨hZ2, fun v hs => ?_, fun j v hs => ?_, fun j v hj6 hj7 => ?_, fun j => ?_⟩
        · rw [f2, f2, f1, f1]
          by_cases e : v = nf 1 k
          · rw [if_neg (fun y => by cases y.2), if_pos ⟨e, rfl⟩, if_pos ⟨e, rfl⟩, hxe, e]; exact ⟨rfl, rfl⟩
          · rw [if_neg (fun y => e y.1), if_neg (fun y => e y.1), if_neg (fun y => e y.1), if_neg (fun y => e y.1)]
            refine i1 v ?_
            obtain ⟨i, q1, q2⟩ := hs
            have hik : i ≠ k := fun z => e (by rw [← q2, z])
            exact ⟨i, by omega, q2⟩
        · have e : v ≠ nf 1 k := fun y => hs ⟨k, by omega, y.symm⟩
          rw [f2, f1, if_neg (fun y => e y.1), if_neg (fun y => e y.1)]
          exact i2 j v (fun ⟨i, q1, q2⟩ => hs ⟨i, by omega, q2⟩)
        · rw [f2, f1, if_neg (fun y => hj6 y.2), if_neg (fun y => hj7 y.2)]; exact i3 j v hj6 hj7
        · show up2 (up2 it a 7 0) a 6 x h0 j = _
          rw [up2_off _ _ hha, up2_off _ _ hha]; exact i4 j
      refine q_al_n (i := 2) hx hb d_H_settleRinged_34 rfl hl rfl ?_
      refine q_al_n (i := 2) hx hb d_H_settleRinged_35 rfl hl rfl ?_
      refine s_geti (C := R_N) (T := F_N) (N := 9) (ci := 3) hx hb hg in_N hown hK hM ka rfl 8 (by decide) rfl (hg _ kw_145) (fun _ h9 => h9) d_H_settleRinged_36 ?_
      rw [up2_ne _ _ (by decide), e8]
      refine lv_if_le (tgt := 46) hx hb d_H_settleRinged_39 (by decide) (fun c3 => ?_) (fun c3 => ?_)
      · have w0 : wt (nf 1 k) = 0 := by
          refine Classical.byContradiction fun z => ?_
          exact nI_nle (by omega) hw2 c3
        refine lv_iconst (v := 0) hx hb d_H_settleRinged_46 (by decide) ?_
        refine s_puti (C := R_N) (T := F_N) (N := 9) (ci := 3) hx hb hg in_N ft_N ft_N_ok fn_N hown hK hM ka rfl 6 (by decide) rfl (hg _ kw_143) (fun _ h9 => h9) rfl rfl rfl d_H_settleRinged_47 (fun H locs hM => ?_)
        exact tail 0 H locs (by rw [if_pos w0]) hM
      · have w0 : ¬ wt (nf 1 k) = 0 := fun z => c3 (by rw [z]; decide)
        refine lv_iconst (v := 1) hx hb d_H_settleRinged_42 (by decide) ?_
        refine lv_goto (tgt := 47) hx hb d_H_settleRinged_43 (by decide) ?_
        refine s_puti (C := R_N) (T := F_N) (N := 9) (ci := 3) hx hb hg in_N ft_N ft_N_ok fn_N hown hK hM ka rfl 6 (by decide) rfl (hg _ kw_143) (fun _ h9 => h9) rfl rfl rfl d_H_settleRinged_47 (fun H locs hM => ?_)
        exact tail 1 H locs (by rw [if_neg w0]) hM
/-- what settleRinged does -/
def SrP (S : sS) (h0 tb pa q : Nat) (na : Nat → Nat) (nd : Nat → Option Nat) (rd sr : Nat → List (Nat × Nat)) (nr nc nn : Nat → Nat) (nf : Nat → Nat → Nat) (wt : Nat → Nat) (u : sS) : Prop :=
  Mz u h0 tb pa q na nd rd sr nr nc nn nf ∧ (∀ v, hp_set (nf 1) (nn 1) v → fl u nd 7 v = 0 ∧ fl u nd 6 v = if wt v = 0 then 0 else 1) ∧ (∀ j v, ¬ hp_set (nf 1) (nn 1) v → fl u nd j v = fl S nd j v) ∧ (∀ j v, j ≠ 6 → j ≠ 7 → fl u nd j v = fl S nd j v) ∧ u.2.2.1 h0 6 = nI (nn 1 - nn 2) ∧ u.2.2.1 h0 5 = S.2.2.1 h0 5
set_option maxHeartbeats 4000000 in
set_option maxRecDepth 100000 in
theorem m_H_settleRinged (l : Launch) (D : va_G) (dA : Nat → ClassId) (S : sS) (sz : Nat) (h0 tb pa q : Nat) (na : Nat → Nat) (nd : Nat → Option Nat) (rd sr : Nat → List (Nat × Nat)) (nr nc nn : Nat → Nat) (nf : Nat → Nat → Nat) (wt : Nat → Nat) (hZ : Mz S h0 tb pa q na nd rd sr nr nc nn nf) (hB : nn 1 ≤ 1024) (hinj : hp_inj (nf 1) (nn 1)) (hnd : ∀ i, i < nn 1 → nd (nf 1 i) ≠ none) (hwt : ∀ v, hp_set (nf 1) (nn 1) v → fl S nd 8 v = nI (wt v) ∧ wt v < 2 ^ 31) (h21 : nn 2 ≤ nn 1) :
    cV l y_H_settleRinged c_H_settleRinged 3 (rmk 4 0 0) D dA S sz [.ref h0] (SrP S h0 tb pa q na nd rd sr nr nc nn nf wt) (0) (0) := by
  refine s_met (cc := c_H_settleRinged) (maxL := 3) (by decide) rfl (by simp [Value.category]) (by simp [lg_sl, Value.category]) ?_
  intro p e s m args below meth c ls hx hb hr hts hown hlocks hin hml hK hX hsz hM hl
  have hg := gd_hts hts
  have hl : lc ls 3 [some (va_rf (some h0)), none, none] := hl
  refine lv_iconst (v := nI 0) hx hb d_H_settleRinged_0 (by decide) ?_
  refine q_istore_n (i := 1) hx hb d_H_settleRinged_1 rfl hl (by decide) (fun ls hl => ?_)
  simp only [List.set_cons_succ, List.set_cons_zero] at hl
  refine sr_loop hx hb hml hown hg hK hX (S0 := S) (nr := nr) (nc := nc) (nn := nn) (nf := nf) (wt := wt) hB hinj hnd hwt ?_ (nn 1) 0 S s.heap [] ls _ (by omega) hM hl ⟨hZ, fun v ⟨i, hi, _⟩ => absurd hi (Nat.not_lt_zero i), fun j v _ => rfl, fun j v _ _ => rfl, fun j => rfl⟩
  intro S1 H locs ls o1 o2 hM hl hI
  obtain ⟨kd, rf, it, lg⟩ := S1
  obtain ⟨hZ1, i1, i2, i3, i4⟩ := hI
  obtain ⟨⟨kh, e0, e1, e2, e3, e4⟩, ⟨kq, eq⟩, hG, hN, hna, hnr⟩ := id hZ1
  dsimp only at kh e0 e1 e2 e3 e4 kq eq
  have hN1 := hN 1 (by decide)
  have hn1 := hN1.2.2.2.1
  have k1 := hN1.1
  have hN2 := hN 2 (by decide)
  have hn2 := hN2.2.2.2.1
  have k2 := hN2.1
  dsimp only at hn1 k1 hn2 k2
  refine q_al_n (i := 0) hx hb d_H_settleRinged_56 rfl hl rfl ?_
  refine q_al_n (i := 0) hx hb d_H_settleRinged_57 rfl hl rfl ?_
  refine s_getr (C := R_H) (T := F_H) (N := 7) (ci := 0) hx hb hg in_H hown hK hM kh rfl 2 (by decide) rfl (hg _ kw_67) (fun _ h9 => h9) d_H_settleRinged_58 ?_
  rw [e2]
  refine s_geti (C := R_U) (T := F_U) (N := 2) (ci := 5) hx hb hg in_U hown hK hM k1 rfl 1 (by decide) rfl (hg _ kw_46) (fun _ h9 => h9) d_H_settleRinged_61 ?_
  rw [hn1]
  refine q_al_n (i := 0) hx hb d_H_settleRinged_64 rfl hl rfl ?_
  refine s_getr (C := R_H) (T := F_H) (N := 7) (ci := 0) hx hb hg in_H hown hK hM kh rfl 3 (by decide) rfl (hg _ kw_68) (fun _ h9 => h9) d_H_settleRinged_65 ?_
  rw [e3]
  refine s_geti (C := R_U) (T := F_U) (N := 2) (ci := 5) hx hb hg in_U hown hK hM k2 rfl 1 (by decide) rfl (hg _ kw_46) (fun _ h9 => h9) d_H_settleRinged_68 ?_
  rw [hn2]
  refine lv_isub hx hb d_H_settleRinged_71 ?_
  rw [nI_sub h21]
  refine s_puti (C := R_H) (T := F_H) (N := 7) (ci := 0) hx hb hg in_H ft_H ft_H_ok fn_H hown hK hM kh rfl 6 (by decide) rfl (hg _ kw_71) (fun _ h9 => h9) rfl rfl rfl d_H_settleRinged_72 (fun H locs hM => ?_)
  obtain ⟨hZ2, f2⟩ := Mz_own hZ1 6 (nI (nn 1 - nn 2))
  dsimp only at hZ2 f2
  refine s_vret hx hb hr hM ⟨hZ2, fun v hv => ?_, fun j v hv => ?_, fun j v h6 h7 => ?_, ?_, ?_⟩ d_H_settleRinged_75 hlocks
  · rw [f2, f2]; exact i1 v hv
  · rw [f2]; exact i2 j v hv
  · rw [f2]; exact i3 j v h6 h7
  · show up2 it h0 6 _ h0 6 = _
    rw [up2_self]
  · show up2 it h0 6 _ h0 5 = _
    rw [up2_ne _ _ (by decide)]; exact i4 5
end
section
/-! the object between calls, in the document's words: E v u: v reads u; T: touched; Rg: ringed; wl: what the latest work worked out; rc: how many it found ringed; m: calls so far -/
def HoX (S : sS) (h0 m : Nat) (E : Nat → Nat → Prop) (T Rg : Nat → Prop) (wl : List Nat) (rc : Nat) (nd : Nat → Option Nat) (rd sr : Nat → List (Nat × Nat)) (nc nn : Nat → Nat) (nf : Nat → Nat → Nat) : Prop :=
  (∀ v u, E v u ↔ rE rd v u) ∧ (∀ i, i < 4 → pw (nc i)) ∧ (fewN nd (2 * m)) ∧ (∀ v, (rd v).length ≤ m ∧ (sr v).length ≤ m) ∧ (hp_inj (nf 0) (nn 0)) ∧ (∀ i, i < nn 0 → nd (nf 0 i) ≠ none) ∧ (∀ v, T v ↔ hp_set (nf 0) (nn 0) v) ∧ (∀ v, (T v → fl S nd 5 v = 1) ∧ (¬ T v → fl S nd 5 v = 0)) ∧ (∀ v, fl S nd 7 v = 0) ∧ (nn 3 = 0) ∧ (nn 2 = wl.length) ∧ (∀ i, i < nn 2 → wl[i]? = some (nf 2 i)) ∧ (∀ v, (Rg v → fl S nd 6 v = 1) ∧ (¬ Rg v → fl S nd 6 v = 0)) ∧ (∃ O : Nat → Nat → Prop, (∀ v, Rg v ↔ ¬ gN O v) ∧ ∀ v, ¬ T v → ∀ u, E v u ↔ O v u) ∧ (S.2.2.1 h0 6 = nI rc) ∧ (∃ z : Int, S.2.2.1 h0 5 = Int32.ofInt z ∧ -(1024 * (m : Int)) ≤ z ∧ z ≤ m)
theorem HoX.hE {S : sS} {h0 m : Nat} {E : Nat → Nat → Prop} {T Rg : Nat → Prop} {wl : List Nat} {rc : Nat} {nd : Nat → Option Nat} {rd sr : Nat → List (Nat × Nat)} {nc nn : Nat → Nat} {nf : Nat → Nat → Nat} (h : HoX S h0 m E T Rg wl rc nd rd sr nc nn nf) : ∀ v u, E v u ↔ rE rd v u := h.1
theorem HoX.hc {S : sS} {h0 m : Nat} {E : Nat → Nat → Prop} {T Rg : Nat → Prop} {wl : List Nat} {rc : Nat} {nd : Nat → Option Nat} {rd sr : Nat → List (Nat × Nat)} {nc nn : Nat → Nat} {nf : Nat → Nat → Nat} (h : HoX S h0 m E T Rg wl rc nd rd sr nc nn nf) : ∀ i, i < 4 → pw (nc i) := h.2.1
theorem HoX.hL {S : sS} {h0 m : Nat} {E : Nat → Nat → Prop} {T Rg : Nat → Prop} {wl : List Nat} {rc : Nat} {nd : Nat → Option Nat} {rd sr : Nat → List (Nat × Nat)} {nc nn : Nat → Nat} {nf : Nat → Nat → Nat} (h : HoX S h0 m E T Rg wl rc nd rd sr nc nn nf) : fewN nd (2 * m) := h.2.2.1
theorem HoX.hlen {S : sS} {h0 m : Nat} {E : Nat → Nat → Prop} {T Rg : Nat → Prop} {wl : List Nat} {rc : Nat} {nd : Nat → Option Nat} {rd sr : Nat → List (Nat × Nat)} {nc nn : Nat → Nat} {nf : Nat → Nat → Nat} (h : HoX S h0 m E T Rg wl rc nd rd sr nc nn nf) : ∀ v, (rd v).length ≤ m ∧ (sr v).length ≤ m := h.2.2.2.1
theorem HoX.t1 {S : sS} {h0 m : Nat} {E : Nat → Nat → Prop} {T Rg : Nat → Prop} {wl : List Nat} {rc : Nat} {nd : Nat → Option Nat} {rd sr : Nat → List (Nat × Nat)} {nc nn : Nat → Nat} {nf : Nat → Nat → Nat} (h : HoX S h0 m E T Rg wl rc nd rd sr nc nn nf) : hp_inj (nf 0) (nn 0) := h.2.2.2.2.1
theorem HoX.t2 {S : sS} {h0 m : Nat} {E : Nat → Nat → Prop} {T Rg : Nat → Prop} {wl : List Nat} {rc : Nat} {nd : Nat → Option Nat} {rd sr : Nat → List (Nat × Nat)} {nc nn : Nat → Nat} {nf : Nat → Nat → Nat} (h : HoX S h0 m E T Rg wl rc nd rd sr nc nn nf) : ∀ i, i < nn 0 → nd (nf 0 i) ≠ none := h.2.2.2.2.2.1
theorem HoX.t3 {S : sS} {h0 m : Nat} {E : Nat → Nat → Prop} {T Rg : Nat → Prop} {wl : List Nat} {rc : Nat} {nd : Nat → Option Nat} {rd sr : Nat → List (Nat × Nat)} {nc nn : Nat → Nat} {nf : Nat → Nat → Nat} (h : HoX S h0 m E T Rg wl rc nd rd sr nc nn nf) : ∀ v, T v ↔ hp_set (nf 0) (nn 0) v := h.2.2.2.2.2.2.1
theorem HoX.f5 {S : sS} {h0 m : Nat} {E : Nat → Nat → Prop} {T Rg : Nat → Prop} {wl : List Nat} {rc : Nat} {nd : Nat → Option Nat} {rd sr : Nat → List (Nat × Nat)} {nc nn : Nat → Nat} {nf : Nat → Nat → Nat} (h : HoX S h0 m E T Rg wl rc nd rd sr nc nn nf) : ∀ v, (T v → fl S nd 5 v = 1) ∧ (¬ T v → fl S nd 5 v = 0) := h.2.2.2.2.2.2.2.1
theorem HoX.f7 {S : sS} {h0 m : Nat} {E : Nat → Nat → Prop} {T Rg : Nat → Prop} {wl : List Nat} {rc : Nat} {nd : Nat → Option Nat} {rd sr : Nat → List (Nat × Nat)} {nc nn : Nat → Nat} {nf : Nat → Nat → Nat} (h : HoX S h0 m E T Rg wl rc nd rd sr nc nn nf) : ∀ v, fl S nd 7 v = 0 := h.2.2.2.2.2.2.2.2.1
theorem HoX.n3 {S : sS} {h0 m : Nat} {E : Nat → Nat → Prop} {T Rg : Nat → Prop} {wl : List Nat} {rc : Nat} {nd : Nat → Option Nat} {rd sr : Nat → List (Nat × Nat)} {nc nn : Nat → Nat} {nf : Nat → Nat → Nat} (h : HoX S h0 m E T Rg wl rc nd rd sr nc nn nf) : nn 3 = 0 := h.2.2.2.2.2.2.2.2.2.1
theorem HoX.n2 {S : sS} {h0 m : Nat} {E : Nat → Nat → Prop} {T Rg : Nat → Prop} {wl : List Nat} {rc : Nat} {nd : Nat → Option Nat} {rd sr : Nat → List (Nat × Nat)} {nc nn : Nat → Nat} {nf : Nat → Nat → Nat} (h : HoX S h0 m E T Rg wl rc nd rd sr nc nn nf) : nn 2 = wl.length := h.2.2.2.2.2.2.2.2.2.2.1
theorem HoX.w2 {S : sS} {h0 m : Nat} {E : Nat → Nat → Prop} {T Rg : Nat → Prop} {wl : List Nat} {rc : Nat} {nd : Nat → Option Nat} {rd sr : Nat → List (Nat × Nat)} {nc nn : Nat → Nat} {nf : Nat → Nat → Nat} (h : HoX S h0 m E T Rg wl rc nd rd sr nc nn nf) : ∀ i, i < nn 2 → wl[i]? = some (nf 2 i) := h.2.2.2.2.2.2.2.2.2.2.2.1
theorem HoX.f6 {S : sS} {h0 m : Nat} {E : Nat → Nat → Prop} {T Rg : Nat → Prop} {wl : List Nat} {rc : Nat} {nd : Nat → Option Nat} {rd sr : Nat → List (Nat × Nat)} {nc nn : Nat → Nat} {nf : Nat → Nat → Nat} (h : HoX S h0 m E T Rg wl rc nd rd sr nc nn nf) : ∀ v, (Rg v → fl S nd 6 v = 1) ∧ (¬ Rg v → fl S nd 6 v = 0) := h.2.2.2.2.2.2.2.2.2.2.2.2.1
theorem HoX.old {S : sS} {h0 m : Nat} {E : Nat → Nat → Prop} {T Rg : Nat → Prop} {wl : List Nat} {rc : Nat} {nd : Nat → Option Nat} {rd sr : Nat → List (Nat × Nat)} {nc nn : Nat → Nat} {nf : Nat → Nat → Nat} (h : HoX S h0 m E T Rg wl rc nd rd sr nc nn nf) : ∃ O : Nat → Nat → Prop, (∀ v, Rg v ↔ ¬ gN O v) ∧ ∀ v, ¬ T v → ∀ u, E v u ↔ O v u := h.2.2.2.2.2.2.2.2.2.2.2.2.2.1
theorem HoX.c6 {S : sS} {h0 m : Nat} {E : Nat → Nat → Prop} {T Rg : Nat → Prop} {wl : List Nat} {rc : Nat} {nd : Nat → Option Nat} {rd sr : Nat → List (Nat × Nat)} {nc nn : Nat → Nat} {nf : Nat → Nat → Nat} (h : HoX S h0 m E T Rg wl rc nd rd sr nc nn nf) : S.2.2.1 h0 6 = nI rc := h.2.2.2.2.2.2.2.2.2.2.2.2.2.2.1
theorem HoX.c5 {S : sS} {h0 m : Nat} {E : Nat → Nat → Prop} {T Rg : Nat → Prop} {wl : List Nat} {rc : Nat} {nd : Nat → Option Nat} {rd sr : Nat → List (Nat × Nat)} {nc nn : Nat → Nat} {nf : Nat → Nat → Nat} (h : HoX S h0 m E T Rg wl rc nd rd sr nc nn nf) : ∃ z : Int, S.2.2.1 h0 5 = Int32.ofInt z ∧ -(1024 * (m : Int)) ≤ z ∧ z ≤ m := h.2.2.2.2.2.2.2.2.2.2.2.2.2.2.2
def Ho (S : sS) (h0 m : Nat) (E : Nat → Nat → Prop) (T Rg : Nat → Prop) (wl : List Nat) (rc : Nat) : Prop :=
  ∃ tb pa q na nd rd sr nr nc nn nf, Mz S h0 tb pa q na nd rd sr nr nc nn nf ∧ HoX S h0 m E T Rg wl rc nd rd sr nc nn nf
theorem fewN_le {nd : Nat → Option Nat} {m n : Nat} (h : fewN nd m) (hm : m ≤ n) : fewN nd n := by
  obtain ⟨L, h1, h2⟩ := h
  exact ⟨L, by omega, h2⟩
/-- what work does -/
def WorkP (h0 m : Nat) (E : Nat → Nat → Prop) (T : Nat → Prop) (x : Int32) (u : sS) : Prop :=
  ∃ wl rc, Ho u h0 m E (fun _ => False) (fun v => ¬ gN E v) wl rc ∧ x = nI wl.length ∧ gR E (gF E T) wl ∧ ∃ L : List Nat, L.Nodup ∧ (∀ v, v ∈ L ↔ gF E T v) ∧ rc + wl.length = L.length
theorem lrm_nodup {g : Nat → Nat} {k : Nat} (hi : hp_inj g k) : ((List.range k).map g).Nodup := by
  rw [List.nodup_iff_pairwise_ne, List.pairwise_iff_getElem]
  intro i j h1 h2 hij e
  have h1' : i < k := by simpa using h1
  have h2' : j < k := by simpa using h2
  have e' : g i = g j := by simpa using e
  have := hi i j h1' h2' e'
  omega
set_option maxHeartbeats 4000000 in
set_option maxRecDepth 100000 in
theorem m_H_work (l : Launch) (D : va_G) (dA : Nat → ClassId) (S : sS) (sz : Nat) (h0 m : Nat) (E : Nat → Nat → Prop) (T Rg : Nat → Prop) (wl : List Nat) (rc : Nat) (hH : Ho S h0 m E T Rg wl rc) (hm : m ≤ 512) :
    cI l y_H_work c_H_work 1 (some .int) (rmk 6 320 10240) D dA S sz [.ref h0] (WorkP h0 m E T) (320) (10240) := by
  obtain ⟨tb, pa, q, na, nd, rd, sr, nr, nc, nn, nf, hZ, hX0⟩ := hH
  have hL : fewN nd 1024 := fewN_le hX0.hL (by omega)
  have hEE : rE rd = E := funext fun v => funext fun u => propext (hX0.hE v u).symm
  have hlen : ∀ v, (rd v).length < 2 ^ 30 := fun v => by have := (hX0.hlen v).1; omega
  obtain ⟨O, hO1, hO2⟩ := hX0.old
  obtain ⟨kd, rf, it, lg⟩ := S
  obtain ⟨⟨kh, e0, e1, e2, e3, e4⟩, ⟨kq, eq⟩, hG, hN, hna, hnr⟩ := id hZ
  dsimp only at kh e0 e1 e2 e3 e4 kq eq
  refine s_met (cc := c_H_work) (maxL := 1) (by decide) rfl (by simp [Value.category]) (by simp [lg_sl, Value.category]) ?_
  intro p e s m args below meth c ls hx hb hr hts hown hlocks hin hml hK hX hsz hM hl
  have hg := gd_hts hts
  have hl : lc ls 1 [some (va_rf (some h0))] := hl
  refine q_al_n (i := 0) hx hb d_H_work_0 rfl hl rfl ?_
  refine s_getr (C := R_H) (T := F_H) (N := 7) (ci := 0) hx hb hg in_H hown hK hM kh rfl 2 (by decide) rfl (hg _ kw_67) (fun _ h9 => h9) d_H_work_1 ?_
  rw [e2]
  refine s_callv (r_V 0 [] rfl hx hb hml hown hg (m_U_empty l D dA _ _ (na 1) (hN 1 (by decide)).1) (hM.pre hK hX) (hM.recv hK (hN 1 (by decide)).1 (q := cls.getD 5 (R_H, F_H, 7)) rfl) kw_91 kw_92 kw_93 kw_3 kw_94 (by decide +kernel) ⟨Nat.le_of_ble_eq_true rfl, Nat.le_of_ble_eq_true rfl⟩ rfl rfl hl.sz (by first | exact Nat.le_of_ble_eq_true rfl | simp [rf_cat] | simp [rf_cat, Value.category]) d_H_work_4 ⟨by show _ ≤ 320; omega, by show _ ≤ 10240; omega⟩ rfl) hM (fun u H locs hp hM => ?_)
  subst hp
  dsimp only at hM
  obtain ⟨hZ1, f1, g1⟩ := Mz_empty hZ (i := 1) (by decide)
  dsimp only at hZ1 f1 g1
  refine q_al_n (i := 0) hx hb d_H_work_7 rfl hl rfl ?_
  refine s_getr (C := R_H) (T := F_H) (N := 7) (ci := 0) hx hb hg in_H hown hK hM kh rfl 3 (by decide) rfl (hg _ kw_68) (fun _ h9 => h9) d_H_work_8 ?_
  rw [e3]
  refine s_callv (r_V 0 [] rfl hx hb hml hown hg (m_U_empty l D dA _ _ (na 2) (hZ1.2.2.2.1 2 (by decide)).1) (hM.pre hK hX) (hM.recv hK (hZ1.2.2.2.1 2 (by decide)).1 (q := cls.getD 5 (R_H, F_H, 7)) rfl) kw_91 kw_92 kw_93 kw_3 kw_94 (by decide +kernel) ⟨Nat.le_of_ble_eq_true rfl, Nat.le_of_ble_eq_true rfl⟩ rfl rfl hl.sz (by first | exact Nat.le_of_ble_eq_true rfl | simp [rf_cat] | simp [rf_cat, Value.category]) d_H_work_11 ⟨by show _ ≤ 320; omega, by show _ ≤ 10240; omega⟩ rfl) hM (fun u H locs hp hM => ?_)
  subst hp
  dsimp only at hM
  obtain ⟨hZ2, f2, g2⟩ := Mz_empty hZ1 (i := 2) (by decide)
  dsimp only at hZ2 f2 g2
  have v10 : va_up (va_up nn 1 0) 2 0 1 = 0 := by rw [va_up_ne _ _ (by decide), va_up_self]
  have v00 : va_up (va_up nn 1 0) 2 0 0 = nn 0 := by rw [va_up_ne _ _ (by decide), va_up_ne _ _ (by decide)]
  have v20 : va_up (va_up nn 1 0) 2 0 2 = 0 := by rw [va_up_self]
  have v30 : va_up (va_up nn 1 0) 2 0 3 = 0 := by rw [va_up_ne _ _ (by decide), va_up_ne _ _ (by decide)]; exact hX0.n3
  generalize va_up (va_up nn 1 0) 2 0 = nn2 at hZ2 v10 v00 v20 v30
  have hn0 : nn 0 ≤ 1024 := few_le hL hX0.t1 hX0.t2
  refine q_al_n (i := 0) hx hb d_H_work_14 rfl hl rfl ?_
  refine s_callv (r_V 0 [] rfl hx hb hml hown hg (m_H_findTouched l D dA _ _ h0 tb pa q na nd rd sr nr nc nn2 nf hZ2 v10 (by rw [v00]; exact hX0.t1) (by rw [v00]; exact hX0.t2) (by rw [v00]; exact hn0) (hX0.hc 1 (by decide)) (fun v hv => by rw [f2, f1] at hv; rw [v00]; exact (hX0.t3 v).mp (Classical.byContradiction fun z => hv ((hX0.f5 v).2 z))) (fun v => by rw [f2, f1]; exact hX0.f7 v)) (hM.pre hK hX) (hM.recv hK kh (q := cls.getD 0 (R_H, F_H, 7)) rfl) kw_95 kw_97 ks_0 kw_1 kw_98 (by decide +kernel) ⟨Nat.le_of_ble_eq_true rfl, Nat.le_of_ble_eq_true rfl⟩ rfl rfl hl.sz (by first | exact Nat.le_of_ble_eq_true rfl | simp [rf_cat] | simp [rf_cat, Value.category]) d_H_work_15 ⟨by show _ ≤ 320; omega, by show _ ≤ 10240; omega⟩ rfl) hM (fun u H locs hp hM => ?_)
  obtain ⟨nr3, nc3, nf3, hZ3, a1, a2, a3, a4, a5, a6, a7⟩ := hp
  rw [v00] at hZ3 a1 a5
  have hs3 : ∀ v, hp_set (nf3 1) (nn 0) v ↔ T v := by
    intro v
    rw [hX0.t3]
    constructor
    · rintro ⟨i, hi, e⟩; exact ⟨i, hi, by rw [← a1 i hi]; exact e⟩
    · rintro ⟨i, hi, e⟩; exact ⟨i, hi, by rw [a1 i hi]; exact e⟩
  have u1 : va_up (va_up nn2 1 (nn 0)) 0 0 1 = nn 0 := by rw [va_up_ne _ _ (by decide), va_up_self]
  have u0 : va_up (va_up nn2 1 (nn 0)) 0 0 0 = 0 := by rw [va_up_self]
  have u2 : va_up (va_up nn2 1 (nn 0)) 0 0 2 = 0 := by rw [va_up_ne _ _ (by decide), va_up_ne _ _ (by decide), v20]
  have u3 : va_up (va_up nn2 1 (nn 0)) 0 0 3 = 0 := by rw [va_up_ne _ _ (by decide), va_up_ne _ _ (by decide), v30]
  generalize va_up (va_up nn2 1 (nn 0)) 0 0 = nn3 at hZ3 u1 u0 u2 u3
  have hF3 : Fnd u h0 tb pa q na nd rd sr nr3 nc3 nn3 nf3 (nr3 1) (nc3 1) (nn 0) (nf3 1) := by
    refine ⟨?_, fun i j hi hj e => hX0.t1 i j hi hj (by rw [← a1 i hi, ← a1 j hj]; exact e), fun i hi => by rw [a1 i hi]; exact hX0.t2 i hi, fun v => ⟨fun z => (a5 v).1 ((hX0.t3 v).mp ((hs3 v).mp z)), fun z => (a5 v).2 (fun y => z ((hs3 v).mpr ((hX0.t3 v).mpr y)))⟩, a3⟩
    rw [va_up_same (f := nr3) (k := 1) rfl, va_up_same (f := nc3) (k := 1) rfl, va_up_same (f := nf3) (k := 1) rfl, va_up_same u1]
    exact hZ3
  clear hZ1 f1 g1
  refine q_al_n (i := 0) hx hb d_H_work_18 rfl hl rfl ?_
  refine s_callv (r_V 0 [] rfl hx hb hml hown hg (m_H_findHanging l D dA _ _ h0 tb pa q na nd rd sr nr3 nc3 nn3 nf3 (nr3 1) (nc3 1) (nn 0) (nf3 1) hL hF3) (hM.pre hK hX) (hM.recv hK hZ3.1.1 (q := cls.getD 0 (R_H, F_H, 7)) rfl) kw_189 kw_191 ks_3 kw_1 kw_192 (by decide +kernel) ⟨Nat.le_of_ble_eq_true rfl, Nat.le_of_ble_eq_true rfl⟩ rfl rfl hl.sz (by first | exact Nat.le_of_ble_eq_true rfl | simp [rf_cat] | simp [rf_cat, Value.category]) d_H_work_19 ⟨by show _ ≤ 320; omega, by show _ ≤ 10240; omega⟩ rfl) hM (fun u4 H locs hp hM => ?_)
  obtain ⟨r4, c4, n4, f4, hF4, b1, b2, b3⟩ := hp
  have hTT : hp_set (nf3 1) (nn 0) = T := funext fun v => propext (hs3 v)
  rw [hTT, hEE] at b1
  have hZ4 := hF4.1
  have x11 : va_up nn3 1 n4 1 = n4 := va_up_self _ _ _
  have x10 : va_up nn3 1 n4 0 = 0 := by rw [va_up_ne _ _ (by decide), u0]
  have x12 : va_up nn3 1 n4 2 = 0 := by rw [va_up_ne _ _ (by decide), u2]
  have x13 : va_up nn3 1 n4 3 = 0 := by rw [va_up_ne _ _ (by decide), u3]
  have y11 : va_up nf3 1 f4 1 = f4 := va_up_self _ _ _
  have y10 : va_up nf3 1 f4 0 = nf3 0 := va_up_ne _ _ (by decide)
  have z13 : pw (va_up nc3 1 c4 3) := by rw [va_up_ne _ _ (by decide), (a2 3 (by decide)).2.1]; exact hX0.hc 3 (by decide)
  have z12 : pw (va_up nc3 1 c4 2) := by rw [va_up_ne _ _ (by decide), (a2 2 (by decide)).2.1]; exact hX0.hc 2 (by decide)
  have z10 : pw (va_up nc3 1 c4 0) := by rw [va_up_ne _ _ (by decide), (a2 0 (by decide)).2.1]; exact hX0.hc 0 (by decide)
  have z11 : pw (va_up nc3 1 c4 1) := by rw [va_up_self]; exact hF4.2.2.2.2
  have hset4 : ∀ v, hp_set f4 n4 v ↔ gF E T v := b1
  have hinj4 := hF4.2.1
  have hnd4 := hF4.2.2.1
  have h74 := hF4.2.2.2.1
  generalize va_up nn3 1 n4 = nn4 at hZ4 x11 x10 x12 x13
  generalize va_up nf3 1 f4 = nf4 at hZ4 y11 y10
  generalize va_up nc3 1 c4 = nc4 at hZ4 z13 z12 z10 z11
  generalize va_up nr3 1 r4 = nr4 at hZ4
  subst y11
  subst x11
  have hn4 := few_le hL hinj4 hnd4
  refine q_al_n (i := 0) hx hb d_H_work_22 rfl hl rfl ?_
  refine s_callv (r_V 0 [] rfl hx hb hml hown hg (m_H_countWaiting l D dA _ _ h0 tb pa q na nd rd sr nr4 nc4 nn4 nf4 hZ4 hL hinj4 hnd4 (fun v => by have := hlen v; omega) x13 z13) (hM.pre hK hX) (hM.recv hK hZ4.1.1 (q := cls.getD 0 (R_H, F_H, 7)) rfl) kw_193 kw_195 ks_4 kw_1 kw_196 (by decide +kernel) ⟨Nat.le_of_ble_eq_true rfl, Nat.le_of_ble_eq_true rfl⟩ rfl rfl hl.sz (by first | exact Nat.le_of_ble_eq_true rfl | simp [rf_cat] | simp [rf_cat, Value.category]) d_H_work_23 ⟨by show _ ≤ 320; omega, by show _ ≤ 10240; omega⟩ rfl) hM (fun u5 H locs hp hM => ?_)
  obtain ⟨r5, c5, n5, v5, hW5, d1, d2, d3, d4⟩ := hp
  have ew5 : wp u5 nd = wp u4 nd := wp_same d3
  rw [← ew5] at d1 d2
  have hup : ∀ v w, rE rd v w → hp_set (nf4 1) (nn4 1) w → hp_set (nf4 1) (nn4 1) v := by
    intro v w hvw hw
    rw [hset4] at hw ⊢
    rw [hEE] at hvw
    exact (gF_up E T).2 v w hvw hw
  have hwp : ∀ v, hp_set (nf4 1) (nn4 1) v → wp u5 nd v = true := by
    intro v hv
    refine decide_eq_true (Or.inl ?_)
    rw [d3 7 v (by decide), (h74 v).1 hv]; decide
  refine q_al_n (i := 0) hx hb d_H_work_26 rfl hl rfl ?_
  refine s_callv (r_V 0 [] rfl hx hb hml hown hg (m_H_workOutReady l D dA _ _ h0 tb pa q na nd rd sr nr4 nc4 nn4 nf4 r5 c5 n5 v5 hW5 hL hlen hinj4 hnd4 hup hwp x12 z12 d2 d1) (hM.pre hK hX) (hM.recv hK hW5.1.1.1 (q := cls.getD 0 (R_H, F_H, 7)) rfl) kw_210 kw_212 ks_5 kw_1 kw_213 (by decide +kernel) ⟨Nat.le_of_ble_eq_true rfl, Nat.le_of_ble_eq_true rfl⟩ rfl rfl hl.sz (by first | exact Nat.le_of_ble_eq_true rfl | simp [rf_cat] | simp [rf_cat, Value.category]) d_H_work_27 ⟨by show _ ≤ 320; omega, by show _ ≤ 10240; omega⟩ rfl) hM (fun u6 H locs hp hM => ?_)
  obtain ⟨r6, c6, k6, g6, r7, c7, v7, hZ6, p3, p4, p5, p6, p7, p8, p9, p10⟩ := hp
  have k6n : k6 ≤ nn4 1 := inj_le p5 (fun i hi => (p6 i hi).1.1)
  have x61 : va_up (va_up nn4 2 k6) 3 0 1 = nn4 1 := by rw [va_up_ne _ _ (by decide), va_up_ne _ _ (by decide)]
  have x60 : va_up (va_up nn4 2 k6) 3 0 0 = 0 := by rw [va_up_ne _ _ (by decide), va_up_ne _ _ (by decide), x10]
  have x62 : va_up (va_up nn4 2 k6) 3 0 2 = k6 := by rw [va_up_ne _ _ (by decide), va_up_self]
  have x63 : va_up (va_up nn4 2 k6) 3 0 3 = 0 := by rw [va_up_self]
  have y61 : va_up (va_up nf4 2 g6) 3 v7 1 = nf4 1 := by rw [va_up_ne _ _ (by decide), va_up_ne _ _ (by decide)]
  have y62 : va_up (va_up nf4 2 g6) 3 v7 2 = g6 := by rw [va_up_ne _ _ (by decide), va_up_self]
  have z6 : ∀ i, i < 4 → pw (va_up (va_up nc4 2 c6) 3 c7 i) := by
    intro i hi
    by_cases e3 : i = 3
    · rw [e3, va_up_self]; exact p4
    · by_cases e2 : i = 2
      · rw [e2, va_up_ne _ _ (by decide), va_up_self]; exact p3
      · rw [va_up_ne _ _ e3, va_up_ne _ _ e2]
        by_cases e1 : i = 1
        · rw [e1]; exact z11
        · have e0 : i = 0 := by omega
          rw [e0]; exact z10
  generalize va_up (va_up nn4 2 k6) 3 0 = nn6 at hZ6 x61 x60 x62 x63
  generalize va_up (va_up nf4 2 g6) 3 v7 = nf6 at hZ6 y61 y62
  generalize va_up (va_up nc4 2 c6) 3 c7 = nc6 at hZ6 z6
  generalize va_up (va_up nr4 2 r6) 3 r7 = nr6 at hZ6
  refine q_al_n (i := 0) hx hb d_H_work_30 rfl hl rfl ?_
  refine s_callv (r_V 0 [] rfl hx hb hml hown hg (m_H_settleRinged l D dA _ _ h0 tb pa q na nd rd sr nr6 nc6 nn6 nf6 (fun v => cnt (wpk (wp u5 nd) g6 k6) (rd v)) hZ6 (by omega) (by rw [x61, y61]; exact hinj4) (by rw [x61, y61]; exact hnd4) (by rw [x61, y61]; exact fun v hv => ⟨p8 v hv, Nat.lt_of_le_of_lt (cnt_le _ _) (by have := hlen v; omega)⟩) (by omega)) (hM.pre hK hX) (hM.recv hK hZ6.1.1 (q := cls.getD 0 (R_H, F_H, 7)) rfl) kw_239 kw_241 ks_9 kw_1 kw_242 (by decide +kernel) ⟨Nat.le_of_ble_eq_true rfl, Nat.le_of_ble_eq_true rfl⟩ rfl rfl hl.sz (by first | exact Nat.le_of_ble_eq_true rfl | simp [rf_cat] | simp [rf_cat, Value.category]) d_H_work_31 ⟨by show _ ≤ 320; omega, by show _ ≤ 10240; omega⟩ rfl) hM (fun u7 H locs hp hM => ?_)
  obtain ⟨hZ7, s1, s2, s3, s4, s5⟩ := hp
  rw [x61, y61] at s1 s2
  rw [x61, x62] at s4
  have fl6 : ∀ v, fl u5 nd 6 v = fl (kd, rf, it, lg) nd 6 v := by
    intro v
    rw [d3 6 v (by decide), b2 6 v (by decide), a6 6 v (by decide) (by decide), f2]
    exact (Mz_empty hZ (i := 1) (by decide)).2.1 6 v
  have hold : ∀ v, ¬ gF E T v → (gN E v ↔ gN O v) := fun v hv => gN_old (O := O) (T := T) hO2 hv
  have hP : ∀ v, wp u5 nd v = true ↔ hp_set (nf4 1) (nn4 1) v ∨ ¬ gN E v := by
    intro v
    by_cases hv : hp_set (nf4 1) (nn4 1) v
    · exact ⟨fun _ => Or.inl hv, fun _ => hwp v hv⟩
    · have hgf : ¬ gF E T v := fun z => hv ((hset4 v).mpr z)
      have h7v : fl u5 nd 7 v = 0 := by rw [d3 7 v (by decide)]; exact (h74 v).2 hv
      constructor
      · intro h
        right
        rcases of_decide_eq_true h with z | z
        · exact absurd h7v z
        · rw [hold v hgf, ← hO1]
          refine Classical.byContradiction fun y => z ?_
          rw [fl6]; exact (hX0.f6 v).2 y
      · rintro (z | z)
        · exact absurd z hv
        · refine decide_eq_true (Or.inr ?_)
          rw [fl6, (hX0.f6 v).1 ((hO1 v).mpr (by rw [← hold v hgf]; exact z))]; decide
  have hFF : hp_set (nf4 1) (nn4 1) = gF E T := funext fun v => propext (hset4 v)
  have hrun : gR E (gF E T) ((List.range k6).map g6) := by
    rw [hFF, hEE] at p6 p7
    rw [hFF] at hP
    exact gR_of hP p6 p7
  have hwk : ∀ v, gF E T v → (cnt (wpk (wp u5 nd) g6 k6) (rd v) = 0 ↔ gN E v) := by
    intro v hv
    have hm9 := gR_mem hrun (x := v)
    rw [lrm_mem] at hm9
    constructor
    · intro hz
      refine Classical.byContradiction fun z => ?_
      refine p7 v ⟨(hset4 v).mpr hv, fun y => z (hm9.mp y).2, fun w ⟨c, hc⟩ hw => Classical.byContradiction fun y => (cnt_zero.mp hz) c w hc (wpk_iff.mpr ⟨hw, y⟩)⟩
    · intro hn
      obtain ⟨i, hi, e⟩ := hm9.mpr ⟨hv, hn⟩
      refine cnt_zero.mpr (fun c w hc hw => (wpk_iff.mp hw).2 ?_)
      obtain ⟨i', hi', e'⟩ := (p6 i hi).1.2.2 w (by rw [e]; exact ⟨c, hc⟩) (wpk_iff.mp hw).1
      exact ⟨i', by omega, e'⟩
  have hZ7' := hZ7
  obtain ⟨kd7, rf7, it7, lg7⟩ := u7
  obtain ⟨⟨kh7, e07, e17, e27, e37, e47⟩, ⟨kq7, eq7⟩, hG7, hN7, hna7, hnr7⟩ := id hZ7'
  dsimp only at kh7 e07 e17 e27 e37 e47 kq7 eq7
  have hN2 := hN7 2 (by decide)
  have hn2 := hN2.2.2.2.1
  have k2 := hN2.1
  dsimp only at hn2 k2
  refine q_al_n (i := 0) hx hb d_H_work_34 rfl hl rfl ?_
  refine s_getr (C := R_H) (T := F_H) (N := 7) (ci := 0) hx hb hg in_H hown hK hM kh7 rfl 3 (by decide) rfl (hg _ kw_68) (fun _ h9 => h9) d_H_work_35 ?_
  rw [e37]
  refine s_geti (C := R_U) (T := F_U) (N := 2) (ci := 5) hx hb hg in_U hown hK hM k2 rfl 1 (by decide) rfl (hg _ kw_46) (fun _ h9 => h9) d_H_work_38 ?_
  rw [hn2, x62]
  refine W.widen (k := 320) (n := 10240) (by omega) (by omega) ?_
  refine s_iret hx hb hr hM ⟨(List.range k6).map g6, nn4 1 - k6, ⟨tb, pa, q, na, nd, rd, sr, nr6, nc6, nn6, nf6, hZ7, ?_⟩, by simp, hrun, (List.range (nn4 1)).map (nf4 1), lrm_nodup hinj4, fun v => by rw [lrm_mem, hset4], by simp; omega⟩ d_H_work_41 hlocks
  refine ⟨hX0.hE, z6, hX0.hL, hX0.hlen, fun i j hi => by rw [x60] at hi; exact absurd hi (Nat.not_lt_zero i), fun i hi => by rw [x60] at hi; exact absurd hi (Nat.not_lt_zero i), fun v => ⟨fun z => z.elim, fun ⟨i, hi, _⟩ => by rw [x60] at hi; exact absurd hi (Nat.not_lt_zero i)⟩, fun v => ⟨fun z => z.elim, fun _ => ?_⟩, fun v => ?_, x63, by simp [x62], fun i hi => ?_, fun v => ⟨fun z => ?_, fun z => ?_⟩, ⟨E, fun v => Iff.rfl, fun v _ u => Iff.rfl⟩, s4, ?_⟩
  · rw [s3 5 v (by decide) (by decide), p9 5 v (by decide), d3 5 v (by decide), b2 5 v (by decide)]; exact a4 v
  · by_cases hv : hp_set (nf4 1) (nn4 1) v
    · exact (s1 v hv).1
    · rw [s2 7 v hv, p9 7 v (by decide), d3 7 v (by decide)]; exact (h74 v).2 hv
  · rw [x62] at hi
    rw [lrm_at, if_pos hi, y62]
  · by_cases hv : hp_set (nf4 1) (nn4 1) v
    · rw [(s1 v hv).2, if_neg (fun y => z ((hwk v ((hset4 v).mp hv)).mp y))]
    · have hgf : ¬ gF E T v := fun z => hv ((hset4 v).mpr z)
      rw [s2 6 v hv, p9 6 v (by decide), fl6]
      exact (hX0.f6 v).1 ((hO1 v).mpr (by rw [← hold v hgf]; exact z))
  · by_cases hv : hp_set (nf4 1) (nn4 1) v
    · rw [(s1 v hv).2, if_pos ((hwk v ((hset4 v).mp hv)).mpr (Classical.byContradiction z))]
    · have hgf : ¬ gF E T v := fun z => hv ((hset4 v).mpr z)
      rw [s2 6 v hv, p9 6 v (by decide), fl6]
      exact (hX0.f6 v).2 (fun y => z (fun q9 => (hO1 v).mp y ((hold v hgf).mp q9)))
  · rw [s5, p10, d4, b3, a7]
    have e5 : up2 (up2 it (na 1) 1 0) (na 2) 1 0 h0 5 = it h0 5 := (g2 5).trans ((Mz_empty hZ (i := 1) (by decide)).2.2 5)
    show ∃ z : Int, up2 (up2 it (na 1) 1 0) (na 2) 1 0 h0 5 = _ ∧ _
    rw [e5]; exact hX0.c5
end
section
theorem Gr9.srnd {S : sS} {tb pa : Nat} {nd : Nat → Option Nat} {rd sr : Nat → List (Nat × Nat)} (hG : Gr9 S tb pa nd rd sr) (x : Nat) : ((sr x).map Prod.snd).Nodup := by
  rw [List.nodup_iff_pairwise_ne, List.pairwise_iff_getElem]
  intro i j h1 h2 hij e
  have h1' : i < (sr x).length := by simpa using h1
  have h2' : j < (sr x).length := by simpa using h2
  have e' : ((sr x)[i]).2 = ((sr x)[j]).2 := by simpa using e
  have m1 := hG.2.2.2.2 x ((sr x)[i]).1 ((sr x)[i]).2 (List.getElem_mem h1')
  have m2 := hG.2.2.2.2 x ((sr x)[j]).1 ((sr x)[j]).2 (List.getElem_mem h2')
  rw [← e'] at m2
  have hnd2 := (hG.2.2.1 ((sr x)[i]).2).2.2.1
  obtain ⟨i1, hi1⟩ := List.getElem?_of_mem m1
  obtain ⟨i2, hi2⟩ := List.getElem?_of_mem m2
  have e1 : ((rd ((sr x)[i]).2).map Prod.snd)[i1]? = some x := by rw [List.getElem?_map, hi1]; rfl
  have e2 : ((rd ((sr x)[i]).2).map Prod.snd)[i2]? = some x := by rw [List.getElem?_map, hi2]; rfl
  have e3 := nd_ij hnd2 e1 e2
  rw [e3, hi2] at hi1
  have e4 : ((sr x)[j]).1 = ((sr x)[i]).1 := (Prod.mk.inj (Option.some.inj hi1)).1
  have e5 : ((sr x).map Prod.fst)[i]? = some ((sr x)[i]).1 := by rw [List.getElem?_map, List.getElem?_eq_getElem h1']; rfl
  have e6 : ((sr x).map Prod.fst)[j]? = some ((sr x)[i]).1 := by rw [List.getElem?_map, List.getElem?_eq_getElem h2', ← e4]; rfl
  have := nd_ij (hG.2.2.1 x).2.1 e5 e6
  omega
theorem mem_sn {l : List (Nat × Nat)} {u : Nat} : u ∈ l.map Prod.snd ↔ ∃ k, (k, u) ∈ l := by
  constructor
  · intro h
    obtain ⟨⟨k, w⟩, hm, e⟩ := List.mem_map.mp h
    have e' : w = u := e
    rw [← e']; exact ⟨k, hm⟩
  · rintro ⟨k, h⟩
    exact List.mem_map.mpr ⟨(k, u), h, rfl⟩
/-- a set that has n members -/
def crd (P : Nat → Prop) (n : Nat) : Prop := ∃ L : List Nat, L.Nodup ∧ (∀ v, v ∈ L ↔ P v) ∧ L.length = n
theorem crd_eq {P : Nat → Prop} {n k : Nat} (h1 : crd P n) (h2 : crd P k) : n = k := by
  obtain ⟨L, a1, a2, a3⟩ := h1
  obtain ⟨M, b1, b2, b3⟩ := h2
  have := (List.perm_ext_iff_of_nodup a1 b1).mpr (fun x => by rw [a2, b2])
  rw [← a3, ← b3]; exact this.length_eq
set_option maxHeartbeats 4000000 in
set_option maxRecDepth 100000 in
theorem m_H_worked (l : Launch) (D : va_G) (dA : Nat → ClassId) (S : sS) (sz : Nat) (h0 mm : Nat) (E : Nat → Nat → Prop) (T Rg : Nat → Prop) (wl : List Nat) (rc : Nat) (k : Int32) (hH : Ho S h0 mm E T Rg wl rc) :
    cI l y_H_worked c_H_worked 2 (some .int) (rmk 2 0 0) D dA S sz [.ref h0, .int k] (fun x u => u = S ∧ ((vp_in k wl.length ∧ ∃ z, wl[k.toNatClampNeg]? = some z ∧ x = nI z) ∨ (¬ vp_in k wl.length ∧ x = -1))) (0) (0) := by
  obtain ⟨tb, pa, q, na, nd, rd, sr, nr, nc, nn, nf, hZ, hX0⟩ := hH
  obtain ⟨kd, rf, it, lg⟩ := S
  obtain ⟨⟨kh, e0, e1, e2, e3, e4⟩, ⟨kq, eq⟩, hG, hN, hna, hnr⟩ := id hZ
  dsimp only at kh e0 e1 e2 e3 e4 kq eq
  have hN2 := hN 2 (by decide)
  have hn2 := hX0.n2
  have hw2 := hX0.w2
  have hle := hN2.2.2.2.2.1
  have hc2 := hX0.hc 2 (by decide)
  refine s_met (cc := c_H_worked) (maxL := 2) (by decide) rfl (by simp [Value.category]) (by simp [lg_sl, Value.category]) ?_
  intro p e s m args below meth c ls hx hb hr hts hown hlocks hin hml hK hX hsz hM hl
  have hg := gd_hts hts
  have hl : lc ls 2 [some (va_rf (some h0)), some (.int k)] := hl
  refine q_al_n (i := 0) hx hb d_H_worked_0 rfl hl rfl ?_
  refine s_getr (C := R_H) (T := F_H) (N := 7) (ci := 0) hx hb hg in_H hown hK hM kh rfl 3 (by decide) rfl (hg _ kw_68) (fun _ h9 => h9) d_H_worked_1 ?_
  rw [e3]
  refine q_iload_n (i := 1) hx hb d_H_worked_4 rfl hl rfl ?_
  refine s_calli (r_V 1 [.int k] rfl hx hb hml hown hg (m_U_at l D dA _ _ (na 2) (nr 2) (nc 2) (nn 2) (nf 2) k hN2) (hM.pre hK hX) (hM.recv hK hN2.1 (q := cls.getD 5 (R_H, F_H, 7)) rfl) kw_99 kw_100 kw_101 kw_3 kw_102 (by decide +kernel) ⟨Nat.le_of_ble_eq_true rfl, Nat.le_of_ble_eq_true rfl⟩ rfl rfl hl.sz (by first | exact Nat.le_of_ble_eq_true rfl | simp [rf_cat] | simp [rf_cat, Value.category]) d_H_worked_5 ⟨Nat.le_refl _, Nat.le_refl _⟩ rfl) hM (fun r1 u H locs hp hM => ?_)
  obtain ⟨rfl, hp⟩ := hp
  refine s_iret hx hb hr hM ⟨rfl, ?_⟩ d_H_worked_8 hlocks
  rw [← hn2]
  rcases hp with ⟨hv, e⟩ | hp
  · refine Or.inl ⟨hv, _, hw2 _ ?_, e⟩
    obtain ⟨j, hj, ej⟩ := vp_in_of hv (by omega)
    rw [ej, nI_clamp (by omega)]; exact hj
  · exact Or.inr hp
set_option maxHeartbeats 4000000 in
set_option maxRecDepth 100000 in
theorem m_H_found (l : Launch) (D : va_G) (dA : Nat → ClassId) (S : sS) (sz : Nat) (h0 mm : Nat) (E : Nat → Nat → Prop) (T Rg : Nat → Prop) (wl : List Nat) (rc : Nat) (hH : Ho S h0 mm E T Rg wl rc) :
    cI l y_H_found c_H_found 1 (some .int) (rmk 2 0 0) D dA S sz [.ref h0] (fun x u => u = S ∧ x = nI rc) (0) (0) := by
  obtain ⟨tb, pa, q, na, nd, rd, sr, nr, nc, nn, nf, hZ, hX0⟩ := hH
  obtain ⟨kd, rf, it, lg⟩ := S
  obtain ⟨⟨kh, e0, e1, e2, e3, e4⟩, ⟨kq, eq⟩, hG, hN, hna, hnr⟩ := id hZ
  dsimp only at kh e0 e1 e2 e3 e4 kq eq
  have hc6 := hX0.c6
  dsimp only at hc6
  refine s_met (cc := c_H_found) (maxL := 1) (by decide) rfl (by simp [Value.category]) (by simp [lg_sl, Value.category]) ?_
  intro p e s m args below meth c ls hx hb hr hts hown hlocks hin hml hK hX hsz hM hl
  have hg := gd_hts hts
  have hl : lc ls 1 [some (va_rf (some h0))] := hl
  refine q_al_n (i := 0) hx hb d_H_found_0 rfl hl rfl ?_
  refine s_geti (C := R_H) (T := F_H) (N := 7) (ci := 0) hx hb hg in_H hown hK hM kh rfl 6 (by decide) rfl (hg _ kw_71) (fun _ h9 => h9) d_H_found_1 ?_
  rw [hc6]
  exact s_iret hx hb hr hM ⟨rfl, rfl⟩ d_H_found_4 hlocks
set_option maxHeartbeats 4000000 in
set_option maxRecDepth 100000 in
theorem m_H_ringed (l : Launch) (D : va_G) (dA : Nat → ClassId) (S : sS) (sz : Nat) (h0 mm : Nat) (E : Nat → Nat → Prop) (T Rg : Nat → Prop) (wl : List Nat) (rc : Nat) (k : Int32) (hH : Ho S h0 mm E T Rg wl rc) :
    cI l y_H_ringed c_H_ringed 3 (some .boolean) (rmk 2 0 0) D dA S sz [.ref h0, .int k] (fun x u => u = S ∧ ((x = 1 ∧ vp_in k 16384 ∧ Rg k.toNatClampNeg) ∨ (x = 0 ∧ ¬ (vp_in k 16384 ∧ Rg k.toNatClampNeg)))) (0) (0) := by
  obtain ⟨tb, pa, q, na, nd, rd, sr, nr, nc, nn, nf, hZ, hX0⟩ := hH
  obtain ⟨kd, rf, it, lg⟩ := S
  obtain ⟨⟨kh, e0, e1, e2, e3, e4⟩, ⟨kq, eq⟩, hG, hN, hna, hnr⟩ := id hZ
  dsimp only at kh e0 e1 e2 e3 e4 kq eq
  refine s_met (cc := c_H_ringed) (maxL := 3) (by decide) rfl (by simp [Value.category]) (by simp [lg_sl, Value.category]) ?_
  intro p e s m args below meth c ls hx hb hr hts hown hlocks hin hml hK hX hsz hM hl
  have hg := gd_hts hts
  have hl : lc ls 3 [some (va_rf (some h0)), some (.int k), none] := hl
  refine q_al_n (i := 0) hx hb d_H_ringed_0 rfl hl rfl ?_
  refine s_getr (C := R_H) (T := F_H) (N := 7) (ci := 0) hx hb hg in_H hown hK hM kh rfl 0 (by decide) rfl (hg _ kw_65) (fun _ h9 => h9) d_H_ringed_1 ?_
  rw [e0]
  refine q_iload_n (i := 1) hx hb d_H_ringed_4 rfl hl rfl ?_
  refine s_callq (r_V 1 [.int k] rfl hx hb hml hown hg (m_T_at l D dA _ _ tb pa nd k hG.1) (hM.pre hK hX) (hM.recv hK hG.1.1 (q := cls.getD 1 (R_H, F_H, 7)) rfl) kw_255 kw_256 kw_257 kw_2 kw_258 (by decide +kernel) ⟨Nat.le_of_ble_eq_true rfl, Nat.le_of_ble_eq_true rfl⟩ rfl rfl hl.sz (by first | exact Nat.le_of_ble_eq_true rfl | simp [rf_cat] | simp [rf_cat, Value.category]) d_H_ringed_5 ⟨Nat.le_refl _, Nat.le_refl _⟩ rfl) hM (fun r1 u H locs hp hM => ?_)
  obtain ⟨rfl, hp⟩ := hp
  refine q_astore_n (i := 2) hx hb (_) d_H_ringed_8 rfl hl (by decide) (fun ls hl => ?_)
  simp only [List.set_cons_succ, List.set_cons_zero] at hl
  refine q_al_n (i := 2) hx hb d_H_ringed_9 rfl hl rfl ?_
  refine q_ifnull (tgt := 24) hx hb d_H_ringed_10 (by decide) (fun c1 => ?_) (fun a c1 => ?_)
  · refine lv_iconst (v := 0) hx hb d_H_ringed_24 (by decide) ?_
    refine s_zret hx hb hr rfl hM ⟨rfl, Or.inr ⟨rfl, fun z => ?_⟩⟩ d_H_ringed_25 hlocks
    rcases hp with ⟨-, e⟩ | ⟨e, -⟩
    · have := (hX0.f6 k.toNatClampNeg).1 z.2
      rw [fl_no (e.symm.trans c1)] at this; cases this
    · exact e z.1
  · rcases hp with ⟨hv, e⟩ | ⟨-, e⟩
    · have hnd : nd k.toNatClampNeg = some a := e.symm.trans c1
      have ka := (hG.nk hnd).2.1
      dsimp only at ka
      have hf := hX0.f6 k.toNatClampNeg
      rw [fl_at hnd] at hf
      dsimp only at hf
      rw [c1] at hl
      refine q_al_n (i := 2) hx hb d_H_ringed_13 rfl hl rfl ?_
      refine s_geti (C := R_N) (T := F_N) (N := 9) (ci := 3) hx hb hg in_N hown hK hM ka rfl 6 (by decide) rfl (hg _ kw_143) (fun _ h9 => h9) d_H_ringed_14 ?_
      refine lv_if_eq (tgt := 24) hx hb d_H_ringed_17 (by decide) (fun c2 => ?_) (fun c2 => ?_)
      · refine lv_iconst (v := 0) hx hb d_H_ringed_24 (by decide) ?_
        refine s_zret hx hb hr rfl hM ⟨rfl, Or.inr ⟨rfl, fun z => ?_⟩⟩ d_H_ringed_25 hlocks
        rw [hf.1 z.2] at c2; cases c2
      · refine lv_iconst (v := 1) hx hb d_H_ringed_20 (by decide) ?_
        refine lv_goto (tgt := 25) hx hb d_H_ringed_21 (by decide) ?_
        refine s_zret hx hb hr rfl hM ⟨rfl, Or.inl ⟨rfl, hv, Classical.byContradiction fun z => c2 (hf.2 z)⟩⟩ d_H_ringed_25 hlocks
    · rw [e] at c1; cases c1
set_option maxHeartbeats 4000000 in
set_option maxRecDepth 100000 in
theorem m_H_touched (l : Launch) (D : va_G) (dA : Nat → ClassId) (S : sS) (sz : Nat) (h0 mm : Nat) (E : Nat → Nat → Prop) (T Rg : Nat → Prop) (wl : List Nat) (rc : Nat) (k : Int32) (hH : Ho S h0 mm E T Rg wl rc) :
    cI l y_H_touched c_H_touched 3 (some .boolean) (rmk 2 0 0) D dA S sz [.ref h0, .int k] (fun x u => u = S ∧ ((x = 1 ∧ vp_in k 16384 ∧ T k.toNatClampNeg) ∨ (x = 0 ∧ ¬ (vp_in k 16384 ∧ T k.toNatClampNeg)))) (0) (0) := by
  obtain ⟨tb, pa, q, na, nd, rd, sr, nr, nc, nn, nf, hZ, hX0⟩ := hH
  obtain ⟨kd, rf, it, lg⟩ := S
  obtain ⟨⟨kh, e0, e1, e2, e3, e4⟩, ⟨kq, eq⟩, hG, hN, hna, hnr⟩ := id hZ
  dsimp only at kh e0 e1 e2 e3 e4 kq eq
  refine s_met (cc := c_H_touched) (maxL := 3) (by decide) rfl (by simp [Value.category]) (by simp [lg_sl, Value.category]) ?_
  intro p e s m args below meth c ls hx hb hr hts hown hlocks hin hml hK hX hsz hM hl
  have hg := gd_hts hts
  have hl : lc ls 3 [some (va_rf (some h0)), some (.int k), none] := hl
  refine q_al_n (i := 0) hx hb d_H_touched_0 rfl hl rfl ?_
  refine s_getr (C := R_H) (T := F_H) (N := 7) (ci := 0) hx hb hg in_H hown hK hM kh rfl 0 (by decide) rfl (hg _ kw_65) (fun _ h9 => h9) d_H_touched_1 ?_
  rw [e0]
  refine q_iload_n (i := 1) hx hb d_H_touched_4 rfl hl rfl ?_
  refine s_callq (r_V 1 [.int k] rfl hx hb hml hown hg (m_T_at l D dA _ _ tb pa nd k hG.1) (hM.pre hK hX) (hM.recv hK hG.1.1 (q := cls.getD 1 (R_H, F_H, 7)) rfl) kw_255 kw_256 kw_257 kw_2 kw_258 (by decide +kernel) ⟨Nat.le_of_ble_eq_true rfl, Nat.le_of_ble_eq_true rfl⟩ rfl rfl hl.sz (by first | exact Nat.le_of_ble_eq_true rfl | simp [rf_cat] | simp [rf_cat, Value.category]) d_H_touched_5 ⟨Nat.le_refl _, Nat.le_refl _⟩ rfl) hM (fun r1 u H locs hp hM => ?_)
  obtain ⟨rfl, hp⟩ := hp
  refine q_astore_n (i := 2) hx hb (_) d_H_touched_8 rfl hl (by decide) (fun ls hl => ?_)
  simp only [List.set_cons_succ, List.set_cons_zero] at hl
  refine q_al_n (i := 2) hx hb d_H_touched_9 rfl hl rfl ?_
  refine q_ifnull (tgt := 24) hx hb d_H_touched_10 (by decide) (fun c1 => ?_) (fun a c1 => ?_)
  · refine lv_iconst (v := 0) hx hb d_H_touched_24 (by decide) ?_
    refine s_zret hx hb hr rfl hM ⟨rfl, Or.inr ⟨rfl, fun z => ?_⟩⟩ d_H_touched_25 hlocks
    rcases hp with ⟨-, e⟩ | ⟨e, -⟩
    · have := (hX0.f5 k.toNatClampNeg).1 z.2
      rw [fl_no (e.symm.trans c1)] at this; cases this
    · exact e z.1
  · rcases hp with ⟨hv, e⟩ | ⟨-, e⟩
    · have hnd : nd k.toNatClampNeg = some a := e.symm.trans c1
      have ka := (hG.nk hnd).2.1
      dsimp only at ka
      have hf := hX0.f5 k.toNatClampNeg
      rw [fl_at hnd] at hf
      dsimp only at hf
      rw [c1] at hl
      refine q_al_n (i := 2) hx hb d_H_touched_13 rfl hl rfl ?_
      refine s_geti (C := R_N) (T := F_N) (N := 9) (ci := 3) hx hb hg in_N hown hK hM ka rfl 5 (by decide) rfl (hg _ kw_142) (fun _ h9 => h9) d_H_touched_14 ?_
      refine lv_if_eq (tgt := 24) hx hb d_H_touched_17 (by decide) (fun c2 => ?_) (fun c2 => ?_)
      · refine lv_iconst (v := 0) hx hb d_H_touched_24 (by decide) ?_
        refine s_zret hx hb hr rfl hM ⟨rfl, Or.inr ⟨rfl, fun z => ?_⟩⟩ d_H_touched_25 hlocks
        rw [hf.1 z.2] at c2; cases c2
      · refine lv_iconst (v := 1) hx hb d_H_touched_20 (by decide) ?_
        refine lv_goto (tgt := 25) hx hb d_H_touched_21 (by decide) ?_
        refine s_zret hx hb hr rfl hM ⟨rfl, Or.inl ⟨rfl, hv, Classical.byContradiction fun z => c2 (hf.2 z)⟩⟩ d_H_touched_25 hlocks
    · rw [e] at c1; cases c1
/-- what links answers -/
def LinksP (E : Nat → Nat → Prop) (k w x : Int32) : Prop := (¬ (vp_in k 16384 ∧ (w = 0 ∨ w = 1)) ∧ x = -1) ∨ (vp_in k 16384 ∧ w = 0 ∧ ∃ n, crd (fun v => E v k.toNatClampNeg) n ∧ x = nI n) ∨ (vp_in k 16384 ∧ w = 1 ∧ ∃ n, crd (fun v => E k.toNatClampNeg v) n ∧ x = nI n)
set_option maxHeartbeats 4000000 in
set_option maxRecDepth 100000 in
theorem m_H_links (l : Launch) (D : va_G) (dA : Nat → ClassId) (S : sS) (sz : Nat) (h0 mm : Nat) (E : Nat → Nat → Prop) (T Rg : Nat → Prop) (wl : List Nat) (rc : Nat) (k w : Int32) (hH : Ho S h0 mm E T Rg wl rc) :
    cI l y_H_links c_H_links 4 (some .int) (rmk 2 0 0) D dA S sz [.ref h0, .int k, .int w] (fun x u => u = S ∧ LinksP E k w x) (0) (0) := by
  obtain ⟨tb, pa, q, na, nd, rd, sr, nr, nc, nn, nf, hZ, hX0⟩ := hH
  obtain ⟨kd, rf, it, lg⟩ := S
  obtain ⟨⟨kh, e0, e1, e2, e3, e4⟩, ⟨kq, eq⟩, hG, hN, hna, hnr⟩ := id hZ
  dsimp only at kh e0 e1 e2 e3 e4 kq eq
  refine s_met (cc := c_H_links) (maxL := 4) (by decide) rfl (by simp [Value.category]) (by simp [lg_sl, Value.category]) ?_
  intro p e s m args below meth c ls hx hb hr hts hown hlocks hin hml hK hX hsz hM hl
  have hg := gd_hts hts
  have hl : lc ls 4 [some (va_rf (some h0)), some (.int k), some (.int w), none] := hl
  have main : vp_in k 16384 → (w = 0 ∨ w = 1) → ∀ (H : Heap) (locs : List Loc), SW D dA (sA (kd, rf, it, lg) sz) s.heap (kd, rf, it, lg) H locs → W p l e (rmk 2 0 0) s m args below meth c H locs 0 0 (MQ below (va_Qi (fun x u => u = (kd, rf, it, lg) ∧ LinksP E k w x) (SB D dA (kd, rf, it, lg) sz) (sA (kd, rf, it, lg) sz)) args s 0 0 (sA (kd, rf, it, lg) sz)) (F0 m 18 ls []) := by
    intro hv hw H locs hM
    refine q_al_n (i := 0) hx hb d_H_links_18 rfl hl rfl ?_
    refine s_getr (C := R_H) (T := F_H) (N := 7) (ci := 0) hx hb hg in_H hown hK hM kh rfl 0 (by decide) rfl (hg _ kw_65) (fun _ h9 => h9) d_H_links_19 ?_
    rw [e0]
    refine q_iload_n (i := 1) hx hb d_H_links_22 rfl hl rfl ?_
    refine s_callq (r_V 1 [.int k] rfl hx hb hml hown hg (m_T_at l D dA _ _ tb pa nd k hG.1) (hM.pre hK hX) (hM.recv hK hG.1.1 (q := cls.getD 1 (R_H, F_H, 7)) rfl) kw_255 kw_256 kw_257 kw_2 kw_258 (by decide +kernel) ⟨Nat.le_of_ble_eq_true rfl, Nat.le_of_ble_eq_true rfl⟩ rfl rfl hl.sz (by first | exact Nat.le_of_ble_eq_true rfl | simp [rf_cat] | simp [rf_cat, Value.category]) d_H_links_23 ⟨Nat.le_refl _, Nat.le_refl _⟩ rfl) hM (fun r1 u H locs hp hM => ?_)
    obtain ⟨rfl, hp⟩ := hp
    have e : r1 = nd k.toNatClampNeg := hp.elim (fun z => z.2) (fun z => absurd hv z.1)
    subst e
    refine q_astore_n (i := 3) hx hb (_) d_H_links_26 rfl hl (by decide) (fun ls hl => ?_)
    simp only [List.set_cons_succ, List.set_cons_zero] at hl
    refine q_al_n (i := 3) hx hb d_H_links_27 rfl hl rfl ?_
    refine q_ifnonnull (tgt := 33) hx hb d_H_links_28 (by decide) (fun a c1 => ?_) (fun c1 => ?_)
    · have ka := (hG.nk c1).2.1
      obtain ⟨-, hrc, -, hsc⟩ := hG.2.1 _ a c1
      dsimp only at ka hrc hsc
      rw [c1] at hl
      refine q_iload_n (i := 2) hx hb d_H_links_33 rfl hl rfl ?_
      refine lv_if_ne (tgt := 44) hx hb d_H_links_34 (by decide) (fun c2 => ?_) (fun c2 => ?_)
      · have hw1 : w = 1 := hw.elim (fun z => absurd z c2) id
        refine q_al_n (i := 3) hx hb d_H_links_44 rfl hl rfl ?_
        refine s_geti (C := R_N) (T := F_N) (N := 9) (ci := 3) hx hb hg in_N hown hK hM ka rfl 3 (by decide) rfl (hg _ kw_138) (fun _ h9 => h9) d_H_links_45 ?_
        rw [hrc]
        refine s_iret hx hb hr hM ⟨rfl, Or.inr (Or.inr ⟨hv, hw1, _, ⟨(rd k.toNatClampNeg).map Prod.snd, (hG.2.2.1 _).2.2.1, fun v => ?_, List.length_map _⟩, rfl⟩)⟩ d_H_links_48 hlocks
        dsimp only; rw [hX0.hE]; exact mem_sn
      · refine q_al_n (i := 3) hx hb d_H_links_37 rfl hl rfl ?_
        refine s_geti (C := R_N) (T := F_N) (N := 9) (ci := 3) hx hb hg in_N hown hK hM ka rfl 4 (by decide) rfl (hg _ kw_141) (fun _ h9 => h9) d_H_links_38 ?_
        rw [hsc]
        refine lv_goto (tgt := 48) hx hb d_H_links_41 (by decide) ?_
        refine s_iret hx hb hr hM ⟨rfl, Or.inr (Or.inl ⟨hv, c2, _, ⟨(sr k.toNatClampNeg).map Prod.snd, hG.srnd _, fun v => ?_, List.length_map _⟩, rfl⟩)⟩ d_H_links_48 hlocks
        dsimp only
        rw [hX0.hE, mem_sn]
        exact ⟨fun ⟨j, hj⟩ => ⟨j, hG.2.2.2.2 _ _ _ hj⟩, fun ⟨j, hj⟩ => ⟨j, (hG.2.2.2.1 _ _ _ hj).2.2.2⟩⟩
    · have hno := (hG.2.2.1 k.toNatClampNeg).2.2.2 c1
      refine lv_iconst (v := 0) hx hb d_H_links_31 (by decide) ?_
      refine s_iret hx hb hr hM ⟨rfl, ?_⟩ d_H_links_32 hlocks
      rcases hw with hw | hw
      · refine Or.inr (Or.inl ⟨hv, hw, 0, ⟨[], List.nodup_nil, fun v => ?_, rfl⟩, rfl⟩)
        dsimp only
        rw [hX0.hE]
        refine ⟨fun z => absurd z (List.not_mem_nil), fun ⟨j, hj⟩ => ?_⟩
        have := (hG.2.2.2.1 _ _ _ hj).2.2.2
        rw [hno.2] at this; cases this
      · refine Or.inr (Or.inr ⟨hv, hw, 0, ⟨[], List.nodup_nil, fun v => ?_, rfl⟩, rfl⟩)
        dsimp only
        rw [hX0.hE]
        refine ⟨fun z => absurd z (List.not_mem_nil), fun ⟨j, hj⟩ => ?_⟩
        rw [hno.1] at hj; cases hj
  refine q_iload_n (i := 1) hx hb d_H_links_0 rfl hl rfl ?_
  refine s_calli (r_S 1 [.int k] rfl hx hb hml hown hg (m_H_isNode l D dA _ _ k) (hM.pre hK hX) kw_266 kw_260 kw_1 kw_261 (by decide +kernel) ⟨Nat.le_of_ble_eq_true rfl, Nat.le_of_ble_eq_true rfl⟩ rfl rfl hl.sz (by first | exact Nat.le_of_ble_eq_true rfl | simp [rf_cat] | simp [rf_cat, Value.category]) d_H_links_1 ⟨Nat.le_refl _, Nat.le_refl _⟩ rfl) hM (fun r1 u H locs hp hM => ?_)
  obtain ⟨rfl, hp⟩ := hp
  refine lv_if_eq (tgt := 16) hx hb d_H_links_4 (by decide) (fun c1 => ?_) (fun c1 => ?_)
  · have hv : ¬ vp_in k 16384 := by
      rcases hp with ⟨e, -⟩ | ⟨-, z⟩
      · rw [e] at c1; cases c1
      · exact z
    refine lv_iconst (v := -1) hx hb d_H_links_16 (by decide) ?_
    exact s_iret hx hb hr hM ⟨rfl, Or.inl ⟨fun z => hv z.1, rfl⟩⟩ d_H_links_17 hlocks
  · have hv : vp_in k 16384 := by
      rcases hp with ⟨-, z⟩ | ⟨e, -⟩
      · exact z
      · exact absurd e c1
    refine q_iload_n (i := 2) hx hb d_H_links_7 rfl hl rfl ?_
    refine lv_if_eq (tgt := 18) hx hb d_H_links_8 (by decide) (fun c2 => ?_) (fun c2 => ?_)
    · exact main hv (Or.inl c2) H locs hM
    · refine q_iload_n (i := 2) hx hb d_H_links_11 rfl hl rfl ?_
      refine lv_iconst (v := 1) hx hb d_H_links_12 (by decide) ?_
      refine lv_icmp_eq (tgt := 18) hx hb d_H_links_13 (by decide) (fun c3 => ?_) (fun c3 => ?_)
      · exact main hv (Or.inr c3) H locs hM
      · refine lv_iconst (v := -1) hx hb d_H_links_16 (by decide) ?_
        exact s_iret hx hb hr hM ⟨rfl, Or.inl ⟨fun z => z.2.elim c2 c3, rfl⟩⟩ d_H_links_17 hlocks
end
section
/-! the graph when a node is made, when a link is fastened, when it is loosened -/
/-- one direction of the chains: the chain of node v begins at its field ff, its length stands in fc -/
def chs (S : sS) (nd : Nat → Option Nat) (R : Nat → List (Nat × Nat)) (ff fc fp fn : Nat) : Prop := ∀ v a, nd v = some a → chI S.2.1 fp fn (S.2.1 a ff) ((R v).map Prod.fst) ∧ S.2.2.1 a fc = nI (R v).length
def lkd (S : sS) (R : Nat → List (Nat × Nat)) : Prop := ∀ v j, j ∈ (R v).map Prod.fst → S.1 j = some (.inl 4)
def ndk (S : sS) (nd : Nat → Option Nat) : Prop := (∀ v a, nd v = some a → S.1 a = some (.inl 3)) ∧ ∀ v w a, nd v = some a → nd w = some a → v = w
/-- no link in two chains -/
def dsj (R : Nat → List (Nat × Nat)) : Prop := ∀ v w j, j ∈ (R v).map Prod.fst → j ∈ (R w).map Prod.fst → v = w
theorem ch_first {rf : Nat → Nat → Option Nat} {fp fn : Nat} {first : Option Nat} {l : List Nat} (h : chI rf fp fn first l) {y : Nat} (hy : first = some y) : y ∈ l := List.mem_of_getElem? (h.1.symm.trans hy)
theorem ch_mem {rf : Nat → Nat → Option Nat} {fp fn : Nat} {first : Option Nat} {l : List Nat} (h : chI rf fp fn first l) {k y : Nat} (hk : k ∈ l) (hy : rf k fn = some y ∨ rf k fp = some y) : y ∈ l := by
  obtain ⟨i, hi⟩ := List.getElem?_of_mem hk
  obtain ⟨a, b⟩ := h.2 i k hi
  rcases hy with z | z
  · exact List.mem_of_getElem? (a.symm.trans z)
  · rw [b] at z
    by_cases e : i = 0
    · rw [if_pos e] at z; cases z
    · rw [if_neg e] at z; exact List.mem_of_getElem? z
theorem er_map {α β : Type} (f : α → β) (l : List α) (i : Nat) : (l.eraseIdx i).map f = (l.map f).eraseIdx i := by
  apply List.ext_getElem?
  intro j
  rw [List.getElem?_map, List.getElem?_eraseIdx, List.getElem?_eraseIdx]
  split <;> simp
theorem half_join {S u : sS} {nd : Nat → Option Nat} {R : Nat → List (Nat × Nat)} {ff fc fp fn v k a x : Nat} (hC : chs S nd R ff fc fp fn) (hlk : lkd S R) (hnk : ndk S nd) (hds : dsj R) (hnd : ((R v).map Prod.fst).Nodup) (hv : nd v = some a) (hk4 : S.1 k = some (.inl 4)) (hkn : ∀ w, k ∉ (R w).map Prod.fst) (hkp : S.2.1 k fp = none) (hpn : fp ≠ fn) (hfn : ff ≠ fn) (hJ : JoinP S k a ff fc fp fn u) :
    chs u nd (va_up R v ((k, x) :: R v)) ff fc fp fn := by
  obtain ⟨j1, j2, j3, j4⟩ := hJ
  have ka := hnk.1 v a hv
  obtain ⟨hch, hct⟩ := hC v a hv
  have nk_ne : ∀ {b c : Nat}, S.1 b = some (.inl 3) → S.1 c = some (.inl 4) → b ≠ c := fun hb hc => sk_d hb hc (by decide)
  have hfl : ∀ y, S.2.1 a ff = some y → y ∈ (R v).map Prod.fst := fun y hy => ch_first hch hy
  intro w aw hw
  by_cases e : w = v
  · subst e
    have ea : aw = a := Option.some.inj (hw.symm.trans hv)
    subst ea
    rw [va_up_self]
    constructor
    · have e1 : u.2.1 aw ff = some k := by rw [j4, if_pos ⟨rfl, rfl⟩]
      rw [e1, List.map_cons]
      have hka : k ≠ aw := (nk_ne ka hk4).symm
      refine chI_push hch hnd ?_ ?_ (fun j hj => ?_) (fun j hj => ?_)
      · rw [j4, if_neg (fun z => hka z.1), if_neg (fun z => hpn z.1.symm), if_pos ⟨rfl, rfl⟩]
      · rw [j4, if_neg (fun z => hka z.1), if_neg (fun z => hkn w (hfl k z.2)), if_neg (fun z => hpn z.2)]; exact hkp
      · have hjk : j ≠ k := fun z => hkn w (by rw [← z]; exact hj)
        rw [j4, if_neg (fun z => nk_ne ka (hlk w j hj) z.1.symm), if_neg (fun z => hpn z.1.symm), if_neg (fun z => hjk z.1)]
      · have hjk : j ≠ k := fun z => hkn w (by rw [← z]; exact hj)
        rw [j4, if_neg (fun z => nk_ne ka (hlk w j hj) z.1.symm)]
        by_cases z : S.2.1 aw ff = some j
        · rw [if_pos ⟨rfl, z⟩, if_pos z]
        · rw [if_neg (fun y => z y.2), if_neg z, if_neg (fun y => hjk y.1)]
    · rw [j3, up2_self, hct, List.length_cons, nI_1]
  · rw [va_up_ne _ _ e]
    have haw : aw ≠ a := fun z => e (hnk.2 w v a (by rw [← z]; exact hw) hv)
    have kaw := hnk.1 w aw hw
    obtain ⟨hcw, hctw⟩ := hC w aw hw
    constructor
    · have e1 : u.2.1 aw ff = S.2.1 aw ff := by
        rw [j4, if_neg (fun z => haw z.1), if_neg (fun z => nk_ne kaw (hlk v aw (hfl aw z.2)) rfl), if_neg (fun z => nk_ne kaw hk4 z.1)]
      rw [e1]
      refine chI_keep hcw (fun j hj => ?_)
      have hjk : j ≠ k := fun z => hkn w (by rw [← z]; exact hj)
      have hja : j ≠ a := (nk_ne ka (hlk w j hj)).symm
      constructor
      · rw [j4, if_neg (fun z => hja z.1), if_neg (fun z => hpn z.1.symm), if_neg (fun z => hjk z.1)]
      · rw [j4, if_neg (fun z => hja z.1), if_neg (fun z => e (hds w v j hj (hfl j z.2))), if_neg (fun z => hjk z.1)]
    · rw [j3, up2_off _ _ haw]; exact hctw
theorem join_other {S u : sS} {nd : Nat → Option Nat} {R Q : Nat → List (Nat × Nat)} {ff fc fp fn gf gc gp gn v k a : Nat} (hC : chs S nd R ff fc fp fn) (hD : chs S nd Q gf gc gp gn) (hlk : lkd S R) (hlq : lkd S Q) (hnk : ndk S nd) (hv : nd v = some a) (hk4 : S.1 k = some (.inl 4)) (hg : gf ≠ ff ∧ gc ≠ fc ∧ gp ≠ fp ∧ gp ≠ fn ∧ gn ≠ fp ∧ gn ≠ fn) (hJ : JoinP S k a ff fc fp fn u) : chs u nd Q gf gc gp gn := by
  obtain ⟨j1, j2, j3, j4⟩ := hJ
  have ka := hnk.1 v a hv
  obtain ⟨hch, -⟩ := hC v a hv
  have nk_ne : ∀ {b c : Nat}, S.1 b = some (.inl 3) → S.1 c = some (.inl 4) → b ≠ c := fun hb hc => sk_d hb hc (by decide)
  have hfl : ∀ y, S.2.1 a ff = some y → y ∈ (R v).map Prod.fst := fun y hy => ch_first hch hy
  intro w aw hw
  have kaw := hnk.1 w aw hw
  obtain ⟨hcw, hctw⟩ := hD w aw hw
  constructor
  · have e1 : u.2.1 aw gf = S.2.1 aw gf := by
      rw [j4, if_neg (fun z => hg.1 z.2), if_neg (fun z => nk_ne kaw (hlk v aw (hfl aw z.2)) rfl), if_neg (fun z => nk_ne kaw hk4 z.1)]
    rw [e1]
    refine chI_keep hcw (fun j hj => ?_)
    have hja : j ≠ a := (nk_ne ka (hlq w j hj)).symm
    constructor
    · rw [j4, if_neg (fun z => hja z.1), if_neg (fun z => hg.2.2.2.2.1 z.1), if_neg (fun z => hg.2.2.2.2.2 z.2)]
    · rw [j4, if_neg (fun z => hja z.1), if_neg (fun z => hg.2.2.1 z.1), if_neg (fun z => hg.2.2.2.1 z.2)]
  · rw [j3, up2_ne _ _ hg.2.1]; exact hctw
theorem half_leave {S u : sS} {nd : Nat → Option Nat} {R : Nat → List (Nat × Nat)} {ff fc fp fn v k a x i : Nat} (hC : chs S nd R ff fc fp fn) (hlk : lkd S R) (hnk : ndk S nd) (hds : dsj R) (hnd : ((R v).map Prod.fst).Nodup) (hv : nd v = some a) (hi : (R v)[i]? = some (k, x)) (hpn : fp ≠ fn) (hff : ff ≠ fp ∧ ff ≠ fn) (hb : ∀ w, (R w).length < 2 ^ 31) (hJ : LeaveP S k a ff fc fp fn u) :
    chs u nd (va_up R v ((R v).eraseIdx i)) ff fc fp fn := by
  obtain ⟨j1, j2, j3, j4⟩ := hJ
  have ka := hnk.1 v a hv
  obtain ⟨hch, hct⟩ := hC v a hv
  have nk_ne : ∀ {b c : Nat}, S.1 b = some (.inl 3) → S.1 c = some (.inl 4) → b ≠ c := fun hb hc => sk_d hb hc (by decide)
  have hki : ((R v).map Prod.fst)[i]? = some k := by rw [List.getElem?_map, hi]; rfl
  have hkm : k ∈ (R v).map Prod.fst := List.mem_of_getElem? hki
  have hil : i < (R v).length := (List.getElem?_eq_some_iff.mp hi).1
  have hN : ∀ y, S.2.1 k fn = some y → y ∈ (R v).map Prod.fst := fun y hy => ch_mem hch hkm (Or.inl hy)
  have hP : ∀ y, S.2.1 k fp = some y → y ∈ (R v).map Prod.fst := fun y hy => ch_mem hch hkm (Or.inr hy)
  intro w aw hw
  by_cases e : w = v
  · subst e
    have ea : aw = a := Option.some.inj (hw.symm.trans hv)
    subst ea
    rw [va_up_self]
    constructor
    · have e1 : u.2.1 aw ff = if S.2.1 k fp = none then S.2.1 k fn else S.2.1 aw ff := by
        rw [j4, if_neg (fun z => hff.1 z.1)]
        by_cases z : S.2.1 k fp = none
        · rw [if_pos z, if_pos z, if_pos ⟨rfl, rfl⟩]
        · rw [if_neg z, if_neg z, if_neg (fun y => hff.2 y.1)]
      rw [e1, er_map]
      refine chI_del hch hnd hki (fun j hj hjk => ?_) (fun j hj hjk => ?_)
      · have hja : j ≠ aw := (nk_ne ka (hlk w j hj)).symm
        rw [j4, if_neg (fun z => hpn z.1.symm)]
        by_cases z : S.2.1 k fp = none
        · rw [if_pos z, if_neg (fun y => hja y.1), if_neg (by rw [z]; exact fun y => by cases y)]
        · rw [if_neg z]
          by_cases y : S.2.1 k fp = some j
          · rw [if_pos ⟨rfl, y⟩, if_pos y]
          · rw [if_neg (fun q => y q.2), if_neg y]
      · have hja : j ≠ aw := (nk_ne ka (hlk w j hj)).symm
        rw [j4]
        by_cases y : S.2.1 k fn = some j
        · rw [if_pos ⟨rfl, y⟩, if_pos y]
        · rw [if_neg (fun q => y q.2), if_neg y]
          by_cases z : S.2.1 k fp = none
          · rw [if_pos z, if_neg (fun y => hja y.1)]
          · rw [if_neg z, if_neg (fun q => hpn q.1)]
    · rw [j3, up2_self, hct, List.length_eraseIdx, if_pos hil]
      have := nI_sub (a := (R w).length) (b := 1) (by omega)
      rw [← this]; rfl
  · rw [va_up_ne _ _ e]
    have haw : aw ≠ a := fun z => e (hnk.2 w v a (by rw [← z]; exact hw) hv)
    have kaw := hnk.1 w aw hw
    obtain ⟨hcw, hctw⟩ := hC w aw hw
    constructor
    · have e1 : u.2.1 aw ff = S.2.1 aw ff := by
        rw [j4, if_neg (fun z => hff.1 z.1)]
        by_cases z : S.2.1 k fp = none
        · rw [if_pos z, if_neg (fun y => haw y.1)]
        · rw [if_neg z, if_neg (fun y => hff.2 y.1)]
      rw [e1]
      refine chI_keep hcw (fun j hj => ?_)
      have hja : j ≠ a := (nk_ne ka (hlk w j hj)).symm
      constructor
      · rw [j4, if_neg (fun z => hpn z.1.symm)]
        by_cases z : S.2.1 k fp = none
        · rw [if_pos z, if_neg (fun y => hja y.1)]
        · rw [if_neg z, if_neg (fun y => e (hds w v j hj (hP j y.2)))]
      · rw [j4, if_neg (fun z => e (hds w v j hj (hN j z.2)))]
        by_cases z : S.2.1 k fp = none
        · rw [if_pos z, if_neg (fun y => hja y.1)]
        · rw [if_neg z, if_neg (fun y => hpn y.1)]
    · rw [j3, up2_off _ _ haw]; exact hctw
theorem leave_other {S u : sS} {nd : Nat → Option Nat} {R Q : Nat → List (Nat × Nat)} {ff fc fp fn gf gc gp gn v k a : Nat} (hC : chs S nd R ff fc fp fn) (hD : chs S nd Q gf gc gp gn) (hlk : lkd S R) (hlq : lkd S Q) (hnk : ndk S nd) (hv : nd v = some a) (hkm : k ∈ (R v).map Prod.fst) (hg : gf ≠ ff ∧ gc ≠ fc ∧ gp ≠ fp ∧ gp ≠ fn ∧ gn ≠ fp ∧ gn ≠ fn) (hJ : LeaveP S k a ff fc fp fn u) : chs u nd Q gf gc gp gn := by
  obtain ⟨j1, j2, j3, j4⟩ := hJ
  have ka := hnk.1 v a hv
  obtain ⟨hch, -⟩ := hC v a hv
  have nk_ne : ∀ {b c : Nat}, S.1 b = some (.inl 3) → S.1 c = some (.inl 4) → b ≠ c := fun hb hc => sk_d hb hc (by decide)
  have hN : ∀ y, S.2.1 k fn = some y → S.1 y = some (.inl 4) := fun y hy => hlk v y (ch_mem hch hkm (Or.inl hy))
  have hP : ∀ y, S.2.1 k fp = some y → S.1 y = some (.inl 4) := fun y hy => hlk v y (ch_mem hch hkm (Or.inr hy))
  intro w aw hw
  have kaw := hnk.1 w aw hw
  obtain ⟨hcw, hctw⟩ := hD w aw hw
  constructor
  · have e1 : u.2.1 aw gf = S.2.1 aw gf := by
      rw [j4, if_neg (fun z => nk_ne kaw (hN aw z.2) rfl)]
      by_cases z : S.2.1 k fp = none
      · rw [if_pos z, if_neg (fun y => hg.1 y.2)]
      · rw [if_neg z, if_neg (fun y => nk_ne kaw (hP aw y.2) rfl)]
    rw [e1]
    refine chI_keep hcw (fun j hj => ?_)
    have hja : j ≠ a := (nk_ne ka (hlq w j hj)).symm
    constructor
    · rw [j4, if_neg (fun z => hg.2.2.2.2.1 z.1)]
      by_cases z : S.2.1 k fp = none
      · rw [if_pos z, if_neg (fun y => hja y.1)]
      · rw [if_neg z, if_neg (fun y => hg.2.2.2.2.2 y.1)]
    · rw [j4, if_neg (fun z => hg.2.2.1 z.1)]
      by_cases z : S.2.1 k fp = none
      · rw [if_pos z, if_neg (fun y => hja y.1)]
      · rw [if_neg z, if_neg (fun y => hg.2.2.2.1 y.1)]
  · rw [j3, up2_ne _ _ hg.2.1]; exact hctw
theorem Tb_dep2 {S u : sS} {tb pa : Nat} {nd : Nat → Option Nat} (h : Tb S tb pa nd) (h1 : ∀ b k, S.1 b = some k → u.1 b = some k) (h2 : ∀ b k, S.1 b = some k → k ≠ .inl 3 → k ≠ .inl 4 → u.2.1 b = S.2.1 b) (hi : ∀ v a, nd v = some a → u.2.2.1 a 0 = S.2.2.1 a 0) : Tb u tb pa nd := by
  obtain ⟨kt, ht, kp, hpgs, hdi, hnd⟩ := h
  have pg : ∀ i g, i < 128 → S.2.1 pa i = some g → u.2.1 g = S.2.1 g := by
    intro i g hi9 hg9
    rcases hpgs i hi9 with ⟨z1, -⟩ | ⟨g2, r9, z1, z2, -⟩
    · rw [z1] at hg9; cases hg9
    · have e : g2 = g := Option.some.inj (z1.symm.trans hg9)
      rw [← e]; exact h2 g2 _ z2 (by decide) (by decide)
  have ep := h2 pa _ kp (fun z => by cases z) (fun z => by cases z)
  have et := h2 tb _ kt (by decide) (by decide)
  refine ⟨h1 _ _ kt, by rw [et]; exact ht, h1 _ _ kp, fun i hi9 => ?_, fun i i' g g' r9 h1 h2 h3 h4 h5 h6 => ?_, fun n a hn => ?_⟩
  · rcases hpgs i hi9 with ⟨z1, z2⟩ | ⟨g, r9, z1, z2, z3, z4, z5⟩
    · exact Or.inl ⟨by rw [ep]; exact z1, z2⟩
    · refine Or.inr ⟨g, r9, by rw [ep]; exact z1, h1 _ _ z2, by rw [h2 g _ z2 (by decide) (by decide)]; exact z3, h1 _ _ z4, fun j hj => ?_⟩
      rw [h2 r9 _ z4 (fun z => by cases z) (fun z => by cases z)]; exact z5 j hj
  · rw [ep] at h3 h4
    rw [pg i g h1 h3] at h5
    rw [pg i' g' h2 h4] at h6
    exact hdi i i' g g' r9 h1 h2 h3 h4 h5 h6
  · obtain ⟨b1, b2, b3⟩ := hnd n a hn
    exact ⟨b1, h1 _ _ b2, by rw [hi n a hn]; exact b3⟩
theorem mem_fs {l : List (Nat × Nat)} {k : Nat} : k ∈ l.map Prod.fst ↔ ∃ u, (k, u) ∈ l := by
  constructor
  · intro h
    obtain ⟨⟨j, w⟩, hm, e⟩ := List.mem_map.mp h
    have e' : j = k := e
    rw [← e']; exact ⟨w, hm⟩
  · rintro ⟨u, h⟩
    exact List.mem_map.mpr ⟨(k, u), h, rfl⟩
section GRP
variable {S : sS} {tb pa : Nat} {nd : Nat → Option Nat} {rd sr : Nat → List (Nat × Nat)}
theorem Gr9.lk1 (h : Gr9 S tb pa nd rd sr) : lkd S rd := fun v j hj => by
  obtain ⟨u, hu⟩ := mem_fs.mp hj
  exact (h.2.2.2.1 v j u hu).1
theorem Gr9.lk2 (h : Gr9 S tb pa nd rd sr) : lkd S sr := fun v j hj => by
  obtain ⟨u, hu⟩ := mem_fs.mp hj
  exact (h.2.2.2.1 u j v (h.2.2.2.2 v j u hu)).1
theorem Gr9.nkk (h : Gr9 S tb pa nd rd sr) : ndk S nd := ⟨fun _ _ hv => (h.nk hv).2.1, fun _ _ _ hv hw => h.inj hv hw⟩
theorem Gr9.ds1 (h : Gr9 S tb pa nd rd sr) : dsj rd := fun v w j hv hw => by
  obtain ⟨x, hx⟩ := mem_fs.mp hv
  obtain ⟨y, hy⟩ := mem_fs.mp hw
  obtain ⟨-, ⟨a, h1, h2⟩, -⟩ := h.2.2.2.1 v j x hx
  obtain ⟨-, ⟨b, h3, h4⟩, -⟩ := h.2.2.2.1 w j y hy
  have e : a = b := Option.some.inj (h2.symm.trans h4)
  subst e
  exact h.inj h1 h3
theorem Gr9.ds2 (h : Gr9 S tb pa nd rd sr) : dsj sr := fun v w j hv hw => by
  obtain ⟨x, hx⟩ := mem_fs.mp hv
  obtain ⟨y, hy⟩ := mem_fs.mp hw
  obtain ⟨-, -, ⟨a, h1, h2⟩, -⟩ := h.2.2.2.1 x j v (h.2.2.2.2 v j x hx)
  obtain ⟨-, -, ⟨b, h3, h4⟩, -⟩ := h.2.2.2.1 y j w (h.2.2.2.2 w j y hy)
  have e : a = b := Option.some.inj (h2.symm.trans h4)
  subst e
  exact h.inj h1 h3
theorem Gr9.c1 (h : Gr9 S tb pa nd rd sr) : chs S nd rd 1 3 2 3 := fun v a hv => ⟨(h.2.1 v a hv).1, (h.2.1 v a hv).2.1⟩
theorem Gr9.c2 (h : Gr9 S tb pa nd rd sr) : chs S nd sr 2 4 4 5 := fun v a hv => ⟨(h.2.1 v a hv).2.2.1, (h.2.1 v a hv).2.2.2⟩
end GRP
theorem join_rf {S u : sS} {k a ff fc fp fn b i : Nat} (hJ : JoinP S k a ff fc fp fn u) (h1 : b ≠ a ∨ i ≠ ff) (h2 : i ≠ fp) (h3 : i ≠ fn) : u.2.1 b i = S.2.1 b i := by
  rw [hJ.2.2.2, if_neg (fun z => h1.elim (fun y => y z.1) (fun y => y z.2)), if_neg (fun z => h2 z.1), if_neg (fun z => h3 z.2)]
theorem leave_rf {S u : sS} {k a ff fc fp fn b i : Nat} (hJ : LeaveP S k a ff fc fp fn u) (h1 : b ≠ a ∨ i ≠ ff) (h2 : i ≠ fp) (h3 : i ≠ fn) : u.2.1 b i = S.2.1 b i := by
  rw [hJ.2.2.2, if_neg (fun z => h2 z.1)]
  by_cases z : S.2.1 k fp = none
  · rw [if_pos z, if_neg (fun z => h1.elim (fun y => y z.1) (fun y => y z.2))]
  · rw [if_neg z, if_neg (fun z => h3 z.1)]
/-- which cells are nodes or links -/
def isNK (S : sS) (b : Nat) : Prop := S.1 b = some (.inl 3) ∨ S.1 b = some (.inl 4)
/-- a link is fastened -/
theorem Gr9_link {S S1 u1 u : sS} {tb pa : Nat} {nd : Nat → Option Nat} {rd sr : Nat → List (Nat × Nat)} {k a b v w : Nat} (h : Gr9 S tb pa nd rd sr) (hv : nd v = some a) (hw : nd w = some b) (hk4 : S.1 k = some (.inl 4)) (hkr : ∀ i, 2 ≤ i → S.2.1 k i = none) (hkn : ∀ x y, (k, y) ∉ rd x) (hno : ¬ rE rd v w)
    (hS1 : S1 = (S.1, up2 (up2 S.2.1 k 0 (some a)) k 1 (some b), S.2.2.1, S.2.2.2)) (hJ1 : JoinP S1 k a 1 3 2 3 u1) (hJ2 : JoinP u1 k b 2 4 4 5 u) :
    Gr9 u tb pa nd (va_up rd v ((k, w) :: rd v)) (va_up sr w ((k, v) :: sr w)) ∧ sFr S u (isNK S) ∧ (∀ x ax i, nd x = some ax → i ≠ 3 → i ≠ 4 → u.2.2.1 ax i = S.2.2.1 ax i) ∧ (∀ i, u.2.2.1 k i = S.2.2.1 k i) ∧ u.1 = S.1 := by
  have ka := (h.nk hv).2.1
  have kb := (h.nk hw).2.1
  have nk_ne : ∀ {b c : Nat}, S.1 b = some (.inl 3) → S.1 c = some (.inl 4) → b ≠ c := fun hb hc => sk_d hb hc (by decide)
  have e1 : S1.1 = S.1 := by rw [hS1]
  have e3 : S1.2.2.1 = S.2.2.1 := by rw [hS1]
  have r1 : ∀ x i, x ≠ k ∨ 2 ≤ i → S1.2.1 x i = S.2.1 x i := by
    intro x i hx
    rw [hS1]
    show up2 (up2 S.2.1 k 0 (some a)) k 1 (some b) x i = _
    rcases hx with hx | hx
    · rw [up2_off _ _ hx, up2_off _ _ hx]
    · rw [up2_ne _ _ (by omega), up2_ne _ _ (by omega)]
  have hkf1 : ∀ x, k ∉ (rd x).map Prod.fst := fun x z => by obtain ⟨y, hy⟩ := mem_fs.mp z; exact hkn x y hy
  have hkf2 : ∀ x, k ∉ (sr x).map Prod.fst := fun x z => by obtain ⟨y, hy⟩ := mem_fs.mp z; exact hkn y x (h.2.2.2.2 x k y hy)
  have hrow : ∀ x, S1.1 x = some (.inl 3) → S1.2.1 x = S.2.1 x := fun x hx => funext fun i => r1 x i (Or.inl (nk_ne (by rw [← e1]; exact hx) hk4))
  have hC1 : chs S1 nd rd 1 3 2 3 := by
    intro x ax hx
    obtain ⟨c1, c2⟩ := h.c1 x ax hx
    have kx := (h.nk hx).2.1
    refine ⟨?_, by rw [e3]; exact c2⟩
    rw [r1 ax 1 (Or.inl (nk_ne kx hk4))]
    exact chI_keep c1 (fun j hj => ⟨r1 j 3 (Or.inr (by decide)), r1 j 2 (Or.inr (by decide))⟩)
  have hC2 : chs S1 nd sr 2 4 4 5 := by
    intro x ax hx
    obtain ⟨c1, c2⟩ := h.c2 x ax hx
    have kx := (h.nk hx).2.1
    refine ⟨?_, by rw [e3]; exact c2⟩
    rw [r1 ax 2 (Or.inr (by decide))]
    exact chI_keep c1 (fun j hj => ⟨r1 j 5 (Or.inr (by decide)), r1 j 4 (Or.inr (by decide))⟩)
  have lk1 : lkd S1 rd := fun x j hj => by rw [e1]; exact h.lk1 x j hj
  have lk2 : lkd S1 sr := fun x j hj => by rw [e1]; exact h.lk2 x j hj
  have nk1 : ndk S1 nd := ⟨fun x ax hx => by rw [e1]; exact h.nkk.1 x ax hx, h.nkk.2⟩
  have f1 := half_join (x := w) hC1 lk1 nk1 h.ds1 (h.2.2.1 v).1 hv (by rw [e1]; exact hk4) hkf1 (by rw [r1 k 2 (Or.inr (by decide))]; exact hkr 2 (by decide)) (by decide) (by decide) hJ1
  have f2 := join_other hC1 hC2 lk1 lk2 nk1 hv (by rw [e1]; exact hk4) (by decide) hJ1
  have eu1 : u1.1 = S.1 := hJ1.1.trans e1
  have lk1' : lkd u1 (va_up rd v ((k, w) :: rd v)) := by
    intro x j hj
    rw [eu1]
    by_cases e : x = v
    · rw [e, va_up_self, List.map_cons, List.mem_cons] at hj
      rcases hj with z | z
      · rw [z]; exact hk4
      · exact h.lk1 v j z
    · rw [va_up_ne _ _ e] at hj; exact h.lk1 x j hj
  have lk2' : lkd u1 sr := fun x j hj => by rw [eu1]; exact h.lk2 x j hj
  have nk2 : ndk u1 nd := ⟨fun x ax hx => by rw [eu1]; exact h.nkk.1 x ax hx, h.nkk.2⟩
  have hfa : ∀ y, S1.2.1 a 1 = some y → S.1 y = some (.inl 4) := fun y hy => h.lk1 v y (ch_first (hC1 v a hv).1 hy)
  have hk4r : u1.2.1 k 4 = none := by
    rw [join_rf hJ1 (Or.inr (by decide)) (by decide) (by decide), r1 k 4 (Or.inr (by decide))]; exact hkr 4 (by decide)
  have g2 := half_join (x := v) f2 lk2' nk2 h.ds2 (h.2.2.1 w).2.1 hw (by rw [eu1]; exact hk4) hkf2 hk4r (by decide) (by decide) hJ2
  have g1 := join_other f2 f1 lk2' lk1' nk2 hw (by rw [eu1]; exact hk4) (by decide) hJ2
  have eu : u.1 = S.1 := hJ2.1.trans eu1
  have hfb : ∀ y, u1.2.1 b 2 = some y → S.1 y = some (.inl 4) := fun y hy => h.lk2 w y (ch_first (f2 w b hw).1 hy)
  have hother : ∀ x, S.1 x ≠ some (.inl 3) → S.1 x ≠ some (.inl 4) → u.2.1 x = S.2.1 x := by
    intro x h3 h4
    funext i
    have hxk : x ≠ k := fun z => h4 (by rw [z]; exact hk4)
    rw [hJ2.2.2.2, if_neg (fun z => h3 (by rw [z.1]; exact kb)), if_neg (fun z => h4 (hfb x z.2)), if_neg (fun z => hxk z.1), hJ1.2.2.2, if_neg (fun z => h3 (by rw [z.1]; exact ka)), if_neg (fun z => h4 (hfa x z.2)), if_neg (fun z => hxk z.1)]
    exact r1 x i (Or.inl hxk)
  have hit : u.2.2.1 = up2 (up2 S.2.2.1 a 3 (S.2.2.1 a 3 + 1)) b 4 (u1.2.2.1 b 4 + 1) := by rw [hJ2.2.2.1, hJ1.2.2.1, e3]
  have hlg : u.2.2.2 = S.2.2.2 := by rw [hJ2.2.1, hJ1.2.1, hS1]
  have hito : ∀ x i, (x ≠ a ∨ i ≠ 3) → (x ≠ b ∨ i ≠ 4) → u.2.2.1 x i = S.2.2.1 x i := by
    intro x i q1 q2
    rw [hit]
    have z2 : up2 (up2 S.2.2.1 a 3 (S.2.2.1 a 3 + 1)) b 4 (u1.2.2.1 b 4 + 1) x i = up2 S.2.2.1 a 3 (S.2.2.1 a 3 + 1) x i := by
      rcases q2 with z | z
      · rw [up2_off _ _ z]
      · rw [up2_ne _ _ z]
    rw [z2]
    rcases q1 with z | z
    · rw [up2_off _ _ z]
    · rw [up2_ne _ _ z]
  have hl01 : ∀ j i, S.1 j = some (.inl 4) → i < 2 → u.2.1 j i = S1.2.1 j i := by
    intro j i hj hi
    rw [join_rf hJ2 (Or.inr (by omega)) (by omega) (by omega), join_rf hJ1 (Or.inl (nk_ne ka hj).symm) (by omega) (by omega)]
  refine ⟨⟨?_, fun x ax hx => ⟨(g1 x ax hx).1, (g1 x ax hx).2, (g2 x ax hx).1, (g2 x ax hx).2⟩, fun x => ?_, fun x j y hj => ?_, fun y j x hj => ?_⟩, fun x hx => ⟨by rw [eu], fun hn => ⟨hother x (fun z => hn (Or.inl z)) (fun z => hn (Or.inr z)), ?_, by rw [hlg]⟩⟩, fun x ax i hx i3 i4 => hito ax i (Or.inr i3) (Or.inr i4), fun i => hito k i (Or.inl (nk_ne ka hk4).symm) (Or.inl (nk_ne kb hk4).symm), eu⟩
  · refine Tb_dep2 h.1 (fun x kx hx => by rw [eu]; exact hx) (fun x kx hx h3 h4 => ?_) (fun x ax hx => hito ax 0 (Or.inr (by decide)) (Or.inr (by decide)))
    exact hother x (by rw [hx]; exact fun z => h3 (Option.some.inj z)) (by rw [hx]; exact fun z => h4 (Option.some.inj z))
  · obtain ⟨n1, n2, n3, n4⟩ := h.2.2.1 x
    refine ⟨?_, ?_, ?_, fun hx => ?_⟩
    · by_cases e : x = v
      · rw [e, va_up_self, List.map_cons, List.nodup_cons]; exact ⟨hkf1 v, (h.2.2.1 v).1⟩
      · rw [va_up_ne _ _ e]; exact n1
    · by_cases e : x = w
      · rw [e, va_up_self, List.map_cons, List.nodup_cons]; exact ⟨hkf2 w, (h.2.2.1 w).2.1⟩
      · rw [va_up_ne _ _ e]; exact n2
    · by_cases e : x = v
      · rw [e, va_up_self, List.map_cons, List.nodup_cons]; exact ⟨fun z => hno (mem_sn.mp z), (h.2.2.1 v).2.2.1⟩
      · rw [va_up_ne _ _ e]; exact n3
    · have exv : x ≠ v := fun z => by rw [z, hv] at hx; cases hx
      have exw : x ≠ w := fun z => by rw [z, hw] at hx; cases hx
      rw [va_up_ne _ _ exv, va_up_ne _ _ exw]; exact n4 hx
  · have old : (j, y) ∈ rd x → u.1 j = some (.inl 4) ∧ (∃ ax, nd x = some ax ∧ u.2.1 j 0 = some ax) ∧ (∃ by', nd y = some by' ∧ u.2.1 j 1 = some by') ∧ (j, x) ∈ va_up sr w ((k, v) :: sr w) y := by
      intro hm
      obtain ⟨d1, ⟨ax, d2, d3⟩, ⟨bx, d4, d5⟩, d6⟩ := h.2.2.2.1 x j y hm
      have hjk : j ≠ k := fun z => hkn x y (by rw [← z]; exact hm)
      refine ⟨by rw [eu]; exact d1, ⟨ax, d2, by rw [hl01 j 0 d1 (by decide), r1 j 0 (Or.inl hjk)]; exact d3⟩, ⟨bx, d4, by rw [hl01 j 1 d1 (by decide), r1 j 1 (Or.inl hjk)]; exact d5⟩, ?_⟩
      by_cases e : y = w
      · rw [e, va_up_self]; rw [e] at d6; exact List.mem_cons_of_mem _ d6
      · rw [va_up_ne _ _ e]; exact d6
    by_cases e : x = v
    · rw [e, va_up_self, List.mem_cons] at hj
      rcases hj with z | z
      · have z1 : j = k := congrArg Prod.fst z
        have z2 : y = w := congrArg Prod.snd z
        rw [z1, z2, e]
        refine ⟨by rw [eu]; exact hk4, ⟨a, hv, ?_⟩, ⟨b, hw, ?_⟩, by rw [va_up_self]; exact List.mem_cons_self⟩
        · rw [hl01 k 0 hk4 (by decide), hS1]
          show up2 (up2 S.2.1 k 0 (some a)) k 1 (some b) k 0 = some a
          rw [up2_ne _ _ (by decide), up2_self]
        · rw [hl01 k 1 hk4 (by decide), hS1]
          show up2 (up2 S.2.1 k 0 (some a)) k 1 (some b) k 1 = some b
          rw [up2_self]
      · rw [e]; rw [e] at old; exact old z
    · rw [va_up_ne _ _ e] at hj; exact old hj
  · have old : (j, x) ∈ sr y → (j, y) ∈ va_up rd v ((k, w) :: rd v) x := by
      intro hm
      have := h.2.2.2.2 y j x hm
      by_cases e : x = v
      · rw [e, va_up_self]; rw [e] at this; exact List.mem_cons_of_mem _ this
      · rw [va_up_ne _ _ e]; exact this
    by_cases e : y = w
    · rw [e, va_up_self, List.mem_cons] at hj
      rcases hj with z | z
      · have z1 : j = k := congrArg Prod.fst z
        have z2 : x = v := congrArg Prod.snd z
        rw [z1, z2, e, va_up_self]; exact List.mem_cons_self
      · rw [← e] at z; exact old z
    · rw [va_up_ne _ _ e] at hj; exact old hj
  · funext i
    refine hito x i (Or.inl fun z => hn (Or.inl (by rw [z]; exact ka))) (Or.inl fun z => hn (Or.inl (by rw [z]; exact kb)))
end
section
/-- a link is loosened -/
theorem Gr9_unlink {S u1 u : sS} {tb pa : Nat} {nd : Nat → Option Nat} {rd sr : Nat → List (Nat × Nat)} {k a b v w i j : Nat} (h : Gr9 S tb pa nd rd sr) (hv : nd v = some a) (hw : nd w = some b) (hi : (rd v)[i]? = some (k, w)) (hj : (sr w)[j]? = some (k, v)) (hb1 : ∀ x, (rd x).length < 2 ^ 31) (hb2 : ∀ x, (sr x).length < 2 ^ 31)
    (hJ1 : LeaveP S k a 1 3 2 3 u1) (hJ2 : LeaveP u1 k b 2 4 4 5 u) :
    Gr9 u tb pa nd (va_up rd v ((rd v).eraseIdx i)) (va_up sr w ((sr w).eraseIdx j)) ∧ sFr S u (isNK S) ∧ (∀ x ax i, nd x = some ax → i ≠ 3 → i ≠ 4 → u.2.2.1 ax i = S.2.2.1 ax i) ∧ u.1 = S.1 ∧ (∀ y, (∃ c, (c, y) ∈ (rd v).eraseIdx i) ↔ rE rd v y ∧ y ≠ w) ∧ ((rd v).eraseIdx i).length + 1 = (rd v).length := by
  have ka := (h.nk hv).2.1
  have kb := (h.nk hw).2.1
  have nk_ne : ∀ {b c : Nat}, S.1 b = some (.inl 3) → S.1 c = some (.inl 4) → b ≠ c := fun hb hc => sk_d hb hc (by decide)
  have hkm : (k, w) ∈ rd v := List.mem_of_getElem? hi
  have hk4 := (h.2.2.2.1 v k w hkm).1
  have hkf1 : k ∈ (rd v).map Prod.fst := mem_fs.mpr ⟨w, hkm⟩
  have hkf2 : k ∈ (sr w).map Prod.fst := mem_fs.mpr ⟨v, List.mem_of_getElem? hj⟩
  have f1 := half_leave h.c1 h.lk1 h.nkk h.ds1 (h.2.2.1 v).1 hv hi (by decide) (by decide) hb1 hJ1
  have f2 := leave_other h.c1 h.c2 h.lk1 h.lk2 h.nkk hv hkf1 (by decide) hJ1
  have eu1 : u1.1 = S.1 := hJ1.1
  have ers : ∀ {l : List (Nat × Nat)} {i : Nat} {x : Nat × Nat}, x ∈ l.eraseIdx i → x ∈ l := fun hx => List.mem_of_mem_eraseIdx hx
  have lk1' : lkd u1 (va_up rd v ((rd v).eraseIdx i)) := by
    intro x c hc
    rw [eu1]
    obtain ⟨y, hy⟩ := mem_fs.mp hc
    by_cases e : x = v
    · rw [e, va_up_self] at hy; exact h.lk1 v c (mem_fs.mpr ⟨y, ers hy⟩)
    · rw [va_up_ne _ _ e] at hy; exact h.lk1 x c (mem_fs.mpr ⟨y, hy⟩)
  have lk2' : lkd u1 sr := fun x j hj => by rw [eu1]; exact h.lk2 x j hj
  have nk2 : ndk u1 nd := ⟨fun x ax hx => by rw [eu1]; exact h.nkk.1 x ax hx, h.nkk.2⟩
  have g2 := half_leave f2 lk2' nk2 h.ds2 (h.2.2.1 w).2.1 hw hj (by decide) (by decide) hb2 hJ2
  have g1 := leave_other f2 f1 lk2' lk1' nk2 hw hkf2 (by decide) hJ2
  have eu : u.1 = S.1 := hJ2.1.trans eu1
  have n1 : ∀ y, S.2.1 k 3 = some y → S.1 y = some (.inl 4) := fun y hy => h.lk1 v y (ch_mem (h.c1 v a hv).1 hkf1 (Or.inl hy))
  have p1 : ∀ y, S.2.1 k 2 = some y → S.1 y = some (.inl 4) := fun y hy => h.lk1 v y (ch_mem (h.c1 v a hv).1 hkf1 (Or.inr hy))
  have n2 : ∀ y, u1.2.1 k 5 = some y → S.1 y = some (.inl 4) := fun y hy => h.lk2 w y (ch_mem (f2 w b hw).1 hkf2 (Or.inl hy))
  have p2 : ∀ y, u1.2.1 k 4 = some y → S.1 y = some (.inl 4) := fun y hy => h.lk2 w y (ch_mem (f2 w b hw).1 hkf2 (Or.inr hy))
  have hother : ∀ x, S.1 x ≠ some (.inl 3) → S.1 x ≠ some (.inl 4) → u.2.1 x = S.2.1 x := by
    intro x h3 h4
    funext c
    have s1 : u1.2.1 x c = S.2.1 x c := by
      rw [hJ1.2.2.2, if_neg (fun z => h4 (n1 x z.2))]
      by_cases z : S.2.1 k 2 = none
      · rw [if_pos z, if_neg (fun y => h3 (by rw [y.1]; exact ka))]
      · rw [if_neg z, if_neg (fun y => h4 (p1 x y.2))]
    rw [← s1, hJ2.2.2.2, if_neg (fun z => h4 (n2 x z.2))]
    by_cases z : u1.2.1 k 4 = none
    · rw [if_pos z, if_neg (fun y => h3 (by rw [y.1]; exact kb))]
    · rw [if_neg z, if_neg (fun y => h4 (p2 x y.2))]
  have hit : u.2.2.1 = up2 (up2 S.2.2.1 a 3 (S.2.2.1 a 3 - 1)) b 4 (u1.2.2.1 b 4 - 1) := by rw [hJ2.2.2.1, hJ1.2.2.1]
  have hlg : u.2.2.2 = S.2.2.2 := by rw [hJ2.2.1, hJ1.2.1]
  have hito : ∀ x c, (x ≠ a ∨ c ≠ 3) → (x ≠ b ∨ c ≠ 4) → u.2.2.1 x c = S.2.2.1 x c := by
    intro x c q1 q2
    rw [hit]
    have z2 : up2 (up2 S.2.2.1 a 3 (S.2.2.1 a 3 - 1)) b 4 (u1.2.2.1 b 4 - 1) x c = up2 S.2.2.1 a 3 (S.2.2.1 a 3 - 1) x c := by
      rcases q2 with z | z
      · rw [up2_off _ _ z]
      · rw [up2_ne _ _ z]
    rw [z2]
    rcases q1 with z | z
    · rw [up2_off _ _ z]
    · rw [up2_ne _ _ z]
  have hl01 : ∀ c i, S.1 c = some (.inl 4) → i < 2 → u.2.1 c i = S.2.1 c i := by
    intro c i hc hi
    rw [leave_rf hJ2 (Or.inr (by omega)) (by omega) (by omega), leave_rf hJ1 (Or.inl (nk_ne ka hc).symm) (by omega) (by omega)]
  have hin : ∀ c y, (c, y) ∈ rd v → ((c, y) ∈ (rd v).eraseIdx i ↔ c ≠ k) := by
    intro c y hm
    obtain ⟨i2, hi2⟩ := List.getElem?_of_mem hm
    rw [List.mem_eraseIdx_iff_getElem?]
    constructor
    · rintro ⟨i3, h3, h4⟩ z
      have q1 : ((rd v).map Prod.fst)[i]? = some k := by rw [List.getElem?_map, hi]; rfl
      have q2 : ((rd v).map Prod.fst)[i3]? = some k := by rw [List.getElem?_map, h4, z]; rfl
      exact h3 (nd_ij (h.2.2.1 v).1 q2 q1)
    · intro z
      refine ⟨i2, fun e => ?_, hi2⟩
      rw [e, hi] at hi2
      exact z (congrArg Prod.fst (Option.some.inj hi2)).symm
  have hin2 : ∀ c y, (c, y) ∈ sr w → ((c, y) ∈ (sr w).eraseIdx j ↔ c ≠ k) := by
    intro c y hm
    obtain ⟨i2, hi2⟩ := List.getElem?_of_mem hm
    rw [List.mem_eraseIdx_iff_getElem?]
    constructor
    · rintro ⟨i3, h3, h4⟩ z
      have q1 : ((sr w).map Prod.fst)[j]? = some k := by rw [List.getElem?_map, hj]; rfl
      have q2 : ((sr w).map Prod.fst)[i3]? = some k := by rw [List.getElem?_map, h4, z]; rfl
      exact h3 (nd_ij (h.2.2.1 w).2.1 q2 q1)
    · intro z
      refine ⟨i2, fun e => ?_, hi2⟩
      rw [e, hj] at hi2
      exact z (congrArg Prod.fst (Option.some.inj hi2)).symm
  have hrdin : ∀ x c y, (c, y) ∈ va_up rd v ((rd v).eraseIdx i) x → (c, y) ∈ rd x ∧ c ≠ k := by
    intro x c y hm
    by_cases e : x = v
    · rw [e, va_up_self] at hm
      rw [e]
      exact ⟨ers hm, (hin c y (ers hm)).mp hm⟩
    · rw [va_up_ne _ _ e] at hm
      exact ⟨hm, fun z => e (h.ds1 x v k (mem_fs.mpr ⟨y, by rw [← z]; exact hm⟩) hkf1)⟩
  have hrdof : ∀ x c y, (c, y) ∈ rd x → c ≠ k → (c, y) ∈ va_up rd v ((rd v).eraseIdx i) x := by
    intro x c y hm hc
    by_cases e : x = v
    · rw [e, va_up_self]; rw [e] at hm; exact (hin c y hm).mpr hc
    · rw [va_up_ne _ _ e]; exact hm
  have hsrin : ∀ x c y, (c, y) ∈ va_up sr w ((sr w).eraseIdx j) x → (c, y) ∈ sr x ∧ c ≠ k := by
    intro x c y hm
    by_cases e : x = w
    · rw [e, va_up_self] at hm
      rw [e]
      exact ⟨ers hm, (hin2 c y (ers hm)).mp hm⟩
    · rw [va_up_ne _ _ e] at hm
      exact ⟨hm, fun z => e (h.ds2 x w k (mem_fs.mpr ⟨y, by rw [← z]; exact hm⟩) hkf2)⟩
  have hsrof : ∀ x c y, (c, y) ∈ sr x → c ≠ k → (c, y) ∈ va_up sr w ((sr w).eraseIdx j) x := by
    intro x c y hm hc
    by_cases e : x = w
    · rw [e, va_up_self]; rw [e] at hm; exact (hin2 c y hm).mpr hc
    · rw [va_up_ne _ _ e]; exact hm
  have hil : i < (rd v).length := (List.getElem?_eq_some_iff.mp hi).1
  refine ⟨⟨?_, fun x ax hx => ⟨(g1 x ax hx).1, (g1 x ax hx).2, (g2 x ax hx).1, (g2 x ax hx).2⟩, fun x => ?_, fun x c y hc => ?_, fun y c x hc => ?_⟩, fun x hx => ⟨by rw [eu], fun hn => ⟨hother x (fun z => hn (Or.inl z)) (fun z => hn (Or.inr z)), ?_, by rw [hlg]⟩⟩, fun x ax i hx i3 i4 => hito ax i (Or.inr i3) (Or.inr i4), eu, fun y => ?_, by rw [List.length_eraseIdx, if_pos hil]; omega⟩
  · refine Tb_dep2 h.1 (fun x kx hx => by rw [eu]; exact hx) (fun x kx hx h3 h4 => ?_) (fun x ax hx => hito ax 0 (Or.inr (by decide)) (Or.inr (by decide)))
    exact hother x (by rw [hx]; exact fun z => h3 (Option.some.inj z)) (by rw [hx]; exact fun z => h4 (Option.some.inj z))
  · obtain ⟨n1, n2, n3, n4⟩ := h.2.2.1 x
    refine ⟨?_, ?_, ?_, fun hx => ?_⟩
    · by_cases e : x = v
      · rw [e, va_up_self, er_map]; exact (h.2.2.1 v).1.sublist (List.eraseIdx_sublist _ _)
      · rw [va_up_ne _ _ e]; exact n1
    · by_cases e : x = w
      · rw [e, va_up_self, er_map]; exact (h.2.2.1 w).2.1.sublist (List.eraseIdx_sublist _ _)
      · rw [va_up_ne _ _ e]; exact n2
    · by_cases e : x = v
      · rw [e, va_up_self, er_map]; exact (h.2.2.1 v).2.2.1.sublist (List.eraseIdx_sublist _ _)
      · rw [va_up_ne _ _ e]; exact n3
    · have exv : x ≠ v := fun z => by rw [z, hv] at hx; cases hx
      have exw : x ≠ w := fun z => by rw [z, hw] at hx; cases hx
      rw [va_up_ne _ _ exv, va_up_ne _ _ exw]; exact n4 hx
  · obtain ⟨hm, hck⟩ := hrdin x c y hc
    obtain ⟨d1, ⟨ax, d2, d3⟩, ⟨bx, d4, d5⟩, d6⟩ := h.2.2.2.1 x c y hm
    exact ⟨by rw [eu]; exact d1, ⟨ax, d2, by rw [hl01 c 0 d1 (by decide)]; exact d3⟩, ⟨bx, d4, by rw [hl01 c 1 d1 (by decide)]; exact d5⟩, hsrof y c x d6 hck⟩
  · obtain ⟨hm, hck⟩ := hsrin y c x hc
    exact hrdof x c y (h.2.2.2.2 y c x hm) hck
  · funext c
    exact hito x c (Or.inl fun z => hn (Or.inl (by rw [z]; exact ka))) (Or.inl fun z => hn (Or.inl (by rw [z]; exact kb)))
  · constructor
    · rintro ⟨c, hc⟩
      have hm := ers hc
      refine ⟨⟨c, hm⟩, fun z => (hin c y hm).mp hc ?_⟩
      rw [z] at hm
      obtain ⟨i2, hi2⟩ := List.getElem?_of_mem hm
      have q1 : ((rd v).map Prod.snd)[i]? = some w := by rw [List.getElem?_map, hi]; rfl
      have q2 : ((rd v).map Prod.snd)[i2]? = some w := by rw [List.getElem?_map, hi2]; rfl
      have e := nd_ij (h.2.2.1 v).2.2.1 q2 q1
      rw [e, hi] at hi2
      exact (congrArg Prod.fst (Option.some.inj hi2)).symm
    · rintro ⟨⟨c, hm⟩, hne⟩
      refine ⟨c, (hin c y hm).mpr fun z => hne ?_⟩
      obtain ⟨i2, hi2⟩ := List.getElem?_of_mem hm
      have q1 : ((rd v).map Prod.fst)[i]? = some k := by rw [List.getElem?_map, hi]; rfl
      have q2 : ((rd v).map Prod.fst)[i2]? = some k := by rw [List.getElem?_map, hi2, z]; rfl
      have e := nd_ij (h.2.2.1 v).1 q2 q1
      rw [e, hi] at hi2
      exact (congrArg Prod.snd (Option.some.inj hi2)).symm
/-- a node is made, or was there -/
theorem Gr9_of {S u : sS} {tb pa j a : Nat} {nd : Nat → Option Nat} {rd sr : Nat → List (Nat × Nat)} (h : Gr9 S tb pa nd rd sr) (hO : OfP S tb pa nd j a u) : Gr9 u tb pa (va_up nd j (some a)) rd sr ∧ (∀ i v, i ≠ 0 → fl u (va_up nd j (some a)) i v = fl S nd i v) ∧ (∀ v b, nd v = some b → va_up nd j (some a) v = some b) := by
  obtain ⟨hT, hor, hF, hnew⟩ := hO
  have keep : ∀ {b c : Nat}, S.1 b = some (.inl c) → u.1 b = some (.inl c) ∧ u.2.1 b = S.2.1 b ∧ u.2.2.1 b = S.2.2.1 b := by
    intro b c hb
    obtain ⟨a1, a2⟩ := hF b (sk_nn hb)
    have hn : ¬ isRA S b := fun ⟨t, n, hk, _⟩ => by rw [hb] at hk; cases hk
    obtain ⟨x1, x2, -⟩ := a2 hn
    exact ⟨by rw [a1]; exact hb, x1, x2⟩
  have hmono : ∀ v b, nd v = some b → va_up nd j (some a) v = some b := by
    intro v b hv
    by_cases e : v = j
    · rw [e, va_up_self]
      rcases hor with z | ⟨z, -⟩
      · rw [e, z] at hv; exact hv
      · rw [e, z] at hv; cases hv
    · rw [va_up_ne _ _ e]; exact hv
  have hcase : ∀ v b, va_up nd j (some a) v = some b → nd v = some b ∨ (v = j ∧ b = a ∧ nd j = none ∧ (∀ k, u.2.1 a k = none) ∧ ∀ k, k ≠ 0 → u.2.2.1 a k = 0) := by
    intro v b hv
    by_cases e : v = j
    · rw [e, va_up_self] at hv
      have e2 : a = b := Option.some.inj hv
      rcases hor with z | ⟨z, -, -, z2, z3⟩
      · left; rw [e, z, e2]
      · right; exact ⟨e, e2.symm, z, z2, z3⟩
    · rw [va_up_ne _ _ e] at hv; exact Or.inl hv
  refine ⟨⟨hT, fun v b hv => ?_, fun v => ?_, fun v k w hk => ?_, h.2.2.2.2⟩, fun i v hi => ?_, hmono⟩
  · rcases hcase v b hv with hv' | ⟨e1, e2, e3, e4, e5⟩
    · obtain ⟨c1, c2, c3, c4⟩ := h.2.1 v b hv'
      obtain ⟨-, x1, x2⟩ := keep (h.nk hv').2.1
      refine ⟨?_, by rw [x2]; exact c2, ?_, by rw [x2]; exact c4⟩
      · rw [x1]
        refine chI_keep c1 (fun x hx => ?_)
        rw [(keep (h.lk1 v x hx)).2.1]; exact ⟨rfl, rfl⟩
      · rw [x1]
        refine chI_keep c3 (fun x hx => ?_)
        rw [(keep (h.lk2 v x hx)).2.1]; exact ⟨rfl, rfl⟩
    · obtain ⟨r1, r2⟩ := (h.2.2.1 j).2.2.2 e3
      rw [e1, e2, r1, r2, e4, e4, e5 3 (by decide), e5 4 (by decide)]
      exact ⟨⟨rfl, fun i k hk => by cases hk⟩, rfl, ⟨rfl, fun i k hk => by cases hk⟩, rfl⟩
  · obtain ⟨n1, n2, n3, n4⟩ := h.2.2.1 v
    refine ⟨n1, n2, n3, fun hv => n4 ?_⟩
    cases hz : nd v with
    | none => rfl
    | some b => rw [hmono v b hz] at hv; cases hv
  · obtain ⟨d1, ⟨b, d2, d3⟩, ⟨b2, d4, d5⟩, d6⟩ := h.2.2.2.1 v k w hk
    obtain ⟨x0, x1, -⟩ := keep d1
    exact ⟨x0, ⟨b, hmono v b d2, by rw [x1]; exact d3⟩, ⟨b2, hmono w b2 d4, by rw [x1]; exact d5⟩, d6⟩
  · cases hv : va_up nd j (some a) v with
    | none =>
      rw [fl_no hv]
      cases hz : nd v with
      | none => rw [fl_no hz]
      | some b => rw [hmono v b hz] at hv; cases hv
    | some b =>
      rw [fl_at hv]
      rcases hcase v b hv with hv' | ⟨e1, e2, e3, e4, e5⟩
      · rw [fl_at hv', (keep (h.nk hv').2.1).2.2]
      · rw [e2, e5 i hi, e1, fl_no e3]
/-- the object's world when nodes, links and the table change -/
theorem Mz_gr {S u : sS} {h0 tb pa q : Nat} {na : Nat → Nat} {nd nd' : Nat → Option Nat} {rd sr rd' sr' : Nat → List (Nat × Nat)} {nr nc nn : Nat → Nat} {nf : Nat → Nat → Nat} (h : Mz S h0 tb pa q na nd rd sr nr nc nn nf) (hF : sFr S u (fun b => isNK S b ∨ isRA S b)) (hG : Gr9 u tb pa nd' rd' sr') :
    Mz u h0 tb pa q na nd' rd' sr' nr nc nn nf ∧ ∀ j, u.2.2.1 h0 j = S.2.2.1 h0 j := by
  obtain ⟨h1, h2, h3, h4, h5⟩ := h
  have hP : ∀ {b c : Nat}, S.1 b = some (.inl c) → c ≠ 3 → c ≠ 4 → ¬ (isNK S b ∨ isRA S b) := by
    intro b c hb c3 c4 z
    rcases z with (z | z) | ⟨t, n, z, -⟩
    · rw [hb] at z; exact c3 (Sum.inl.inj (Option.some.inj z))
    · rw [hb] at z; exact c4 (Sum.inl.inj (Option.some.inj z))
    · rw [hb] at z; cases z
  have hR : ∀ {b n : Nat}, S.1 b = some (.inr (0, n)) → ¬ (isNK S b ∨ isRA S b) := by
    intro b n hb z
    rcases z with (z | z) | ⟨t, n', z, z2⟩
    · rw [hb] at z; cases z
    · rw [hb] at z; cases z
    · rw [hb] at z
      have : t = 0 := (congrArg Prod.fst (Sum.inr.inj (Option.some.inj z))).symm
      omega
  refine ⟨⟨Hd_fr h1 hF (hP h1.1 (by decide) (by decide)), ?_, hG, fun k hk => ?_, h5⟩, fun j => ?_⟩
  · obtain ⟨a1, a2⟩ := hF q (sk_nn h2.1)
    exact ⟨by rw [a1]; exact h2.1, by rw [(a2 (hP h2.1 (by decide) (by decide))).1]; exact h2.2⟩
  · have hN := h4 k hk
    exact Nm_keep hN hF (hP hN.1 (by decide) (by decide)) (hR hN.2.2.1)
  · rw [((hF h0 (sk_nn h1.1)).2 (hP h1.1 (by decide) (by decide))).2.1]
end
section
theorem fewN_up {nd : Nat → Option Nat} {m v a : Nat} (h : fewN nd m) : fewN (va_up nd v (some a)) (m + 1) := by
  obtain ⟨L, h1, h2⟩ := h
  refine ⟨v :: L, by rw [List.length_cons]; omega, fun w hw => ?_⟩
  by_cases e : w = v
  · rw [e]; exact List.mem_cons_self
  · rw [va_up_ne _ _ e] at hw; exact List.mem_cons_of_mem _ (h2 w hw)
theorem Mz_of {S u : sS} {h0 tb pa q : Nat} {na : Nat → Nat} {nd : Nat → Option Nat} {rd sr : Nat → List (Nat × Nat)} {nr nc nn : Nat → Nat} {nf : Nat → Nat → Nat} (h : Mz S h0 tb pa q na nd rd sr nr nc nn nf) {j a : Nat} (hO : OfP S tb pa nd j a u) : Mz u h0 tb pa q na (va_up nd j (some a)) rd sr nr nc nn nf ∧ (∀ i v, i ≠ 0 → fl u (va_up nd j (some a)) i v = fl S nd i v) ∧ (∀ v b, nd v = some b → va_up nd j (some a) v = some b) ∧ ∀ i, u.2.2.1 h0 i = S.2.2.1 h0 i := by
  obtain ⟨g1, g2, g3⟩ := Gr9_of h.2.2.1 hO
  obtain ⟨m1, m2⟩ := Mz_gr h (hO.2.2.1.weak (fun b _ z => Or.inr z)) g1
  exact ⟨m1, g2, g3, m2⟩
theorem Mz_new {S : sS} {h0 tb pa q : Nat} {na : Nat → Nat} {nd : Nat → Option Nat} {rd sr : Nat → List (Nat × Nat)} {nr nc nn : Nat → Nat} {nf : Nat → Nat → Nat} (h : Mz S h0 tb pa q na nd rd sr nr nc nn nf) {k : Nat} {K : sK} (hk : S.1 k = none) : Mz (sNew S k K) h0 tb pa q na nd rd sr nr nc nn nf ∧ (∀ i v, fl (sNew S k K) nd i v = fl S nd i v) ∧ ∀ i, (sNew S k K).2.2.1 h0 i = S.2.2.1 h0 i := by
  have keep : ∀ b, S.1 b ≠ none → (sNew S k K).1 b = S.1 b ∧ (sNew S k K).2.1 b = S.2.1 b ∧ (sNew S k K).2.2.1 b = S.2.2.1 b ∧ (sNew S k K).2.2.2 b = S.2.2.2 b := by
    intro b hb
    have e : b ≠ k := fun z => hb (by rw [z]; exact hk)
    exact ⟨va_up_ne _ _ e, upr_off _ _ e, upr_off _ _ e, upr_off _ _ e⟩
  have hG : Gr9 (sNew S k K) tb pa nd rd sr := Gr9_dep h.2.2.1 (fun b c hb _ => ⟨(keep b (sk_nn hb)).1, (keep b (sk_nn hb)).2.1⟩) (fun v a hv i _ => by rw [(keep a (sk_nn (h.2.2.1.nk hv).2.1)).2.2.1])
  obtain ⟨m1, m2⟩ := Mz_gr h (u := sNew S k K) (fun b hb => ⟨(keep b hb).1, fun _ => (keep b hb).2⟩) hG
  refine ⟨m1, fun i v => ?_, m2⟩
  cases hv : nd v with
  | none => rw [fl_no hv, fl_no hv]
  | some b => rw [fl_at hv, fl_at hv, (keep b (sk_nn (h.2.2.1.nk hv).2.1)).2.2.1]
/-- markTouched, in the world's words -/
theorem touch_step {S u : sS} {h0 tb pa q : Nat} {na : Nat → Nat} {nd : Nat → Option Nat} {rd sr : Nat → List (Nat × Nat)} {nr nc nn : Nat → Nat} {nf : Nat → Nat → Nat} {T : Nat → Prop} (h : Mz S h0 tb pa q na nd rd sr nr nc nn nf) (hL : fewN nd 1024) (t1 : hp_inj (nf 0) (nn 0)) (t2 : ∀ i, i < nn 0 → nd (nf 0 i) ≠ none) (t3 : ∀ v, T v ↔ hp_set (nf 0) (nn 0) v) (f5 : ∀ v, (T v → fl S nd 5 v = 1) ∧ (¬ T v → fl S nd 5 v = 0)) (hc : pw (nc 0)) {v a : Nat} (hv : nd v = some a) (hm : MarkTouchedP S a (na 0) (nr 0) (nc 0) (nn 0) (nf 0) v u) :
    ∃ nr' nc' nn' nf', Mz u h0 tb pa q na nd rd sr nr' nc' nn' nf' ∧ hp_inj (nf' 0) (nn' 0) ∧ (∀ i, i < nn' 0 → nd (nf' 0 i) ≠ none) ∧ (∀ x, (T x ∨ x = v) ↔ hp_set (nf' 0) (nn' 0) x) ∧ (∀ x, ((T x ∨ x = v) → fl u nd 5 x = 1) ∧ (¬ (T x ∨ x = v) → fl u nd 5 x = 0)) ∧ pw (nc' 0) ∧ (∀ i, i ≠ 0 → nn' i = nn i ∧ nf' i = nf i ∧ nc' i = nc i) ∧ (∀ j x, j ≠ 5 → fl u nd j x = fl S nd j x) ∧ ∀ j, u.2.2.1 h0 j = S.2.2.1 h0 j := by
  have e5 : S.2.2.1 a 5 = fl S nd 5 v := (fl_at hv).symm
  rcases hm with ⟨z, rfl⟩ | ⟨z, hA⟩
  · have hT : T v := Classical.byContradiction fun y => z (by rw [e5]; exact (f5 v).2 y)
    have hTx : ∀ x, (T x ∨ x = v) ↔ T x := fun x => ⟨fun y => y.elim id (fun y => by rw [y]; exact hT), Or.inl⟩
    refine ⟨nr, nc, nn, nf, h, t1, t2, fun x => by rw [hTx, t3], fun x => by rw [hTx]; exact f5 x, hc, fun i _ => ⟨rfl, rfl, rfl⟩, fun _ _ _ => rfl, fun _ => rfl⟩
  · have hT : ¬ T v := fun y => by have := (f5 v).1 y; rw [← e5, z] at this; cases this
    have hout : ¬ hp_set (nf 0) (nn 0) v := fun y => hT ((t3 v).mpr y)
    obtain ⟨hZ2, g2⟩ := Mz_flag h hv (i := 5) (by decide) 1
    obtain ⟨r', hZ3, g3, q3⟩ := Mz_add hZ2 (i := 0) (by decide) hA
    have hg : ∀ i, i < nn 0 → (fun k => if k = nn 0 then v else nf 0 k) i = nf 0 i := fun i hi => if_neg (by omega)
    have hgn : (fun k => if k = nn 0 then v else nf 0 k) (nn 0) = v := if_pos rfl
    have hle : nn 0 ≤ nc 0 := (h.2.2.2.1 0 (by decide)).2.2.2.2.1
    have hro := inj_room hL t1 t2 (x := v) (by rw [hv]; exact fun y => by cases y) hout
    have efl : ∀ j x, fl u nd j x = if x = v ∧ j = 5 then 1 else fl S nd j x := fun j x => by rw [g3, g2]
    have hha : h0 ≠ a := sk_d h.1.1 (h.2.2.1.nk hv).2.1 (by decide)
    refine ⟨_, _, _, _, hZ3, ?_, ?_, fun x => ?_, fun x => ?_, ?_, fun i hi => ?_, fun j x hj => ?_, fun j => ?_⟩
    · rw [va_up_self, va_up_self]; exact hp_inj_push t1 hg hgn hout
    · intro i hi
      rw [va_up_self] at hi
      rw [va_up_self]
      by_cases e : i = nn 0
      · rw [if_pos e, hv]; exact fun y => by cases y
      · rw [if_neg e]; exact t2 i (by omega)
    · rw [va_up_self, va_up_self, hp_set_push hg hgn, t3]
    · rw [efl]
      by_cases e : x = v
      · rw [if_pos ⟨e, rfl⟩]; exact ⟨fun _ => rfl, fun y => absurd (Or.inr e) y⟩
      · rw [if_neg (fun y => e y.1)]
        exact ⟨fun y => (f5 x).1 (y.elim id (fun y => absurd y e)), fun y => (f5 x).2 (fun q9 => y (Or.inl q9))⟩
    · rw [va_up_self]; split <;> omega
    · rw [va_up_ne _ _ hi, va_up_ne _ _ hi, va_up_ne _ _ hi]; exact ⟨rfl, rfl, rfl⟩
    · rw [efl, if_neg (fun y => hj y.2)]
    · rw [q3]
      show up2 S.2.2.1 a 5 1 h0 j = _
      rw [up2_off _ _ hha]
theorem touch_cost {S : sS} {h0 tb pa q : Nat} {na : Nat → Nat} {nd : Nat → Option Nat} {rd sr : Nat → List (Nat × Nat)} {nr nc nn : Nat → Nat} {nf : Nat → Nat → Nat} {T : Nat → Prop} (h : Mz S h0 tb pa q na nd rd sr nr nc nn nf) (hL : fewN nd 1024) (t1 : hp_inj (nf 0) (nn 0)) (t2 : ∀ i, i < nn 0 → nd (nf 0 i) ≠ none) (t3 : ∀ v, T v ↔ hp_set (nf 0) (nn 0) v) (f5 : ∀ v, (T v → fl S nd 5 v = 1) ∧ (¬ T v → fl S nd 5 v = 0)) (hc : pw (nc 0)) {v a : Nat} (hv : nd v = some a) :
    (if S.2.2.1 a 5 = 0 ∧ ¬ nn 0 < nc 0 then 1 else 0) ≤ 1 ∧ (if S.2.2.1 a 5 = 0 ∧ ¬ nn 0 < nc 0 then 2 * nn 0 else 0) ≤ 1024 := by
  refine ⟨by split <;> omega, ?_⟩
  by_cases z : S.2.2.1 a 5 = 0 ∧ ¬ nn 0 < nc 0
  · rw [if_pos z]
    have hT : ¬ T v := fun y => by have := (f5 v).1 y; rw [fl_at hv, z.1] at this; cases this
    have hro := inj_room hL t1 t2 (x := v) (by rw [hv]; exact fun y => by cases y) (fun y => hT ((t3 v).mpr y))
    have hle : nn 0 ≤ nc 0 := (h.2.2.2.1 0 (by decide)).2.2.2.2.1
    have z2 := z.2
    omega
  · rw [if_neg z]; omega
theorem Ho_mono {S : sS} {h0 m m' : Nat} {E : Nat → Nat → Prop} {T Rg : Nat → Prop} {wl : List Nat} {rc : Nat} (h : Ho S h0 m E T Rg wl rc) (hm : m ≤ m') : Ho S h0 m' E T Rg wl rc := by
  obtain ⟨tb, pa, q, na, nd, rd, sr, nr, nc, nn, nf, hZ, hX⟩ := h
  obtain ⟨z, z1, z2, z3⟩ := hX.c5
  exact ⟨tb, pa, q, na, nd, rd, sr, nr, nc, nn, nf, hZ, hX.hE, hX.hc, fewN_le hX.hL (by omega), fun v => ⟨Nat.le_trans (hX.hlen v).1 hm, Nat.le_trans (hX.hlen v).2 hm⟩, hX.t1, hX.t2, hX.t3, hX.f5, hX.f7, hX.n3, hX.n2, hX.w2, hX.f6, hX.old, hX.c6, z, z1, by omega, by omega⟩
set_option maxHeartbeats 4000000 in
set_option maxRecDepth 100000 in
theorem m_H_requireNode (l : Launch) (D : va_G) (dA : Nat → ClassId) (S : sS) (sz : Nat) (k : Int32) (hv : vp_in k 16384) :
    cV l y_H_requireNode c_H_requireNode 1 (rmk 1 0 0) D dA S sz [.int k] (fun u => u = S) (0) (0) := by
  refine s_met (cc := c_H_requireNode) (maxL := 1) (by decide) rfl (by simp [Value.category]) (by simp [lg_sl, Value.category]) ?_
  intro p e s m args below meth c ls hx hb hr hts hown hlocks hin hml hK hX hsz hM hl
  have hg := gd_hts hts
  have hl : lc ls 1 [some (.int k)] := hl
  refine q_iload_n (i := 0) hx hb d_H_requireNode_0 rfl hl rfl ?_
  refine s_calli (r_S 1 [.int k] rfl hx hb hml hown hg (m_H_isNode l D dA _ _ k) (hM.pre hK hX) kw_266 kw_260 kw_1 kw_261 (by decide +kernel) ⟨Nat.le_of_ble_eq_true rfl, Nat.le_of_ble_eq_true rfl⟩ rfl rfl hl.sz (by first | exact Nat.le_of_ble_eq_true rfl | simp [rf_cat] | simp [rf_cat, Value.category]) d_H_requireNode_1 ⟨Nat.le_refl _, Nat.le_refl _⟩ rfl) hM (fun r1 u H locs hp hM => ?_)
  obtain ⟨rfl, hp⟩ := hp
  refine lv_if_ne (tgt := 17) hx hb d_H_requireNode_4 (by decide) (fun c1 => ?_) (fun c1 => ?_)
  · exact s_vret hx hb hr hM rfl d_H_requireNode_17 hlocks
  · rcases hp with ⟨e, -⟩ | ⟨-, z⟩
    · exact absurd c1 (by rw [e]; decide)
    · exact absurd hv z
set_option maxHeartbeats 4000000 in
set_option maxRecDepth 100000 in
theorem lb_loop {p : Program} {l : Launch} {e : Env} {s : State} {m : MethodId} {args : Array Value} {below : List Frame} {meth : Method} {c : Code} {D : va_G} {dA : Nat → ClassId} {A : Nat → Prop} {Q : State → Prop} (hx : p.tables.exec = Jvm.exec) (hb : c.code = c_H_linkBetween) (hml : c.maxLocals = 5) (hown : s.vm.findClass R_H = some m.cls) (hg : ∀ w ∈ gd, w.before args s = true) (hK : va_K D cls (tys dA) s) (hX : sKx s) {S : sS} {h0 tb pa : Nat} {nd : Nat → Option Nat} {rd sr : Nat → List (Nat × Nat)} (hG : Gr9 S tb pa nd rd sr) {v t a : Nat} (hv : nd v = some a) (ht9 : t < 16384) {H : Heap} {locs : List Loc} (hM : SW D dA A s.heap S H locs)
    (kk : ∀ (ls : Array Slot) (x : Option Nat), ((x = none ∧ ¬ rE rd v t) ∨ ∃ k, x = some k ∧ (k, t) ∈ rd v) → lc ls 5 [some (va_rf (some h0)), some (.int (nI v)), some (.int (nI t)), some (va_rf (some a)), some (va_rf x)] → W p l e (rmk 2 0 0) s m args below meth c H locs 0 0 Q (F0 m 48 ls [])) :
    ∀ (d j : Nat) (ls : Array Slot), j + d = (rd v).length → (∀ i c, i < j → (rd v)[i]? ≠ some (c, t)) → lc ls 5 [some (va_rf (some h0)), some (.int (nI v)), some (.int (nI t)), some (va_rf (some a)), some (va_rf (((rd v).map Prod.fst)[j]?))] → W p l e (rmk 2 0 0) s m args below meth c H locs 0 0 Q (F0 m 21 ls []) := by
  obtain ⟨kd, rf, it, lg⟩ := S
  intro d
  induction d with
  | zero =>
    intro j ls hj hdone hl
    have e : ((rd v).map Prod.fst)[j]? = none := List.getElem?_eq_none (by rw [List.length_map]; omega)
    rw [e] at hl
    refine q_al hx hb d_H_linkBetween_21 hl rfl ?_
    refine q_ifnull (tgt := 48) hx hb d_H_linkBetween_23 (by decide) (fun c1 => ?_) (fun y c1 => ?_)
    · refine kk ls none (Or.inl ⟨rfl, fun ⟨c9, hc⟩ => ?_⟩) hl
      obtain ⟨i, hi⟩ := List.getElem?_of_mem hc
      exact hdone i c9 (by have := (List.getElem?_eq_some_iff.mp hi).1; omega) hi
    · cases c1
  | succ d ih =>
    intro j ls hj hdone hl
    have hjl : j < ((rd v).map Prod.fst).length := by rw [List.length_map]; omega
    obtain ⟨lk, elk⟩ : ∃ lk, ((rd v).map Prod.fst)[j]? = some lk := ⟨_, List.getElem?_eq_getElem hjl⟩
    obtain ⟨x, ex⟩ := ml_at elk
    obtain ⟨klk, -, ⟨b, hb9, r1⟩, -⟩ := hG.2.2.2.1 v lk x (List.mem_of_getElem? ex)
    dsimp only at klk r1
    have r3 : rf lk 3 = ((rd v).map Prod.fst)[j + 1]? := ((hG.2.1 v a hv).1.2 j lk elk).1
    obtain ⟨hx9, kb, hib⟩ := hG.nk hb9
    dsimp only at kb hib
    rw [elk] at hl
    refine q_al hx hb d_H_linkBetween_21 hl rfl ?_
    refine q_ifnull (tgt := 48) hx hb d_H_linkBetween_23 (by decide) (fun c1 => ?_) (fun y c1 => ?_)
    · cases c1
    · refine q_al hx hb d_H_linkBetween_26 hl rfl ?_
      refine s_getr (C := R_K) (T := F_K) (N := 6) (ci := 4) hx hb hg in_K hown hK hM klk rfl 1 (by decide) rfl (hg _ kw_380) (fun _ h9 => h9) d_H_linkBetween_28 ?_
      rw [r1]
      refine s_geti (C := R_N) (T := F_N) (N := 9) (ci := 3) hx hb hg in_N hown hK hM kb rfl 0 (by decide) rfl (hg _ kw_133) (fun _ h9 => h9) d_H_linkBetween_31 ?_
      rw [hib]
      refine q_iload_n (i := 2) hx hb d_H_linkBetween_34 rfl hl rfl ?_
      refine n_eq (tgt := 48) hx hb d_H_linkBetween_35 (by decide) (by omega) (by omega) (fun c2 => ?_) (fun c2 => ?_)
      · refine kk ls (some lk) (Or.inr ⟨lk, rfl, ?_⟩) hl
        rw [← c2]; exact List.mem_of_getElem? ex
      · refine q_al hx hb d_H_linkBetween_38 hl rfl ?_
        refine s_getr (C := R_K) (T := F_K) (N := 6) (ci := 4) hx hb hg in_K hown hK hM klk rfl 3 (by decide) rfl (hg _ kw_383) (fun _ h9 => h9) d_H_linkBetween_40 ?_
        rw [r3]
        refine q_astore hx hb (_) d_H_linkBetween_43 hl (by decide) (fun ls hl => ?_)
        simp only [List.set_cons_succ, List.set_cons_zero] at hl
        refine lv_goto (tgt := 21) hx hb d_H_linkBetween_45 (by decide) ?_
        refine ih (j + 1) ls (by omega) (fun i c9 hi hz => ?_) hl
        by_cases e : i = j
        · rw [e, ex] at hz; exact c2 (congrArg Prod.snd (Option.some.inj hz))
        · exact hdone i c9 (by omega) hz
set_option maxHeartbeats 4000000 in
set_option maxRecDepth 100000 in
theorem m_H_linkBetween (l : Launch) (D : va_G) (dA : Nat → ClassId) (S : sS) (sz : Nat) (h0 tb tr fr wr q pa : Nat) (nd : Nat → Option Nat) (rd sr : Nat → List (Nat × Nat)) (v t : Nat) (hH : Hd S h0 tb tr fr wr q) (hG : Gr9 S tb pa nd rd sr) (hv9 : v < 16384) (ht9 : t < 16384) :
    cQ l y_H_linkBetween c_H_linkBetween 5 (some (.object "HangOrder$Link")) (rmk 2 0 0) D dA S sz [.ref h0, .int (nI v), .int (nI t)] (fun x u => u = S ∧ ((x = none ∧ ¬ rE rd v t) ∨ ∃ k, x = some k ∧ (k, t) ∈ rd v)) (0) (0) := by
  obtain ⟨kd, rf, it, lg⟩ := S
  obtain ⟨kh, e0, -⟩ := hH
  dsimp only at kh e0
  refine s_met (cc := c_H_linkBetween) (maxL := 5) (by decide) rfl (by simp [Value.category]) (by simp [lg_sl, Value.category]) ?_
  intro p e s m args below meth c ls hx hb hr hts hown hlocks hin hml hK hX hsz hM hl
  have hg := gd_hts hts
  have hl : lc ls 5 [some (va_rf (some h0)), some (.int (nI v)), some (.int (nI t)), none, none] := hl
  refine q_al_n (i := 0) hx hb d_H_linkBetween_0 rfl hl rfl ?_
  refine s_getr (C := R_H) (T := F_H) (N := 7) (ci := 0) hx hb hg in_H hown hK hM kh rfl 0 (by decide) rfl (hg _ kw_65) (fun _ h9 => h9) d_H_linkBetween_1 ?_
  rw [e0]
  refine q_iload_n (i := 1) hx hb d_H_linkBetween_4 rfl hl rfl ?_
  refine s_callq (r_V 1 [.int (nI v)] rfl hx hb hml hown hg (m_T_at l D dA _ _ tb pa nd (nI v) hG.1) (hM.pre hK hX) (hM.recv hK hG.1.1 (q := cls.getD 1 (R_H, F_H, 7)) rfl) kw_255 kw_256 kw_257 kw_2 kw_258 (by decide +kernel) ⟨Nat.le_of_ble_eq_true rfl, Nat.le_of_ble_eq_true rfl⟩ rfl rfl hl.sz (by first | exact Nat.le_of_ble_eq_true rfl | simp [rf_cat] | simp [rf_cat, Value.category]) d_H_linkBetween_5 ⟨Nat.le_refl _, Nat.le_refl _⟩ rfl) hM (fun r1 u H locs hp hM => ?_)
  obtain ⟨rfl, hp⟩ := hp
  have er : r1 = nd v := by
    rcases hp with ⟨-, e⟩ | ⟨z, -⟩
    · rw [e, nI_clamp (by omega)]
    · exact absurd (vp_in_nI hv9 (by omega)) z
  subst er
  refine q_astore_n (i := 3) hx hb (_) d_H_linkBetween_8 rfl hl (by decide) (fun ls hl => ?_)
  simp only [List.set_cons_succ, List.set_cons_zero] at hl
  refine q_al_n (i := 3) hx hb d_H_linkBetween_9 rfl hl rfl ?_
  refine q_ifnonnull (tgt := 15) hx hb d_H_linkBetween_10 (by decide) (fun a c1 => ?_) (fun c1 => ?_)
  · have ka := (hG.nk c1).2.1
    have h1 : rf a 1 = ((rd v).map Prod.fst)[0]? := (hG.2.1 v a c1).1.1
    dsimp only at ka
    rw [c1] at hl
    refine q_al_n (i := 3) hx hb d_H_linkBetween_15 rfl hl rfl ?_
    refine s_getr (C := R_N) (T := F_N) (N := 9) (ci := 3) hx hb hg in_N hown hK hM ka rfl 1 (by decide) rfl (hg _ kw_135) (fun _ h9 => h9) d_H_linkBetween_16 ?_
    rw [h1]
    refine q_astore hx hb (_) d_H_linkBetween_19 hl (by decide) (fun ls hl => ?_)
    simp only [List.set_cons_succ, List.set_cons_zero] at hl
    refine lb_loop hx hb hml hown hg hK hX hG c1 ht9 hM ?_ (rd v).length 0 ls (by omega) (fun i c9 hi => absurd hi (Nat.not_lt_zero i)) hl
    intro ls x hx9 hl
    refine q_al hx hb d_H_linkBetween_48 hl rfl ?_
    exact s_qret x hx hb hr (Or.inl ⟨_, rfl⟩) hM ⟨rfl, hx9⟩ d_H_linkBetween_50 hlocks
  · refine lv_null hx hb d_H_linkBetween_13 ?_
    refine s_qret none hx hb hr (Or.inl ⟨_, rfl⟩) hM ⟨rfl, Or.inl ⟨rfl, fun ⟨c9, hc⟩ => ?_⟩⟩ d_H_linkBetween_14 hlocks
    rw [((hG.2.2.1 v).2.2.2 c1).1] at hc; cases hc
end
section
theorem Ho_cost {S u1 : sS} {h0 tb pa q : Nat} {na : Nat → Nat} {nd : Nat → Option Nat} {rd sr : Nat → List (Nat × Nat)} {nr nc nn : Nat → Nat} {nf : Nat → Nat → Nat} {mm : Nat} {E : Nat → Nat → Prop} {T Rg : Nat → Prop} {wl : List Nat} {rc : Nat} {nd' : Nat → Option Nat} {rd' sr' : Nat → List (Nat × Nat)} {v a : Nat} (hX0 : HoX S h0 mm E T Rg wl rc nd rd sr nc nn nf) (hZ1 : Mz u1 h0 tb pa q na nd' rd' sr' nr nc nn nf) (hL' : fewN nd' (2 * (mm + 1))) (hmono : ∀ x b, nd x = some b → nd' x = some b) (hfl : ∀ i x, 5 ≤ i → fl u1 nd' i x = fl S nd i x) (hm : mm ≤ 511) (hv : nd' v = some a) : (if u1.2.2.1 a 5 = 0 ∧ ¬ nn 0 < nc 0 then 1 else 0) ≤ 1 ∧ (if u1.2.2.1 a 5 = 0 ∧ ¬ nn 0 < nc 0 then 2 * nn 0 else 0) ≤ 1024 ∧ nn 0 < 16384 :=
  have hc := touch_cost hZ1 (fewN_le hL' (by omega)) hX0.t1 (fun i hi => by obtain ⟨b, hb⟩ := Option.ne_none_iff_exists'.mp (hX0.t2 i hi); rw [hmono _ b hb]; exact fun z => by cases z) hX0.t3 (fun x => by rw [hfl 5 x (by decide)]; exact hX0.f5 x) (hX0.hc 0 (by decide)) hv
  ⟨hc.1, hc.2, by
    have h1 : nn 0 ≤ nc 0 := (hZ1.2.2.2.1 0 (by decide)).2.2.2.2.1
    have h2 := hX0.hc 0 (by decide)
    omega⟩
theorem Ho_fin {u : sS} {S u1 : sS} {h0 tb pa q : Nat} {na : Nat → Nat} {nd : Nat → Option Nat} {rd sr : Nat → List (Nat × Nat)} {nr nc nn : Nat → Nat} {nf : Nat → Nat → Nat} {mm : Nat} {E E' : Nat → Nat → Prop} {T Rg : Nat → Prop} {wl : List Nat} {rc : Nat} {nd' : Nat → Option Nat} {rd' sr' : Nat → List (Nat × Nat)} {v a : Nat} (hX0 : HoX S h0 mm E T Rg wl rc nd rd sr nc nn nf) (hZ1 : Mz u1 h0 tb pa q na nd' rd' sr' nr nc nn nf) (hL' : fewN nd' (2 * (mm + 1))) (hmono : ∀ x b, nd x = some b → nd' x = some b) (hfl : ∀ i x, 5 ≤ i → fl u1 nd' i x = fl S nd i x) (hm : mm ≤ 511) (hv : nd' v = some a) (hE' : ∀ x y, E' x y ↔ rE rd' x y) (hlen' : ∀ x, (rd' x).length ≤ mm + 1 ∧ (sr' x).length ≤ mm + 1) (h06 : u1.2.2.1 h0 6 = S.2.2.1 h0 6) (hc5 : ∃ z : Int, u1.2.2.1 h0 5 = Int32.ofInt z ∧ -(1024 * ((mm + 1 : Nat) : Int)) ≤ z ∧ z ≤ ((mm + 1 : Nat) : Int)) (hEo : ∀ x, x ≠ v → ∀ y, E' x y ↔ E x y) (hM : MarkTouchedP u1 a (na 0) (nr 0) (nc 0) (nn 0) (nf 0) v u) :
    Ho u h0 (mm + 1) E' (fun x => T x ∨ x = v) Rg wl rc := by
  obtain ⟨nr2, nc2, nn2, nf2, hZ2, b1, b2, b3, b4, b5, b6, b7, b8⟩ := touch_step (T := T) hZ1 (fewN_le hL' (by omega)) hX0.t1 (fun i hi => by obtain ⟨b, hb⟩ := Option.ne_none_iff_exists'.mp (hX0.t2 i hi); rw [hmono _ b hb]; exact fun z => by cases z) hX0.t3 (fun x => by rw [hfl 5 x (by decide)]; exact hX0.f5 x) (hX0.hc 0 (by decide)) hv hM
  obtain ⟨O, hO1, hO2⟩ := hX0.old
  refine ⟨tb, pa, q, na, nd', rd', sr', nr2, nc2, nn2, nf2, hZ2, hE', fun i hi => ?_, hL', hlen', b1, b2, b3, b4, fun x => ?_, ?_, ?_, fun i hi => ?_, fun x => ?_, ⟨O, hO1, fun x hx y => ?_⟩, ?_, ?_⟩
  · by_cases e : i = 0
    · rw [e]; exact b5
    · rw [(b6 i e).2.2]; exact hX0.hc i hi
  · rw [b7 7 x (by decide), hfl 7 x (by decide)]; exact hX0.f7 x
  · rw [(b6 3 (by decide)).1]; exact hX0.n3
  · rw [(b6 2 (by decide)).1]; exact hX0.n2
  · rw [(b6 2 (by decide)).1] at hi
    rw [(b6 2 (by decide)).2.1]; exact hX0.w2 i hi
  · rw [b7 6 x (by decide), hfl 6 x (by decide)]; exact hX0.f6 x
  · rw [hEo x (fun z => hx (Or.inr z)) y]
    exact hO2 x (fun z => hx (Or.inl z)) y
  · rw [b8, h06]; exact hX0.c6
  · rw [b8]; exact hc5
theorem ch_self {rf : Nat → Nat → Option Nat} {fp fn : Nat} {first : Option Nat} {l : List Nat} (h : chI rf fp fn first l) (hn : l.Nodup) {k : Nat} (hk : k ∈ l) : rf k fn ≠ some k ∧ rf k fp ≠ some k := by
  obtain ⟨i, hi⟩ := List.getElem?_of_mem hk
  obtain ⟨a, b⟩ := h.2 i k hi
  constructor
  · intro z
    rw [a] at z
    have := nd_ij hn hi z
    omega
  · intro z
    rw [b] at z
    by_cases e : i = 0
    · rw [if_pos e] at z; cases z
    · rw [if_neg e] at z
      have := nd_ij hn hi z
      omega
/-- what loosen asks -/
theorem Gr9_lo {S : sS} {tb pa : Nat} {nd : Nat → Option Nat} {rd sr : Nat → List (Nat × Nat)} (h : Gr9 S tb pa nd rd sr) {v w k : Nat} (hk : (k, w) ∈ rd v) : (∀ i y, 2 ≤ i → i ≤ 5 → S.2.1 k i = some y → S.1 y = some (.inl 4)) ∧ ∀ i, 2 ≤ i → i ≤ 5 → S.2.1 k i ≠ some k := by
  obtain ⟨d1, ⟨a, d2, d3⟩, ⟨b, d4, d5⟩, d6⟩ := h.2.2.2.1 v k w hk
  have m1 : k ∈ (rd v).map Prod.fst := mem_fs.mpr ⟨w, hk⟩
  have m2 : k ∈ (sr w).map Prod.fst := mem_fs.mpr ⟨v, d6⟩
  have c1 := (h.c1 v a d2).1
  have c2 := (h.c2 w b d4).1
  have s1 := ch_self c1 (h.2.2.1 v).1 m1
  have s2 := ch_self c2 (h.2.2.1 w).2.1 m2
  have hi : ∀ i, 2 ≤ i → i ≤ 5 → i = 2 ∨ i = 3 ∨ i = 4 ∨ i = 5 := fun i _ _ => by omega
  refine ⟨fun i y q1 q2 hy => ?_, fun i q1 q2 => ?_⟩
  · rcases hi i q1 q2 with e | e | e | e
    · rw [e] at hy; exact h.lk1 v y (ch_mem c1 m1 (Or.inr hy))
    · rw [e] at hy; exact h.lk1 v y (ch_mem c1 m1 (Or.inl hy))
    · rw [e] at hy; exact h.lk2 w y (ch_mem c2 m2 (Or.inr hy))
    · rw [e] at hy; exact h.lk2 w y (ch_mem c2 m2 (Or.inl hy))
  · rcases hi i q1 q2 with e | e | e | e
    · rw [e]; exact s1.2
    · rw [e]; exact s1.1
    · rw [e]; exact s2.2
    · rw [e]; exact s2.1
theorem oI_add (z : Int) : Int32.ofInt z + 1 = Int32.ofInt (z + 1) := (Int32.ofInt_add z 1).symm
theorem oI_sub (z : Int) (n : Nat) : Int32.ofInt z - nI n = Int32.ofInt (z - n) := by
  rw [Int32.ofInt_sub]; rfl
theorem oI_lt {z : Int} (h1 : -1000000 ≤ z) (h2 : z ≤ 1000) : Int32.ofInt z < 65536 := by
  rw [Int32.lt_iff_toInt_lt, Int32.toInt_ofInt_of_le (by omega) (by omega)]
  have : (65536 : Int32).toInt = 65536 := by decide
  omega
set_option maxHeartbeats 4000000 in
set_option maxRecDepth 100000 in
theorem m_H_touch (l : Launch) (D : va_G) (dA : Nat → ClassId) (S : sS) (sz : Nat) (h0 mm : Nat) (E : Nat → Nat → Prop) (T Rg : Nat → Prop) (wl : List Nat) (rc : Nat) (v : Nat) (hH : Ho S h0 mm E T Rg wl rc) (hm : mm ≤ 511) (hv9 : v < 16384) :
    cV l y_H_touch c_H_touch 2 (rmk 4 8 2048) D dA S sz [.ref h0, .int (nI v)] (fun u => Ho u h0 (mm + 1) E (fun x => T x ∨ x = v) Rg wl rc) (8) (2048) := by
  obtain ⟨tb, pa, q, na, nd, rd, sr, nr, nc, nn, nf, hZ, hX0⟩ := hH
  have hin9 : vp_in (nI v) 16384 := vp_in_nI hv9 (by omega)
  obtain ⟨z5, hz1, hz2, hz3⟩ := hX0.c5
  obtain ⟨kd, rf, it, lg⟩ := S
  obtain ⟨⟨kh, e0, e1, e2, e3, e4⟩, ⟨kq, eq⟩, hG, hN, hna, hnr⟩ := id hZ
  dsimp only at kh e0 e1 e2 e3 e4 kq eq
  dsimp only at hz1
  refine s_met (cc := c_H_touch) (maxL := 2) (by decide) rfl (by simp [Value.category]) (by simp [lg_sl, Value.category]) ?_
  intro p e s m args below meth c ls hx hb hr hts hown hlocks hin hml hK hX hsz hM hl
  have hg := gd_hts hts
  have hl : lc ls 2 [some (va_rf (some h0)), some (.int (nI v))] := hl
  refine q_iload_n (i := 1) hx hb d_H_touch_0 rfl hl rfl ?_
  refine s_callv (r_S 1 [.int (nI v)] rfl hx hb hml hown hg (m_H_requireNode l D dA _ _ (nI v) hin9) (hM.pre hK hX) kw_280 kw_281 kw_1 kw_282 (by decide +kernel) ⟨Nat.le_of_ble_eq_true rfl, Nat.le_of_ble_eq_true rfl⟩ rfl rfl hl.sz (by first | exact Nat.le_of_ble_eq_true rfl | simp [rf_cat] | simp [rf_cat, Value.category]) d_H_touch_1 ⟨by show _ ≤ 8; omega, by show _ ≤ 2048; omega⟩ rfl) hM (fun u H locs hp hM => ?_)
  subst hp
  refine q_al_n (i := 0) hx hb d_H_touch_4 rfl hl rfl ?_
  refine q_al_n (i := 0) hx hb d_H_touch_5 rfl hl rfl ?_
  refine s_getr (C := R_H) (T := F_H) (N := 7) (ci := 0) hx hb hg in_H hown hK hM kh rfl 0 (by decide) rfl (hg _ kw_65) (fun _ h9 => h9) d_H_touch_6 ?_
  rw [e0]
  refine q_iload_n (i := 1) hx hb d_H_touch_9 rfl hl rfl ?_
  refine s_callq (r_V 1 [.int (nI v)] rfl hx hb hml hown hg (m_T_ofN l D dA _ _ tb pa nd v hG.1 hv9) (hM.pre hK hX) (hM.recv hK hG.1.1 (q := cls.getD 1 (R_H, F_H, 7)) rfl) kw_107 kw_108 kw_109 kw_2 kw_110 (by decide +kernel) ⟨Nat.le_of_ble_eq_true rfl, Nat.le_of_ble_eq_true rfl⟩ rfl rfl hl.sz (by first | exact Nat.le_of_ble_eq_true rfl | simp [rf_cat] | simp [rf_cat, Value.category]) d_H_touch_10 ⟨by show _ ≤ 8; omega, by show _ ≤ 2048; omega⟩ rfl) hM (fun r1 u H locs hp hM => ?_)
  obtain ⟨a, rfl, hO⟩ := hp
  obtain ⟨hZ1, f1, mono1, g1⟩ := Mz_of hZ hO
  have hna : va_up nd v (some a) v = some a := va_up_self _ _ _
  have hL1 : fewN (va_up nd v (some a)) (2 * (mm + 1)) := fewN_le (fewN_up hX0.hL) (by omega)
  obtain ⟨hq1, hq2, hq3⟩ := Ho_cost hX0 hZ1 hL1 mono1 (fun i x hi => f1 i x (by omega)) hm hna
  obtain ⟨kd1, rf1, it1, lg1⟩ := u
  refine s_callv (r_V 1 [.ref a] rfl hx hb hml hown hg (m_H_markTouched l D dA _ _ h0 tb (na 0) (na 1) (na 2) q a (nr 0) (nc 0) (nn 0) v (nf 0) hZ1.1 (hZ1.2.2.1.nk hna).2.1 (hZ1.2.2.1.nk hna).2.2 (hZ1.2.2.2.1 0 (by decide)) hq3) (hM.pre hK hX) (hM.recv hK hZ1.1.1 (q := cls.getD 0 (R_H, F_H, 7)) rfl) kw_412 kw_414 ks_14 kw_1 kw_415 (by decide +kernel) ⟨Nat.le_of_ble_eq_true rfl, Nat.le_of_ble_eq_true rfl⟩ rfl rfl hl.sz (by first | exact Nat.le_of_ble_eq_true rfl | simp [rf_cat] | simp [rf_cat, Value.category]) d_H_touch_13 ⟨by show _ ≤ 8; omega, by show _ ≤ 2048; omega⟩ rfl) hM (fun u9 H locs hp hM => ?_)
  refine W.widen (k := 8) (n := 2048) (by omega) (by omega) ?_
  refine s_vret hx hb hr hM ?_ d_H_touch_16 hlocks
  refine Ho_fin hX0 hZ1 hL1 mono1 (fun i x hi => f1 i x (by omega)) hm hna hX0.hE (fun x => ⟨Nat.le_succ_of_le (hX0.hlen x).1, Nat.le_succ_of_le (hX0.hlen x).2⟩) (g1 6) ⟨z5, by rw [g1 5]; exact hz1, by omega, by omega⟩ (fun x _ y => Iff.rfl) hp
/-- what link does -/
def LinkP (h0 mm : Nat) (E : Nat → Nat → Prop) (T Rg : Nat → Prop) (wl : List Nat) (rc v t : Nat) (x : Int32) (u : sS) : Prop :=
  (E v t ∧ x = 0 ∧ Ho u h0 (mm + 1) E T Rg wl rc) ∨ (¬ E v t ∧ x = 1 ∧ Ho u h0 (mm + 1) (fun a b => E a b ∨ (a = v ∧ b = t)) (fun a => T a ∨ a = v) Rg wl rc)
set_option maxHeartbeats 4000000 in
set_option maxRecDepth 100000 in
theorem m_H_link (l : Launch) (D : va_G) (dA : Nat → ClassId) (S : sS) (sz : Nat) (h0 mm : Nat) (E : Nat → Nat → Prop) (T Rg : Nat → Prop) (wl : List Nat) (rc : Nat) (v t : Nat) (hH : Ho S h0 mm E T Rg wl rc) (hm : mm ≤ 511) (hv9 : v < 16384) (ht9 : t < 16384) :
    cI l y_H_link c_H_link 4 (some .boolean) (rmk 4 8 2048) D dA S sz [.ref h0, .int (nI v), .int (nI t)] (LinkP h0 mm E T Rg wl rc v t) (8) (2048) := by
  have hH' := Ho_mono hH (Nat.le_succ mm)
  obtain ⟨tb, pa, q, na, nd, rd, sr, nr, nc, nn, nf, hZ, hX0⟩ := hH
  have hin9 : vp_in (nI v) 16384 := vp_in_nI hv9 (by omega)
  obtain ⟨z5, hz1, hz2, hz3⟩ := hX0.c5
  obtain ⟨kd, rf, it, lg⟩ := S
  obtain ⟨⟨kh, e0, e1, e2, e3, e4⟩, ⟨kq, eq⟩, hG, hN, hna, hnr⟩ := id hZ
  dsimp only at kh e0 e1 e2 e3 e4 kq eq
  dsimp only at hz1
  have hin8 : vp_in (nI t) 16384 := vp_in_nI ht9 (by omega)
  refine s_met (cc := c_H_link) (maxL := 4) (by decide) rfl (by simp [Value.category]) (by simp [lg_sl, Value.category]) ?_
  intro p e s m args below meth c ls hx hb hr hts hown hlocks hin hml hK hX hsz hM hl
  have hg := gd_hts hts
  have hl : lc ls 4 [some (va_rf (some h0)), some (.int (nI v)), some (.int (nI t)), none] := hl
  refine q_iload_n (i := 1) hx hb d_H_link_0 rfl hl rfl ?_
  refine s_callv (r_S 1 [.int (nI v)] rfl hx hb hml hown hg (m_H_requireNode l D dA _ _ (nI v) hin9) (hM.pre hK hX) kw_280 kw_281 kw_1 kw_282 (by decide +kernel) ⟨Nat.le_of_ble_eq_true rfl, Nat.le_of_ble_eq_true rfl⟩ rfl rfl hl.sz (by first | exact Nat.le_of_ble_eq_true rfl | simp [rf_cat] | simp [rf_cat, Value.category]) d_H_link_1 ⟨by show _ ≤ 8; omega, by show _ ≤ 2048; omega⟩ rfl) hM (fun u H locs hp hM => ?_)
  subst hp
  refine q_iload_n (i := 2) hx hb d_H_link_4 rfl hl rfl ?_
  refine s_callv (r_S 1 [.int (nI t)] rfl hx hb hml hown hg (m_H_requireNode l D dA _ _ (nI t) hin8) (hM.pre hK hX) kw_280 kw_281 kw_1 kw_282 (by decide +kernel) ⟨Nat.le_of_ble_eq_true rfl, Nat.le_of_ble_eq_true rfl⟩ rfl rfl hl.sz (by first | exact Nat.le_of_ble_eq_true rfl | simp [rf_cat] | simp [rf_cat, Value.category]) d_H_link_5 ⟨by show _ ≤ 8; omega, by show _ ≤ 2048; omega⟩ rfl) hM (fun u H locs hp hM => ?_)
  subst hp
  refine q_al_n (i := 0) hx hb d_H_link_8 rfl hl rfl ?_
  refine q_iload_n (i := 1) hx hb d_H_link_9 rfl hl rfl ?_
  refine q_iload_n (i := 2) hx hb d_H_link_10 rfl hl rfl ?_
  refine s_callq (r_V 2 [.int (nI v), .int (nI t)] rfl hx hb hml hown hg (m_H_linkBetween l D dA _ _ h0 tb (na 0) (na 1) (na 2) q pa nd rd sr v t hZ.1 hG hv9 ht9) (hM.pre hK hX) (hM.recv hK kh (q := cls.getD 0 (R_H, F_H, 7)) rfl) kw_350 kw_352 ks_11 kw_1 kw_353 (by decide +kernel) ⟨Nat.le_of_ble_eq_true rfl, Nat.le_of_ble_eq_true rfl⟩ rfl rfl hl.sz (by first | exact Nat.le_of_ble_eq_true rfl | simp [rf_cat] | simp [rf_cat, Value.category]) d_H_link_11 ⟨by show _ ≤ 8; omega, by show _ ≤ 2048; omega⟩ rfl) hM (fun r1 u H locs hp hM => ?_)
  obtain ⟨rfl, hp⟩ := hp
  refine q_ifnull (tgt := 19) hx hb d_H_link_14 (by decide) (fun c1 => ?_) (fun y c1 => ?_)
  · have hno : ¬ rE rd v t := by
      rcases hp with ⟨-, z⟩ | ⟨k, z, -⟩
      · exact z
      · rw [c1] at z; cases z
    refine q_al_n (i := 0) hx hb d_H_link_19 rfl hl rfl ?_
    refine s_geti (C := R_H) (T := F_H) (N := 7) (ci := 0) hx hb hg in_H hown hK hM kh rfl 5 (by decide) rfl (hg _ kw_70) (fun _ h9 => h9) d_H_link_20 ?_
    rw [hz1]
    refine lv_ldc (v := 65536) hx hb hown (hg _ kw_354) d_H_link_23 ?_
    refine lv_icmp_lt (tgt := 38) hx hb d_H_link_25 (by decide) (fun c2 => ?_) (fun c2 => ?_)
    · refine q_al_n (i := 0) hx hb d_H_link_38 rfl hl rfl ?_
      refine s_getr (C := R_H) (T := F_H) (N := 7) (ci := 0) hx hb hg in_H hown hK hM kh rfl 0 (by decide) rfl (hg _ kw_65) (fun _ h9 => h9) d_H_link_39 ?_
      rw [e0]
      refine q_iload_n (i := 1) hx hb d_H_link_42 rfl hl rfl ?_
      refine s_callq (r_V 1 [.int (nI v)] rfl hx hb hml hown hg (m_T_ofN l D dA _ _ tb pa nd v hG.1 hv9) (hM.pre hK hX) (hM.recv hK hG.1.1 (q := cls.getD 1 (R_H, F_H, 7)) rfl) kw_107 kw_108 kw_109 kw_2 kw_110 (by decide +kernel) ⟨Nat.le_of_ble_eq_true rfl, Nat.le_of_ble_eq_true rfl⟩ rfl rfl hl.sz (by first | exact Nat.le_of_ble_eq_true rfl | simp [rf_cat] | simp [rf_cat, Value.category]) d_H_link_43 ⟨by show _ ≤ 8; omega, by show _ ≤ 2048; omega⟩ rfl) hM (fun r2 u1 H locs hp9 hM => ?_)
      obtain ⟨a, rfl, hO⟩ := hp9
      obtain ⟨hZ1, f1, mono1, g1⟩ := Mz_of hZ hO
      have hna1 : va_up nd v (some a) v = some a := va_up_self _ _ _
      refine q_astore_n (i := 3) hx hb (_) d_H_link_46 rfl hl (by decide) (fun ls hl => ?_)
      simp only [List.set_cons_succ, List.set_cons_zero] at hl
      refine s_new (C := R_K) (T := F_K) (N := 6) (ci := 4) hx hb hg in_K ft_K ft_K_ok hown (hg _ kw_371) (hg _ kw_372) (hg _ kw_13) hK hM rfl df_K (by show _ ≤ 8; omega) (by show _ ≤ 2048; omega) d_H_link_47 (fun k H hk hM => ?_)
      obtain ⟨hZ2, f2, g2⟩ := Mz_new hZ1 (K := .inl 4) hk
      have kk2 : (sNew u1 k (.inl 4)).1 k = some (.inl 4) := va_up_self _ _ _
      have kr2 : (sNew u1 k (.inl 4)).2.1 k = fun _ => none := upr_self _ _ _
      have ki2 : (sNew u1 k (.inl 4)).2.2.1 k = fun _ => 0 := upr_self _ _ _
      have hkn : ∀ x y, (k, y) ∉ rd x := fun x y z => by
        have := (hZ1.2.2.1.2.2.2.1 x k y z).1
        rw [hk] at this; cases this
      generalize sNew u1 k (.inl 4) = u2 at hZ2 f2 g2 kk2 kr2 ki2 hM
      have kh2 := hZ2.1.1
      have e02 := hZ2.1.2.1
      obtain ⟨kd2, rf2, it2, lg2⟩ := u2
      dsimp only at kh2 e02 kk2 kr2 ki2
      refine lv_dup hx hb d_H_link_50 rfl ?_
      refine q_al_n (i := 3) hx hb d_H_link_51 rfl hl rfl ?_
      refine q_al_n (i := 0) hx hb d_H_link_52 rfl hl rfl ?_
      refine s_getr (C := R_H) (T := F_H) (N := 7) (ci := 0) hx hb hg in_H hown hK hM kh2 rfl 0 (by decide) rfl (hg _ kw_65) (fun _ h9 => h9) d_H_link_53 ?_
      rw [e02]
      refine q_iload_n (i := 2) hx hb d_H_link_56 rfl hl rfl ?_
      refine s_callq (r_V 1 [.int (nI t)] rfl hx hb hml hown hg (m_T_ofN l D dA _ _ tb pa _ t hZ2.2.2.1.1 ht9) (hM.pre hK hX) (hM.recv hK hZ2.2.2.1.1.1 (q := cls.getD 1 (R_H, F_H, 7)) rfl) kw_107 kw_108 kw_109 kw_2 kw_110 (by decide +kernel) ⟨Nat.le_of_ble_eq_true rfl, Nat.le_of_ble_eq_true rfl⟩ rfl rfl hl.sz (by first | exact Nat.le_of_ble_eq_true rfl | simp [rf_cat] | simp [rf_cat, Value.category]) d_H_link_57 ⟨by show _ ≤ 8; omega, by show _ ≤ 2048; omega⟩ rfl) hM (fun r2 u3 H locs hp9 hM => ?_)
      obtain ⟨b, rfl, hO3⟩ := hp9
      obtain ⟨hZ3, f3, mono3, g3⟩ := Mz_of hZ2 hO3
      have hna : va_up (va_up nd v (some a)) t (some b) v = some a := mono3 v a hna1
      have hnb : va_up (va_up nd v (some a)) t (some b) t = some b := va_up_self _ _ _
      have hL3 : fewN (va_up (va_up nd v (some a)) t (some b)) (2 * (mm + 1)) := fewN_le (fewN_up (fewN_up hX0.hL)) (by omega)
      have hkRA : ¬ isRA (kd2, rf2, it2, lg2) k := fun ⟨t9, n9, h9, _⟩ => by rw [show (kd2, rf2, it2, lg2).1 k = kd2 k from rfl, kk2] at h9; cases h9
      have hk3 := hO3.2.2.1 k (show kd2 k ≠ none by rw [kk2]; exact fun z => by cases z)
      have kk3 : u3.1 k = some (.inl 4) := hk3.1.trans kk2
      have kr3 : u3.2.1 k = fun _ => none := (hk3.2 hkRA).1.trans kr2
      have ki3 : u3.2.2.1 k = fun _ => 0 := (hk3.2 hkRA).2.1.trans ki2
      generalize va_up (va_up nd v (some a)) t (some b) = nd3 at hZ3 f3 mono3 hna hnb hL3
      clear hO3 hO
      refine s_callv (r_I 2 [.ref a, .ref b] rfl hx hb hml hown hg (m_K_init l D dA _ _ k a b kk3) (hM.pre hK hX) rfl kw_373 kw_374 kw_13 kw_375 (by decide +kernel) ⟨Nat.le_of_ble_eq_true rfl, Nat.le_of_ble_eq_true rfl⟩ rfl rfl hl.sz (by first | exact Nat.le_of_ble_eq_true rfl | simp [rf_cat] | simp [rf_cat, Value.category]) d_H_link_60 ⟨by show _ ≤ 8; omega, by show _ ≤ 2048; omega⟩ rfl) hM (fun u4 H locs hp9 hM => ?_)
      have ka3 := (hZ3.2.2.1.nk hna).2.1
      have kb3 := (hZ3.2.2.1.nk hnb).2.1
      have k4 : u4.1 = u3.1 := by rw [hp9]
      have rk0 : u4.2.1 k 0 = some a := by rw [hp9]; show up2 (up2 u3.2.1 k 0 (some a)) k 1 (some b) k 0 = _; rw [up2_ne _ _ (by decide), up2_self]
      have rk1 : u4.2.1 k 1 = some b := by rw [hp9]; show up2 (up2 u3.2.1 k 0 (some a)) k 1 (some b) k 1 = _; rw [up2_self]
      have hfa : ∀ y, u4.2.1 a 1 = some y → u4.1 y = some (.inl 4) := by
        intro y hy
        have hak : a ≠ k := sk_d ka3 kk3 (by decide)
        rw [hp9] at hy
        have hy' : up2 (up2 u3.2.1 k 0 (some a)) k 1 (some b) a 1 = some y := hy
        rw [up2_off _ _ hak, up2_off _ _ hak] at hy'
        rw [k4]
        exact hZ3.2.2.1.lk1 v y (ch_first (hZ3.2.2.1.c1 v a hna).1 hy')
      have hfb : ∀ y, u4.2.1 b 2 = some y → u4.1 y = some (.inl 4) := by
        intro y hy
        have hbk : b ≠ k := sk_d kb3 kk3 (by decide)
        rw [hp9] at hy
        have hy' : up2 (up2 u3.2.1 k 0 (some a)) k 1 (some b) b 2 = some y := hy
        rw [up2_off _ _ hbk, up2_off _ _ hbk] at hy'
        rw [k4]
        exact hZ3.2.2.1.lk2 t y (ch_first (hZ3.2.2.1.c2 t b hnb).1 hy')
      refine s_callv (r_V 0 [] rfl hx hb hml hown hg (m_K_fasten l D dA _ _ k a b hfa hfb (by rw [k4]; exact kk3) (by rw [k4]; exact ka3) (by rw [k4]; exact kb3) rk0 rk1) (hM.pre hK hX) (hM.recv hK (show u4.1 k = some (.inl 4) by rw [k4]; exact kk3) (q := cls.getD 4 (R_H, F_H, 7)) rfl) kw_400 kw_401 kw_402 kw_13 kw_403 (by decide +kernel) ⟨Nat.le_of_ble_eq_true rfl, Nat.le_of_ble_eq_true rfl⟩ rfl rfl hl.sz (by first | exact Nat.le_of_ble_eq_true rfl | simp [rf_cat] | simp [rf_cat, Value.category]) d_H_link_63 ⟨by show _ ≤ 8; omega, by show _ ≤ 2048; omega⟩ rfl) hM (fun u6 H locs hp8 hM => ?_)
      obtain ⟨u5, hJ1, hJ2⟩ := hp8
      obtain ⟨gG, gF, gI, gK, gE⟩ := Gr9_link hZ3.2.2.1 hna hnb kk3 (fun i _ => by rw [kr3]) hkn hno hp9 hJ1 hJ2
      obtain ⟨hZ6, g6⟩ := Mz_gr hZ3 (gF.weak (fun b _ z => Or.inl z)) gG
      have f6 : ∀ i x, 5 ≤ i → fl u6 nd3 i x = fl u3 nd3 i x := by
        intro i x hi
        cases hx9 : nd3 x with
        | none => rw [fl_no hx9, fl_no hx9]
        | some c9 => rw [fl_at hx9, fl_at hx9, gI x c9 i hx9 (by omega) (by omega)]
      have hflA : ∀ i x, 5 ≤ i → fl u6 nd3 i x = fl (kd, rf, it, lg) nd i x := fun i x hi => by
        rw [f6 i x hi, f3 i x (by omega), f2, f1 i x (by omega)]
      have hgA : ∀ i, u6.2.2.1 h0 i = it h0 i := fun i => by rw [g6, g3, g2, g1]
      have hmono : ∀ x b, nd x = some b → nd3 x = some b := fun x b hx => mono3 x b (mono1 x b hx)
      clear hJ1 hJ2 gK
      obtain ⟨kd6, rf6, it6, lg6⟩ := u6
      have kh6 := hZ6.1.1
      have e56 : it6 h0 5 = Int32.ofInt z5 := (hgA 5).trans hz1
      dsimp only at kh6
      refine q_al_n (i := 0) hx hb d_H_link_66 rfl hl rfl ?_
      refine lv_dup hx hb d_H_link_67 rfl ?_
      refine s_geti (C := R_H) (T := F_H) (N := 7) (ci := 0) hx hb hg in_H hown hK hM kh6 rfl 5 (by decide) rfl (hg _ kw_70) (fun _ h9 => h9) d_H_link_68 ?_
      rw [e56]
      refine lv_iconst (v := 1) hx hb d_H_link_71 (by decide) ?_
      refine lv_iadd hx hb d_H_link_72 ?_
      rw [oI_add]
      refine s_puti (C := R_H) (T := F_H) (N := 7) (ci := 0) hx hb hg in_H ft_H ft_H_ok fn_H hown hK hM kh6 rfl 5 (by decide) rfl (hg _ kw_70) (fun _ h9 => h9) rfl rfl rfl d_H_link_73 (fun H locs hM => ?_)
      obtain ⟨hZ7, f7⟩ := Mz_own hZ6 5 (Int32.ofInt (z5 + 1))
      dsimp only at hZ7 f7
      have hflB : ∀ i x, 5 ≤ i → fl (kd6, rf6, up2 it6 h0 5 (Int32.ofInt (z5 + 1)), lg6) nd3 i x = fl (kd, rf, it, lg) nd i x := fun i x hi => by rw [f7, hflA i x hi]
      obtain ⟨hq1, hq2, hq3⟩ := Ho_cost hX0 hZ7 hL3 hmono hflB hm hna
      refine q_al_n (i := 0) hx hb d_H_link_76 rfl hl rfl ?_
      refine q_al_n (i := 3) hx hb d_H_link_77 rfl hl rfl ?_
      refine s_callv (r_V 1 [.ref a] rfl hx hb hml hown hg (m_H_markTouched l D dA _ _ h0 tb (na 0) (na 1) (na 2) q a (nr 0) (nc 0) (nn 0) v (nf 0) hZ7.1 (hZ7.2.2.1.nk hna).2.1 (hZ7.2.2.1.nk hna).2.2 (hZ7.2.2.2.1 0 (by decide)) hq3) (hM.pre hK hX) (hM.recv hK hZ7.1.1 (q := cls.getD 0 (R_H, F_H, 7)) rfl) kw_412 kw_414 ks_14 kw_1 kw_415 (by decide +kernel) ⟨Nat.le_of_ble_eq_true rfl, Nat.le_of_ble_eq_true rfl⟩ rfl rfl hl.sz (by first | exact Nat.le_of_ble_eq_true rfl | simp [rf_cat] | simp [rf_cat, Value.category]) d_H_link_78 ⟨by show _ ≤ 8; omega, by show _ ≤ 2048; omega⟩ rfl) hM (fun u9 H locs hpm hM => ?_)
      refine lv_iconst (v := 1) hx hb d_H_link_81 (by decide) ?_
      refine W.widen (k := 8) (n := 2048) (by omega) (by omega) ?_
      refine s_zret hx hb hr rfl hM (Or.inr ⟨fun z => hno ((hX0.hE v t).mp z), rfl, ?_⟩) d_H_link_82 hlocks
      refine Ho_fin hX0 hZ7 hL3 hmono hflB hm hna (fun x y => ?_) (fun x => ?_) ?_ ⟨z5 + 1, ?_, by omega, by omega⟩ (fun x hx9 y => ?_) hpm
      · rw [hX0.hE]
        unfold rE
        by_cases e : x = v
        · rw [e, va_up_self]
          constructor
          · rintro (⟨c9, h9⟩ | ⟨-, h9⟩)
            · exact ⟨c9, List.mem_cons_of_mem _ h9⟩
            · rw [h9]; exact ⟨k, List.mem_cons_self⟩
          · rintro ⟨c9, h9⟩
            rcases List.mem_cons.mp h9 with z | z
            · exact Or.inr ⟨rfl, congrArg Prod.snd z⟩
            · exact Or.inl ⟨c9, z⟩
        · rw [va_up_ne _ _ e]
          exact ⟨fun z => z.elim id (fun z => absurd z.1 e), Or.inl⟩
      · constructor
        · by_cases e : x = v
          · rw [e, va_up_self, List.length_cons]; have := (hX0.hlen v).1; omega
          · rw [va_up_ne _ _ e]; have := (hX0.hlen x).1; omega
        · by_cases e : x = t
          · rw [e, va_up_self, List.length_cons]; have := (hX0.hlen t).2; omega
          · rw [va_up_ne _ _ e]; have := (hX0.hlen x).2; omega
      · show up2 it6 h0 5 _ h0 6 = _
        rw [up2_ne _ _ (by decide)]; exact hgA 6
      · show up2 it6 h0 5 _ h0 5 = _
        rw [up2_self]
      · exact ⟨fun z => z.elim id (fun z => absurd z.1 hx9), Or.inl⟩
    · exact absurd (oI_lt (by omega) (by omega)) c2
  · refine lv_iconst (v := 0) hx hb d_H_link_17 (by decide) ?_
    have hyes : E v t := by
      rcases hp with ⟨z, -⟩ | ⟨k, -, z⟩
      · rw [c1] at z; cases z
      · exact (hX0.hE v t).mpr ⟨k, z⟩
    refine W.widen (k := 8) (n := 2048) (by omega) (by omega) ?_
    exact s_zret hx hb hr rfl hM (Or.inl ⟨hyes, rfl, hH'⟩) d_H_link_18 hlocks
end
section
/-- what unlink does -/
def UnlinkP (h0 mm : Nat) (E : Nat → Nat → Prop) (T Rg : Nat → Prop) (wl : List Nat) (rc v t : Nat) (x : Int32) (u : sS) : Prop :=
  (¬ E v t ∧ x = 0 ∧ Ho u h0 (mm + 1) E T Rg wl rc) ∨ (E v t ∧ x = 1 ∧ Ho u h0 (mm + 1) (fun a b => E a b ∧ ¬ (a = v ∧ b = t)) (fun a => T a ∨ a = v) Rg wl rc)
set_option maxHeartbeats 4000000 in
set_option maxRecDepth 100000 in
theorem m_H_unlink (l : Launch) (D : va_G) (dA : Nat → ClassId) (S : sS) (sz : Nat) (h0 mm : Nat) (E : Nat → Nat → Prop) (T Rg : Nat → Prop) (wl : List Nat) (rc : Nat) (v t : Nat) (hH : Ho S h0 mm E T Rg wl rc) (hm : mm ≤ 511) (hv9 : v < 16384) (ht9 : t < 16384) :
    cI l y_H_unlink c_H_unlink 4 (some .boolean) (rmk 4 8 2048) D dA S sz [.ref h0, .int (nI v), .int (nI t)] (UnlinkP h0 mm E T Rg wl rc v t) (8) (2048) := by
  have hH' := Ho_mono hH (Nat.le_succ mm)
  obtain ⟨tb, pa, q, na, nd, rd, sr, nr, nc, nn, nf, hZ, hX0⟩ := hH
  have hin9 : vp_in (nI v) 16384 := vp_in_nI hv9 (by omega)
  obtain ⟨z5, hz1, hz2, hz3⟩ := hX0.c5
  obtain ⟨kd, rf, it, lg⟩ := S
  obtain ⟨⟨kh, e0, e1, e2, e3, e4⟩, ⟨kq, eq⟩, hG, hN, hna, hnr⟩ := id hZ
  dsimp only at kh e0 e1 e2 e3 e4 kq eq
  dsimp only at hz1
  have hin8 : vp_in (nI t) 16384 := vp_in_nI ht9 (by omega)
  refine s_met (cc := c_H_unlink) (maxL := 4) (by decide) rfl (by simp [Value.category]) (by simp [lg_sl, Value.category]) ?_
  intro p e s m args below meth c ls hx hb hr hts hown hlocks hin hml hK hX hsz hM hl
  have hg := gd_hts hts
  have hl : lc ls 4 [some (va_rf (some h0)), some (.int (nI v)), some (.int (nI t)), none] := hl
  refine q_iload_n (i := 1) hx hb d_H_unlink_0 rfl hl rfl ?_
  refine s_callv (r_S 1 [.int (nI v)] rfl hx hb hml hown hg (m_H_requireNode l D dA _ _ (nI v) hin9) (hM.pre hK hX) kw_280 kw_281 kw_1 kw_282 (by decide +kernel) ⟨Nat.le_of_ble_eq_true rfl, Nat.le_of_ble_eq_true rfl⟩ rfl rfl hl.sz (by first | exact Nat.le_of_ble_eq_true rfl | simp [rf_cat] | simp [rf_cat, Value.category]) d_H_unlink_1 ⟨by show _ ≤ 8; omega, by show _ ≤ 2048; omega⟩ rfl) hM (fun u H locs hp hM => ?_)
  subst hp
  refine q_iload_n (i := 2) hx hb d_H_unlink_4 rfl hl rfl ?_
  refine s_callv (r_S 1 [.int (nI t)] rfl hx hb hml hown hg (m_H_requireNode l D dA _ _ (nI t) hin8) (hM.pre hK hX) kw_280 kw_281 kw_1 kw_282 (by decide +kernel) ⟨Nat.le_of_ble_eq_true rfl, Nat.le_of_ble_eq_true rfl⟩ rfl rfl hl.sz (by first | exact Nat.le_of_ble_eq_true rfl | simp [rf_cat] | simp [rf_cat, Value.category]) d_H_unlink_5 ⟨by show _ ≤ 8; omega, by show _ ≤ 2048; omega⟩ rfl) hM (fun u H locs hp hM => ?_)
  subst hp
  refine q_al_n (i := 0) hx hb d_H_unlink_8 rfl hl rfl ?_
  refine q_iload_n (i := 1) hx hb d_H_unlink_9 rfl hl rfl ?_
  refine q_iload_n (i := 2) hx hb d_H_unlink_10 rfl hl rfl ?_
  refine s_callq (r_V 2 [.int (nI v), .int (nI t)] rfl hx hb hml hown hg (m_H_linkBetween l D dA _ _ h0 tb (na 0) (na 1) (na 2) q pa nd rd sr v t hZ.1 hG hv9 ht9) (hM.pre hK hX) (hM.recv hK kh (q := cls.getD 0 (R_H, F_H, 7)) rfl) kw_350 kw_352 ks_11 kw_1 kw_353 (by decide +kernel) ⟨Nat.le_of_ble_eq_true rfl, Nat.le_of_ble_eq_true rfl⟩ rfl rfl hl.sz (by first | exact Nat.le_of_ble_eq_true rfl | simp [rf_cat] | simp [rf_cat, Value.category]) d_H_unlink_11 ⟨by show _ ≤ 8; omega, by show _ ≤ 2048; omega⟩ rfl) hM (fun r1 u H locs hp hM => ?_)
  obtain ⟨rfl, hp⟩ := hp
  refine q_astore_n (i := 3) hx hb (_) d_H_unlink_14 rfl hl (by decide) (fun ls hl => ?_)
  simp only [List.set_cons_succ, List.set_cons_zero] at hl
  refine q_al_n (i := 3) hx hb d_H_unlink_15 rfl hl rfl ?_
  refine q_ifnonnull (tgt := 21) hx hb d_H_unlink_16 (by decide) (fun k c1 => ?_) (fun c1 => ?_)
  · have hkm : (k, t) ∈ rd v := by
      rcases hp with ⟨z, -⟩ | ⟨k2, z, z2⟩
      · rw [c1] at z; cases z
      · rw [c1] at z; rw [Option.some.inj z]; exact z2
    obtain ⟨kk, ⟨a, hna, rk0⟩, ⟨b, hnb, rk1⟩, hsm⟩ := hG.2.2.2.1 v k t hkm
    obtain ⟨lo1, lo2⟩ := Gr9_lo hG hkm
    obtain ⟨i9, hi9⟩ := List.getElem?_of_mem hkm
    obtain ⟨j9, hj9⟩ := List.getElem?_of_mem hsm
    dsimp only at kk rk0 rk1
    rw [c1] at hl
    refine q_al_n (i := 3) hx hb d_H_unlink_21 rfl hl rfl ?_
    refine s_callv (r_V 0 [] rfl hx hb hml hown hg (m_K_loosen l D dA _ _ k a b lo1 kk (hG.nk hna).2.1 (hG.nk hnb).2.1 rk0 rk1 lo2) (hM.pre hK hX) (hM.recv hK kk (q := cls.getD 4 (R_H, F_H, 7)) rfl) kw_423 kw_424 kw_425 kw_13 kw_426 (by decide +kernel) ⟨Nat.le_of_ble_eq_true rfl, Nat.le_of_ble_eq_true rfl⟩ rfl rfl hl.sz (by first | exact Nat.le_of_ble_eq_true rfl | simp [rf_cat] | simp [rf_cat, Value.category]) d_H_unlink_22 ⟨by show _ ≤ 8; omega, by show _ ≤ 2048; omega⟩ rfl) hM (fun u6 H locs hp8 hM => ?_)
    obtain ⟨u5, hJ1, hJ2⟩ := hp8
    obtain ⟨gG, gF, gI, gE, gM, gN⟩ := Gr9_unlink hG hna hnb hi9 hj9 (fun x => by have := (hX0.hlen x).1; omega) (fun x => by have := (hX0.hlen x).2; omega) hJ1 hJ2
    obtain ⟨hZ6, g6⟩ := Mz_gr hZ (gF.weak (fun b _ z => Or.inl z)) gG
    have hflA : ∀ i x, 5 ≤ i → fl u6 nd i x = fl (kd, rf, it, lg) nd i x := by
      intro i x hi
      cases hx9 : nd x with
      | none => rw [fl_no hx9, fl_no hx9]
      | some c9 => rw [fl_at hx9, fl_at hx9, gI x c9 i hx9 (by omega) (by omega)]
    have kk6 : u6.1 k = some (.inl 4) := by rw [gE]; exact kk
    have rk6 : u6.2.1 k 0 = some a := by
      rw [leave_rf hJ2 (Or.inr (by decide)) (by decide) (by decide), leave_rf hJ1 (Or.inr (by decide)) (by decide) (by decide)]; exact rk0
    clear hJ1 hJ2
    have hL6 : fewN nd (2 * (mm + 1)) := fewN_le hX0.hL (by omega)
    obtain ⟨kd6, rf6, it6, lg6⟩ := u6
    have kh6 := hZ6.1.1
    have e56 : it6 h0 5 = Int32.ofInt z5 := (g6 5).trans hz1
    dsimp only at kh6 kk6 rk6
    refine q_al_n (i := 0) hx hb d_H_unlink_25 rfl hl rfl ?_
    refine lv_dup hx hb d_H_unlink_26 rfl ?_
    refine s_geti (C := R_H) (T := F_H) (N := 7) (ci := 0) hx hb hg in_H hown hK hM kh6 rfl 5 (by decide) rfl (hg _ kw_70) (fun _ h9 => h9) d_H_unlink_27 ?_
    rw [e56]
    refine lv_iconst (v := nI 1) hx hb d_H_unlink_30 (by decide) ?_
    refine lv_isub hx hb d_H_unlink_31 ?_
    rw [oI_sub]
    refine s_puti (C := R_H) (T := F_H) (N := 7) (ci := 0) hx hb hg in_H ft_H ft_H_ok fn_H hown hK hM kh6 rfl 5 (by decide) rfl (hg _ kw_70) (fun _ h9 => h9) rfl rfl rfl d_H_unlink_32 (fun H locs hM => ?_)
    obtain ⟨hZ7, f7⟩ := Mz_own hZ6 5 (Int32.ofInt (z5 - (1 : Nat)))
    dsimp only at hZ7 f7
    have hflB : ∀ i x, 5 ≤ i → fl (kd6, rf6, up2 it6 h0 5 (Int32.ofInt (z5 - (1 : Nat))), lg6) nd i x = fl (kd, rf, it, lg) nd i x := fun i x hi => by rw [f7, hflA i x hi]
    obtain ⟨hq1, hq2, hq3⟩ := Ho_cost hX0 hZ7 hL6 (fun _ _ h => h) hflB hm hna
    refine q_al_n (i := 0) hx hb d_H_unlink_35 rfl hl rfl ?_
    refine q_al_n (i := 3) hx hb d_H_unlink_36 rfl hl rfl ?_
    refine s_getr (C := R_K) (T := F_K) (N := 6) (ci := 4) hx hb hg in_K hown hK hM kk6 rfl 0 (by decide) rfl (hg _ kw_378) (fun _ h9 => h9) d_H_unlink_37 ?_
    rw [rk6]
    refine s_callv (r_V 1 [.ref a] rfl hx hb hml hown hg (m_H_markTouched l D dA _ _ h0 tb (na 0) (na 1) (na 2) q a (nr 0) (nc 0) (nn 0) v (nf 0) hZ7.1 (hZ7.2.2.1.nk hna).2.1 (hZ7.2.2.1.nk hna).2.2 (hZ7.2.2.2.1 0 (by decide)) hq3) (hM.pre hK hX) (hM.recv hK hZ7.1.1 (q := cls.getD 0 (R_H, F_H, 7)) rfl) kw_412 kw_414 ks_14 kw_1 kw_415 (by decide +kernel) ⟨Nat.le_of_ble_eq_true rfl, Nat.le_of_ble_eq_true rfl⟩ rfl rfl hl.sz (by first | exact Nat.le_of_ble_eq_true rfl | simp [rf_cat] | simp [rf_cat, Value.category]) d_H_unlink_40 ⟨by show _ ≤ 8; omega, by show _ ≤ 2048; omega⟩ rfl) hM (fun u9 H locs hpm hM => ?_)
    refine lv_iconst (v := 1) hx hb d_H_unlink_43 (by decide) ?_
    refine W.widen (k := 8) (n := 2048) (by omega) (by omega) ?_
    refine s_zret hx hb hr rfl hM (Or.inr ⟨(hX0.hE v t).mpr ⟨k, hkm⟩, rfl, ?_⟩) d_H_unlink_44 hlocks
    refine Ho_fin hX0 hZ7 hL6 (fun _ _ h => h) hflB hm hna (fun x y => ?_) (fun x => ?_) ?_ ⟨z5 - (1 : Nat), ?_, by omega, by omega⟩ (fun x hx9 y => ?_) hpm
    · rw [hX0.hE]
      unfold rE
      by_cases e : x = v
      · rw [e, va_up_self, gM]
        exact ⟨fun z => ⟨z.1, fun y9 => z.2 ⟨rfl, y9⟩⟩, fun z => ⟨z.1, fun y9 => z.2 y9.2⟩⟩
      · rw [va_up_ne _ _ e]
        exact ⟨fun z => z.1, fun z => ⟨z, fun y9 => e y9.1⟩⟩
    · constructor
      · by_cases e : x = v
        · rw [e, va_up_self]; have := (hX0.hlen v).1; omega
        · rw [va_up_ne _ _ e]; have := (hX0.hlen x).1; omega
      · by_cases e : x = t
        · rw [e, va_up_self]; have := (hX0.hlen t).2; have := List.length_eraseIdx_le (sr t) j9; omega
        · rw [va_up_ne _ _ e]; have := (hX0.hlen x).2; omega
    · show up2 it6 h0 5 _ h0 6 = _
      rw [up2_ne _ _ (by decide)]; exact g6 6
    · show up2 it6 h0 5 _ h0 5 = _
      rw [up2_self]
    · exact ⟨fun z => z.1, fun z => ⟨z, fun y9 => hx9 y9.1⟩⟩
  · refine lv_iconst (v := 0) hx hb d_H_unlink_19 (by decide) ?_
    have hno : ¬ E v t := by
      rcases hp with ⟨-, z⟩ | ⟨k, z, -⟩
      · exact fun y => z ((hX0.hE v t).mp y)
      · rw [c1] at z; cases z
    refine W.widen (k := 8) (n := 2048) (by omega) (by omega) ?_
    exact s_zret hx hb hr rfl hM (Or.inl ⟨hno, rfl, hH'⟩) d_H_unlink_20 hlocks
/-- clear's loop: the first i links are loosened -/
def ClI (S1 S : sS) (h0 tb pa q : Nat) (na : Nat → Nat) (nd : Nat → Option Nat) (rd rdi sri : Nat → List (Nat × Nat)) (nr nc nn : Nat → Nat) (nf : Nat → Nat → Nat) (mm v i : Nat) : Prop :=
  Mz S h0 tb pa q na nd rdi sri nr nc nn nf ∧ rdi v = (rd v).drop i ∧ (∀ x, x ≠ v → rdi x = rd x) ∧ (∀ x, (sri x).length ≤ mm) ∧ (∀ j x, 5 ≤ j → fl S nd j x = fl S1 nd j x) ∧ ∀ j, S.2.2.1 h0 j = S1.2.2.1 h0 j
set_option maxHeartbeats 4000000 in
set_option maxRecDepth 100000 in
theorem cl_loop {p : Program} {l : Launch} {e : Env} {s : State} {m : MethodId} {args : Array Value} {below : List Frame} {meth : Method} {c : Code} {D : va_G} {dA : Nat → ClassId} {A : Nat → Prop} {Q : State → Prop} (hx : p.tables.exec = Jvm.exec) (hb : c.code = c_H_clear) (hml : c.maxLocals = 6) (hown : s.vm.findClass R_H = some m.cls) (hg : ∀ w ∈ gd, w.before args s = true) (hK : va_K D cls (tys dA) s) (hX : sKx s) {cells slots : Nat} (hcs : cells ≤ 8 ∧ slots ≤ 2048) {S1 : sS} {h0 tb pa q : Nat} {na : Nat → Nat} {nd : Nat → Option Nat} {rd : Nat → List (Nat × Nat)} {nr nc nn : Nat → Nat} {nf : Nat → Nat → Nat} {mm v a N : Nat} (hm : mm ≤ 511) (hlen : ∀ x, (rd x).length ≤ mm) (hna : nd v = some a)
    (kk : ∀ (S : sS) (rdi sri : Nat → List (Nat × Nat)) (H : Heap) (locs : List Loc) (ls : Array Slot) (o : Option Value), SW D dA A s.heap S H locs → lc ls 6 [some (va_rf (some h0)), some (.int (nI v)), some (va_rf (some a)), some (.int (nI N)), some (va_rf none), o] → ClI S1 S h0 tb pa q na nd rd rdi sri nr nc nn nf mm v (rd v).length → W p l e (rmk 4 8 2048) s m args below meth c H locs cells slots Q (F0 m 48 ls [])) :
    ∀ (d i : Nat) (S : sS) (rdi sri : Nat → List (Nat × Nat)) (H : Heap) (locs : List Loc) (ls : Array Slot) (o : Option Value), i + d = (rd v).length → SW D dA A s.heap S H locs → lc ls 6 [some (va_rf (some h0)), some (.int (nI v)), some (va_rf (some a)), some (.int (nI N)), some (va_rf (((rd v).map Prod.fst)[i]?)), o] → ClI S1 S h0 tb pa q na nd rd rdi sri nr nc nn nf mm v i → W p l e (rmk 4 8 2048) s m args below meth c H locs cells slots Q (F0 m 24 ls []) := by
  intro d
  induction d with
  | zero =>
    intro i S rdi sri H locs ls o hi hM hl hI
    have e : ((rd v).map Prod.fst)[i]? = none := List.getElem?_eq_none (by rw [List.length_map]; omega)
    have ei : i = (rd v).length := by omega
    rw [e] at hl
    rw [ei] at hI
    refine q_al hx hb d_H_clear_24 hl rfl ?_
    refine q_ifnull (tgt := 48) hx hb d_H_clear_26 (by decide) (fun c1 => ?_) (fun y c1 => ?_)
    · exact kk S rdi sri H locs ls _ hM hl hI
    · cases c1
  | succ d ih =>
    intro i S rdi sri H locs ls o hi hM hl hI
    obtain ⟨hZ, i1, i2, i3, i4, i5⟩ := hI
    have hG := hZ.2.2.1
    have hil : i < ((rd v).map Prod.fst).length := by rw [List.length_map]; omega
    obtain ⟨k, ek⟩ : ∃ k, ((rd v).map Prod.fst)[i]? = some k := ⟨_, List.getElem?_eq_getElem hil⟩
    obtain ⟨t, et⟩ := ml_at ek
    have hi0 : (rdi v)[0]? = some (k, t) := by rw [i1, List.getElem?_drop, Nat.add_zero]; exact et
    have hkm := List.mem_of_getElem? hi0
    obtain ⟨kk9, ⟨a9, hna9, rk0⟩, ⟨b, hnb, rk1⟩, hsm⟩ := hG.2.2.2.1 v k t hkm
    have ea : a9 = a := Option.some.inj (hna9.symm.trans hna)
    subst ea
    obtain ⟨lo1, lo2⟩ := Gr9_lo hG hkm
    obtain ⟨j9, hj9⟩ := List.getElem?_of_mem hsm
    have hlenI : ∀ x, (rdi x).length ≤ mm := by
      intro x
      by_cases e : x = v
      · rw [e, i1, List.length_drop]; have := hlen v; omega
      · rw [i2 x e]; exact hlen x
    have hk0 : ((rdi v).map Prod.fst)[0]? = some k := by rw [List.getElem?_map, hi0]; rfl
    have r3 : S.2.1 k 3 = ((rd v).map Prod.fst)[i + 1]? := by
      rw [((hG.2.1 v a9 hna).1.2 0 k hk0).1, i1, List.map_drop, List.getElem?_drop]
    obtain ⟨kd, rf, it, lg⟩ := S
    dsimp only at kk9 rk0 rk1 r3
    rw [ek] at hl
    refine q_al hx hb d_H_clear_24 hl rfl ?_
    refine q_ifnull (tgt := 48) hx hb d_H_clear_26 (by decide) (fun c1 => ?_) (fun y c1 => ?_)
    · cases c1
    · refine q_al hx hb d_H_clear_29 hl rfl ?_
      refine s_getr (C := R_K) (T := F_K) (N := 6) (ci := 4) hx hb hg in_K hown hK hM kk9 rfl 3 (by decide) rfl (hg _ kw_383) (fun _ h9 => h9) d_H_clear_31 ?_
      rw [r3]
      refine q_astore hx hb (_) d_H_clear_34 hl (by decide) (fun ls hl => ?_)
      simp only [List.set_cons_succ, List.set_cons_zero] at hl
      refine q_al hx hb d_H_clear_36 hl rfl ?_
      refine s_callv (r_V 0 [] rfl hx hb hml hown hg (m_K_loosen l D dA _ _ k a9 b lo1 kk9 (hG.nk hna).2.1 (hG.nk hnb).2.1 rk0 rk1 lo2) (hM.pre hK hX) (hM.recv hK kk9 (q := cls.getD 4 (R_H, F_H, 7)) rfl) kw_423 kw_424 kw_425 kw_13 kw_426 (by decide +kernel) ⟨Nat.le_of_ble_eq_true rfl, Nat.le_of_ble_eq_true rfl⟩ rfl rfl hl.sz (by first | exact Nat.le_of_ble_eq_true rfl | simp [rf_cat] | simp [rf_cat, Value.category]) d_H_clear_38 ⟨hcs.1, hcs.2⟩ rfl) hM (fun u6 H locs hp8 hM => ?_)
      obtain ⟨u5, hJ1, hJ2⟩ := hp8
      obtain ⟨gG, gF, gI, gE, gM, gN⟩ := Gr9_unlink hG hna hnb hi0 hj9 (fun x => by have := hlenI x; omega) (fun x => by have := i3 x; omega) hJ1 hJ2
      obtain ⟨hZ6, g6⟩ := Mz_gr hZ (gF.weak (fun b _ z => Or.inl z)) gG
      refine q_al hx hb d_H_clear_41 hl rfl ?_
      refine q_astore hx hb (_) d_H_clear_43 hl (by decide) (fun ls hl => ?_)
      simp only [List.set_cons_succ, List.set_cons_zero] at hl
      refine lv_goto (tgt := 24) hx hb d_H_clear_45 (by decide) ?_
      refine ih (i + 1) u6 _ _ H locs ls _ (by omega) hM hl ⟨hZ6, ?_, fun x hx9 => ?_, fun x => ?_, fun j x hj => ?_, fun j => (g6 j).trans (i5 j)⟩
      · rw [va_up_self, i1, List.eraseIdx_zero, List.tail_drop]
      · rw [va_up_ne _ _ hx9]; exact i2 x hx9
      · by_cases e : x = t
        · rw [e, va_up_self]; have := i3 t; have := List.length_eraseIdx_le (sri t) j9; omega
        · rw [va_up_ne _ _ e]; exact i3 x
      · rw [← i4 j x hj]
        cases hx9 : nd x with
        | none => rw [fl_no hx9, fl_no hx9]
        | some c9 => rw [fl_at hx9, fl_at hx9, gI x c9 j hx9 (by omega) (by omega)]
/-- what clear does -/
def ClearP (h0 mm : Nat) (E : Nat → Nat → Prop) (T Rg : Nat → Prop) (wl : List Nat) (rc v : Nat) (x : Int32) (u : sS) : Prop :=
  Ho u h0 (mm + 1) (fun a b => E a b ∧ a ≠ v) (fun a => T a ∨ a = v) Rg wl rc ∧ ∃ n, n ≤ 1024 ∧ crd (fun b => E v b) n ∧ x = nI n
set_option maxHeartbeats 4000000 in
set_option maxRecDepth 100000 in
theorem m_H_clear (l : Launch) (D : va_G) (dA : Nat → ClassId) (S : sS) (sz : Nat) (h0 mm : Nat) (E : Nat → Nat → Prop) (T Rg : Nat → Prop) (wl : List Nat) (rc : Nat) (v : Nat) (hH : Ho S h0 mm E T Rg wl rc) (hm : mm ≤ 511) (hv9 : v < 16384) :
    cI l y_H_clear c_H_clear 6 (some .int) (rmk 4 8 2048) D dA S sz [.ref h0, .int (nI v)] (ClearP h0 mm E T Rg wl rc v) (8) (2048) := by
  obtain ⟨tb, pa, q, na, nd, rd, sr, nr, nc, nn, nf, hZ, hX0⟩ := hH
  have hin9 : vp_in (nI v) 16384 := vp_in_nI hv9 (by omega)
  obtain ⟨z5, hz1, hz2, hz3⟩ := hX0.c5
  obtain ⟨kd, rf, it, lg⟩ := S
  obtain ⟨⟨kh, e0, e1, e2, e3, e4⟩, ⟨kq, eq⟩, hG, hN, hna, hnr⟩ := id hZ
  dsimp only at kh e0 e1 e2 e3 e4 kq eq
  dsimp only at hz1
  refine s_met (cc := c_H_clear) (maxL := 6) (by decide) rfl (by simp [Value.category]) (by simp [lg_sl, Value.category]) ?_
  intro p e s m args below meth c ls hx hb hr hts hown hlocks hin hml hK hX hsz hM hl
  have hg := gd_hts hts
  have hl : lc ls 6 [some (va_rf (some h0)), some (.int (nI v)), none, none, none, none] := hl
  refine q_iload_n (i := 1) hx hb d_H_clear_0 rfl hl rfl ?_
  refine s_callv (r_S 1 [.int (nI v)] rfl hx hb hml hown hg (m_H_requireNode l D dA _ _ (nI v) hin9) (hM.pre hK hX) kw_280 kw_281 kw_1 kw_282 (by decide +kernel) ⟨Nat.le_of_ble_eq_true rfl, Nat.le_of_ble_eq_true rfl⟩ rfl rfl hl.sz (by first | exact Nat.le_of_ble_eq_true rfl | simp [rf_cat] | simp [rf_cat, Value.category]) d_H_clear_1 ⟨by show _ ≤ 8; omega, by show _ ≤ 2048; omega⟩ rfl) hM (fun u H locs hp hM => ?_)
  subst hp
  refine q_al_n (i := 0) hx hb d_H_clear_4 rfl hl rfl ?_
  refine s_getr (C := R_H) (T := F_H) (N := 7) (ci := 0) hx hb hg in_H hown hK hM kh rfl 0 (by decide) rfl (hg _ kw_65) (fun _ h9 => h9) d_H_clear_5 ?_
  rw [e0]
  refine q_iload_n (i := 1) hx hb d_H_clear_8 rfl hl rfl ?_
  refine s_callq (r_V 1 [.int (nI v)] rfl hx hb hml hown hg (m_T_ofN l D dA _ _ tb pa nd v hG.1 hv9) (hM.pre hK hX) (hM.recv hK hG.1.1 (q := cls.getD 1 (R_H, F_H, 7)) rfl) kw_107 kw_108 kw_109 kw_2 kw_110 (by decide +kernel) ⟨Nat.le_of_ble_eq_true rfl, Nat.le_of_ble_eq_true rfl⟩ rfl rfl hl.sz (by first | exact Nat.le_of_ble_eq_true rfl | simp [rf_cat] | simp [rf_cat, Value.category]) d_H_clear_9 ⟨by show _ ≤ 8; omega, by show _ ≤ 2048; omega⟩ rfl) hM (fun r2 u1 H locs hp hM => ?_)
  obtain ⟨a, rfl, hO⟩ := hp
  obtain ⟨hZ1, f1, mono1, g1⟩ := Mz_of hZ hO
  have hna : va_up nd v (some a) v = some a := va_up_self _ _ _
  have hL1 : fewN (va_up nd v (some a)) (2 * (mm + 1)) := fewN_le (fewN_up hX0.hL) (by omega)
  clear hO
  generalize va_up nd v (some a) = nd1 at hZ1 f1 mono1 hna hL1
  have ka1 := (hZ1.2.2.1.nk hna).2.1
  obtain ⟨hch, hct, -, -⟩ := hZ1.2.2.1.2.1 v a hna
  have hch0 := hch.1
  obtain ⟨kd1, rf1, it1, lg1⟩ := u1
  dsimp only at ka1 hct hch0
  refine q_astore_n (i := 2) hx hb (_) d_H_clear_12 rfl hl (by decide) (fun ls hl => ?_)
  simp only [List.set_cons_succ, List.set_cons_zero] at hl
  refine q_al_n (i := 2) hx hb d_H_clear_13 rfl hl rfl ?_
  refine s_geti (C := R_N) (T := F_N) (N := 9) (ci := 3) hx hb hg in_N hown hK hM ka1 rfl 3 (by decide) rfl (hg _ kw_138) (fun _ h9 => h9) d_H_clear_14 ?_
  rw [hct]
  refine q_istore_n (i := 3) hx hb d_H_clear_17 rfl hl (by decide) (fun ls hl => ?_)
  simp only [List.set_cons_succ, List.set_cons_zero] at hl
  refine q_al_n (i := 2) hx hb d_H_clear_18 rfl hl rfl ?_
  refine s_getr (C := R_N) (T := F_N) (N := 9) (ci := 3) hx hb hg in_N hown hK hM ka1 rfl 1 (by decide) rfl (hg _ kw_135) (fun _ h9 => h9) d_H_clear_19 ?_
  rw [hch0]
  refine q_astore hx hb (_) d_H_clear_22 hl (by decide) (fun ls hl => ?_)
  simp only [List.set_cons_succ, List.set_cons_zero] at hl
  refine cl_loop hx hb hml hown hg hK hX (by decide) (S1 := (kd1, rf1, it1, lg1)) (nr := nr) (nc := nc) (nn := nn) (nf := nf) (mm := mm) hm (fun x => (hX0.hlen x).1) hna ?_ (rd v).length 0 _ rd sr H locs ls _ (by omega) hM hl ⟨hZ1, by rw [List.drop_zero], fun _ _ => rfl, fun x => (hX0.hlen x).2, fun _ _ _ => rfl, fun _ => rfl⟩
  intro S6 rdi sri H locs ls o hM hl hI
  obtain ⟨hZ6, i1, i2, i3, i4, i5⟩ := hI
  rw [List.drop_length] at i1
  have hflA : ∀ i x, 5 ≤ i → fl S6 nd1 i x = fl (kd, rf, it, lg) nd i x := fun i x hi => by rw [i4 i x hi, f1 i x (by omega)]
  have hgA : ∀ i, S6.2.2.1 h0 i = it h0 i := fun i => (i5 i).trans (g1 i)
  obtain ⟨kd6, rf6, it6, lg6⟩ := S6
  have kh6 := hZ6.1.1
  have e56 : it6 h0 5 = Int32.ofInt z5 := (hgA 5).trans hz1
  dsimp only at kh6
  refine q_al_n (i := 0) hx hb d_H_clear_48 rfl hl rfl ?_
  refine lv_dup hx hb d_H_clear_49 rfl ?_
  refine s_geti (C := R_H) (T := F_H) (N := 7) (ci := 0) hx hb hg in_H hown hK hM kh6 rfl 5 (by decide) rfl (hg _ kw_70) (fun _ h9 => h9) d_H_clear_50 ?_
  rw [e56]
  refine q_iload_n (i := 3) hx hb d_H_clear_53 rfl hl rfl ?_
  refine lv_isub hx hb d_H_clear_54 ?_
  rw [oI_sub]
  refine s_puti (C := R_H) (T := F_H) (N := 7) (ci := 0) hx hb hg in_H ft_H ft_H_ok fn_H hown hK hM kh6 rfl 5 (by decide) rfl (hg _ kw_70) (fun _ h9 => h9) rfl rfl rfl d_H_clear_55 (fun H locs hM => ?_)
  have hlv := (hX0.hlen v).1
  obtain ⟨hZ7, f7⟩ := Mz_own hZ6 5 (Int32.ofInt (z5 - (rd v).length))
  dsimp only at hZ7 f7
  have hflB : ∀ i x, 5 ≤ i → fl (kd6, rf6, up2 it6 h0 5 (Int32.ofInt (z5 - (rd v).length)), lg6) nd1 i x = fl (kd, rf, it, lg) nd i x := fun i x hi => by rw [f7, hflA i x hi]
  obtain ⟨hq1, hq2, hq3⟩ := Ho_cost hX0 hZ7 hL1 mono1 hflB hm hna
  refine q_al_n (i := 0) hx hb d_H_clear_58 rfl hl rfl ?_
  refine q_al_n (i := 2) hx hb d_H_clear_59 rfl hl rfl ?_
  refine s_callv (r_V 1 [.ref a] rfl hx hb hml hown hg (m_H_markTouched l D dA _ _ h0 tb (na 0) (na 1) (na 2) q a (nr 0) (nc 0) (nn 0) v (nf 0) hZ7.1 (hZ7.2.2.1.nk hna).2.1 (hZ7.2.2.1.nk hna).2.2 (hZ7.2.2.2.1 0 (by decide)) hq3) (hM.pre hK hX) (hM.recv hK hZ7.1.1 (q := cls.getD 0 (R_H, F_H, 7)) rfl) kw_412 kw_414 ks_14 kw_1 kw_415 (by decide +kernel) ⟨Nat.le_of_ble_eq_true rfl, Nat.le_of_ble_eq_true rfl⟩ rfl rfl hl.sz (by first | exact Nat.le_of_ble_eq_true rfl | simp [rf_cat] | simp [rf_cat, Value.category]) d_H_clear_60 ⟨by show _ ≤ 8; omega, by show _ ≤ 2048; omega⟩ rfl) hM (fun u9 H locs hpm hM => ?_)
  refine q_iload_n (i := 3) hx hb d_H_clear_63 rfl hl rfl ?_
  refine W.widen (k := 8) (n := 2048) (by omega) (by omega) ?_
  refine s_iret hx hb hr hM ⟨?_, (rd v).length, by omega, ⟨(rd v).map Prod.snd, (hG.2.2.1 v).2.2.1, fun x => ?_, List.length_map _⟩, rfl⟩ d_H_clear_64 hlocks
  · refine Ho_fin hX0 hZ7 hL1 mono1 hflB hm hna (fun x y => ?_) (fun x => ?_) ?_ ⟨z5 - (rd v).length, ?_, by omega, by omega⟩ (fun x hx9 y => ?_) hpm
    · rw [hX0.hE]
      unfold rE
      by_cases e : x = v
      · rw [e, i1]
        exact ⟨fun z => absurd rfl z.2, fun ⟨c9, h9⟩ => absurd h9 (List.not_mem_nil)⟩
      · rw [i2 x e]
        exact ⟨fun z => z.1, fun z => ⟨z, e⟩⟩
    · refine ⟨?_, Nat.le_succ_of_le (i3 x)⟩
      by_cases e : x = v
      · rw [e, i1]; exact Nat.zero_le _
      · rw [i2 x e]; exact Nat.le_succ_of_le (hX0.hlen x).1
    · show up2 it6 h0 5 _ h0 6 = _
      rw [up2_ne _ _ (by decide)]; exact hgA 6
    · show up2 it6 h0 5 _ h0 5 = _
      rw [up2_self]
    · exact ⟨fun z => z.1, fun z => ⟨z, hx9⟩⟩
  · dsimp only; rw [hX0.hE]; exact mem_sn
end
section
theorem num_step {S S2 u : sS} {h0 a r i : Nat} (hh : S.1 h0 = some (.inl 0)) (ha : S.1 a = none) (hr : (sNew S a (.inl 5)).1 r = none) (hu : u = (va_up (sNew S a (.inl 5)).1 r (some (.inr (0, 16))), up2 (upr (sNew S a (.inl 5)).2.1 r (fun _ => none)) a 0 (some r), upr (sNew S a (.inl 5)).2.2.1 r (fun _ => 0), upr (sNew S a (.inl 5)).2.2.2 r (fun _ => 0))) (h2 : S2 = (u.1, up2 u.2.1 h0 i (some a), u.2.2.1, u.2.2.2)) :
    sFr S S2 (fun b => b = h0) ∧ S2.1 h0 = some (.inl 0) ∧ (∀ j, S2.2.1 h0 j = if j = i then some a else S.2.1 h0 j) ∧ S2.2.2.1 h0 = S.2.2.1 h0 ∧ Nm S2 a r 16 0 (fun _ => 0) ∧ S.1 r = none := by
  have hha : h0 ≠ a := sk_ne hh ha
  have har : a ≠ r := by
    intro z
    rw [← z] at hr
    have : va_up S.1 a (some (.inl 5)) a = none := hr
    rw [va_up_self] at this; cases this
  have hrn : S.1 r = none := by
    have : va_up S.1 a (some (.inl 5)) r = none := hr
    rw [va_up_ne _ _ (fun z => har z.symm)] at this; exact this
  have hhr : h0 ≠ r := sk_ne hh hrn
  have k1 : ∀ b, b ≠ a → b ≠ r → S2.1 b = S.1 b := by
    intro b b1 b2
    rw [h2, hu]
    show va_up (va_up S.1 a (some (.inl 5))) r _ b = _
    rw [va_up_ne _ _ b2, va_up_ne _ _ b1]
  have k2 : ∀ b, b ≠ a → b ≠ r → S2.2.1 b = (fun j => if b = h0 ∧ j = i then some a else S.2.1 b j) := by
    intro b b1 b2
    funext j
    rw [h2, hu]
    show up2 (up2 (upr (upr S.2.1 a _) r _) a 0 (some r)) h0 i (some a) b j = _
    by_cases e : b = h0
    · rw [e]
      by_cases e2 : j = i
      · rw [e2, up2_self, if_pos ⟨rfl, rfl⟩]
      · rw [up2_ne _ _ e2, if_neg (fun z => e2 z.2), up2_off _ _ hha, upr_off _ _ hhr, upr_off _ _ hha]
    · rw [up2_off _ _ e, if_neg (fun z => e z.1), up2_off _ _ b1, upr_off _ _ b2, upr_off _ _ b1]
  have k3 : ∀ b, b ≠ a → b ≠ r → S2.2.2.1 b = S.2.2.1 b ∧ S2.2.2.2 b = S.2.2.2 b := by
    intro b b1 b2
    rw [h2, hu]
    refine ⟨?_, ?_⟩
    · show upr (upr S.2.2.1 a _) r _ b = _
      rw [upr_off _ _ b2, upr_off _ _ b1]
    · show upr (upr S.2.2.2 a _) r _ b = _
      rw [upr_off _ _ b2, upr_off _ _ b1]
  refine ⟨fun b hb => ?_, by rw [k1 h0 hha hhr]; exact hh, fun j => ?_, (k3 h0 hha hhr).1, ⟨?_, ?_, ?_, ?_, Nat.zero_le _, by decide, by decide, fun i hi => absurd hi (Nat.not_lt_zero i)⟩, hrn⟩
  · have b1 : b ≠ a := fun z => hb (by rw [z]; exact ha)
    have b2 : b ≠ r := fun z => hb (by rw [z]; exact hrn)
    refine ⟨k1 b b1 b2, fun hn => ⟨?_, (k3 b b1 b2).1, (k3 b b1 b2).2⟩⟩
    rw [k2 b b1 b2]
    funext j
    rw [if_neg (fun z => hn z.1)]
  · rw [k2 h0 hha hhr]
    dsimp only
    by_cases e : j = i
    · rw [if_pos ⟨rfl, e⟩, if_pos e]
    · rw [if_neg (fun z => e z.2), if_neg e]
  · rw [h2, hu]
    show va_up (va_up S.1 a (some (.inl 5))) r _ a = _
    rw [va_up_ne _ _ har, va_up_self]
  · rw [h2, hu]
    show up2 (up2 (upr (upr S.2.1 a _) r _) a 0 (some r)) h0 i (some a) a 0 = _
    rw [up2_off _ _ (fun z => hha z.symm), up2_self]
  · rw [h2, hu]
    show va_up (va_up S.1 a (some (.inl 5))) r _ r = _
    rw [va_up_self]
  · rw [h2, hu]
    show upr (upr S.2.2.1 a _) r _ a 1 = _
    rw [upr_off _ _ har, upr_self]; rfl
theorem tab_step {S S2 u : sS} {h0 a r i : Nat} (hh : S.1 h0 = some (.inl 0)) (ha : S.1 a = none) (hr : (sNew S a (.inl 1)).1 r = none) (hu : u = (va_up (sNew S a (.inl 1)).1 r (some (.inr (1, 128))), up2 (upr (sNew S a (.inl 1)).2.1 r (fun _ => none)) a 0 (some r), upr (sNew S a (.inl 1)).2.2.1 r (fun _ => 0), upr (sNew S a (.inl 1)).2.2.2 r (fun _ => 0))) (h2 : S2 = (u.1, up2 u.2.1 h0 i (some a), u.2.2.1, u.2.2.2)) :
    S2.1 h0 = some (.inl 0) ∧ S2.2.1 h0 i = some a ∧ S2.2.2.1 h0 = S.2.2.1 h0 ∧ S2.1 a = some (.inl 1) ∧ S2.2.1 a 0 = some r ∧ S2.1 r = some (.inr (1, 128)) ∧ ∀ j, S2.2.1 r j = none := by
  have hha : h0 ≠ a := sk_ne hh ha
  have har : a ≠ r := by
    intro z
    rw [← z] at hr
    have : va_up S.1 a (some (.inl 1)) a = none := hr
    rw [va_up_self] at this; cases this
  have hrn : S.1 r = none := by
    have : va_up S.1 a (some (.inl 1)) r = none := hr
    rw [va_up_ne _ _ (fun z => har z.symm)] at this; exact this
  have hhr : h0 ≠ r := sk_ne hh hrn
  rw [h2, hu]
  refine ⟨?_, ?_, ?_, ?_, ?_, ?_, fun j => ?_⟩
  · show va_up (va_up S.1 a _) r _ h0 = _
    rw [va_up_ne _ _ hhr, va_up_ne _ _ hha]; exact hh
  · show up2 _ h0 i (some a) h0 i = _
    rw [up2_self]
  · show upr (upr S.2.2.1 a _) r _ h0 = _
    rw [upr_off _ _ hhr, upr_off _ _ hha]
  · show va_up (va_up S.1 a _) r _ a = _
    rw [va_up_ne _ _ har, va_up_self]
  · show up2 (up2 (upr (upr S.2.1 a _) r _) a 0 (some r)) h0 i (some a) a 0 = _
    rw [up2_off _ _ (fun z => hha z.symm), up2_self]
  · show va_up (va_up S.1 a _) r _ r = _
    rw [va_up_self]
  · show up2 (up2 (upr (upr S.2.1 a _) r _) a 0 (some r)) h0 i (some a) r j = _
    rw [up2_off _ _ (fun z => hhr z.symm), up2_off _ _ (fun z => har z.symm), upr_self]
set_option maxHeartbeats 4000000 in
set_option maxRecDepth 100000 in
theorem m_H_init (l : Launch) (D : va_G) (dA : Nat → ClassId) (S : sS) (sz : Nat) (h0 : Nat) (hh : S.1 h0 = some (.inl 0)) (h5 : S.2.2.1 h0 5 = 0) (h6 : S.2.2.1 h0 6 = 0) :
    cV l y_H_init c_H_init 1 (rmk 3 11 202) D dA S sz [.ref h0] (fun u => Ho u h0 0 (fun _ _ => False) (fun _ => False) (fun _ => False) [] 0) (11) (202) := by
  refine s_met (cc := c_H_init) (maxL := 1) (by decide) rfl (by simp [Value.category]) (by simp [lg_sl, Value.category]) ?_
  intro p e s m args below meth c ls hx hb hr hts hown hlocks hin hml hK hX hsz hM hl
  have hg := gd_hts hts
  have hl : lc ls 1 [some (va_rf (some h0))] := hl
  refine q_al_n (i := 0) hx hb d_H_init_0 rfl hl rfl ?_
  refine W.objInit hx hb hown (hg _ kw_22) (hg _ kw_23) (hg _ kw_24) rfl (by rw [hml]; exact hl.sz) rfl d_H_init_1 (Nat.le_of_ble_eq_true rfl) (Nat.le_of_ble_eq_true rfl) ?_
  refine q_al_n (i := 0) hx hb d_H_init_4 rfl hl rfl ?_
  refine s_new (C := R_T) (T := F_T) (N := 1) (ci := 1) hx hb hg in_T ft_T ft_T_ok hown (hg _ kw_25) (hg _ kw_26) (hg _ kw_2) hK hM rfl df_T (by show _ ≤ 11; omega) (by show _ ≤ 202; omega) d_H_init_5 (fun tb H htb hM => ?_)
  have kT : (sNew S tb (.inl 1)).1 tb = some (.inl 1) := va_up_self _ _ _
  refine lv_dup hx hb d_H_init_8 rfl ?_
  refine s_callv (r_IN (host := "HangOrder") 0 [] rfl hx hb hml hown hg (m_T_init l D dA _ _ tb kT) (hM.pre hK hX) rfl (hX.1 _ (List.mem_of_getElem? (i := 0) rfl)) kw_28 kw_2 kw_29 (by decide +kernel) ⟨Nat.le_of_ble_eq_true rfl, Nat.le_of_ble_eq_true rfl⟩ rfl rfl hl.sz (by first | exact Nat.le_of_ble_eq_true rfl | simp [rf_cat] | simp [rf_cat, Value.category]) d_H_init_9 ⟨by show _ ≤ 11; omega, by show _ ≤ 202; omega⟩ rfl) hM (fun ut H locs hpt hM => ?_)
  obtain ⟨pa, hpa, eut⟩ := hpt
  have khut : ut.1 h0 = some (.inl 0) := (tab_step (i := 0) hh htb hpa eut rfl).1
  obtain ⟨kdt, rft, itt, lgt⟩ := ut
  dsimp only at khut
  refine s_putFr (C := R_H) (T := F_H) (N := 7) (ci := 0) hx hb hg in_H ft_H ft_H_ok fn_H hown hK hM khut rfl 0 (by decide) rfl (hg _ kw_65) (fun _ h9 => h9) rfl hin rfl (some tb) (rf_narrow _ _) (rf_fits _ _) d_H_init_12 (fun H locs hM => ?_)
  obtain ⟨S0, eS0⟩ : ∃ S9 : sS, S9 = (kdt, up2 rft h0 0 (some tb), itt, lgt) := ⟨_, rfl⟩
  rw [← eS0] at hM
  obtain ⟨kh0, tf0, it0, tk0, tr0, pk0, pr0⟩ := tab_step (S2 := S0) (i := 0) hh htb hpa eut eS0
  refine q_al_n (i := 0) hx hb d_H_init_15 rfl hl rfl ?_
  refine s_new (C := R_U) (T := F_U) (N := 2) (ci := 5) hx hb hg in_U ft_U ft_U_ok hown (hg _ kw_37) (hg _ kw_38) (hg _ kw_3) hK hM rfl df_U (by show _ ≤ 11; omega) (by show _ ≤ 202; omega) d_H_init_16 (fun a1 H ha1 hM => ?_)
  have kN1 : (sNew S0 a1 (.inl 5)).1 a1 = some (.inl 5) := va_up_self _ _ _
  refine lv_dup hx hb d_H_init_19 rfl ?_
  refine s_callv (r_IN (host := "HangOrder") 0 [] rfl hx hb hml hown hg (m_U_init l D dA _ _ a1 kN1) (hM.pre hK hX) rfl (hX.1 _ (List.mem_of_getElem? (i := 1) rfl)) kw_40 kw_3 kw_41 (by decide +kernel) ⟨Nat.le_of_ble_eq_true rfl, Nat.le_of_ble_eq_true rfl⟩ rfl rfl hl.sz (by first | exact Nat.le_of_ble_eq_true rfl | simp [rf_cat] | simp [rf_cat, Value.category]) d_H_init_20 ⟨by show _ ≤ 11; omega, by show _ ≤ 202; omega⟩ rfl) hM (fun u1 H locs hp1 hM => ?_)
  obtain ⟨r1, hr1, eu1⟩ := hp1
  have khu1 : u1.1 h0 = some (.inl 0) := (num_step (i := 1) kh0 ha1 hr1 eu1 rfl).2.1
  obtain ⟨kdu1, rfu1, itu1, lgu1⟩ := u1
  dsimp only at khu1
  refine s_putFr (C := R_H) (T := F_H) (N := 7) (ci := 0) hx hb hg in_H ft_H ft_H_ok fn_H hown hK hM khu1 rfl 1 (by decide) rfl (hg _ kw_66) (fun _ h9 => h9) rfl hin rfl (some a1) (rf_narrow _ _) (rf_fits _ _) d_H_init_23 (fun H locs hM => ?_)
  obtain ⟨S1, eS1⟩ : ∃ S9 : sS, S9 = (kdu1, up2 rfu1 h0 1 (some a1), itu1, lgu1) := ⟨_, rfl⟩
  rw [← eS1] at hM
  obtain ⟨F1, kh1, hf1, it1, N1, rn1⟩ := num_step (S2 := S1) (i := 1) kh0 ha1 hr1 eu1 eS1
  refine q_al_n (i := 0) hx hb d_H_init_26 rfl hl rfl ?_
  refine s_new (C := R_U) (T := F_U) (N := 2) (ci := 5) hx hb hg in_U ft_U ft_U_ok hown (hg _ kw_37) (hg _ kw_38) (hg _ kw_3) hK hM rfl df_U (by show _ ≤ 11; omega) (by show _ ≤ 202; omega) d_H_init_27 (fun a2 H ha2 hM => ?_)
  have kN2 : (sNew S1 a2 (.inl 5)).1 a2 = some (.inl 5) := va_up_self _ _ _
  refine lv_dup hx hb d_H_init_30 rfl ?_
  refine s_callv (r_IN (host := "HangOrder") 0 [] rfl hx hb hml hown hg (m_U_init l D dA _ _ a2 kN2) (hM.pre hK hX) rfl (hX.1 _ (List.mem_of_getElem? (i := 1) rfl)) kw_40 kw_3 kw_41 (by decide +kernel) ⟨Nat.le_of_ble_eq_true rfl, Nat.le_of_ble_eq_true rfl⟩ rfl rfl hl.sz (by first | exact Nat.le_of_ble_eq_true rfl | simp [rf_cat] | simp [rf_cat, Value.category]) d_H_init_31 ⟨by show _ ≤ 11; omega, by show _ ≤ 202; omega⟩ rfl) hM (fun u2 H locs hp2 hM => ?_)
  obtain ⟨r2, hr2, eu2⟩ := hp2
  have khu2 : u2.1 h0 = some (.inl 0) := (num_step (i := 2) kh1 ha2 hr2 eu2 rfl).2.1
  obtain ⟨kdu2, rfu2, itu2, lgu2⟩ := u2
  dsimp only at khu2
  refine s_putFr (C := R_H) (T := F_H) (N := 7) (ci := 0) hx hb hg in_H ft_H ft_H_ok fn_H hown hK hM khu2 rfl 2 (by decide) rfl (hg _ kw_67) (fun _ h9 => h9) rfl hin rfl (some a2) (rf_narrow _ _) (rf_fits _ _) d_H_init_34 (fun H locs hM => ?_)
  obtain ⟨S2, eS2⟩ : ∃ S9 : sS, S9 = (kdu2, up2 rfu2 h0 2 (some a2), itu2, lgu2) := ⟨_, rfl⟩
  rw [← eS2] at hM
  obtain ⟨F2, kh2, hf2, it2, N2, rn2⟩ := num_step (S2 := S2) (i := 2) kh1 ha2 hr2 eu2 eS2
  refine q_al_n (i := 0) hx hb d_H_init_37 rfl hl rfl ?_
  refine s_new (C := R_U) (T := F_U) (N := 2) (ci := 5) hx hb hg in_U ft_U ft_U_ok hown (hg _ kw_37) (hg _ kw_38) (hg _ kw_3) hK hM rfl df_U (by show _ ≤ 11; omega) (by show _ ≤ 202; omega) d_H_init_38 (fun a3 H ha3 hM => ?_)
  have kN3 : (sNew S2 a3 (.inl 5)).1 a3 = some (.inl 5) := va_up_self _ _ _
  refine lv_dup hx hb d_H_init_41 rfl ?_
  refine s_callv (r_IN (host := "HangOrder") 0 [] rfl hx hb hml hown hg (m_U_init l D dA _ _ a3 kN3) (hM.pre hK hX) rfl (hX.1 _ (List.mem_of_getElem? (i := 1) rfl)) kw_40 kw_3 kw_41 (by decide +kernel) ⟨Nat.le_of_ble_eq_true rfl, Nat.le_of_ble_eq_true rfl⟩ rfl rfl hl.sz (by first | exact Nat.le_of_ble_eq_true rfl | simp [rf_cat] | simp [rf_cat, Value.category]) d_H_init_42 ⟨by show _ ≤ 11; omega, by show _ ≤ 202; omega⟩ rfl) hM (fun u3 H locs hp3 hM => ?_)
  obtain ⟨r3, hr3, eu3⟩ := hp3
  have khu3 : u3.1 h0 = some (.inl 0) := (num_step (i := 3) kh2 ha3 hr3 eu3 rfl).2.1
  obtain ⟨kdu3, rfu3, itu3, lgu3⟩ := u3
  dsimp only at khu3
  refine s_putFr (C := R_H) (T := F_H) (N := 7) (ci := 0) hx hb hg in_H ft_H ft_H_ok fn_H hown hK hM khu3 rfl 3 (by decide) rfl (hg _ kw_68) (fun _ h9 => h9) rfl hin rfl (some a3) (rf_narrow _ _) (rf_fits _ _) d_H_init_45 (fun H locs hM => ?_)
  obtain ⟨S3, eS3⟩ : ∃ S9 : sS, S9 = (kdu3, up2 rfu3 h0 3 (some a3), itu3, lgu3) := ⟨_, rfl⟩
  rw [← eS3] at hM
  obtain ⟨F3, kh3, hf3, it3, N3, rn3⟩ := num_step (S2 := S3) (i := 3) kh2 ha3 hr3 eu3 eS3
  refine q_al_n (i := 0) hx hb d_H_init_48 rfl hl rfl ?_
  refine s_new (C := R_F) (T := F_F) (N := 1) (ci := 6) hx hb hg in_F ft_F ft_F_ok hown (hg _ kw_53) (hg _ kw_54) (hg _ kw_4) hK hM rfl df_F (by show _ ≤ 11; omega) (by show _ ≤ 202; omega) d_H_init_49 (fun q H hq hM => ?_)
  have kF : (sNew S3 q (.inl 6)).1 q = some (.inl 6) := va_up_self _ _ _
  refine lv_dup hx hb d_H_init_52 rfl ?_
  refine s_callv (r_IN (host := "HangOrder") 0 [] rfl hx hb hml hown hg (m_F_init l D dA _ _ q kF) (hM.pre hK hX) rfl (hX.1 _ (List.mem_of_getElem? (i := 2) rfl)) kw_56 kw_4 kw_57 (by decide +kernel) ⟨Nat.le_of_ble_eq_true rfl, Nat.le_of_ble_eq_true rfl⟩ rfl rfl hl.sz (by first | exact Nat.le_of_ble_eq_true rfl | simp [rf_cat] | simp [rf_cat, Value.category]) d_H_init_53 ⟨by show _ ≤ 11; omega, by show _ ≤ 202; omega⟩ rfl) hM (fun u4 H locs hp4 hM => ?_)
  obtain ⟨a4, r4, hne4, ha4, hr4, hLf, hF4, -⟩ := hp4
  have hqh : h0 ≠ q := sk_ne kh3 hq
  have khn : (sNew S3 q (.inl 6)).1 h0 = some (.inl 0) := by show va_up S3.1 q _ h0 = _; rw [va_up_ne _ _ hqh]; exact kh3
  have khu4 : u4.1 h0 = some (.inl 0) := hF4.kd khn
  have keep4 : ∀ b, S3.1 b ≠ none → u4.1 b = S3.1 b ∧ u4.2.1 b = S3.2.1 b ∧ u4.2.2.1 b = S3.2.2.1 b ∧ u4.2.2.2 b = S3.2.2.2 b := by
    intro b hb9
    have hbq : b ≠ q := fun z => hb9 (by rw [z]; exact hq)
    have e1 : (sNew S3 q (.inl 6)).1 b = S3.1 b := va_up_ne _ _ hbq
    obtain ⟨x1, x2⟩ := hF4 b (by rw [e1]; exact hb9)
    obtain ⟨y1, y2, y3⟩ := x2 hbq
    exact ⟨x1.trans e1, y1.trans (upr_off _ _ hbq), y2.trans (upr_off _ _ hbq), y3.trans (upr_off _ _ hbq)⟩
  obtain ⟨kd4, rf4, it4, lg4⟩ := u4
  dsimp only at khu4 keep4
  refine s_putFr (C := R_H) (T := F_H) (N := 7) (ci := 0) hx hb hg in_H ft_H ft_H_ok fn_H hown hK hM khu4 rfl 4 (by decide) rfl (hg _ kw_69) (fun _ h9 => h9) rfl hin rfl (some q) (rf_narrow _ _) (rf_fits _ _) d_H_init_56 (fun H locs hM => ?_)
  have F5 : sFr S3 (kd4, up2 rf4 h0 4 (some q), it4, lg4) (fun b => b = h0) := by
    intro b hb9
    obtain ⟨x1, x2, x3, x4⟩ := keep4 b hb9
    exact ⟨x1, fun hn => ⟨by show up2 rf4 h0 4 (some q) b = _; rw [up2_off _ _ hn]; exact x2, x3, x4⟩⟩
  obtain ⟨y1, y2, y3, y4⟩ := keep4 h0 (sk_nn kh3)
  have rh : ∀ j, up2 rf4 h0 4 (some q) h0 j = if j = 4 then some q else S3.2.1 h0 j := by
    intro j
    by_cases e : j = 4
    · rw [e, up2_self, if_pos rfl]
    · rw [up2_ne _ _ e, if_neg e, y2]
  have ih : ∀ j, it4 h0 j = S.2.2.1 h0 j := fun j => by rw [y3, it3, it2, it1, it0]
  have nh : ∀ {T : sS} {b c : Nat}, T.1 h0 = some (.inl 0) → T.1 b = some (.inl c) → c ≠ 0 → b ≠ h0 := fun h1 h2 h3 z => by rw [z, h1] at h2; exact h3 (Sum.inl.inj (Option.some.inj h2)).symm
  have nr9 : ∀ {T : sS} {b t n : Nat}, T.1 h0 = some (.inl 0) → T.1 b = some (.inr (t, n)) → b ≠ h0 := fun h1 h2 z => by rw [z, h1] at h2; cases h2
  have N1' := Nm_keep (Nm_keep (Nm_keep N1 F2 (nh kh1 N1.1 (by decide)) (nr9 kh1 N1.2.2.1)) F3 (nh kh2 (F2.kd N1.1) (by decide)) (nr9 kh2 (F2.kd N1.2.2.1))) F5 (nh kh3 (F3.kd (F2.kd N1.1)) (by decide)) (nr9 kh3 (F3.kd (F2.kd N1.2.2.1)))
  have N2' := Nm_keep (Nm_keep N2 F3 (nh kh2 N2.1 (by decide)) (nr9 kh2 N2.2.2.1)) F5 (nh kh3 (F3.kd N2.1) (by decide)) (nr9 kh3 (F3.kd N2.2.2.1))
  have N3' := Nm_keep N3 F5 (nh kh3 N3.1 (by decide)) (nr9 kh3 N3.2.2.1)
  have hb4 : a4 ≠ h0 := fun z => by rw [z, khn] at ha4; cases ha4
  have hr4h : r4 ≠ h0 := fun z => by rw [z, khn] at hr4; cases hr4
  obtain ⟨l1, l2, n1, n2, n3, n4, n5, n6, n7, n8⟩ := hLf
  dsimp only at l1 l2 n1 n2 n3 n4
  have N4' : Nm (kd4, up2 rf4 h0 4 (some q), it4, lg4) a4 r4 16 0 (fun _ => 0) := ⟨n1, by show up2 rf4 h0 4 (some q) a4 0 = _; rw [up2_off _ _ hb4]; exact n2, n3, n4, n5, n6, n7, n8⟩
  have F05 : ∀ {b c : Nat}, S0.1 b = some (.inl c) → c ≠ 0 → kd4 b = some (.inl c) ∧ up2 rf4 h0 4 (some q) b = S0.2.1 b := by
    intro b c hb9 hc
    have m1 := F1.kd hb9
    have m2 := F2.kd m1
    have m3 := F3.kd m2
    have m4 := F5.kd m3
    refine ⟨m4, ?_⟩
    have e1 := ((F1 b (sk_nn hb9)).2 (nh kh0 hb9 hc)).1
    have e2 := ((F2 b (sk_nn m1)).2 (nh kh1 m1 hc)).1
    have e3 := ((F3 b (sk_nn m2)).2 (nh kh2 m2 hc)).1
    have e4 := ((F5 b (sk_nn m3)).2 (nh kh3 m3 hc)).1
    exact e4.trans (e3.trans (e2.trans e1))
  have F0r : ∀ {b t n : Nat}, S0.1 b = some (.inr (t, n)) → kd4 b = some (.inr (t, n)) ∧ up2 rf4 h0 4 (some q) b = S0.2.1 b := by
    intro b t n hb9
    have m1 := F1.kd hb9
    have m2 := F2.kd m1
    have m3 := F3.kd m2
    have m4 := F5.kd m3
    refine ⟨m4, ?_⟩
    have e1 := ((F1 b (sk_nn hb9)).2 (nr9 kh0 hb9)).1
    have e2 := ((F2 b (sk_nn m1)).2 (nr9 kh1 m1)).1
    have e3 := ((F3 b (sk_nn m2)).2 (nr9 kh2 m2)).1
    have e4 := ((F5 b (sk_nn m3)).2 (nr9 kh3 m3)).1
    exact e4.trans (e3.trans (e2.trans e1))
  have q4 : ∀ {b : Nat} {k : sK}, S3.1 b = some k → b ≠ a4 ∧ b ≠ r4 := by
    intro b k hb9
    have hbq : b ≠ q := fun z => by rw [z, hq] at hb9; cases hb9
    have e1 : (sNew S3 q (.inl 6)).1 b = some k := by show va_up S3.1 q _ b = _; rw [va_up_ne _ _ hbq]; exact hb9
    exact ⟨fun z => (by rw [← z, e1] at ha4; cases ha4), fun z => (by rw [← z, e1] at hr4; cases hr4)⟩
  have d12 : a1 ≠ a2 := sk_ne N1.1 ha2
  have d13 : a1 ≠ a3 := sk_ne (F2.kd N1.1) ha3
  have d23 : a2 ≠ a3 := sk_ne N2.1 ha3
  have d14 := (q4 (F3.kd (F2.kd N1.1))).1
  have d24 := (q4 (F3.kd N2.1)).1
  have d34 := (q4 N3.1).1
  have s12 : r1 ≠ r2 := sk_ne N1.2.2.1 rn2
  have s13 : r1 ≠ r3 := sk_ne (F2.kd N1.2.2.1) rn3
  have s23 : r2 ≠ r3 := sk_ne N2.2.2.1 rn3
  have s14 := (q4 (F3.kd (F2.kd N1.2.2.1))).2
  have s24 := (q4 (F3.kd N2.2.2.1)).2
  have s34 := (q4 N3.2.2.1).2
  refine W.widen (k := 11) (n := 202) (by omega) (by omega) ?_
  refine s_vret hx hb hr hM ?_ d_H_init_59 hlocks
  refine ⟨tb, pa, q, (fun i => match i with | 0 => a1 | 1 => a2 | 2 => a3 | _ => a4), (fun _ => none), (fun _ => []), (fun _ => []), (fun i => match i with | 0 => r1 | 1 => r2 | 2 => r3 | _ => r4), (fun _ => 16), (fun _ => 0), (fun _ _ => 0), ⟨⟨khu4, ?_, ?_, ?_, ?_, ?_⟩, ⟨l1, ?_⟩, ⟨⟨(F05 tk0 (by decide)).1, ?_, (F0r pk0).1, fun i hi => Or.inl ⟨?_, fun _ _ => rfl⟩, fun i i' pg pg' row h1 h2 h3 => ?_, fun n a hn => (by cases hn)⟩, fun v a hv => (by cases hv), fun v => ⟨List.nodup_nil, List.nodup_nil, List.nodup_nil, fun _ => ⟨rfl, rfl⟩⟩, fun v k u hk => absurd hk List.not_mem_nil, fun v k u hk => absurd hk List.not_mem_nil⟩, fun i hi => ?_, fun i j hi hj e => ?_, fun i j hi hj e => ?_⟩, fun v u => ⟨fun z => z.elim, fun ⟨k, hk⟩ => absurd hk List.not_mem_nil⟩, fun i _ => Or.inl rfl, ⟨[], Nat.zero_le _, fun v hv => absurd rfl hv⟩, fun v => ⟨Nat.zero_le _, Nat.zero_le _⟩, fun i j hi => absurd hi (Nat.not_lt_zero i), fun i hi => absurd hi (Nat.not_lt_zero i), fun v => ⟨fun z => z.elim, fun ⟨i, hi, _⟩ => absurd hi (Nat.not_lt_zero i)⟩, fun v => ⟨fun z => z.elim, fun _ => rfl⟩, fun v => rfl, rfl, rfl, fun i hi => absurd hi (Nat.not_lt_zero i), fun v => ⟨fun z => z.elim, fun _ => rfl⟩, ⟨fun _ _ => False, fun v => ⟨fun z => z.elim, fun z => z (gN_mk fun u hu => hu.elim)⟩, fun v _ u => Iff.rfl⟩, ?_, ⟨0, ?_, by decide, by decide⟩⟩
  · show up2 rf4 h0 4 (some q) h0 0 = _
    rw [rh, if_neg (by decide), hf3, if_neg (by decide), hf2, if_neg (by decide), hf1, if_neg (by decide)]; exact tf0
  · show up2 rf4 h0 4 (some q) h0 1 = some a1
    rw [rh, if_neg (by decide), hf3, if_neg (by decide), hf2, if_neg (by decide), hf1, if_pos rfl]
  · show up2 rf4 h0 4 (some q) h0 2 = some a2
    rw [rh, if_neg (by decide), hf3, if_neg (by decide), hf2, if_pos rfl]
  · show up2 rf4 h0 4 (some q) h0 3 = some a3
    rw [rh, if_neg (by decide), hf3, if_pos rfl]
  · show up2 rf4 h0 4 (some q) h0 4 = _
    rw [rh, if_pos rfl]
  · show up2 rf4 h0 4 (some q) q 0 = _
    rw [up2_off _ _ (fun z => hqh z.symm)]; exact l2
  · show up2 rf4 h0 4 (some q) tb 0 = _
    rw [(F05 tk0 (by decide)).2]; exact tr0
  · show up2 rf4 h0 4 (some q) pa i = _
    rw [(F0r pk0).2]; exact pr0 i
  · have z : up2 rf4 h0 4 (some q) pa i = some pg := h3
    rw [(F0r pk0).2, pr0] at z; cases z
  · match i, hi with
    | 0, _ => exact N1'
    | 1, _ => exact N2'
    | 2, _ => exact N3'
    | 3, _ => exact N4'
  · match i, j, hi, hj, e with
    | 0, 0, _, _, _ => rfl
    | 0, 1, _, _, e => exact absurd e d12
    | 0, 2, _, _, e => exact absurd e d13
    | 0, 3, _, _, e => exact absurd e d14
    | 1, 0, _, _, e => exact absurd e.symm d12
    | 1, 1, _, _, _ => rfl
    | 1, 2, _, _, e => exact absurd e d23
    | 1, 3, _, _, e => exact absurd e d24
    | 2, 0, _, _, e => exact absurd e.symm d13
    | 2, 1, _, _, e => exact absurd e.symm d23
    | 2, 2, _, _, _ => rfl
    | 2, 3, _, _, e => exact absurd e d34
    | 3, 0, _, _, e => exact absurd e.symm d14
    | 3, 1, _, _, e => exact absurd e.symm d24
    | 3, 2, _, _, e => exact absurd e.symm d34
    | 3, 3, _, _, _ => rfl
  · match i, j, hi, hj, e with
    | 0, 0, _, _, _ => rfl
    | 0, 1, _, _, e => exact absurd e s12
    | 0, 2, _, _, e => exact absurd e s13
    | 0, 3, _, _, e => exact absurd e s14
    | 1, 0, _, _, e => exact absurd e.symm s12
    | 1, 1, _, _, _ => rfl
    | 1, 2, _, _, e => exact absurd e s23
    | 1, 3, _, _, e => exact absurd e s24
    | 2, 0, _, _, e => exact absurd e.symm s13
    | 2, 1, _, _, e => exact absurd e.symm s23
    | 2, 2, _, _, _ => rfl
    | 2, 3, _, _, e => exact absurd e s34
    | 3, 0, _, _, e => exact absurd e.symm s14
    | 3, 1, _, _, e => exact absurd e.symm s24
    | 3, 2, _, _, e => exact absurd e.symm s34
    | 3, 3, _, _, _ => rfl
  · show it4 h0 6 = nI 0
    rw [ih, h6]; rfl
  · show it4 h0 5 = Int32.ofInt 0
    rw [ih, h5]; rfl
end
section
/-! THROWS: a method that always throws a new IllegalArgumentException and changes nothing that was there -/
abbrev nIA : String := "java/lang/IllegalArgumentException"
abbrev nTh : String := "java/lang/Throwable"
def thD : List MethodName := [⟨"java/lang/RuntimeException", "<init>", "(Ljava/lang/String;)V"⟩, ⟨"java/lang/Exception", "<init>", "(Ljava/lang/String;)V"⟩, ⟨"java/lang/Throwable", "<init>", "(Ljava/lang/String;)V"⟩]
def thS : List (String × String) := [("UNASSIGNED_STACK", "[Ljava/lang/StackTraceElement;"), ("SUPPRESSED_SENTINEL", "Ljava/util/List;")]
/-- what the tables and the statics say of exceptions, beyond the good words -/
def sTh (U : State) : Prop :=
  (∀ x ∈ thD, va_Nw (.declares x) U) ∧ va_Nw (.castable nIA nIA) U ∧ (∀ q ∈ thS, (Cond.laysStatic nTh q.1 q.2).before #[] U = true ∧ (Cond.isRef (.static nTh q.1 q.2)).before #[] U = true) ∧ (Cond.stringRef "HangOrder" 137 "there is no such node").before #[] U = true
theorem ls_move {s U : State} (hA : s.vm.Alike U.vm) (hH : ∀ (q : Nat) (cell : Cell), s.heap[q]? = some cell → cell.vm.isStatics = true → U.heap[q]? = some cell) {O f d : String} (h1 : (Cond.laysStatic O f d).before #[] s = true) (h2 : (Cond.isRef (.static O f d)).before #[] s = true) :
    (Cond.laysStatic O f d).before #[] U = true ∧ (Cond.isRef (.static O f d)).before #[] U = true := by
  obtain ⟨c, k, i, fd, a, cell, hc, hi, hst, ha, hcell, hs, hcls, hlt, hty⟩ := Cond.laysStatic_spec h1
  obtain ⟨k', hi', hek⟩ := State.fieldFound?_setVm hA hi
  have hi2 : U.fieldFound? O f d = some (c, k', i, fd) := hi'
  have hcell' := hH a cell hcell hs
  have ha' : k'.statics = some a := by rw [hek]; exact ha
  refine ⟨Cond.laysStatic_of (by rw [hA.findClass]; exact hc) hi2 hst ha' hcell' hs hcls hlt (by rw [hek]; exact hty), ?_⟩
  simp [Cond.before, Cond.holds, Cond.value, Term.eval, State.fieldNamed?, hi, hst, ha, hcell, hs] at h2
  simp [Cond.before, Cond.holds, Cond.value, Term.eval, State.fieldNamed?, hi2, hst, ha', hcell', hs]
  exact h2
theorem sTh_move {s U : State} (hW : s.WarmedH U.vm) (hH : ∀ (q : Nat) (cell : Cell), s.heap[q]? = some cell → cell.vm.isStatics = true → U.heap[q]? = some cell) (h : sTh s) : sTh U := by
  obtain ⟨h1, h2, h3, h4⟩ := h
  refine ⟨fun x hx => va_Nw.warmD hW (h1 x hx), va_Nw.warmC hW h2, fun q hq => ls_move hW.alike hH (h3 q hq).1 (h3 q hq).2, ?_⟩
  exact Cond.stringRef_warmed hW h4
theorem sTh_same {s U : State} (hv : U.vm = s.vm) (hh : U.heap = s.heap) (h : sTh s) : sTh U := by
  obtain ⟨h1, h2, h3, h4⟩ := h
  refine ⟨fun x hx => va_Nw.same rfl hv.symm (h1 x hx), va_Nw.same rfl hv.symm h2, fun q hq => ls_move (by rw [hv]; exact Vm.Alike.refl _) (fun q cell hq _ => by rw [hh]; exact hq) (h3 q hq).1 (h3 q hq).2, ?_⟩
  have h5 : (Cond.stringRef "HangOrder" 137 "there is no such node").before #[] (s.setVm U.vm) = true := by rw [hv]; exact h4
  exact h5
/-- how such a method ends -/
def xEnd (st : State) (x : Addr) (t : State) : Prop := st.heap.size ≤ x ∧ (∃ ce : Cell, t.heap[x]? = some ce ∧ ce.vm = .none ∧ st.vm.findClass nIA = some ce.cls) ∧ st.WarmedH t.vm ∧ st.sameButNew ({ t with vm := st.vm } : State) [] 1 6
def xQ (o : Outcome) (st t : State) : Prop := ∃ x, o = .threw x ∧ xEnd st x t
def MetX (l : Launch) (y : MethodName) (ws : List Cond) (rm : Room) (Pc : Array Value → State → Prop) : Prop := MetFree l y (headSpec ws rm) Pc (fun _ _ _ _ _ => True) (fun _ st o t => xQ o st t)
def XQ (below : List Frame) (s : State) : State → Prop := fun t => ∃ o, t.status = .running ∧ Ended t below o ∧ xQ o s t
abbrev xP (D : va_G) (dA : Nat → ClassId) (U : State) : Prop := va_K D cls (tys dA) U ∧ sKx U ∧ sTh U
theorem xP_blind {D : va_G} {dA : Nat → ClassId} {av : List Value} : FrameBlind (va_Pc av (xP D dA)) :=
  fun a U g mk q => by
    obtain ⟨q0, qK, qX, qT⟩ := q
    exact ⟨q0, va_K.moved (u := U) (U := U.calling g mk a) (Vm.Alike.refl U.vm) qK, sKx_same (s := U) (U := U.calling g mk a) rfl qX, sTh_same (s := U) (U := U.calling g mk a) rfl rfl qT⟩
/-- nothing at all in the store -/
def SE : sS := (fun _ => none, fun _ _ => none, fun _ _ => 0, fun _ _ => 0)
theorem SE_start {D : va_G} {dA : Nat → ClassId} {s : State} : SW D dA (sA SE s.heap.size) s.heap SE s.heap [] :=
  ⟨fun q hq => Or.inr hq, [], fun a x => ⟨fun h => (by cases h), fun ⟨k, hk⟩ => (by cases hk)⟩, fun k q hk => (by cases hk), ⟨fun i j p q hi => (by cases hi), fun k q hk => (by cases hk)⟩, va_S.rf⟩
theorem x_met {l : Launch} {D : va_G} {dA : Nat → ClassId} {y : MethodName} {ws ws' : List Cond} {rm : Room} {cc : ByteArray} {maxL : Nat} {ret : Option FieldType} {av : List Value}
    (hy : plainName y.cls = true) (hw : ws = Cond.code y cc maxL ret :: ws') (hav : ∀ v ∈ av, v.category = 1) (hlen : (lg_sl av).length ≤ maxL)
    (body : ∀ (p : Program) (e : Env) (s : State) (m : MethodId) (args : Array Value) (below : List Frame) (meth : Method) (c : Code) (ls : Array Slot), p.tables.exec = Jvm.exec → c.code = cc → (∀ w ∈ ws, w.before args s = true) → s.vm.findClass y.cls = some m.cls → meth.locks = false → c.maxLocals = maxL → c.exceptionTable.isEmpty = true → va_K D cls (tys dA) s → sKx s → sTh s → SW D dA (sA SE s.heap.size) s.heap SE s.heap [] → lc ls maxL (av.map some ++ List.replicate (maxL - av.length) none) →
      W p l e rm s m args below meth c s.heap [] 0 0 (XQ below s) (F0 m 0 ls [])) :
    MetX l y ws rm (va_Pc av (xP D dA)) := by
  refine MetFree.of_bodyS (code := cc) (maxLocals := maxL) (ret := ret) hy ?_ ?_
  · intro args s m h hn
    obtain ⟨meth, c, h1, h2, h3, h4, h5, h6, -, -⟩ := Cond.code_spec hn (atoms_spec (ws := ws) h _ (by rw [hw]; exact List.mem_cons_self))
    exact ⟨meth, c, h1, h2, h3, h4, h5, h6⟩
  · intro p e s m args below meth c s₁ B hml hP _
    have hh0 : s₁.heap = s.heap := by rw [B.state]; rfl
    obtain ⟨rfl, hK, hX, hT⟩ := hP
    have hts := atoms_spec (ws := ws) B.pre
    have hl := lv_entry av (n := maxL) hlen
    have hb := body p e s m _ below meth c (lg_sl av ++ List.replicate (maxL - (lg_sl av).length) Slot.unset).toArray B.exec B.bytes hts (findClass_of_methodNamed B.named) B.notSynchronized hml (BodyLoose.noHandlers B (hts _ (by rw [hw]; exact List.mem_cons_self))) hK hX hT SE_start (lc_entry hl hav _)
    rw [← lg_entry_eq] at hb
    obtain ⟨t, a1, o, b1, b2, b3⟩ := hb s₁ hh0 (Stand.of_body B)
    exact ⟨t, o, a1, b1, b2, b3⟩
/-- a call of a method that throws: the caller stands again, with the throw laid over it -/
theorem callX {l : Launch} {R : Room} {p : Program} {e : Env} {below : List Frame} {s : State} {args : Array Value} {m : MethodId} {meth : Method} {c : Code} {y : MethodName} {len Wt : Nat} {ws : List Cond} {rm : Room} {Pc : Array Value → State → Prop} {bytes : ByteArray} {maxL : Nat} {ret : Option FieldType}
    (hM : MetX l y ws rm Pc) (hblind : FrameBlind Pc) (hrc : rm.cells = 1) (hrs : rm.slots = 6) (hframes : rm.frames + 1 ≤ R.frames) (hlocals : Wt + (maxL + 11) + rm.locals ≤ R.locals)
    (hws : ∀ w ∈ ws, ∀ a' U, s.WarmedH U.vm → w.before a' U = true) (hcode : Cond.code y bytes maxL ret ∈ ws) (hinit : ∀ a' U, s.WarmedH U.vm → (Cond.initialized y.cls).before a' U = true)
    {U : State} {locs : List Loc} {cells slots : Nat} {g : JFrame} {ig : Instr} {mk : MethodId} {a : Array Value} (X : Stand p l e R s m args below meth c U locs cells slots) (hg : g.method = m) (hsize : g.locals.size = c.maxLocals) (hdg : decode c.code g.pc = .ok (ig, len))
    (hW : 2 * g.monitorRoom + (g.stack.map fun v => v.category).sum ≤ Wt) (hn : U.methodNamed? y = some mk) (hcs : cells + 1 ≤ R.cells ∧ slots + 6 ≤ R.slots) (hP : Pc a U) :
    ∃ (x : Addr) (T' : State), Stand p l e R s m args below meth c T' (locs ++ []) (cells + 1) (slots + 6) ∧ U.heap.size ≤ x ∧ (∃ ce : Cell, T'.heap[x]? = some ce ∧ ce.vm = .none ∧ U.vm.findClass nIA = some ce.cls) ∧ U.heap.size ≤ T'.heap.size ∧ (∀ (q : Nat) (cell : Cell), U.heap[q]? = some cell → T'.heap[q]? = some cell) ∧
      Steps p.tables e below (doInvoke e (U.setTop g) [] mk a).1 ((T'.setTop g).pushFrame (.throwing x)) := by
  have h2 := hws _ hcode a U X.warmed
  have h3 := hinit a U X.warmed
  obtain ⟨methY, cY, hmY, hcY, -, hlY, -⟩ := Cond.code_spec hn h2
  obtain ⟨kY, hkY, -⟩ := className_of_methodNamed hn
  have hinitY : kY.init = .initialized := Cond.initialized_spec (findClass_of_methodNamed hn) hkY h3
  have h : At U g.method c below := by rw [hg]; exact X.here
  have happ : (headSpec ws rm).appliesLoose y e.platform (U.calling g mk a) = true :=
    Spec.appliesLoose_calling (g := g) h hdg hn hkY hinitY
      (X.room_calling (g := g) (R' := (headSpec ws rm).room) hsize hmY hcY hframes (by rw [hlY]; show _ + rm.locals ≤ _; omega) (by show cells + rm.cells ≤ _; omega) (by show slots + rm.slots ≤ _; omega)) (atoms_intro fun w hw => hws w hw _ _ X.warmed)
  obtain ⟨mid, hmid⟩ := h.above
  have hfr : (U.setTop g).frames = (.java g :: mid) ++ below := by rw [State.frames_setTop' g h.top, hmid]; rfl
  obtain ⟨o, s₂, hsteps, -, hend, hq⟩ := Steps.callFree hM p X.admits X.cas X.clock (acts := []) hfr happ (hblind _ _ _ _ hP) trivial
  obtain ⟨x, rfl, hx1, ⟨ce, hx2, hx3, hx4⟩, hWx, hsame⟩ := hq
  rw [State.frames_setTop' g h.top, X.tail] at hend
  obtain ⟨T', X', hW', hsm, rfl⟩ := X.outOfThrown hg hend hWx hsame
  have eh : ((T'.setTop g).pushFrame (.throwing x)).heap = T'.heap := Stand.throwing_heap T' g x
  rw [eh] at hx2
  refine ⟨x, T', X', hx1, ⟨ce, hx2, hx3, hx4⟩, hsm.2.1, fun q cell hq => hsm.old_cell hq, hsteps⟩
end
section
/-- the first handler of the method's own table takes a new IllegalArgumentException -/
theorem x_catch {p : Program} {l : Launch} {e : Env} {R : Room} {s : State} {m : MethodId} {args : Array Value} {below : List Frame} {meth : Method} {c : Code} {T : State} {locs : List Loc} {cells slots : Nat} (X : Stand p l e R s m args below meth c T locs cells slots) {x : Addr} {g : JFrame} (hg : g.method = m) {own : String} (hown : s.vm.findClass own = some m.cls)
    {h1 : ExceptionTableEntry} {hr : List ExceptionTableEntry} (htab : c.exceptionTable.toList = h1 :: hr) (hcov : covers h1 g.pc = true) (hct : h1.catchType ≠ 0) (hlink : (Cond.classLink own h1.catchType nIA).before args s = true) (hca : va_Nw (.castable nIA nIA) s) {ce : Cell} (hcell : T.heap[x]? = some ce) (hvm : ce.vm = .none) (hcls : s.vm.findClass nIA = some ce.cls) :
    ∃ vm' : Vm, Stand p l e R s m args below meth c (T.setVm vm') locs cells slots ∧ ∀ target, Steps p.tables e below ((T.setVm vm').setTop { g with pc := h1.handlerPc, stack := [.ref x] }) target → Steps p.tables e below ((T.setTop g).pushFrame (.throwing x)) target := by
  have hpl : e.platform.magicAccessors = ({} : Platform).magicAccessors := by rw [X.admits.platform]
  obtain ⟨cT, hcT, hCL⟩ := Cond.classLink_spec hown hlink e.platform hpl
  cases hcls.symm.trans hcT
  obtain ⟨c3, c4, f3, f4, hfit⟩ := Cond.castable_spec (va_Nw.use (A := args) rfl hca)
  cases hcT.symm.trans f3
  cases hcT.symm.trans f4
  obtain ⟨dk, _, _, kt, hd, _, _, _, _, hkt, _, hopen⟩ := hCL.here
  have hWn : s.WarmedH (T.vm.noted m.cls h1.catchType (.cls ce.cls)) := X.warmed.noted hd hopen (State.rightAt_cls hCL)
  have hCLT := X.warmed.classLinks hCL
  subst hg
  have hAt := X.here
  have hvmS : ((T.setTop g).pushFrame (.throwing x)).vm = T.vm := Stand.throwing_vm T g x
  have hhpS : ((T.setTop g).pushFrame (.throwing x)).heap = T.heap := Stand.throwing_heap T g x
  generalize hS : (T.setTop g).pushFrame (.throwing x) = S0 at hvmS hhpS
  have hal : S0.vm.Alike (S0.vm.noted g.method.cls h1.catchType (.cls ce.cls)) := (Vm.Alike.refl S0.vm).noted _ _ _
  obtain ⟨k1, hk1, -⟩ := X.warmed.alike.2.2 _ _ hkt
  rw [← hvmS] at hk1 hCLT hWn
  obtain ⟨k2, hk2, -⟩ := hal.2.2 _ _ hk1
  have hfit2 : (S0.vm.noted g.method.cls h1.catchType (.cls ce.cls)).assignable ce.cls ce.cls = true := by
    rw [hal.assignable, hvmS, X.warmed.alike.assignable]; exact hfit
  obtain ⟨o1, o2⟩ := (resolveClass_links e.toSetting hCLT).op (op := VmOp.resolveClass g.method.cls h1.catchType) rfl
  have hcS : S0.heap[x]? = some ce := by rw [hhpS]; exact hcell
  have hns : ∀ k, ce.vm ≠ .statics k := fun k z => by rw [hvm] at z; cases z
  have hcov2 := hcov
  simp only [covers] at hcov2
  have hmS : S0.vm.method? g.method = some meth := by rw [hvmS]; exact X.method'
  have find : ∀ (Q : Handler → Pre) (E : CtlPost) (d : Bool) (acts : List Action), (findHandler g x).wp Q E e d acts S0 ↔ Q (.found h1.handlerPc) d acts (S0.setVm (S0.vm.noted g.method.cls h1.catchType (.cls ce.cls))) := by
    intro Q E d acts
    rw [W.findHandler_eq hmS X.code, htab]
    simp [findHandler.go, hcov2, hct, o1, o2, hcS, hns, hk2, hfit2, VmOp.dirties, VmOp.acts]
  refine ⟨T.vm.noted g.method.cls h1.catchType (.cls ce.cls), X.noted (by rw [hvmS] at hWn; exact hWn), fun target hrest => ?_⟩
  obtain ⟨hgo, hw⟩ := hAt.throwing x
  rw [hS] at hgo hw
  refine Steps.head hgo hw ?_
  have hfr : S0.frames = .throwing x :: .java g :: T.frames.tail := by rw [← hS]; exact frames_entered hAt.top _
  rw [stepThread_throwing hfr]
  have hstep : (stepThrowing e S0 x (.java g :: T.frames.tail)).1 = (S0.setVm (S0.vm.noted g.method.cls h1.catchType (.cls ce.cls))).setFrames (.java { g with pc := h1.handlerPc, stack := [.ref x] } :: T.frames.tail) := by
    simp only [stepThrowing, searchFrame, vmDo]
    generalize hres : Sem.go _ e false [] S0 = res
    obtain ⟨as, rfl, -⟩ := Sem.eq_ok_of hres (a := Handler.found h1.handlerPc) (s' := S0.setVm (S0.vm.noted g.method.cls h1.catchType (.cls ce.cls))) (acts' := []) (by simp [find _ _ _ _])
    rfl
  rw [hstep, hvmS]
  obtain ⟨g₀, hg0⟩ := Option.isSome_iff_exists.mp hAt.top
  obtain ⟨r, hr0⟩ := State.topJava?_eq_some.mp hg0
  have hr1 : (T.setVm (T.vm.noted g.method.cls h1.catchType (.cls ce.cls))).frames = .java g₀ :: r := hr0
  rw [State.setTop_of_frames _ hr1] at hrest
  have e1 : (S0.setVm (T.vm.noted g.method.cls h1.catchType (.cls ce.cls))).setFrames (.java { g with pc := h1.handlerPc, stack := [.ref x] } :: T.frames.tail) = (T.setVm (T.vm.noted g.method.cls h1.catchType (.cls ce.cls))).setFrames (.java { g with pc := h1.handlerPc, stack := [.ref x] } :: r) := by
    rw [← hS, State.pushFrame, State.setTop_of_frames _ hr0, State.setFrames_setFrames, hr0]
    show (((T.setFrames _).setVm _).setFrames _) = _
    have e2 : ∀ F : List Frame, (T.setFrames F).setVm (T.vm.noted g.method.cls h1.catchType (.cls ce.cls)) = (T.setVm (T.vm.noted g.method.cls h1.catchType (.cls ce.cls))).setFrames F := fun F => rfl
    rw [e2, State.setFrames_setFrames]
    rfl
  rw [e1]
  exact hrest
end
section
theorem ls_args {s : State} {A : Array Value} {O f d : String} (h1 : (Cond.laysStatic O f d).before #[] s = true) (h2 : (Cond.isRef (.static O f d)).before #[] s = true) : (Cond.laysStatic O f d).before A s = true ∧ (Cond.isRef (.static O f d)).before A s = true := by
  obtain ⟨c, k, i, fd, a, cell, hc, hi, hst, ha, hcell, hs, hcls, hlt, hty⟩ := Cond.laysStatic_spec h1
  refine ⟨Cond.laysStatic_of hc hi hst ha hcell hs hcls hlt hty, ?_⟩
  simp [Cond.before, Cond.holds, Cond.value, Term.eval, State.fieldNamed?, hi, hst, ha, hcell, hs] at h2
  simp [Cond.before, Cond.holds, Cond.value, Term.eval, State.fieldNamed?, hi, hst, ha, hcell, hs]
  exact h2
/-- what the making of the exception asks -/
def xAt : List Cond := Bundle.ownAtoms "HangOrder" 139 nIA ["java/lang/RuntimeException", "java/lang/Exception"]
def xSp : List Cond := thD.map (fun x => Cond.declares x) ++ [.castable nIA nIA] ++ thS.map (fun q => Cond.laysStatic nTh q.1 q.2) ++ thS.map (fun q => Cond.isRef (.static nTh q.1 q.2))
theorem xAt_ok : xAt.all (fun w => decide (w ∈ gd) || decide (w ∈ xSp)) = true := by decide +kernel
theorem xAt_all {s : State} {args : Array Value} (hg : ∀ w ∈ gd, w.before args s = true) (hT : sTh s) : ∀ w ∈ xAt, w.before args s = true := by
  intro w hw
  have h := List.all_eq_true.mp xAt_ok w hw
  rw [Bool.or_eq_true, decide_eq_true_eq, decide_eq_true_eq] at h
  obtain ⟨h1, h2, h3, -⟩ := hT
  rcases h with h | h
  · exact hg w h
  · unfold xSp at h
    simp only [List.mem_append, List.mem_map, List.mem_singleton] at h
    rcases h with ((⟨x, hx, rfl⟩ | rfl) | ⟨q, hq, rfl⟩) | ⟨q, hq, rfl⟩
    · exact va_Nw.use rfl (h1 x hx)
    · exact va_Nw.use rfl h2
    · exact (ls_args (h3 q hq).1 (h3 q hq).2).1
    · exact (ls_args (h3 q hq).1 (h3 q hq).2).2
theorem xNo {c : Code} (h : c.exceptionTable.isEmpty = true) (pc : Nat) : ∀ x ∈ c.exceptionTable.toList, covers x pc = false := by
  intro x hx
  have : c.exceptionTable = #[] := Array.isEmpty_iff.mp h
  rw [this] at hx
  cases hx
section XROWS
variable {p : Program} {l : Launch} {e : Env} {Rm : Room} {s : State} {m : MethodId} {args : Array Value} {below : List Frame} {meth : Method} {c : Code} {H : Heap}
variable {cc : ByteArray} {pc nL : Nat} {ls : Array Slot} {rest st0 : List Value} {D : va_G} {dA : Nat → ClassId}
variable {own : String} {idx n : Nat} {y : MethodName} {b : ByteArray} {r : Option FieldType} {rm : Room}
/-- new, dup lie behind; the message, the constructor, the throw -/
theorem x_throw (hx : p.tables.exec = Jvm.exec) (hb : c.code = cc) (hml : c.maxLocals = nL) (hown : s.vm.findClass "HangOrder" = some m.cls) (hlocks : meth.locks = false) (hex : c.exceptionTable.isEmpty = true) (hst : ∀ e : Env, l.admits e → e.platform.stackTraces = false) (hg : ∀ w ∈ gd, w.before args s = true) (hT : sTh s)
    {a : Nat} {cX : ClassId} {kX : Class} (hcX : s.vm.findClass nIA = some cX) (hkX : s.vm.classes[cX]? = some kX) (hcell : H[a]? = some (blank cX kX)) (hnew : s.heap.size ≤ a) (hl : ls.size = nL) (hR : Rm.frames = 6 ∧ Rm.locals = 196)
    (d1 : decode cc pc = .ok (.ldc 137, 2)) (d2 : decode cc (pc + 2) = .ok (.invokespecial 139, 3)) (d3 : decode cc (pc + 5) = .ok (.athrow, 1)) :
    W p l e Rm s m args below meth c H [] 1 6 (XQ below s) (F0 m pc ls [.ref a, .ref a]) := by
  intro T hT0 X
  have hstr : (Cond.stringRef "HangOrder" 137 "there is no such node").before args s = true := hT.2.2.2
  obtain ⟨k9, cf9, i9, q9, -, -, -, -, -, hev⟩ := Cond.stringRef_spec hown hstr
  have hstep := X.ldcString hx hown hstr hev (g := F0 m pc ls [.ref a, .ref a]) rfl (by rw [hb]; exact d1)
  have hroom : 2 * (F0 m (pc + 2) ls [.ref q9, .ref a, .ref a]).monitorRoom + (([] : List Value).map fun v => v.category).sum ≤ 8 := lv_room (by decide)
  obtain ⟨U, u1, u2, u3, u4, u5, ce, u6, u7⟩ := X.ctorThrowS hx (hst e X.admits) (own := "HangOrder") (cls := nIA) (names := ["java/lang/RuntimeException", "java/lang/Exception"]) (ic := 139) hown (by decide +kernel) (by decide +kernel) (xAt_all hg hT)
    (fun x hx9 => by cases hx9) (a := a) hcX hkX (by rw [hT0]; exact hcell) hnew (msg := .ref q9) rfl (g := F0 m (pc + 2) ls [.ref q9, .ref a, .ref a]) rfl (by rw [hml]; exact hl) rfl rfl (rest := []) rfl (by rw [hb]; exact d2) (by rw [hb]; exact d3) (xNo hex _) (by rw [hR.1]; decide) (by
      rw [hR.2]
      have e1 : (([Value.ref a] : List Value).map fun v => v.category).sum = 1 := rfl
      have e2 : (([] : List Value).map fun v => v.category).sum = 0 := rfl
      rw [e2] at hroom
      rw [e1]
      show 2 * _ + 1 + (13 * (2 + 1) + 42) ≤ 196
      omega) hlocks
  exact ⟨U, hstep U u1, .threw a, u2, u3, a, rfl, hnew, ⟨ce, u6, u7.vm, u7.cls⟩, u4, u5⟩
/-- a static method that throws, called where no handler is -/
theorem x_S (nA : Nat) (As : List Value) (hA : As.length = nA) (hx : p.tables.exec = Jvm.exec) (hb : c.code = cc) (hml : c.maxLocals = nL) (hown : s.vm.findClass own = some m.cls) (hlocks : meth.locks = false) (hex : c.exceptionTable.isEmpty = true) (hg : ∀ w ∈ gd, w.before args s = true)
    (hC : MetX l y (.code y b n r :: gd) rm (va_Pc As (xP D dA))) (hK : va_K D cls (tys dA) s) (hX : sKx s) (hT : sTh s) (hold : ∀ (q : Nat) (cell : Cell), s.heap[q]? = some cell → H[q]? = some cell) (hsz : s.heap.size ≤ H.size)
    (w1 : Cond.methodLink own idx y ∈ gd) (w2 : Cond.static y ∈ gd) (w4 : Cond.initialized y.cls ∈ gd) (w5 : Cond.code y b n r ∈ gd)
    (hd : y.cls ≠ "java/lang/invoke/MethodHandle" ∧ y.cls ≠ "java/lang/invoke/VarHandle" ∧ (parseMethodDescriptor y.desc).map (fun d => d.parameters.length) = some nA)
    (hR : rm.frames + 1 ≤ Rm.frames ∧ 8 + (n + 11) + rm.locals ≤ Rm.locals) (hrc : rm.cells = 1 ∧ rm.slots = 6) (hl : ls.size = nL) (hroom : (rest.map fun v => v.category).sum ≤ 8)
    (hdg : decode cc pc = .ok (.invokestatic idx, 3)) (hcs : 1 ≤ Rm.cells ∧ 6 ≤ Rm.slots) (hst0 : st0 = As.reverse ++ rest) :
    W p l e Rm s m args below meth c H [] 0 0 (XQ below s) (F0 m pc ls st0) := by
  subst hst0
  intro T hT0 X
  obtain ⟨mk, hnamed⟩ := Cond.code_named (hg _ w5)
  obtain ⟨methM, cM, hmethM, -, -, -, -, -, -, hsigM⟩ := Cond.code_spec hnamed (hg _ w5)
  have hstatic : methM.isStatic = true := Cond.static_spec hnamed hmethM (hg _ w2)
  obtain ⟨kP, hkP, -⟩ := className_of_methodNamed hnamed
  have hinitP : kP.init = .initialized := Cond.initialized_spec (findClass_of_methodNamed hnamed) hkP (hg _ w4)
  have hlen : As.length = methM.sig.parameters.length := by
    have h2 := hd.2.2
    rw [hsigM] at h2
    rw [hA]; exact (Option.some.inj h2).symm
  obtain ⟨vm₁, X₁, hstep₁⟩ := X.invokestatic hx hown (hg _ w1) hnamed hmethM hstatic hkP hinitP ⟨hd.1, hd.2.1⟩ (g := F0 m pc ls (As.reverse ++ rest)) rfl (argsL := As) (rest := rest) hlen rfl (by rw [hb]; exact hdg)
  have good : ∀ w ∈ gd, ∀ a' U, s.WarmedH U.vm → w.before a' U = true := fun w hw a' U hWU => word_at hWU (gd_good hw) (hg w hw)
  have hxP : va_Pc As (xP D dA) As.toArray (T.setVm vm₁) := ⟨rfl, va_K.moved X₁.warmed.alike hK, sKx_warm (U := T.setVm vm₁) X₁.warmed hX, sTh_move (U := T.setVm vm₁) X₁.warmed (fun q cell hq _ => by show T.heap[q]? = _; rw [hT0]; exact hold q cell hq) hT⟩
  obtain ⟨x, T', X', hx1, ⟨ce, hx2, hx3, hx4⟩, hx5, hx6, hsteps⟩ := callX (bytes := b) (maxL := n) (ret := r) (Wt := 8) hC xP_blind hrc.1 hrc.2 hR.1 hR.2 (fun w hw a' U hWU => by
    rcases List.mem_cons.mp hw with z | z
    · rw [z]; exact good _ w5 a' U hWU
    · exact good w z a' U hWU) List.mem_cons_self (fun a' U hWU => good _ w4 a' U hWU) X₁ (g := F0 m pc ls rest) rfl (by rw [hml]; exact hl) (by rw [hb]; exact hdg) (lv_room hroom) (X₁.named hnamed) ⟨by omega, by omega⟩ hxP
  obtain ⟨l1, l2, l3, l4, l5⟩ := X'.leaveThrown x (g := F0 m pc ls rest) rfl rfl rfl (xNo hex _) hlocks
  refine ⟨T'.setFrames (.throwing x :: below), hstep₁ _ fun acts => by rw [doInvoke_state]; exact hsteps.trans l1, .threw x, l2, l3, x, rfl, ?_, ⟨ce, hx2, hx3, ?_⟩, l4, l5⟩
  · have : T.heap.size ≤ x := hx1
    rw [hT0] at this
    omega
  · rw [← hx4]
    exact (X₁.warmed.alike.findClass _ _).symm
/-- a method that throws, called on an object under a handler -/
theorem x_V {locs : List Loc} {cells slots : Nat} {Q : State → Prop} {a : Nat} (nA : Nat) (As : List Value) (hA : As.length = nA) (hx : p.tables.exec = Jvm.exec) (hb : c.code = cc) (hml : c.maxLocals = nL) (hown : s.vm.findClass own = some m.cls) (hg : ∀ w ∈ gd, w.before args s = true)
    (hC : MetX l y (.code y b n r :: gd) rm (va_Pc (.ref a :: As) (xP D dA))) (hK : va_K D cls (tys dA) s) (hX : sKx s) (hT : sTh s) (hold : ∀ (q : Nat) (cell : Cell), s.heap[q]? = some cell → cell.vm.isStatics = true → H[q]? = some cell)
    (hrecv : ∃ cell : Cell, H[a]? = some cell ∧ cell.vm.isStatics = false ∧ s.vm.findClass y.cls = some cell.cls)
    (w1 : Cond.methodLink own idx y ∈ gd) (w2 : Cond.instanceMethod y ∈ gd) (w3 : Cond.selects y.cls y y ∈ gd) (w4 : Cond.initialized y.cls ∈ gd) (w5 : Cond.code y b n r ∈ gd)
    (hd : y.cls ≠ "java/lang/invoke/MethodHandle" ∧ y.cls ≠ "java/lang/invoke/VarHandle" ∧ (parseMethodDescriptor y.desc).map (fun d => d.parameters.length) = some nA)
    (hR : rm.frames + 1 ≤ Rm.frames ∧ 8 + (n + 11) + rm.locals ≤ Rm.locals) (hrc : rm.cells = 1 ∧ rm.slots = 6) (hl : ls.size = nL) (hroom : (rest.map fun v => v.category).sum ≤ 8)
    (hdg : decode cc pc = .ok (.invokevirtual idx, 3)) (hcs : cells + 1 ≤ Rm.cells ∧ slots + 6 ≤ Rm.slots) (hst0 : st0 = As.reverse ++ .ref a :: rest)
    {h1 : ExceptionTableEntry} {hr : List ExceptionTableEntry} (htab : c.exceptionTable.toList = h1 :: hr) (hcov : covers h1 pc = true) (hct : h1.catchType ≠ 0) (hlink : Cond.classLink own h1.catchType nIA ∈ gd)
    (kk : ∀ (x : Nat) (H1 : Heap), H.size ≤ H1.size → (∀ (q : Nat) (cell : Cell), H[q]? = some cell → H1[q]? = some cell) → W p l e Rm s m args below meth c H1 locs (cells + 1) (slots + 6) Q (F0 m h1.handlerPc ls [.ref x])) :
    W p l e Rm s m args below meth c H locs cells slots Q (F0 m pc ls st0) := by
  subst hst0
  intro T hT0 X
  obtain ⟨cellB, hcB, hoB, hclB⟩ := hrecv
  obtain ⟨mk, methM, hnamed, hmethM, hstM, habM⟩ := Cond.instanceMethod_spec (hg _ w2)
  obtain ⟨methM', cM, hmethM', -, -, -, -, -, -, hsigM⟩ := Cond.code_spec hnamed (hg _ w5)
  cases hmethM.symm.trans hmethM'
  obtain ⟨c2, r2, m2, q1, q2, q3, q4, kP, hkP, hkPi⟩ := Cond.selects_spec (hg _ w3)
  cases hclB.symm.trans q1
  cases (State.methodFound?_of_named hnamed ⟨hd.1, hd.2.1⟩).symm.trans q2
  cases hnamed.symm.trans q3
  have hselP : selectMethod e.platform s.vm cellB.cls mk = .method mk := by rw [Launch.admits_selectMethod X.admits]; exact q4
  have hlen : As.length = methM.sig.parameters.length := by
    have h2 := hd.2.2
    rw [hsigM] at h2
    rw [hA]; exact (Option.some.inj h2).symm
  obtain ⟨vm₁, X₁, hstep₁⟩ := X.invokevirtual hx hown (hg _ w1) hnamed hmethM hstM hkP hkPi ⟨hd.1, hd.2.1⟩ (a := a) (cell := cellB) (by rw [hT0]; exact hcB)
    (fun z h => by rw [h] at hoB; cases hoB) hselP hmethM habM hkP hkPi (g := F0 m pc ls (As.reverse ++ .ref a :: rest)) rfl (argsL := As) (rest := rest) hlen rfl (by rw [hb]; exact hdg)
  have good : ∀ w ∈ gd, ∀ a' U, s.WarmedH U.vm → w.before a' U = true := fun w hw a' U hWU => word_at hWU (gd_good hw) (hg w hw)
  have hxP : va_Pc (.ref a :: As) (xP D dA) (Value.ref a :: As).toArray (T.setVm vm₁) := ⟨rfl, va_K.moved X₁.warmed.alike hK, sKx_warm (U := T.setVm vm₁) X₁.warmed hX, sTh_move (U := T.setVm vm₁) X₁.warmed (fun q cell hq hz => by show T.heap[q]? = _; rw [hT0]; exact hold q cell hq hz) hT⟩
  obtain ⟨x, T', X', hx1, ⟨ce, hx2, hx3, hx4⟩, hx5, hx6, hsteps⟩ := callX (bytes := b) (maxL := n) (ret := r) (Wt := 8) hC xP_blind hrc.1 hrc.2 hR.1 hR.2 (fun w hw a' U hWU => by
    rcases List.mem_cons.mp hw with z | z
    · rw [z]; exact good _ w5 a' U hWU
    · exact good w z a' U hWU) List.mem_cons_self (fun a' U hWU => good _ w4 a' U hWU) X₁ (g := F0 m pc ls rest) rfl (by rw [hml]; exact hl) (by rw [hb]; exact hdg) (lv_room hroom) (X₁.named hnamed) hcs hxP
  obtain ⟨vm2, X2, st2⟩ := x_catch X' (x := x) (g := F0 m pc ls rest) rfl hown htab hcov hct (hg _ hlink) hT.2.1 hx2 hx3 (by rw [← hx4]; exact (X₁.warmed.alike.findClass _ _).symm)
  rw [List.append_nil] at X2
  have hH : T.heap = H := hT0
  obtain ⟨t, t1, t2⟩ := kk x T'.heap (by rw [← hH]; exact hx5) (fun q cell hq => hx6 q cell (by show T.heap[q]? = _; rw [hH]; exact hq)) (T'.setVm vm2) rfl X2
  exact ⟨t, hstep₁ _ fun acts => by rw [doInvoke_state]; exact hsteps.trans (st2 t t1), t2⟩
end XROWS
end
section
set_option maxHeartbeats 4000000 in
set_option maxRecDepth 100000 in
theorem x_H_requireNode (l : Launch) (hst : ∀ e : Env, l.admits e → e.platform.stackTraces = false) (D : va_G) (dA : Nat → ClassId) (k : Int32) (hv : ¬ vp_in k 16384) :
    MetX l y_H_requireNode (.code y_H_requireNode c_H_requireNode 1 none :: gd) (rmk 6 1 6) (va_Pc [.int k] (xP D dA)) := by
  refine x_met (cc := c_H_requireNode) (maxL := 1) (by decide) rfl (by simp [Value.category]) (by simp [lg_sl, Value.category]) ?_
  intro p e s m args below meth c ls hx hb hts hown hlocks hml hex hK hX hT hM hl
  have hg := gd_hts hts
  have hl : lc ls 1 [some (.int k)] := hl
  refine q_iload_n (i := 0) hx hb d_H_requireNode_0 rfl hl rfl ?_
  refine s_calli (r_S 1 [.int k] rfl hx hb hml hown hg (m_H_isNode l D dA _ _ k) (hM.pre hK hX) kw_266 kw_260 kw_1 kw_261 (by decide +kernel) ⟨Nat.le_of_ble_eq_true rfl, Nat.le_of_ble_eq_true rfl⟩ rfl rfl hl.sz (by first | exact Nat.le_of_ble_eq_true rfl | simp [rf_cat] | simp [rf_cat, Value.category]) d_H_requireNode_1 ⟨Nat.le_of_ble_eq_true rfl, Nat.le_of_ble_eq_true rfl⟩ rfl) hM (fun r1 u H locs hp hM => ?_)
  obtain ⟨rfl, hp⟩ := hp
  refine va_forget (fun q9 hq9 => (hM.locs q9 hq9).elim (fun z => absurd rfl z) id) ?_
  have hold : ∀ (q : Nat) (cell : Cell), s.heap[q]? = some cell → H[q]? = some cell := fun q cell hq => by
    obtain ⟨-, ws9, -, -, -, hS9⟩ := hM
    have hlt := (Array.getElem?_eq_some_iff.mp hq).1
    rw [hS9.2.1 q hlt (fun z => z.elim (fun y => absurd rfl y) (fun y => absurd y (Nat.not_le.mpr hlt)))]
    exact hq
  have hszH : s.heap.size ≤ H.size := by
    obtain ⟨-, ws9, -, -, -, hS9⟩ := hM
    exact hS9.1
  refine lv_if_ne (tgt := 17) hx hb d_H_requireNode_4 (by decide) (fun c1 => ?_) (fun c1 => ?_)
  · rcases hp with ⟨-, z⟩ | ⟨z, -⟩
    · exact absurd z hv
    · exact absurd z c1
  · obtain ⟨cX, c4, f3, -, -⟩ := Cond.castable_spec (va_Nw.use (A := args) rfl hT.2.1)
    refine W.newcK hx hb hown (hg _ kw_283) (hg _ kw_284) (hg _ kw_9) rfl d_H_requireNode_7 (Nat.le_of_ble_eq_true rfl) (Nat.le_of_ble_eq_true rfl) f3 rfl fun H1 kC hkC e1 z1 o1 => ?_
    refine lv_dup hx hb d_H_requireNode_10 rfl ?_
    exact x_throw hx hb hml hown hlocks hex hst hg hT f3 hkC e1 hszH hl.sz ⟨rfl, rfl⟩ d_H_requireNode_11 d_H_requireNode_13 d_H_requireNode_16
set_option maxHeartbeats 4000000 in
set_option maxRecDepth 100000 in
theorem x_H_clear (l : Launch) (hst : ∀ e : Env, l.admits e → e.platform.stackTraces = false) (D : va_G) (dA : Nat → ClassId) (h0 : Nat) (k : Int32) (hv : ¬ vp_in k 16384) :
    MetX l y_H_clear (.code y_H_clear c_H_clear 6 (some .int) :: gd) (rmk 7 1 6) (va_Pc [.ref h0, .int k] (xP D dA)) := by
  refine x_met (cc := c_H_clear) (maxL := 6) (by decide) rfl (by simp [Value.category]) (by simp [lg_sl, Value.category]) ?_
  intro p e s m args below meth c ls hx hb hts hown hlocks hml hex hK hX hT hM hl
  have hg := gd_hts hts
  have hl : lc ls 6 [some (va_rf (some h0)), some (.int k), none, none, none, none] := hl
  have hold : ∀ (q : Nat) (cell : Cell), s.heap[q]? = some cell → s.heap[q]? = some cell := fun _ _ h => h
  have hszH : s.heap.size ≤ s.heap.size := Nat.le_refl _
  refine q_iload_n (i := 1) hx hb d_H_clear_0 rfl hl rfl ?_
  exact x_S 1 [.int k] rfl hx hb hml hown hlocks hex hg (x_H_requireNode l hst D dA k hv) hK hX hT hold hszH kw_280 kw_281 kw_1 kw_282 (by decide +kernel) ⟨Nat.le_of_ble_eq_true rfl, Nat.le_of_ble_eq_true rfl⟩ ⟨rfl, rfl⟩ hl.sz (by first | exact Nat.le_of_ble_eq_true rfl | simp [rf_cat, Value.category]) d_H_clear_1 ⟨Nat.le_of_ble_eq_true rfl, Nat.le_of_ble_eq_true rfl⟩ rfl
set_option maxHeartbeats 4000000 in
set_option maxRecDepth 100000 in
theorem x_H_touch (l : Launch) (hst : ∀ e : Env, l.admits e → e.platform.stackTraces = false) (D : va_G) (dA : Nat → ClassId) (h0 : Nat) (k : Int32) (hv : ¬ vp_in k 16384) :
    MetX l y_H_touch (.code y_H_touch c_H_touch 2 none :: gd) (rmk 7 1 6) (va_Pc [.ref h0, .int k] (xP D dA)) := by
  refine x_met (cc := c_H_touch) (maxL := 2) (by decide) rfl (by simp [Value.category]) (by simp [lg_sl, Value.category]) ?_
  intro p e s m args below meth c ls hx hb hts hown hlocks hml hex hK hX hT hM hl
  have hg := gd_hts hts
  have hl : lc ls 2 [some (va_rf (some h0)), some (.int k)] := hl
  have hold : ∀ (q : Nat) (cell : Cell), s.heap[q]? = some cell → s.heap[q]? = some cell := fun _ _ h => h
  have hszH : s.heap.size ≤ s.heap.size := Nat.le_refl _
  refine q_iload_n (i := 1) hx hb d_H_touch_0 rfl hl rfl ?_
  exact x_S 1 [.int k] rfl hx hb hml hown hlocks hex hg (x_H_requireNode l hst D dA k hv) hK hX hT hold hszH kw_280 kw_281 kw_1 kw_282 (by decide +kernel) ⟨Nat.le_of_ble_eq_true rfl, Nat.le_of_ble_eq_true rfl⟩ ⟨rfl, rfl⟩ hl.sz (by first | exact Nat.le_of_ble_eq_true rfl | simp [rf_cat, Value.category]) d_H_touch_1 ⟨Nat.le_of_ble_eq_true rfl, Nat.le_of_ble_eq_true rfl⟩ rfl
set_option maxHeartbeats 4000000 in
set_option maxRecDepth 100000 in
theorem x_H_link (l : Launch) (hst : ∀ e : Env, l.admits e → e.platform.stackTraces = false) (D : va_G) (dA : Nat → ClassId) (h0 : Nat) (k t : Int32) (hv : ¬ (vp_in k 16384 ∧ vp_in t 16384)) :
    MetX l y_H_link (.code y_H_link c_H_link 4 (some .boolean) :: gd) (rmk 7 1 6) (va_Pc [.ref h0, .int k, .int t] (xP D dA)) := by
  refine x_met (cc := c_H_link) (maxL := 4) (by decide) rfl (by simp [Value.category]) (by simp [lg_sl, Value.category]) ?_
  intro p e s m args below meth c ls hx hb hts hown hlocks hml hex hK hX hT hM hl
  have hg := gd_hts hts
  have hl : lc ls 4 [some (va_rf (some h0)), some (.int k), some (.int t), none] := hl
  by_cases hk : vp_in k 16384
  · have ht : ¬ vp_in t 16384 := fun z => hv ⟨hk, z⟩
    refine q_iload_n (i := 1) hx hb d_H_link_0 rfl hl rfl ?_
    refine s_callv (r_S 1 [.int k] rfl hx hb hml hown hg (m_H_requireNode l D dA _ _ k hk) (hM.pre hK hX) kw_280 kw_281 kw_1 kw_282 (by decide +kernel) ⟨Nat.le_of_ble_eq_true rfl, Nat.le_of_ble_eq_true rfl⟩ rfl rfl hl.sz (by first | exact Nat.le_of_ble_eq_true rfl | simp [rf_cat] | simp [rf_cat, Value.category]) d_H_link_1 ⟨Nat.le_of_ble_eq_true rfl, Nat.le_of_ble_eq_true rfl⟩ rfl) hM (fun u H locs hp hM => ?_)
    subst hp
    refine va_forget (fun q9 hq9 => (hM.locs q9 hq9).elim (fun z => absurd rfl z) id) ?_
    have hold : ∀ (q : Nat) (cell : Cell), s.heap[q]? = some cell → H[q]? = some cell := fun q cell hq => by
      obtain ⟨-, ws9, -, -, -, hS9⟩ := hM
      have hlt := (Array.getElem?_eq_some_iff.mp hq).1
      rw [hS9.2.1 q hlt (fun z => z.elim (fun y => absurd rfl y) (fun y => absurd y (Nat.not_le.mpr hlt)))]
      exact hq
    have hszH : s.heap.size ≤ H.size := by
      obtain ⟨-, ws9, -, -, -, hS9⟩ := hM
      exact hS9.1
    refine q_iload_n (i := 2) hx hb d_H_link_4 rfl hl rfl ?_
    exact x_S 1 [.int t] rfl hx hb hml hown hlocks hex hg (x_H_requireNode l hst D dA t ht) hK hX hT hold hszH kw_280 kw_281 kw_1 kw_282 (by decide +kernel) ⟨Nat.le_of_ble_eq_true rfl, Nat.le_of_ble_eq_true rfl⟩ ⟨rfl, rfl⟩ hl.sz (by first | exact Nat.le_of_ble_eq_true rfl | simp [rf_cat, Value.category]) d_H_link_5 ⟨Nat.le_of_ble_eq_true rfl, Nat.le_of_ble_eq_true rfl⟩ rfl
  · have hold : ∀ (q : Nat) (cell : Cell), s.heap[q]? = some cell → s.heap[q]? = some cell := fun _ _ h => h
    have hszH : s.heap.size ≤ s.heap.size := Nat.le_refl _
    refine q_iload_n (i := 1) hx hb d_H_link_0 rfl hl rfl ?_
    exact x_S 1 [.int k] rfl hx hb hml hown hlocks hex hg (x_H_requireNode l hst D dA k hk) hK hX hT hold hszH kw_280 kw_281 kw_1 kw_282 (by decide +kernel) ⟨Nat.le_of_ble_eq_true rfl, Nat.le_of_ble_eq_true rfl⟩ ⟨rfl, rfl⟩ hl.sz (by first | exact Nat.le_of_ble_eq_true rfl | simp [rf_cat, Value.category]) d_H_link_1 ⟨Nat.le_of_ble_eq_true rfl, Nat.le_of_ble_eq_true rfl⟩ rfl
set_option maxHeartbeats 4000000 in
set_option maxRecDepth 100000 in
theorem x_H_unlink (l : Launch) (hst : ∀ e : Env, l.admits e → e.platform.stackTraces = false) (D : va_G) (dA : Nat → ClassId) (h0 : Nat) (k t : Int32) (hv : ¬ (vp_in k 16384 ∧ vp_in t 16384)) :
    MetX l y_H_unlink (.code y_H_unlink c_H_unlink 4 (some .boolean) :: gd) (rmk 7 1 6) (va_Pc [.ref h0, .int k, .int t] (xP D dA)) := by
  refine x_met (cc := c_H_unlink) (maxL := 4) (by decide) rfl (by simp [Value.category]) (by simp [lg_sl, Value.category]) ?_
  intro p e s m args below meth c ls hx hb hts hown hlocks hml hex hK hX hT hM hl
  have hg := gd_hts hts
  have hl : lc ls 4 [some (va_rf (some h0)), some (.int k), some (.int t), none] := hl
  by_cases hk : vp_in k 16384
  · have ht : ¬ vp_in t 16384 := fun z => hv ⟨hk, z⟩
    refine q_iload_n (i := 1) hx hb d_H_unlink_0 rfl hl rfl ?_
    refine s_callv (r_S 1 [.int k] rfl hx hb hml hown hg (m_H_requireNode l D dA _ _ k hk) (hM.pre hK hX) kw_280 kw_281 kw_1 kw_282 (by decide +kernel) ⟨Nat.le_of_ble_eq_true rfl, Nat.le_of_ble_eq_true rfl⟩ rfl rfl hl.sz (by first | exact Nat.le_of_ble_eq_true rfl | simp [rf_cat] | simp [rf_cat, Value.category]) d_H_unlink_1 ⟨Nat.le_of_ble_eq_true rfl, Nat.le_of_ble_eq_true rfl⟩ rfl) hM (fun u H locs hp hM => ?_)
    subst hp
    refine va_forget (fun q9 hq9 => (hM.locs q9 hq9).elim (fun z => absurd rfl z) id) ?_
    have hold : ∀ (q : Nat) (cell : Cell), s.heap[q]? = some cell → H[q]? = some cell := fun q cell hq => by
      obtain ⟨-, ws9, -, -, -, hS9⟩ := hM
      have hlt := (Array.getElem?_eq_some_iff.mp hq).1
      rw [hS9.2.1 q hlt (fun z => z.elim (fun y => absurd rfl y) (fun y => absurd y (Nat.not_le.mpr hlt)))]
      exact hq
    have hszH : s.heap.size ≤ H.size := by
      obtain ⟨-, ws9, -, -, -, hS9⟩ := hM
      exact hS9.1
    refine q_iload_n (i := 2) hx hb d_H_unlink_4 rfl hl rfl ?_
    exact x_S 1 [.int t] rfl hx hb hml hown hlocks hex hg (x_H_requireNode l hst D dA t ht) hK hX hT hold hszH kw_280 kw_281 kw_1 kw_282 (by decide +kernel) ⟨Nat.le_of_ble_eq_true rfl, Nat.le_of_ble_eq_true rfl⟩ ⟨rfl, rfl⟩ hl.sz (by first | exact Nat.le_of_ble_eq_true rfl | simp [rf_cat, Value.category]) d_H_unlink_5 ⟨Nat.le_of_ble_eq_true rfl, Nat.le_of_ble_eq_true rfl⟩ rfl
  · have hold : ∀ (q : Nat) (cell : Cell), s.heap[q]? = some cell → s.heap[q]? = some cell := fun _ _ h => h
    have hszH : s.heap.size ≤ s.heap.size := Nat.le_refl _
    refine q_iload_n (i := 1) hx hb d_H_unlink_0 rfl hl rfl ?_
    exact x_S 1 [.int k] rfl hx hb hml hown hlocks hex hg (x_H_requireNode l hst D dA k hk) hK hX hT hold hszH kw_280 kw_281 kw_1 kw_282 (by decide +kernel) ⟨Nat.le_of_ble_eq_true rfl, Nat.le_of_ble_eq_true rfl⟩ ⟨rfl, rfl⟩ hl.sz (by first | exact Nat.le_of_ble_eq_true rfl | simp [rf_cat, Value.category]) d_H_unlink_1 ⟨Nat.le_of_ble_eq_true rfl, Nat.le_of_ble_eq_true rfl⟩ rfl
end
section
/-! THE REFERENCE: its fields and rows -/
def bI (b : Bool) : Int32 := if b then 1 else 0
theorem bI_nar (b : Bool) : vp_nar .boolean (bI b) = bI b := by cases b <;> decide
theorem bI_ne (b : Bool) : bI b ≠ 0 ↔ b = true := by cases b <;> decide
theorem bI_eq (b : Bool) : bI b = 0 ↔ b = false := by cases b <;> decide
section SZST
variable {p : Program} {l : Launch} {e : Env} {Rm : Room} {s : State} {m : MethodId} {args : Array Value} {below : List Frame} {meth : Method} {c : Code} {H : Heap} {locs : List Loc} {cells slots : Nat} {Q : State → Prop}
variable {cc : ByteArray} {pc : Nat} {ls : Array Slot} {rest : List Value} {D : va_G} {cl : List vw_C} {A : Nat → Prop} {tys : List (ClassId × FieldType)} {H0 : Heap}
variable {sg : Nat → List Bool} {tk : Nat → Nat} {dA : Nat → ClassId} {kd : Nat → Option sK} {rf : Nat → Nat → Option Nat} {it : Nat → Nat → Int32} {lg : Nat → Nat → Int64} {a : Nat}
theorem s_zst (hexec : p.tables.exec = Jvm.exec) (hb : c.code = cc) (hK : va_K D cl tys s) (hM : sW sg tk D dA cl A H0 (kd, rf, it, lg) H locs) {t n : Nat} (ha : kd a = some (.inr (t, n))) (htk : tk t = 0) (ht : tys[t]? = some (dA t, .boolean)) {i x : Int32} (hx : vp_nar .boolean x = x) (hin : vp_in i n) (hdg : decode cc pc = .ok (.bastore, 1))
    (kk : ∀ (H1 : Heap) (locs1 : List Loc), sW sg tk D dA cl A H0 (kd, rf, up2 it a i.toNatClampNeg x, lg) H1 locs1 → W p l e Rm s m args below meth c H1 locs1 cells slots Q (F0 m (pc + 1) ls rest)) : W p l e Rm s m args below meth c H locs cells slots Q (F0 m pc ls (.int x :: .int i :: .ref a :: rest)) := by
  obtain ⟨hAll, ws, hG, hP, hD, hS⟩ := hM
  obtain ⟨q0, hq⟩ := (hG a _).mp (sMk_ki ha htk)
  refine va_zast hexec hb hK hP hD hS q0 t hq ht hin hdg fun H1 locs1 hP1 hD1 hS1 => ?_
  rw [hx] at hP1 hD1
  exact kk H1 locs1 ⟨hAll, _, by rw [sMk_ari x ha htk]; exact sG_set hG hD hq, hP1, hD1, hS1⟩
end SZST
/-- the rows: 0 from, 1 to, 2 numbers, 3 touched, 4 ringed, 5 wanted, 6 done, 7 worked -/
def Mw (kd : Nat → Option sK) (rf : Nat → Nat → Option Nat) (m0 : Nat) (ar : Nat → Nat) : Prop := kd m0 = some (.inl 7) ∧ (rf m0 2 = some (ar 0) ∧ rf m0 3 = some (ar 1) ∧ rf m0 5 = some (ar 2) ∧ rf m0 6 = some (ar 3) ∧ rf m0 7 = some (ar 4) ∧ rf m0 8 = some (ar 5) ∧ rf m0 9 = some (ar 6) ∧ rf m0 11 = some (ar 7)) ∧
  (kd (ar 0) = some (.inr (0, 4096)) ∧ kd (ar 1) = some (.inr (0, 4096)) ∧ kd (ar 2) = some (.inr (0, 8192)) ∧ kd (ar 3) = some (.inr (4, 8192)) ∧ kd (ar 4) = some (.inr (4, 8192)) ∧ kd (ar 5) = some (.inr (4, 8192)) ∧ kd (ar 6) = some (.inr (4, 8192)) ∧ kd (ar 7) = some (.inr (0, 8192))) ∧ ∀ i j, i < 8 → j < 8 → ar i = ar j → i = j
def asz (i : Nat) : Nat := if i ≤ 1 then 4096 else 8192
def isC (i : Nat) : Prop := i = 1 ∨ i = 4 ∨ i = 10 ∨ i = 12
def isN (i : Nat) : Prop := i = 0 ∨ i = 1 ∨ i = 2 ∨ i = 7
/-- its numbers: cn 1 links, 4 nodes, 10 many, 12 found; nA the rows of ints, fb the rows of flags -/
def Mi (it : Nat → Nat → Int32) (m0 : Nat) (ar cn : Nat → Nat) (nA : Nat → Nat → Nat) (fb : Nat → Nat → Bool) : Prop := (∀ i, isC i → it m0 i = nI (cn i)) ∧ (∀ i x, isN i → x < asz i → it (ar i) x = nI (nA i x)) ∧ ∀ k x, 3 ≤ k → k ≤ 6 → x < 8192 → it (ar k) x = bI (fb k x)
theorem Mw.nm {kd : Nat → Option sK} {rf : Nat → Nat → Option Nat} {m0 : Nat} {ar : Nat → Nat} (h : Mw kd rf m0 ar) {i : Nat} (hi : i < 8) : ar i ≠ m0 := by
  obtain ⟨km, -, ⟨k0, k1, k2, k3, k4, k5, k6, k7⟩, -⟩ := h
  intro z
  have : ∃ t, kd (ar i) = some (.inr t) := by
    match i, hi with
    | 0, _ => exact ⟨_, k0⟩
    | 1, _ => exact ⟨_, k1⟩
    | 2, _ => exact ⟨_, k2⟩
    | 3, _ => exact ⟨_, k3⟩
    | 4, _ => exact ⟨_, k4⟩
    | 5, _ => exact ⟨_, k5⟩
    | 6, _ => exact ⟨_, k6⟩
    | 7, _ => exact ⟨_, k7⟩
  obtain ⟨t, ht⟩ := this
  rw [z, km] at ht; cases ht
section MIUP
variable {kd : Nat → Option sK} {rf : Nat → Nat → Option Nat} {it : Nat → Nat → Int32} {m0 : Nat} {ar cn : Nat → Nat} {nA : Nat → Nat → Nat} {fb : Nat → Nat → Bool}
theorem Mi_c (hw : Mw kd rf m0 ar) (h : Mi it m0 ar cn nA fb) (i v : Nat) : Mi (up2 it m0 i (nI v)) m0 ar (va_up cn i v) nA fb := by
  obtain ⟨h1, h2, h3⟩ := h
  refine ⟨fun j hj => ?_, fun j x hj hx => ?_, fun k x a b hx => ?_⟩
  · by_cases e : j = i
    · rw [e, up2_self, va_up_self]
    · rw [up2_ne _ _ e, va_up_ne _ _ e]; exact h1 j hj
  · rw [up2_off _ _ (hw.nm (by rcases hj with z | z | z | z <;> omega))]; exact h2 j x hj hx
  · rw [up2_off _ _ (hw.nm (by omega))]; exact h3 k x a b hx
theorem Mi_0 (hw : Mw kd rf m0 ar) (h : Mi it m0 ar cn nA fb) (v : Int32) : Mi (up2 it m0 0 v) m0 ar cn nA fb := by
  obtain ⟨h1, h2, h3⟩ := h
  refine ⟨fun j hj => ?_, fun j x hj hx => ?_, fun k x a b hx => ?_⟩
  · rw [up2_ne _ _ (by rcases hj with z | z | z | z <;> omega)]; exact h1 j hj
  · rw [up2_off _ _ (hw.nm (by rcases hj with z | z | z | z <;> omega))]; exact h2 j x hj hx
  · rw [up2_off _ _ (hw.nm (by omega))]; exact h3 k x a b hx
theorem Mi_n (hw : Mw kd rf m0 ar) (h : Mi it m0 ar cn nA fb) {i : Nat} (hi : isN i) (y v : Nat) : Mi (up2 it (ar i) y (nI v)) m0 ar cn (up2 nA i y v) fb := by
  obtain ⟨h1, h2, h3⟩ := h
  have hi8 : i < 8 := by rcases hi with z | z | z | z <;> omega
  refine ⟨fun j hj => ?_, fun j x hj hx => ?_, fun k x a b hx => ?_⟩
  · rw [up2_off _ _ (fun z => hw.nm hi8 z.symm)]; exact h1 j hj
  · by_cases e : j = i
    · rw [e]
      by_cases e2 : x = y
      · rw [e2, up2_self, up2_self]
      · rw [up2_ne _ _ e2, up2_ne _ _ e2]; rw [e] at hx; exact h2 i x hi hx
    · rw [up2_off _ _ (fun z => e (hw.2.2.2 j i (by rcases hj with z | z | z | z <;> omega) hi8 z)), up2_off _ _ e]; exact h2 j x hj hx
  · rw [up2_off _ _ (fun z => by have := hw.2.2.2 k i (by omega) hi8 z; rcases hi with q | q | q | q <;> omega)]; exact h3 k x a b hx
theorem Mi_b (hw : Mw kd rf m0 ar) (h : Mi it m0 ar cn nA fb) {i : Nat} (hi : 3 ≤ i ∧ i ≤ 6) (y : Nat) (v : Bool) : Mi (up2 it (ar i) y (bI v)) m0 ar cn nA (up2 fb i y v) := by
  obtain ⟨h1, h2, h3⟩ := h
  refine ⟨fun j hj => ?_, fun j x hj hx => ?_, fun k x a b hx => ?_⟩
  · rw [up2_off _ _ (fun z => hw.nm (by omega) z.symm)]; exact h1 j hj
  · rw [up2_off _ _ (fun z => by have := hw.2.2.2 j i (by rcases hj with z | z | z | z <;> omega) (by omega) z; rcases hj with q | q | q | q <;> omega)]; exact h2 j x hj hx
  · by_cases e : k = i
    · rw [e]
      by_cases e2 : x = y
      · rw [e2, up2_self, up2_self]
      · rw [up2_ne _ _ e2, up2_ne _ _ e2]; rw [e] at a b; exact h3 i x a b hx
    · rw [up2_off _ _ (fun z => e (hw.2.2.2 k i (by omega) (by omega) z)), up2_off _ _ e]; exact h3 k x a b hx
theorem Mi.L (h : Mi it m0 ar cn nA fb) : it m0 1 = nI (cn 1) := h.1 1 (Or.inl rfl)
theorem Mi.N (h : Mi it m0 ar cn nA fb) : it m0 4 = nI (cn 4) := h.1 4 (Or.inr (Or.inl rfl))
theorem Mi.M (h : Mi it m0 ar cn nA fb) : it m0 10 = nI (cn 10) := h.1 10 (Or.inr (Or.inr (Or.inl rfl)))
theorem Mi.F (h : Mi it m0 ar cn nA fb) : it m0 12 = nI (cn 12) := h.1 12 (Or.inr (Or.inr (Or.inr rfl)))
theorem Mi.fr (h : Mi it m0 ar cn nA fb) {x : Nat} (hx : x < 4096) : it (ar 0) x = nI (nA 0 x) := h.2.1 0 x (Or.inl rfl) hx
theorem Mi.to (h : Mi it m0 ar cn nA fb) {x : Nat} (hx : x < 4096) : it (ar 1) x = nI (nA 1 x) := h.2.1 1 x (Or.inr (Or.inl rfl)) hx
theorem Mi.nu (h : Mi it m0 ar cn nA fb) {x : Nat} (hx : x < 8192) : it (ar 2) x = nI (nA 2 x) := h.2.1 2 x (Or.inr (Or.inr (Or.inl rfl))) hx
theorem Mi.wk (h : Mi it m0 ar cn nA fb) {x : Nat} (hx : x < 8192) : it (ar 7) x = nI (nA 7 x) := h.2.1 7 x (Or.inr (Or.inr (Or.inr rfl))) hx
theorem Mi.fl (h : Mi it m0 ar cn nA fb) {k x : Nat} (h3 : 3 ≤ k) (h6 : k ≤ 6) (hx : x < 8192) : it (ar k) x = bI (fb k x) := h.2.2 k x h3 h6 hx
end MIUP
set_option maxHeartbeats 4000000 in
set_option maxRecDepth 100000 in
theorem m_M_isNode (l : Launch) (D : va_G) (dA : Nat → ClassId) (S : sS) (sz : Nat) (k : Int32)  :
    cI l y_M_isNode c_M_isNode 1 (some .boolean) (rmk 0 0 0) D dA S sz [.int k] (fun x u => u = S ∧ ((x = 1 ∧ vp_in k 16384) ∨ (x = 0 ∧ ¬ vp_in k 16384))) (0) (0) := by
  refine s_met (cc := c_M_isNode) (maxL := 1) (by decide) rfl (by simp [Value.category]) (by simp [lg_sl, Value.category]) ?_
  intro p e s m args below meth c ls hx hb hr hts hown hlocks hin hml hK hX hsz hM hl
  have hg := gd_hts hts
  have hl : lc ls 1 [some (.int k)] := hl
  refine q_iload_n (i := 0) hx hb d_M_isNode_0 rfl hl rfl ?_
  refine lv_if_lt (tgt := 15) hx hb d_M_isNode_1 (by decide) (fun c1 => ?_) (fun c1 => ?_)
  · refine lv_iconst (v := 0) hx hb d_M_isNode_15 (by decide) ?_
    exact s_zret hx hb hr rfl hM ⟨rfl, Or.inr ⟨rfl, fun q => q (Or.inl c1)⟩⟩ d_M_isNode_16 hlocks
  · refine q_iload_n (i := 0) hx hb d_M_isNode_4 rfl hl rfl ?_
    refine lv_sipush (v := nI 16384) hx hb d_M_isNode_5 (by decide) ?_
    refine lv_icmp_ge (tgt := 15) hx hb d_M_isNode_8 (by decide) (fun c2 => ?_) (fun c2 => ?_)
    · refine lv_iconst (v := 0) hx hb d_M_isNode_15 (by decide) ?_
      exact s_zret hx hb hr rfl hM ⟨rfl, Or.inr ⟨rfl, vi_ge c2 (by omega)⟩⟩ d_M_isNode_16 hlocks
    · refine lv_iconst (v := 1) hx hb d_M_isNode_11 (by decide) ?_
      refine lv_goto (tgt := 16) hx hb d_M_isNode_12 (by decide) ?_
      exact s_zret hx hb hr rfl hM ⟨rfl, Or.inl ⟨rfl, vi_of c1 c2 (by omega)⟩⟩ d_M_isNode_16 hlocks
set_option maxHeartbeats 4000000 in
set_option maxRecDepth 100000 in
theorem m_M_thrown (l : Launch) (D : va_G) (dA : Nat → ClassId) (S : sS) (sz : Nat) (m0 : Nat) (hm : S.1 m0 = some (.inl 7)) :
    cI l y_M_thrown c_M_thrown 1 (some .int) (rmk 0 0 0) D dA S sz [.ref m0] (fun x u => u = S ∧ x = S.2.2.1 m0 0) (0) (0) := by
  obtain ⟨kd, rf, it, lg⟩ := S
  dsimp only at hm
  refine s_met (cc := c_M_thrown) (maxL := 1) (by decide) rfl (by simp [Value.category]) (by simp [lg_sl, Value.category]) ?_
  intro p e s m args below meth c ls hx hb hr hts hown hlocks hin hml hK hX hsz hM hl
  have hg := gd_hts hts
  have hl : lc ls 1 [some (va_rf (some m0))] := hl
  refine q_al_n (i := 0) hx hb d_M_thrown_0 rfl hl rfl ?_
  refine s_geti (C := R_M) (T := F_M) (N := 13) (ci := 7) hx hb hg in_M hown hK hM hm rfl 0 (by decide) rfl (hg _ kw_455) (fun _ h9 => h9) d_M_thrown_1 ?_
  exact s_iret hx hb hr hM ⟨rfl, rfl⟩ d_M_thrown_4 hlocks
set_option maxHeartbeats 4000000 in
set_option maxRecDepth 100000 in
theorem fi_loop {p : Program} {l : Launch} {e : Env} {s : State} {m : MethodId} {args : Array Value} {below : List Frame} {meth : Method} {c : Code} {D : va_G} {dA : Nat → ClassId} {A : Nat → Prop} {Q : State → Prop} (hx : p.tables.exec = Jvm.exec) (hb : c.code = c_M_find) (hml : c.maxLocals = 3) (hown : s.vm.findClass R_M = some m.cls) (hg : ∀ w ∈ gd, w.before args s = true) (hK : va_K D cls (tys dA) s) (hX : sKx s) {R9 : Room} {kd : Nat → Option sK} {rf : Nat → Nat → Option Nat} {it : Nat → Nat → Int32} {lg : Nat → Nat → Int64} {m0 : Nat} {ar cn : Nat → Nat} {nA : Nat → Nat → Nat} {fb : Nat → Nat → Bool} (hw : Mw kd rf m0 ar) (hi : Mi it m0 ar cn nA fb) (hN : cn 4 < 8192) (hnu : ∀ x, x < cn 4 → nA 2 x < 16384) {v : Nat} (hv9 : v < 16384) {H : Heap} {locs : List Loc} (hM : SW D dA A s.heap (kd, rf, it, lg) H locs)
    (kk : ∀ (k : Nat) (ls : Array Slot), ((k < cn 4 ∧ nA 2 k = v) ∨ (k = cn 4 ∧ ∀ x, x < cn 4 → nA 2 x ≠ v)) → lc ls 3 [some (va_rf (some m0)), some (.int (nI v)), some (.int (nI k))] → W p l e R9 s m args below meth c H locs 0 0 Q (F0 m 26 ls [])) :
    ∀ (d k : Nat) (ls : Array Slot), k + d = cn 4 → (∀ x, x < k → nA 2 x ≠ v) → lc ls 3 [some (va_rf (some m0)), some (.int (nI v)), some (.int (nI k))] → W p l e R9 s m args below meth c H locs 0 0 Q (F0 m 2 ls []) := by
  obtain ⟨km, ⟨r0, r1, r2, r3, r4, r5, r6, r7⟩, ⟨k0, k1, k2, k3, k4, k5, k6, k7⟩, hdis⟩ := id hw
  have e4 := hi.N
  intro d
  induction d with
  | zero =>
    intro k ls hk hno hl
    have hk0 : k = cn 4 := by omega
    refine q_iload_n (i := 2) hx hb d_M_find_2 rfl hl rfl ?_
    refine q_al_n (i := 0) hx hb d_M_find_3 rfl hl rfl ?_
    refine s_geti (C := R_M) (T := F_M) (N := 13) (ci := 7) hx hb hg in_M hown hK hM km rfl 4 (by decide) rfl (hg _ kw_459) (fun _ h9 => h9) d_M_find_4 ?_
    rw [e4]
    refine n_ge (tgt := 26) hx hb d_M_find_7 (by decide) (by omega) (by omega) (fun c1 => ?_) (fun c1 => ?_)
    · exact kk k ls (Or.inr ⟨hk0, by rw [← hk0]; exact hno⟩) hl
    · omega
  | succ d ih =>
    intro k ls hk hno hl
    have hkN : k < cn 4 := by omega
    have hvk := hnu k hkN
    refine q_iload_n (i := 2) hx hb d_M_find_2 rfl hl rfl ?_
    refine q_al_n (i := 0) hx hb d_M_find_3 rfl hl rfl ?_
    refine s_geti (C := R_M) (T := F_M) (N := 13) (ci := 7) hx hb hg in_M hown hK hM km rfl 4 (by decide) rfl (hg _ kw_459) (fun _ h9 => h9) d_M_find_4 ?_
    rw [e4]
    refine n_ge (tgt := 26) hx hb d_M_find_7 (by decide) (by omega) (by omega) (fun c1 => ?_) (fun c1 => ?_)
    · omega
    · refine q_al_n (i := 0) hx hb d_M_find_10 rfl hl rfl ?_
      refine s_getr (C := R_M) (T := F_M) (N := 13) (ci := 7) hx hb hg in_M hown hK hM km rfl 5 (by decide) rfl (hg _ kw_460) (fun _ h9 => h9) d_M_find_11 ?_
      rw [r2]
      refine q_iload_n (i := 2) hx hb d_M_find_14 rfl hl rfl ?_
      refine s_ild (t := 0) hx hb hK hM k2 rfl rfl (vp_in_nI (show k < 8192 by omega) (by omega)) d_M_find_15 ?_
      rw [nI_clamp (by omega), hi.nu (show k < 8192 by omega)]
      refine q_iload_n (i := 1) hx hb d_M_find_16 rfl hl rfl ?_
      refine n_eq (tgt := 26) hx hb d_M_find_17 (by decide) (by omega) (by omega) (fun c2 => ?_) (fun c2 => ?_)
      · exact kk k ls (Or.inl ⟨hkN, c2⟩) hl
      · refine q_iinc hx hb (nI (k + 1)) d_M_find_20 hl rfl (nI_1 k) (by decide) (fun ls hl => ?_)
        simp only [List.set_cons_succ, List.set_cons_zero] at hl
        refine lv_goto (tgt := 2) hx hb d_M_find_23 (by decide) ?_
        refine ih (k + 1) ls (by omega) (fun x hx9 => ?_) hl
        by_cases e : x = k
        · rw [e]; exact c2
        · exact hno x (by omega)
/-- what find answers -/
def FindP (cn : Nat → Nat) (nA : Nat → Nat → Nat) (v : Nat) (x : Int32) : Prop := (∃ k, k < cn 4 ∧ nA 2 k = v ∧ x = nI k) ∨ ((∀ k, k < cn 4 → nA 2 k ≠ v) ∧ x = -1)
set_option maxHeartbeats 4000000 in
set_option maxRecDepth 100000 in
theorem m_M_find (l : Launch) (D : va_G) (dA : Nat → ClassId) (S : sS) (sz : Nat) (m0 : Nat) (ar cn : Nat → Nat) (nA : Nat → Nat → Nat) (fb : Nat → Nat → Bool) (v : Nat) (hw : Mw S.1 S.2.1 m0 ar) (hi : Mi S.2.2.1 m0 ar cn nA fb) (hN : cn 4 < 8192) (hnu : ∀ x, x < cn 4 → nA 2 x < 16384) (hv9 : v < 16384) :
    cI l y_M_find c_M_find 3 (some .int) (rmk 0 0 0) D dA S sz [.ref m0, .int (nI v)] (fun x u => u = S ∧ FindP cn nA v x) (0) (0) := by
  obtain ⟨kd, rf, it, lg⟩ := S
  obtain ⟨km, ⟨r0, r1, r2, r3, r4, r5, r6, r7⟩, ⟨k0, k1, k2, k3, k4, k5, k6, k7⟩, hdis⟩ := id hw
  dsimp only at km r0 r1 r2 r3 r4 r5 r6 r7 k0 k1 k2 k3 k4 k5 k6 k7 hi hw
  have e4 := hi.N
  refine s_met (cc := c_M_find) (maxL := 3) (by decide) rfl (by simp [Value.category]) (by simp [lg_sl, Value.category]) ?_
  intro p e s m args below meth c ls hx hb hr hts hown hlocks hin hml hK hX hsz hM hl
  have hg := gd_hts hts
  have hl : lc ls 3 [some (va_rf (some m0)), some (.int (nI v)), none] := hl
  refine lv_iconst (v := nI 0) hx hb d_M_find_0 (by decide) ?_
  refine q_istore_n (i := 2) hx hb d_M_find_1 rfl hl (by decide) (fun ls hl => ?_)
  simp only [List.set_cons_succ, List.set_cons_zero] at hl
  refine fi_loop hx hb hml hown hg hK hX hw hi hN hnu hv9 hM ?_ (cn 4) 0 ls (by omega) (fun x hx9 => absurd hx9 (Nat.not_lt_zero x)) hl
  intro k ls hk hl
  refine q_iload_n (i := 2) hx hb d_M_find_26 rfl hl rfl ?_
  refine q_al_n (i := 0) hx hb d_M_find_27 rfl hl rfl ?_
  refine s_geti (C := R_M) (T := F_M) (N := 13) (ci := 7) hx hb hg in_M hown hK hM km rfl 4 (by decide) rfl (hg _ kw_459) (fun _ h9 => h9) d_M_find_28 ?_
  rw [e4]
  refine n_ge (tgt := 38) hx hb d_M_find_31 (by decide) (by rcases hk with ⟨z, -⟩ | ⟨z, -⟩ <;> omega) (by omega) (fun c1 => ?_) (fun c1 => ?_)
  · refine lv_iconst (v := -1) hx hb d_M_find_38 (by decide) ?_
    refine s_iret hx hb hr hM ⟨rfl, ?_⟩ d_M_find_39 hlocks
    rcases hk with ⟨z, -⟩ | ⟨-, z⟩
    · omega
    · exact Or.inr ⟨z, rfl⟩
  · refine q_iload_n (i := 2) hx hb d_M_find_34 rfl hl rfl ?_
    refine lv_goto (tgt := 39) hx hb d_M_find_35 (by decide) ?_
    refine s_iret hx hb hr hM ⟨rfl, ?_⟩ d_M_find_39 hlocks
    rcases hk with ⟨z, z2⟩ | ⟨z, -⟩
    · exact Or.inl ⟨k, z, z2, rfl⟩
    · omega
/-- what place does -/
def PlaceP (S : sS) (m0 : Nat) (ar cn : Nat → Nat) (nA : Nat → Nat → Nat) (fb : Nat → Nat → Bool) (v : Nat) (x : Int32) (u : sS) : Prop := (∃ k, k < cn 4 ∧ nA 2 k = v ∧ x = nI k ∧ u = S) ∨ ((∀ k, k < cn 4 → nA 2 k ≠ v) ∧ x = nI (cn 4) ∧ ∃ it', u = (S.1, S.2.1, it', S.2.2.2) ∧ Mi it' m0 ar (va_up cn 4 (cn 4 + 1)) (up2 nA 2 (cn 4) v) fb ∧ it' m0 0 = S.2.2.1 m0 0)
set_option maxHeartbeats 4000000 in
set_option maxRecDepth 100000 in
theorem m_M_place (l : Launch) (D : va_G) (dA : Nat → ClassId) (S : sS) (sz : Nat) (m0 : Nat) (ar cn : Nat → Nat) (nA : Nat → Nat → Nat) (fb : Nat → Nat → Bool) (v : Nat) (hw : Mw S.1 S.2.1 m0 ar) (hi : Mi S.2.2.1 m0 ar cn nA fb) (hN : cn 4 < 8192) (hnu : ∀ x, x < cn 4 → nA 2 x < 16384) (hv9 : v < 16384) :
    cI l y_M_place c_M_place 3 (some .int) (rmk 1 0 0) D dA S sz [.ref m0, .int (nI v)] (PlaceP S m0 ar cn nA fb v) (0) (0) := by
  obtain ⟨kd, rf, it, lg⟩ := S
  obtain ⟨km, ⟨r0, r1, r2, r3, r4, r5, r6, r7⟩, ⟨k0, k1, k2, k3, k4, k5, k6, k7⟩, hdis⟩ := id hw
  dsimp only at km r0 r1 r2 r3 r4 r5 r6 r7 k0 k1 k2 k3 k4 k5 k6 k7 hi hw
  have e4 := hi.N
  refine s_met (cc := c_M_place) (maxL := 3) (by decide) rfl (by simp [Value.category]) (by simp [lg_sl, Value.category]) ?_
  intro p e s m args below meth c ls hx hb hr hts hown hlocks hin hml hK hX hsz hM hl
  have hg := gd_hts hts
  have hl : lc ls 3 [some (va_rf (some m0)), some (.int (nI v)), none] := hl
  refine q_al_n (i := 0) hx hb d_M_place_0 rfl hl rfl ?_
  refine q_iload_n (i := 1) hx hb d_M_place_1 rfl hl rfl ?_
  refine s_calli (r_V 1 [.int (nI v)] rfl hx hb hml hown hg (m_M_find l D dA _ _ m0 ar cn nA fb v hw hi hN hnu hv9) (hM.pre hK hX) (hM.recv hK km (q := cls.getD 7 (R_H, F_H, 7)) rfl) kw_511 kw_513 ks_18 kw_5 kw_514 (by decide +kernel) ⟨Nat.le_of_ble_eq_true rfl, Nat.le_of_ble_eq_true rfl⟩ rfl rfl hl.sz (by first | exact Nat.le_of_ble_eq_true rfl | simp [rf_cat] | simp [rf_cat, Value.category]) d_M_place_2 ⟨Nat.le_refl _, Nat.le_refl _⟩ rfl) hM (fun r1 u H locs hp hM => ?_)
  obtain ⟨rfl, hp⟩ := hp
  refine q_istore_n (i := 2) hx hb d_M_place_5 rfl hl (by decide) (fun ls hl => ?_)
  simp only [List.set_cons_succ, List.set_cons_zero] at hl
  refine q_iload_n (i := 2) hx hb d_M_place_6 rfl hl rfl ?_
  refine lv_if_lt (tgt := 12) hx hb d_M_place_7 (by decide) (fun c1 => ?_) (fun c1 => ?_)
  · have hno : ∀ k, k < cn 4 → nA 2 k ≠ v := by
      rcases hp with ⟨k, z, -, e⟩ | ⟨z, -⟩
      · rw [e] at c1; exact absurd c1 (nI_pos (by omega))
      · exact z
    refine q_al_n (i := 0) hx hb d_M_place_12 rfl hl rfl ?_
    refine s_getr (C := R_M) (T := F_M) (N := 13) (ci := 7) hx hb hg in_M hown hK hM km rfl 5 (by decide) rfl (hg _ kw_460) (fun _ h9 => h9) d_M_place_13 ?_
    rw [r2]
    refine q_al_n (i := 0) hx hb d_M_place_16 rfl hl rfl ?_
    refine s_geti (C := R_M) (T := F_M) (N := 13) (ci := 7) hx hb hg in_M hown hK hM km rfl 4 (by decide) rfl (hg _ kw_459) (fun _ h9 => h9) d_M_place_17 ?_
    rw [e4]
    refine q_iload_n (i := 1) hx hb d_M_place_20 rfl hl rfl ?_
    refine s_ist (t := 0) hx hb hK hM k2 rfl rfl (vp_in_nI hN (by omega)) d_M_place_21 (fun H locs hM => ?_)
    rw [nI_clamp (by omega)] at hM
    refine q_al_n (i := 0) hx hb d_M_place_22 rfl hl rfl ?_
    refine lv_dup hx hb d_M_place_23 rfl ?_
    refine s_geti (C := R_M) (T := F_M) (N := 13) (ci := 7) hx hb hg in_M hown hK hM km rfl 4 (by decide) rfl (hg _ kw_459) (fun _ h9 => h9) d_M_place_24 ?_
    have hi2 := Mi_n hw hi (i := 2) (Or.inr (Or.inr (Or.inl rfl))) (cn 4) v
    rw [hi2.N]
    refine lv_iconst (v := 1) hx hb d_M_place_27 (by decide) ?_
    refine lv_iadd hx hb d_M_place_28 ?_
    rw [nI_1]
    refine s_puti (C := R_M) (T := F_M) (N := 13) (ci := 7) hx hb hg in_M ft_M ft_M_ok fn_M hown hK hM km rfl 4 (by decide) rfl (hg _ kw_459) (fun _ h9 => h9) rfl rfl rfl d_M_place_29 (fun H locs hM => ?_)
    have hi3 := Mi_c hw hi2 4 (cn 4 + 1)
    refine q_al_n (i := 0) hx hb d_M_place_32 rfl hl rfl ?_
    refine s_geti (C := R_M) (T := F_M) (N := 13) (ci := 7) hx hb hg in_M hown hK hM km rfl 4 (by decide) rfl (hg _ kw_459) (fun _ h9 => h9) d_M_place_33 ?_
    rw [hi3.N, va_up_self]
    refine lv_iconst (v := 1) hx hb d_M_place_36 (by decide) ?_
    refine lv_isub hx hb d_M_place_37 ?_
    rw [nI_pred]
    refine s_iret hx hb hr hM (Or.inr ⟨hno, rfl, _, rfl, hi3, ?_⟩) d_M_place_38 hlocks
    rw [up2_ne _ _ (by decide), up2_off _ _ (fun z => hw.nm (by decide) z.symm)]
  · refine q_iload_n (i := 2) hx hb d_M_place_10 rfl hl rfl ?_
    refine s_iret hx hb hr hM (Or.inl ?_) d_M_place_11 hlocks
    rcases hp with ⟨k, z, z2, e⟩ | ⟨-, e⟩
    · exact ⟨k, z, z2, e, rfl⟩
    · rw [e] at c1; exact absurd (by decide) c1
set_option maxHeartbeats 4000000 in
set_option maxRecDepth 100000 in
theorem lo_loop {p : Program} {l : Launch} {e : Env} {s : State} {m : MethodId} {args : Array Value} {below : List Frame} {meth : Method} {c : Code} {D : va_G} {dA : Nat → ClassId} {A : Nat → Prop} {Q : State → Prop} (hx : p.tables.exec = Jvm.exec) (hb : c.code = c_M_linkOf) (hml : c.maxLocals = 4) (hown : s.vm.findClass R_M = some m.cls) (hg : ∀ w ∈ gd, w.before args s = true) (hK : va_K D cls (tys dA) s) (hX : sKx s) {R9 : Room} {kd : Nat → Option sK} {rf : Nat → Nat → Option Nat} {it : Nat → Nat → Int32} {lg : Nat → Nat → Int64} {m0 : Nat} {ar cn : Nat → Nat} {nA : Nat → Nat → Nat} {fb : Nat → Nat → Bool} (hw : Mw kd rf m0 ar) (hi : Mi it m0 ar cn nA fb) (hL : cn 1 < 4096) (hfr : ∀ k, k < cn 1 → nA 0 k < 8192 ∧ nA 1 k < 8192) {a b : Nat} (ha9 : a < 8192) (hb9 : b < 8192) {H : Heap} {locs : List Loc} (hM : SW D dA A s.heap (kd, rf, it, lg) H locs)
    (kk : ∀ (k : Nat) (ls : Array Slot), ((k < cn 1 ∧ nA 0 k = a ∧ nA 1 k = b) ∨ (k = cn 1 ∧ ∀ x, x < cn 1 → ¬ (nA 0 x = a ∧ nA 1 x = b))) → lc ls 4 [some (va_rf (some m0)), some (.int (nI a)), some (.int (nI b)), some (.int (nI k))] → W p l e R9 s m args below meth c H locs 0 0 Q (F0 m 36 ls [])) :
    ∀ (d k : Nat) (ls : Array Slot), k + d = cn 1 → (∀ x, x < k → ¬ (nA 0 x = a ∧ nA 1 x = b)) → lc ls 4 [some (va_rf (some m0)), some (.int (nI a)), some (.int (nI b)), some (.int (nI k))] → W p l e R9 s m args below meth c H locs 0 0 Q (F0 m 2 ls []) := by
  obtain ⟨km, ⟨r0, r1, r2, r3, r4, r5, r6, r7⟩, ⟨k0, k1, k2, k3, k4, k5, k6, k7⟩, hdis⟩ := id hw
  have e1 := hi.L
  intro d
  induction d with
  | zero =>
    intro k ls hk hno hl
    have hk0 : k = cn 1 := by omega
    refine q_iload_n (i := 3) hx hb d_M_linkOf_2 rfl hl rfl ?_
    refine q_al_n (i := 0) hx hb d_M_linkOf_3 rfl hl rfl ?_
    refine s_geti (C := R_M) (T := F_M) (N := 13) (ci := 7) hx hb hg in_M hown hK hM km rfl 1 (by decide) rfl (hg _ kw_456) (fun _ h9 => h9) d_M_linkOf_4 ?_
    rw [e1]
    refine n_ge (tgt := 36) hx hb d_M_linkOf_7 (by decide) (by omega) (by omega) (fun c1 => ?_) (fun c1 => ?_)
    · exact kk k ls (Or.inr ⟨hk0, by rw [← hk0]; exact hno⟩) hl
    · omega
  | succ d ih =>
    intro k ls hk hno hl
    have hkN : k < cn 1 := by omega
    obtain ⟨hf1, hf2⟩ := hfr k hkN
    have nxt : ¬ (nA 0 k = a ∧ nA 1 k = b) → W p l e R9 s m args below meth c H locs 0 0 Q (F0 m 30 ls []) := by
      intro hne
      refine q_iinc hx hb (nI (k + 1)) d_M_linkOf_30 hl rfl (nI_1 k) (by decide) (fun ls hl => ?_)
      simp only [List.set_cons_succ, List.set_cons_zero] at hl
      refine lv_goto (tgt := 2) hx hb d_M_linkOf_33 (by decide) ?_
      refine ih (k + 1) ls (by omega) (fun x hx9 => ?_) hl
      by_cases e : x = k
      · rw [e]; exact hne
      · exact hno x (by omega)
    refine q_iload_n (i := 3) hx hb d_M_linkOf_2 rfl hl rfl ?_
    refine q_al_n (i := 0) hx hb d_M_linkOf_3 rfl hl rfl ?_
    refine s_geti (C := R_M) (T := F_M) (N := 13) (ci := 7) hx hb hg in_M hown hK hM km rfl 1 (by decide) rfl (hg _ kw_456) (fun _ h9 => h9) d_M_linkOf_4 ?_
    rw [e1]
    refine n_ge (tgt := 36) hx hb d_M_linkOf_7 (by decide) (by omega) (by omega) (fun c1 => ?_) (fun c1 => ?_)
    · omega
    · refine q_al_n (i := 0) hx hb d_M_linkOf_10 rfl hl rfl ?_
      refine s_getr (C := R_M) (T := F_M) (N := 13) (ci := 7) hx hb hg in_M hown hK hM km rfl 2 (by decide) rfl (hg _ kw_457) (fun _ h9 => h9) d_M_linkOf_11 ?_
      rw [r0]
      refine q_iload_n (i := 3) hx hb d_M_linkOf_14 rfl hl rfl ?_
      refine s_ild (t := 0) hx hb hK hM k0 rfl rfl (vp_in_nI (show k < 4096 by omega) (by omega)) d_M_linkOf_15 ?_
      rw [nI_clamp (by omega), hi.fr (show k < 4096 by omega)]
      refine q_iload_n (i := 1) hx hb d_M_linkOf_16 rfl hl rfl ?_
      refine n_ne (tgt := 30) hx hb d_M_linkOf_17 (by decide) (by omega) (by omega) (fun c2 => ?_) (fun c2 => ?_)
      · exact nxt (fun z => c2 z.1)
      · refine q_al_n (i := 0) hx hb d_M_linkOf_20 rfl hl rfl ?_
        refine s_getr (C := R_M) (T := F_M) (N := 13) (ci := 7) hx hb hg in_M hown hK hM km rfl 3 (by decide) rfl (hg _ kw_458) (fun _ h9 => h9) d_M_linkOf_21 ?_
        rw [r1]
        refine q_iload_n (i := 3) hx hb d_M_linkOf_24 rfl hl rfl ?_
        refine s_ild (t := 0) hx hb hK hM k1 rfl rfl (vp_in_nI (show k < 4096 by omega) (by omega)) d_M_linkOf_25 ?_
        rw [nI_clamp (by omega), hi.to (show k < 4096 by omega)]
        refine q_iload_n (i := 2) hx hb d_M_linkOf_26 rfl hl rfl ?_
        refine n_eq (tgt := 36) hx hb d_M_linkOf_27 (by decide) (by omega) (by omega) (fun c3 => ?_) (fun c3 => ?_)
        · exact kk k ls (Or.inl ⟨hkN, c2, c3⟩) hl
        · exact nxt (fun z => c3 z.2)
set_option maxHeartbeats 4000000 in
set_option maxRecDepth 100000 in
theorem m_M_linkOf (l : Launch) (D : va_G) (dA : Nat → ClassId) (S : sS) (sz : Nat) (m0 : Nat) (ar cn : Nat → Nat) (nA : Nat → Nat → Nat) (fb : Nat → Nat → Bool) (a b : Nat) (hw : Mw S.1 S.2.1 m0 ar) (hi : Mi S.2.2.1 m0 ar cn nA fb) (hL : cn 1 < 4096) (hfr : ∀ k, k < cn 1 → nA 0 k < 8192 ∧ nA 1 k < 8192) (ha9 : a < 8192) (hb9 : b < 8192) :
    cI l y_M_linkOf c_M_linkOf 4 (some .int) (rmk 0 0 0) D dA S sz [.ref m0, .int (nI a), .int (nI b)] (fun x u => u = S ∧ ((∃ k, k < cn 1 ∧ nA 0 k = a ∧ nA 1 k = b ∧ x = nI k) ∨ ((∀ k, k < cn 1 → ¬ (nA 0 k = a ∧ nA 1 k = b)) ∧ x = -1))) (0) (0) := by
  obtain ⟨kd, rf, it, lg⟩ := S
  obtain ⟨km, ⟨r0, r1, r2, r3, r4, r5, r6, r7⟩, ⟨k0, k1, k2, k3, k4, k5, k6, k7⟩, hdis⟩ := id hw
  dsimp only at km r0 r1 r2 r3 r4 r5 r6 r7 k0 k1 k2 k3 k4 k5 k6 k7 hi hw
  have e1 := hi.L
  refine s_met (cc := c_M_linkOf) (maxL := 4) (by decide) rfl (by simp [Value.category]) (by simp [lg_sl, Value.category]) ?_
  intro p e s m args below meth c ls hx hb hr hts hown hlocks hin hml hK hX hsz hM hl
  have hg := gd_hts hts
  have hl : lc ls 4 [some (va_rf (some m0)), some (.int (nI a)), some (.int (nI b)), none] := hl
  refine lv_iconst (v := nI 0) hx hb d_M_linkOf_0 (by decide) ?_
  refine q_istore_n (i := 3) hx hb d_M_linkOf_1 rfl hl (by decide) (fun ls hl => ?_)
  simp only [List.set_cons_succ, List.set_cons_zero] at hl
  refine lo_loop hx hb hml hown hg hK hX hw hi hL hfr ha9 hb9 hM ?_ (cn 1) 0 ls (by omega) (fun x hx9 => absurd hx9 (Nat.not_lt_zero x)) hl
  intro k ls hk hl
  refine q_iload_n (i := 3) hx hb d_M_linkOf_36 rfl hl rfl ?_
  refine q_al_n (i := 0) hx hb d_M_linkOf_37 rfl hl rfl ?_
  refine s_geti (C := R_M) (T := F_M) (N := 13) (ci := 7) hx hb hg in_M hown hK hM km rfl 1 (by decide) rfl (hg _ kw_456) (fun _ h9 => h9) d_M_linkOf_38 ?_
  rw [e1]
  refine n_ge (tgt := 48) hx hb d_M_linkOf_41 (by decide) (by rcases hk with ⟨z, -⟩ | ⟨z, -⟩ <;> omega) (by omega) (fun c1 => ?_) (fun c1 => ?_)
  · refine lv_iconst (v := -1) hx hb d_M_linkOf_48 (by decide) ?_
    refine s_iret hx hb hr hM ⟨rfl, ?_⟩ d_M_linkOf_49 hlocks
    rcases hk with ⟨z, -⟩ | ⟨-, z⟩
    · omega
    · exact Or.inr ⟨z, rfl⟩
  · refine q_iload_n (i := 3) hx hb d_M_linkOf_44 rfl hl rfl ?_
    refine lv_goto (tgt := 49) hx hb d_M_linkOf_45 (by decide) ?_
    refine s_iret hx hb hr hM ⟨rfl, ?_⟩ d_M_linkOf_49 hlocks
    rcases hk with ⟨z, z2, z3⟩ | ⟨z, -⟩
    · exact Or.inl ⟨k, z, z2, z3, rfl⟩
    · omega
/-- the rows of links with place k taken out, as far as place i -/
def cutA (nA : Nat → Nat → Nat) (k i : Nat) (r x : Nat) : Nat := if (r = 0 ∨ r = 1) ∧ k ≤ x ∧ x < i then nA r (x + 1) else nA r x
theorem cutA_self (nA : Nat → Nat → Nat) (k : Nat) : cutA nA k k = nA := by
  funext r x
  unfold cutA
  rw [if_neg (by omega)]
theorem cutA_step {nA : Nat → Nat → Nat} {k i : Nat} (h : k ≤ i) : up2 (up2 (cutA nA k i) 0 i (nA 0 (i + 1))) 1 i (nA 1 (i + 1)) = cutA nA k (i + 1) := by
  funext r x
  simp only [cutA, up2]
  by_cases e1 : r = 1
  · by_cases e2 : x = i
    · subst e1; subst e2
      rw [if_pos ⟨rfl, rfl⟩, if_pos (by omega)]
    · rw [if_neg (fun z => e2 z.2), if_neg (fun z => e2 z.2)]
      by_cases q : (r = 0 ∨ r = 1) ∧ k ≤ x ∧ x < i
      · rw [if_pos q, if_pos (by omega)]
      · rw [if_neg q, if_neg (by omega)]
  · rw [if_neg (fun z => e1 z.1)]
    by_cases e0 : r = 0
    · by_cases e2 : x = i
      · subst e0; subst e2
        rw [if_pos ⟨rfl, rfl⟩, if_pos (by omega)]
      · rw [if_neg (fun z => e2 z.2)]
        by_cases q : (r = 0 ∨ r = 1) ∧ k ≤ x ∧ x < i
        · rw [if_pos q, if_pos (by omega)]
        · rw [if_neg q, if_neg (by omega)]
    · rw [if_neg (fun z => e0 z.1), if_neg (by omega), if_neg (by omega)]
set_option maxHeartbeats 4000000 in
set_option maxRecDepth 100000 in
theorem cu_loop {p : Program} {l : Launch} {e : Env} {s : State} {m : MethodId} {args : Array Value} {below : List Frame} {meth : Method} {c : Code} {D : va_G} {dA : Nat → ClassId} {A : Nat → Prop} {Q : State → Prop} (hx : p.tables.exec = Jvm.exec) (hb : c.code = c_M_cut) (hml : c.maxLocals = 3) (hown : s.vm.findClass R_M = some m.cls) (hg : ∀ w ∈ gd, w.before args s = true) (hK : va_K D cls (tys dA) s) (hX : sKx s) {R9 : Room} {kd : Nat → Option sK} {rf : Nat → Nat → Option Nat} {lg : Nat → Nat → Int64} {m0 : Nat} {ar cn : Nat → Nat} {nA : Nat → Nat → Nat} {fb : Nat → Nat → Bool} (hw : Mw kd rf m0 ar) (hL : cn 1 < 4096) {k : Nat} {z0 : Int32}
    (kk : ∀ (it : Nat → Nat → Int32) (H : Heap) (locs : List Loc) (ls : Array Slot) (o : Option Value), SW D dA A s.heap (kd, rf, it, lg) H locs → lc ls 3 [some (va_rf (some m0)), some (.int (nI k)), o] → Mi it m0 ar cn (cutA nA k (cn 1 - 1)) fb → it m0 0 = z0 → W p l e R9 s m args below meth c H locs 0 0 Q (F0 m 46 ls [])) :
    ∀ (d i : Nat) (it : Nat → Nat → Int32) (H : Heap) (locs : List Loc) (ls : Array Slot), i + d + 1 = cn 1 → k ≤ i → SW D dA A s.heap (kd, rf, it, lg) H locs → lc ls 3 [some (va_rf (some m0)), some (.int (nI k)), some (.int (nI i))] → Mi it m0 ar cn (cutA nA k i) fb → it m0 0 = z0 → W p l e R9 s m args below meth c H locs 0 0 Q (F0 m 2 ls []) := by
  obtain ⟨km, ⟨r0, r1, r2, r3, r4, r5, r6, r7⟩, ⟨k0, k1, k2, k3, k4, k5, k6, k7⟩, hdis⟩ := id hw
  intro d
  induction d with
  | zero =>
    intro i it H locs ls hd hki hM hl hi hz
    have hk0 : i = cn 1 - 1 := by omega
    have e1 := hi.L
    refine q_iload_n (i := 2) hx hb d_M_cut_2 rfl hl rfl ?_
    refine lv_iconst (v := 1) hx hb d_M_cut_3 (by decide) ?_
    refine lv_iadd hx hb d_M_cut_4 ?_
    rw [nI_1]
    refine q_al_n (i := 0) hx hb d_M_cut_5 rfl hl rfl ?_
    refine s_geti (C := R_M) (T := F_M) (N := 13) (ci := 7) hx hb hg in_M hown hK hM km rfl 1 (by decide) rfl (hg _ kw_456) (fun _ h9 => h9) d_M_cut_6 ?_
    rw [e1]
    refine n_ge (tgt := 46) hx hb d_M_cut_9 (by decide) (by omega) (by omega) (fun c1 => ?_) (fun c1 => ?_)
    · rw [hk0] at hi
      exact kk it H locs ls _ hM hl hi hz
    · omega
  | succ d ih =>
    intro i it H locs ls hd hki hM hl hi hz
    have e1 := hi.L
    have hi1 : i < 4096 := by omega
    have hi2 : i + 1 < 4096 := by omega
    refine q_iload_n (i := 2) hx hb d_M_cut_2 rfl hl rfl ?_
    refine lv_iconst (v := 1) hx hb d_M_cut_3 (by decide) ?_
    refine lv_iadd hx hb d_M_cut_4 ?_
    rw [nI_1]
    refine q_al_n (i := 0) hx hb d_M_cut_5 rfl hl rfl ?_
    refine s_geti (C := R_M) (T := F_M) (N := 13) (ci := 7) hx hb hg in_M hown hK hM km rfl 1 (by decide) rfl (hg _ kw_456) (fun _ h9 => h9) d_M_cut_6 ?_
    rw [e1]
    refine n_ge (tgt := 46) hx hb d_M_cut_9 (by decide) (by omega) (by omega) (fun c1 => ?_) (fun c1 => ?_)
    · omega
    · refine q_al_n (i := 0) hx hb d_M_cut_12 rfl hl rfl ?_
      refine s_getr (C := R_M) (T := F_M) (N := 13) (ci := 7) hx hb hg in_M hown hK hM km rfl 2 (by decide) rfl (hg _ kw_457) (fun _ h9 => h9) d_M_cut_13 ?_
      rw [r0]
      refine q_iload_n (i := 2) hx hb d_M_cut_16 rfl hl rfl ?_
      refine q_al_n (i := 0) hx hb d_M_cut_17 rfl hl rfl ?_
      refine s_getr (C := R_M) (T := F_M) (N := 13) (ci := 7) hx hb hg in_M hown hK hM km rfl 2 (by decide) rfl (hg _ kw_457) (fun _ h9 => h9) d_M_cut_18 ?_
      rw [r0]
      refine q_iload_n (i := 2) hx hb d_M_cut_21 rfl hl rfl ?_
      refine lv_iconst (v := 1) hx hb d_M_cut_22 (by decide) ?_
      refine lv_iadd hx hb d_M_cut_23 ?_
      rw [nI_1]
      refine s_ild (t := 0) hx hb hK hM k0 rfl rfl (vp_in_nI hi2 (by omega)) d_M_cut_24 ?_
      rw [nI_clamp (by omega), hi.fr hi2]
      refine s_ist (t := 0) hx hb hK hM k0 rfl rfl (vp_in_nI hi1 (by omega)) d_M_cut_25 (fun H locs hM => ?_)
      rw [nI_clamp (by omega)] at hM
      have hj := Mi_n hw hi (i := 0) (Or.inl rfl) i (cutA nA k i 0 (i + 1))
      refine q_al_n (i := 0) hx hb d_M_cut_26 rfl hl rfl ?_
      refine s_getr (C := R_M) (T := F_M) (N := 13) (ci := 7) hx hb hg in_M hown hK hM km rfl 3 (by decide) rfl (hg _ kw_458) (fun _ h9 => h9) d_M_cut_27 ?_
      rw [r1]
      refine q_iload_n (i := 2) hx hb d_M_cut_30 rfl hl rfl ?_
      refine q_al_n (i := 0) hx hb d_M_cut_31 rfl hl rfl ?_
      refine s_getr (C := R_M) (T := F_M) (N := 13) (ci := 7) hx hb hg in_M hown hK hM km rfl 3 (by decide) rfl (hg _ kw_458) (fun _ h9 => h9) d_M_cut_32 ?_
      rw [r1]
      refine q_iload_n (i := 2) hx hb d_M_cut_35 rfl hl rfl ?_
      refine lv_iconst (v := 1) hx hb d_M_cut_36 (by decide) ?_
      refine lv_iadd hx hb d_M_cut_37 ?_
      rw [nI_1]
      refine s_ild (t := 0) hx hb hK hM k1 rfl rfl (vp_in_nI hi2 (by omega)) d_M_cut_38 ?_
      rw [nI_clamp (by omega), hj.to hi2]
      refine s_ist (t := 0) hx hb hK hM k1 rfl rfl (vp_in_nI hi1 (by omega)) d_M_cut_39 (fun H locs hM => ?_)
      rw [nI_clamp (by omega)] at hM
      have hj2 := Mi_n hw hj (i := 1) (Or.inr (Or.inl rfl)) i (up2 (cutA nA k i) 0 i (cutA nA k i 0 (i + 1)) 1 (i + 1))
      have q0 : cutA nA k i 0 (i + 1) = nA 0 (i + 1) := if_neg (by omega)
      have q1 : up2 (cutA nA k i) 0 i (cutA nA k i 0 (i + 1)) 1 (i + 1) = nA 1 (i + 1) := by
        rw [up2_off _ _ (by decide)]; exact if_neg (by omega)
      rw [q1, q0] at hj2
      rw [q1, q0] at hM
      rw [cutA_step hki] at hj2
      refine q_iinc hx hb (nI (i + 1)) d_M_cut_40 hl rfl (nI_1 i) (by decide) (fun ls hl => ?_)
      simp only [List.set_cons_succ, List.set_cons_zero] at hl
      refine lv_goto (tgt := 2) hx hb d_M_cut_43 (by decide) ?_
      refine ih (i + 1) _ H locs ls (by omega) (by omega) hM hl hj2 ?_
      rw [up2_off _ _ (fun z => hw.nm (by decide) z.symm), up2_off _ _ (fun z => hw.nm (by decide) z.symm)]; exact hz
set_option maxHeartbeats 4000000 in
set_option maxRecDepth 100000 in
theorem m_M_cut (l : Launch) (D : va_G) (dA : Nat → ClassId) (S : sS) (sz : Nat) (m0 : Nat) (ar cn : Nat → Nat) (nA : Nat → Nat → Nat) (fb : Nat → Nat → Bool) (k : Nat) (hw : Mw S.1 S.2.1 m0 ar) (hi : Mi S.2.2.1 m0 ar cn nA fb) (hL : cn 1 < 4096) (hk : k < cn 1) :
    cV l y_M_cut c_M_cut 3 (rmk 0 0 0) D dA S sz [.ref m0, .int (nI k)] (fun u => ∃ it', u = (S.1, S.2.1, it', S.2.2.2) ∧ Mi it' m0 ar (va_up cn 1 (cn 1 - 1)) (cutA nA k (cn 1 - 1)) fb ∧ it' m0 0 = S.2.2.1 m0 0) (0) (0) := by
  obtain ⟨kd, rf, it, lg⟩ := S
  obtain ⟨km, ⟨r0, r1, r2, r3, r4, r5, r6, r7⟩, ⟨k0, k1, k2, k3, k4, k5, k6, k7⟩, hdis⟩ := id hw
  dsimp only at km r0 r1 r2 r3 r4 r5 r6 r7 k0 k1 k2 k3 k4 k5 k6 k7 hi hw
  refine s_met (cc := c_M_cut) (maxL := 3) (by decide) rfl (by simp [Value.category]) (by simp [lg_sl, Value.category]) ?_
  intro p e s m args below meth c ls hx hb hr hts hown hlocks hin hml hK hX hsz hM hl
  have hg := gd_hts hts
  have hl : lc ls 3 [some (va_rf (some m0)), some (.int (nI k)), none] := hl
  refine q_iload_n (i := 1) hx hb d_M_cut_0 rfl hl rfl ?_
  refine q_istore_n (i := 2) hx hb d_M_cut_1 rfl hl (by decide) (fun ls hl => ?_)
  simp only [List.set_cons_succ, List.set_cons_zero] at hl
  refine cu_loop hx hb hml hown hg hK hX hw hL (k := k) (nA := nA) (fb := fb) (z0 := it m0 0) ?_ (cn 1 - 1 - k) k it s.heap [] ls (by omega) (Nat.le_refl _) hM hl (by rw [cutA_self]; exact hi) rfl
  intro it2 H locs ls o hM hl hi2 hz
  refine q_al_n (i := 0) hx hb d_M_cut_46 rfl hl rfl ?_
  refine lv_dup hx hb d_M_cut_47 rfl ?_
  refine s_geti (C := R_M) (T := F_M) (N := 13) (ci := 7) hx hb hg in_M hown hK hM km rfl 1 (by decide) rfl (hg _ kw_456) (fun _ h9 => h9) d_M_cut_48 ?_
  rw [hi2.L]
  have e1 : nI (cn 1) - 1 = nI (cn 1 - 1) := nI_sub (a := cn 1) (b := 1) (by omega)
  refine lv_iconst (v := 1) hx hb d_M_cut_51 (by decide) ?_
  refine lv_isub hx hb d_M_cut_52 ?_
  rw [e1]
  refine s_puti (C := R_M) (T := F_M) (N := 13) (ci := 7) hx hb hg in_M ft_M ft_M_ok fn_M hown hK hM km rfl 1 (by decide) rfl (hg _ kw_456) (fun _ h9 => h9) rfl rfl rfl d_M_cut_53 (fun H locs hM => ?_)
  refine s_vret hx hb hr hM ⟨_, rfl, Mi_c hw hi2 1 (cn 1 - 1), ?_⟩ d_M_cut_56 hlocks
  rw [up2_ne _ _ (by decide)]; exact hz
end
